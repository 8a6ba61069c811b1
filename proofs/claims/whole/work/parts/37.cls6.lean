/-! ChordSpreads: the score -/
/-- what it costs; its spreads -/
abbrev gc_C (I : Nat → Nat → Int) (P : Nat) : Option Nat := gs_cost P (gc_B I) (I 20) (I 19 2) (I 19 1).toNat (I 19 3) (I 19 0).toNat
abbrev gc_k (I : Nat → Nat → Int) (P L c : Nat) : Nat := (gs_K P (gc_B I) (I 20) (I 19 2) (I 19 1).toNat (I 19 3) (I 19 0).toNat L c).1
theorem gs_cost_lt {P : Nat} {B : Nat → Nat → Int} {N : Nat → Int} {rest : Int} {set : Nat} {bal : Int} {S L : Nat} (h : gs_cost P B N rest set bal S = some L) : L < 2000 := by
  unfold gs_cost at h
  split at h
  · cases h; omega
  · exact List.mem_range.mp (List.mem_of_find?_eq_some h)
section GC
variable {I : Nat → Nat → Int} {F : Nat → Nat → Option Nat} {P n : Nat} {pp : Nat → Nat}
theorem gc_sol_ca {I I' : Nat → Nat → Int} (h : gc_same I I') (hs : gc_sol I' P) : match gc_C I P with
    | none => I' 12 2 = gs_NEVER
    | some L => I' 12 2 = (L : Int) ∧ gq_cho I' (gc_k I P L) (I 19 0).toNat := by
  unfold gc_sol at hs
  rw [gc_same_B h, gc_same_e h (show 19 ≠ 0 by omega) (by omega) (by omega), gc_same_e h (show 20 ≠ 0 by omega) (by omega) (by omega)] at hs
  exact hs
theorem c_isThereAScore (d : Nat) (hK : gc_K F pp) (hD : gc_D I P n pp) : gw_Met jX4_isThereAScore (d + 7) [.inr (some 0)] (114, I, F) (gw_io F (fun r I' => r = (if (gc_C I P).isSome then 1 else 0) ∧ gc_same I I' ∧ gc_D I' P n pp ∧ gc_sol I' P)) := by
  obtain ⟨k0, k1, k2, k3, k4, k6, k7, k8, k9, k70, k71, kx, kq, kp, kj, ki⟩ := id hK
  obtain ⟨b, w', -, pa, im, he, so⟩ := id hD
  have w1 := w'.1.1
  have w2 := w'.1.2.1
  generalize hQ : gw_io F (fun r I' => r = (if (gc_C I P).isSome then 1 else 0) ∧ gc_same I I' ∧ gc_D I' P n pp ∧ gc_sol I' P) = Q
  have hNv : gs_NEVER = 67108864 := rfl
  have go : ∀ I1 : Nat → Nat → Int, gc_same I I1 → I1 0 11 = 1 → gc_sol I1 P → gw_G (gw_Cm jX4_isThereAScore (d + 7) Q) jX4_isThereAScore 26 [some (.inr (some 0))] [] (114, I1, F) 0 0 := by
    intro I1 hs h1 hsol
    have hD1 : gc_D I1 P n pp := gc_D_same hK hD hs ⟨Or.inr h1, fun _ => hsol⟩
    have hc := gc_sol_ca hs hsol
    cases hC : gc_C I P with
    | none =>
      rw [hC] at hc
      refine gr_aload_n dX4_isThereAScore_26 rfl ?_
      refine gr_getR dX4_isThereAScore_27 fX4_19 (by first | assumption | rfl) (by omega) (by decide) rfl (by assumption) ?_
      refine gr_getI dX4_isThereAScore_30 fX4_163 (by first | assumption | rfl) (by omega) (by decide) rfl ?_
      refine gr_ldc dX4_isThereAScore_33 nX4_214 ?_
      rw [show I1 12 2 = gs_NEVER from hc]
      refine gr_icmp_ge 42 dX4_isThereAScore_35 (by decide) (by unfold gw_in; omega) (by unfold gw_in; omega) (fun h28 => ?_) (fun h28 => ?_)
      · refine gr_iconst dX4_isThereAScore_42 ?_
        refine gr_iret dX4_isThereAScore_43 (by first | exact Or.inl rfl | exact Or.inr ⟨rfl, by omega⟩) (by decide) (by decide) ((hQ ▸ ⟨_, _, rfl, rfl, by rw [hC]; rfl, hs, hD1, hsol⟩))
      · omega
    | some L =>
      rw [hC] at hc
      have hL := gs_cost_lt hC
      refine gr_aload_n dX4_isThereAScore_26 rfl ?_
      refine gr_getR dX4_isThereAScore_27 fX4_19 (by first | assumption | rfl) (by omega) (by decide) rfl (by assumption) ?_
      refine gr_getI dX4_isThereAScore_30 fX4_163 (by first | assumption | rfl) (by omega) (by decide) rfl ?_
      refine gr_ldc dX4_isThereAScore_33 nX4_214 ?_
      rw [hc.1]
      refine gr_icmp_ge 42 dX4_isThereAScore_35 (by decide) (by unfold gw_in; omega) (by unfold gw_in; omega) (fun h28 => ?_) (fun h28 => ?_)
      · omega
      · refine gr_iconst dX4_isThereAScore_38 ?_
        refine gr_goto 43 dX4_isThereAScore_39 (by decide) ?_
        refine gr_iret dX4_isThereAScore_43 (by first | exact Or.inl rfl | exact Or.inr ⟨rfl, by omega⟩) (by decide) (by decide) ((hQ ▸ ⟨_, _, rfl, rfl, by rw [hC]; rfl, hs, hD1, hsol⟩))
  obtain ⟨m, hm⟩ : ∃ m : Nat, I 19 1 = (m : Int) := ⟨(I 19 1).toNat, by omega⟩
  obtain ⟨S, hS⟩ : ∃ S : Nat, I 19 0 = (S : Int) := ⟨(I 19 0).toNat, by omega⟩
  have so1 := so.1
  refine gw_enter okX4_isThereAScore rfl (Nat.le_of_ble_eq_true rfl) ?_
  refine gr_aload_n dX4_isThereAScore_0 rfl ?_
  refine gr_getI dX4_isThereAScore_1 fX4_62 (by first | assumption | rfl) (by omega) (by decide) rfl ?_
  refine gr_if_ne 26 dX4_isThereAScore_4 (by decide) (by unfold gw_in; omega) (fun h4 => ?_) (fun h4 => ?_)
  · have h11 : I 0 11 = 1 := by omega
    exact go I gc_same_rf h11 (so.2 h11)
  · refine gr_aload_n dX4_isThereAScore_7 rfl ?_
    refine gr_getR dX4_isThereAScore_8 fX4_19 (by first | assumption | rfl) (by omega) (by decide) rfl (by assumption) ?_
    refine gr_virt dX4_isThereAScore_11 kX4_208 (as := []) rfl rfl (by first | assumption | rfl) (by omega) (Nat.le_of_ble_eq_true rfl) (gw_Rm_m (by omega) (by decide) (by decide)) (c_findCosts (set := m) (P := P) (S := S) (d + 1) kq (gc_M hD) (by omega) b.1 hS hm) ?_
    rintro _ _ ⟨rfl, I0, rfl, hI0, hI0c⟩
    refine gr_aload_n dX4_isThereAScore_14 rfl ?_
    refine gr_getR dX4_isThereAScore_15 fX4_19 (by first | assumption | rfl) (by omega) (by decide) rfl (by assumption) ?_
    refine gr_virt dX4_isThereAScore_18 kX4_211 (as := []) rfl rfl (by first | assumption | rfl) (by omega) (Nat.le_of_ble_eq_true rfl) (gw_Rm_m (by omega) (by decide) (by decide)) (c_chooseFirst (I := I) (set := m) (P := P) (S := S) (d + 0) kq (gc_M hD) (by omega) b.1 hS hm hI0 hI0c) ?_
    rintro _ _ ⟨rfl, I1, rfl, hI1, hsol⟩
    refine gr_aload_n dX4_isThereAScore_21 rfl ?_
    refine gr_iconst dX4_isThereAScore_22 ?_
    refine gr_putI dX4_isThereAScore_23 fX4_62 (by first | assumption | rfl) (by omega) (Or.inr ⟨rfl, (by omega)⟩) rfl ?_
    have hs : gc_same I (gw_U I1 0 11 1) := fun a i h1 h2 h3 => by rw [gw_U_n h3]; exact hI1 a i (by omega) h2
    refine go _ hs gw_U_s (gc_sol_q (I := I) (fun a h1 h2 => gc_same_e hs (by omega) (by omega) (by omega)) ?_)
    rw [hm, hS, Int.toNat_natCast, Int.toNat_natCast]
    unfold gq_sol at hsol ⊢
    rw [gw_U_n (by omega), gw_U_r (show 69 ≠ 0 by omega)]
    exact hsol
def ga_score (P : Nat) (B : Nat → Nat → Int) (N : Nat → Int) (rest : Int) (set : Nat) (bal : Int) (S : Nat) (x : Int) : Int := if 0 ≤ x ∧ x ≤ 2 then (match gs_cost P B N rest set bal S with
  | none => -9
  | some L => if x = 0 then (L : Int) else if x = 1 then ((gs_sm (fun c => gs_nz (gs_K P B N rest set bal S L c).1) S : Nat) : Int) else ((gs_sm (fun c => gs_db (gs_K P B N rest set bal S L c).1) S : Nat) : Int)) else -1
theorem c_score {x : Int} (d : Nat) (hK : gc_K F pp) (hD : gc_D I P n pp) (hx : gw_in x) : gw_Met jX4_score (d + 8) [.inr (some 0), .inl x] (114, I, F) (gw_io F (fun r I' => r = ga_score P (gc_B I) (I 20) (I 19 2) (I 19 1).toNat (I 19 3) (I 19 0).toNat x ∧ gc_same I I' ∧ gc_D I' P n pp)) := by
  obtain ⟨k0, k1, k2, k3, k4, k6, k7, k8, k9, k70, k71, kx, kq, kp, kj, ki⟩ := id hK
  have w1 := hD.2.1.1.1
  generalize hQ : gw_io F (fun r I' => r = ga_score P (gc_B I) (I 20) (I 19 2) (I 19 1).toNat (I 19 3) (I 19 0).toNat x ∧ gc_same I I' ∧ gc_D I' P n pp) = Q
  refine gw_enter okX4_score rfl (Nat.le_of_ble_eq_true rfl) ?_
  refine gr_iload_n dX4_score_0 rfl ?_
  refine gr_iconst dX4_score_1 ?_
  refine gr_iconst dX4_score_2 ?_
  refine gr_stat dX4_score_3 kX4_143 (as := [_, _, _]) rfl rfl (Nat.le_of_ble_eq_true rfl) (gw_Rm_m (by omega) (by decide) (by decide)) (c_isWithin (d + 7) hx (by unfold gw_in; omega) (by unfold gw_in; omega)) ?_
  rintro _ _ ⟨rfl, rfl⟩
  by_cases h1 : 0 ≤ x ∧ x ≤ 2
  · rw [if_pos h1]
    refine gr_if_ne 11 dX4_score_6 (by decide) (by unfold gw_in; omega) (fun h6 => ?_) (fun h6 => ?_)
    · refine gr_aload_n dX4_score_11 rfl ?_
      refine gr_virt dX4_score_12 kX4_159 (as := []) rfl rfl (by first | assumption | rfl) (by omega) (Nat.le_of_ble_eq_true rfl) (gw_Rm_m (by omega) (by decide) (by decide)) (c_isThereAScore (d + 0) hK hD) ?_
      rintro _ _ ⟨_, I1, rfl, rfl, rfl, hs, hD1, hsol⟩
      have hc := gc_sol_ca hs hsol
      cases hC : gc_C I P with
      | none =>
        have hC' : gs_cost P (gc_B I) (I 20) (I 19 2) (I 19 1).toNat (I 19 3) (I 19 0).toNat = none := hC
        rw [if_neg (by simp)]
        refine gr_if_ne 21 dX4_score_15 (by decide) (by unfold gw_in; omega) (fun h15 => ?_) (fun h15 => ?_)
        · omega
        · refine gr_bipush dX4_score_18 (by decide) ?_
          refine gr_iret dX4_score_20 (by first | exact Or.inl rfl | exact Or.inr ⟨rfl, by omega⟩) (by decide) (by decide) ((hQ ▸ ⟨_, _, rfl, rfl, by unfold ga_score; rw [if_pos h1, hC'], hs, hD1⟩))
      | some L =>
        have hC' : gs_cost P (gc_B I) (I 20) (I 19 2) (I 19 1).toNat (I 19 3) (I 19 0).toNat = some L := hC
        rw [hC] at hc
        obtain ⟨hc1, hc2⟩ := hc
        have e19 : I1 19 = I 19 := gc_same_e hs (by omega) (by omega) (by omega)
        rw [if_pos (by simp)]
        refine gr_if_ne 21 dX4_score_15 (by decide) (by unfold gw_in; omega) (fun h15 => ?_) (fun h15 => ?_)
        · refine gr_iload_n dX4_score_21 rfl ?_
          unfold ga_score at hQ
          rw [if_pos h1, hC'] at hQ
          dsimp only at hQ
          by_cases c0 : x = 0
          · subst c0
            refine gr_lookup 48 dX4_score_22 (by decide) hx (off := 26) rfl (by decide) ?_
            refine gr_aload_n dX4_score_48 rfl ?_
            refine gr_getR dX4_score_49 fX4_19 (by first | assumption | rfl) (by omega) (by decide) rfl (by assumption) ?_
            refine gr_getI dX4_score_52 fX4_163 (by first | assumption | rfl) (by omega) (by decide) rfl ?_
            rw [hc1]
            refine gr_iret dX4_score_55 (by first | exact Or.inl rfl | exact Or.inr ⟨rfl, by omega⟩) (by decide) (by decide) ((hQ ▸ ⟨_, _, rfl, rfl, by rw [if_pos rfl], hs, hD1⟩))
          · by_cases c1 : x = 1
            · subst c1
              refine gr_lookup 56 dX4_score_22 (by decide) hx (off := 34) rfl (by decide) ?_
              refine gr_aload_n dX4_score_56 rfl ?_
              refine gr_getR dX4_score_57 fX4_19 (by first | assumption | rfl) (by omega) (by decide) rfl (by assumption) ?_
              refine gr_virt dX4_score_60 kX4_166 (as := []) rfl rfl (by first | assumption | rfl) (by omega) (Nat.le_of_ble_eq_true rfl) (gw_Rm_m (by omega) (by decide) (by decide)) (c_handsThatPlay (K := gc_k I P L) (S := (I 19 0).toNat) (d + 0) kq (by rw [e19]; omega) (by omega) hc2) ?_
              rintro _ _ ⟨rfl, rfl⟩
              refine gr_iret dX4_score_63 (by first | exact Or.inl rfl | exact Or.inr ⟨rfl, by omega⟩) (by decide) (by decide) ((hQ ▸ ⟨_, _, rfl, rfl, by rw [if_neg c0, if_pos rfl], hs, hD1⟩))
            · have c2 : x = 2 := by omega
              subst c2
              refine gr_lookup 64 dX4_score_22 (by decide) hx (off := 42) rfl (by decide) ?_
              refine gr_aload_n dX4_score_64 rfl ?_
              refine gr_getR dX4_score_65 fX4_19 (by first | assumption | rfl) (by omega) (by decide) rfl (by assumption) ?_
              refine gr_virt dX4_score_68 kX4_169 (as := []) rfl rfl (by first | assumption | rfl) (by omega) (Nat.le_of_ble_eq_true rfl) (gw_Rm_m (by omega) (by decide) (by decide)) (c_doubledNotes (K := gc_k I P L) (S := (I 19 0).toNat) (d + 0) kq (by rw [e19]; omega) (by omega) hc2) ?_
              rintro _ _ ⟨rfl, rfl⟩
              refine gr_iret dX4_score_71 (by first | exact Or.inl rfl | exact Or.inr ⟨rfl, by omega⟩) (by decide) (by decide) ((hQ ▸ ⟨_, _, rfl, rfl, by rw [if_neg c0, if_neg c1], hs, hD1⟩))
        · omega
    · omega
  · rw [if_neg h1]
    refine gr_if_ne 11 dX4_score_6 (by decide) (by unfold gw_in; omega) (fun h6 => ?_) (fun h6 => ?_)
    · omega
    · refine gr_iconst dX4_score_9 ?_
      refine gr_iret dX4_score_10 (by first | exact Or.inl rfl | exact Or.inr ⟨rfl, by omega⟩) (by decide) (by decide) ((hQ ▸ ⟨_, _, rfl, rfl, by unfold ga_score; rw [if_neg h1], gc_same_rf, hD⟩))
def ga_hand (P : Nat) (B : Nat → Nat → Int) (N : Nat → Int) (rest : Int) (set : Nat) (bal : Int) (S : Nat) (c p : Int) : Int := if (0 ≤ c ∧ c < (S : Int)) ∧ 0 ≤ p ∧ p < (P : Int) then (match gs_cost P B N rest set bal S with
  | none => -9
  | some L => ((gs_hd (gs_K P B N rest set bal S L c.toNat).1 p.toNat : Nat) : Int)) else -1
theorem c_hand {x y : Int} (d : Nat) (hK : gc_K F pp) (hD : gc_D I P n pp) (hx : gw_in x) (hy : gw_in y) : gw_Met jX4_hand (d + 8) [.inr (some 0), .inl x, .inl y] (114, I, F) (gw_io F (fun r I' => r = ga_hand P (gc_B I) (I 20) (I 19 2) (I 19 1).toNat (I 19 3) (I 19 0).toNat x y ∧ gc_same I I' ∧ gc_D I' P n pp)) := by
  obtain ⟨k0, k1, k2, k3, k4, k6, k7, k8, k9, k70, k71, kx, kq, kp, kj, ki⟩ := id hK
  obtain ⟨b, w', -, pa, im, he, so⟩ := id hD
  have hb4 := b.2.2.2.1
  have w1 := w'.1.1
  obtain ⟨S, hS⟩ : ∃ S : Nat, I 19 0 = (S : Int) := ⟨(I 19 0).toNat, by omega⟩
  generalize hQ : gw_io F (fun r I' => r = ga_hand P (gc_B I) (I 20) (I 19 2) (I 19 1).toNat (I 19 3) (I 19 0).toNat x y ∧ gc_same I I' ∧ gc_D I' P n pp) = Q
  have bad : ¬ ((0 ≤ x ∧ x < (S : Int)) ∧ 0 ≤ y ∧ y < (P : Int)) → gw_G (gw_Cm jX4_hand (d + 8) Q) jX4_hand 16 [some (.inr (some 0)), some (.inl x), some (.inl y)] [] (114, I, F) 0 0 := by
    intro hb
    refine gr_iconst dX4_hand_16 ?_
    refine gr_iret dX4_hand_17 (by first | exact Or.inl rfl | exact Or.inr ⟨rfl, by omega⟩) (by decide) (by decide) ((hQ ▸ ⟨_, _, rfl, rfl, by unfold ga_hand; rw [hS, Int.toNat_natCast, if_neg hb], gc_same_rf, hD⟩))
  refine gw_enter okX4_hand rfl (Nat.le_of_ble_eq_true rfl) ?_
  refine gr_aload_n dX4_hand_0 rfl ?_
  refine gr_iload_n dX4_hand_1 rfl ?_
  refine gr_virt dX4_hand_2 kX4_111 (as := [_]) rfl rfl (by first | assumption | rfl) (by omega) (Nat.le_of_ble_eq_true rfl) (gw_Rm_m (by omega) (by decide) (by decide)) (c_isChord (d + 7) hK w1 hx) ?_
  rintro _ _ ⟨rfl, rfl⟩
  by_cases h1 : 0 ≤ x ∧ x < I 19 0
  · rw [if_pos h1]
    refine gr_if_eq 16 dX4_hand_5 (by decide) (by unfold gw_in; omega) (fun h5 => ?_) (fun h5 => ?_)
    · omega
    · refine gr_aload_n dX4_hand_8 rfl ?_
      refine gr_iload_n dX4_hand_9 rfl ?_
      refine gr_virt dX4_hand_10 kX4_89 (as := [_]) rfl rfl (by first | assumption | rfl) (by omega) (Nat.le_of_ble_eq_true rfl) (gw_Rm_m (by omega) (by decide) (by decide)) (c_isPlayer (d + 7) hK b.1 hb4 hy) ?_
      rintro _ _ ⟨rfl, rfl⟩
      by_cases h2 : 0 ≤ y ∧ y < (P : Int)
      · rw [if_pos h2]
        refine gr_if_ne 18 dX4_hand_13 (by decide) (by unfold gw_in; omega) (fun h13 => ?_) (fun h13 => ?_)
        · obtain ⟨c, rfl⟩ : ∃ c : Nat, x = (c : Int) := ⟨x.toNat, by omega⟩
          obtain ⟨p, rfl⟩ : ∃ p : Nat, y = (p : Int) := ⟨y.toNat, by omega⟩
          refine gr_aload_n dX4_hand_18 rfl ?_
          refine gr_virt dX4_hand_19 kX4_159 (as := []) rfl rfl (by first | assumption | rfl) (by omega) (Nat.le_of_ble_eq_true rfl) (gw_Rm_m (by omega) (by decide) (by decide)) (c_isThereAScore (d + 0) hK hD) ?_
          rintro _ _ ⟨_, I1, rfl, rfl, rfl, hs, hD1, hsol⟩
          have hc := gc_sol_ca hs hsol
          unfold ga_hand at hQ
          rw [if_pos ⟨by omega, h2⟩] at hQ
          cases hC : gc_C I P with
          | none =>
            have hC' : gs_cost P (gc_B I) (I 20) (I 19 2) (I 19 1).toNat (I 19 3) (I 19 0).toNat = none := hC
            rw [hC'] at hQ
            rw [if_neg (by simp)]
            refine gr_if_eq 37 dX4_hand_22 (by decide) (by unfold gw_in; omega) (fun h22 => ?_) (fun h22 => ?_)
            · refine gr_bipush dX4_hand_37 (by decide) ?_
              refine gr_iret dX4_hand_39 (by first | exact Or.inl rfl | exact Or.inr ⟨rfl, by omega⟩) (by decide) (by decide) ((hQ ▸ ⟨_, _, rfl, rfl, rfl, hs, hD1⟩))
            · omega
          | some L =>
            have hC' : gs_cost P (gc_B I) (I 20) (I 19 2) (I 19 1).toNat (I 19 3) (I 19 0).toNat = some L := hC
            rw [hC] at hc
            rw [hC'] at hQ
            obtain ⟨hc1, hc2⟩ := hc
            rw [if_pos (by simp)]
            refine gr_if_eq 37 dX4_hand_22 (by decide) (by unfold gw_in; omega) (fun h22 => ?_) (fun h22 => ?_)
            · omega
            · refine gr_aload_n dX4_hand_25 rfl ?_
              refine gr_getR dX4_hand_26 fX4_19 (by first | assumption | rfl) (by omega) (by decide) rfl (by assumption) ?_
              refine gr_iload_n dX4_hand_29 rfl ?_
              refine gr_iload_n dX4_hand_30 rfl ?_
              refine gr_virt dX4_hand_31 kX4_172 (as := [_, _]) rfl rfl (by first | assumption | rfl) (by omega) (Nat.le_of_ble_eq_true rfl) (gw_Rm_m (by omega) (by decide) (by decide)) (c_handIn (c := c) (p := p) (d + 0) kq (by omega) (by omega)) ?_
              rintro _ _ ⟨rfl, rfl⟩
              rw [hc2 c (by omega) p (by omega)]
              refine gr_goto 39 dX4_hand_34 (by decide) ?_
              refine gr_iret dX4_hand_39 (by first | exact Or.inl rfl | exact Or.inr ⟨rfl, by omega⟩) (by decide) (by decide) ((hQ ▸ ⟨_, _, rfl, rfl, rfl, hs, hD1⟩))
        · omega
      · rw [if_neg h2]
        refine gr_if_ne 18 dX4_hand_13 (by decide) (by unfold gw_in; omega) (fun h13 => ?_) (fun h13 => ?_)
        · omega
        · exact bad (fun h => h2 h.2)
  · rw [if_neg h1]
    refine gr_if_eq 16 dX4_hand_5 (by decide) (by unfold gw_in; omega) (fun h5 => ?_) (fun h5 => ?_)
    · exact bad (fun h => h1 (by omega))
    · omega
def ga_loud (P : Nat) (B : Nat → Nat → Int) (N : Nat → Int) (rest : Int) (set : Nat) (bal : Int) (S : Nat) (c i : Int) : Int := if (0 ≤ c ∧ c < (S : Int)) ∧ 0 ≤ i ∧ i < (gp_cnt N c.toNat : Int) then (match gs_cost P B N rest set bal S with
  | none => -9
  | some L => gs_lw B (gs_K P B N rest set bal S L c.toNat).1 i.toNat 4 4) else -1
theorem c_loud {x y : Int} (d : Nat) (hK : gc_K F pp) (hD : gc_D I P n pp) (hx : gw_in x) (hy : gw_in y) : gw_Met jX4_loud (d + 8) [.inr (some 0), .inl x, .inl y] (114, I, F) (gw_io F (fun r I' => r = ga_loud P (gc_B I) (I 20) (I 19 2) (I 19 1).toNat (I 19 3) (I 19 0).toNat x y ∧ gc_same I I' ∧ gc_D I' P n pp)) := by
  obtain ⟨k0, k1, k2, k3, k4, k6, k7, k8, k9, k70, k71, kx, kq, kp, kj, ki⟩ := id hK
  obtain ⟨-, -, -, -, -, -, -, -, -, -, -, -, -, kb13, hq19⟩ := id kq
  obtain ⟨b, w', -, pa, im, he, so⟩ := id hD
  have hb4 := b.2.2.2.1
  have w1 := w'.1.1
  have hy' := hy
  unfold gw_in at hy'
  obtain ⟨S, hS⟩ : ∃ S : Nat, I 19 0 = (S : Int) := ⟨(I 19 0).toNat, by omega⟩
  generalize hQ : gw_io F (fun r I' => r = ga_loud P (gc_B I) (I 20) (I 19 2) (I 19 1).toNat (I 19 3) (I 19 0).toNat x y ∧ gc_same I I' ∧ gc_D I' P n pp) = Q
  have bad : ¬ ((0 ≤ x ∧ x < (S : Int)) ∧ 0 ≤ y ∧ y < (gp_cnt (I 20) x.toNat : Int)) → gw_G (gw_Cm jX4_loud (d + 8) Q) jX4_loud 24 [some (.inr (some 0)), some (.inl x), some (.inl y)] [] (114, I, F) 0 0 := by
    intro hb
    refine gr_iconst dX4_loud_24 ?_
    refine gr_iret dX4_loud_25 (by first | exact Or.inl rfl | exact Or.inr ⟨rfl, by omega⟩) (by decide) (by decide) ((hQ ▸ ⟨_, _, rfl, rfl, by unfold ga_loud; rw [hS, Int.toNat_natCast, if_neg hb], gc_same_rf, hD⟩))
  refine gw_enter okX4_loud rfl (Nat.le_of_ble_eq_true rfl) ?_
  refine gr_aload_n dX4_loud_0 rfl ?_
  refine gr_iload_n dX4_loud_1 rfl ?_
  refine gr_virt dX4_loud_2 kX4_111 (as := [_]) rfl rfl (by first | assumption | rfl) (by omega) (Nat.le_of_ble_eq_true rfl) (gw_Rm_m (by omega) (by decide) (by decide)) (c_isChord (d + 7) hK w1 hx) ?_
  rintro _ _ ⟨rfl, rfl⟩
  by_cases h1 : 0 ≤ x ∧ x < I 19 0
  · rw [if_pos h1]
    refine gr_if_eq 24 dX4_loud_5 (by decide) (by unfold gw_in; omega) (fun h5 => ?_) (fun h5 => ?_)
    · omega
    · refine gr_iload_n dX4_loud_8 rfl ?_
      refine gr_if_lt 24 dX4_loud_9 (by decide) (by unfold gw_in; omega) (fun h9 => ?_) (fun h9 => ?_)
      · exact bad (by omega)
      · obtain ⟨c, rfl⟩ : ∃ c : Nat, x = (c : Int) := ⟨x.toNat, by omega⟩
        have hcnt := gp_cnt_le (I 20) c
        refine gr_iload_n dX4_loud_12 rfl ?_
        refine gr_aload_n dX4_loud_13 rfl ?_
        refine gr_getR dX4_loud_14 fX4_32 (by first | assumption | rfl) (by omega) (by decide) rfl (by assumption) ?_
        refine gr_iload_n dX4_loud_17 rfl ?_
        refine gr_virt dX4_loud_18 kX4_114 (as := [_]) rfl rfl (by first | assumption | rfl) (by omega) (Nat.le_of_ble_eq_true rfl) (gw_Rm_m (by omega) (by decide) (by decide)) (c_notesOf (c := c) (k := 19) (d + 6) hq19 (by omega) w'.2) ?_
        rintro _ _ ⟨rfl, rfl⟩
        rw [show I (19 + 1) = I 20 from rfl]
        refine gr_icmp_lt 26 dX4_loud_21 (by decide) (by unfold gw_in; omega) (by unfold gw_in; omega) (fun h21 => ?_) (fun h21 => ?_)
        · obtain ⟨i, rfl⟩ : ∃ i : Nat, y = (i : Int) := ⟨y.toNat, by omega⟩
          refine gr_aload_n dX4_loud_26 rfl ?_
          refine gr_virt dX4_loud_27 kX4_159 (as := []) rfl rfl (by first | assumption | rfl) (by omega) (Nat.le_of_ble_eq_true rfl) (gw_Rm_m (by omega) (by decide) (by decide)) (c_isThereAScore (d + 0) hK hD) ?_
          rintro _ _ ⟨_, I1, rfl, rfl, rfl, hs, hD1, hsol⟩
          have hc := gc_sol_ca hs hsol
          unfold ga_loud at hQ
          rw [if_pos ⟨by omega, by omega, by rw [Int.toNat_natCast]; exact h21⟩] at hQ
          cases hC : gc_C I P with
          | none =>
            have hC' : gs_cost P (gc_B I) (I 20) (I 19 2) (I 19 1).toNat (I 19 3) (I 19 0).toNat = none := hC
            rw [hC'] at hQ
            rw [if_neg (by simp)]
            refine gr_if_eq 46 dX4_loud_30 (by decide) (by unfold gw_in; omega) (fun h30 => ?_) (fun h30 => ?_)
            · refine gr_bipush dX4_loud_46 (by decide) ?_
              refine gr_iret dX4_loud_48 (by first | exact Or.inl rfl | exact Or.inr ⟨rfl, by omega⟩) (by decide) (by decide) ((hQ ▸ ⟨_, _, rfl, rfl, rfl, hs, hD1⟩))
            · omega
          | some L =>
            have hC' : gs_cost P (gc_B I) (I 20) (I 19 2) (I 19 1).toNat (I 19 3) (I 19 0).toNat = some L := hC
            rw [hC] at hc
            rw [hC'] at hQ
            obtain ⟨hc1, hc2⟩ := hc
            rw [if_pos (by simp)]
            refine gr_if_eq 46 dX4_loud_30 (by decide) (by unfold gw_in; omega) (fun h30 => ?_) (fun h30 => ?_)
            · omega
            · refine gr_aload_n dX4_loud_33 rfl ?_
              refine gr_getR dX4_loud_34 fX4_19 (by first | assumption | rfl) (by omega) (by decide) rfl (by assumption) ?_
              refine gr_iload_n dX4_loud_37 rfl ?_
              refine gr_iload_n dX4_loud_38 rfl ?_
              refine gr_iconst dX4_loud_39 ?_
              refine gr_virt dX4_loud_40 kX4_175 (as := [_, _, _]) rfl rfl (by first | assumption | rfl) (by omega) (Nat.le_of_ble_eq_true rfl) (gw_Rm_m (by omega) (by decide) (by decide)) (c_loudWithout (c := c) (i := i) (w := 4) (K := gc_k I P L) (S := (I 19 0).toNat) (d + 0) kq hD1.1.2.1 (by omega) hc2 (by omega) (by omega) (by omega)) ?_
              rintro _ _ ⟨rfl, rfl⟩
              have eB : ∀ r, r ≤ 5 → gq_B I1 r = gc_B I r := gc_Bq fun a _ _ => gc_same_e hs (by omega) (by omega) (by omega)
              rw [gs_Bc_lw eB]
              refine gr_goto 48 dX4_loud_43 (by decide) ?_
              refine gr_iret dX4_loud_48 (by first | exact Or.inl rfl | exact Or.inr ⟨rfl, by omega⟩) (by decide) (by decide) ((hQ ▸ ⟨_, _, rfl, rfl, rfl, hs, hD1⟩))
        · exact bad (fun h => by have := h.2.2; rw [Int.toNat_natCast] at this; omega)
  · rw [if_neg h1]
    refine gr_if_eq 24 dX4_loud_5 (by decide) (by unfold gw_in; omega) (fun h5 => ?_) (fun h5 => ?_)
    · exact bad (fun h => h1 (by omega))
    · omega
/-- bits one by one -/
def gs_bt (q : Nat → Bool) : Nat → Nat
  | 0 => 0
  | p + 1 => gs_bt q p + (if q p = true then 2 ^ p else 0)
theorem gs_bt_lt (q : Nat → Bool) : ∀ p, gs_bt q p < 2 ^ p
  | 0 => by simp [gs_bt]
  | p + 1 => by
    have := gs_bt_lt q p
    simp only [gs_bt, Nat.pow_succ]
    split <;> omega
theorem gs_bt_or (q : Nat → Bool) (p : Nat) (hp : p < 4) : Int32.ofInt ((gs_bt q p : Nat) : Int) ||| Int32.ofInt ((2 ^ p : Nat) : Int) = Int32.ofInt ((gs_bt q p + 2 ^ p : Nat) : Int) := by
  rw [ga_orN]
  have h := gs_bt_lt q p
  have := Nat.two_pow_add_eq_or_of_lt h 1
  rw [Nat.mul_one] at this
  rw [Nat.or_comm, ← this, Nat.add_comm]
theorem ga_p1 {p : Nat} (hp : p < 4) : Int32.ofInt 1 <<< (Int32.ofInt (p : Int) &&& 31) = Int32.ofInt ((2 ^ p : Nat) : Int) := by
  have h := ga_shlN (a := 1) (y := p) (by omega) (by rcases (show p = 0 ∨ p = 1 ∨ p = 2 ∨ p = 3 by omega) with h | h | h | h <;> rw [h] <;> decide)
  rw [Nat.one_mul] at h
  exact h
def gs_rq (B : Nat → Nat → Int) (n : Nat) (bal : Int) (k p : Nat) : Bool := gs_hd k p ≠ 0 ∧ gs_gp (fun i => gs_lw B k i p 4) n ≤ bal
def ga_rest (P : Nat) (B : Nat → Nat → Int) (N : Nat → Int) (rest : Int) (set : Nat) (bal : Int) (S : Nat) (c : Int) : Int := if 0 ≤ c ∧ c < (S : Int) then (match gs_cost P B N rest set bal S with
  | none => -9
  | some L => ((gs_bt (gs_rq B (gp_cnt N c.toNat) bal (gs_K P B N rest set bal S L c.toNat).1) P : Nat) : Int)) else -1
theorem c_couldRest {x : Int} (d : Nat) (hK : gc_K F pp) (hD : gc_D I P n pp) (hx : gw_in x) : gw_Met jX4_couldRest (d + 8) [.inr (some 0), .inl x] (114, I, F) (gw_io F (fun r I' => r = ga_rest P (gc_B I) (I 20) (I 19 2) (I 19 1).toNat (I 19 3) (I 19 0).toNat x ∧ gc_same I I' ∧ gc_D I' P n pp)) := by
  obtain ⟨k0, k1, k2, k3, k4, k6, k7, k8, k9, k70, k71, kx, kq, kp, kj, ki⟩ := id hK
  obtain ⟨b, w', -, pa, im, he, so⟩ := id hD
  have hb4 := b.2.2.2.1
  have w1 := w'.1.1
  obtain ⟨S, hS⟩ : ∃ S : Nat, I 19 0 = (S : Int) := ⟨(I 19 0).toNat, by omega⟩
  generalize hQ : gw_io F (fun r I' => r = ga_rest P (gc_B I) (I 20) (I 19 2) (I 19 1).toNat (I 19 3) (I 19 0).toNat x ∧ gc_same I I' ∧ gc_D I' P n pp) = Q
  refine gw_enter okX4_couldRest rfl (Nat.le_of_ble_eq_true rfl) ?_
  refine gr_aload_n dX4_couldRest_0 rfl ?_
  refine gr_iload_n dX4_couldRest_1 rfl ?_
  refine gr_virt dX4_couldRest_2 kX4_111 (as := [_]) rfl rfl (by first | assumption | rfl) (by omega) (Nat.le_of_ble_eq_true rfl) (gw_Rm_m (by omega) (by decide) (by decide)) (c_isChord (d + 7) hK w1 hx) ?_
  rintro _ _ ⟨rfl, rfl⟩
  by_cases h1 : 0 ≤ x ∧ x < I 19 0
  · rw [if_pos h1]
    refine gr_if_ne 10 dX4_couldRest_5 (by decide) (by unfold gw_in; omega) (fun h5 => ?_) (fun h5 => ?_)
    · obtain ⟨c, rfl⟩ : ∃ c : Nat, x = (c : Int) := ⟨x.toNat, by omega⟩
      refine gr_aload_n dX4_couldRest_10 rfl ?_
      refine gr_virt dX4_couldRest_11 kX4_159 (as := []) rfl rfl (by first | assumption | rfl) (by omega) (Nat.le_of_ble_eq_true rfl) (gw_Rm_m (by omega) (by decide) (by decide)) (c_isThereAScore (d + 0) hK hD) ?_
      rintro _ _ ⟨_, I1, rfl, rfl, rfl, hs, hD1, hsol⟩
      have hc := gc_sol_ca hs hsol
      unfold ga_rest at hQ
      rw [if_pos (by omega)] at hQ
      cases hC : gc_C I P with
      | none =>
        have hC' : gs_cost P (gc_B I) (I 20) (I 19 2) (I 19 1).toNat (I 19 3) (I 19 0).toNat = none := hC
        rw [hC'] at hQ
        rw [if_neg (by simp)]
        refine gr_if_ne 20 dX4_couldRest_14 (by decide) (by unfold gw_in; omega) (fun h14 => ?_) (fun h14 => ?_)
        · omega
        · refine gr_bipush dX4_couldRest_17 (by decide) ?_
          refine gr_iret dX4_couldRest_19 (by first | exact Or.inl rfl | exact Or.inr ⟨rfl, by omega⟩) (by decide) (by decide) ((hQ ▸ ⟨_, _, rfl, rfl, rfl, hs, hD1⟩))
      | some L =>
        have hC' : gs_cost P (gc_B I) (I 20) (I 19 2) (I 19 1).toNat (I 19 3) (I 19 0).toNat = some L := hC
        rw [hC] at hc
        rw [hC'] at hQ
        obtain ⟨hc1, hc2⟩ := hc
        rw [if_pos (by simp)]
        dsimp only at hQ
        rw [Int.toNat_natCast] at hQ
        have e13 : I1 13 0 = (P : Int) := hD1.1.1
        have eB : ∀ r, r ≤ 5 → gq_B I1 r = gc_B I r := gc_Bq fun a _ _ => gc_same_e hs (by omega) (by omega) (by omega)
        have e20 : I1 20 = I 20 := gc_same_e hs (by omega) (by omega) (by omega)
        have e19 : I1 19 = I 19 := gc_same_e hs (by omega) (by omega) (by omega)
        generalize hq : gs_rq (gc_B I) (gp_cnt (I 20) c) (I 19 3) (gc_k I P L c) = q at hQ
        refine gr_if_ne 20 dX4_couldRest_14 (by decide) (by unfold gw_in; omega) (fun h14 => ?_) (fun h14 => ?_)
        · refine gr_iconst dX4_couldRest_20 ?_
          refine gr_istore_n dX4_couldRest_21 (by decide) ?_
          refine gr_iconst dX4_couldRest_22 ?_
          refine gr_istore_n dX4_couldRest_23 (by decide) ?_
          have key : ∀ (m p : Nat), p + m = P → gw_G (gw_Cm jX4_couldRest (d + 8) Q) jX4_couldRest 24 [some (.inr (some 0)), some (.inl (c : Int)), some (.inl ((gs_bt q p : Nat) : Int)), some (.inl (p : Int))] [] (114, I1, F) 0 0 := by
            intro m
            induction m with
            | zero =>
              intro p hp
              refine gr_iload_n dX4_couldRest_24 rfl ?_
              refine gr_aload_n dX4_couldRest_25 rfl ?_
              refine gr_getR dX4_couldRest_26 fX4_27 (by first | assumption | rfl) (by omega) (by decide) rfl (by assumption) ?_
              refine gr_getI dX4_couldRest_29 fX4_179 (by first | assumption | rfl) (by omega) (by decide) rfl ?_
              rw [e13]
              refine gr_icmp_ge 71 dX4_couldRest_32 (by decide) (by unfold gw_in; omega) (by unfold gw_in; omega) (fun h32 => ?_) (fun h32 => ?_)
              · refine gr_iload_n dX4_couldRest_71 rfl ?_
                refine gr_iret dX4_couldRest_72 (by first | exact Or.inl rfl | exact Or.inr ⟨rfl, by omega⟩) (by decide) (by decide) ((hQ ▸ ⟨_, _, rfl, rfl, by rw [show p = P by omega], hs, hD1⟩))
              · omega
            | succ m ih =>
              intro p hp
              have hl := gs_hd_lt (gc_k I P L c) p
              have nxt := ih (p + 1) (by omega)
              simp only [gs_bt] at nxt
              have skip : q p = false → gw_G (gw_Cm jX4_couldRest (d + 8) Q) jX4_couldRest 65 [some (.inr (some 0)), some (.inl (c : Int)), some (.inl ((gs_bt q p : Nat) : Int)), some (.inl (p : Int))] [] (114, I1, F) 0 0 := by
                intro hf
                rw [hf, if_neg (by simp), Nat.add_zero] at nxt
                refine gr_iinc (v := ((p + 1 : Nat) : Int)) dX4_couldRest_65 (by decide) rfl (by omega) ?_
                refine gr_goto 24 dX4_couldRest_68 (by decide) ?_
                exact nxt
              refine gr_iload_n dX4_couldRest_24 rfl ?_
              refine gr_aload_n dX4_couldRest_25 rfl ?_
              refine gr_getR dX4_couldRest_26 fX4_27 (by first | assumption | rfl) (by omega) (by decide) rfl (by assumption) ?_
              refine gr_getI dX4_couldRest_29 fX4_179 (by first | assumption | rfl) (by omega) (by decide) rfl ?_
              rw [e13]
              refine gr_icmp_ge 71 dX4_couldRest_32 (by decide) (by unfold gw_in; omega) (by unfold gw_in; omega) (fun h32 => ?_) (fun h32 => ?_)
              · omega
              · refine gr_aload_n dX4_couldRest_35 rfl ?_
                refine gr_getR dX4_couldRest_36 fX4_19 (by first | assumption | rfl) (by omega) (by decide) rfl (by assumption) ?_
                refine gr_iload_n dX4_couldRest_39 rfl ?_
                refine gr_iload_n dX4_couldRest_40 rfl ?_
                refine gr_virt dX4_couldRest_41 kX4_172 (as := [_, _]) rfl rfl (by first | assumption | rfl) (by omega) (Nat.le_of_ble_eq_true rfl) (gw_Rm_m (by omega) (by decide) (by decide)) (c_handIn (c := c) (p := p) (d + 7) kq (by omega) (by omega)) ?_
                rintro _ _ ⟨rfl, rfl⟩
                rw [hc2 c (by omega) p (by omega)]
                refine gr_if_eq 65 dX4_couldRest_44 (by decide) (by unfold gw_in; omega) (fun h44 => ?_) (fun h44 => ?_)
                · exact skip (by rw [← hq]; unfold gs_rq; simp only [decide_eq_false_iff_not]; omega)
                · refine gr_aload_n dX4_couldRest_47 rfl ?_
                  refine gr_getR dX4_couldRest_48 fX4_19 (by first | assumption | rfl) (by omega) (by decide) rfl (by assumption) ?_
                  refine gr_iload_n dX4_couldRest_51 rfl ?_
                  refine gr_iload_n dX4_couldRest_52 rfl ?_
                  refine gr_virt dX4_couldRest_53 kX4_180 (as := [_, _]) rfl rfl (by first | assumption | rfl) (by omega) (Nat.le_of_ble_eq_true rfl) (gw_Rm_m (by omega) (by decide) (by decide)) (c_isEvenWithout (c := c) (w := p) (K := gc_k I P L) (S := (I 19 0).toNat) (d + 4) kq (gc_M hD1) (by omega) hc2 (by omega) (by omega)) ?_
                  rintro _ _ ⟨rfl, rfl⟩
                  rw [show (fun i => gs_lw (gq_B I1) (gc_k I P L c) i p 4) = (fun i => gs_lw (gc_B I) (gc_k I P L c) i p 4) from funext fun i => gs_Bc_lw eB _ _ _ _, e20, e19]
                  by_cases hg : gs_gp (fun i => gs_lw (gc_B I) (gc_k I P L c) i p 4) (gp_cnt (I 20) c) ≤ I 19 3
                  · rw [if_pos hg]
                    refine gr_if_eq 65 dX4_couldRest_56 (by decide) (by unfold gw_in; omega) (fun h56 => ?_) (fun h56 => ?_)
                    · omega
                    · have ht : q p = true := by rw [← hq]; unfold gs_rq; simp only [decide_eq_true_eq]; exact ⟨by omega, hg⟩
                      rw [ht, if_pos rfl] at nxt
                      refine gr_iload_n dX4_couldRest_59 rfl ?_
                      refine gr_iconst dX4_couldRest_60 ?_
                      refine gr_iload_n dX4_couldRest_61 rfl ?_
                      refine gr_ishl (v := ((2 ^ p : Nat) : Int)) dX4_couldRest_62 (ga_p1 (by omega)) ?_
                      refine gr_ior (v := ((gs_bt q p + 2 ^ p : Nat) : Int)) dX4_couldRest_63 (gs_bt_or q p (by omega)) ?_
                      refine gr_istore_n dX4_couldRest_64 (by decide) ?_
                      refine gr_iinc (v := ((p + 1 : Nat) : Int)) dX4_couldRest_65 (by decide) rfl (by omega) ?_
                      refine gr_goto 24 dX4_couldRest_68 (by decide) ?_
                      exact nxt
                  · rw [if_neg hg]
                    refine gr_if_eq 65 dX4_couldRest_56 (by decide) (by unfold gw_in; omega) (fun h56 => ?_) (fun h56 => ?_)
                    · exact skip (by rw [← hq]; unfold gs_rq; simp only [decide_eq_false_iff_not]; exact fun h => hg h.2)
                    · omega
          exact key P 0 (by omega)
        · omega
    · omega
  · rw [if_neg h1]
    refine gr_if_ne 10 dX4_couldRest_5 (by decide) (by unfold gw_in; omega) (fun h5 => ?_) (fun h5 => ?_)
    · omega
    · refine gr_iconst dX4_couldRest_8 ?_
      refine gr_iret dX4_couldRest_9 (by first | exact Or.inl rfl | exact Or.inr ⟨rfl, by omega⟩) (by decide) (by decide) ((hQ ▸ ⟨_, _, rfl, rfl, by unfold ga_rest; rw [hS, Int.toNat_natCast, if_neg (by omega)], gc_same_rf, hD⟩))
def ga_move (P : Nat) (B : Nat → Nat → Int) (N : Nat → Int) (rest : Int) (set : Nat) (bal : Int) (S : Nat) (c p : Int) : Int := if (0 ≤ c ∧ c + 1 < (S : Int)) ∧ 0 ≤ p ∧ p < (P : Int) then (match gs_cost P B N rest set bal S with
  | none => -9
  | some L => gs_way B N rest p.toNat c.toNat (gs_hd (gs_K P B N rest set bal S L c.toNat).1 p.toNat) (c.toNat + 1) (gs_hd (gs_K P B N rest set bal S L (c.toNat + 1)).1 p.toNat)) else -1
theorem c_move {x y : Int} (d : Nat) (hK : gc_K F pp) (hD : gc_D I P n pp) (hx : gw_in x) (hy : gw_in y) : gw_Met jX4_move (d + 8) [.inr (some 0), .inl x, .inl y] (114, I, F) (gw_io F (fun r I' => r = ga_move P (gc_B I) (I 20) (I 19 2) (I 19 1).toNat (I 19 3) (I 19 0).toNat x y ∧ gc_same I I' ∧ gc_D I' P n pp)) := by
  obtain ⟨k0, k1, k2, k3, k4, k6, k7, k8, k9, k70, k71, kx, kq, kp, kj, ki⟩ := id hK
  obtain ⟨b, w', -, pa, im, he, so⟩ := id hD
  have hb4 := b.2.2.2.1
  have w1 := w'.1.1
  obtain ⟨S, hS⟩ : ∃ S : Nat, I 19 0 = (S : Int) := ⟨(I 19 0).toNat, by omega⟩
  generalize hQ : gw_io F (fun r I' => r = ga_move P (gc_B I) (I 20) (I 19 2) (I 19 1).toNat (I 19 3) (I 19 0).toNat x y ∧ gc_same I I' ∧ gc_D I' P n pp) = Q
  have bad : ¬ ((0 ≤ x ∧ x + 1 < (S : Int)) ∧ 0 ≤ y ∧ y < (P : Int)) → gw_G (gw_Cm jX4_move (d + 8) Q) jX4_move 29 [some (.inr (some 0)), some (.inl x), some (.inl y)] [] (114, I, F) 0 0 := by
    intro hb
    refine gr_iconst dX4_move_29 ?_
    refine gr_iret dX4_move_30 (by first | exact Or.inl rfl | exact Or.inr ⟨rfl, by omega⟩) (by decide) (by decide) ((hQ ▸ ⟨_, _, rfl, rfl, by unfold ga_move; rw [hS, Int.toNat_natCast, if_neg hb], gc_same_rf, hD⟩))
  refine gw_enter okX4_move rfl (Nat.le_of_ble_eq_true rfl) ?_
  refine gr_aload_n dX4_move_0 rfl ?_
  refine gr_iload_n dX4_move_1 rfl ?_
  refine gr_virt dX4_move_2 kX4_111 (as := [_]) rfl rfl (by first | assumption | rfl) (by omega) (Nat.le_of_ble_eq_true rfl) (gw_Rm_m (by omega) (by decide) (by decide)) (c_isChord (d + 7) hK w1 hx) ?_
  rintro _ _ ⟨rfl, rfl⟩
  by_cases h1 : 0 ≤ x ∧ x < I 19 0
  · rw [if_pos h1]
    refine gr_if_eq 29 dX4_move_5 (by decide) (by unfold gw_in; omega) (fun h5 => ?_) (fun h5 => ?_)
    · omega
    · refine gr_iload_n dX4_move_8 rfl ?_
      refine gr_aload_n dX4_move_9 rfl ?_
      refine gr_getR dX4_move_10 fX4_32 (by first | assumption | rfl) (by omega) (by decide) rfl (by assumption) ?_
      refine gr_getI dX4_move_13 fX4_122 (by first | assumption | rfl) (by omega) (by decide) rfl ?_
      rw [hS]
      refine gr_iconst dX4_move_16 ?_
      refine gr_isub dX4_move_17 rfl ?_
      refine gr_icmp_eq 29 dX4_move_18 (by decide) (by unfold gw_in; omega) (by unfold gw_in; omega) (fun h18 => ?_) (fun h18 => ?_)
      · exact bad (by omega)
      · refine gr_aload_n dX4_move_21 rfl ?_
        refine gr_iload_n dX4_move_22 rfl ?_
        refine gr_virt dX4_move_23 kX4_89 (as := [_]) rfl rfl (by first | assumption | rfl) (by omega) (Nat.le_of_ble_eq_true rfl) (gw_Rm_m (by omega) (by decide) (by decide)) (c_isPlayer (d + 7) hK b.1 hb4 hy) ?_
        rintro _ _ ⟨rfl, rfl⟩
        by_cases h2 : 0 ≤ y ∧ y < (P : Int)
        · rw [if_pos h2]
          refine gr_if_ne 31 dX4_move_26 (by decide) (by unfold gw_in; omega) (fun h26 => ?_) (fun h26 => ?_)
          · obtain ⟨c, rfl⟩ : ∃ c : Nat, x = (c : Int) := ⟨x.toNat, by omega⟩
            obtain ⟨p, rfl⟩ : ∃ p : Nat, y = (p : Int) := ⟨y.toNat, by omega⟩
            refine gr_aload_n dX4_move_31 rfl ?_
            refine gr_virt dX4_move_32 kX4_159 (as := []) rfl rfl (by first | assumption | rfl) (by omega) (Nat.le_of_ble_eq_true rfl) (gw_Rm_m (by omega) (by decide) (by decide)) (c_isThereAScore (d + 0) hK hD) ?_
            rintro _ _ ⟨_, I1, rfl, rfl, rfl, hs, hD1, hsol⟩
            have hc := gc_sol_ca hs hsol
            unfold ga_move at hQ
            rw [if_pos ⟨by omega, h2⟩] at hQ
            cases hC : gc_C I P with
            | none =>
              have hC' : gs_cost P (gc_B I) (I 20) (I 19 2) (I 19 1).toNat (I 19 3) (I 19 0).toNat = none := hC
              rw [hC'] at hQ
              rw [if_neg (by simp)]
              refine gr_if_ne 41 dX4_move_35 (by decide) (by unfold gw_in; omega) (fun h35 => ?_) (fun h35 => ?_)
              · omega
              · refine gr_bipush dX4_move_38 (by decide) ?_
                refine gr_iret dX4_move_40 (by first | exact Or.inl rfl | exact Or.inr ⟨rfl, by omega⟩) (by decide) (by decide) ((hQ ▸ ⟨_, _, rfl, rfl, rfl, hs, hD1⟩))
            | some L =>
              have hC' : gs_cost P (gc_B I) (I 20) (I 19 2) (I 19 1).toNat (I 19 3) (I 19 0).toNat = some L := hC
              rw [hC] at hc
              rw [hC'] at hQ
              obtain ⟨hc1, hc2⟩ := hc
              dsimp only at hQ
              rw [Int.toNat_natCast, Int.toNat_natCast] at hQ
              have eB : ∀ r, r ≤ 5 → gq_B I1 r = gc_B I r := gc_Bq fun a _ _ => gc_same_e hs (by omega) (by omega) (by omega)
              have e20 : I1 20 = I 20 := gc_same_e hs (by omega) (by omega) (by omega)
              have e19 : I1 19 = I 19 := gc_same_e hs (by omega) (by omega) (by omega)
              rw [if_pos (by simp)]
              refine gr_if_ne 41 dX4_move_35 (by decide) (by unfold gw_in; omega) (fun h35 => ?_) (fun h35 => ?_)
              · refine gr_aload_n dX4_move_41 rfl ?_
                refine gr_getR dX4_move_42 fX4_19 (by first | assumption | rfl) (by omega) (by decide) rfl (by assumption) ?_
                refine gr_iload_n dX4_move_45 rfl ?_
                refine gr_iload_n dX4_move_46 rfl ?_
                refine gr_aload_n dX4_move_47 rfl ?_
                refine gr_getR dX4_move_48 fX4_19 (by first | assumption | rfl) (by omega) (by decide) rfl (by assumption) ?_
                refine gr_iload_n dX4_move_51 rfl ?_
                refine gr_iload_n dX4_move_52 rfl ?_
                refine gr_virt dX4_move_53 kX4_172 (as := [_, _]) rfl rfl (by first | assumption | rfl) (by omega) (Nat.le_of_ble_eq_true rfl) (gw_Rm_m (by omega) (by decide) (by decide)) (c_handIn (c := c) (p := p) (d + 7) kq (by omega) (by omega)) ?_
                rintro _ _ ⟨rfl, rfl⟩
                rw [hc2 c (by omega) p (by omega)]
                refine gr_iload_n dX4_move_56 rfl ?_
                refine gr_iconst dX4_move_57 ?_
                refine gr_iadd (v := ((c + 1 : Nat) : Int)) dX4_move_58 (by omega) ?_
                refine gr_aload_n dX4_move_59 rfl ?_
                refine gr_getR dX4_move_60 fX4_19 (by first | assumption | rfl) (by omega) (by decide) rfl (by assumption) ?_
                refine gr_iload_n dX4_move_63 rfl ?_
                refine gr_iconst dX4_move_64 ?_
                refine gr_iadd (v := ((c + 1 : Nat) : Int)) dX4_move_65 (by omega) ?_
                refine gr_iload_n dX4_move_66 rfl ?_
                refine gr_virt dX4_move_67 kX4_172 (as := [_, _]) rfl rfl (by first | assumption | rfl) (by omega) (Nat.le_of_ble_eq_true rfl) (gw_Rm_m (by omega) (by decide) (by decide)) (c_handIn (c := c + 1) (p := p) (d + 7) kq (by omega) (by omega)) ?_
                rintro _ _ ⟨rfl, rfl⟩
                rw [hc2 (c + 1) (by omega) p (by omega)]
                refine gr_virt dX4_move_70 kX4_184 (as := [_, _, _, _, _]) rfl rfl (by first | assumption | rfl) (by omega) (Nat.le_of_ble_eq_true rfl) (gw_Rm_m (by omega) (by decide) (by decide)) (c_way (p := p) (c := c) (c' := c + 1) (h := gs_hd (gc_k I P L c) p) (h' := gs_hd (gc_k I P L (c + 1)) p) (d + 0) (gq_K_Kr kq) (gc_M hD1) (by omega) (by omega) (by omega) (gs_hd_lt _ _) (gs_hd_lt _ _)) ?_
                rintro _ _ ⟨rfl, rfl⟩
                rw [gs_Bc_way eB, e20, e19]
                refine gr_iret dX4_move_73 (by first | exact Or.inl rfl | exact Or.inr ⟨rfl, by omega⟩) (by decide) (by decide) ((hQ ▸ ⟨_, _, rfl, rfl, rfl, hs, hD1⟩))
              · omega
          · omega
        · rw [if_neg h2]
          refine gr_if_ne 31 dX4_move_26 (by decide) (by unfold gw_in; omega) (fun h26 => ?_) (fun h26 => ?_)
          · omega
          · exact bad (fun h => h2 h.2)
  · rw [if_neg h1]
    refine gr_if_eq 29 dX4_move_5 (by decide) (by unfold gw_in; omega) (fun h5 => ?_) (fun h5 => ?_)
    · exact bad (fun h => h1 (by omega))
    · omega
end GC
