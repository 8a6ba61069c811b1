/-! ChordSpreads: reach, fewest, bear, ill -/
/-- how far on from k -/
def gs_up (f : Nat → Bool) : Nat → Nat → Nat
  | 0, k => k
  | m + 1, k => if f (k + 1) = true then gs_up f m (k + 1) else k
/-- the first set of m players from s on; the first of all from m on -/
def gs_fi (f : Nat → Bool) (m : Nat) : Nat → Nat → Option Nat
  | 0, _ => none
  | k + 1, s => if gb_pc s = m ∧ f s = true then some s else gs_fi f m k (s + 1)
def gs_fo (f : Nat → Bool) (T : Nat) : Nat → Nat → Option Nat
  | 0, _ => none
  | k + 1, m => match gs_fi f m T 0 with
    | some s => some s
    | none => gs_fo f T k (m + 1)
def ga_reach (P : Nat) (B : Nat → Nat → Int) (N : Nat → Int) (rest : Int) (set : Nat) (bal : Int) (S : Nat) : Int := ((gs_up (gs_fea P B N rest set bal) S 0 : Nat) : Int)
def ga_bear (P : Nat) (B : Nat → Nat → Int) (N : Nat → Int) (rest : Int) (set : Nat) (S : Nat) : Int := match (List.range 31).find? (fun b : Nat => gs_fea P B N rest set (b : Int) S) with
  | none => -9
  | some b => (b : Int)
def ga_few (P : Nat) (B : Nat → Nat → Int) (N : Nat → Int) (rest : Int) (bal : Int) (S : Nat) : Int := match gs_fo (fun set => gs_fea P B N rest set bal S) (2 ^ P) (P + 1) 0 with
  | none => -9
  | some s => (s : Int)
/-- what was heard fits a set of players -/
def gs_ht (P : Nat) (B : Nat → Nat → Int) (N : Nat → Int) (bal : Int) (S : Nat) (hc hi : Nat → Int) (set h : Nat) : Bool := hc h < (S : Int) → ((0 < ((gs_SP P B N set (hc h).toNat).filter (gs_ev B (gp_cnt N (hc h).toNat) bal)).length) ↔ hi h = 1)
def gs_fit (P : Nat) (B : Nat → Nat → Int) (N : Nat → Int) (bal : Int) (S : Nat) (hc hi : Nat → Int) (set : Nat) : Nat → Bool
  | 0 => true
  | h + 1 => gs_fit P B N bal S hc hi set h && gs_ht P B N bal S hc hi set h
def ga_ill (P : Nat) (B : Nat → Nat → Int) (N : Nat → Int) (set : Nat) (bal : Int) (S : Nat) (hc hi : Nat → Int) (H : Nat) : Int := ((gs_bt (fun p => decide (set / 2 ^ p % 2 = 1) && gs_fit P B N bal S hc hi (set - 2 ^ p) H) P : Nat) : Int)
section GC
variable {I : Nat → Nat → Int} {F : Nat → Nat → Option Nat} {P n : Nat} {pp : Nat → Nat}
theorem gc_need {I1 : Nat → Nat → Int} {set S : Nat} (h : gq_need I I1 P set S) : ∀ k, k ≤ S → (0 ≤ I1 68 k ∧ I1 68 k ≤ gs_NEVER) ∧ ∀ b : Int, 0 ≤ b → b < gs_NEVER → (I1 68 k ≤ b ↔ gs_fea P (gc_B I) (I 20) (I 19 2) set b k = true) := by
  intro k hk
  obtain ⟨h1, h2⟩ := h k hk
  refine ⟨h1, fun b hb hb2 => ?_⟩
  rw [h2 b hb, gs_Bc_fea (gc_Bq fun _ _ _ => rfl)]
  constructor
  · rintro (h | h)
    · omega
    · exact h
  · exact Or.inr
theorem c_reach (d : Nat) (hK : gc_K F pp) (hD : gc_D I P n pp) : gw_Met jX4_reach (d + 6) [.inr (some 0)] (114, I, F) (gw_io F (fun r I' => r = ga_reach P (gc_B I) (I 20) (I 19 2) (I 19 1).toNat (I 19 3) (I 19 0).toNat ∧ gc_same I I' ∧ gc_D I' P n pp)) := by
  obtain ⟨k0, k1, k2, k3, k4, k6, k7, k8, k9, k70, k71, kx, kq, kp, kj, ki⟩ := id hK
  obtain ⟨b, w', -, pa, im, he, so⟩ := id hD
  obtain ⟨w1, w2, w3, w4, w5⟩ := id w'.1
  obtain ⟨m, hm⟩ : ∃ m : Nat, I 19 1 = (m : Int) := ⟨(I 19 1).toNat, by omega⟩
  obtain ⟨S, hS⟩ : ∃ S : Nat, I 19 0 = (S : Int) := ⟨(I 19 0).toNat, by omega⟩
  have hNv : gs_NEVER = 67108864 := rfl
  rw [hm, hS, Int.toNat_natCast, Int.toNat_natCast]
  generalize hQ : gw_io F (fun r I' => r = ga_reach P (gc_B I) (I 20) (I 19 2) m (I 19 3) S ∧ gc_same I I' ∧ gc_D I' P n pp) = Q
  refine gw_enter okX4_reach rfl (Nat.le_of_ble_eq_true rfl) ?_
  refine gr_aload_n dX4_reach_0 rfl ?_
  refine gr_getR dX4_reach_1 fX4_19 (by first | assumption | rfl) (by omega) (by decide) rfl (by assumption) ?_
  refine gr_aload_n dX4_reach_4 rfl ?_
  refine gr_getR dX4_reach_5 fX4_32 (by first | assumption | rfl) (by omega) (by decide) rfl (by assumption) ?_
  refine gr_getI dX4_reach_8 fX4_105 (by first | assumption | rfl) (by omega) (by decide) rfl ?_
  rw [hm]
  refine gr_virt dX4_reach_11 kX4_188 (as := [_]) rfl rfl (by first | assumption | rfl) (by omega) (Nat.le_of_ble_eq_true rfl) (gw_Rm_m (by omega) (by decide) (by decide)) (c_measure (set := m) (P := P) (S := S) (d + 0) kq (gc_M hD) (gc_ne w'.1) (by omega) b.1 hS) ?_
  rintro _ _ ⟨rfl, I1, rfl, hI1, hnd⟩
  obtain ⟨s1, s2⟩ := gc_D_scr hK hD (fun a ha => hI1 a (by omega))
  have hnd := gc_need hnd
  have e19 : I1 19 = I 19 := hI1 19 (by omega)
  refine gr_iconst dX4_reach_14 ?_
  refine gr_istore_n dX4_reach_15 (by decide) ?_
  have key : ∀ (j k : Nat), k + j = S → ga_reach P (gc_B I) (I 20) (I 19 2) m (I 19 3) S = ((gs_up (gs_fea P (gc_B I) (I 20) (I 19 2) m (I 19 3)) j k : Nat) : Int) → gw_G (gw_Cm jX4_reach (d + 6) Q) jX4_reach 16 [some (.inr (some 0)), some (.inl (k : Int))] [] (114, I1, F) 0 0 := by
    intro j
    induction j with
    | zero =>
      intro k hk ha
      refine gr_iload_n dX4_reach_16 rfl ?_
      refine gr_aload_n dX4_reach_17 rfl ?_
      refine gr_getR dX4_reach_18 fX4_32 (by first | assumption | rfl) (by omega) (by decide) rfl (by assumption) ?_
      refine gr_getI dX4_reach_21 fX4_122 (by first | assumption | rfl) (by omega) (by decide) rfl ?_
      rw [e19, hS]
      refine gr_icmp_ge 53 dX4_reach_24 (by decide) (by unfold gw_in; omega) (by unfold gw_in; omega) (fun h24 => ?_) (fun h24 => ?_)
      · refine gr_iload_n dX4_reach_53 rfl ?_
        refine gr_iret dX4_reach_54 (by first | exact Or.inl rfl | exact Or.inr ⟨rfl, by omega⟩) (by decide) (by decide) ((hQ ▸ ⟨_, _, rfl, rfl, ha.symm, s1, s2⟩))
      · omega
    | succ j ih =>
      intro k hk ha
      have hk1 := hnd (k + 1) (by omega)
      have hk2 := hk1.2 (I 19 3) (by omega) (by omega)
      simp only [gs_up] at ha
      refine gr_iload_n dX4_reach_16 rfl ?_
      refine gr_aload_n dX4_reach_17 rfl ?_
      refine gr_getR dX4_reach_18 fX4_32 (by first | assumption | rfl) (by omega) (by decide) rfl (by assumption) ?_
      refine gr_getI dX4_reach_21 fX4_122 (by first | assumption | rfl) (by omega) (by decide) rfl ?_
      rw [e19, hS]
      refine gr_icmp_ge 53 dX4_reach_24 (by decide) (by unfold gw_in; omega) (by unfold gw_in; omega) (fun h24 => ?_) (fun h24 => ?_)
      · omega
      · refine gr_aload_n dX4_reach_27 rfl ?_
        refine gr_getR dX4_reach_28 fX4_19 (by first | assumption | rfl) (by omega) (by decide) rfl (by assumption) ?_
        refine gr_iload_n dX4_reach_31 rfl ?_
        refine gr_iconst dX4_reach_32 ?_
        refine gr_iadd (v := ((k + 1 : Nat) : Int)) dX4_reach_33 (by omega) ?_
        refine gr_virt dX4_reach_34 kX4_191 (as := [_]) rfl rfl (by first | assumption | rfl) (by omega) (Nat.le_of_ble_eq_true rfl) (gw_Rm_m (by omega) (by decide) (by decide)) (c_needed (k := k + 1) (S := S) (d + 5) kq (by rw [e19]; exact hS) (by omega) (by omega)) ?_
        rintro _ _ ⟨rfl, rfl⟩
        refine gr_aload_n dX4_reach_37 rfl ?_
        refine gr_getR dX4_reach_38 fX4_32 (by first | assumption | rfl) (by omega) (by decide) rfl (by assumption) ?_
        refine gr_getI dX4_reach_41 fX4_149 (by first | assumption | rfl) (by omega) (by decide) rfl ?_
        rw [e19]
        refine gr_icmp_gt 53 dX4_reach_44 (by decide) (by unfold gw_in; omega) (by unfold gw_in; omega) (fun h44 => ?_) (fun h44 => ?_)
        · rw [if_neg (fun h => by have := hk2.mpr h; omega)] at ha
          refine gr_iload_n dX4_reach_53 rfl ?_
          refine gr_iret dX4_reach_54 (by first | exact Or.inl rfl | exact Or.inr ⟨rfl, by omega⟩) (by decide) (by decide) ((hQ ▸ ⟨_, _, rfl, rfl, ha.symm, s1, s2⟩))
        · rw [if_pos (hk2.mp h44)] at ha
          refine gr_iinc (v := ((k + 1 : Nat) : Int)) dX4_reach_47 (by decide) rfl (by omega) ?_
          refine gr_goto 16 dX4_reach_50 (by decide) ?_
          exact ih (k + 1) (by omega) ha
  exact key S 0 (by omega) rfl
theorem c_bear (d : Nat) (hK : gc_K F pp) (hD : gc_D I P n pp) : gw_Met jX4_bear (d + 6) [.inr (some 0)] (114, I, F) (gw_io F (fun r I' => r = ga_bear P (gc_B I) (I 20) (I 19 2) (I 19 1).toNat (I 19 0).toNat ∧ gc_same I I' ∧ gc_D I' P n pp)) := by
  obtain ⟨k0, k1, k2, k3, k4, k6, k7, k8, k9, k70, k71, kx, kq, kp, kj, ki⟩ := id hK
  obtain ⟨b, w', -, pa, im, he, so⟩ := id hD
  obtain ⟨w1, w2, w3, w4, w5⟩ := id w'.1
  obtain ⟨m, hm⟩ : ∃ m : Nat, I 19 1 = (m : Int) := ⟨(I 19 1).toNat, by omega⟩
  obtain ⟨S, hS⟩ : ∃ S : Nat, I 19 0 = (S : Int) := ⟨(I 19 0).toNat, by omega⟩
  have hNv : gs_NEVER = 67108864 := rfl
  rw [hm, hS, Int.toNat_natCast, Int.toNat_natCast]
  generalize hQ : gw_io F (fun r I' => r = ga_bear P (gc_B I) (I 20) (I 19 2) m S ∧ gc_same I I' ∧ gc_D I' P n pp) = Q
  refine gw_enter okX4_bear rfl (Nat.le_of_ble_eq_true rfl) ?_
  refine gr_aload_n dX4_bear_0 rfl ?_
  refine gr_getR dX4_bear_1 fX4_19 (by first | assumption | rfl) (by omega) (by decide) rfl (by assumption) ?_
  refine gr_aload_n dX4_bear_4 rfl ?_
  refine gr_getR dX4_bear_5 fX4_32 (by first | assumption | rfl) (by omega) (by decide) rfl (by assumption) ?_
  refine gr_getI dX4_bear_8 fX4_105 (by first | assumption | rfl) (by omega) (by decide) rfl ?_
  rw [hm]
  refine gr_virt dX4_bear_11 kX4_188 (as := [_]) rfl rfl (by first | assumption | rfl) (by omega) (Nat.le_of_ble_eq_true rfl) (gw_Rm_m (by omega) (by decide) (by decide)) (c_measure (set := m) (P := P) (S := S) (d + 0) kq (gc_M hD) (gc_ne w'.1) (by omega) b.1 hS) ?_
  rintro _ _ ⟨rfl, I1, rfl, hI1, hnd⟩
  obtain ⟨s1, s2⟩ := gc_D_scr hK hD (fun a ha => hI1 a (by omega))
  have hnd := gc_need hnd S (Nat.le_refl _)
  have e19 : I1 19 = I 19 := hI1 19 (by omega)
  refine gr_aload_n dX4_bear_14 rfl ?_
  refine gr_getR dX4_bear_15 fX4_19 (by first | assumption | rfl) (by omega) (by decide) rfl (by assumption) ?_
  refine gr_aload_n dX4_bear_18 rfl ?_
  refine gr_getR dX4_bear_19 fX4_32 (by first | assumption | rfl) (by omega) (by decide) rfl (by assumption) ?_
  refine gr_getI dX4_bear_22 fX4_122 (by first | assumption | rfl) (by omega) (by decide) rfl ?_
  rw [e19, hS]
  refine gr_virt dX4_bear_25 kX4_191 (as := [_]) rfl rfl (by first | assumption | rfl) (by omega) (Nat.le_of_ble_eq_true rfl) (gw_Rm_m (by omega) (by decide) (by decide)) (c_needed (k := S) (S := S) (d + 5) kq (by rw [e19]; exact hS) (by omega) (by omega)) ?_
  rintro _ _ ⟨rfl, rfl⟩
  obtain ⟨v, hv⟩ : ∃ v : Nat, I1 68 S = (v : Int) := ⟨(I1 68 S).toNat, by omega⟩
  rw [hv]
  rw [hv] at hnd
  refine gr_istore_n dX4_bear_28 (by decide) ?_
  refine gr_iload_n dX4_bear_29 rfl ?_
  refine gr_bipush dX4_bear_30 (by decide) ?_
  refine gr_icmp_gt 39 dX4_bear_32 (by decide) (by unfold gw_in; omega) (by unfold gw_in; omega) (fun h32 => ?_) (fun h32 => ?_)
  · refine gr_bipush dX4_bear_39 (by decide) ?_
    refine gr_iret dX4_bear_41 (by first | exact Or.inl rfl | exact Or.inr ⟨rfl, by omega⟩) (by decide) (by decide) ?_
    rw [← hQ]
    refine ⟨_, _, rfl, rfl, ?_, s1, s2⟩
    unfold ga_bear
    rw [show (List.range 31).find? (fun b : Nat => gs_fea P (gc_B I) (I 20) (I 19 2) m (b : Int) S) = none from List.find?_eq_none.mpr (fun b hb hf => by have := (hnd.2 (b : Int) (by omega) (by have := List.mem_range.mp hb; omega)).mpr hf; have := List.mem_range.mp hb; omega)]
  · refine gr_iload_n dX4_bear_35 rfl ?_
    refine gr_goto 41 dX4_bear_36 (by decide) ?_
    refine gr_iret dX4_bear_41 (by first | exact Or.inl rfl | exact Or.inr ⟨rfl, by omega⟩) (by decide) (by decide) ?_
    rw [← hQ]
    refine ⟨_, _, rfl, rfl, ?_, s1, s2⟩
    unfold ga_bear
    have : (List.range 31).find? (fun b : Nat => gs_fea P (gc_B I) (I 20) (I 19 2) m (b : Int) S) = some v := by
      rw [List.find?_eq_some_iff_getElem]
      refine ⟨(hnd.2 (v : Int) (by omega) (by omega)).mp (Int.le_refl _), v, by rw [List.length_range]; omega, by rw [List.getElem_range], fun j hj => ?_⟩
      rw [List.getElem_range]
      cases hf : gs_fea P (gc_B I) (I 20) (I 19 2) m (j : Int) S with
      | false => rfl
      | true => have := (hnd.2 (j : Int) (by omega) (by omega)).mpr hf; omega
    rw [this]
theorem c_canPlayAll {set S : Nat} (d : Nat) (hK : gc_K F pp) (hD : gc_D I P n pp) (hset : set < 16) (hS : I 19 0 = (S : Int)) : gw_Met jX4_canPlayAll (d + 6) [.inr (some 0), .inl (set : Int)] (114, I, F) (gw_io F (fun r I' => r = (if gs_fea P (gc_B I) (I 20) (I 19 2) set (I 19 3) S = true then 1 else 0) ∧ gc_same I I' ∧ gc_D I' P n pp)) := by
  obtain ⟨k0, k1, k2, k3, k4, k6, k7, k8, k9, k70, k71, kx, kq, kp, kj, ki⟩ := id hK
  obtain ⟨b, w', -, pa, im, he, so⟩ := id hD
  obtain ⟨w1, w2, w3, w4, w5⟩ := id w'.1
  have hNv : gs_NEVER = 67108864 := rfl
  generalize hQ : gw_io F (fun r I' => r = (if gs_fea P (gc_B I) (I 20) (I 19 2) set (I 19 3) S = true then 1 else 0) ∧ gc_same I I' ∧ gc_D I' P n pp) = Q
  refine gw_enter okX4_canPlayAll rfl (Nat.le_of_ble_eq_true rfl) ?_
  refine gr_aload_n dX4_canPlayAll_0 rfl ?_
  refine gr_getR dX4_canPlayAll_1 fX4_19 (by first | assumption | rfl) (by omega) (by decide) rfl (by assumption) ?_
  refine gr_iload_n dX4_canPlayAll_4 rfl ?_
  refine gr_virt dX4_canPlayAll_5 kX4_188 (as := [_]) rfl rfl (by first | assumption | rfl) (by omega) (Nat.le_of_ble_eq_true rfl) (gw_Rm_m (by omega) (by decide) (by decide)) (c_measure (set := set) (P := P) (S := S) (d + 0) kq (gc_M hD) (gc_ne w'.1) (by omega) b.1 hS) ?_
  rintro _ _ ⟨rfl, I1, rfl, hI1, hnd⟩
  obtain ⟨s1, s2⟩ := gc_D_scr hK hD (fun a ha => hI1 a (by omega))
  have hnd := gc_need hnd S (Nat.le_refl _)
  have hn2 := hnd.2 (I 19 3) (by omega) (by omega)
  have e19 : I1 19 = I 19 := hI1 19 (by omega)
  refine gr_aload_n dX4_canPlayAll_8 rfl ?_
  refine gr_getR dX4_canPlayAll_9 fX4_19 (by first | assumption | rfl) (by omega) (by decide) rfl (by assumption) ?_
  refine gr_aload_n dX4_canPlayAll_12 rfl ?_
  refine gr_getR dX4_canPlayAll_13 fX4_32 (by first | assumption | rfl) (by omega) (by decide) rfl (by assumption) ?_
  refine gr_getI dX4_canPlayAll_16 fX4_122 (by first | assumption | rfl) (by omega) (by decide) rfl ?_
  rw [e19, hS]
  refine gr_virt dX4_canPlayAll_19 kX4_191 (as := [_]) rfl rfl (by first | assumption | rfl) (by omega) (Nat.le_of_ble_eq_true rfl) (gw_Rm_m (by omega) (by decide) (by decide)) (c_needed (k := S) (S := S) (d + 5) kq (by rw [e19]; exact hS) (by omega) (by omega)) ?_
  rintro _ _ ⟨rfl, rfl⟩
  refine gr_aload_n dX4_canPlayAll_22 rfl ?_
  refine gr_getR dX4_canPlayAll_23 fX4_32 (by first | assumption | rfl) (by omega) (by decide) rfl (by assumption) ?_
  refine gr_getI dX4_canPlayAll_26 fX4_149 (by first | assumption | rfl) (by omega) (by decide) rfl ?_
  rw [e19]
  refine gr_icmp_gt 36 dX4_canPlayAll_29 (by decide) (by unfold gw_in; omega) (by unfold gw_in; omega) (fun h29 => ?_) (fun h29 => ?_)
  · refine gr_iconst dX4_canPlayAll_36 ?_
    refine gr_iret dX4_canPlayAll_37 (by first | exact Or.inl rfl | exact Or.inr ⟨rfl, by omega⟩) (by decide) (by decide) ((hQ ▸ ⟨_, _, rfl, rfl, by rw [if_neg (fun h => by have := hn2.mpr h; omega)], s1, s2⟩))
  · refine gr_iconst dX4_canPlayAll_32 ?_
    refine gr_goto 37 dX4_canPlayAll_33 (by decide) ?_
    refine gr_iret dX4_canPlayAll_37 (by first | exact Or.inl rfl | exact Or.inr ⟨rfl, by omega⟩) (by decide) (by decide) ((hQ ▸ ⟨_, _, rfl, rfl, by rw [if_pos (hn2.mp h29)], s1, s2⟩))
theorem c_fewest (d : Nat) (hK : gc_K F pp) (hD : gc_D I P n pp) : gw_Met jX4_fewest (d + 7) [.inr (some 0)] (114, I, F) (gw_io F (fun r I' => r = ga_few P (gc_B I) (I 20) (I 19 2) (I 19 3) (I 19 0).toNat ∧ gc_same I I' ∧ gc_D I' P n pp)) := by
  obtain ⟨k0, k1, k2, k3, k4, k6, k7, k8, k9, k70, k71, kx, kq, kp, kj, ki⟩ := id hK
  obtain ⟨b, w', -, pa, im, he, so⟩ := id hD
  obtain ⟨w1, w2, w3, w4, w5⟩ := id w'.1
  have hb4 := b.2.2.2.1
  obtain ⟨S, hS⟩ : ∃ S : Nat, I 19 0 = (S : Int) := ⟨(I 19 0).toNat, by omega⟩
  rw [hS, Int.toNat_natCast]
  have h16 : 2 ^ P ≤ 16 := Nat.pow_le_pow_right (by omega) hb4
  have hsh : Int32.ofInt 1 <<< (Int32.ofInt (P : Int) &&& 31) = Int32.ofInt ((2 ^ P : Nat) : Int) := by
    have h := ga_shlN (a := 1) (y := P) (by omega) (by omega)
    rw [Nat.one_mul] at h
    exact h
  generalize hf : (fun set => gs_fea P (gc_B I) (I 20) (I 19 2) set (I 19 3) S) = f
  generalize hA : ga_few P (gc_B I) (I 20) (I 19 2) (I 19 3) S = A
  have hA1 : A = match gs_fo f (2 ^ P) (P + 1) 0 with
      | none => -9
      | some s => (s : Int) := by rw [← hA, ← hf]; rfl
  generalize hT : 2 ^ P = T at h16 hsh hA1
  generalize hQ : gw_io F (fun r I' => r = A ∧ gc_same I I' ∧ gc_D I' P n pp) = Q
  refine gw_enter okX4_fewest rfl (Nat.le_of_ble_eq_true rfl) ?_
  refine gr_iconst dX4_fewest_0 ?_
  refine gr_istore_n dX4_fewest_1 (by decide) ?_
  have outer : ∀ (j m : Nat) (x2 : Option gw_V) (I1 : Nat → Nat → Int), m + j = P + 1 → gc_same I I1 → gc_D I1 P n pp → (A = match gs_fo f T j m with
      | none => -9
      | some s => (s : Int)) → gw_G (gw_Cm jX4_fewest (d + 7) Q) jX4_fewest 2 [some (.inr (some 0)), some (.inl (m : Int)), x2] [] (114, I1, F) 0 0 := by
    intro j
    induction j with
    | zero =>
      intro m x2 I1 hm s1 s2 ha
      refine gr_iload_n dX4_fewest_2 rfl ?_
      refine gr_aload_n dX4_fewest_3 rfl ?_
      refine gr_getR dX4_fewest_4 fX4_27 (by first | assumption | rfl) (by omega) (by decide) rfl (by assumption) ?_
      refine gr_getI dX4_fewest_7 fX4_179 (by first | assumption | rfl) (by omega) (by decide) rfl ?_
      rw [s2.1.1]
      refine gr_icmp_gt 58 dX4_fewest_10 (by decide) (by unfold gw_in; omega) (by unfold gw_in; omega) (fun h10 => ?_) (fun h10 => ?_)
      · refine gr_bipush dX4_fewest_58 (by decide) ?_
        refine gr_iret dX4_fewest_60 (by first | exact Or.inl rfl | exact Or.inr ⟨rfl, by omega⟩) (by decide) (by decide) ((hQ ▸ ⟨_, _, rfl, rfl, ha.symm, s1, s2⟩))
      · omega
    | succ j ih =>
      intro m x2 I1 hm s1 s2 ha
      simp only [gs_fo] at ha
      refine gr_iload_n dX4_fewest_2 rfl ?_
      refine gr_aload_n dX4_fewest_3 rfl ?_
      refine gr_getR dX4_fewest_4 fX4_27 (by first | assumption | rfl) (by omega) (by decide) rfl (by assumption) ?_
      refine gr_getI dX4_fewest_7 fX4_179 (by first | assumption | rfl) (by omega) (by decide) rfl ?_
      rw [s2.1.1]
      refine gr_icmp_gt 58 dX4_fewest_10 (by decide) (by unfold gw_in; omega) (by unfold gw_in; omega) (fun h10 => ?_) (fun h10 => ?_)
      · omega
      · refine gr_iconst dX4_fewest_13 ?_
        refine gr_istore_n dX4_fewest_14 (by decide) ?_
        have inner : ∀ (i s : Nat) (I2 : Nat → Nat → Int), s + i = T → gc_same I I2 → gc_D I2 P n pp → (A = match (match gs_fi f m i s with
            | some s => some s
            | none => gs_fo f T j (m + 1)) with
            | none => -9
            | some s => (s : Int)) → gw_G (gw_Cm jX4_fewest (d + 7) Q) jX4_fewest 15 [some (.inr (some 0)), some (.inl (m : Int)), some (.inl (s : Int))] [] (114, I2, F) 0 0 := by
          intro i
          induction i with
          | zero =>
            intro s I2 hs t1 t2 ha
            refine gr_iload_n dX4_fewest_15 rfl ?_
            refine gr_iconst dX4_fewest_16 ?_
            refine gr_aload_n dX4_fewest_17 rfl ?_
            refine gr_getR dX4_fewest_18 fX4_27 (by first | assumption | rfl) (by omega) (by decide) rfl (by assumption) ?_
            refine gr_getI dX4_fewest_21 fX4_179 (by first | assumption | rfl) (by omega) (by decide) rfl ?_
            rw [t2.1.1]
            refine gr_ishl (v := ((T : Nat) : Int)) dX4_fewest_24 hsh ?_
            refine gr_icmp_ge 52 dX4_fewest_25 (by decide) (by unfold gw_in; omega) (by unfold gw_in; omega) (fun h25 => ?_) (fun h25 => ?_)
            · refine gr_iinc (v := ((m + 1 : Nat) : Int)) dX4_fewest_52 (by decide) rfl (by omega) ?_
              refine gr_goto 2 dX4_fewest_55 (by decide) ?_
              exact ih (m + 1) _ I2 (by omega) t1 t2 ha
            · omega
          | succ i ihi =>
            intro s I2 hs t1 t2 ha
            simp only [gs_fi] at ha
            have hpc : gb_pc s ≤ 4 := by unfold gb_pc; omega
            refine gr_iload_n dX4_fewest_15 rfl ?_
            refine gr_iconst dX4_fewest_16 ?_
            refine gr_aload_n dX4_fewest_17 rfl ?_
            refine gr_getR dX4_fewest_18 fX4_27 (by first | assumption | rfl) (by omega) (by decide) rfl (by assumption) ?_
            refine gr_getI dX4_fewest_21 fX4_179 (by first | assumption | rfl) (by omega) (by decide) rfl ?_
            rw [t2.1.1]
            refine gr_ishl (v := ((T : Nat) : Int)) dX4_fewest_24 hsh ?_
            refine gr_icmp_ge 52 dX4_fewest_25 (by decide) (by unfold gw_in; omega) (by unfold gw_in; omega) (fun h25 => ?_) (fun h25 => ?_)
            · omega
            · refine gr_iload_n dX4_fewest_28 rfl ?_
              refine gr_stat dX4_fewest_29 kX4_194 (as := [_]) rfl rfl (Nat.le_of_ble_eq_true rfl) (gw_Rm_m (by omega) (by decide) (by decide)) (c_bitCount (n := s) (d + 6) (by omega)) ?_
              rintro _ _ ⟨rfl, rfl⟩
              refine gr_iload_n dX4_fewest_32 rfl ?_
              refine gr_icmp_ne 46 dX4_fewest_33 (by decide) (by unfold gw_in; omega) (by unfold gw_in; omega) (fun h33 => ?_) (fun h33 => ?_)
              · rw [if_neg (fun h => h33 (by rw [h.1]))] at ha
                refine gr_iinc (v := ((s + 1 : Nat) : Int)) dX4_fewest_46 (by decide) rfl (by omega) ?_
                refine gr_goto 15 dX4_fewest_49 (by decide) ?_
                exact ihi (s + 1) I2 (by omega) t1 t2 ha
              · refine gr_aload_n dX4_fewest_36 rfl ?_
                refine gr_iload_n dX4_fewest_37 rfl ?_
                have e19 : I2 19 = I 19 := gc_same_e t1 (by omega) (by omega) (by omega)
                refine gr_virt dX4_fewest_38 kX4_199 (as := [_]) rfl rfl (by first | assumption | rfl) (by omega) (Nat.le_of_ble_eq_true rfl) (gw_Rm_m (by omega) (by decide) (by decide)) (c_canPlayAll (set := s) (S := S) (d + 0) hK t2 (by omega) (by rw [e19]; exact hS)) ?_
                rintro _ _ ⟨_, I3, rfl, rfl, rfl, u1, u2⟩
                rw [gc_same_B t1, gc_same_e t1 (show 20 ≠ 0 by omega) (by omega) (by omega), e19, show gs_fea P (gc_B I) (I 20) (I 19 2) s (I 19 3) S = f s by rw [← hf]]
                have v1 := gc_same_tr t1 u1
                cases hfs : f s with
                | true =>
                  rw [if_pos ⟨by omega, hfs⟩] at ha
                  rw [if_pos rfl]
                  refine gr_if_eq 46 dX4_fewest_41 (by decide) (by unfold gw_in; omega) (fun h41 => ?_) (fun h41 => ?_)
                  · omega
                  · refine gr_iload_n dX4_fewest_44 rfl ?_
                    refine gr_iret dX4_fewest_45 (by first | exact Or.inl rfl | exact Or.inr ⟨rfl, by omega⟩) (by decide) (by decide) ((hQ ▸ ⟨_, _, rfl, rfl, ha.symm, v1, u2⟩))
                | false =>
                  rw [if_neg (fun h => by rw [hfs] at h; exact absurd h.2 (by decide))] at ha
                  rw [if_neg (by decide)]
                  refine gr_if_eq 46 dX4_fewest_41 (by decide) (by unfold gw_in; omega) (fun h41 => ?_) (fun h41 => ?_)
                  · refine gr_iinc (v := ((s + 1 : Nat) : Int)) dX4_fewest_46 (by decide) rfl (by omega) ?_
                    refine gr_goto 15 dX4_fewest_49 (by decide) ?_
                    exact ihi (s + 1) I3 (by omega) v1 u2 ha
                  · omega
        exact inner T 0 I1 (by omega) s1 s2 ha
  exact outer (P + 1) 0 _ I (by omega) gc_same_rf hD hA1
theorem c_fitsAllHeard {set S H : Nat} (d : Nat) (hK : gc_K F pp) (hD : gc_D I P n pp) (hset : set < 16) (hS : I 19 0 = (S : Int)) (hH : I 0 10 = (H : Int)) : gw_Met jX4_fitsAllHeard (d + 5) [.inr (some 0), .inl (set : Int)] (114, I, F) (gw_io F (fun r I' => r = (if gs_fit P (gc_B I) (I 20) (I 19 3) S (I 73) (I 74) set H = true then 1 else 0) ∧ gc_same I I' ∧ gc_D I' P n pp)) := by
  obtain ⟨k0, k1, k2, k3, k4, k6, k7, k8, k9, k70, k71, kx, kq, kp, kj, ki⟩ := id hK
  obtain ⟨w1, w2, w3, w4, w5⟩ := id hD.2.1.1
  obtain ⟨he1, he2⟩ := hD.2.2.2.2.2.1
  generalize hg : gs_fit P (gc_B I) (I 20) (I 19 3) S (I 73) (I 74) set = g
  generalize hQ : gw_io F (fun r I' => r = (if g H = true then 1 else 0) ∧ gc_same I I' ∧ gc_D I' P n pp) = Q
  have fin : ∀ (m h : Nat), h + m = H → g h = false → g H = false := by
    intro m
    induction m with
    | zero => intro h hh hf; rw [show H = h by omega]; exact hf
    | succ m ih =>
      intro h hh hf
      refine ih (h + 1) (by omega) ?_
      rw [← hg] at hf ⊢
      simp only [gs_fit]
      rw [hf]
      rfl
  refine gw_enter okX4_fitsAllHeard rfl (Nat.le_of_ble_eq_true rfl) ?_
  refine gr_iconst dX4_fitsAllHeard_0 ?_
  refine gr_istore_n dX4_fitsAllHeard_1 (by decide) ?_
  have key : ∀ (m h : Nat) (I1 : Nat → Nat → Int) (x3 : Option gw_V), h + m = H → g h = true → gc_same I I1 → gc_D I1 P n pp → gw_G (gw_Cm jX4_fitsAllHeard (d + 5) Q) jX4_fitsAllHeard 2 [some (.inr (some 0)), some (.inl (set : Int)), some (.inl (h : Int)), x3] [] (114, I1, F) 0 0 := by
    intro m
    induction m with
    | zero =>
      intro h I1 x3 hh ht s1 s2
      have e10 : I1 0 10 = (H : Int) := by rw [s1 0 10 (by omega) (by omega) (by omega)]; exact hH
      refine gr_iload_n dX4_fitsAllHeard_2 rfl ?_
      refine gr_aload_n dX4_fitsAllHeard_3 rfl ?_
      refine gr_getI dX4_fitsAllHeard_4 fX4_59 (by first | assumption | rfl) (by omega) (by decide) rfl ?_
      rw [e10]
      refine gr_icmp_ge 68 dX4_fitsAllHeard_7 (by decide) (by unfold gw_in; omega) (by unfold gw_in; omega) (fun h7 => ?_) (fun h7 => ?_)
      · refine gr_iconst dX4_fitsAllHeard_68 ?_
        refine gr_iret dX4_fitsAllHeard_69 (by first | exact Or.inl rfl | exact Or.inr ⟨rfl, by omega⟩) (by decide) (by decide) ((hQ ▸ ⟨_, _, rfl, rfl, by rw [show H = h by omega, if_pos ht], s1, s2⟩))
      · omega
    | succ m ih =>
      intro h I1 x3 hh ht s1 s2
      have e10 : I1 0 10 = (H : Int) := by rw [s1 0 10 (by omega) (by omega) (by omega)]; exact hH
      have e73 : I1 73 = I 73 := gc_same_e s1 (by omega) (by omega) (by omega)
      have e74 : I1 74 = I 74 := gc_same_e s1 (by omega) (by omega) (by omega)
      have e19 : I1 19 = I 19 := gc_same_e s1 (by omega) (by omega) (by omega)
      have e20 : I1 20 = I 20 := gc_same_e s1 (by omega) (by omega) (by omega)
      obtain ⟨c0, c7, ci⟩ := he2 h (by omega)
      obtain ⟨c, hc⟩ : ∃ c : Nat, I 73 h = (c : Int) := ⟨(I 73 h).toNat, by omega⟩
      have hgs : g (h + 1) = (g h && gs_ht P (gc_B I) (I 20) (I 19 3) S (I 73) (I 74) set h) := by rw [← hg]; rfl
      rw [ht, Bool.true_and] at hgs
      unfold gs_ht at hgs
      rw [hc, Int.toNat_natCast] at hgs
      refine gr_iload_n dX4_fitsAllHeard_2 rfl ?_
      refine gr_aload_n dX4_fitsAllHeard_3 rfl ?_
      refine gr_getI dX4_fitsAllHeard_4 fX4_59 (by first | assumption | rfl) (by omega) (by decide) rfl ?_
      rw [e10]
      refine gr_icmp_ge 68 dX4_fitsAllHeard_7 (by decide) (by unfold gw_in; omega) (by unfold gw_in; omega) (fun h7 => ?_) (fun h7 => ?_)
      · omega
      · refine gr_aload_n dX4_fitsAllHeard_10 rfl ?_
        refine gr_getR dX4_fitsAllHeard_11 fX4_52 (by first | assumption | rfl) (by omega) (by decide) rfl (by assumption) ?_
        refine gr_iload_n dX4_fitsAllHeard_14 rfl ?_
        refine gr_iald (i := h) dX4_fitsAllHeard_15 (by first | assumption | rfl) (by omega) (by omega) (by omega) (by decide) ?_
        refine gr_istore_n dX4_fitsAllHeard_16 (by decide) ?_
        refine gr_aload_n dX4_fitsAllHeard_17 rfl ?_
        refine gr_iload_n dX4_fitsAllHeard_18 rfl ?_
        rw [e73, hc]
        refine gr_virt dX4_fitsAllHeard_19 kX4_111 (as := [_]) rfl rfl (by first | assumption | rfl) (by omega) (Nat.le_of_ble_eq_true rfl) (gw_Rm_m (by omega) (by decide) (by decide)) (c_isChord (d + 4) hK (by rw [e19]; exact w1) (by unfold gw_in; omega)) ?_
        rintro _ _ ⟨rfl, rfl⟩
        rw [e19, hS]
        by_cases h1 : 0 ≤ (c : Int) ∧ (c : Int) < (S : Int)
        · rw [if_pos h1]
          refine gr_if_eq 62 dX4_fitsAllHeard_22 (by decide) (by unfold gw_in; omega) (fun h22 => ?_) (fun h22 => ?_)
          · omega
          · refine gr_aload_n dX4_fitsAllHeard_25 rfl ?_
            refine gr_getR dX4_fitsAllHeard_26 fX4_19 (by first | assumption | rfl) (by omega) (by decide) rfl (by assumption) ?_
            refine gr_iload_n dX4_fitsAllHeard_29 rfl ?_
            refine gr_iload_n dX4_fitsAllHeard_30 rfl ?_
            refine gr_virt dX4_fitsAllHeard_31 kX4_156 (as := [_, _]) rfl rfl (by first | assumption | rfl) (by omega) (Nat.le_of_ble_eq_true rfl) (gw_Rm_m (by omega) (by decide) (by decide)) (c_evenSpreads (c := c) (set := set) (P := P) (d + 0) kq (gc_M s2) (by omega) (by omega) s2.1.1) ?_
            rintro _ _ ⟨_, I2, rfl, rfl, rfl, hI2⟩
            obtain ⟨t1, t2⟩ := gc_D_scr hK s2 (fun a ha => hI2 a (by omega))
            have v1 := gc_same_tr s1 t1
            have f74 : I2 74 = I 74 := gc_same_e v1 (by omega) (by omega) (by omega)
            rw [gc_n_q]
            have en : gc_n I1 P set c = gc_n I P set c := by unfold gc_n; rw [gc_same_B s1, e20, e19]
            have hl : gc_n I P set c ≤ 784 := Nat.le_trans (List.length_filter_le _ _) (gs_SP_len hD.1.2.2.2.1 hD.1.2.2.1)
            rw [en]
            have hgs : g (h + 1) = decide (0 < gc_n I P set c ↔ I 74 h = 1) := by
              rw [hgs]
              simp only [show (c : Int) < (S : Int) from h1.2, true_imp_iff]
            generalize gc_n I P set c = gn at hgs hl
            by_cases hz : 0 < gn
            · refine gr_if_le 41 dX4_fitsAllHeard_34 (by decide) (by unfold gw_in; omega) (fun h34 => ?_) (fun h34 => ?_)
              · omega
              · refine gr_iconst dX4_fitsAllHeard_37 ?_
                refine gr_goto 42 dX4_fitsAllHeard_38 (by decide) ?_
                refine gr_aload_n dX4_fitsAllHeard_42 rfl ?_
                refine gr_getR dX4_fitsAllHeard_43 fX4_56 (by first | assumption | rfl) (by omega) (by decide) rfl (by assumption) ?_
                refine gr_iload_n dX4_fitsAllHeard_46 rfl ?_
                refine gr_iald (i := h) dX4_fitsAllHeard_47 (by first | assumption | rfl) (by omega) (by omega) (by omega) (by decide) ?_
                refine gr_iconst dX4_fitsAllHeard_48 ?_
                rw [f74]
                refine gr_icmp_ne 56 dX4_fitsAllHeard_49 (by decide) (by unfold gw_in; omega) (by unfold gw_in; omega) (fun h49 => ?_) (fun h49 => ?_)
                · refine gr_iconst dX4_fitsAllHeard_56 ?_
                  refine gr_icmp_eq 62 dX4_fitsAllHeard_57 (by decide) (by unfold gw_in; omega) (by unfold gw_in; omega) (fun h57 => ?_) (fun h57 => ?_)
                  · omega
                  · refine gr_iconst dX4_fitsAllHeard_60 ?_
                    have : g (h + 1) = false := by rw [hgs]; simp only [decide_eq_false_iff_not]; exact fun q => h49 (q.mp hz)
                    refine gr_iret dX4_fitsAllHeard_61 (by first | exact Or.inl rfl | exact Or.inr ⟨rfl, by omega⟩) (by decide) (by decide) ((hQ ▸ ⟨_, _, rfl, rfl, by rw [fin m (h + 1) (by omega) this, if_neg (by decide)], v1, t2⟩))
                · refine gr_iconst dX4_fitsAllHeard_52 ?_
                  refine gr_goto 57 dX4_fitsAllHeard_53 (by decide) ?_
                  refine gr_icmp_eq 62 dX4_fitsAllHeard_57 (by decide) (by unfold gw_in; omega) (by unfold gw_in; omega) (fun h57 => ?_) (fun h57 => ?_)
                  · refine gr_iinc (v := ((h + 1 : Nat) : Int)) dX4_fitsAllHeard_62 (by decide) rfl (by omega) ?_
                    refine gr_goto 2 dX4_fitsAllHeard_65 (by decide) ?_
                    exact ih (h + 1) I2 _ (by omega) (by rw [hgs]; simp only [decide_eq_true_eq]; exact ⟨fun _ => h49, fun _ => hz⟩) v1 t2
                  · omega
            · refine gr_if_le 41 dX4_fitsAllHeard_34 (by decide) (by unfold gw_in; omega) (fun h34 => ?_) (fun h34 => ?_)
              · refine gr_iconst dX4_fitsAllHeard_41 ?_
                refine gr_aload_n dX4_fitsAllHeard_42 rfl ?_
                refine gr_getR dX4_fitsAllHeard_43 fX4_56 (by first | assumption | rfl) (by omega) (by decide) rfl (by assumption) ?_
                refine gr_iload_n dX4_fitsAllHeard_46 rfl ?_
                refine gr_iald (i := h) dX4_fitsAllHeard_47 (by first | assumption | rfl) (by omega) (by omega) (by omega) (by decide) ?_
                refine gr_iconst dX4_fitsAllHeard_48 ?_
                rw [f74]
                refine gr_icmp_ne 56 dX4_fitsAllHeard_49 (by decide) (by unfold gw_in; omega) (by unfold gw_in; omega) (fun h49 => ?_) (fun h49 => ?_)
                · refine gr_iconst dX4_fitsAllHeard_56 ?_
                  refine gr_icmp_eq 62 dX4_fitsAllHeard_57 (by decide) (by unfold gw_in; omega) (by unfold gw_in; omega) (fun h57 => ?_) (fun h57 => ?_)
                  · refine gr_iinc (v := ((h + 1 : Nat) : Int)) dX4_fitsAllHeard_62 (by decide) rfl (by omega) ?_
                    refine gr_goto 2 dX4_fitsAllHeard_65 (by decide) ?_
                    exact ih (h + 1) I2 _ (by omega) (by rw [hgs]; simp only [decide_eq_true_eq]; exact ⟨fun q => absurd q hz, fun q => absurd q h49⟩) v1 t2
                  · omega
                · refine gr_iconst dX4_fitsAllHeard_52 ?_
                  refine gr_goto 57 dX4_fitsAllHeard_53 (by decide) ?_
                  refine gr_icmp_eq 62 dX4_fitsAllHeard_57 (by decide) (by unfold gw_in; omega) (by unfold gw_in; omega) (fun h57 => ?_) (fun h57 => ?_)
                  · omega
                  · refine gr_iconst dX4_fitsAllHeard_60 ?_
                    have : g (h + 1) = false := by rw [hgs]; simp only [decide_eq_false_iff_not]; exact fun q => hz (q.mpr h49)
                    refine gr_iret dX4_fitsAllHeard_61 (by first | exact Or.inl rfl | exact Or.inr ⟨rfl, by omega⟩) (by decide) (by decide) ((hQ ▸ ⟨_, _, rfl, rfl, by rw [fin m (h + 1) (by omega) this, if_neg (by decide)], v1, t2⟩))
              · omega
        · rw [if_neg h1]
          refine gr_if_eq 62 dX4_fitsAllHeard_22 (by decide) (by unfold gw_in; omega) (fun h22 => ?_) (fun h22 => ?_)
          · refine gr_iinc (v := ((h + 1 : Nat) : Int)) dX4_fitsAllHeard_62 (by decide) rfl (by omega) ?_
            refine gr_goto 2 dX4_fitsAllHeard_65 (by decide) ?_
            exact ih (h + 1) I1 _ (by omega) (by rw [hgs]; simp only [decide_eq_true_eq]; exact fun q => absurd q (by omega)) s1 s2
          · omega
  exact key H 0 I _ (by omega) (by rw [← hg]; rfl) gc_same_rf hD
theorem ga_not {m p : Nat} (hm : m < 16) (hp : p < 4) (hb : m / 2 ^ p % 2 = 1) : Int32.ofInt (m : Int) &&& (Int32.ofInt ((2 ^ p : Nat) : Int) ^^^ Int32.ofInt (-1)) = Int32.ofInt ((m - 2 ^ p : Nat) : Int) ∧ 2 ^ p ≤ m := by
  have : ∀ m : Nat, m < 16 → ∀ p : Nat, p < 4 → m / 2 ^ p % 2 = 1 → Int32.ofInt (m : Int) &&& (Int32.ofInt ((2 ^ p : Nat) : Int) ^^^ Int32.ofInt (-1)) = Int32.ofInt ((m - 2 ^ p : Nat) : Int) ∧ 2 ^ p ≤ m := by decide +kernel
  exact this m hm p hp hb
theorem c_ill (d : Nat) (hK : gc_K F pp) (hD : gc_D I P n pp) : gw_Met jX4_ill (d + 6) [.inr (some 0)] (114, I, F) (gw_io F (fun r I' => r = ga_ill P (gc_B I) (I 20) (I 19 1).toNat (I 19 3) (I 19 0).toNat (I 73) (I 74) (I 0 10).toNat ∧ gc_same I I' ∧ gc_D I' P n pp)) := by
  obtain ⟨k0, k1, k2, k3, k4, k6, k7, k8, k9, k70, k71, kx, kq, kp, kj, ki⟩ := id hK
  obtain ⟨w1, w2, w3, w4, w5⟩ := id hD.2.1.1
  obtain ⟨he1, he2⟩ := hD.2.2.2.2.2.1
  have hb4 := hD.1.2.2.2.1
  obtain ⟨m, hm⟩ : ∃ m : Nat, I 19 1 = (m : Int) := ⟨(I 19 1).toNat, by omega⟩
  obtain ⟨S, hS⟩ : ∃ S : Nat, I 19 0 = (S : Int) := ⟨(I 19 0).toNat, by omega⟩
  obtain ⟨H, hH⟩ : ∃ H : Nat, I 0 10 = (H : Int) := ⟨(I 0 10).toNat, by omega⟩
  rw [hm, hS, hH, Int.toNat_natCast, Int.toNat_natCast, Int.toNat_natCast]
  unfold ga_ill
  generalize hq : (fun p => decide (m / 2 ^ p % 2 = 1) && gs_fit P (gc_B I) (I 20) (I 19 3) S (I 73) (I 74) (m - 2 ^ p) H) = q
  generalize hQ : gw_io F (fun r I' => r = ((gs_bt q P : Nat) : Int) ∧ gc_same I I' ∧ gc_D I' P n pp) = Q
  refine gw_enter okX4_ill rfl (Nat.le_of_ble_eq_true rfl) ?_
  refine gr_iconst dX4_ill_0 ?_
  refine gr_istore_n dX4_ill_1 (by decide) ?_
  refine gr_iconst dX4_ill_2 ?_
  refine gr_istore_n dX4_ill_3 (by decide) ?_
  have key : ∀ (j p : Nat) (I1 : Nat → Nat → Int), p + j = P → gc_same I I1 → gc_D I1 P n pp → gw_G (gw_Cm jX4_ill (d + 6) Q) jX4_ill 4 [some (.inr (some 0)), some (.inl ((gs_bt q p : Nat) : Int)), some (.inl (p : Int))] [] (114, I1, F) 0 0 := by
    intro j
    induction j with
    | zero =>
      intro p I1 hp s1 s2
      refine gr_iload_n dX4_ill_4 rfl ?_
      refine gr_aload_n dX4_ill_5 rfl ?_
      refine gr_getR dX4_ill_6 fX4_27 (by first | assumption | rfl) (by omega) (by decide) rfl (by assumption) ?_
      refine gr_getI dX4_ill_9 fX4_179 (by first | assumption | rfl) (by omega) (by decide) rfl ?_
      rw [s2.1.1]
      refine gr_icmp_ge 62 dX4_ill_12 (by decide) (by unfold gw_in; omega) (by unfold gw_in; omega) (fun h12 => ?_) (fun h12 => ?_)
      · refine gr_iload_n dX4_ill_62 rfl ?_
        refine gr_iret dX4_ill_63 (by first | exact Or.inl rfl | exact Or.inr ⟨rfl, by omega⟩) (by decide) (by decide) ((hQ ▸ ⟨_, _, rfl, rfl, by rw [show p = P by omega], s1, s2⟩))
      · omega
    | succ j ih =>
      intro p I1 hp s1 s2
      have e19 : I1 19 = I 19 := gc_same_e s1 (by omega) (by omega) (by omega)
      have e20 : I1 20 = I 20 := gc_same_e s1 (by omega) (by omega) (by omega)
      have e73 : I1 73 = I 73 := gc_same_e s1 (by omega) (by omega) (by omega)
      have e74 : I1 74 = I 74 := gc_same_e s1 (by omega) (by omega) (by omega)
      have skip : ∀ I2, q p = false → gc_same I I2 → gc_D I2 P n pp → gw_G (gw_Cm jX4_ill (d + 6) Q) jX4_ill 56 [some (.inr (some 0)), some (.inl ((gs_bt q p : Nat) : Int)), some (.inl (p : Int))] [] (114, I2, F) 0 0 := by
        intro I2 hf t1 t2
        have nxt := ih (p + 1) I2 (by omega) t1 t2
        simp only [gs_bt] at nxt
        rw [hf, if_neg (by simp), Nat.add_zero] at nxt
        refine gr_iinc (v := ((p + 1 : Nat) : Int)) dX4_ill_56 (by decide) rfl (by omega) ?_
        refine gr_goto 4 dX4_ill_59 (by decide) ?_
        exact nxt
      have hbit : m / 2 ^ p % 2 < 2 := Nat.mod_lt _ (by omega)
      refine gr_iload_n dX4_ill_4 rfl ?_
      refine gr_aload_n dX4_ill_5 rfl ?_
      refine gr_getR dX4_ill_6 fX4_27 (by first | assumption | rfl) (by omega) (by decide) rfl (by assumption) ?_
      refine gr_getI dX4_ill_9 fX4_179 (by first | assumption | rfl) (by omega) (by decide) rfl ?_
      rw [s2.1.1]
      refine gr_icmp_ge 62 dX4_ill_12 (by decide) (by unfold gw_in; omega) (by unfold gw_in; omega) (fun h12 => ?_) (fun h12 => ?_)
      · omega
      · refine gr_aload_n dX4_ill_15 rfl ?_
        refine gr_getR dX4_ill_16 fX4_32 (by first | assumption | rfl) (by omega) (by decide) rfl (by assumption) ?_
        refine gr_getI dX4_ill_19 fX4_105 (by first | assumption | rfl) (by omega) (by decide) rfl ?_
        rw [e19, hm]
        refine gr_iload_n dX4_ill_22 rfl ?_
        refine gr_ishr (v := ((m / 2 ^ p : Nat) : Int)) dX4_ill_23 (ga_bit (by omega) (by omega)) ?_
        refine gr_iconst dX4_ill_24 ?_
        refine gr_iand (v := ((m / 2 ^ p % 2 : Nat) : Int)) dX4_ill_25 (ga_bit1 _) ?_
        refine gr_iconst dX4_ill_26 ?_
        refine gr_icmp_ne 56 dX4_ill_27 (by decide) (by unfold gw_in; omega) (by unfold gw_in; omega) (fun h27 => ?_) (fun h27 => ?_)
        · exact skip I1 (by rw [← hq]; simp only [Bool.and_eq_false_iff, decide_eq_false_iff_not]; exact Or.inl (by omega)) s1 s2
        · obtain ⟨hn1, hn2⟩ := ga_not (m := m) (p := p) (by omega) (by omega) (by omega)
          refine gr_aload_n dX4_ill_30 rfl ?_
          refine gr_aload_n dX4_ill_31 rfl ?_
          refine gr_getR dX4_ill_32 fX4_32 (by first | assumption | rfl) (by omega) (by decide) rfl (by assumption) ?_
          refine gr_getI dX4_ill_35 fX4_105 (by first | assumption | rfl) (by omega) (by decide) rfl ?_
          rw [e19, hm]
          refine gr_iconst dX4_ill_38 ?_
          refine gr_iload_n dX4_ill_39 rfl ?_
          refine gr_ishl (v := ((2 ^ p : Nat) : Int)) dX4_ill_40 (ga_p1 (by omega)) ?_
          refine gr_iconst dX4_ill_41 ?_
          refine gr_ixor (v := (Int32.ofInt ((2 ^ p : Nat) : Int) ^^^ Int32.ofInt (-1)).toInt) dX4_ill_42 (gw_ofInt _).symm ?_
          refine gr_iand (v := ((m - 2 ^ p : Nat) : Int)) dX4_ill_43 (by rw [gw_ofInt]; exact hn1) ?_
          refine gr_virt dX4_ill_44 kX4_202 (as := [_]) rfl rfl (by first | assumption | rfl) (by omega) (Nat.le_of_ble_eq_true rfl) (gw_Rm_m (by omega) (by decide) (by decide)) (c_fitsAllHeard (set := m - 2 ^ p) (S := S) (H := H) (d + 0) hK s2 (Nat.lt_of_le_of_lt (Nat.sub_le _ _) (by omega)) (by rw [e19]; exact hS) (by rw [s1 0 10 (by omega) (by omega) (by omega)]; exact hH)) ?_
          rintro _ _ ⟨_, I2, rfl, rfl, rfl, u1, u2⟩
          have v1 := gc_same_tr s1 u1
          rw [gc_same_B s1, e20, e19, e73, e74]
          cases hg : gs_fit P (gc_B I) (I 20) (I 19 3) S (I 73) (I 74) (m - 2 ^ p) H with
          | false =>
            rw [if_neg (by decide)]
            refine gr_if_eq 56 dX4_ill_47 (by decide) (by unfold gw_in; omega) (fun h47 => ?_) (fun h47 => ?_)
            · exact skip I2 (by rw [← hq]; simp only [hg, Bool.and_false]) v1 u2
            · omega
          | true =>
            rw [if_pos rfl]
            refine gr_if_eq 56 dX4_ill_47 (by decide) (by unfold gw_in; omega) (fun h47 => ?_) (fun h47 => ?_)
            · omega
            · have nxt := ih (p + 1) I2 (by omega) v1 u2
              simp only [gs_bt] at nxt
              have hqt : q p = true := by rw [← hq]; simp only [hg, Bool.and_true, decide_eq_true_eq]; omega
              rw [hqt, if_pos rfl] at nxt
              refine gr_iload_n dX4_ill_50 rfl ?_
              refine gr_iconst dX4_ill_51 ?_
              refine gr_iload_n dX4_ill_52 rfl ?_
              refine gr_ishl (v := ((2 ^ p : Nat) : Int)) dX4_ill_53 (ga_p1 (by omega)) ?_
              refine gr_ior (v := ((gs_bt q p + 2 ^ p : Nat) : Int)) dX4_ill_54 (gs_bt_or q p (by omega)) ?_
              refine gr_istore_n dX4_ill_55 (by decide) ?_
              refine gr_iinc (v := ((p + 1 : Nat) : Int)) dX4_ill_56 (by decide) rfl (by omega) ?_
              refine gr_goto 4 dX4_ill_59 (by decide) ?_
              exact nxt
  exact key P 0 I (by omega) gc_same_rf hD
end GC
