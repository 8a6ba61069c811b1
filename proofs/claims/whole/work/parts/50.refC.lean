/-! THE REFERENCE beside the class: undo, images -/
section GM
variable {A A' J : Nat → Nat → Int} {F : Nat → Nat → Option Nat} {P n : Nat} {pp : Nat → Nat}
/-- a piece comes back -/
theorem gm_R_bk {J' : Nat → Nat → Int} {k q b : Nat} {u : Int} (hC : gc_K F pp) (hD : gc_D A P n pp) (hk : 75 ≤ k) (h8 : A k 0 ≤ 8) (hu5 : u ≤ A 0 5) (hu : gu_bk A A' k u) (hJ : ∀ a i, ¬ (a = 99 ∧ i = 3) → a ≠ 101 → J' a i = J a i) (h3 : J' 99 3 = u) (h101 : ∀ i, i < 36 → J' 101 i = J q (b + i)) (hQ : gm_Q A J k q b) (hR : gm_R A pp J) : gm_R A' pp J' := by
  obtain ⟨⟨r1, r2⟩, r3, ⟨r4, r5⟩, r6, ⟨r7, r8⟩, r9, r10⟩ := id hR
  have e : ∀ a, a ≠ 0 → a ≠ 19 → a ≠ 20 → A' a = A a := fun a h1 h2 h3 => funext fun b => by rw [hu, if_neg (by omega), if_neg (by omega), if_neg (by omega), if_neg (by omega)]
  have e5 : A' 0 5 = u := by rw [hu, if_pos (by omega)]
  have e10 : A' 0 10 = A 0 10 := by rw [hu, if_neg (by omega), if_neg (by omega), if_neg (by omega), if_neg (by omega)]
  have s4 : ∀ b, b < 4 → A' 19 b = A k b := fun b hb => by rw [hu, if_neg (by omega), if_neg (by omega), if_pos (by omega)]
  have sn : ∀ b : Nat, (b : Int) < 3 * A k 0 → A' (19 + 1) b = A (k + 1) b := fun b hb => by rw [hu, if_neg (by omega), if_neg (by omega), if_neg (by omega), if_pos (by omega)]
  have hJa : ∀ a, a ≠ 99 → a ≠ 101 → J' a = J a := fun a h1 h2 => funext fun i => hJ a i (by omega) h2
  refine ⟨⟨by rw [hJ 99 0 (by omega) (by omega), e 13 (by omega) (by omega) (by omega)]; exact r1, fun p hp r hr => ?_⟩, gm_Q_A s4 sn (gm_Q_mv h8 (fun i hi => by rw [Nat.zero_add]; exact h101 i hi) hQ), ⟨by rw [h3, e5], fun j hj => ?_⟩, fun i hi => ⟨by rw [hJa 103 (by omega) (by omega), e 72 (by omega) (by omega) (by omega)]; exact (r6 i hi).1, fun q => ?_⟩, ⟨by rw [hJ 99 7 (by omega) (by omega), e10]; exact r7, fun h hh => ?_⟩, by rw [hJ 99 13 (by omega) (by omega), e 1 (by omega) (by omega) (by omega)]; exact r9, fun i hi => ?_⟩
  · rw [e 13 (by omega) (by omega) (by omega)] at hp
    rw [hJa 100 (by omega) (by omega), e (14 + r) (by omega) (by omega) (by omega)]; exact r2 p hp r hr
  · rw [e5] at hj
    have := hD.2.2.2.1.1
    obtain ⟨-, q2, q3, -⟩ := gc_pp hC (show j < 10 by omega)
    exact gm_Q_e (e _ (by omega) (by omega) (by omega)) (e _ (by omega) (by omega) (by omega)) (hJa 102 (by omega) (by omega)) (r5 j (by omega))
  · rw [e 72 (by omega) (by omega) (by omega)] at q
    exact gm_Q_e (e _ (by omega) (by omega) (by omega)) (e _ (by omega) (by omega) (by omega)) (hJa 104 (by omega) (by omega)) ((r6 i hi).2 q)
  · rw [e10] at hh
    rw [hJa 105 (by omega) (by omega), hJa 106 (by omega) (by omega), e 73 (by omega) (by omega) (by omega), e 74 (by omega) (by omega) (by omega)]; exact r8 h hh
  · rw [e 1 (by omega) (by omega) (by omega)] at hi
    rw [hJa 109 (by omega) (by omega), e 10 (by omega) (by omega) (by omega)]; exact r10 i hi
theorem m_undo (d : Nat) (hC : gc_K F pp) (hK : gm_K F) (hR : gm_R A pp J) (hD : gc_D A P n pp) (hu : gu_undo A A' pp) : gw_Met jX5_undo d [.inr (some 99)] (114, J, F) (gw_io F (fun r J' => r = (if 0 < A 0 5 then A 0 5 - 1 else -2) ∧ gm_fr J J' ∧ gm_R A' pp J')) := by
  obtain ⟨g1, g2, g4, g5, g6, g8, g9, g11, g12, g14, g18, g19, g20, g21⟩ := id hK
  obtain ⟨⟨r1, r2⟩, r3, ⟨r4, r5⟩, r6, ⟨r7, r8⟩, r9, r10⟩ := id hR
  have h5 := hD.2.2.2.1.1
  have hp3 := hD.2.2.2.1.2.2
  generalize hQ : gw_io F (fun r J' => r = (if 0 < A 0 5 then A 0 5 - 1 else -2) ∧ gm_fr J J' ∧ gm_R A' pp J') = Q
  unfold gu_undo at hu
  refine gw_enter okX5_undo rfl (Nat.le_of_ble_eq_true rfl) ?_
  refine gr_aload_n dX5_undo_0 rfl ?_
  refine gr_getI dX5_undo_1 fX5_66 (by first | assumption | rfl) (by omega) (by decide) rfl ?_
  rw [r4]
  refine gr_if_ne 10 dX5_undo_4 (by decide) (by unfold gw_in; omega) (fun h4 => ?_) (fun h4 => ?_)
  · rw [if_pos (by omega)] at hu
    obtain ⟨k, hk⟩ : ∃ k : Nat, A 0 5 = (k : Int) + 1 := ⟨(A 0 5 - 1).toNat, by omega⟩
    have hkk : (A 0 5 - 1).toNat = k := by omega
    rw [hkk] at hu
    refine gr_aload_n dX5_undo_10 rfl ?_
    refine gr_dup dX5_undo_11 ?_
    refine gr_getI dX5_undo_12 fX5_66 (by first | assumption | rfl) (by omega) (by decide) rfl ?_
    rw [r4, hk]
    refine gr_iconst dX5_undo_15 ?_
    refine gr_isub (v := (k : Int)) dX5_undo_16 (by omega) ?_
    refine gr_putI dX5_undo_17 fX5_66 (by first | assumption | rfl) (by omega) (Or.inl rfl) rfl ?_
    refine gr_iconst dX5_undo_20 ?_
    refine gr_istore_n dX5_undo_21 (by decide) ?_
    have loop : ∀ (m i : Nat) (J2 : Nat → Nat → Int), i + m = 36 → (∀ a b, J2 a b = if a = 99 ∧ b = 3 then (k : Int) else if a = 101 ∧ b < i then J 102 (36 * k + b) else J a b) → gw_G (gw_Cm jX5_undo d Q) jX5_undo 22 [some (.inr (some 99)), some (.inl (i : Int))] [] (114, J2, F) 0 0 := by
      intro m
      induction m with
      | zero =>
        intro i J2 hi hJ2
        have y3 : J2 99 3 = (k : Int) := by rw [hJ2, if_pos (by omega)]
        refine gr_iload_n dX5_undo_22 rfl ?_
        refine gr_bipush dX5_undo_23 (by decide) ?_
        refine gr_icmp_ge 54 dX5_undo_25 (by decide) (by unfold gw_in; omega) (by unfold gw_in; omega) (fun h25 => ?_) (fun h25 => ?_)
        · refine gr_aload_n dX5_undo_54 rfl ?_
          refine gr_getI dX5_undo_55 fX5_66 (by first | assumption | rfl) (by omega) (by decide) rfl ?_
          rw [y3]
          obtain ⟨-, p2, p3, -⟩ := gc_pp hC (show k < 10 by omega)
          refine gr_iret dX5_undo_58 (by first | exact Or.inl rfl | exact Or.inr ⟨rfl, by omega⟩) (by decide) (by decide) ((hQ ▸ ⟨_, _, rfl, rfl, by rw [if_pos (by omega)]; omega, fun a ha => funext fun b => by rw [hJ2, if_neg (by omega), if_neg (by omega)], gm_R_bk (k := pp k) (q := 102) (b := 36 * k) hC hD (by omega) (hp3 k (by omega)).1.2 (by omega) hu (fun a b h1 h2 => by rw [hJ2, if_neg (by omega), if_neg (by omega)]) (by rw [y3]; omega) (fun b hb => by rw [hJ2, if_neg (by omega), if_pos (by omega)]) (r5 k (by omega)) hR⟩))
        · omega
      | succ m ih =>
        intro i J2 hi hJ2
        have y3 : J2 99 3 = (k : Int) := by rw [hJ2, if_pos (by omega)]
        refine gr_iload_n dX5_undo_22 rfl ?_
        refine gr_bipush dX5_undo_23 (by decide) ?_
        refine gr_icmp_ge 54 dX5_undo_25 (by decide) (by unfold gw_in; omega) (by unfold gw_in; omega) (fun h25 => ?_) (fun h25 => ?_)
        · omega
        · refine gr_aload_n dX5_undo_28 rfl ?_
          refine gr_getR dX5_undo_29 fX5_13 (by first | assumption | rfl) (by omega) (by decide) rfl (by assumption) ?_
          refine gr_iload_n dX5_undo_32 rfl ?_
          refine gr_aload_n dX5_undo_33 rfl ?_
          refine gr_getR dX5_undo_34 fX5_16 (by first | assumption | rfl) (by omega) (by decide) rfl (by assumption) ?_
          refine gr_bipush dX5_undo_37 (by decide) ?_
          refine gr_aload_n dX5_undo_39 rfl ?_
          refine gr_getI dX5_undo_40 fX5_66 (by first | assumption | rfl) (by omega) (by decide) rfl ?_
          rw [y3]
          refine gr_imul dX5_undo_43 rfl ?_
          refine gr_iload_n dX5_undo_44 rfl ?_
          refine gr_iadd (v := ((36 * k + i : Nat) : Int)) dX5_undo_45 (by omega) ?_
          refine gr_iald (i := 36 * k + i) dX5_undo_46 (by first | assumption | rfl) (by omega) (by omega) (by omega) (by decide) ?_
          rw [show J2 102 (36 * k + i) = J 102 (36 * k + i) by rw [hJ2, if_neg (by omega), if_neg (by omega)]]
          refine gr_iast (i := i) dX5_undo_47 (by first | assumption | rfl) (by omega) (by omega) (by omega) (by decide) ?_
          refine gr_iinc (v := ((i + 1 : Nat) : Int)) dX5_undo_48 (by decide) rfl (by omega) ?_
          refine gr_goto 22 dX5_undo_51 (by decide) ?_
          exact ih (i + 1) _ (by omega) (fun a b => by
            unfold gw_U
            by_cases h : a = 101 ∧ b = i
            · rw [if_pos h, if_neg (by omega), if_pos (by omega), h.2]
            · rw [if_neg h, hJ2]
              by_cases h0 : a = 99 ∧ b = 3
              · rw [if_pos h0, if_pos h0]
              · rw [if_neg h0, if_neg h0]
                by_cases h' : a = 101 ∧ b < i
                · rw [if_pos h', if_pos (by omega)]
                · rw [if_neg h', if_neg (by omega)])
    exact loop 36 0 _ (by omega) (fun a b => by
      unfold gw_U
      by_cases h0 : a = 99 ∧ b = 3
      · rw [if_pos h0, if_pos h0]
      · rw [if_neg h0, if_neg h0, if_neg (by omega)])
  · rw [if_neg (by omega)] at hu
    refine gr_bipush dX5_undo_7 (by decide) ?_
    refine gr_iret dX5_undo_9 (by first | exact Or.inl rfl | exact Or.inr ⟨rfl, by omega⟩) (by decide) (by decide) ((hQ ▸ ⟨_, _, rfl, rfl, by rw [if_neg (by omega)], fun _ _ => rfl, by rw [hu]; exact hR⟩))
theorem m_back {x : Int} (d : Nat) (hC : gc_K F pp) (hK : gm_K F) (hR : gm_R A pp J) (hD : gc_D A P n pp) (hx : gw_in x) (hu : gu_back A A' x) : gw_Met jX5_back (d + 1) [.inr (some 99), .inl x] (114, J, F) (gw_io F (fun r J' => r = ga_back A x ∧ gm_fr J J' ∧ gm_R A' pp J')) := by
  obtain ⟨g1, g2, g4, g5, g6, g8, g9, g11, g12, g14, g18, g19, g20, g21⟩ := id hK
  obtain ⟨⟨r1, r2⟩, r3, ⟨r4, r5⟩, r6, ⟨r7, r8⟩, r9, r10⟩ := id hR
  have h5 := hD.2.2.2.1.1
  have him := hD.2.2.2.2.1
  generalize hQ : gw_io F (fun r J' => r = ga_back A x ∧ gm_fr J J' ∧ gm_R A' pp J') = Q
  unfold gu_back at hu
  refine gw_enter okX5_back rfl (Nat.le_of_ble_eq_true rfl) ?_
  refine gr_iload_n dX5_back_0 rfl ?_
  refine gr_iconst dX5_back_1 ?_
  refine gr_iconst dX5_back_2 ?_
  refine gr_stat dX5_back_3 kX5_72 (as := [_, _, _]) rfl rfl (Nat.le_of_ble_eq_true rfl) (gw_Rm_m (by omega) (by decide) (by decide)) (m_in d hx (by unfold gw_in; omega) (by unfold gw_in; omega)) ?_
  rintro _ _ ⟨rfl, rfl⟩
  by_cases h1 : 0 ≤ x ∧ x ≤ 1
  · obtain ⟨k, rfl⟩ : ∃ k : Nat, x = (k : Int) := ⟨x.toNat, by omega⟩
    rw [Int.toNat_natCast] at hu
    obtain ⟨i2, i3, i4⟩ := him k (by omega)
    obtain ⟨s1, s2⟩ := r6 k (by omega)
    rw [if_pos h1]
    refine gr_if_ne 11 dX5_back_6 (by decide) (by unfold gw_in; omega) (fun h6 => ?_) (fun h6 => ?_)
    · refine gr_aload_n dX5_back_11 rfl ?_
      refine gr_getR dX5_back_12 fX5_19 (by first | assumption | rfl) (by omega) (by decide) rfl (by assumption) ?_
      refine gr_iload_n dX5_back_15 rfl ?_
      refine gr_zald (i := k) dX5_back_16 (by first | assumption | rfl) (by omega) (by omega) (by omega) (by decide) ?_
      rw [s1]
      refine gr_if_ne 23 dX5_back_17 (by decide) (by unfold gw_in; omega) (fun h17 => ?_) (fun h17 => ?_)
      · have h72 : A 72 k = 1 := by omega
        rw [if_pos ⟨h1, h72⟩] at hu
        have hW := i4 h72
        refine gr_iconst dX5_back_23 ?_
        refine gr_istore_n dX5_back_24 (by decide) ?_
        have loop : ∀ (m i : Nat) (J2 : Nat → Nat → Int), i + m = 36 → (∀ a b, J2 a b = if a = 101 ∧ b < i then J 104 (36 * k + b) else J a b) → gw_G (gw_Cm jX5_back (d + 1) Q) jX5_back 25 [some (.inr (some 99)), some (.inl (k : Int)), some (.inl (i : Int))] [] (114, J2, F) 0 0 := by
          intro m
          induction m with
          | zero =>
            intro i J2 hi hJ2
            refine gr_iload_n dX5_back_25 rfl ?_
            refine gr_bipush dX5_back_26 (by decide) ?_
            refine gr_icmp_ge 54 dX5_back_28 (by decide) (by unfold gw_in; omega) (by unfold gw_in; omega) (fun h28 => ?_) (fun h28 => ?_)
            · refine gr_aload_n dX5_back_54 rfl ?_
              refine gr_iconst dX5_back_55 ?_
              refine gr_putI dX5_back_56 fX5_66 (by first | assumption | rfl) (by omega) (Or.inl rfl) rfl ?_
              refine gr_aload_n dX5_back_59 rfl ?_
              refine gr_getR dX5_back_60 fX5_13 (by first | assumption | rfl) (by omega) (by decide) rfl (by assumption) ?_
              refine gr_iconst dX5_back_63 ?_
              refine gr_iald (i := 0) dX5_back_64 (by first | assumption | rfl) (by omega) (by omega) (by omega) (by decide) ?_
              have e0 : gw_U J2 99 3 0 101 0 = A (95 + 2 * k) 0 := by
                rw [gw_U_n (by omega), hJ2, if_pos (by omega), Nat.add_zero]
                exact (s2 h72).1
              rw [e0]
              refine gr_iret dX5_back_65 (by first | exact Or.inl rfl | exact Or.inr ⟨rfl, by omega⟩) (by decide) (by decide) ((hQ ▸ ⟨_, _, rfl, rfl, by unfold ga_back; rw [if_pos h1, Int.toNat_natCast, if_pos h72], fun a ha => by rw [gw_U_r (by omega)]; exact funext fun b => by rw [hJ2, if_neg (by omega)], gm_R_bk (k := 95 + 2 * k) (q := 104) (b := 36 * k) hC hD (by omega) hW.1.2 (by omega) hu (fun a b h1 h2 => by rw [gw_U_n h1, hJ2, if_neg (by omega)]) gw_U_s (fun b hb => by rw [gw_U_n (by omega), hJ2, if_pos (by omega)]) (s2 h72) hR⟩))
            · omega
          | succ m ih =>
            intro i J2 hi hJ2
            refine gr_iload_n dX5_back_25 rfl ?_
            refine gr_bipush dX5_back_26 (by decide) ?_
            refine gr_icmp_ge 54 dX5_back_28 (by decide) (by unfold gw_in; omega) (by unfold gw_in; omega) (fun h28 => ?_) (fun h28 => ?_)
            · omega
            · refine gr_aload_n dX5_back_31 rfl ?_
              refine gr_getR dX5_back_32 fX5_13 (by first | assumption | rfl) (by omega) (by decide) rfl (by assumption) ?_
              refine gr_iload_n dX5_back_35 rfl ?_
              refine gr_aload_n dX5_back_36 rfl ?_
              refine gr_getR dX5_back_37 fX5_23 (by first | assumption | rfl) (by omega) (by decide) rfl (by assumption) ?_
              refine gr_bipush dX5_back_40 (by decide) ?_
              refine gr_iload_n dX5_back_42 rfl ?_
              refine gr_imul dX5_back_43 rfl ?_
              refine gr_iload_n dX5_back_44 rfl ?_
              refine gr_iadd (v := ((36 * k + i : Nat) : Int)) dX5_back_45 (by omega) ?_
              refine gr_iald (i := 36 * k + i) dX5_back_46 (by first | assumption | rfl) (by omega) (by omega) (by omega) (by decide) ?_
              rw [show J2 104 (36 * k + i) = J 104 (36 * k + i) by rw [hJ2, if_neg (by omega)]]
              refine gr_iast (i := i) dX5_back_47 (by first | assumption | rfl) (by omega) (by omega) (by omega) (by decide) ?_
              refine gr_iinc (v := ((i + 1 : Nat) : Int)) dX5_back_48 (by decide) rfl (by omega) ?_
              refine gr_goto 25 dX5_back_51 (by decide) ?_
              exact ih (i + 1) _ (by omega) (fun a b => by
                unfold gw_U
                by_cases h : a = 101 ∧ b = i
                · rw [if_pos h, if_pos (by omega), h.2]
                · rw [if_neg h, hJ2]
                  by_cases h' : a = 101 ∧ b < i
                  · rw [if_pos h', if_pos (by omega)]
                  · rw [if_neg h', if_neg (by omega)])
        exact loop 36 0 _ (by omega) (fun a b => by rw [if_neg (by omega)])
      · rw [if_neg (by omega)] at hu
        refine gr_bipush dX5_back_20 (by decide) ?_
        refine gr_iret dX5_back_22 (by first | exact Or.inl rfl | exact Or.inr ⟨rfl, by omega⟩) (by decide) (by decide) ((hQ ▸ ⟨_, _, rfl, rfl, by unfold ga_back; rw [if_pos h1, Int.toNat_natCast, if_neg (by omega)], fun _ _ => rfl, by rw [hu]; exact hR⟩))
    · omega
  · rw [if_neg (fun h => h1 h.1)] at hu
    rw [if_neg h1]
    refine gr_if_ne 11 dX5_back_6 (by decide) (by unfold gw_in; omega) (fun h6 => ?_) (fun h6 => ?_)
    · omega
    · refine gr_iconst dX5_back_9 ?_
      refine gr_iret dX5_back_10 (by first | exact Or.inl rfl | exact Or.inr ⟨rfl, by omega⟩) (by decide) (by decide) ((hQ ▸ ⟨_, _, rfl, rfl, by unfold ga_back; rw [if_neg h1], fun _ _ => rfl, by rw [hu]; exact hR⟩))
theorem m_keep {x : Int} (d : Nat) (hC : gc_K F pp) (hK : gm_K F) (hR : gm_R A pp J) (hD : gc_D A P n pp) (hx : gw_in x) (hu : gu_keep A A' x) : gw_Met jX5_keep (d + 1) [.inr (some 99), .inl x] (114, J, F) (gw_io F (fun r J' => r = ga_keep A x ∧ gm_fr J J' ∧ gm_R A' pp J')) := by
  obtain ⟨g1, g2, g4, g5, g6, g8, g9, g11, g12, g14, g18, g19, g20, g21⟩ := id hK
  obtain ⟨⟨r1, r2⟩, r3, ⟨r4, r5⟩, r6, ⟨r7, r8⟩, r9, r10⟩ := id hR
  have h5 := hD.2.2.2.1.1
  have him := hD.2.2.2.2.1
  have w1 := hD.2.1.1.1
  generalize hQ : gw_io F (fun r J' => r = ga_keep A x ∧ gm_fr J J' ∧ gm_R A' pp J') = Q
  unfold gu_keep at hu
  refine gw_enter okX5_keep rfl (Nat.le_of_ble_eq_true rfl) ?_
  refine gr_iload_n dX5_keep_0 rfl ?_
  refine gr_iconst dX5_keep_1 ?_
  refine gr_iconst dX5_keep_2 ?_
  refine gr_stat dX5_keep_3 kX5_72 (as := [_, _, _]) rfl rfl (Nat.le_of_ble_eq_true rfl) (gw_Rm_m (by omega) (by decide) (by decide)) (m_in d hx (by unfold gw_in; omega) (by unfold gw_in; omega)) ?_
  rintro _ _ ⟨rfl, rfl⟩
  by_cases h1 : 0 ≤ x ∧ x ≤ 1
  · obtain ⟨k, rfl⟩ : ∃ k : Nat, x = (k : Int) := ⟨x.toNat, by omega⟩
    rw [if_pos h1, Int.toNat_natCast] at hu
    rw [if_pos h1]
    have e : ∀ a, a ≠ 72 → a ≠ 95 + 2 * k → a ≠ 96 + 2 * k → A' a = A a := fun a h1 h2 h3 => funext fun b => by rw [hu, if_neg (by omega), if_neg (by omega), if_neg (by omega)]
    have s4 : ∀ b, b < 4 → A' (95 + 2 * k) b = A 19 b := fun b hb => by rw [hu, if_neg (by omega), if_pos (by omega)]
    have sn : ∀ b : Nat, (b : Int) < 3 * A 19 0 → A' (95 + 2 * k + 1) b = A (19 + 1) b := fun b hb => by rw [hu, if_neg (by omega), if_neg (by omega), if_pos (by omega)]
    refine gr_if_ne 11 dX5_keep_6 (by decide) (by unfold gw_in; omega) (fun h6 => ?_) (fun h6 => ?_)
    · refine gr_iconst dX5_keep_11 ?_
      refine gr_istore_n dX5_keep_12 (by decide) ?_
      have loop : ∀ (m i : Nat) (J2 : Nat → Nat → Int), i + m = 36 → (∀ a b, J2 a b = if a = 104 ∧ 36 * k ≤ b ∧ b < 36 * k + i then J 101 (b - 36 * k) else J a b) → gw_G (gw_Cm jX5_keep (d + 1) Q) jX5_keep 13 [some (.inr (some 99)), some (.inl (k : Int)), some (.inl (i : Int))] [] (114, J2, F) 0 0 := by
        intro m
        induction m with
        | zero =>
          intro i J2 hi hJ2
          refine gr_iload_n dX5_keep_13 rfl ?_
          refine gr_bipush dX5_keep_14 (by decide) ?_
          refine gr_icmp_ge 42 dX5_keep_16 (by decide) (by unfold gw_in; omega) (by unfold gw_in; omega) (fun h16 => ?_) (fun h16 => ?_)
          · refine gr_aload_n dX5_keep_42 rfl ?_
            refine gr_getR dX5_keep_43 fX5_19 (by first | assumption | rfl) (by omega) (by decide) rfl (by assumption) ?_
            refine gr_iload_n dX5_keep_46 rfl ?_
            refine gr_iconst dX5_keep_47 ?_
            refine gr_zast (i := k) dX5_keep_48 (by first | assumption | rfl) (by omega) (by omega) (by omega) (by decide) (by omega) ?_
            refine gr_aload_n dX5_keep_49 rfl ?_
            refine gr_getR dX5_keep_50 fX5_13 (by first | assumption | rfl) (by omega) (by decide) rfl (by assumption) ?_
            refine gr_iconst dX5_keep_53 ?_
            refine gr_iald (i := 0) dX5_keep_54 (by first | assumption | rfl) (by omega) (by omega) (by omega) (by decide) ?_
            have hJa : ∀ a, a ≠ 103 → a ≠ 104 → gw_U J2 103 k 1 a = J a := fun a h1 h2 => by
              rw [gw_U_r h1]; exact funext fun b => by rw [hJ2, if_neg (by omega)]
            have e0 : gw_U J2 103 k 1 101 0 = A 19 0 := by rw [hJa 101 (by omega) (by omega)]; exact r3.1
            rw [e0]
            refine gr_iret dX5_keep_55 (by first | exact Or.inl rfl | exact Or.inr ⟨rfl, by omega⟩) (by decide) (by decide) ?_
            rw [← hQ]
            refine ⟨_, _, rfl, rfl, by unfold ga_keep; rw [if_pos h1], fun a ha => hJa a (by omega) (by omega), ⟨by rw [hJa 99 (by omega) (by omega), e 13 (by omega) (by omega) (by omega)]; exact r1, fun p hp r hr => ?_⟩, gm_Q_e (e 19 (by omega) (by omega) (by omega)) (e 20 (by omega) (by omega) (by omega)) (hJa 101 (by omega) (by omega)) r3, ⟨by rw [hJa 99 (by omega) (by omega), e 0 (by omega) (by omega) (by omega)]; exact r4, fun j hj => ?_⟩, fun i hi => ?_, ⟨by rw [hJa 99 (by omega) (by omega), e 0 (by omega) (by omega) (by omega)]; exact r7, fun h hh => ?_⟩, by rw [hJa 99 (by omega) (by omega), e 1 (by omega) (by omega) (by omega)]; exact r9, fun i hi => ?_⟩
            · rw [e 13 (by omega) (by omega) (by omega)] at hp
              rw [hJa 100 (by omega) (by omega), e (14 + r) (by omega) (by omega) (by omega)]; exact r2 p hp r hr
            · rw [e 0 (by omega) (by omega) (by omega)] at hj
              obtain ⟨-, q2, q3, -⟩ := gc_pp hC (show j < 10 by omega)
              exact gm_Q_e (e _ (by omega) (by omega) (by omega)) (e _ (by omega) (by omega) (by omega)) (hJa 102 (by omega) (by omega)) (r5 j hj)
            · by_cases hik : i = k
              · subst hik
                refine ⟨by rw [gw_U_s, hu, if_pos (by omega)], fun _ => gm_Q_A s4 sn (gm_Q_mv (J := J) (q := 101) (b := 0) (by omega) (fun b hb => ?_) r3)⟩
                rw [gw_U_n (by omega), hJ2, if_pos (by omega), Nat.zero_add]
                congr 1
                omega
              · have q72 : A' 72 i = A 72 i := by rw [hu, if_neg (by omega), if_neg (by omega), if_neg (by omega)]
                obtain ⟨s1, s2⟩ := r6 i hi
                obtain ⟨i2, i3, i4⟩ := him i hi
                refine ⟨by rw [gw_U_n (by omega), hJ2, if_neg (by omega), q72]; exact s1, fun q => ?_⟩
                rw [q72] at q
                refine gm_Q_A (A := A) (k := 95 + 2 * i) (fun b _ => by rw [e _ (by omega) (by omega) (by omega)]) (fun b _ => by rw [e _ (by omega) (by omega) (by omega)]) (gm_Q_mv (J := J) (q := 104) (b := 36 * i) (i4 q).1.2 (fun b hb => ?_) (s2 q))
                rw [gw_U_n (by omega), hJ2, if_neg (by omega)]
            · rw [e 0 (by omega) (by omega) (by omega)] at hh
              rw [hJa 105 (by omega) (by omega), hJa 106 (by omega) (by omega), e 73 (by omega) (by omega) (by omega), e 74 (by omega) (by omega) (by omega)]; exact r8 h hh
            · rw [e 1 (by omega) (by omega) (by omega)] at hi
              rw [hJa 109 (by omega) (by omega), e 10 (by omega) (by omega) (by omega)]; exact r10 i hi
          · omega
        | succ m ih =>
          intro i J2 hi hJ2
          refine gr_iload_n dX5_keep_13 rfl ?_
          refine gr_bipush dX5_keep_14 (by decide) ?_
          refine gr_icmp_ge 42 dX5_keep_16 (by decide) (by unfold gw_in; omega) (by unfold gw_in; omega) (fun h16 => ?_) (fun h16 => ?_)
          · omega
          · refine gr_aload_n dX5_keep_19 rfl ?_
            refine gr_getR dX5_keep_20 fX5_23 (by first | assumption | rfl) (by omega) (by decide) rfl (by assumption) ?_
            refine gr_bipush dX5_keep_23 (by decide) ?_
            refine gr_iload_n dX5_keep_25 rfl ?_
            refine gr_imul dX5_keep_26 rfl ?_
            refine gr_iload_n dX5_keep_27 rfl ?_
            refine gr_iadd (v := ((36 * k + i : Nat) : Int)) dX5_keep_28 (by omega) ?_
            refine gr_aload_n dX5_keep_29 rfl ?_
            refine gr_getR dX5_keep_30 fX5_13 (by first | assumption | rfl) (by omega) (by decide) rfl (by assumption) ?_
            refine gr_iload_n dX5_keep_33 rfl ?_
            refine gr_iald (i := i) dX5_keep_34 (by first | assumption | rfl) (by omega) (by omega) (by omega) (by decide) ?_
            rw [show J2 101 i = J 101 i by rw [hJ2, if_neg (by omega)]]
            refine gr_iast (i := 36 * k + i) dX5_keep_35 (by first | assumption | rfl) (by omega) (by omega) (by omega) (by decide) ?_
            refine gr_iinc (v := ((i + 1 : Nat) : Int)) dX5_keep_36 (by decide) rfl (by omega) ?_
            refine gr_goto 13 dX5_keep_39 (by decide) ?_
            exact ih (i + 1) _ (by omega) (fun a b => by
              unfold gw_U
              by_cases h : a = 104 ∧ b = 36 * k + i
              · rw [if_pos h, if_pos (by omega), show b - 36 * k = i by omega]
              · rw [if_neg h, hJ2]
                by_cases h' : a = 104 ∧ 36 * k ≤ b ∧ b < 36 * k + i
                · rw [if_pos h', if_pos (by omega)]
                · rw [if_neg h', if_neg (by omega)])
      exact loop 36 0 _ (by omega) (fun a b => by rw [if_neg (by omega)])
    · omega
  · rw [if_neg h1] at hu
    rw [if_neg h1]
    refine gr_if_ne 11 dX5_keep_6 (by decide) (by unfold gw_in; omega) (fun h6 => ?_) (fun h6 => ?_)
    · omega
    · refine gr_iconst dX5_keep_9 ?_
      refine gr_iret dX5_keep_10 (by first | exact Or.inl rfl | exact Or.inr ⟨rfl, by omega⟩) (by decide) (by decide) ((hQ ▸ ⟨_, _, rfl, rfl, by unfold ga_keep; rw [if_neg h1], fun _ _ => rfl, by rw [hu]; exact hR⟩))
end GM
