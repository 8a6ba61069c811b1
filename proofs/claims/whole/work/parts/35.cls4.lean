/-! ChordSpreads: undo, images, band -/
section GC
variable {I : Nat → Nat → Int} {F : Nat → Nat → Option Nat} {P n : Nat} {pp : Nat → Nat}
/-- piece k becomes 'now'; so many are known -/
def gu_bk (I I' : Nat → Nat → Int) (k : Nat) (u : Int) : Prop := ∀ a b, I' a b = if a = 0 ∧ b = 5 then u else if a = 0 ∧ b = 11 then 0 else if a = 19 ∧ b < 4 then I k b else if a = 20 ∧ (b : Int) < 3 * I k 0 then I (k + 1) b else I a b
theorem gc_D_bk {I' : Nat → Nat → Int} {k : Nat} {u : Int} (hK : gc_K F pp) (hD : gc_D I P n pp) (hk : 21 ≤ k) (hW : gc_W I k) (hN : gp_N (I (k + 1))) (hu5 : 0 ≤ u ∧ u ≤ I 0 5) (hu : gu_bk I I' k u) : gc_D I' P n pp := by
  obtain ⟨b, w, ⟨x1, x2, x3⟩, pa, im, he, so⟩ := id hD
  have e : ∀ a, a ≠ 0 → a ≠ 19 → a ≠ 20 → I' a = I a := fun a h0 h1 h2 => funext fun b => by rw [hu, if_neg (by omega), if_neg (by omega), if_neg (by omega), if_neg (by omega)]
  have e0 : ∀ i, i ≠ 5 → i ≠ 11 → I' 0 i = I 0 i := fun i h1 h2 => by rw [hu, if_neg (by omega), if_neg (by omega), if_neg (by omega), if_neg (by omega)]
  have e11 : I' 0 11 = 0 := by rw [hu, if_neg (by omega), if_pos (by omega)]
  have s4 : ∀ b, b < 4 → I' 19 b = I k b := fun b hb => by rw [hu, if_neg (by omega), if_neg (by omega), if_pos (by omega)]
  have sn : ∀ b : Nat, (b : Int) < 3 * I k 0 → I' 20 b = I (k + 1) b := fun b hb => by rw [hu, if_neg (by omega), if_neg (by omega), if_neg (by omega), if_pos (by omega)]
  refine gc_D_gen hK hD (fun a _ _ => e a (by omega) (by omega) (by omega)) (gc_W_c s4 sn hW) ?_ (gx_T_c (by rw [e 1 (by omega) (by omega) (by omega)]) (e 10 (by omega) (by omega) (by omega)) x1) (fun a _ _ => e a (by omega) (by omega) (by omega)) (e 9 (by omega) (by omega) (by omega)) (by rw [hu, if_pos (by omega)]; exact hu5) (fun a _ _ => e a (by omega) (by omega) (by omega)) (gc_im hD (e 72 (by omega) (by omega) (by omega)) (fun a _ _ => e a (by omega) (by omega) (by omega))) (gc_he hD (e0 10 (by omega) (by omega)) (e 73 (by omega) (by omega) (by omega)) (e 74 (by omega) (by omega) (by omega))) ⟨Or.inl e11, fun h => by omega⟩
  intro i hi
  by_cases h : (i : Int) < 3 * I k 0
  · rw [sn i h]; exact hN i hi
  · rw [hu, if_neg (by omega), if_neg (by omega), if_neg (by omega), if_neg (by omega)]; exact w.2 i hi
def gu_undo (I I' : Nat → Nat → Int) (pp : Nat → Nat) : Prop := if 0 < I 0 5 then gu_bk I I' (pp (I 0 5 - 1).toNat) (I 0 5 - 1) else I' = I
theorem c_undo (d : Nat) (hK : gc_K F pp) (hD : gc_D I P n pp) : gw_Met jX4_undo (d + 1) [.inr (some 0)] (114, I, F) (gw_io F (fun r I' => r = (if 0 < I 0 5 then I 0 5 - 1 else -2) ∧ gu_undo I I' pp ∧ gc_D I' P n pp)) := by
  obtain ⟨k0, k1, k2, k3, k4, k6, k7, k8, k9, k70, k71, kx, kq, kp, kj, ki⟩ := id hK
  obtain ⟨b, w, -, ⟨p1, p2, p3⟩, im, he, so⟩ := id hD
  obtain ⟨-, -, -, -, -, -, -, -, -, -, -, -, -, -, hq19⟩ := id kq
  generalize hQ : gw_io F (fun r I' => r = (if 0 < I 0 5 then I 0 5 - 1 else -2) ∧ gu_undo I I' pp ∧ gc_D I' P n pp) = Q
  refine gw_enter okX4_undo rfl (Nat.le_of_ble_eq_true rfl) ?_
  refine gr_aload_n dX4_undo_0 rfl ?_
  refine gr_getI dX4_undo_1 fX4_41 (by first | assumption | rfl) (by omega) (by decide) rfl ?_
  refine gr_if_gt 10 dX4_undo_4 (by decide) (by unfold gw_in; omega) (fun h4 => ?_) (fun h4 => ?_)
  · obtain ⟨m, hm⟩ : ∃ m : Nat, I 0 5 - 1 = (m : Int) := ⟨(I 0 5 - 1).toNat, by omega⟩
    obtain ⟨q1, q2, q3, q4⟩ := gc_pp hK (show m < 10 by omega)
    have hW := p3 m (by omega)
    have w1 := hW.1
    refine gr_aload_n dX4_undo_10 rfl ?_
    refine gr_dup dX4_undo_11 ?_
    refine gr_getI dX4_undo_12 fX4_41 (by first | assumption | rfl) (by omega) (by decide) rfl ?_
    refine gr_iconst dX4_undo_15 ?_
    refine gr_isub (v := (m : Int)) dX4_undo_16 (by omega) ?_
    refine gr_putI dX4_undo_17 fX4_41 (by first | assumption | rfl) (by omega) (Or.inl rfl) rfl ?_
    refine gr_aload_n dX4_undo_20 rfl ?_
    refine gr_getR dX4_undo_21 fX4_32 (by first | assumption | rfl) (by omega) (by decide) rfl (by assumption) ?_
    refine gr_aload_n dX4_undo_24 rfl ?_
    refine gr_getR dX4_undo_25 fX4_37 (by first | assumption | rfl) (by omega) (by decide) rfl (by assumption) ?_
    refine gr_aload_n dX4_undo_28 rfl ?_
    refine gr_getI dX4_undo_29 fX4_41 (by first | assumption | rfl) (by omega) (by decide) rfl ?_
    rw [gw_U_s]
    refine gr_pald (i := m) dX4_undo_32 (by first | assumption | rfl) (by omega) (by omega) (by omega) (by decide) (k70 m (by omega)) ?_
    have ek : ∀ b, gw_U I 0 5 (m : Int) (pp m) b = I (pp m) b := fun b => gw_U_n (by omega)
    refine gr_virt dX4_undo_33 kX4_86 (as := [_]) rfl rfl (by first | assumption | rfl) (by omega) (Nat.le_of_ble_eq_true rfl) (gw_Rm_m (by omega) (by decide) (by decide)) (c_pbecome (k := 19) (o := pp m) (d + 0) hq19 q1 (by omega) (by omega) (by omega) (by rw [ek]; omega) (by rw [ek]; omega)) ?_
    rintro _ _ ⟨rfl, I2, rfl, hI2⟩
    refine gr_aload_n dX4_undo_36 rfl ?_
    refine gr_iconst dX4_undo_37 ?_
    refine gr_putI dX4_undo_38 fX4_62 (by first | assumption | rfl) (by omega) (Or.inr ⟨rfl, (by omega)⟩) rfl ?_
    refine gr_aload_n dX4_undo_41 rfl ?_
    refine gr_getI dX4_undo_42 fX4_41 (by first | assumption | rfl) (by omega) (by decide) rfl ?_
    have hu : gu_bk I (gw_U I2 0 11 0) (pp m) (m : Int) := by
      intro a b
      have h2 := hI2 a b
      rw [ek, ek, show gw_U I 0 5 (m : Int) (pp m + 1) b = I (pp m + 1) b from gw_U_n (by omega)] at h2
      unfold gw_U at h2 ⊢
      grind
    have e5 : gw_U I2 0 11 0 0 5 = (m : Int) := by rw [hu, if_pos (by omega)]
    refine gr_iret dX4_undo_45 (by first | exact Or.inl rfl | exact Or.inr ⟨rfl, by omega⟩) (by decide) (by decide) ?_
    rw [← hQ]
    refine ⟨_, _, rfl, rfl, ?_, ?_, gc_D_bk hK hD (by omega) hW (p2 m (by omega)) (by omega) hu⟩
    · rw [e5, if_pos h4, hm]
    · unfold gu_undo
      rw [if_pos h4, hm, Int.toNat_natCast]
      exact hu
  · refine gr_bipush dX4_undo_7 (by decide) ?_
    refine gr_iret dX4_undo_9 (by first | exact Or.inl rfl | exact Or.inr ⟨rfl, by omega⟩) (by decide) (by decide) ((hQ ▸ ⟨_, _, rfl, rfl, by rw [if_neg (by omega)], by unfold gu_undo; rw [if_neg (by omega)], hD⟩))
def gu_back (I I' : Nat → Nat → Int) (i : Int) : Prop := if (0 ≤ i ∧ i ≤ 1) ∧ I 72 i.toNat = 1 then gu_bk I I' (95 + 2 * i.toNat) 0 else I' = I
def ga_back (I : Nat → Nat → Int) (i : Int) : Int := if 0 ≤ i ∧ i ≤ 1 then (if I 72 i.toNat = 1 then I (95 + 2 * i.toNat) 0 else -2) else -1
theorem c_back {i : Int} (d : Nat) (hK : gc_K F pp) (hD : gc_D I P n pp) (hi : gw_in i) : gw_Met jX4_back (d + 1) [.inr (some 0), .inl i] (114, I, F) (gw_io F (fun r I' => r = ga_back I i ∧ gu_back I I' i ∧ gc_D I' P n pp)) := by
  obtain ⟨k0, k1, k2, k3, k4, k6, k7, k8, k9, k70, k71, kx, kq, kp, kj, ki⟩ := id hK
  obtain ⟨b, w, -, ⟨p1, p2, p3⟩, im, he, so⟩ := id hD
  obtain ⟨-, -, -, -, -, -, -, -, -, -, -, -, -, -, hq19⟩ := id kq
  generalize hQ : gw_io F (fun r I' => r = ga_back I i ∧ gu_back I I' i ∧ gc_D I' P n pp) = Q
  refine gw_enter okX4_back rfl (Nat.le_of_ble_eq_true rfl) ?_
  refine gr_iload_n dX4_back_0 rfl ?_
  refine gr_iconst dX4_back_1 ?_
  refine gr_iconst dX4_back_2 ?_
  refine gr_stat dX4_back_3 kX4_143 (as := [_, _, _]) rfl rfl (Nat.le_of_ble_eq_true rfl) (gw_Rm_m (by omega) (by decide) (by decide)) (c_isWithin d hi (by unfold gw_in; omega) (by unfold gw_in; omega)) ?_
  rintro _ _ ⟨rfl, rfl⟩
  by_cases h1 : 0 ≤ i ∧ i ≤ 1
  · rw [if_pos h1]
    refine gr_if_ne 11 dX4_back_6 (by decide) (by unfold gw_in; omega) (fun h6 => ?_) (fun h6 => ?_)
    · obtain ⟨m, rfl⟩ : ∃ m : Nat, i = (m : Int) := ⟨i.toNat, by omega⟩
      obtain ⟨i2, i3, i4⟩ := im m (by omega)
      have q1 := gc_pK hK (show 10 + m < 12 by omega)
      rw [show 75 + 2 * (10 + m) = 95 + 2 * m by omega] at q1
      refine gr_aload_n dX4_back_11 rfl ?_
      refine gr_getR dX4_back_12 fX4_48 (by first | assumption | rfl) (by omega) (by decide) rfl (by assumption) ?_
      refine gr_iload_n dX4_back_15 rfl ?_
      refine gr_zald (i := m) dX4_back_16 (by first | assumption | rfl) (by omega) (by omega) (by omega) (by decide) ?_
      refine gr_if_ne 23 dX4_back_17 (by decide) (by unfold gw_in; omega) (fun h17 => ?_) (fun h17 => ?_)
      · have h72 : I 72 m = 1 := by omega
        have hW := i4 h72
        have w1 := hW.1
        refine gr_aload_n dX4_back_23 rfl ?_
        refine gr_getR dX4_back_24 fX4_32 (by first | assumption | rfl) (by omega) (by decide) rfl (by assumption) ?_
        refine gr_aload_n dX4_back_27 rfl ?_
        refine gr_getR dX4_back_28 fX4_45 (by first | assumption | rfl) (by omega) (by decide) rfl (by assumption) ?_
        refine gr_iload_n dX4_back_31 rfl ?_
        refine gr_pald (i := m) dX4_back_32 (by first | assumption | rfl) (by omega) (by omega) (by omega) (by decide) (k71 m (by omega)) ?_
        refine gr_virt dX4_back_33 kX4_86 (as := [_]) rfl rfl (by first | assumption | rfl) (by omega) (Nat.le_of_ble_eq_true rfl) (gw_Rm_m (by omega) (by decide) (by decide)) (c_pbecome (k := 19) (o := 95 + 2 * m) (d + 0) hq19 q1 (by omega) (by omega) (by omega) (by omega) (by omega)) ?_
        rintro _ _ ⟨rfl, I2, rfl, hI2⟩
        refine gr_aload_n dX4_back_36 rfl ?_
        refine gr_iconst dX4_back_37 ?_
        refine gr_putI dX4_back_38 fX4_41 (by first | assumption | rfl) (by omega) (Or.inl rfl) rfl ?_
        refine gr_aload_n dX4_back_41 rfl ?_
        refine gr_iconst dX4_back_42 ?_
        refine gr_putI dX4_back_43 fX4_62 (by first | assumption | rfl) (by omega) (Or.inr ⟨rfl, (by omega)⟩) rfl ?_
        refine gr_aload_n dX4_back_46 rfl ?_
        refine gr_getR dX4_back_47 fX4_32 (by first | assumption | rfl) (by omega) (by decide) rfl (by assumption) ?_
        refine gr_getI dX4_back_50 fX4_122 (by first | assumption | rfl) (by omega) (by decide) rfl ?_
        have hu : gu_bk I (gw_U (gw_U I2 0 5 0) 0 11 0) (95 + 2 * m) 0 := by
          intro a b
          have h2 := hI2 a b
          unfold gw_U
          grind
        have e5 : gw_U (gw_U I2 0 5 0) 0 11 0 19 0 = I (95 + 2 * m) 0 := by rw [hu, if_neg (by omega), if_neg (by omega), if_pos (by omega)]
        refine gr_iret dX4_back_53 (by first | exact Or.inl rfl | exact Or.inr ⟨rfl, by omega⟩) (by decide) (by decide) ?_
        rw [← hQ]
        refine ⟨_, _, rfl, rfl, ?_, ?_, gc_D_bk hK hD (by omega) hW (by rw [show 95 + 2 * m + 1 = 96 + 2 * m by omega]; exact i3) (by omega) hu⟩
        · rw [e5]; unfold ga_back; rw [if_pos h1, Int.toNat_natCast, if_pos h72]
        · unfold gu_back
          rw [Int.toNat_natCast, if_pos ⟨h1, h72⟩]
          exact hu
      · refine gr_bipush dX4_back_20 (by decide) ?_
        refine gr_iret dX4_back_22 (by first | exact Or.inl rfl | exact Or.inr ⟨rfl, by omega⟩) (by decide) (by decide) ((hQ ▸ ⟨_, _, rfl, rfl, by unfold ga_back; rw [if_pos h1, Int.toNat_natCast, if_neg (by omega)], by unfold gu_back; rw [Int.toNat_natCast, if_neg (by omega)], hD⟩))
    · omega
  · rw [if_neg h1]
    refine gr_if_ne 11 dX4_back_6 (by decide) (by unfold gw_in; omega) (fun h6 => ?_) (fun h6 => ?_)
    · omega
    · refine gr_iconst dX4_back_9 ?_
      refine gr_iret dX4_back_10 (by first | exact Or.inl rfl | exact Or.inr ⟨rfl, by omega⟩) (by decide) (by decide) ((hQ ▸ ⟨_, _, rfl, rfl, by unfold ga_back; rw [if_neg h1], by unfold gu_back; rw [if_neg (fun h => h1 h.1)], hD⟩))
def gu_keep (I I' : Nat → Nat → Int) (i : Int) : Prop := if 0 ≤ i ∧ i ≤ 1 then ∀ a b, I' a b = if a = 72 ∧ b = i.toNat then 1 else if a = 95 + 2 * i.toNat ∧ b < 4 then I 19 b else if a = 95 + 2 * i.toNat + 1 ∧ (b : Int) < 3 * I 19 0 then I 20 b else I a b else I' = I
def ga_keep (I : Nat → Nat → Int) (i : Int) : Int := if 0 ≤ i ∧ i ≤ 1 then I 19 0 else -1
theorem gc_D_keep {I' : Nat → Nat → Int} {i : Int} (hK : gc_K F pp) (hD : gc_D I P n pp) (hu : gu_keep I I' i) : gc_D I' P n pp := by
  unfold gu_keep at hu
  by_cases hc : 0 ≤ i ∧ i ≤ 1
  · rw [if_pos hc] at hu
    obtain ⟨m, rfl⟩ : ∃ m : Nat, i = (m : Int) := ⟨i.toNat, by omega⟩
    rw [Int.toNat_natCast] at hu
    obtain ⟨b, w, ⟨x1, x2, x3⟩, pa, im, he, so⟩ := id hD
    have e : ∀ a, a ≠ 72 → a ≠ 95 + 2 * m → a ≠ 95 + 2 * m + 1 → I' a = I a := fun a h0 h1 h2 => funext fun b => by rw [hu, if_neg (by omega), if_neg (by omega), if_neg (by omega)]
    refine gc_D_gen hK hD (fun a _ _ => e a (by omega) (by omega) (by omega)) (gc_W_e (e 19 (by omega) (by omega) (by omega)) (e 20 (by omega) (by omega) (by omega)) w.1) (by rw [e 20 (by omega) (by omega) (by omega)]; exact w.2) (gx_T_c (by rw [e 1 (by omega) (by omega) (by omega)]) (e 10 (by omega) (by omega) (by omega)) x1) (fun a _ _ => e a (by omega) (by omega) (by omega)) (e 9 (by omega) (by omega) (by omega)) (by rw [e 0 (by omega) (by omega) (by omega)]; have := pa.1; omega) (fun a _ _ => e a (by omega) (by omega) (by omega)) (fun j hj => ?_) (gc_he hD (by rw [e 0 (by omega) (by omega) (by omega)]) (e 73 (by omega) (by omega) (by omega)) (e 74 (by omega) (by omega) (by omega))) (gc_so hD (by rw [e 0 (by omega) (by omega) (by omega)]) (fun a _ _ => e a (by omega) (by omega) (by omega)) (by rw [e 12 (by omega) (by omega) (by omega)]) (e 69 (by omega) (by omega) (by omega)))
    by_cases hjm : j = m
    · subst hjm
      refine ⟨Or.inr (by rw [hu, if_pos (by omega)]), fun i hi => ?_, fun _ => gc_W_c (k := 19) (fun b hb => by rw [hu, if_neg (by omega), if_pos (by omega)]) (fun b hb => by rw [hu, if_neg (by omega), if_neg (by omega), if_pos (by omega)]) w.1⟩
      by_cases h : (i : Int) < 3 * I 19 0
      · rw [hu, if_neg (by omega), if_neg (by omega), if_pos (by omega)]; exact w.2 i hi
      · rw [hu, if_neg (by omega), if_neg (by omega), if_neg (by omega)]; exact (im j hj).2.1 i hi
    · obtain ⟨i2, i3, i4⟩ := im j hj
      have e72 : I' 72 j = I 72 j := by rw [hu, if_neg (by omega), if_neg (by omega), if_neg (by omega)]
      rw [e72, e (96 + 2 * j) (by omega) (by omega) (by omega)]
      exact ⟨i2, i3, fun h1 => gc_W_e (e _ (by omega) (by omega) (by omega)) (e _ (by omega) (by omega) (by omega)) (i4 h1)⟩
  · rw [if_neg hc] at hu
    rw [hu]; exact hD
theorem c_keep {i : Int} (d : Nat) (hK : gc_K F pp) (hD : gc_D I P n pp) (hi : gw_in i) : gw_Met jX4_keep (d + 1) [.inr (some 0), .inl i] (114, I, F) (gw_io F (fun r I' => r = ga_keep I i ∧ gu_keep I I' i ∧ gc_D I' P n pp)) := by
  obtain ⟨k0, k1, k2, k3, k4, k6, k7, k8, k9, k70, k71, kx, kq, kp, kj, ki⟩ := id hK
  obtain ⟨b, w, -, ⟨p1, p2, p3⟩, im, he, so⟩ := id hD
  obtain ⟨-, -, -, -, -, -, -, -, -, -, -, -, -, -, hq19⟩ := id kq
  have w1 := w.1.1
  generalize hQ : gw_io F (fun r I' => r = ga_keep I i ∧ gu_keep I I' i ∧ gc_D I' P n pp) = Q
  refine gw_enter okX4_keep rfl (Nat.le_of_ble_eq_true rfl) ?_
  refine gr_iload_n dX4_keep_0 rfl ?_
  refine gr_iconst dX4_keep_1 ?_
  refine gr_iconst dX4_keep_2 ?_
  refine gr_stat dX4_keep_3 kX4_143 (as := [_, _, _]) rfl rfl (Nat.le_of_ble_eq_true rfl) (gw_Rm_m (by omega) (by decide) (by decide)) (c_isWithin d hi (by unfold gw_in; omega) (by unfold gw_in; omega)) ?_
  rintro _ _ ⟨rfl, rfl⟩
  by_cases h1 : 0 ≤ i ∧ i ≤ 1
  · rw [if_pos h1]
    refine gr_if_ne 11 dX4_keep_6 (by decide) (by unfold gw_in; omega) (fun h6 => ?_) (fun h6 => ?_)
    · obtain ⟨m, rfl⟩ : ∃ m : Nat, i = (m : Int) := ⟨i.toNat, by omega⟩
      have q1 := gc_pK hK (show 10 + m < 12 by omega)
      rw [show 75 + 2 * (10 + m) = 95 + 2 * m by omega] at q1
      obtain ⟨q2, -⟩ := id q1
      refine gr_aload_n dX4_keep_11 rfl ?_
      refine gr_getR dX4_keep_12 fX4_45 (by first | assumption | rfl) (by omega) (by decide) rfl (by assumption) ?_
      refine gr_iload_n dX4_keep_15 rfl ?_
      refine gr_pald (i := m) dX4_keep_16 (by first | assumption | rfl) (by omega) (by omega) (by omega) (by decide) (k71 m (by omega)) ?_
      refine gr_aload_n dX4_keep_17 rfl ?_
      refine gr_getR dX4_keep_18 fX4_32 (by first | assumption | rfl) (by omega) (by decide) rfl (by assumption) ?_
      refine gr_virt dX4_keep_21 kX4_86 (as := [_]) rfl rfl (by first | assumption | rfl) (by omega) (Nat.le_of_ble_eq_true rfl) (gw_Rm_m (by omega) (by decide) (by decide)) (c_pbecome (k := 95 + 2 * m) (o := 19) (d + 0) q1 hq19 (by omega) (by omega) (by omega) (by omega) (by omega)) ?_
      rintro _ _ ⟨rfl, I2, rfl, hI2⟩
      refine gr_aload_n dX4_keep_24 rfl ?_
      refine gr_getR dX4_keep_25 fX4_48 (by first | assumption | rfl) (by omega) (by decide) rfl (by assumption) ?_
      refine gr_iload_n dX4_keep_28 rfl ?_
      refine gr_iconst dX4_keep_29 ?_
      refine gr_zast (i := m) dX4_keep_30 (by first | assumption | rfl) (by omega) (by omega) (by omega) (by decide) (by omega) ?_
      refine gr_aload_n dX4_keep_31 rfl ?_
      refine gr_getR dX4_keep_32 fX4_32 (by first | assumption | rfl) (by omega) (by decide) rfl (by assumption) ?_
      refine gr_getI dX4_keep_35 fX4_122 (by first | assumption | rfl) (by omega) (by decide) rfl ?_
      have hu : gu_keep I (gw_U I2 72 m 1) (m : Int) := by
        unfold gu_keep
        rw [if_pos h1, Int.toNat_natCast]
        intro a b
        have h2 := hI2 a b
        unfold gw_U
        grind
      refine gr_iret dX4_keep_38 (by first | exact Or.inl rfl | exact Or.inr ⟨rfl, by omega⟩) (by decide) (by decide) ?_
      rw [← hQ]
      refine ⟨_, _, rfl, rfl, ?_, hu, gc_D_keep hK hD hu⟩
      rw [gw_U_n (by omega), hI2, if_neg (by omega), if_neg (by omega)]
      unfold ga_keep
      rw [if_pos h1]
    · omega
  · have hu : gu_keep I I i := by unfold gu_keep; rw [if_neg h1]
    rw [if_neg h1]
    refine gr_if_ne 11 dX4_keep_6 (by decide) (by unfold gw_in; omega) (fun h6 => ?_) (fun h6 => ?_)
    · omega
    · refine gr_iconst dX4_keep_9 ?_
      refine gr_iret dX4_keep_10 (by first | exact Or.inl rfl | exact Or.inr ⟨rfl, by omega⟩) (by decide) (by decide) ((hQ ▸ ⟨_, _, rfl, rfl, by unfold ga_keep; rw [if_neg h1], hu, hD⟩))
/-- the rows as the text tells them -/
def gu_new (I' : Nat → Nat → Int) (st : gt_S) : Prop := I' 13 0 = (st.1 : Int) ∧ (∀ r p, 1 ≤ r → r ≤ 5 → p < st.1 → I' (13 + r) p = st.2.1 r p) ∧ I' 19 0 = (st.2.2.1 : Int) ∧ I' 19 1 = 2 ^ st.1 - 1 ∧ I' 19 2 = st.2.2.2.2.1 ∧ I' 19 3 = st.2.2.2.2.2.1 ∧ (∀ i, i < 3 * st.2.2.1 → I' 20 i = st.2.2.2.1 i) ∧ I' 0 5 = 0 ∧ I' 0 10 = 0 ∧ I' 72 0 = 0 ∧ I' 72 1 = 0 ∧ I' 1 2 = 0 ∧ I' 10 = I' 10
def gu_band (I I' : Nat → Nat → Int) (n : Nat) (r : Int) : Prop := (∀ a, 99 ≤ a → I' a = I a) ∧ match gt_band (I 10) n with
  | .inl f => r = -10 - (f : Int) ∧ gx_fr I I'
  | .inr (items, st) => r = (items : Int) ∧ gt_ok st ∧ gu_new I' st
def gt_le (n : Nat) (o : Nat ⊕ (Nat × gt_S)) : Prop := match o with
  | .inl f => f ≤ n
  | .inr q => q.1 ≤ n
theorem gt_end_le {T : Nat → Int} {n e : Nat} {st : gt_S} (h : e ≤ n) : gt_le n (gt_end T n e st) := by
  have := gt_sk_in (T := T) h
  unfold gt_end
  split
  · rename_i h1; show gt_sk T n e + 1 ≤ n; omega
  · show gt_sk T n e ≤ n; omega
theorem gt_player_le {T : Nat → Int} {n a : Nat} {st : gt_S} {k : Int} (h : a < n) : gt_le n (gt_player T n st k a) := by
  unfold gt_player
  split
  · show a ≤ n; omega
  · cases h1 : gt_num T n 0 60 (a + 1) with
    | none => exact (gt_sk_in (T := T) (show a + 1 ≤ n by omega)).2
    | some q1 =>
      obtain ⟨e1, v1⟩ := q1
      have b1 := gt_num_in h1 (by omega)
      simp only
      cases h2 : gt_num T n v1 60 e1 with
      | none => exact (gt_sk_in (T := T) (show e1 ≤ n by omega)).2
      | some q2 =>
        obtain ⟨e2, v2⟩ := q2
        have b2 := gt_num_in h2 (by omega)
        simp only
        cases h3 : gt_num T n 2 9 e2 with
        | none => exact (gt_sk_in (T := T) (show e2 ≤ n by omega)).2
        | some q3 =>
          obtain ⟨e3, v3⟩ := q3
          have b3 := gt_num_in h3 (by omega)
          simp only
          split
          · cases h4 : gt_num T n 0 12 e3 with
            | none => exact (gt_sk_in (T := T) (show e3 ≤ n by omega)).2
            | some q4 =>
              obtain ⟨e4, v4⟩ := q4
              have b4 := gt_num_in h4 (by omega)
              exact gt_end_le (by omega)
          · exact gt_end_le (by omega)
theorem gt_chord_le {T : Nat → Int} {n a : Nat} {st : gt_S} (h : a < n) : gt_le n (gt_chord T n st a) := by
  unfold gt_chord
  split
  · show a ≤ n; omega
  · cases h1 : gt_num T n 0 60 (a + 1) with
    | none => exact (gt_sk_in (T := T) (show a + 1 ≤ n by omega)).2
    | some q1 =>
      obtain ⟨e1, v1⟩ := q1
      have b1 := gt_num_in h1 (by omega)
      simp only
      split
      · rename_i hq; show gt_sk T n e1 + 1 ≤ n; omega
      · cases h2 : gt_num T n (v1 + 1) 60 e1 with
        | none => exact (gt_sk_in (T := T) (show e1 ≤ n by omega)).2
        | some q2 =>
          obtain ⟨e2, v2⟩ := q2
          have b2 := gt_num_in h2 (by omega)
          simp only
          split
          · rename_i hq; show gt_sk T n e2 + 1 ≤ n; omega
          · cases h3 : gt_num T n (v2 + 1) 60 e2 with
            | none => exact (gt_sk_in (T := T) (show e2 ≤ n by omega)).2
            | some q3 =>
              obtain ⟨e3, v3⟩ := q3
              have b3 := gt_num_in h3 (by omega)
              simp only
              split
              · rename_i hq; show gt_sk T n e3 + 1 ≤ n; omega
              · exact (gt_sk_in (T := T) (show e3 ≤ n by omega)).2
theorem gt_rules_le {T : Nat → Int} {n a : Nat} {st : gt_S} (h : a < n) : gt_le n (gt_rules T n st a) := by
  unfold gt_rules
  split
  · show a ≤ n; omega
  · cases h1 : gt_num T n 0 20 (a + 1) with
    | none => exact (gt_sk_in (T := T) (show a + 1 ≤ n by omega)).2
    | some q1 =>
      obtain ⟨e1, v1⟩ := q1
      have b1 := gt_num_in h1 (by omega)
      simp only
      cases h2 : gt_num T n 0 30 e1 with
      | none => exact (gt_sk_in (T := T) (show e1 ≤ n by omega)).2
      | some q2 =>
        obtain ⟨e2, v2⟩ := q2
        have b2 := gt_num_in h2 (by omega)
        exact gt_end_le (by omega)
theorem gt_item_le {T : Nat → Int} {n a : Nat} {st : gt_S} (h : a < n) : gt_le n (gt_item T n st a) := by
  unfold gt_item
  split
  · exact gt_player_le h
  · split
    · exact gt_player_le h
    · split
      · exact gt_player_le h
      · split
        · exact gt_chord_le h
        · split
          · exact gt_rules_le h
          · show a ≤ n; omega
theorem gt_loop_le {T : Nat → Int} {n : Nat} : ∀ (m a items : Nat) (st : gt_S), a ≤ n → match gt_loop T n m a items st with
    | .inl f => f ≤ n
    | .inr q => q.1 ≤ items + m
  | 0, a, items, st, h => h
  | m + 1, a, items, st, h => by
    have hs := gt_sk_in (T := T) h
    unfold gt_loop
    by_cases h1 : n ≤ gt_sk T n a
    · rw [if_pos h1]; show items ≤ _; omega
    · rw [if_neg h1]
      have hi := gt_item_le (T := T) (st := st) (show gt_sk T n a < n by omega)
      cases h2 : gt_item T n st (gt_sk T n a) with
      | inl f => rw [h2] at hi; exact hi
      | inr q =>
        obtain ⟨e, st'⟩ := q
        rw [h2] at hi
        have := gt_loop_le (T := T) m e (items + 1) st' hi
        simp only
        cases h3 : gt_loop T n m e (items + 1) st' with
        | inl f => rw [h3] at this; exact this
        | inr q => rw [h3] at this; show q.1 ≤ _; have t : q.1 ≤ items + 1 + m := this; omega
theorem gt_band_le (T : Nat → Int) (n : Nat) : match gt_band T n with
    | .inl f => f ≤ n
    | .inr q => q.1 ≤ 200 := by
  have := gt_loop_le (T := T) (n := n) 200 0 0 gt_S0 (by omega)
  unfold gt_band
  revert this
  cases gt_loop T n 200 0 0 gt_S0 with
  | inl f => exact id
  | inr q => intro h; show q.1 ≤ 200; have t : q.1 ≤ 0 + 200 := h; omega
/-- no third note without a second -/
def gt_w (st : gt_S) : Prop := ∀ c, c < st.2.2.1 → st.2.2.2.1 (3 * c + 1) = -1 → st.2.2.2.1 (3 * c + 2) = -1
def gt_wo (o : Nat ⊕ (Nat × gt_S)) : Prop := match o with
  | .inl _ => True
  | .inr q => gt_w q.2
theorem gt_end_w {T : Nat → Int} {n e : Nat} {st : gt_S} (h : gt_w st) : gt_wo (gt_end T n e st) := by
  unfold gt_end
  split
  · exact h
  · trivial
theorem gt_put_w {st : gt_S} {x y z : Int} (h : gt_w st) (hy : y = -1 → z = -1) : gt_w (gt_put st x y z) := by
  intro c hc
  have hc : c < st.2.2.1 + 1 := hc
  show (if 3 * c + 1 = 3 * st.2.2.1 then x else if 3 * c + 1 = 3 * st.2.2.1 + 1 then y else if 3 * c + 1 = 3 * st.2.2.1 + 2 then z else st.2.2.2.1 (3 * c + 1)) = -1 → (if 3 * c + 2 = 3 * st.2.2.1 then x else if 3 * c + 2 = 3 * st.2.2.1 + 1 then y else if 3 * c + 2 = 3 * st.2.2.1 + 2 then z else st.2.2.2.1 (3 * c + 2)) = -1
  by_cases h1 : c = st.2.2.1
  · rw [if_neg (by omega), if_pos (by omega), if_neg (by omega), if_neg (by omega), if_pos (by omega)]; exact hy
  · rw [if_neg (by omega), if_neg (by omega), if_neg (by omega), if_neg (by omega), if_neg (by omega), if_neg (by omega)]; exact h c (by omega)
theorem gt_player_w {T : Nat → Int} {n a : Nat} {st : gt_S} {k : Int} (h : gt_w st) : gt_wo (gt_player T n st k a) := by
  unfold gt_player
  split
  · trivial
  · cases h1 : gt_num T n 0 60 (a + 1) with
    | none => trivial
    | some q1 =>
      simp only
      cases h2 : gt_num T n q1.2 60 q1.1 with
      | none => trivial
      | some q2 =>
        simp only
        cases h3 : gt_num T n 2 9 q2.1 with
        | none => trivial
        | some q3 =>
          simp only
          split
          · cases h4 : gt_num T n 0 12 q3.1 with
            | none => trivial
            | some q4 => exact gt_end_w h
          · exact gt_end_w h
theorem gt_chord_w {T : Nat → Int} {n a : Nat} {st : gt_S} (ha : a < n) (h : gt_w st) : gt_wo (gt_chord T n st a) := by
  unfold gt_chord
  split
  · trivial
  · cases h1 : gt_num T n 0 60 (a + 1) with
    | none => trivial
    | some q1 =>
      obtain ⟨e1, v1⟩ := q1
      have b1 := gt_num_in h1 (by omega)
      simp only
      split
      · exact gt_put_w h (fun _ => rfl)
      · cases h2 : gt_num T n (v1 + 1) 60 e1 with
        | none => trivial
        | some q2 =>
          obtain ⟨e2, v2⟩ := q2
          have b2 := gt_num_in h2 (by omega)
          simp only
          split
          · exact gt_put_w h (fun _ => rfl)
          · cases h3 : gt_num T n (v2 + 1) 60 e2 with
            | none => trivial
            | some q3 =>
              simp only
              split
              · exact gt_put_w h (fun hq => by omega)
              · trivial
theorem gt_rules_w {T : Nat → Int} {n a : Nat} {st : gt_S} (h : gt_w st) : gt_wo (gt_rules T n st a) := by
  unfold gt_rules
  split
  · trivial
  · cases h1 : gt_num T n 0 20 (a + 1) with
    | none => trivial
    | some q1 =>
      simp only
      cases h2 : gt_num T n 0 30 q1.1 with
      | none => trivial
      | some q2 => exact gt_end_w h
theorem gt_item_w {T : Nat → Int} {n a : Nat} {st : gt_S} (ha : a < n) (h : gt_w st) : gt_wo (gt_item T n st a) := by
  unfold gt_item
  split
  · exact gt_player_w h
  · split
    · exact gt_player_w h
    · split
      · exact gt_player_w h
      · split
        · exact gt_chord_w ha h
        · split
          · exact gt_rules_w h
          · trivial
theorem gt_loop_w {T : Nat → Int} {n : Nat} : ∀ (m a items : Nat) (st : gt_S), gt_w st → gt_wo (gt_loop T n m a items st)
  | 0, a, items, st, h => trivial
  | m + 1, a, items, st, h => by
    unfold gt_loop
    by_cases h1 : n ≤ gt_sk T n a
    · rw [if_pos h1]; exact h
    · rw [if_neg h1]
      have hi := gt_item_w (T := T) (st := st) (show gt_sk T n a < n by omega) h
      cases h2 : gt_item T n st (gt_sk T n a) with
      | inl f => trivial
      | inr q =>
        rw [h2] at hi
        exact gt_loop_w m q.1 (items + 1) q.2 hi
theorem gt_band_w (T : Nat → Int) (n : Nat) : gt_wo (gt_band T n) := gt_loop_w 200 0 0 gt_S0 (fun c hc => absurd hc (by simp [gt_S0]))
theorem gp_2p {P : Nat} (h : P ≤ 4) : (2 : Int) ^ P - 1 < 16 ∧ 0 ≤ (2 : Int) ^ P - 1 := by
  rcases (show P = 0 ∨ P = 1 ∨ P = 2 ∨ P = 3 ∨ P = 4 by omega) with rfl | rfl | rfl | rfl | rfl <;> decide
theorem c_band (d : Nat) (hK : gc_K F pp) (hD : gc_D I P n pp) : gw_Met jX4_band (d + 7) [.inr (some 0)] (114, I, F) (gw_io F (fun r I' => gu_band I I' n r ∧ ∃ P' n', gc_D I' P' n' pp)) := by
  obtain ⟨k0, k1, k2, k3, k4, k6, k7, k8, k9, k70, k71, kx, kq, kp, kj, ki⟩ := id hK
  obtain ⟨b, w, ⟨x1, x2, x3⟩, ⟨p1, p2, p3⟩, im, he, so⟩ := id hD
  obtain ⟨-, -, -, -, -, -, -, -, -, -, -, -, -, kb13, hq19⟩ := id kq
  obtain ⟨kx0, kx1, kx3, kx4, kb2, kp8⟩ := id kx
  generalize hQ : gw_io F (fun r I' => gu_band I I' n r ∧ ∃ P' n', gc_D I' P' n' pp) = Q
  refine gw_enter okX4_band rfl (Nat.le_of_ble_eq_true rfl) ?_
  refine gr_aload_n dX4_band_0 rfl ?_
  refine gr_getR dX4_band_1 fX4_10 (by first | assumption | rfl) (by omega) (by decide) rfl (by assumption) ?_
  refine gr_virt dX4_band_4 kX4_74 (as := []) rfl rfl (by first | assumption | rfl) (by omega) (Nat.le_of_ble_eq_true rfl) (gw_Rm_m (by omega) (by decide) (by decide)) (c_read (d + 0) kx x1 x2 x3) ?_
  rintro _ _ ⟨r, I1, rfl, rfl, hfr, hB1, hN1, hres⟩
  have e1 : ∀ a, a ≠ 1 → ¬ (2 ≤ a ∧ a ≤ 9) → a ≠ 11 → I1 a = I a := fun a h1 h2 h3 => funext fun i => hfr a i (by omega) h2 h3
  have e12 : I1 1 2 = I 1 2 := hfr 1 2 (by omega) (by omega) (by omega)
  have T1 := gx_T_fr hfr x1
  cases hb : gt_band (I 10) n with
  | inl f =>
    rw [hb] at hres
    simp only at hres
    refine gr_istore_n dX4_band_7 (by decide) ?_
    refine gr_iload_n dX4_band_8 rfl ?_
    rw [hres]
    have hf : gw_in (-10 - (f : Int)) := by
      have := gt_band_le (I 10) n
      rw [hb] at this
      have t : f ≤ n := this
      have := x1.2.1
      unfold gw_in
      omega
    refine gr_if_ge 14 dX4_band_9 (by decide) hf (fun h9 => ?_) (fun h9 => ?_)
    · omega
    · refine gr_iload_n dX4_band_12 rfl ?_
      refine gr_iret dX4_band_13 (by first | exact Or.inl rfl | exact Or.inr ⟨rfl, by omega⟩) (by decide) (by decide) ?_
      rw [← hQ]
      refine ⟨_, _, rfl, rfl, ⟨fun a ha => e1 a (by omega) (by omega) (by omega), ?_⟩, P, n, ?_⟩
      · rw [hb]; exact ⟨rfl, hfr⟩
      · obtain ⟨b1, b2, b3, b4, b5⟩ := b
        refine ⟨⟨by rw [e1 13 (by omega) (by omega) (by omega)]; exact b1, gb_B_c (fun a _ _ => e1 a (by omega) (by omega) (by omega)) b2, by rw [e1 14 (by omega) (by omega) (by omega)]; exact b3, b4, by rw [e1 17 (by omega) (by omega) (by omega)]; exact b5⟩, ⟨gc_W_e (e1 19 (by omega) (by omega) (by omega)) (e1 20 (by omega) (by omega) (by omega)) w.1, by rw [e1 20 (by omega) (by omega) (by omega)]; exact w.2⟩, ⟨T1.1, hB1, hN1⟩, ⟨by rw [e1 0 (by omega) (by omega) (by omega)]; exact p1, fun j hj => ?_, fun j hj => ?_⟩, gc_im hD (e1 72 (by omega) (by omega) (by omega)) (fun a _ _ => e1 a (by omega) (by omega) (by omega)), gc_he hD (by rw [e1 0 (by omega) (by omega) (by omega)]) (e1 73 (by omega) (by omega) (by omega)) (e1 74 (by omega) (by omega) (by omega)), gc_so hD (by rw [e1 0 (by omega) (by omega) (by omega)]) (fun a _ _ => e1 a (by omega) (by omega) (by omega)) (by rw [e1 12 (by omega) (by omega) (by omega)]) (e1 69 (by omega) (by omega) (by omega))⟩
        · obtain ⟨-, r2, r3, r4⟩ := gc_pp hK hj
          rw [e1 _ (by omega) (by omega) (by omega)]; exact p2 j hj
        · rw [e1 0 (by omega) (by omega) (by omega)] at hj
          obtain ⟨-, r2, r3, r4⟩ := gc_pp hK (show j < 10 by omega)
          exact gc_W_e (e1 _ (by omega) (by omega) (by omega)) (e1 _ (by omega) (by omega) (by omega)) (p3 j hj)
  | inr q =>
    obtain ⟨items, st⟩ := q
    rw [hb] at hres
    simp only at hres
    obtain ⟨rfl, hst, hok, h81⟩ := hres
    obtain ⟨s1, s2, s3, s4, s5, s6, s7, s8⟩ := hst
    obtain ⟨o1, o2, o3, o4, o5, o6, o7⟩ := id hok
    have hw : gt_w st := by
      have t := gt_band_w (I 10) n
      rw [hb] at t
      exact t
    have hit : gw_in (items : Int) := by
      have := gt_band_le (I 10) n
      rw [hb] at this
      have t : items ≤ 200 := this
      unfold gw_in
      omega
    refine gr_istore_n dX4_band_7 (by decide) ?_
    refine gr_iload_n dX4_band_8 rfl ?_
    refine gr_if_ge 14 dX4_band_9 (by decide) hit (fun h9 => ?_) (fun h9 => ?_)
    · refine gr_aload_n dX4_band_14 rfl ?_
      refine gr_getR dX4_band_15 fX4_27 (by first | assumption | rfl) (by omega) (by decide) rfl (by assumption) ?_
      refine gr_aload_n dX4_band_18 rfl ?_
      refine gr_getR dX4_band_19 fX4_10 (by first | assumption | rfl) (by omega) (by decide) rfl (by assumption) ?_
      refine gr_getR dX4_band_22 fX4_78 (by first | assumption | rfl) (by omega) (by decide) rfl (by assumption) ?_
      have ebw : gb_bw (I1 (2 + 1)) st.1 = gb_bw (st.2.1 1) st.1 := gb_bw_congr (fun i hi => s3 1 i (by omega) (by omega) hi)
      refine gr_virt dX4_band_25 kX4_79 (as := [_]) rfl rfl (by first | assumption | rfl) (by omega) (Nat.le_of_ble_eq_true rfl) (gw_Rm_m (by omega) (by decide) (by decide)) (c_bbecome (b := 13) (o := 2) (P := st.1) (d + 0) kb13 kb2 (by omega) hB1 s1 o1 (by rw [ebw]; exact o3)) ?_
      rintro _ _ ⟨rfl, I2, rfl, hI2⟩
      have e2 : ∀ a, ¬ (13 ≤ a ∧ a ≤ 18) → I2 a = I1 a := fun a h1 => funext fun i => by rw [hI2, if_neg (by omega), if_neg (by omega), if_neg (by omega)]
      refine gr_aload_n dX4_band_28 rfl ?_
      refine gr_getR dX4_band_29 fX4_32 (by first | assumption | rfl) (by omega) (by decide) rfl (by assumption) ?_
      refine gr_aload_n dX4_band_32 rfl ?_
      refine gr_getR dX4_band_33 fX4_10 (by first | assumption | rfl) (by omega) (by decide) rfl (by assumption) ?_
      refine gr_getR dX4_band_36 fX4_85 (by first | assumption | rfl) (by omega) (by decide) rfl (by assumption) ?_
      refine gr_virt dX4_band_39 kX4_86 (as := [_]) rfl rfl (by first | assumption | rfl) (by omega) (Nat.le_of_ble_eq_true rfl) (gw_Rm_m (by omega) (by decide) (by decide)) (c_pbecome (k := 19) (o := 8) (d + 0) hq19 kp8 (by omega) (by omega) (by omega) (by rw [e2 8 (by omega), s4]; omega) (by rw [e2 8 (by omega), s4]; omega)) ?_
      rintro _ _ ⟨rfl, I3, rfl, hI3⟩
      rw [e2 8 (by omega), s4, e2 (8 + 1) (by omega)] at hI3
      refine gr_aload_n dX4_band_42 rfl ?_
      refine gr_getR dX4_band_43 fX4_10 (by first | assumption | rfl) (by omega) (by decide) rfl (by assumption) ?_
      refine gr_iconst dX4_band_46 ?_
      refine gr_putI dX4_band_47 fX4_67 (by first | assumption | rfl) (by omega) (Or.inl rfl) rfl ?_
      refine gr_aload_n dX4_band_50 rfl ?_
      refine gr_iconst dX4_band_51 ?_
      refine gr_putI dX4_band_52 fX4_41 (by first | assumption | rfl) (by omega) (Or.inl rfl) rfl ?_
      refine gr_aload_n dX4_band_55 rfl ?_
      refine gr_iconst dX4_band_56 ?_
      refine gr_putI dX4_band_57 fX4_59 (by first | assumption | rfl) (by omega) (Or.inl rfl) rfl ?_
      refine gr_iconst dX4_band_60 ?_
      refine gr_istore_n dX4_band_61 (by decide) ?_
      refine gr_iload_n dX4_band_62 rfl ?_
      refine gr_iconst dX4_band_63 ?_
      refine gr_icmp_ge 80 dX4_band_64 (by decide) (by unfold gw_in; omega) (by unfold gw_in; omega) (fun h64 => ?_) (fun h64 => ?_)
      · omega
      · refine gr_aload_n dX4_band_67 rfl ?_
        refine gr_getR dX4_band_68 fX4_48 (by first | assumption | rfl) (by omega) (by decide) rfl (by assumption) ?_
        refine gr_iload_n dX4_band_71 rfl ?_
        refine gr_iconst dX4_band_72 ?_
        refine gr_zast (i := 0) dX4_band_73 (by first | assumption | rfl) (by omega) (by omega) (by omega) (by decide) (by omega) ?_
        refine gr_iinc (v := 1) dX4_band_74 (by decide) rfl (by omega) ?_
        refine gr_goto 62 dX4_band_77 (by decide) ?_
        refine gr_iload_n dX4_band_62 rfl ?_
        refine gr_iconst dX4_band_63 ?_
        refine gr_icmp_ge 80 dX4_band_64 (by decide) (by unfold gw_in; omega) (by unfold gw_in; omega) (fun h64 => ?_) (fun h64 => ?_)
        · omega
        · refine gr_aload_n dX4_band_67 rfl ?_
          refine gr_getR dX4_band_68 fX4_48 (by first | assumption | rfl) (by omega) (by decide) rfl (by assumption) ?_
          refine gr_iload_n dX4_band_71 rfl ?_
          refine gr_iconst dX4_band_72 ?_
          refine gr_zast (i := 1) dX4_band_73 (by first | assumption | rfl) (by omega) (by omega) (by omega) (by decide) (by omega) ?_
          refine gr_iinc (v := 2) dX4_band_74 (by decide) rfl (by omega) ?_
          refine gr_goto 62 dX4_band_77 (by decide) ?_
          refine gr_iload_n dX4_band_62 rfl ?_
          refine gr_iconst dX4_band_63 ?_
          refine gr_icmp_ge 80 dX4_band_64 (by decide) (by unfold gw_in; omega) (by unfold gw_in; omega) (fun h64 => ?_) (fun h64 => ?_)
          · refine gr_aload_n dX4_band_80 rfl ?_
            refine gr_iconst dX4_band_81 ?_
            refine gr_putI dX4_band_82 fX4_62 (by first | assumption | rfl) (by omega) (Or.inr ⟨rfl, (by omega)⟩) rfl ?_
            refine gr_iload_n dX4_band_85 rfl ?_
            generalize h6 : gw_U (gw_U (gw_U (gw_U (gw_U (gw_U I3 1 2 0) 0 5 0) 0 10 0) 72 0 0) 72 1 0) 0 11 0 = I6
            have v6 : ∀ a i, I6 a i = if a = 0 ∧ (i = 5 ∨ i = 10 ∨ i = 11) then 0 else if a = 1 ∧ i = 2 then 0 else if a = 72 ∧ i < 2 then 0 else I3 a i := by
              intro a i
              rw [← h6]
              unfold gw_U
              grind
            have e6 : ∀ a, a ≠ 0 → a ≠ 1 → a ≠ 72 → I6 a = I3 a := fun a h1 h2 h3 => funext fun i => by rw [v6, if_neg (by omega), if_neg (by omega), if_neg (by omega)]
            have e3 : ∀ a, a ≠ 19 → a ≠ 20 → I3 a = I2 a := fun a h1 h2 => funext fun i => by rw [hI3, if_neg (by omega), if_neg (by omega)]
            have e0 : ∀ a, a ≠ 0 → a ≠ 1 → a ≠ 72 → a ≠ 19 → a ≠ 20 → ¬ (13 ≤ a ∧ a ≤ 18) → I6 a = I1 a := fun a h1 h2 h3 h4 h5 h7 => by rw [e6 a h1 h2 h3, e3 a h4 h5, e2 a h7]
            have z13 : I6 13 0 = (st.1 : Int) := by rw [e6 13 (by omega) (by omega) (by omega), e3 13 (by omega) (by omega), hI2, if_pos (by omega)]
            have zr : ∀ r p, 1 ≤ r → r ≤ 5 → I6 (13 + r) p = if p < st.1 then I1 (2 + r) p else I1 (13 + r) p := by
              intro r p h1 h2
              rw [e6 (13 + r) (by omega) (by omega) (by omega), e3 (13 + r) (by omega) (by omega), hI2, if_neg (by omega), if_neg (by omega)]
              by_cases hp : p < st.1
              · rw [if_pos (by omega), if_pos hp, show 13 + r - 13 + 2 = 2 + r by omega]
              · rw [if_neg (by omega), if_neg hp]
            have z19 : ∀ b, b < 4 → I6 19 b = I1 8 b := fun b hb => by rw [e6 19 (by omega) (by omega) (by omega), hI3, if_pos (by omega)]
            have z20 : ∀ i : Nat, I6 20 i = if i < 3 * st.2.2.1 then I1 9 i else I1 20 i := by
              intro i
              rw [e6 20 (by omega) (by omega) (by omega), hI3, if_neg (by omega)]
              by_cases hi : i < 3 * st.2.2.1
              · rw [if_pos (by omega), if_pos hi]
              · rw [if_neg (by omega), if_neg hi, e2 20 (by omega)]
            have z11 : I6 0 11 = 0 := by rw [v6, if_pos (by omega)]
            have hg2 := gp_2p o1
            refine gr_iret dX4_band_86 (by first | exact Or.inl rfl | exact Or.inr ⟨rfl, by omega⟩) (by decide) (by decide) ?_
            rw [← hQ]
            refine ⟨_, _, rfl, rfl, ⟨fun a ha => (e0 a (by omega) (by omega) (by omega) (by omega) (by omega) (by omega)).trans (e1 a (by omega) (by omega) (by omega)), ?_⟩, st.1, 0, ?_⟩
            · rw [hb]
              refine ⟨rfl, hok, z13, fun r p h1 h2 h3 => by rw [zr r p h1 h2, if_pos h3]; exact s3 r p h1 h2 h3, by rw [z19 0 (by omega), s4], by rw [z19 1 (by omega), h81], by rw [z19 2 (by omega), s6], by rw [z19 3 (by omega), s7], fun i hi => by rw [z20, if_pos hi]; exact s5 i hi, by rw [v6, if_pos (by omega)], by rw [v6, if_pos (by omega)], by rw [v6, if_neg (by omega), if_neg (by omega), if_pos (by omega)], by rw [v6, if_neg (by omega), if_neg (by omega), if_pos (by omega)], by rw [v6, if_neg (by omega), if_pos (by omega)], rfl⟩
            · have bb := b.2.1
              refine ⟨⟨z13, fun p hp => ?_, ?_, o1, fun p hp => ?_⟩, ⟨⟨by rw [z19 0 (by omega), s4]; omega, by rw [z19 1 (by omega), h81]; omega, by rw [z19 2 (by omega), s6]; exact o6, by rw [z19 3 (by omega), s7]; exact o7, fun c hc => ?_⟩, fun i hi => ?_⟩, ⟨⟨by rw [v6, if_neg (by omega), if_pos (by omega)]; rfl, by omega, fun i hi => absurd hi (by omega)⟩, gb_B_c (fun a _ _ => e0 a (by omega) (by omega) (by omega) (by omega) (by omega) (by omega)) hB1, by rw [e0 9 (by omega) (by omega) (by omega) (by omega) (by omega) (by omega)]; exact hN1⟩, ⟨by rw [v6, if_pos (by omega)]; omega, fun j hj => ?_, fun j hj => ?_⟩, fun i hi => ?_, ⟨by rw [v6, if_pos (by omega)]; omega, fun h hh => ?_⟩, ⟨Or.inl z11, fun h => by omega⟩⟩
              · have t1 := hB1 p hp
                have t2 := bb p hp
                rw [zr 1 p (by omega) (by omega), zr 2 p (by omega) (by omega), zr 3 p (by omega) (by omega), zr 4 p (by omega) (by omega), zr 5 p (by omega) (by omega)]
                by_cases hps : p < st.1
                · simp only [if_pos hps]; exact t1
                · simp only [if_neg hps, e1 (13 + 1) (by omega) (by omega) (by omega), e1 (13 + 2) (by omega) (by omega) (by omega), e1 (13 + 3) (by omega) (by omega) (by omega), e1 (13 + 4) (by omega) (by omega) (by omega), e1 (13 + 5) (by omega) (by omega) (by omega)]; exact t2
              · rw [gb_bw_congr (L := st.2.1 1) (fun i hi => by rw [show I6 14 i = I6 (13 + 1) i from rfl, zr 1 i (by omega) (by omega), if_pos hi]; exact s3 1 i (by omega) (by omega) hi)]
                exact o3
              · rw [show I6 17 p = I6 (13 + 4) p from rfl, zr 4 p (by omega) (by omega), if_pos hp, s3 4 p (by omega) (by omega) hp]
                exact (o4 p hp).2.2.2.2.2.2.1
              · rw [z19 0 (by omega), s4] at hc
                have t := o5 c (by omega)
                show 0 ≤ I6 20 (3 * c) ∧ (I6 20 (3 * c + 1) = -1 → I6 20 (3 * c + 2) = -1)
                rw [z20, z20, z20, if_pos (by omega), if_pos (by omega), if_pos (by omega), s5 _ (by omega), s5 _ (by omega), s5 _ (by omega)]
                exact ⟨t.1, hw c (by omega)⟩
              · rw [z20]
                split
                · exact hN1 i hi
                · rw [e1 20 (by omega) (by omega) (by omega)]; exact w.2 i hi
              · obtain ⟨-, r2, r3, r4⟩ := gc_pp hK hj
                rw [e0 _ (by omega) (by omega) (by omega) (by omega) (by omega) (by omega), e1 _ (by omega) (by omega) (by omega)]; exact p2 j hj
              · rw [v6, if_pos (by omega)] at hj; omega
              · have z72 : I6 72 i = 0 := by rw [v6, if_neg (by omega), if_neg (by omega), if_pos (by omega)]
                rw [z72, e0 (96 + 2 * i) (by omega) (by omega) (by omega) (by omega) (by omega) (by omega), e1 (96 + 2 * i) (by omega) (by omega) (by omega)]
                exact ⟨Or.inl rfl, (im i hi).2.1, fun h => by omega⟩
              · rw [v6, if_pos (by omega)] at hh; omega
          · omega
    · omega
end GC
