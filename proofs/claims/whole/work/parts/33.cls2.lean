/-! ChordSpreads: what is told, what is done -/
theorem gb_B_c {I I' : Nat → Nat → Int} {b : Nat} (h : ∀ a, b < a → a ≤ b + 5 → I' a = I a) (hB : gb_B I b) : gb_B I' b := by
  intro p hp
  rw [h (b + 1) (by omega) (by omega), h (b + 2) (by omega) (by omega), h (b + 3) (by omega) (by omega), h (b + 4) (by omega) (by omega), h (b + 5) (by omega) (by omega)]
  exact hB p hp
theorem gc_W_c {I I' : Nat → Nat → Int} {k k' : Nat} (h4 : ∀ b, b < 4 → I' k' b = I k b) (hn : ∀ b : Nat, (b : Int) < 3 * I k 0 → I' (k' + 1) b = I (k + 1) b) (hW : gc_W I k) : gc_W I' k' := by
  obtain ⟨w1, w2, w3, w4, w5⟩ := hW
  refine ⟨by rw [h4 0 (by omega)]; exact w1, by rw [h4 1 (by omega)]; exact w2, by rw [h4 2 (by omega)]; exact w3, by rw [h4 3 (by omega)]; exact w4, fun c hc => ?_⟩
  rw [h4 0 (by omega)] at hc
  rw [hn (3 * c) (by omega), hn (3 * c + 1) (by omega), hn (3 * c + 2) (by omega)]
  exact w5 c hc
theorem gc_W_e {I I' : Nat → Nat → Int} {k : Nat} (h1 : I' k = I k) (h2 : I' (k + 1) = I (k + 1)) (hW : gc_W I k) : gc_W I' k := gc_W_c (fun b _ => by rw [h1]) (fun b _ => by rw [h2]) hW
theorem gx_T_c {I I' : Nat → Nat → Int} {n : Nat} (h1 : I' 1 2 = I 1 2) (h2 : I' 10 = I 10) (h : gx_T I n) : gx_T I' n := ⟨by rw [h1]; exact h.1, h.2.1, by rw [h2]; exact h.2.2⟩
/-- only 'now' has changed, and it isn't solved -/
theorem gc_D_fr {I I' : Nat → Nat → Int} {P n : Nat} {pp : Nat → Nat} {F : Nat → Nat → Option Nat} (hK : gc_K F pp) (hD : gc_D I P n pp) (h : ∀ a, a ≠ 0 → a ≠ 12 → a ≠ 19 → a ≠ 20 → a < 21 ∨ 70 ≤ a → I' a = I a) (h0 : ∀ i, i ≠ 11 → I' 0 i = I 0 i) (hW : gc_W I' 19) (hN : gp_N (I' 20)) (hs : (I' 0 11 = 0 ∨ I' 0 11 = 1) ∧ (I' 0 11 = 1 → gc_sol I' P)) : gc_D I' P n pp := by
  obtain ⟨⟨b1, b2, b3, b4, b5⟩, -, ⟨x1, x2, x3⟩, ⟨p1, p2, p3⟩, i1, ⟨e1, e2⟩, -⟩ := hD
  have e : ∀ a, a ≠ 0 → a ≠ 12 → a ≠ 19 → a ≠ 20 → a < 21 ∨ 70 ≤ a → I' a = I a := h
  refine ⟨⟨by rw [e 13 (by omega) (by omega) (by omega) (by omega) (by omega)]; exact b1, gb_B_c (fun a _ _ => e a (by omega) (by omega) (by omega) (by omega) (by omega)) b2, by rw [e 14 (by omega) (by omega) (by omega) (by omega) (by omega)]; exact b3, b4, by rw [e 17 (by omega) (by omega) (by omega) (by omega) (by omega)]; exact b5⟩, ⟨hW, hN⟩, ⟨gx_T_c (by rw [e 1 (by omega) (by omega) (by omega) (by omega) (by omega)]) (e 10 (by omega) (by omega) (by omega) (by omega) (by omega)) x1, gb_B_c (fun a _ _ => e a (by omega) (by omega) (by omega) (by omega) (by omega)) x2, by rw [e 9 (by omega) (by omega) (by omega) (by omega) (by omega)]; exact x3⟩, ⟨by rw [h0 5 (by omega)]; exact p1, fun j hj => ?_, fun j hj => ?_⟩, fun i hi => ?_, ⟨by rw [h0 10 (by omega)]; exact e1, ?_⟩, hs⟩
  · obtain ⟨-, q2, q3, -⟩ := gc_pp hK hj
    rw [e _ (by omega) (by omega) (by omega) (by omega) (by omega)]
    exact p2 j hj
  · rw [h0 5 (by omega)] at hj
    obtain ⟨-, q2, q3, -⟩ := gc_pp hK (show j < 10 by omega)
    exact gc_W_e (e _ (by omega) (by omega) (by omega) (by omega) (by omega)) (e _ (by omega) (by omega) (by omega) (by omega) (by omega)) (p3 j hj)
  · obtain ⟨i2, i3, i4⟩ := i1 i hi
    rw [e 72 (by omega) (by omega) (by omega) (by omega) (by omega), e (96 + 2 * i) (by omega) (by omega) (by omega) (by omega) (by omega)]
    exact ⟨i2, i3, fun h1 => gc_W_e (e _ (by omega) (by omega) (by omega) (by omega) (by omega)) (e _ (by omega) (by omega) (by omega) (by omega) (by omega)) (i4 h1)⟩
  · rw [h0 10 (by omega), e 73 (by omega) (by omega) (by omega) (by omega) (by omega), e 74 (by omega) (by omega) (by omega) (by omega) (by omega)]
    exact e2
theorem gc_D_rem {I I' : Nat → Nat → Int} {P n : Nat} {pp pp' : Nat → Nat} {F F' : Nat → Nat → Option Nat} (hK : gc_K F pp) (hK' : gc_K F' pp') (hD : gc_D I P n pp) (hu : gu_rem I I' pp pp') : gc_D I' P n pp' ∧ I' 0 11 = 0 ∧ I' 19 = I 19 ∧ I' 20 = I 20 ∧ ∀ a, 94 < a → I' a = I a := by
  obtain ⟨⟨b1, b2, b3, b4, b5⟩, ⟨w1, w2⟩, ⟨x1, x2, x3⟩, ⟨p1, p2, p3⟩, i1, ⟨e1, e2⟩, -⟩ := hD
  obtain ⟨k, hor, hI⟩ := hu
  have hk : k < 10 := by omega
  obtain ⟨-, q2, q3, q4⟩ := gc_pp hK' hk
  have e : ∀ a, a ≠ 0 → a ≠ pp' k → a ≠ pp' k + 1 → I' a = I a := fun a h1 h2 h3 => funext fun b => by rw [hI, if_neg (by omega), if_neg (by omega), if_neg (by omega), if_neg (by omega)]
  have e5 : I' 0 5 = (k : Int) + 1 := by rw [hI, if_pos (by omega)]
  have e11 : I' 0 11 = 0 := by rw [hI, if_neg (by omega), if_pos (by omega)]
  have e10 : I' 0 10 = I 0 10 := by rw [hI, if_neg (by omega), if_neg (by omega), if_neg (by omega), if_neg (by omega)]
  have s4 : ∀ b, b < 4 → I' (pp' k) b = I 19 b := fun b hb => by rw [hI, if_neg (by omega), if_neg (by omega), if_pos (by omega)]
  have sn : ∀ b : Nat, (b : Int) < 3 * I 19 0 → I' (pp' k + 1) b = I 20 b := fun b hb => by rw [hI, if_neg (by omega), if_neg (by omega), if_neg (by omega), if_pos (by omega)]
  have so : ∀ b : Nat, ¬ (b : Int) < 3 * I 19 0 → I' (pp' k + 1) b = I (pp' k + 1) b := fun b hb => by rw [hI, if_neg (by omega), if_neg (by omega), if_neg (by omega), if_neg (by omega)]
  have pN : ∀ j, j < 10 → gp_N (I (pp' j + 1)) := by
    intro j hj
    rcases hor with ⟨-, -, h⟩ | ⟨-, -, h⟩
    · rw [h]; exact p2 j hj
    · rw [h]; unfold gc_rot; split
      · exact p2 _ (by omega)
      · exact p2 _ (by omega)
  have pW : ∀ j, j < k → gc_W I (pp' j) := by
    intro j hj
    rcases hor with ⟨h1, -, h⟩ | ⟨h1, h2, h⟩
    · rw [h]; exact p3 j (by omega)
    · rw [h]; unfold gc_rot; rw [if_pos (by omega)]; exact p3 _ (by omega)
  refine ⟨⟨⟨by rw [e 13 (by omega) (by omega) (by omega)]; exact b1, gb_B_c (fun a _ _ => e a (by omega) (by omega) (by omega)) b2, by rw [e 14 (by omega) (by omega) (by omega)]; exact b3, b4, by rw [e 17 (by omega) (by omega) (by omega)]; exact b5⟩, ⟨gc_W_e (e 19 (by omega) (by omega) (by omega)) (e 20 (by omega) (by omega) (by omega)) w1, by rw [e 20 (by omega) (by omega) (by omega)]; exact w2⟩, ⟨gx_T_c (by rw [e 1 (by omega) (by omega) (by omega)]) (e 10 (by omega) (by omega) (by omega)) x1, gb_B_c (fun a _ _ => e a (by omega) (by omega) (by omega)) x2, by rw [e 9 (by omega) (by omega) (by omega)]; exact x3⟩, ⟨by rw [e5]; omega, fun j hj => ?_, fun j hj => ?_⟩, fun i hi => ?_, ⟨by rw [e10]; exact e1, ?_⟩, ⟨Or.inl e11, fun h => by omega⟩⟩, e11, e 19 (by omega) (by omega) (by omega), e 20 (by omega) (by omega) (by omega), fun a ha => e a (by omega) (by omega) (by omega)⟩
  · by_cases hjk : j = k
    · subst hjk
      intro b hb
      by_cases h3 : (b : Int) < 3 * I 19 0
      · rw [sn b h3]; exact w2 b hb
      · rw [so b h3]; exact pN j hj b hb
    · obtain ⟨-, r2, r3, r4⟩ := gc_pp hK' hj
      have := gc_ppd hK' hj hk hjk
      rw [e _ (by omega) (by omega) (by omega)]
      exact pN j hj
  · rw [e5] at hj
    by_cases hjk : j = k
    · subst hjk
      exact gc_W_c s4 sn w1
    · obtain ⟨-, r2, r3, r4⟩ := gc_pp hK' (show j < 10 by omega)
      have := gc_ppd hK' (show j < 10 by omega) hk hjk
      exact gc_W_e (e _ (by omega) (by omega) (by omega)) (e _ (by omega) (by omega) (by omega)) (pW j (by omega))
  · obtain ⟨i2, i3, i4⟩ := i1 i hi
    rw [e 72 (by omega) (by omega) (by omega), e (96 + 2 * i) (by omega) (by omega) (by omega)]
    exact ⟨i2, i3, fun h1 => gc_W_e (e _ (by omega) (by omega) (by omega)) (e _ (by omega) (by omega) (by omega)) (i4 h1)⟩
  · rw [e10, e 73 (by omega) (by omega) (by omega), e 74 (by omega) (by omega) (by omega)]
    exact e2
section GC
variable {I : Nat → Nat → Int} {F : Nat → Nat → Option Nat} {P n : Nat} {pp : Nat → Nat}
/-- what type() does, and its answer -/
def gu_type (I I' : Nat → Nat → Int) (n : Nat) (x : Int) : Prop := if (0 ≤ x ∧ x ≤ 255) ∧ n < 150 then ∀ a b, I' a b = if a = 1 ∧ b = 2 then (n : Int) + 1 else if a = 10 ∧ b = n then x else I a b else I' = I
def ga_type (n : Nat) (x : Int) : Int := if 0 ≤ x ∧ x ≤ 255 then (if n < 150 then (n : Int) + 1 else -3) else -1
theorem c_type {x : Int} (d : Nat) (hK : gc_K F pp) (hD : gc_D I P n pp) (hx : gw_in x) : gw_Met jX4_type (d + 1) [.inr (some 0), .inl x] (114, I, F) (gw_io F (fun r I' => r = ga_type n x ∧ gu_type I I' n x)) := by
  obtain ⟨k0, k1, k2, k3, k4, k6, k7, k8, k9, k70, k71, kx, kq, kp, kj, ki⟩ := id hK
  obtain ⟨-, -, ⟨x1, x2, x3⟩, -⟩ := id hD
  obtain ⟨t1, t2, t3⟩ := id x1
  unfold gw_in at hx
  have bad : ∀ hb : ¬ (0 ≤ x ∧ x ≤ 255), gw_G (gw_Cm jX4_type (d + 1) (gw_io F (fun r I' => r = ga_type n x ∧ gu_type I I' n x))) jX4_type 11 [some (.inr (some 0)), some (.inl x)] [] (114, I, F) 0 0 := by
    intro hb
    refine gr_iconst dX4_type_11 ?_
    refine gr_iret dX4_type_12 (by first | exact Or.inl rfl | exact Or.inr ⟨rfl, by omega⟩) (by decide) (by decide) (⟨_, _, rfl, rfl, by unfold ga_type; rw [if_neg hb], by unfold gu_type; rw [if_neg (fun h => hb h.1)]⟩)
  refine gw_enter okX4_type rfl (Nat.le_of_ble_eq_true rfl) ?_
  refine gr_iload_n dX4_type_0 rfl ?_
  refine gr_if_lt 11 dX4_type_1 (by decide) (by unfold gw_in; omega) (fun h1 => ?_) (fun h1 => ?_)
  · exact bad (by omega)
  · refine gr_iload_n dX4_type_4 rfl ?_
    refine gr_sipush dX4_type_5 (by decide) ?_
    refine gr_icmp_le 13 dX4_type_8 (by decide) (by unfold gw_in; omega) (by unfold gw_in; omega) (fun h8 => ?_) (fun h8 => ?_)
    · refine gr_aload_n dX4_type_13 rfl ?_
      refine gr_getR dX4_type_14 fX4_10 (by first | assumption | rfl) (by omega) (by decide) rfl (by assumption) ?_
      refine gr_getI dX4_type_17 fX4_67 (by first | assumption | rfl) (by omega) (by decide) rfl ?_
      rw [t1]
      refine gr_sipush dX4_type_20 (by decide) ?_
      refine gr_icmp_lt 29 dX4_type_23 (by decide) (by unfold gw_in; omega) (by unfold gw_in; omega) (fun h23 => ?_) (fun h23 => ?_)
      · refine gr_aload_n dX4_type_29 rfl ?_
        refine gr_getR dX4_type_30 fX4_10 (by first | assumption | rfl) (by omega) (by decide) rfl (by assumption) ?_
        refine gr_iload_n dX4_type_33 rfl ?_
        refine gr_virt dX4_type_34 kX4_70 (as := [_]) rfl rfl (by first | assumption | rfl) (by omega) (Nat.le_of_ble_eq_true rfl) (gw_Rm_m (by omega) (by decide) (by decide)) (c_radd d kx x1 (by omega)) ?_
        rintro _ _ ⟨rfl, I1, rfl, hI1⟩
        refine gr_aload_n dX4_type_37 rfl ?_
        refine gr_getR dX4_type_38 fX4_10 (by first | assumption | rfl) (by omega) (by decide) rfl (by assumption) ?_
        refine gr_getI dX4_type_41 fX4_67 (by first | assumption | rfl) (by omega) (by decide) rfl ?_
        refine gr_iret dX4_type_44 (by first | exact Or.inl rfl | exact Or.inr ⟨rfl, by omega⟩) (by decide) (by decide) (⟨_, _, rfl, rfl, by rw [hI1, if_pos (by omega)]; unfold ga_type; rw [if_pos (by omega), if_pos (by omega)], by unfold gu_type; rw [if_pos (by omega)]; exact hI1⟩)
      · refine gr_bipush dX4_type_26 (by decide) ?_
        refine gr_iret dX4_type_28 (by first | exact Or.inl rfl | exact Or.inr ⟨rfl, by omega⟩) (by decide) (by decide) (⟨_, _, rfl, rfl, by unfold ga_type; rw [if_pos (by omega), if_neg (by omega)], by unfold gu_type; rw [if_neg (by omega)]⟩)
    · exact bad (by omega)
theorem gc_D_gen {I' : Nat → Nat → Int} {n' : Nat} (hK : gc_K F pp) (hD : gc_D I P n pp) (eB : ∀ a, 13 ≤ a → a ≤ 18 → I' a = I a) (hW : gc_W I' 19) (hN : gp_N (I' 20)) (hX : gx_T I' n') (e2 : ∀ a, 2 ≤ a → a ≤ 7 → I' a = I a) (e9 : I' 9 = I 9) (hp : 0 ≤ I' 0 5 ∧ I' 0 5 ≤ I 0 5) (ep : ∀ a, 75 ≤ a → a ≤ 94 → I' a = I a) (him : ∀ i, i < 2 → (I' 72 i = 0 ∨ I' 72 i = 1) ∧ gp_N (I' (96 + 2 * i)) ∧ (I' 72 i = 1 → gc_W I' (95 + 2 * i))) (hh : (0 ≤ I' 0 10 ∧ I' 0 10 ≤ 6) ∧ (∀ h : Nat, (h : Int) < I' 0 10 → 0 ≤ I' 73 h ∧ I' 73 h ≤ 7 ∧ (I' 74 h = 0 ∨ I' 74 h = 1))) (hs : (I' 0 11 = 0 ∨ I' 0 11 = 1) ∧ (I' 0 11 = 1 → gc_sol I' P)) : gc_D I' P n' pp := by
  obtain ⟨⟨b1, b2, b3, b4, b5⟩, -, ⟨x1, x2, x3⟩, ⟨p1, p2, p3⟩, -, -, -⟩ := hD
  refine ⟨⟨by rw [eB 13 (by omega) (by omega)]; exact b1, gb_B_c (fun a _ _ => eB a (by omega) (by omega)) b2, by rw [eB 14 (by omega) (by omega)]; exact b3, b4, by rw [eB 17 (by omega) (by omega)]; exact b5⟩, ⟨hW, hN⟩, ⟨hX, gb_B_c (fun a _ _ => e2 a (by omega) (by omega)) x2, by rw [e9]; exact x3⟩, ⟨by omega, fun j hj => ?_, fun j hj => ?_⟩, him, hh, hs⟩
  · obtain ⟨-, r2, r3, r4⟩ := gc_pp hK hj
    rw [ep _ (by omega) (by omega)]; exact p2 j hj
  · obtain ⟨-, r2, r3, r4⟩ := gc_pp hK (show j < 10 by omega)
    exact gc_W_e (ep _ (by omega) (by omega)) (ep _ (by omega) (by omega)) (p3 j (by omega))
theorem gc_im {I' : Nat → Nat → Int} (hD : gc_D I P n pp) (h72 : I' 72 = I 72) (e : ∀ a, 95 ≤ a → a ≤ 98 → I' a = I a) : ∀ i, i < 2 → (I' 72 i = 0 ∨ I' 72 i = 1) ∧ gp_N (I' (96 + 2 * i)) ∧ (I' 72 i = 1 → gc_W I' (95 + 2 * i)) := by
  intro i hi
  obtain ⟨-, -, -, -, i1, -, -⟩ := hD
  obtain ⟨i2, i3, i4⟩ := i1 i hi
  rw [h72, e (96 + 2 * i) (by omega) (by omega)]
  exact ⟨i2, i3, fun h1 => gc_W_e (e _ (by omega) (by omega)) (e _ (by omega) (by omega)) (i4 h1)⟩
theorem gc_he {I' : Nat → Nat → Int} (hD : gc_D I P n pp) (h0 : I' 0 10 = I 0 10) (h73 : I' 73 = I 73) (h74 : I' 74 = I 74) : (0 ≤ I' 0 10 ∧ I' 0 10 ≤ 6) ∧ (∀ h : Nat, (h : Int) < I' 0 10 → 0 ≤ I' 73 h ∧ I' 73 h ≤ 7 ∧ (I' 74 h = 0 ∨ I' 74 h = 1)) := by
  rw [h0, h73, h74]; exact hD.2.2.2.2.2.1
theorem gc_so {I' : Nat → Nat → Int} (hD : gc_D I P n pp) (h0 : I' 0 11 = I 0 11) (h : ∀ a, 13 ≤ a → a ≤ 20 → I' a = I a) (h12 : I' 12 2 = I 12 2) (h69 : I' 69 = I 69) : (I' 0 11 = 0 ∨ I' 0 11 = 1) ∧ (I' 0 11 = 1 → gc_sol I' P) := by
  rw [h0]; exact ⟨hD.2.2.2.2.2.2.1, fun q => gc_sol_c h h12 h69 (hD.2.2.2.2.2.2.2 q)⟩
theorem gc_D_type {I' : Nat → Nat → Int} {x : Int} (hK : gc_K F pp) (hD : gc_D I P n pp) (hu : gu_type I I' n x) : ∃ n', gc_D I' P n' pp := by
  unfold gu_type at hu
  by_cases hc : (0 ≤ x ∧ x ≤ 255) ∧ n < 150
  · rw [if_pos hc] at hu
    obtain ⟨b, w, ⟨x1, x2, x3⟩, pa, im, he, so⟩ := id hD
    have e : ∀ a, a ≠ 1 → a ≠ 10 → I' a = I a := fun a h1 h2 => funext fun b => by rw [hu, if_neg (by omega), if_neg (by omega)]
    have e0 := e 0 (by omega) (by omega)
    refine ⟨n + 1, gc_D_gen hK hD (fun a _ _ => e a (by omega) (by omega)) (gc_W_e (e 19 (by omega) (by omega)) (e 20 (by omega) (by omega)) w.1) (by rw [e 20 (by omega) (by omega)]; exact w.2) ⟨by rw [hu, if_pos (by omega)]; omega, by omega, fun i hi => ?_⟩ (fun a _ _ => e a (by omega) (by omega)) (e 9 (by omega) (by omega)) (by rw [e0]; have := pa.1; omega) (fun a _ _ => e a (by omega) (by omega)) (gc_im hD (e 72 (by omega) (by omega)) (fun a _ _ => e a (by omega) (by omega))) (gc_he hD (by rw [e0]) (e 73 (by omega) (by omega)) (e 74 (by omega) (by omega))) (gc_so hD (by rw [e0]) (fun a _ _ => e a (by omega) (by omega)) (by rw [e 12 (by omega) (by omega)]) (e 69 (by omega) (by omega)))⟩
    rw [hu, if_neg (by omega)]
    by_cases h : i = n
    · rw [if_pos (by omega)]; exact hc.1
    · rw [if_neg (by omega)]; exact x1.2.2 i (by omega)
  · rw [if_neg hc] at hu
    exact ⟨n, by rw [hu]; exact hD⟩
theorem c_clear (d : Nat) (hK : gc_K F pp) (hD : gc_D I P n pp) : gw_Met jX4_clear d [.inr (some 0)] (114, I, F) (gw_io F (fun r I' => r = (n : Int) ∧ I' = gw_U I 1 2 0 ∧ gc_D I' P 0 pp)) := by
  obtain ⟨k0, k1, k2, k3, k4, k6, k7, k8, k9, k70, k71, kx, kq, kp, kj, ki⟩ := id hK
  obtain ⟨b, w, ⟨x1, x2, x3⟩, pa, im, he, so⟩ := id hD
  have e : ∀ a, a ≠ 1 → gw_U I 1 2 0 a = I a := fun a h1 => gw_U_r h1
  have e0 := e 0 (by omega)
  refine gw_enter okX4_clear rfl (Nat.le_of_ble_eq_true rfl) ?_
  refine gr_aload_n dX4_clear_0 rfl ?_
  refine gr_getR dX4_clear_1 fX4_10 (by first | assumption | rfl) (by omega) (by decide) rfl (by assumption) ?_
  refine gr_getI dX4_clear_4 fX4_67 (by first | assumption | rfl) (by omega) (by decide) rfl ?_
  refine gr_istore_n dX4_clear_7 (by decide) ?_
  refine gr_aload_n dX4_clear_8 rfl ?_
  refine gr_getR dX4_clear_9 fX4_10 (by first | assumption | rfl) (by omega) (by decide) rfl (by assumption) ?_
  refine gr_iconst dX4_clear_12 ?_
  refine gr_putI dX4_clear_13 fX4_67 (by first | assumption | rfl) (by omega) (Or.inl rfl) rfl ?_
  refine gr_iload_n dX4_clear_16 rfl ?_
  refine gr_iret dX4_clear_17 (by first | exact Or.inl rfl | exact Or.inr ⟨rfl, by omega⟩) (by decide) (by decide) (⟨_, _, rfl, rfl, x1.1, rfl, gc_D_gen hK hD (fun a _ _ => e a (by omega)) (gc_W_e (e 19 (by omega)) (e 20 (by omega)) w.1) (by rw [e 20 (by omega)]; exact w.2) ⟨gw_U_s, by omega, fun i hi => absurd hi (by omega)⟩ (fun a _ _ => e a (by omega)) (e 9 (by omega)) (by rw [e0]; have := pa.1; omega) (fun a _ _ => e a (by omega)) (gc_im hD (e 72 (by omega)) (fun a _ _ => e a (by omega))) (gc_he hD (by rw [e0]) (e 73 (by omega)) (e 74 (by omega))) (gc_so hD (by rw [e0]) (fun a _ _ => e a (by omega)) (by rw [e 12 (by omega)]) (e 69 (by omega)))⟩)
theorem c_forget (d : Nat) (hK : gc_K F pp) (hD : gc_D I P n pp) : gw_Met jX4_forget d [.inr (some 0)] (114, I, F) (gw_io F (fun r I' => r = I 0 10 ∧ I' = gw_U I 0 10 0 ∧ gc_D I' P n pp)) := by
  obtain ⟨b, w, ⟨x1, x2, x3⟩, pa, im, he, so⟩ := id hD
  have e : ∀ a, a ≠ 0 → gw_U I 0 10 0 a = I a := fun a h1 => gw_U_r h1
  refine gw_enter okX4_forget rfl (Nat.le_of_ble_eq_true rfl) ?_
  refine gr_aload_n dX4_forget_0 rfl ?_
  refine gr_getI dX4_forget_1 fX4_59 (by first | assumption | rfl) (by omega) (by decide) rfl ?_
  refine gr_istore_n dX4_forget_4 (by decide) ?_
  refine gr_aload_n dX4_forget_5 rfl ?_
  refine gr_iconst dX4_forget_6 ?_
  refine gr_putI dX4_forget_7 fX4_59 (by first | assumption | rfl) (by omega) (Or.inl rfl) rfl ?_
  refine gr_iload_n dX4_forget_10 rfl ?_
  refine gr_iret dX4_forget_11 (by first | exact Or.inl rfl | exact Or.inr ⟨rfl, by omega⟩) (by decide) (by decide) (⟨_, _, rfl, rfl, rfl, rfl, gc_D_gen hK hD (fun a _ _ => e a (by omega)) (gc_W_e (e 19 (by omega)) (e 20 (by omega)) w.1) (by rw [e 20 (by omega)]; exact w.2) (gx_T_c (by rw [e 1 (by omega)]) (e 10 (by omega)) x1) (fun a _ _ => e a (by omega)) (e 9 (by omega)) (by rw [gw_U_n (by omega)]; have := pa.1; omega) (fun a _ _ => e a (by omega)) (gc_im hD (e 72 (by omega)) (fun a _ _ => e a (by omega))) (by rw [gw_U_s]; exact ⟨by omega, fun h hh => by omega⟩) (gc_so hD (gw_U_n (by omega)) (fun a _ _ => e a (by omega)) (by rw [e 12 (by omega)]) (e 69 (by omega)))⟩)
/-- what hears() does, and its answer -/
def gu_hears (I I' : Nat → Nat → Int) (c x : Int) : Prop := if ((0 ≤ c ∧ c < I 19 0) ∧ 0 ≤ x ∧ x ≤ 1) ∧ I 0 10 < 6 then ∀ a b, I' a b = if a = 0 ∧ b = 10 then I 0 10 + 1 else if a = 73 ∧ (b : Int) = I 0 10 then c else if a = 74 ∧ (b : Int) = I 0 10 then x else I a b else I' = I
def ga_hears (I : Nat → Nat → Int) (c x : Int) : Int := if (0 ≤ c ∧ c < I 19 0) ∧ 0 ≤ x ∧ x ≤ 1 then (if I 0 10 < 6 then I 0 10 + 1 else -3) else -1
theorem gc_D_hears {I' : Nat → Nat → Int} {c x : Int} (hK : gc_K F pp) (hD : gc_D I P n pp) (hu : gu_hears I I' c x) : gc_D I' P n pp := by
  unfold gu_hears at hu
  by_cases hc : ((0 ≤ c ∧ c < I 19 0) ∧ 0 ≤ x ∧ x ≤ 1) ∧ I 0 10 < 6
  · rw [if_pos hc] at hu
    obtain ⟨b, w, ⟨x1, x2, x3⟩, pa, im, he, so⟩ := id hD
    have e : ∀ a, a ≠ 0 → a ≠ 73 → a ≠ 74 → I' a = I a := fun a h1 h2 h3 => funext fun b => by rw [hu, if_neg (by omega), if_neg (by omega), if_neg (by omega)]
    have e0 : ∀ i, i ≠ 10 → I' 0 i = I 0 i := fun i hi => by rw [hu, if_neg (by omega), if_neg (by omega), if_neg (by omega)]
    have e10 : I' 0 10 = I 0 10 + 1 := by rw [hu, if_pos (by omega)]
    have w8 := w.1.1
    refine gc_D_gen hK hD (fun a _ _ => e a (by omega) (by omega) (by omega)) (gc_W_e (e 19 (by omega) (by omega) (by omega)) (e 20 (by omega) (by omega) (by omega)) w.1) (by rw [e 20 (by omega) (by omega) (by omega)]; exact w.2) (gx_T_c (by rw [e 1 (by omega) (by omega) (by omega)]) (e 10 (by omega) (by omega) (by omega)) x1) (fun a _ _ => e a (by omega) (by omega) (by omega)) (e 9 (by omega) (by omega) (by omega)) (by rw [e0 5 (by omega)]; have := pa.1; omega) (fun a _ _ => e a (by omega) (by omega) (by omega)) (gc_im hD (e 72 (by omega) (by omega) (by omega)) (fun a _ _ => e a (by omega) (by omega) (by omega))) ⟨by rw [e10]; omega, fun h hh => ?_⟩ (gc_so hD (e0 11 (by omega)) (fun a _ _ => e a (by omega) (by omega) (by omega)) (by rw [e 12 (by omega) (by omega) (by omega)]) (e 69 (by omega) (by omega) (by omega)))
    rw [e10] at hh
    by_cases h1 : (h : Int) = I 0 10
    · rw [hu, hu, if_neg (by omega), if_pos (by omega), if_neg (by omega), if_neg (by omega), if_pos (by omega)]; omega
    · rw [hu, hu, if_neg (by omega), if_neg (by omega), if_neg (by omega), if_neg (by omega), if_neg (by omega), if_neg (by omega)]
      exact he.2 h (by omega)
  · rw [if_neg hc] at hu
    rw [hu]; exact hD
theorem c_hears {c x : Int} (d : Nat) (hK : gc_K F pp) (hD : gc_D I P n pp) (hc : gw_in c) (hx : gw_in x) : gw_Met jX4_hears (d + 1) [.inr (some 0), .inl c, .inl x] (114, I, F) (gw_io F (fun r I' => r = ga_hears I c x ∧ gu_hears I I' c x ∧ gc_D I' P n pp)) := by
  obtain ⟨k0, k1, k2, k3, k4, k6, k7, k8, k9, k70, k71, kx, kq, kp, kj, ki⟩ := id hK
  obtain ⟨b, w, -, pa, im, he, so⟩ := id hD
  generalize hQ : gw_io F (fun r I' => r = ga_hears I c x ∧ gu_hears I I' c x ∧ gc_D I' P n pp) = Q
  have he1 := he.1
  have bad : ∀ hb : ¬ ((0 ≤ c ∧ c < I 19 0) ∧ 0 ≤ x ∧ x ≤ 1), gw_G (gw_Cm jX4_hears (d + 1) Q) jX4_hears 17 [some (.inr (some 0)), some (.inl c), some (.inl x)] [] (114, I, F) 0 0 := by
    intro hb
    have hu : gu_hears I I c x := by unfold gu_hears; rw [if_neg (fun h => hb h.1)]
    refine gr_iconst dX4_hears_17 ?_
    refine gr_iret dX4_hears_18 (by first | exact Or.inl rfl | exact Or.inr ⟨rfl, by omega⟩) (by decide) (by decide) ((hQ ▸ ⟨_, _, rfl, rfl, by unfold ga_hears; rw [if_neg hb], hu, hD⟩))
  refine gw_enter okX4_hears rfl (Nat.le_of_ble_eq_true rfl) ?_
  refine gr_aload_n dX4_hears_0 rfl ?_
  refine gr_iload_n dX4_hears_1 rfl ?_
  refine gr_virt dX4_hears_2 kX4_111 (as := [_]) rfl rfl (by first | assumption | rfl) (by omega) (Nat.le_of_ble_eq_true rfl) (gw_Rm_m (by omega) (by decide) (by decide)) (c_isChord d hK w.1.1 hc) ?_
  rintro _ _ ⟨rfl, rfl⟩
  by_cases h1 : 0 ≤ c ∧ c < I 19 0
  · rw [if_pos h1]
    refine gr_if_eq 17 dX4_hears_5 (by decide) (by unfold gw_in; omega) (fun h5 => ?_) (fun h5 => ?_)
    · omega
    · refine gr_iload_n dX4_hears_8 rfl ?_
      refine gr_iconst dX4_hears_9 ?_
      refine gr_iconst dX4_hears_10 ?_
      refine gr_stat dX4_hears_11 kX4_143 (as := [_, _, _]) rfl rfl (Nat.le_of_ble_eq_true rfl) (gw_Rm_m (by omega) (by decide) (by decide)) (c_isWithin d hx (by unfold gw_in; omega) (by unfold gw_in; omega)) ?_
      rintro _ _ ⟨rfl, rfl⟩
      by_cases h2 : 0 ≤ x ∧ x ≤ 1
      · rw [if_pos h2]
        refine gr_if_ne 19 dX4_hears_14 (by decide) (by unfold gw_in; omega) (fun h14 => ?_) (fun h14 => ?_)
        · refine gr_aload_n dX4_hears_19 rfl ?_
          refine gr_getI dX4_hears_20 fX4_59 (by first | assumption | rfl) (by omega) (by decide) rfl ?_
          refine gr_bipush dX4_hears_23 (by decide) ?_
          refine gr_icmp_lt 31 dX4_hears_25 (by decide) (by unfold gw_in; omega) (by unfold gw_in; omega) (fun h25 => ?_) (fun h25 => ?_)
          · obtain ⟨m, hm⟩ : ∃ m : Nat, I 0 10 = (m : Int) := ⟨(I 0 10).toNat, by omega⟩
            refine gr_aload_n dX4_hears_31 rfl ?_
            refine gr_getR dX4_hears_32 fX4_52 (by first | assumption | rfl) (by omega) (by decide) rfl (by assumption) ?_
            refine gr_aload_n dX4_hears_35 rfl ?_
            refine gr_getI dX4_hears_36 fX4_59 (by first | assumption | rfl) (by omega) (by decide) rfl ?_
            refine gr_iload_n dX4_hears_39 rfl ?_
            refine gr_iast (i := m) dX4_hears_40 (by first | assumption | rfl) (by omega) (by omega) (by omega) (by decide) ?_
            refine gr_aload_n dX4_hears_41 rfl ?_
            refine gr_getR dX4_hears_42 fX4_56 (by first | assumption | rfl) (by omega) (by decide) rfl (by assumption) ?_
            refine gr_aload_n dX4_hears_45 rfl ?_
            refine gr_getI dX4_hears_46 fX4_59 (by first | assumption | rfl) (by omega) (by decide) rfl ?_
            rw [show gw_U I 73 m c 0 10 = (m : Int) from (gw_U_n (by omega)).trans hm]
            refine gr_iload_n dX4_hears_49 rfl ?_
            refine gr_iast (i := m) dX4_hears_50 (by first | assumption | rfl) (by omega) (by omega) (by omega) (by decide) ?_
            refine gr_aload_n dX4_hears_51 rfl ?_
            refine gr_dup dX4_hears_52 ?_
            refine gr_getI dX4_hears_53 fX4_59 (by first | assumption | rfl) (by omega) (by decide) rfl ?_
            rw [show gw_U (gw_U I 73 m c) 74 m x 0 10 = (m : Int) from (gw_U_n (by omega)).trans ((gw_U_n (by omega)).trans hm)]
            refine gr_iconst dX4_hears_56 ?_
            refine gr_iadd dX4_hears_57 rfl ?_
            refine gr_putI dX4_hears_58 fX4_59 (by first | assumption | rfl) (by omega) (Or.inl rfl) rfl ?_
            refine gr_aload_n dX4_hears_61 rfl ?_
            refine gr_getI dX4_hears_62 fX4_59 (by first | assumption | rfl) (by omega) (by decide) rfl ?_
            have hu : gu_hears I (gw_U (gw_U (gw_U I 73 m c) 74 m x) 0 10 ((m : Int) + 1)) c x := by
              unfold gu_hears
              rw [if_pos (by omega)]
              intro a b
              unfold gw_U
              grind
            refine gr_iret dX4_hears_65 (by first | exact Or.inl rfl | exact Or.inr ⟨rfl, by omega⟩) (by decide) (by decide) ((hQ ▸ ⟨_, _, rfl, rfl, by rw [gw_U_s]; unfold ga_hears; rw [if_pos ⟨h1, h2⟩, if_pos (by omega)]; omega, hu, gc_D_hears hK hD hu⟩))
          · have hu : gu_hears I I c x := by unfold gu_hears; rw [if_neg (by omega)]
            refine gr_bipush dX4_hears_28 (by decide) ?_
            refine gr_iret dX4_hears_30 (by first | exact Or.inl rfl | exact Or.inr ⟨rfl, by omega⟩) (by decide) (by decide) ((hQ ▸ ⟨_, _, rfl, rfl, by unfold ga_hears; rw [if_pos ⟨h1, h2⟩, if_neg (by omega)], hu, hD⟩))
        · omega
      · rw [if_neg h2]
        refine gr_if_ne 19 dX4_hears_14 (by decide) (by unfold gw_in; omega) (fun h14 => ?_) (fun h14 => ?_)
        · omega
        · exact bad (fun h => h2 h.2)
  · rw [if_neg h1]
    refine gr_if_eq 17 dX4_hears_5 (by decide) (by unfold gw_in; omega) (fun h5 => ?_) (fun h5 => ?_)
    · exact bad (fun h => h1 h.1)
    · omega
end GC
