/-! ChordSpreads: what is done -/
section GC
variable {I : Nat → Nat → Int} {F : Nat → Nat → Option Nat} {P n : Nat} {pp : Nat → Nat}
/-- a piece that lay well becomes 'now' -/
abbrev gu_put (I1 I' : Nat → Nat → Int) (c : Nat) (x y z : Int) : Prop := ∀ a b, I' a b = if a = 19 ∧ b = 0 then (if (c : Int) = I1 19 0 then I1 19 0 + 1 else I1 19 0) else if a = 19 + 1 ∧ b = 3 * c then x else if a = 19 + 1 ∧ b = 3 * c + 1 then y else if a = 19 + 1 ∧ b = 3 * c + 2 then z else I1 a b
abbrev gc_puts (I : Nat → Nat → Int) (k x y z : Int) : Prop := ((0 ≤ k ∧ k ≤ I 19 0) ∧ gc_nts x y z) ∧ ¬ (k < I 19 0 ∧ I 20 (3 * k.toNat) = x ∧ I 20 (3 * k.toNat + 1) = y ∧ I 20 (3 * k.toNat + 2) = z) ∧ k < 8
def gu_puts (I I' : Nat → Nat → Int) (pp pp' : Nat → Nat) (k x y z : Int) : Prop := if gc_puts I k x y z then ∃ I1, gu_rem I I1 pp pp' ∧ gu_put I1 I' k.toNat x y z else I' = I ∧ pp' = pp
def ga_puts (I : Nat → Nat → Int) (k x y z : Int) : Int := if (0 ≤ k ∧ k ≤ I 19 0) ∧ gc_nts x y z then (if k < I 19 0 ∧ I 20 (3 * k.toNat) = x ∧ I 20 (3 * k.toNat + 1) = y ∧ I 20 (3 * k.toNat + 2) = z then -2 else if k < 8 then (if k = I 19 0 then I 19 0 + 1 else I 19 0) else -3) else -1
theorem gc_D_put {I1 I' : Nat → Nat → Int} {c : Nat} {x y z : Int} (hK : gc_K F pp) (hD : gc_D I1 P n pp) (h0 : I1 0 11 = 0) (hc : (c : Int) ≤ I1 19 0) (hc8 : c < 8) (hn : gc_nts x y z) (hu : gu_put I1 I' c x y z) : gc_D I' P n pp := by
  obtain ⟨b, w, -⟩ := id hD
  obtain ⟨w1, w2, w3, w4, w5⟩ := w.1
  have e : ∀ a, a ≠ 19 → a ≠ 20 → I' a = I1 a := fun a h1 h2 => funext fun b => by rw [hu, if_neg (by omega), if_neg (by omega), if_neg (by omega), if_neg (by omega)]
  have e19 : ∀ b, b ≠ 0 → I' 19 b = I1 19 b := fun b h1 => by rw [hu, if_neg (by omega), if_neg (by omega), if_neg (by omega), if_neg (by omega)]
  have es : I' 19 0 = if (c : Int) = I1 19 0 then I1 19 0 + 1 else I1 19 0 := by rw [hu, if_pos (by omega)]
  have ex : I' 20 (3 * c) = x := by rw [hu, if_neg (by omega), if_pos (by omega)]
  have ey : I' 20 (3 * c + 1) = y := by rw [hu, if_neg (by omega), if_neg (by omega), if_pos (by omega)]
  have ez : I' 20 (3 * c + 2) = z := by rw [hu, if_neg (by omega), if_neg (by omega), if_neg (by omega), if_pos (by omega)]
  have eo : ∀ b, ¬ (3 * c ≤ b ∧ b < 3 * c + 3) → I' 20 b = I1 20 b := fun b h1 => by rw [hu, if_neg (by omega), if_neg (by omega), if_neg (by omega), if_neg (by omega)]
  unfold gc_nts at hn
  refine gc_D_fr hK hD (fun a _ _ h1 h2 _ => e a h1 h2) (fun i _ => by rw [e 0 (by omega) (by omega)]) ⟨?_, by rw [e19 1 (by omega)]; exact w2, by rw [e19 2 (by omega)]; exact w3, by rw [e19 3 (by omega)]; exact w4, fun k hk => ?_⟩ ?_ (by rw [e 0 (by omega) (by omega), h0]; exact ⟨Or.inl rfl, fun h => by omega⟩)
  · rw [es]; split <;> omega
  · rw [es] at hk
    by_cases hkc : k = c
    · subst hkc
      show 0 ≤ I' 20 (3 * k) ∧ (I' 20 (3 * k + 1) = -1 → I' 20 (3 * k + 2) = -1)
      rw [ex, ey, ez]; omega
    · show 0 ≤ I' 20 (3 * k) ∧ (I' 20 (3 * k + 1) = -1 → I' 20 (3 * k + 2) = -1)
      rw [eo (3 * k) (by omega), eo (3 * k + 1) (by omega), eo (3 * k + 2) (by omega)]
      refine w5 k ?_
      revert hk
      split <;> omega
  · intro i hi
    by_cases h : 3 * c ≤ i ∧ i < 3 * c + 3
    · rcases (show i = 3 * c ∨ i = 3 * c + 1 ∨ i = 3 * c + 2 by omega) with rfl | rfl | rfl
      · rw [ex]; omega
      · rw [ey]; omega
      · rw [ez]; omega
    · rw [eo i h]; exact w.2 i hi
theorem c_puts {k x y z : Int} (d : Nat) (hK : gc_K F pp) (hD : gc_D I P n pp) (hk : gw_in k) (hx : gw_in x) (hy : gw_in y) (hz : gw_in z) : gw_Met jX4_puts (d + 2) [.inr (some 0), .inl k, .inl x, .inl y, .inl z] (114, I, F) (gw_iF (fun r I' F' => ∃ pp', r = ga_puts I k x y z ∧ gu_puts I I' pp pp' k x y z ∧ gc_K F' pp' ∧ (∀ a, a ≠ 70 → F' a = F a) ∧ gc_D I' P n pp')) := by
  obtain ⟨k0, k1, k2, k3, k4, k6, k7, k8, k9, k70, k71, kx, kq, kp, kj, ki⟩ := id hK
  obtain ⟨b, w, -, pa, im, he, so⟩ := id hD
  obtain ⟨w1, w2, w3, w4, w5⟩ := id w.1
  obtain ⟨-, -, -, -, -, -, -, -, -, -, -, -, -, -, hq19⟩ := id kq
  generalize hQ : gw_iF (fun r I' F' => ∃ pp', r = ga_puts I k x y z ∧ gu_puts I I' pp pp' k x y z ∧ gc_K F' pp' ∧ (∀ a, a ≠ 70 → F' a = F a) ∧ gc_D I' P n pp') = Q
  have hk' := hk
  unfold gw_in at hk'
  have no : ∀ r : Int, ¬ gc_puts I k x y z → r = ga_puts I k x y z → Q (some (.inl r)) (114, I, F) := by
    intro r h1 h2
    rw [← hQ]
    exact ⟨_, _, _, rfl, rfl, pp, h2, by unfold gu_puts; rw [if_neg h1]; exact ⟨rfl, rfl⟩, hK, fun _ _ => rfl, hD⟩
  have bad : ∀ hb : ¬ ((0 ≤ k ∧ k ≤ I 19 0) ∧ gc_nts x y z), gw_G (gw_Cm jX4_puts (d + 2) Q) jX4_puts 25 [some (.inr (some 0)), some (.inl k), some (.inl x), some (.inl y), some (.inl z)] [] (114, I, F) 0 0 := by
    intro hb
    refine gr_iconst dX4_puts_25 ?_
    refine gr_iret dX4_puts_26 (by first | exact Or.inl rfl | exact Or.inr ⟨rfl, by omega⟩) (by decide) (by decide) (no _ (fun h => hb h.1) (by unfold ga_puts; rw [if_neg hb]))
  have go : ∀ hb : ((0 ≤ k ∧ k ≤ I 19 0) ∧ gc_nts x y z), ¬ (k < I 19 0 ∧ I 20 (3 * k.toNat) = x ∧ I 20 (3 * k.toNat + 1) = y ∧ I 20 (3 * k.toNat + 2) = z) → gw_G (gw_Cm jX4_puts (d + 2) Q) jX4_puts 56 [some (.inr (some 0)), some (.inl k), some (.inl x), some (.inl y), some (.inl z)] [] (114, I, F) 0 0 := by
    intro hb hne
    refine gr_iload_n dX4_puts_56 rfl ?_
    refine gr_bipush dX4_puts_57 (by decide) ?_
    refine gr_icmp_lt 65 dX4_puts_59 (by decide) (by unfold gw_in; omega) (by unfold gw_in; omega) (fun h59 => ?_) (fun h59 => ?_)
    · obtain ⟨c, rfl⟩ : ∃ c : Nat, k = (c : Int) := ⟨k.toNat, by omega⟩
      rw [Int.toNat_natCast] at hne
      refine gr_aload_n dX4_puts_65 rfl ?_
      refine gr_virt dX4_puts_66 kX4_133 (as := []) rfl rfl (by first | assumption | rfl) (by omega) (Nat.le_of_ble_eq_true rfl) (gw_Rm_m (by omega) (by decide) (by decide)) (c_remember d hK pa.1 w1) ?_
      rintro _ _ ⟨rfl, I1, F1, rfl, pp', hu, hK1, hF1⟩
      obtain ⟨hD1, z1, z2, z3, z4⟩ := gc_D_rem hK hK1 hD hu
      obtain ⟨q0, q1, q2, q3, -⟩ := id hK1
      have kq1 := hK1.2.2.2.2.2.2.2.2.2.2.2.2.1
      obtain ⟨-, -, -, -, -, -, -, -, -, -, -, -, -, -, hq191⟩ := id kq1
      refine gr_aload_n dX4_puts_69 rfl ?_
      refine gr_getR dX4_puts_70 fX4_32 (by first | assumption | rfl) (by omega) (by decide) rfl (by assumption) ?_
      refine gr_iload_n dX4_puts_73 rfl ?_
      refine gr_iload_n dX4_puts_74 rfl ?_
      refine gr_iload_n dX4_puts_75 rfl ?_
      refine gr_iload dX4_puts_76 rfl ?_
      refine gr_virt dX4_puts_78 kX4_136 (as := [_, _, _, _]) rfl rfl (by first | assumption | rfl) (by omega) (Nat.le_of_ble_eq_true rfl) (gw_Rm_m (by omega) (by decide) (by decide)) (c_put (c := c) (k := 19) (d + 0) hq191 (by omega) (by rw [z2]; omega) (by rw [z2]; omega)) ?_
      rintro _ _ ⟨rfl, I2, rfl, hI2⟩
      refine gr_aload_n dX4_puts_81 rfl ?_
      refine gr_getR dX4_puts_82 fX4_32 (by first | assumption | rfl) (by omega) (by decide) rfl (by assumption) ?_
      refine gr_getI dX4_puts_85 fX4_122 (by first | assumption | rfl) (by omega) (by decide) rfl ?_
      refine gr_iret dX4_puts_88 (by first | exact Or.inl rfl | exact Or.inr ⟨rfl, by omega⟩) (by decide) (by decide) ?_
      rw [← hQ]
      refine ⟨_, _, _, rfl, rfl, pp', ?_, ?_, hK1, hF1, gc_D_put hK1 hD1 z1 (by rw [z2]; omega) (by omega) hb.2 hI2⟩
      · rw [hI2, if_pos (by omega), z2]
        unfold ga_puts
        rw [if_pos hb, Int.toNat_natCast, if_neg hne, if_pos h59]
      · unfold gu_puts gc_puts
        rw [Int.toNat_natCast, if_pos ⟨hb, hne, h59⟩]
        exact ⟨I1, hu, hI2⟩
    · refine gr_bipush dX4_puts_62 (by decide) ?_
      refine gr_iret dX4_puts_64 (by first | exact Or.inl rfl | exact Or.inr ⟨rfl, by omega⟩) (by decide) (by decide) (no _ (fun h => by have := h.2.2; omega) (by unfold ga_puts; rw [if_pos hb, if_neg hne, if_neg (by omega)]))
  refine gw_enter okX4_puts rfl (Nat.le_of_ble_eq_true rfl) ?_
  refine gr_iload_n dX4_puts_0 rfl ?_
  refine gr_if_lt 25 dX4_puts_1 (by decide) (by unfold gw_in; omega) (fun h1 => ?_) (fun h1 => ?_)
  · exact bad (by omega)
  · refine gr_iload_n dX4_puts_4 rfl ?_
    refine gr_aload_n dX4_puts_5 rfl ?_
    refine gr_getR dX4_puts_6 fX4_32 (by first | assumption | rfl) (by omega) (by decide) rfl (by assumption) ?_
    refine gr_getI dX4_puts_9 fX4_122 (by first | assumption | rfl) (by omega) (by decide) rfl ?_
    refine gr_icmp_gt 25 dX4_puts_12 (by decide) (by unfold gw_in; omega) (by unfold gw_in; omega) (fun h12 => ?_) (fun h12 => ?_)
    · exact bad (by omega)
    · refine gr_iload_n dX4_puts_15 rfl ?_
      refine gr_iload_n dX4_puts_16 rfl ?_
      refine gr_iload dX4_puts_17 rfl ?_
      refine gr_stat dX4_puts_19 kX4_125 (as := [_, _, _]) rfl rfl (Nat.le_of_ble_eq_true rfl) (gw_Rm_m (by omega) (by decide) (by decide)) (c_areNotes (d + 0) hx hy hz) ?_
      rintro _ _ ⟨rfl, rfl⟩
      by_cases h2 : gc_nts x y z
      · rw [if_pos h2]
        refine gr_if_ne 27 dX4_puts_22 (by decide) (by unfold gw_in; omega) (fun h22 => ?_) (fun h22 => ?_)
        · refine gr_iload_n dX4_puts_27 rfl ?_
          refine gr_aload_n dX4_puts_28 rfl ?_
          refine gr_getR dX4_puts_29 fX4_32 (by first | assumption | rfl) (by omega) (by decide) rfl (by assumption) ?_
          refine gr_getI dX4_puts_32 fX4_122 (by first | assumption | rfl) (by omega) (by decide) rfl ?_
          refine gr_icmp_ge 56 dX4_puts_35 (by decide) (by unfold gw_in; omega) (by unfold gw_in; omega) (fun h35 => ?_) (fun h35 => ?_)
          · exact go ⟨by omega, h2⟩ (fun h => by omega)
          · obtain ⟨c, rfl⟩ : ∃ c : Nat, k = (c : Int) := ⟨k.toNat, by omega⟩
            refine gr_aload_n dX4_puts_38 rfl ?_
            refine gr_getR dX4_puts_39 fX4_32 (by first | assumption | rfl) (by omega) (by decide) rfl (by assumption) ?_
            refine gr_iload_n dX4_puts_42 rfl ?_
            refine gr_iload_n dX4_puts_43 rfl ?_
            refine gr_iload_n dX4_puts_44 rfl ?_
            refine gr_iload dX4_puts_45 rfl ?_
            refine gr_virt dX4_puts_47 kX4_129 (as := [_, _, _, _]) rfl rfl (by first | assumption | rfl) (by omega) (Nat.le_of_ble_eq_true rfl) (gw_Rm_m (by omega) (by decide) (by decide)) (c_isThat (c := c) (k := 19) (d + 0) hq19 (by omega) w.2 hx hy hz) ?_
            rintro _ _ ⟨rfl, rfl⟩
            by_cases h3 : I 20 (3 * c + 0) = x ∧ I 20 (3 * c + 1) = y ∧ I 20 (3 * c + 2) = z
            · rw [if_pos h3]
              refine gr_if_eq 56 dX4_puts_50 (by decide) (by unfold gw_in; omega) (fun h50 => ?_) (fun h50 => ?_)
              · omega
              · refine gr_bipush dX4_puts_53 (by decide) ?_
                have h4 : (c : Int) < I 19 0 ∧ I 20 (3 * (c : Int).toNat) = x ∧ I 20 (3 * (c : Int).toNat + 1) = y ∧ I 20 (3 * (c : Int).toNat + 2) = z := ⟨h35, h3⟩
                refine gr_iret dX4_puts_55 (by first | exact Or.inl rfl | exact Or.inr ⟨rfl, by omega⟩) (by decide) (by decide) (no _ (fun h => h.2.1 h4) (by unfold ga_puts; rw [if_pos ⟨by omega, h2⟩, if_pos h4]))
            · rw [if_neg h3]
              refine gr_if_eq 56 dX4_puts_50 (by decide) (by unfold gw_in; omega) (fun h50 => ?_) (fun h50 => ?_)
              · exact go ⟨by omega, h2⟩ (fun h => h3 h.2)
              · omega
        · omega
      · rw [if_neg h2]
        refine gr_if_ne 27 dX4_puts_22 (by decide) (by unfold gw_in; omega) (fun h22 => ?_) (fun h22 => ?_)
        · omega
        · exact bad (fun h => h2 h.2)
abbrev gu_take (I1 I' : Nat → Nat → Int) (c : Nat) : Prop := ∀ a b, I' a b = if a = 19 ∧ b = 0 then I1 19 0 - 1 else if a = 19 + 1 ∧ 3 * c ≤ b ∧ (b : Int) < 3 * (I1 19 0 - 1) then I1 (19 + 1) (b + 3) else I1 a b
def gu_takes (I I' : Nat → Nat → Int) (pp pp' : Nat → Nat) (k : Int) : Prop := if 0 ≤ k ∧ k < I 19 0 then ∃ I1, gu_rem I I1 pp pp' ∧ gu_take I1 I' k.toNat else I' = I ∧ pp' = pp
theorem gc_D_take {I1 I' : Nat → Nat → Int} {c : Nat} (hK : gc_K F pp) (hD : gc_D I1 P n pp) (h0 : I1 0 11 = 0) (hc : (c : Int) < I1 19 0) (hu : gu_take I1 I' c) : gc_D I' P n pp := by
  obtain ⟨b, w, -⟩ := id hD
  obtain ⟨w1, w2, w3, w4, w5⟩ := w.1
  have e : ∀ a, a ≠ 19 → a ≠ 20 → I' a = I1 a := fun a h1 h2 => funext fun b => by rw [hu, if_neg (by omega), if_neg (by omega)]
  have e19 : ∀ b, b ≠ 0 → I' 19 b = I1 19 b := fun b h1 => by rw [hu, if_neg (by omega), if_neg (by omega)]
  have es : I' 19 0 = I1 19 0 - 1 := by rw [hu, if_pos (by omega)]
  have e1 : ∀ b : Nat, 3 * c ≤ b → (b : Int) < 3 * (I1 19 0 - 1) → I' 20 b = I1 20 (b + 3) := fun b h1 h2 => by rw [hu, if_neg (by omega), if_pos (by omega)]
  have e2 : ∀ b : Nat, ¬ (3 * c ≤ b ∧ (b : Int) < 3 * (I1 19 0 - 1)) → I' 20 b = I1 20 b := fun b h1 => by rw [hu, if_neg (by omega), if_neg (by omega)]
  refine gc_D_fr hK hD (fun a _ _ h1 h2 _ => e a h1 h2) (fun i _ => by rw [e 0 (by omega) (by omega)]) ⟨by omega, by rw [e19 1 (by omega)]; exact w2, by rw [e19 2 (by omega)]; exact w3, by rw [e19 3 (by omega)]; exact w4, fun k hk => ?_⟩ ?_ (by rw [e 0 (by omega) (by omega), h0]; exact ⟨Or.inl rfl, fun h => by omega⟩)
  · rw [es] at hk
    show 0 ≤ I' 20 (3 * k) ∧ (I' 20 (3 * k + 1) = -1 → I' 20 (3 * k + 2) = -1)
    by_cases hkc : c ≤ k
    · rw [e1 (3 * k) (by omega) (by omega), e1 (3 * k + 1) (by omega) (by omega), e1 (3 * k + 2) (by omega) (by omega)]
      exact w5 (k + 1) (by omega)
    · rw [e2 (3 * k) (by omega), e2 (3 * k + 1) (by omega), e2 (3 * k + 2) (by omega)]
      exact w5 k (by omega)
  · intro i hi
    by_cases h : 3 * c ≤ i ∧ (i : Int) < 3 * (I1 19 0 - 1)
    · rw [e1 i h.1 h.2]; exact w.2 (i + 3) (by omega)
    · rw [e2 i h]; exact w.2 i hi
theorem c_takes {k : Int} (d : Nat) (hK : gc_K F pp) (hD : gc_D I P n pp) (hk : gw_in k) : gw_Met jX4_takes (d + 2) [.inr (some 0), .inl k] (114, I, F) (gw_iF (fun r I' F' => ∃ pp', r = (if 0 ≤ k ∧ k < I 19 0 then I 19 0 - 1 else -1) ∧ gu_takes I I' pp pp' k ∧ gc_K F' pp' ∧ (∀ a, a ≠ 70 → F' a = F a) ∧ gc_D I' P n pp')) := by
  obtain ⟨k0, k1, k2, k3, k4, k6, k7, k8, k9, k70, k71, kx, kq, kp, kj, ki⟩ := id hK
  obtain ⟨b, w, -, pa, im, he, so⟩ := id hD
  obtain ⟨w1, w2, w3, w4, w5⟩ := id w.1
  generalize hQ : gw_iF (fun r I' F' => ∃ pp', r = (if 0 ≤ k ∧ k < I 19 0 then I 19 0 - 1 else -1) ∧ gu_takes I I' pp pp' k ∧ gc_K F' pp' ∧ (∀ a, a ≠ 70 → F' a = F a) ∧ gc_D I' P n pp') = Q
  refine gw_enter okX4_takes rfl (Nat.le_of_ble_eq_true rfl) ?_
  refine gr_aload_n dX4_takes_0 rfl ?_
  refine gr_iload_n dX4_takes_1 rfl ?_
  refine gr_virt dX4_takes_2 kX4_111 (as := [_]) rfl rfl (by first | assumption | rfl) (by omega) (Nat.le_of_ble_eq_true rfl) (gw_Rm_m (by omega) (by decide) (by decide)) (c_isChord (d + 1) hK w1 hk) ?_
  rintro _ _ ⟨rfl, rfl⟩
  by_cases h1 : 0 ≤ k ∧ k < I 19 0
  · rw [if_pos h1]
    refine gr_if_ne 10 dX4_takes_5 (by decide) (by unfold gw_in; omega) (fun h5 => ?_) (fun h5 => ?_)
    · obtain ⟨c, rfl⟩ : ∃ c : Nat, k = (c : Int) := ⟨k.toNat, by omega⟩
      refine gr_aload_n dX4_takes_10 rfl ?_
      refine gr_virt dX4_takes_11 kX4_133 (as := []) rfl rfl (by first | assumption | rfl) (by omega) (Nat.le_of_ble_eq_true rfl) (gw_Rm_m (by omega) (by decide) (by decide)) (c_remember d hK pa.1 w1) ?_
      rintro _ _ ⟨rfl, I1, F1, rfl, pp', hu, hK1, hF1⟩
      obtain ⟨hD1, z1, z2, z3, z4⟩ := gc_D_rem hK hK1 hD hu
      obtain ⟨q0, q1, q2, q3, -⟩ := id hK1
      have kq1 := hK1.2.2.2.2.2.2.2.2.2.2.2.2.1
      obtain ⟨-, -, -, -, -, -, -, -, -, -, -, -, -, -, hq191⟩ := id kq1
      refine gr_aload_n dX4_takes_14 rfl ?_
      refine gr_getR dX4_takes_15 fX4_32 (by first | assumption | rfl) (by omega) (by decide) rfl (by assumption) ?_
      refine gr_iload_n dX4_takes_18 rfl ?_
      refine gr_virt dX4_takes_19 kX4_140 (as := [_]) rfl rfl (by first | assumption | rfl) (by omega) (Nat.le_of_ble_eq_true rfl) (gw_Rm_m (by omega) (by decide) (by decide)) (c_take (c := c) (k := 19) (d + 0) hq191 (by rw [z2]; omega) (by rw [z2]; omega)) ?_
      rintro _ _ ⟨rfl, I2, rfl, hI2⟩
      refine gr_aload_n dX4_takes_22 rfl ?_
      refine gr_getR dX4_takes_23 fX4_32 (by first | assumption | rfl) (by omega) (by decide) rfl (by assumption) ?_
      refine gr_getI dX4_takes_26 fX4_122 (by first | assumption | rfl) (by omega) (by decide) rfl ?_
      refine gr_iret dX4_takes_29 (by first | exact Or.inl rfl | exact Or.inr ⟨rfl, by omega⟩) (by decide) (by decide) ?_
      rw [← hQ]
      refine ⟨_, _, _, rfl, rfl, pp', ?_, ?_, hK1, hF1, gc_D_take hK1 hD1 z1 (by rw [z2]; omega) hI2⟩
      · rw [hI2, if_pos (by omega), z2, if_pos h1]
      · unfold gu_takes
        rw [Int.toNat_natCast, if_pos h1]
        exact ⟨I1, hu, hI2⟩
    · omega
  · rw [if_neg h1]
    refine gr_if_ne 10 dX4_takes_5 (by decide) (by unfold gw_in; omega) (fun h5 => ?_) (fun h5 => ?_)
    · omega
    · refine gr_iconst dX4_takes_8 ?_
      refine gr_iret dX4_takes_9 (by first | exact Or.inl rfl | exact Or.inr ⟨rfl, by omega⟩) (by decide) (by decide) ((hQ ▸ ⟨_, _, _, rfl, rfl, pp, by rw [if_neg h1], by unfold gu_takes; rw [if_neg h1]; exact ⟨rfl, rfl⟩, hK, fun _ _ => rfl, hD⟩))
def gu_calls (I I' : Nat → Nat → Int) (P : Nat) (pp pp' : Nat → Nat) (p : Int) : Prop := if 0 ≤ p ∧ p < (P : Int) then ∃ I1, gu_rem I I1 pp pp' ∧ I' = gw_U I1 19 1 (((I 19 1).toNat ^^^ 2 ^ p.toNat : Nat) : Int) else I' = I ∧ pp' = pp
def ga_calls (I : Nat → Nat → Int) (P : Nat) (p : Int) : Int := if 0 ≤ p ∧ p < (P : Int) then ((((I 19 1).toNat ^^^ 2 ^ p.toNat) / 2 ^ p.toNat % 2 : Nat) : Int) else -1
theorem gc_xor {m q : Nat} (hm : m < 16) (hq : q < 4) : m ^^^ 2 ^ q < 16 := Nat.xor_lt_two_pow (n := 4) hm (by rcases (show q = 0 ∨ q = 1 ∨ q = 2 ∨ q = 3 by omega) with rfl | rfl | rfl | rfl <;> decide)
theorem c_calls {p : Int} (d : Nat) (hK : gc_K F pp) (hD : gc_D I P n pp) (hp : gw_in p) : gw_Met jX4_calls (d + 2) [.inr (some 0), .inl p] (114, I, F) (gw_iF (fun r I' F' => ∃ pp', r = ga_calls I P p ∧ gu_calls I I' P pp pp' p ∧ gc_K F' pp' ∧ (∀ a, a ≠ 70 → F' a = F a) ∧ gc_D I' P n pp')) := by
  obtain ⟨k0, k1, k2, k3, k4, k6, k7, k8, k9, k70, k71, kx, kq, kp, kj, ki⟩ := id hK
  obtain ⟨b, w, -, pa, im, he, so⟩ := id hD
  obtain ⟨w1, w2, w3, w4, w5⟩ := id w.1
  generalize hQ : gw_iF (fun r I' F' => ∃ pp', r = ga_calls I P p ∧ gu_calls I I' P pp pp' p ∧ gc_K F' pp' ∧ (∀ a, a ≠ 70 → F' a = F a) ∧ gc_D I' P n pp') = Q
  have hb4 := b.2.2.2.1
  refine gw_enter okX4_calls rfl (Nat.le_of_ble_eq_true rfl) ?_
  refine gr_aload_n dX4_calls_0 rfl ?_
  refine gr_iload_n dX4_calls_1 rfl ?_
  refine gr_virt dX4_calls_2 kX4_89 (as := [_]) rfl rfl (by first | assumption | rfl) (by omega) (Nat.le_of_ble_eq_true rfl) (gw_Rm_m (by omega) (by decide) (by decide)) (c_isPlayer (d + 1) hK b.1 hb4 hp) ?_
  rintro _ _ ⟨rfl, rfl⟩
  by_cases h1 : 0 ≤ p ∧ p < (P : Int)
  · rw [if_pos h1]
    refine gr_if_ne 10 dX4_calls_5 (by decide) (by unfold gw_in; omega) (fun h5 => ?_) (fun h5 => ?_)
    · obtain ⟨c, rfl⟩ : ∃ c : Nat, p = (c : Int) := ⟨p.toNat, by omega⟩
      obtain ⟨m, hm⟩ : ∃ m : Nat, I 19 1 = (m : Int) := ⟨(I 19 1).toNat, by omega⟩
      have hx := gc_xor (m := m) (q := c) (by omega) (by omega)
      refine gr_aload_n dX4_calls_10 rfl ?_
      refine gr_virt dX4_calls_11 kX4_133 (as := []) rfl rfl (by first | assumption | rfl) (by omega) (Nat.le_of_ble_eq_true rfl) (gw_Rm_m (by omega) (by decide) (by decide)) (c_remember d hK pa.1 w1) ?_
      rintro _ _ ⟨rfl, I1, F1, rfl, pp', hu, hK1, hF1⟩
      obtain ⟨hD1, z1, z2, z3, z4⟩ := gc_D_rem hK hK1 hD hu
      obtain ⟨q0, q1, q2, q3, -⟩ := id hK1
      refine gr_aload_n dX4_calls_14 rfl ?_
      refine gr_getR dX4_calls_15 fX4_32 (by first | assumption | rfl) (by omega) (by decide) rfl (by assumption) ?_
      refine gr_dup dX4_calls_18 ?_
      refine gr_getI dX4_calls_19 fX4_105 (by first | assumption | rfl) (by omega) (by decide) rfl ?_
      rw [z2, hm]
      refine gr_iconst dX4_calls_22 ?_
      refine gr_iload_n dX4_calls_23 rfl ?_
      refine gr_ishl (v := ((2 ^ c : Nat) : Int)) dX4_calls_24 (by have h := ga_shlN (a := 1) (y := c) (by omega) (by rcases (show c = 0 ∨ c = 1 ∨ c = 2 ∨ c = 3 by omega) with h | h | h | h <;> rw [h] <;> decide); rw [Nat.one_mul] at h; exact h) ?_
      refine gr_ixor (v := ((m ^^^ 2 ^ c : Nat) : Int)) dX4_calls_25 (ga_xorN _ _) ?_
      refine gr_putI dX4_calls_26 fX4_105 (by first | assumption | rfl) (by omega) (Or.inl rfl) rfl ?_
      refine gr_aload_n dX4_calls_29 rfl ?_
      refine gr_getR dX4_calls_30 fX4_32 (by first | assumption | rfl) (by omega) (by decide) rfl (by assumption) ?_
      refine gr_getI dX4_calls_33 fX4_105 (by first | assumption | rfl) (by omega) (by decide) rfl ?_
      rw [gw_U_s]
      refine gr_iload_n dX4_calls_36 rfl ?_
      refine gr_ishr (v := (((m ^^^ 2 ^ c) / 2 ^ c : Nat) : Int)) dX4_calls_37 (ga_bit (by omega) (by omega)) ?_
      refine gr_iconst dX4_calls_38 ?_
      refine gr_iand (v := (((m ^^^ 2 ^ c) / 2 ^ c % 2 : Nat) : Int)) dX4_calls_39 (ga_bit1 _) ?_
      refine gr_iret dX4_calls_40 (by first | exact Or.inl rfl | exact Or.inr ⟨rfl, by omega⟩) (by decide) (by decide) ?_
      rw [← hQ]
      have e19 : ∀ b, b ≠ 1 → gw_U I1 19 1 ((m ^^^ 2 ^ c : Nat) : Int) 19 b = I1 19 b := fun b h => gw_U_n (by omega)
      refine ⟨_, _, _, rfl, rfl, pp', ?_, ?_, hK1, hF1, gc_D_fr hK1 hD1 (fun a _ _ h _ _ => gw_U_r h) (fun i _ => gw_U_n (by omega)) ⟨by rw [e19 0 (by omega), z2]; exact w1, by rw [gw_U_s]; omega, by rw [e19 2 (by omega), z2]; exact w3, by rw [e19 3 (by omega), z2]; exact w4, ?_⟩ (by rw [gw_U_r (by omega), z3]; exact w.2) (by rw [gw_U_n (by omega), z1]; exact ⟨Or.inl rfl, fun h => by omega⟩)⟩
      · unfold ga_calls
        rw [if_pos h1, hm]
        rfl
      · unfold gu_calls
        rw [if_pos h1, hm]
        exact ⟨I1, hu, rfl⟩
      · rw [e19 0 (by omega), gw_U_r (by omega), z2, z3]
        exact w5
    · omega
  · rw [if_neg h1]
    refine gr_if_ne 10 dX4_calls_5 (by decide) (by unfold gw_in; omega) (fun h5 => ?_) (fun h5 => ?_)
    · omega
    · refine gr_iconst dX4_calls_8 ?_
      refine gr_iret dX4_calls_9 (by first | exact Or.inl rfl | exact Or.inr ⟨rfl, by omega⟩) (by decide) (by decide) ((hQ ▸ ⟨_, _, _, rfl, rfl, pp, by unfold ga_calls; rw [if_neg h1], by unfold gu_calls; rw [if_neg h1]; exact ⟨rfl, rfl⟩, hK, fun _ _ => rfl, hD⟩))
abbrev gc_tells (I : Nat → Nat → Int) (r b : Int) : Prop := ((0 ≤ r ∧ r ≤ 20) ∧ 0 ≤ b ∧ b ≤ 30) ∧ ¬ (r = I 19 2 ∧ b = I 19 3)
def gu_tells (I I' : Nat → Nat → Int) (pp pp' : Nat → Nat) (r b : Int) : Prop := if gc_tells I r b then ∃ I1, gu_rem I I1 pp pp' ∧ I' = gw_U (gw_U I1 19 2 r) 19 3 b else I' = I ∧ pp' = pp
def ga_tells (I : Nat → Nat → Int) (r b : Int) : Int := if (0 ≤ r ∧ r ≤ 20) ∧ 0 ≤ b ∧ b ≤ 30 then (if r = I 19 2 ∧ b = I 19 3 then -2 else 1) else -1
theorem c_tells {x y : Int} (d : Nat) (hK : gc_K F pp) (hD : gc_D I P n pp) (hx : gw_in x) (hy : gw_in y) : gw_Met jX4_tells (d + 2) [.inr (some 0), .inl x, .inl y] (114, I, F) (gw_iF (fun r I' F' => ∃ pp', r = ga_tells I x y ∧ gu_tells I I' pp pp' x y ∧ gc_K F' pp' ∧ (∀ a, a ≠ 70 → F' a = F a) ∧ gc_D I' P n pp')) := by
  obtain ⟨k0, k1, k2, k3, k4, k6, k7, k8, k9, k70, k71, kx, kq, kp, kj, ki⟩ := id hK
  obtain ⟨b, w, -, pa, im, he, so⟩ := id hD
  obtain ⟨w1, w2, w3, w4, w5⟩ := id w.1
  generalize hQ : gw_iF (fun r I' F' => ∃ pp', r = ga_tells I x y ∧ gu_tells I I' pp pp' x y ∧ gc_K F' pp' ∧ (∀ a, a ≠ 70 → F' a = F a) ∧ gc_D I' P n pp') = Q
  have no : ∀ r : Int, ¬ gc_tells I x y → r = ga_tells I x y → Q (some (.inl r)) (114, I, F) := by
    intro r h1 h2
    rw [← hQ]
    exact ⟨_, _, _, rfl, rfl, pp, h2, by unfold gu_tells; rw [if_neg h1]; exact ⟨rfl, rfl⟩, hK, fun _ _ => rfl, hD⟩
  have bad : ∀ hb : ¬ ((0 ≤ x ∧ x ≤ 20) ∧ 0 ≤ y ∧ y ≤ 30), gw_G (gw_Cm jX4_tells (d + 2) Q) jX4_tells 20 [some (.inr (some 0)), some (.inl x), some (.inl y)] [] (114, I, F) 0 0 := by
    intro hb
    refine gr_iconst dX4_tells_20 ?_
    refine gr_iret dX4_tells_21 (by first | exact Or.inl rfl | exact Or.inr ⟨rfl, by omega⟩) (by decide) (by decide) (no _ (fun h => hb h.1) (by unfold ga_tells; rw [if_neg hb]))
  have go : ((0 ≤ x ∧ x ≤ 20) ∧ 0 ≤ y ∧ y ≤ 30) → ¬ (x = I 19 2 ∧ y = I 19 3) → gw_G (gw_Cm jX4_tells (d + 2) Q) jX4_tells 47 [some (.inr (some 0)), some (.inl x), some (.inl y)] [] (114, I, F) 0 0 := by
    intro hb hne
    refine gr_aload_n dX4_tells_47 rfl ?_
    refine gr_virt dX4_tells_48 kX4_133 (as := []) rfl rfl (by first | assumption | rfl) (by omega) (Nat.le_of_ble_eq_true rfl) (gw_Rm_m (by omega) (by decide) (by decide)) (c_remember d hK pa.1 w1) ?_
    rintro _ _ ⟨rfl, I1, F1, rfl, pp', hu, hK1, hF1⟩
    obtain ⟨hD1, z1, z2, z3, z4⟩ := gc_D_rem hK hK1 hD hu
    obtain ⟨q0, q1, q2, q3, -⟩ := id hK1
    refine gr_aload_n dX4_tells_51 rfl ?_
    refine gr_getR dX4_tells_52 fX4_32 (by first | assumption | rfl) (by omega) (by decide) rfl (by assumption) ?_
    refine gr_iload_n dX4_tells_55 rfl ?_
    refine gr_putI dX4_tells_56 fX4_146 (by first | assumption | rfl) (by omega) (Or.inl rfl) rfl ?_
    refine gr_aload_n dX4_tells_59 rfl ?_
    refine gr_getR dX4_tells_60 fX4_32 (by first | assumption | rfl) (by omega) (by decide) rfl (by assumption) ?_
    refine gr_iload_n dX4_tells_63 rfl ?_
    refine gr_putI dX4_tells_64 fX4_149 (by first | assumption | rfl) (by omega) (Or.inl rfl) rfl ?_
    refine gr_iconst dX4_tells_67 ?_
    refine gr_iret dX4_tells_68 (by first | exact Or.inl rfl | exact Or.inr ⟨rfl, by omega⟩) (by decide) (by decide) ?_
    rw [← hQ]
    have e19 : ∀ b, b ≠ 2 → b ≠ 3 → gw_U (gw_U I1 19 2 x) 19 3 y 19 b = I1 19 b := fun b h1 h2 => (gw_U_n (by omega)).trans (gw_U_n (by omega))
    have eo : ∀ a, a ≠ 19 → gw_U (gw_U I1 19 2 x) 19 3 y a = I1 a := fun a h => (gw_U_r h).trans (gw_U_r h)
    refine ⟨_, _, _, rfl, rfl, pp', ?_, ?_, hK1, hF1, gc_D_fr hK1 hD1 (fun a _ _ h _ _ => eo a h) (fun i _ => by rw [eo 0 (by omega)]) ⟨by rw [e19 0 (by omega) (by omega), z2]; exact w1, by rw [e19 1 (by omega) (by omega), z2]; exact w2, by rw [gw_U_n (by omega), gw_U_s]; omega, by rw [gw_U_s]; omega, ?_⟩ (by rw [eo 20 (by omega), z3]; exact w.2) (by rw [eo 0 (by omega), z1]; exact ⟨Or.inl rfl, fun h => by omega⟩)⟩
    · unfold ga_tells
      rw [if_pos hb, if_neg hne]
    · unfold gu_tells
      rw [if_pos ⟨hb, hne⟩]
      exact ⟨I1, hu, rfl⟩
    · rw [e19 0 (by omega) (by omega), eo (19 + 1) (by omega), z2, z3]
      exact w5
  refine gw_enter okX4_tells rfl (Nat.le_of_ble_eq_true rfl) ?_
  refine gr_iload_n dX4_tells_0 rfl ?_
  refine gr_iconst dX4_tells_1 ?_
  refine gr_bipush dX4_tells_2 (by decide) ?_
  refine gr_stat dX4_tells_4 kX4_143 (as := [_, _, _]) rfl rfl (Nat.le_of_ble_eq_true rfl) (gw_Rm_m (by omega) (by decide) (by decide)) (c_isWithin (d + 1) hx (by unfold gw_in; omega) (by unfold gw_in; omega)) ?_
  rintro _ _ ⟨rfl, rfl⟩
  by_cases h1 : 0 ≤ x ∧ x ≤ 20
  · rw [if_pos h1]
    refine gr_if_eq 20 dX4_tells_7 (by decide) (by unfold gw_in; omega) (fun h7 => ?_) (fun h7 => ?_)
    · omega
    · refine gr_iload_n dX4_tells_10 rfl ?_
      refine gr_iconst dX4_tells_11 ?_
      refine gr_bipush dX4_tells_12 (by decide) ?_
      refine gr_stat dX4_tells_14 kX4_143 (as := [_, _, _]) rfl rfl (Nat.le_of_ble_eq_true rfl) (gw_Rm_m (by omega) (by decide) (by decide)) (c_isWithin (d + 1) hy (by unfold gw_in; omega) (by unfold gw_in; omega)) ?_
      rintro _ _ ⟨rfl, rfl⟩
      by_cases h2 : 0 ≤ y ∧ y ≤ 30
      · rw [if_pos h2]
        refine gr_if_ne 22 dX4_tells_17 (by decide) (by unfold gw_in; omega) (fun h17 => ?_) (fun h17 => ?_)
        · refine gr_iload_n dX4_tells_22 rfl ?_
          refine gr_aload_n dX4_tells_23 rfl ?_
          refine gr_getR dX4_tells_24 fX4_32 (by first | assumption | rfl) (by omega) (by decide) rfl (by assumption) ?_
          refine gr_getI dX4_tells_27 fX4_146 (by first | assumption | rfl) (by omega) (by decide) rfl ?_
          refine gr_icmp_ne 47 dX4_tells_30 (by decide) (by unfold gw_in; omega) (by unfold gw_in; omega) (fun h30 => ?_) (fun h30 => ?_)
          · exact go ⟨h1, h2⟩ (fun h => h30 h.1)
          · refine gr_iload_n dX4_tells_33 rfl ?_
            refine gr_aload_n dX4_tells_34 rfl ?_
            refine gr_getR dX4_tells_35 fX4_32 (by first | assumption | rfl) (by omega) (by decide) rfl (by assumption) ?_
            refine gr_getI dX4_tells_38 fX4_149 (by first | assumption | rfl) (by omega) (by decide) rfl ?_
            refine gr_icmp_ne 47 dX4_tells_41 (by decide) (by unfold gw_in; omega) (by unfold gw_in; omega) (fun h41 => ?_) (fun h41 => ?_)
            · exact go ⟨h1, h2⟩ (fun h => h41 h.2)
            · refine gr_bipush dX4_tells_44 (by decide) ?_
              refine gr_iret dX4_tells_46 (by first | exact Or.inl rfl | exact Or.inr ⟨rfl, by omega⟩) (by decide) (by decide) (no _ (fun h => h.2 ⟨h30, h41⟩) (by unfold ga_tells; rw [if_pos ⟨h1, h2⟩, if_pos ⟨h30, h41⟩]))
        · omega
      · rw [if_neg h2]
        refine gr_if_ne 22 dX4_tells_17 (by decide) (by unfold gw_in; omega) (fun h17 => ?_) (fun h17 => ?_)
        · omega
        · exact bad (fun h => h2 h.2)
  · rw [if_neg h1]
    refine gr_if_eq 20 dX4_tells_7 (by decide) (by unfold gw_in; omega) (fun h7 => ?_) (fun h7 => ?_)
    · exact bad (fun h => h1 h.1)
    · omega
end GC
