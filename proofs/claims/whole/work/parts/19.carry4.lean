/-! Search: carry, its contract -/
/-- caps on the numbers of choices -/
def gs_cap (n m : Nat → Nat) : Prop := ∃ k0 k1 k2 k3 : Nat, k0 * k1 * k2 * k3 ≤ 784 ∧ n 0 ≤ k0 ∧ m 0 ≤ k0 ∧ n 1 ≤ k1 ∧ m 1 ≤ k1 ∧ n 2 ≤ k2 ∧ m 2 ≤ k2 ∧ n 3 ≤ k3 ∧ m 3 ≤ k3
theorem gs_cap_of {P : Nat} {B : Nat → Nat → Int} {N : Nat → Int} {set c c' : Nat} (hP : P ≤ 4) (hbw : gb_bw (B 1) P ≤ 2) : gs_cap (fun p => (gs_ch P B N set c p).length) (fun p => (gs_ch P B N set c' p).length) := by
  have l1 : ∀ c p, P ≤ p → (gs_ch P B N set c p).length = 1 := by
    intro c p hp
    have : gs_ch P B N set c p = (List.range 7).filter (fun h => decide (h = 0)) := by
      unfold gs_ch
      apply List.filter_congr
      intro h _
      simp [gs_ok, show ¬ p < P by omega]
    rw [this]
    decide
  have hl : ∀ c p, (gs_ch P B N set c p).length ≤ (if p < P ∧ B 1 p = 1 then 7 else 4) := by
    intro c p
    by_cases hp : p < P
    · by_cases hk : B 1 p = 1
      · rw [if_pos ⟨hp, hk⟩]; exact gs_ch_len7
      · rw [if_neg (fun h => hk h.2)]; exact gs_ch_len4 hk
    · rw [if_neg (fun h => hp h.1), l1 c p (by omega)]; omega
  refine ⟨_, _, _, _, ?_, hl c 0, hl c' 0, hl c 1, hl c' 1, hl c 2, hl c' 2, hl c 3, hl c' 3⟩
  have hsum : (if 0 < P ∧ B 1 0 = 1 then (1 : Int) else 0) + (if 1 < P ∧ B 1 1 = 1 then 1 else 0) + (if 2 < P ∧ B 1 2 = 1 then 1 else 0) + (if 3 < P ∧ B 1 3 = 1 then 1 else 0) ≤ 2 := by
    refine Int.le_trans (Int.le_of_eq ?_) hbw
    rcases (show P = 0 ∨ P = 1 ∨ P = 2 ∨ P = 3 ∨ P = 4 by omega) with rfl | rfl | rfl | rfl | rfl <;> simp [gb_bw]
  revert hsum
  by_cases a0 : 0 < P ∧ B 1 0 = 1 <;> by_cases a1 : 1 < P ∧ B 1 1 = 1 <;> by_cases a2 : 2 < P ∧ B 1 2 = 1 <;> by_cases a3 : 3 < P ∧ B 1 3 = 1 <;> simp only [a0, a1, a2, a3, if_true, if_false, and_self] <;> intro h <;> revert h <;> decide
theorem gs_pr3 (n m : Nat → Nat) : gs_pr n m 3 4 = (n 0 * n 1) * n 2 := by simp [gs_pr]
theorem gs_pr2 (n m : Nat → Nat) : gs_pr n m 2 4 = (n 0 * n 1) * m 3 := by simp [gs_pr]
theorem gs_pr1 (n m : Nat → Nat) : gs_pr n m 1 4 = (n 0 * m 2) * m 3 := by simp [gs_pr]
theorem gs_pr0 (n m : Nat → Nat) : gs_pr n m 0 4 = (m 1 * m 2) * m 3 := by simp [gs_pr]
theorem gs_le4 {a b c d k0 k1 k2 k3 : Nat} (hk : k0 * k1 * k2 * k3 ≤ 784) (h0 : a ≤ k0) (h1 : b ≤ k1) (h2 : c ≤ k2) (h3 : d ≤ k3) : a * b * c * d ≤ 784 := Nat.le_trans (Nat.mul_le_mul (Nat.mul_le_mul (Nat.mul_le_mul h0 h1) h2) h3) hk
section GQ
variable {I : Nat → Nat → Int} {F : Nat → Nat → Option Nat} {r s : Nat}
theorem gq_turn_in {I' : Nat → Nat → Int} {f g : Nat → List Nat} {c c' p o : Nat} {wm : Int} (hM : gq_M I) (hc : c < 8) (hc' : c' < 8) (hrow : ∀ t, t < o * (f p).length → 0 ≤ I r t ∧ I r t ≤ gs_NEVER) (ht : gq_turn I I' f g c c' p o wm r s) : ∀ t, t < o * (g p).length → 0 ≤ I' s t ∧ I' s t ≤ gs_NEVER := by
  obtain ⟨hB, hN, -, -, hrest, -, -⟩ := id hM
  intro t h
  have ho : 0 < o := by
    rcases Nat.eq_zero_or_pos o with h0 | h0
    · rw [h0, Nat.zero_mul] at h; omega
    · exact h0
  have h1 : t % o < o := Nat.mod_lt _ ho
  have h2 : t / o < (g p).length := (Nat.div_lt_iff_lt_mul ho).mpr (by rw [Nat.mul_comm]; exact h)
  have h3 := ht.2 (t / o) h2 (t % o) h1
  rw [show t / o * o + t % o = t by rw [Nat.mul_comm]; exact Nat.div_add_mod t o] at h3
  rw [h3]
  refine gs_low_in _ (fun x hx hw => ?_)
  have a1 := (hrow (x + t % o * (f p).length) (by have := gs_mix h1 hx; omega)).1
  have a2 : 0 ≤ gq_w I f g c c' p x (t / o) := (gs_way_in (B := gq_B I) (N := I 20) (rest := I 19 2) (p := p) (c := c) (h := (f p).getD x 0) (c' := c') (h' := (g p).getD (t / o) 0) hN hc hc' hrest).1
  split <;> omega
theorem gq_off_congr {I' : Nat → Nat → Int} {f : Nat → List Nat} {c : Nat} (hc : c < 8) (e : ∀ a i, 21 ≤ a → a < 55 → I' a i = I a i) (h : gq_off I f c) : gq_off I' f c := by
  intro p hp
  obtain ⟨h1, h2⟩ := h p hp
  exact ⟨by rw [e _ _ (by omega) (by omega)]; exact h1, fun i hi => by rw [e _ _ (by omega) (by omega)]; exact h2 i hi⟩
theorem gq_Kr_swap (h : gq_Kr F r s) : gq_Kr (gw_U (gw_U F 12 9 (some r)) 12 8 (some s)) s r := by
  obtain ⟨f0, f1, f3, f4, f8, f9, f21, fb, fp, hrs⟩ := h
  have e : ∀ a b, ¬ (a = 12 ∧ (b = 8 ∨ b = 9)) → gw_U (gw_U F 12 9 (some r)) 12 8 (some s) a b = F a b := fun a b hab => by
    rw [gw_U_n (by omega), gw_U_n (by omega)]
  refine ⟨by rw [e _ _ (by omega)]; exact f0, by rw [e _ _ (by omega)]; exact f1, by rw [e _ _ (by omega)]; exact f3, by rw [e _ _ (by omega)]; exact f4, gw_U_s, ?_, fun i hi => by rw [e _ _ (by omega)]; exact f21 i hi, ?_, ?_, by omega⟩
  · rw [gw_U_n (by omega), gw_U_s]
  · unfold gb_K at fb ⊢
    simp only [e 13 2 (by omega), e 13 3 (by omega), e 13 4 (by omega), e 13 5 (by omega), e 13 6 (by omega)]
    exact fb
  · unfold gp_K at fp ⊢
    simp only [e 19 4 (by omega)]
    exact fp
theorem gq_swap2 (h8 : F 12 8 = some r) (h9 : F 12 9 = some s) : gw_U (gw_U (gw_U (gw_U F 12 9 (some r)) 12 8 (some s)) 12 9 (some s)) 12 8 (some r) = F := by
  funext a b
  by_cases h : a = 12 ∧ b = 8
  · obtain ⟨rfl, rfl⟩ := h
    rw [gw_U_s, h8]
  · rw [gw_U_n h]
    by_cases h2 : a = 12 ∧ b = 9
    · obtain ⟨rfl, rfl⟩ := h2
      rw [gw_U_s, h9]
    · rw [gw_U_n h2, gw_U_n h, gw_U_n h2]
theorem gq_K_Kr (h : gq_K F) : gq_Kr F 66 67 := by
  obtain ⟨f0, f1, f3, f4, f5, f6, f7, f8, f9, f10, f11, f21, f55, fb, fp⟩ := h
  exact ⟨f0, f1, f3, f4, f8, f9, f21, fb, fp, Or.inl ⟨rfl, rfl⟩⟩
theorem c_carry {c c' : Nat} {wm : Int} {f g : Nat → List Nat} (d : Nat) (hF : gq_K F) (hM : gq_M I) (hc : c < 8) (hc' : c' < 8) (hwm : wm = 0 ∨ wm = 1) (hf : gq_off I f c) (hg : gq_off I g c') (hf8 : ∀ p, p < 4 → ∀ i, i < (f p).length → (f p).getD i 0 < 8) (hg8 : ∀ p, p < 4 → ∀ i, i < (g p).length → (g p).getD i 0 < 8) (hf7 : ∀ p, p < 4 → (f p).length ≤ 7) (hg7 : ∀ p, p < 4 → (g p).length ≤ 7) (hcap : gs_cap (fun p => (f p).length) (fun p => (g p).length)) (hrow : ∀ t, t < (((f 0).length * (f 1).length) * (f 2).length) * (f 3).length → 0 ≤ I 66 t ∧ I 66 t ≤ gs_NEVER) : gw_Met jX3_carry (d + 4) [.inr (some 12), .inl (c : Int), .inl (c' : Int), .inl wm] (114, I, F) (gw_vo F (fun I' => gq_carried I I' f g c c' wm)) := by
  obtain ⟨k0, k1, k2, k3, hk, n0, m0, n1, m1, n2, m2, n3, m3⟩ := hcap
  dsimp only at n0 m0 n1 m1 n2 m2 n3 m3
  have hK0 := gq_K_Kr hF
  have hK1 := gq_Kr_swap hK0
  have hK2 := gq_Kr_swap hK1
  have hK3 := gq_Kr_swap hK2
  have z3 := gs_pr3 (fun q => (f q).length) (fun q => (g q).length)
  have z2 := gs_pr2 (fun q => (f q).length) (fun q => (g q).length)
  have z1 := gs_pr1 (fun q => (f q).length) (fun q => (g q).length)
  have z0 := gs_pr0 (fun q => (f q).length) (fun q => (g q).length)
  generalize hFF : F = F0 at *
  refine gw_enter okX3_carry rfl (Nat.le_of_ble_eq_true rfl) ?_
  refine gr_iconst dX3_carry_0 ?_
  refine gr_istore dX3_carry_1 (by decide) ?_
  refine carry_step (p := 3) (f := f) (g := g) d hK0 hM (by omega) hc hc' hwm hf hg hf8 hg8 hf7 hg7 (by rw [z3]; exact gs_le4 hk n0 n1 n2 n3) (by rw [z3]; exact gs_le4 hk n0 n1 n2 m3) (by rw [z3]; exact hrow) (fun I3 x5 x6 t3 => ?_)
  rw [z3] at t3
  have q3 : ∀ a i, a ≠ 66 → a ≠ 67 → I3 a i = I a i := fun a i ha hb => t3.1 a i hb
  have hM3 : gq_M I3 := gq_M_congr (fun a ha => funext fun i => q3 a i (by omega) (by omega)) hM
  have r3 := gq_turn_in hM hc hc' hrow t3
  refine carry_step (p := 2) (f := f) (g := g) d hK1 hM3 (by omega) hc hc' hwm (gq_off_congr hc (fun a i _ _ => q3 a i (by omega) (by omega)) hf) (gq_off_congr hc' (fun a i _ _ => q3 a i (by omega) (by omega)) hg) hf8 hg8 hf7 hg7 (by rw [z2]; have := gs_le4 hk n0 n1 n2 m3; rw [Nat.mul_right_comm]; exact this) (by rw [z2]; have := gs_le4 hk n0 n1 m2 m3; rw [Nat.mul_right_comm]; exact this) (by rw [z2]; intro t ht; exact r3 t (by rw [Nat.mul_right_comm] at ht; exact ht)) (fun I2 x5 x6 t2 => ?_)
  rw [z2] at t2
  have q2 : ∀ a i, a ≠ 66 → a ≠ 67 → I2 a i = I a i := fun a i ha hb => by rw [t2.1 a i ha]; exact q3 a i ha hb
  have hM2 : gq_M I2 := gq_M_congr (fun a ha => funext fun i => q2 a i (by omega) (by omega)) hM
  have r2 := gq_turn_in hM3 hc hc' (fun t ht => r3 t (by rw [Nat.mul_right_comm] at ht; exact ht)) t2
  refine carry_step (p := 1) (f := f) (g := g) d hK2 hM2 (by omega) hc hc' hwm (gq_off_congr hc (fun a i _ _ => q2 a i (by omega) (by omega)) hf) (gq_off_congr hc' (fun a i _ _ => q2 a i (by omega) (by omega)) hg) hf8 hg8 hf7 hg7 (by rw [z1]; have := gs_le4 hk n0 n1 m2 m3; rw [show (f 0).length * (g 2).length * (g 3).length * (f 1).length = (f 0).length * (f 1).length * (g 2).length * (g 3).length by grind]; exact this) (by rw [z1]; have := gs_le4 hk n0 m1 m2 m3; rw [show (f 0).length * (g 2).length * (g 3).length * (g 1).length = (f 0).length * (g 1).length * (g 2).length * (g 3).length by grind]; exact this) (by rw [z1]; intro t ht; exact r2 t (by rw [show (f 0).length * (f 1).length * (g 3).length * (g 2).length = (f 0).length * (g 2).length * (g 3).length * (f 1).length by grind]; exact ht)) (fun I1 x5 x6 t1 => ?_)
  rw [z1] at t1
  have q1 : ∀ a i, a ≠ 66 → a ≠ 67 → I1 a i = I a i := fun a i ha hb => by rw [t1.1 a i hb]; exact q2 a i ha hb
  have hM1 : gq_M I1 := gq_M_congr (fun a ha => funext fun i => q1 a i (by omega) (by omega)) hM
  have r1 := gq_turn_in hM2 hc hc' (fun t ht => r2 t (by rw [show (f 0).length * (f 1).length * (g 3).length * (g 2).length = (f 0).length * (g 2).length * (g 3).length * (f 1).length by grind]; exact ht)) t1
  refine carry_step (p := 0) (f := f) (g := g) d hK3 hM1 (by omega) hc hc' hwm (gq_off_congr hc (fun a i _ _ => q1 a i (by omega) (by omega)) hf) (gq_off_congr hc' (fun a i _ _ => q1 a i (by omega) (by omega)) hg) hf8 hg8 hf7 hg7 (by rw [z0]; have := gs_le4 hk n0 m1 m2 m3; rw [show (g 1).length * (g 2).length * (g 3).length * (f 0).length = (f 0).length * (g 1).length * (g 2).length * (g 3).length by grind]; exact this) (by rw [z0]; have := gs_le4 hk m0 m1 m2 m3; rw [show (g 1).length * (g 2).length * (g 3).length * (g 0).length = (g 0).length * (g 1).length * (g 2).length * (g 3).length by grind]; exact this) (by rw [z0]; intro t ht; exact r1 t (by rw [show (f 0).length * (g 2).length * (g 3).length * (g 1).length = (g 1).length * (g 2).length * (g 3).length * (f 0).length by grind]; exact ht)) (fun I0 x5 x6 t0 => ?_)
  rw [z0] at t0
  rw [gq_swap2 hK2.2.2.2.2.1 hK2.2.2.2.2.2.1, gq_swap2 hK0.2.2.2.2.1 hK0.2.2.2.2.2.1]
  refine gr_iload dX3_carry_3 rfl ?_
  refine gr_if_lt 97 dX3_carry_5 (by decide) (by unfold gw_in; omega) (fun h5 => ?_) (fun h5 => ?_)
  · refine gr_vret dX3_carry_97 rfl (by decide) (by decide) (⟨rfl, _, rfl, gq_four hM hc hc' hrow t3 t2 t1 t0⟩)
  · omega
end GQ
