/-! CONSTRUCTORS: ChordSpreads -/
abbrev gi_pp : Nat → Nat := fun i => 75 + 2 * i
/-- what a new object's cells are -/
def gi_c0 (I : Nat → Nat → Int) : Prop := I 13 0 = 0 ∧ I 19 0 = 0 ∧ I 19 1 = 0 ∧ I 19 2 = 5 ∧ I 19 3 = 9 ∧ I 0 5 = 0 ∧ I 72 0 = 0 ∧ I 72 1 = 0 ∧ I 0 10 = 0 ∧ I 1 2 = 0
/-- i pieces are made -/
def gi_L (Ib : Nat → Nat → Int) (Fb : Nat → Nat → Option Nat) (I' : Nat → Nat → Int) (F' : Nat → Nat → Option Nat) (i : Nat) : Prop := (∀ a, a < 75 → I' a = Ib a) ∧ (∀ a, a < 75 → a ≠ 70 → a ≠ 71 → F' a = Fb a) ∧ (∀ j, j < i → j < 10 → F' 70 j = some (75 + 2 * j)) ∧ (∀ j, j + 10 < i → F' 71 j = some (95 + 2 * j)) ∧ ∀ j, j < i → F' (75 + 2 * j) 4 = some (75 + 2 * j + 1) ∧ I' (75 + 2 * j + 1) = fun _ => 0
theorem gi_sh1 : ∀ i, i < 12 → gw_sh (75 + 2 * i) = (1, 5) ∧ gw_sh (75 + 2 * i + 1) = (10, 24) := by decide
theorem gi_L_step {Ib I' I1 : Nat → Nat → Int} {Fb F' F1 : Nat → Nat → Option Nat} {i q e : Nat} (h : gi_L Ib Fb I' F' i) (o1 : ∀ a, a < 75 + 2 * i → I1 a = gw_Z I' (75 + 2 * i) 0 a) (o2 : ∀ a, a < 75 + 2 * i → F1 a = gw_Z F' (75 + 2 * i) none a) (k : F1 (75 + 2 * i) 4 = some (75 + 2 * i + 1)) (z : I1 (75 + 2 * i + 1) = fun _ => 0) (hq : i < 10 ∧ q = 70 ∧ e = i ∨ 10 ≤ i ∧ q = 71 ∧ i = e + 10) : gi_L Ib Fb I1 (gw_U F1 q e (some (75 + 2 * i))) (i + 1) := by
  have o1' : ∀ a, a < 75 + 2 * i → I1 a = I' a := fun a ha => (o1 a ha).trans (gw_Z_r (by omega))
  have o2' : ∀ a, a < 75 + 2 * i → F1 a = F' a := fun a ha => (o2 a ha).trans (gw_Z_r (by omega))
  obtain ⟨h1, h2, h3, h4, h5⟩ := h
  refine ⟨fun a ha => by rw [o1' a (by omega)]; exact h1 a ha, fun a ha n1 n2 => by rw [gw_U_r (by omega), o2' a (by omega)]; exact h2 a ha n1 n2, fun j hj h10 => ?_, fun j hj => ?_, fun j hj => ?_⟩
  · by_cases hji : j = i
    · obtain ⟨rfl, rfl⟩ : q = 70 ∧ e = i := by omega
      subst hji
      exact gw_U_s
    · rw [gw_U_n (by omega), o2' 70 (by omega)]
      exact h3 j (by omega) h10
  · by_cases hji : j + 10 = i
    · obtain ⟨rfl, rfl⟩ : q = 71 ∧ e = j := by omega
      rw [gw_U_s]
      congr 1
      omega
    · rw [gw_U_n (by omega), o2' 71 (by omega)]
      exact h4 j (by omega)
  · rw [gw_U_r (by omega)]
    by_cases hji : j = i
    · subst hji
      exact ⟨k, z⟩
    · rw [o2' _ (by omega), o1' _ (by omega)]
      exact h5 j (by omega)
theorem gx_K_c {F F' : Nat → Nat → Option Nat} (h : ∀ a, a < 70 → F' a = F a) (hK : gx_K F) : gx_K F' := by
  obtain ⟨h1, h2, h3, h4, h5, h6⟩ := hK
  exact ⟨by rw [h 1 (by omega)]; exact h1, by rw [h 1 (by omega)]; exact h2, by rw [h 1 (by omega)]; exact h3, by rw [h 1 (by omega)]; exact h4, gb_K_c (h 2 (by omega)) h5, gp_K_c (h 8 (by omega)) h6⟩
theorem gq_K_c {F F' : Nat → Nat → Option Nat} (h : ∀ a, a < 70 → F' a = F a) (hK : gq_K F) : gq_K F' := by
  obtain ⟨h1, h2, h3, h4, h5, h6, h7, h8, h9, h10, h11, h12, h13, h14, h15⟩ := hK
  have e := h 12 (by omega)
  exact ⟨by rw [e]; exact h1, by rw [e]; exact h2, by rw [e]; exact h3, by rw [e]; exact h4, by rw [e]; exact h5, by rw [e]; exact h6, by rw [e]; exact h7, by rw [e]; exact h8, by rw [e]; exact h9, by rw [e]; exact h10, by rw [e]; exact h11, by rw [h 21 (by omega)]; exact h12, by rw [h 55 (by omega)]; exact h13, gb_K_c (h 13 (by omega)) h14, gp_K_c (h 19 (by omega)) h15⟩
theorem gi_bB {I : Nat → Nat → Int} {b : Nat} (h : ∀ r, 1 ≤ r → r ≤ 5 → I (b + r) = fun _ => 0) : gb_B I b := by
  intro p hp
  rw [h 1 (by omega) (by omega), h 2 (by omega) (by omega), h 3 (by omega) (by omega), h 4 (by omega) (by omega), h 5 (by omega) (by omega)]
  dsimp only
  omega
theorem gi_pN {N : Nat → Int} (h : N = fun _ => 0) : gp_N N := by
  intro i hi
  rw [h]
  dsimp only
  omega
/-- the cells ahead of the pieces -/
def gi_B (I : Nat → Nat → Int) (F : Nat → Nat → Option Nat) : Prop := (F 0 0 = some 1 ∧ F 0 1 = some 12 ∧ F 0 2 = some 13 ∧ F 0 3 = some 19 ∧ F 0 4 = some 70 ∧ F 0 6 = some 71 ∧ F 0 7 = some 72 ∧ F 0 8 = some 73 ∧ F 0 9 = some 74 ∧ gx_K F ∧ gq_K F) ∧ gi_c0 I ∧ I 0 11 = 0 ∧ (∀ r, 1 ≤ r → r ≤ 5 → I (2 + r) = fun _ => 0) ∧ I 9 = (fun _ => 0) ∧ (∀ r, 1 ≤ r → r ≤ 5 → I (13 + r) = fun _ => 0) ∧ I 20 = fun _ => 0
theorem gi_fin {Ib I : Nat → Nat → Int} {Fb F : Nat → Nat → Option Nat} (hB : gi_B Ib Fb) (hL : gi_L Ib Fb I F 12) : gc_K F gi_pp ∧ gc_D I 0 0 gi_pp ∧ gi_c0 I := by
  obtain ⟨⟨f0, f1, f2, f3, f4, f6, f7, f8, f9, fx, fq⟩, ⟨c1, c2, c3, c4, c5, c6, c7, c8, c9, c10⟩, c11, zr, z9, zs, z20⟩ := hB
  obtain ⟨l1, l2, l3, l4, l5⟩ := hL
  have e0 := l2 0 (by omega) (by omega) (by omega)
  have hc : gi_c0 I := ⟨by rw [l1 _ (by omega)]; exact c1, by rw [l1 _ (by omega)]; exact c2, by rw [l1 _ (by omega)]; exact c3, by rw [l1 _ (by omega)]; exact c4, by rw [l1 _ (by omega)]; exact c5, by rw [l1 _ (by omega)]; exact c6, by rw [l1 _ (by omega)]; exact c7, by rw [l1 _ (by omega)]; exact c8, by rw [l1 _ (by omega)]; exact c9, by rw [l1 _ (by omega)]; exact c10⟩
  refine ⟨⟨by rw [e0]; exact f0, by rw [e0]; exact f1, by rw [e0]; exact f2, by rw [e0]; exact f3, by rw [e0]; exact f4, by rw [e0]; exact f6, by rw [e0]; exact f7, by rw [e0]; exact f8, by rw [e0]; exact f9, fun i hi => l3 i (by omega) hi, fun i hi => l4 i (by omega), gx_K_c (fun a ha => l2 a (by omega) (by omega) (by omega)) fx, gq_K_c (fun a ha => l2 a (by omega) (by omega) (by omega)) fq, fun i hi => (l5 i hi).1, fun i hi => ⟨i, hi, rfl⟩, fun i j hi hj h => by simp only [gi_pp] at h; omega⟩, ?_, hc⟩
  obtain ⟨d1, d2, d3, d4, d5, d6, d7, d8, d9, d10⟩ := hc
  refine ⟨⟨d1, gi_bB (fun r h1 h5 => by rw [l1 _ (by omega)]; exact zs r h1 h5), by show (0 : Int) ≤ 2; omega, by omega, fun p hp => absurd hp (by omega)⟩, ⟨⟨by rw [d2]; omega, by rw [d3]; omega, by rw [d4]; omega, by rw [d5]; omega, fun c hc => by rw [d2] at hc; omega⟩, gi_pN (by rw [l1 _ (by omega)]; exact z20)⟩, ⟨⟨d10, by omega, fun i hi => absurd hi (by omega)⟩, gi_bB (fun r h1 h5 => by rw [l1 _ (by omega)]; exact zr r h1 h5), gi_pN (by rw [l1 _ (by omega)]; exact z9)⟩, ⟨by rw [d6]; omega, fun j hj => gi_pN (l5 j (by omega)).2, fun j hj => by rw [d6] at hj; omega⟩, fun i hi => ?_, ⟨by rw [d9]; omega, fun h hh => by rw [d9] at hh; omega⟩, Or.inl (by rw [l1 _ (by omega)]; exact c11), fun h => absurd h (by rw [l1 _ (by omega), c11]; decide)⟩
  have e72 : I 72 i = 0 := by
    rcases (show i = 0 ∨ i = 1 by omega) with rfl | rfl
    · exact d7
    · exact d8
  refine ⟨Or.inl e72, gi_pN ?_, fun h => by rw [e72] at h; omega⟩
  have := (l5 (10 + i) (by omega)).2
  rw [show 75 + 2 * (10 + i) + 1 = 96 + 2 * i by omega] at this
  exact this
section GI
variable {I : Nat → Nat → Int} {F : Nat → Nat → Option Nat}
theorem i_X4 (d : Nat) : gw_Met jX4_init (d + 3) [.inr (some 0)] (1, I, F) (gi_vo 99 (fun I' F' => gc_K F' gi_pp ∧ gc_D I' 0 0 gi_pp ∧ gi_c0 I')) := by
  generalize hQ : gi_vo 99 (fun I' F' => gc_K F' gi_pp ∧ gc_D I' 0 0 gi_pp ∧ gi_c0 I') = Q
  have l2 : ∀ (Ib : Nat → Nat → Int) (Fb : Nat → Nat → Option Nat), gi_B Ib Fb → ∀ (m i n u w : Nat) (I' : Nat → Nat → Int) (F' : Nat → Nat → Option Nat), i + m = 2 → n = 95 + 2 * i → u = 94 + 2 * i → w = 9571 + 29 * i → gi_L Ib Fb I' F' (10 + i) → gw_G (gw_Cm jX4_init (d + 3) Q) jX4_init 132 [some (.inr (some 0)), some (.inl (i : Int))] [] (n, I', F') u w := by
    intro Ib Fb hB m
    induction m with
    | zero =>
      intro i n u w I' F' hi hn hu hw hL
      obtain rfl : i = 2 := by omega
      subst hn hu hw
      refine gr_iload_n dX4_init_132 rfl ?_
      refine gr_iconst dX4_init_133 ?_
      refine gr_icmp_ge 156 dX4_init_134 (by decide) (by unfold gw_in; omega) (by unfold gw_in; omega) (fun h134 => ?_) (fun h134 => ?_)
      · refine gr_vret dX4_init_156 rfl (by decide) (by decide) ((hQ ▸ ⟨rfl, I', F', rfl, gi_fin hB hL⟩))
      · omega
    | succ m ih =>
      intro i n u w I' F' hi hn hu hw hL
      have hi2 : i < 2 := by omega
      obtain ⟨s0, s1⟩ := gi_sh1 (10 + i) (by omega)
      rw [show 75 + 2 * (10 + i) = 95 + 2 * i by omega] at s0 s1
      rw [← hn] at s0 s1
      have h06 : F' 0 6 = some 71 := by rw [hL.2.1 0 (by omega) (by omega) (by omega)]; exact hB.1.2.2.2.2.2.1
      refine gr_iload_n dX4_init_132 rfl ?_
      refine gr_iconst dX4_init_133 ?_
      refine gr_icmp_ge 156 dX4_init_134 (by decide) (by unfold gw_in; omega) (by unfold gw_in; omega) (fun h134 => ?_) (fun h134 => ?_)
      · omega
      · refine gr_aload_n dX4_init_137 rfl ?_
        refine gr_getR dX4_init_138 fX4_45 (by first | assumption | rfl) (by omega) (by decide) rfl (by assumption) ?_
        refine gr_iload_n dX4_init_141 rfl ?_
        refine gr_newO dX4_init_142 lX4_35 gcX1 gdX1 (by first | assumption | rfl) (gw_Bd_m (by show u + 1 ≤ 98; omega) (by show w + 5 ≤ 9629; omega)) ?_
        refine gr_dup dX4_init_145 ?_
        refine gr_initN dX4_init_146 kX4_66 (as := []) rfl rfl (Nat.le_of_ble_eq_true rfl) (gw_Rm_m (by omega) (by show u + 1 + 1 ≤ 98; omega) (by show w + 5 + 24 ≤ 9629; omega)) (i_X1 (k := n) d (by omega) s0 s1) ?_
        rintro _ _ ⟨rfl, I1, F1, rfl, ⟨o1, o2⟩, kp, -, -, -, -, z⟩
        refine gr_past (i := i) dX4_init_149 (by first | assumption | rfl) (by omega) (by omega) (by omega) (by decide) (by first | assumption | rfl) (by omega) ?_
        refine gr_iinc (v := ((i + 1 : Nat) : Int)) dX4_init_150 (by decide) rfl (by omega) ?_
        refine gr_goto 132 dX4_init_153 (by decide) ?_
        refine ih (i + 1) (n + 2) (u + 1 + 1) (w + 5 + 24) I1 _ (by omega) (by omega) (by omega) (by omega) ?_
        have hL' := gi_L_step (q := 71) (e := i) hL (by rw [show 75 + 2 * (10 + i) = n by omega]; exact o1) (by rw [show 75 + 2 * (10 + i) = n by omega]; exact o2) (by rw [show 75 + 2 * (10 + i) = n by omega]; exact kp.2.2.2) (by rw [show 75 + 2 * (10 + i) = n by omega]; exact z) (Or.inr (by omega))
        rw [show 75 + 2 * (10 + i) = n by omega] at hL'
        exact hL'
  have l1 : ∀ (Ib : Nat → Nat → Int) (Fb : Nat → Nat → Option Nat), gi_B Ib Fb → ∀ (m i n u w : Nat) (I' : Nat → Nat → Int) (F' : Nat → Nat → Option Nat), i + m = 10 → n = 75 + 2 * i → u = 74 + 2 * i → w = 9281 + 29 * i → gi_L Ib Fb I' F' i → gw_G (gw_Cm jX4_init (d + 3) Q) jX4_init 105 [some (.inr (some 0)), some (.inl (i : Int))] [] (n, I', F') u w := by
    intro Ib Fb hB m
    induction m with
    | zero =>
      intro i n u w I' F' hi hn hu hw hL
      obtain rfl : i = 10 := by omega
      refine gr_iload_n dX4_init_105 rfl ?_
      refine gr_bipush dX4_init_106 (by decide) ?_
      refine gr_icmp_ge 130 dX4_init_108 (by decide) (by unfold gw_in; omega) (by unfold gw_in; omega) (fun h108 => ?_) (fun h108 => ?_)
      · refine gr_iconst dX4_init_130 ?_
        refine gr_istore_n dX4_init_131 (by decide) ?_
        exact l2 Ib Fb hB 2 0 n u w I' F' (by omega) (by omega) (by omega) (by omega) hL
      · omega
    | succ m ih =>
      intro i n u w I' F' hi hn hu hw hL
      have hi10 : i < 10 := by omega
      obtain ⟨s0, s1⟩ := gi_sh1 i (by omega)
      rw [← hn] at s0 s1
      have h04 : F' 0 4 = some 70 := by rw [hL.2.1 0 (by omega) (by omega) (by omega)]; exact hB.1.2.2.2.2.1
      refine gr_iload_n dX4_init_105 rfl ?_
      refine gr_bipush dX4_init_106 (by decide) ?_
      refine gr_icmp_ge 130 dX4_init_108 (by decide) (by unfold gw_in; omega) (by unfold gw_in; omega) (fun h108 => ?_) (fun h108 => ?_)
      · omega
      · refine gr_aload_n dX4_init_111 rfl ?_
        refine gr_getR dX4_init_112 fX4_37 (by first | assumption | rfl) (by omega) (by decide) rfl (by assumption) ?_
        refine gr_iload_n dX4_init_115 rfl ?_
        refine gr_newO dX4_init_116 lX4_35 gcX1 gdX1 (by first | assumption | rfl) (gw_Bd_m (by show u + 1 ≤ 98; omega) (by show w + 5 ≤ 9629; omega)) ?_
        refine gr_dup dX4_init_119 ?_
        refine gr_initN dX4_init_120 kX4_66 (as := []) rfl rfl (Nat.le_of_ble_eq_true rfl) (gw_Rm_m (by omega) (by show u + 1 + 1 ≤ 98; omega) (by show w + 5 + 24 ≤ 9629; omega)) (i_X1 (k := n) d (by omega) s0 s1) ?_
        rintro _ _ ⟨rfl, I1, F1, rfl, ⟨o1, o2⟩, kp, -, -, -, -, z⟩
        refine gr_past (i := i) dX4_init_123 (by first | assumption | rfl) (by omega) (by omega) (by omega) (by decide) (by first | assumption | rfl) (by omega) ?_
        refine gr_iinc (v := ((i + 1 : Nat) : Int)) dX4_init_124 (by decide) rfl (by omega) ?_
        refine gr_goto 105 dX4_init_127 (by decide) ?_
        refine ih (i + 1) (n + 2) (u + 1 + 1) (w + 5 + 24) I1 _ (by omega) (by omega) (by omega) (by omega) ?_
        have hL' := gi_L_step (q := 70) (e := i) hL (by rw [← hn]; exact o1) (by rw [← hn]; exact o2) (by rw [← hn]; exact kp.2.2.2) (by rw [← hn]; exact z) (Or.inl (by omega))
        rw [← hn] at hL'
        exact hL'
  refine gw_enter okX4_init rfl (Nat.le_of_ble_eq_true rfl) ?_
  refine gr_aload_n dX4_init_0 rfl ?_
  refine gr_obj dX4_init_1 oX4_1 oo_1 oo_2 (Nat.le_of_ble_eq_true rfl) (gi_Rm (by omega)) ?_
  refine gr_aload_n dX4_init_4 rfl ?_
  refine gr_newO dX4_init_5 lX4_7 gcX2 gdX2 (by first | assumption | rfl) (gw_Bd_m (Nat.le_of_ble_eq_true rfl) (Nat.le_of_ble_eq_true rfl)) ?_
  refine gr_dup dX4_init_8 ?_
  refine gr_initN dX4_init_9 kX4_9 (as := []) rfl rfl (Nat.le_of_ble_eq_true rfl) (gw_Rm_m (by omega) (by decide) (by decide)) (i_X2 d) ?_
  rintro _ _ ⟨rfl, I1, F1, rfl, ⟨o1, o2⟩, kx, y2, zr, z9⟩
  refine gr_putR dX4_init_12 fX4_10 (fun _ => ⟨rfl, rfl⟩) (by first | assumption | rfl) (by omega) rfl rfl ?_
  refine gr_aload_n dX4_init_15 rfl ?_
  refine gr_newO dX4_init_16 lX4_16 gcX3 gdX3 (by first | assumption | rfl) (gw_Bd_m (Nat.le_of_ble_eq_true rfl) (Nat.le_of_ble_eq_true rfl)) ?_
  refine gr_dup dX4_init_19 ?_
  refine gr_initN dX4_init_20 kX4_18 (as := []) rfl rfl (Nat.le_of_ble_eq_true rfl) (gw_Rm_m (by omega) (by decide) (by decide)) (i_X3 d) ?_
  rintro _ _ ⟨rfl, I2, F2, rfl, ⟨p1, p2⟩, kq, x0, zs, w0, w1, w2, w3, z20⟩
  have e1 : gw_U F2 0 1 (some 12) 0 1 = some 12 := gw_U_s
  have e2 : gw_U F2 0 1 (some 12) 12 0 = some 13 := (gw_U_n (by omega)).trans kq.1
  refine gr_putR dX4_init_23 fX4_19 (fun _ => ⟨rfl, rfl⟩) (by first | assumption | rfl) (by omega) rfl rfl ?_
  refine gr_aload_n dX4_init_26 rfl ?_
  refine gr_aload_n dX4_init_27 rfl ?_
  refine gr_getR dX4_init_28 fX4_19 (by first | assumption | rfl) (by omega) (by decide) rfl (by assumption) ?_
  refine gr_getR dX4_init_31 fX4_23 (by first | assumption | rfl) (by omega) (by decide) rfl (by assumption) ?_
  have e3 : gw_U (gw_U F2 0 1 (some 12)) 0 2 (some 13) 0 1 = some 12 := (gw_U_n (by omega)).trans gw_U_s
  have e4 : gw_U (gw_U F2 0 1 (some 12)) 0 2 (some 13) 12 1 = some 19 := (gw_U_n (by omega)).trans ((gw_U_n (by omega)).trans kq.2.1)
  refine gr_putR dX4_init_34 fX4_27 (fun _ => ⟨rfl, rfl⟩) (by first | assumption | rfl) (by omega) rfl rfl ?_
  refine gr_aload_n dX4_init_37 rfl ?_
  refine gr_aload_n dX4_init_38 rfl ?_
  refine gr_getR dX4_init_39 fX4_19 (by first | assumption | rfl) (by omega) (by decide) rfl (by assumption) ?_
  refine gr_getR dX4_init_42 fX4_28 (by first | assumption | rfl) (by omega) (by decide) rfl (by assumption) ?_
  refine gr_putR dX4_init_45 fX4_32 (fun _ => ⟨rfl, rfl⟩) (by first | assumption | rfl) (by omega) rfl rfl ?_
  refine gr_aload_n dX4_init_48 rfl ?_
  refine gr_bipush dX4_init_49 (by decide) ?_
  refine gr_newP (N := 10) dX4_init_51 lX4_35 rfl (Nat.le_of_ble_eq_true rfl) (by first | assumption | rfl) (gw_Bd_m (Nat.le_of_ble_eq_true rfl) (Nat.le_of_ble_eq_true rfl)) ?_
  refine gr_putR dX4_init_54 fX4_37 (fun _ => ⟨rfl, rfl⟩) (by first | assumption | rfl) (by omega) rfl rfl ?_
  refine gr_aload_n dX4_init_57 rfl ?_
  refine gr_iconst dX4_init_58 ?_
  refine gr_putI dX4_init_59 fX4_41 (by first | assumption | rfl) (by omega) (Or.inl rfl) rfl ?_
  refine gr_aload_n dX4_init_62 rfl ?_
  refine gr_iconst dX4_init_63 ?_
  refine gr_newP (N := 2) dX4_init_64 lX4_35 rfl (Nat.le_of_ble_eq_true rfl) (by first | assumption | rfl) (gw_Bd_m (Nat.le_of_ble_eq_true rfl) (Nat.le_of_ble_eq_true rfl)) ?_
  refine gr_putR dX4_init_67 fX4_45 (fun _ => ⟨rfl, rfl⟩) (by first | assumption | rfl) (by omega) rfl rfl ?_
  refine gr_aload_n dX4_init_70 rfl ?_
  refine gr_iconst dX4_init_71 ?_
  refine gr_newZ (N := 2) dX4_init_72 aa_z rfl (Nat.le_of_ble_eq_true rfl) (by first | assumption | rfl) (gw_Bd_m (Nat.le_of_ble_eq_true rfl) (Nat.le_of_ble_eq_true rfl)) ?_
  refine gr_putR dX4_init_74 fX4_48 (fun _ => ⟨rfl, rfl⟩) (by first | assumption | rfl) (by omega) rfl rfl ?_
  refine gr_aload_n dX4_init_77 rfl ?_
  refine gr_bipush dX4_init_78 (by decide) ?_
  refine gr_newI (N := 6) dX4_init_80 aa_i rfl (Nat.le_of_ble_eq_true rfl) (by first | assumption | rfl) (gw_Bd_m (Nat.le_of_ble_eq_true rfl) (Nat.le_of_ble_eq_true rfl)) ?_
  refine gr_putR dX4_init_82 fX4_52 (fun _ => ⟨rfl, rfl⟩) (by first | assumption | rfl) (by omega) rfl rfl ?_
  refine gr_aload_n dX4_init_85 rfl ?_
  refine gr_bipush dX4_init_86 (by decide) ?_
  refine gr_newI (N := 6) dX4_init_88 aa_i rfl (Nat.le_of_ble_eq_true rfl) (by first | assumption | rfl) (gw_Bd_m (Nat.le_of_ble_eq_true rfl) (Nat.le_of_ble_eq_true rfl)) ?_
  refine gr_putR dX4_init_90 fX4_56 (fun _ => ⟨rfl, rfl⟩) (by first | assumption | rfl) (by omega) rfl rfl ?_
  refine gr_aload_n dX4_init_93 rfl ?_
  refine gr_iconst dX4_init_94 ?_
  refine gr_putI dX4_init_95 fX4_59 (by first | assumption | rfl) (by omega) (Or.inl rfl) rfl ?_
  refine gr_aload_n dX4_init_98 rfl ?_
  refine gr_iconst dX4_init_99 ?_
  refine gr_putI dX4_init_100 fX4_62 (by first | assumption | rfl) (by omega) (Or.inr ⟨rfl, (by omega)⟩) rfl ?_
  refine gr_iconst dX4_init_103 ?_
  refine gr_istore_n dX4_init_104 (by decide) ?_
  have hx : ∀ a, 1 ≤ a → a < 12 → F2 a = F1 a := fun a h1 h2 => by simp (disch := omega) only [p2, gw_Z_r, gw_U_r]
  refine l1 _ _ ⟨⟨?_, ?_, ?_, ?_, ?_, ?_, ?_, ?_, ?_, ?_, ?_⟩, ⟨?_, ?_, ?_, ?_, ?_, ?_, ?_, ?_, ?_, ?_⟩, ?_, fun r h1 h5 => ?_, ?_, fun r h1 h5 => ?_, ?_⟩ 10 0 _ _ _ _ _ (by omega) rfl rfl rfl ⟨fun _ _ => rfl, fun _ _ _ _ => rfl, fun j hj => absurd hj (by omega), fun j hj => absurd hj (by omega), fun j hj => absurd hj (by omega)⟩
  · simp (disch := omega) only [gw_U_s, gw_U_n, gw_Z_r, p2]
  · simp (disch := omega) only [gw_U_s, gw_U_n, gw_Z_r, p2]
  · simp (disch := omega) only [gw_U_s, gw_U_n, gw_Z_r, p2]
  · simp (disch := omega) only [gw_U_s, gw_U_n, gw_Z_r, p2]
  · simp (disch := omega) only [gw_U_s, gw_U_n, gw_Z_r, p2]
  · simp (disch := omega) only [gw_U_s, gw_U_n, gw_Z_r, p2]
  · simp (disch := omega) only [gw_U_s, gw_U_n, gw_Z_r, p2]
  · simp (disch := omega) only [gw_U_s, gw_U_n, gw_Z_r, p2]
  · simp (disch := omega) only [gw_U_s, gw_U_n, gw_Z_r, p2]
  · obtain ⟨k1, k2, k3, k4, k5, k6⟩ := kx
    refine ⟨?_, ?_, ?_, ?_, gb_K_c (F := F1) ?_ k5, gp_K_c (F := F1) ?_ k6⟩
    · simp (disch := omega) only [gw_U_n, gw_Z_r, hx, k1]
    · simp (disch := omega) only [gw_U_n, gw_Z_r, hx, k2]
    · simp (disch := omega) only [gw_U_n, gw_Z_r, hx, k3]
    · simp (disch := omega) only [gw_U_n, gw_Z_r, hx, k4]
    · simp (disch := omega) only [gw_U_r, gw_Z_r, hx]
    · simp (disch := omega) only [gw_U_r, gw_Z_r, hx]
  · obtain ⟨k1, k2, k3, k4, k5, k6, k7, k8, k9, k10, k11, k12, k13, k14, k15⟩ := kq
    refine ⟨?_, ?_, ?_, ?_, ?_, ?_, ?_, ?_, ?_, ?_, ?_, fun i hi => ?_, fun i hi => ?_, gb_K_c (F := F2) ?_ k14, gp_K_c (F := F2) ?_ k15⟩
    · simp (disch := omega) only [gw_U_n, gw_Z_r, k1]
    · simp (disch := omega) only [gw_U_n, gw_Z_r, k2]
    · simp (disch := omega) only [gw_U_n, gw_Z_r, k3]
    · simp (disch := omega) only [gw_U_n, gw_Z_r, k4]
    · simp (disch := omega) only [gw_U_n, gw_Z_r, k5]
    · simp (disch := omega) only [gw_U_n, gw_Z_r, k6]
    · simp (disch := omega) only [gw_U_n, gw_Z_r, k7]
    · simp (disch := omega) only [gw_U_n, gw_Z_r, k8]
    · simp (disch := omega) only [gw_U_n, gw_Z_r, k9]
    · simp (disch := omega) only [gw_U_n, gw_Z_r, k10]
    · simp (disch := omega) only [gw_U_n, gw_Z_r, k11]
    · simp (disch := omega) only [gw_U_n, gw_Z_r, k12]
    · simp (disch := omega) only [gw_U_n, gw_Z_r, k13]
    · simp (disch := omega) only [gw_U_r, gw_Z_r]
    · simp (disch := omega) only [gw_U_r, gw_Z_r]
  · simp (disch := omega) only [gw_U_n, gw_Z_r, x0]
  · simp (disch := omega) only [gw_U_n, gw_Z_r, w0]
  · simp (disch := omega) only [gw_U_n, gw_Z_r, w1]
  · simp (disch := omega) only [gw_U_n, gw_Z_r, w2]
  · simp (disch := omega) only [gw_U_n, gw_Z_r, w3]
  · simp (disch := omega) only [gw_U_s, gw_U_n, gw_Z_r]
  · simp (disch := omega) only [gw_U_s, gw_U_n, gw_Z_r, gw_Z_s]
  · simp (disch := omega) only [gw_U_s, gw_U_n, gw_Z_r, gw_Z_s]
  · simp (disch := omega) only [gw_U_s, gw_U_n, gw_Z_r]
  · simp (disch := omega) only [gw_U_n, gw_Z_r, p1, y2]
  · simp (disch := omega) only [gw_U_s, gw_U_n, gw_Z_r]
  · simp (disch := omega) only [gw_U_r, gw_Z_r, p1, zr]
  · simp (disch := omega) only [gw_U_r, gw_Z_r, p1, z9]
  · simp (disch := omega) only [gw_U_r, gw_Z_r, zs]
  · simp (disch := omega) only [gw_U_r, gw_Z_r, z20]
end GI
