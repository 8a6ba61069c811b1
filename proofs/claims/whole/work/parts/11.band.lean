/-! Integer.bitCount of small numbers; Band: the players -/
def gb_pc (n : Nat) : Nat := n % 2 + n / 2 % 2 + n / 4 % 2 + n / 8 % 2
theorem ga_ushrN {a y : Nat} (ha : a < 4294967296) (hy : y < 32) : ((Int32.ofInt (a : Int)).toUInt32 >>> ((Int32.ofInt (y : Int)).toUInt32 &&& Int32.toUInt32 31)).toInt32 = Int32.ofInt ((a / 2 ^ y : Nat) : Int) := by
  rw [ga_n, ga_n (a / 2 ^ y)]
  refine pk_ushrN ha _ y ?_
  have : ∀ y : Nat, y < 32 → (((Int32.ofInt (y : Int)).toUInt32 &&& Int32.toUInt32 31).toBitVec % 32).toNat = y := by decide +kernel
  exact this y hy
def gb_b1 (n : Nat) : Nat := n - (n / 2 ^ 1 &&& 1431655765)
def gb_b2 (n : Nat) : Nat := (gb_b1 n &&& 858993459) + (gb_b1 n / 2 ^ 2 &&& 858993459)
def gb_b3 (n : Nat) : Nat := gb_b2 n + gb_b2 n / 2 ^ 4 &&& 252645135
def gb_b4 (n : Nat) : Nat := gb_b3 n + gb_b3 n / 2 ^ 8
def gb_b5 (n : Nat) : Nat := gb_b4 n + gb_b4 n / 2 ^ 16
theorem gb_bits : ∀ n, n < 16 → n / 2 ^ 1 &&& 1431655765 ≤ n ∧ gb_b1 n < 16 ∧ gb_b2 n < 256 ∧ gb_b3 n < 256 ∧ gb_b4 n < 256 ∧ gb_b5 n < 256 ∧ gb_b5 n &&& 63 = gb_pc n := by decide +kernel
theorem c_bitCount {n : Nat} {μ : gw_M} (d : Nat) (hn : n < 16) : gw_Met jJ6_bitCount_0f7a4 d [.inl (n : Int)] μ (gw_pu (gb_pc n : Nat) μ) := by
  obtain ⟨h1, h2, h3, h4, h5, h6, h7⟩ := gb_bits n hn
  refine gw_enter okJ6_bitCount_0f7a4 rfl (Nat.le_of_ble_eq_true rfl) ?_
  refine gr_iload_n dJ6_bitCount_0f7a4_0 rfl ?_
  refine gr_iload_n dJ6_bitCount_0f7a4_1 rfl ?_
  refine gr_iconst dJ6_bitCount_0f7a4_2 ?_
  refine gr_iushr (v := ((n / 2 ^ 1 : Nat) : Int)) dJ6_bitCount_0f7a4_3 (ga_ushrN (y := 1) (by omega) (by omega)) ?_
  refine gr_ldcw dJ6_bitCount_0f7a4_4 nJ6_265 ?_
  refine gr_iand (v := ((n / 2 ^ 1 &&& 1431655765 : Nat) : Int)) dJ6_bitCount_0f7a4_7 (ga_andN _ 1431655765) ?_
  refine gr_isub (v := ((gb_b1 n : Nat) : Int)) dJ6_bitCount_0f7a4_8 (by unfold gb_b1; omega) ?_
  refine gr_istore_n dJ6_bitCount_0f7a4_9 (by decide) ?_
  refine gr_iload_n dJ6_bitCount_0f7a4_10 rfl ?_
  refine gr_ldcw dJ6_bitCount_0f7a4_11 nJ6_266 ?_
  refine gr_iand (v := ((gb_b1 n &&& 858993459 : Nat) : Int)) dJ6_bitCount_0f7a4_14 (ga_andN _ 858993459) ?_
  refine gr_iload_n dJ6_bitCount_0f7a4_15 rfl ?_
  refine gr_iconst dJ6_bitCount_0f7a4_16 ?_
  refine gr_iushr (v := ((gb_b1 n / 2 ^ 2 : Nat) : Int)) dJ6_bitCount_0f7a4_17 (ga_ushrN (y := 2) (by omega) (by omega)) ?_
  refine gr_ldcw dJ6_bitCount_0f7a4_18 nJ6_266 ?_
  refine gr_iand (v := ((gb_b1 n / 2 ^ 2 &&& 858993459 : Nat) : Int)) dJ6_bitCount_0f7a4_21 (ga_andN _ 858993459) ?_
  refine gr_iadd (v := ((gb_b2 n : Nat) : Int)) dJ6_bitCount_0f7a4_22 (by unfold gb_b2; omega) ?_
  refine gr_istore_n dJ6_bitCount_0f7a4_23 (by decide) ?_
  refine gr_iload_n dJ6_bitCount_0f7a4_24 rfl ?_
  refine gr_iload_n dJ6_bitCount_0f7a4_25 rfl ?_
  refine gr_iconst dJ6_bitCount_0f7a4_26 ?_
  refine gr_iushr (v := ((gb_b2 n / 2 ^ 4 : Nat) : Int)) dJ6_bitCount_0f7a4_27 (ga_ushrN (y := 4) (by omega) (by omega)) ?_
  refine gr_iadd (v := ((gb_b2 n + gb_b2 n / 2 ^ 4 : Nat) : Int)) dJ6_bitCount_0f7a4_28 (by omega) ?_
  refine gr_ldcw dJ6_bitCount_0f7a4_29 nJ6_267 ?_
  refine gr_iand (v := ((gb_b3 n : Nat) : Int)) dJ6_bitCount_0f7a4_32 (ga_andN _ 252645135) ?_
  refine gr_istore_n dJ6_bitCount_0f7a4_33 (by decide) ?_
  refine gr_iload_n dJ6_bitCount_0f7a4_34 rfl ?_
  refine gr_iload_n dJ6_bitCount_0f7a4_35 rfl ?_
  refine gr_bipush dJ6_bitCount_0f7a4_36 (by decide) ?_
  refine gr_iushr (v := ((gb_b3 n / 2 ^ 8 : Nat) : Int)) dJ6_bitCount_0f7a4_38 (ga_ushrN (y := 8) (by omega) (by omega)) ?_
  refine gr_iadd (v := ((gb_b4 n : Nat) : Int)) dJ6_bitCount_0f7a4_39 (by unfold gb_b4; omega) ?_
  refine gr_istore_n dJ6_bitCount_0f7a4_40 (by decide) ?_
  refine gr_iload_n dJ6_bitCount_0f7a4_41 rfl ?_
  refine gr_iload_n dJ6_bitCount_0f7a4_42 rfl ?_
  refine gr_bipush dJ6_bitCount_0f7a4_43 (by decide) ?_
  refine gr_iushr (v := ((gb_b4 n / 2 ^ 16 : Nat) : Int)) dJ6_bitCount_0f7a4_45 (ga_ushrN (y := 16) (by omega) (by omega)) ?_
  refine gr_iadd (v := ((gb_b5 n : Nat) : Int)) dJ6_bitCount_0f7a4_46 (by unfold gb_b5; omega) ?_
  refine gr_istore_n dJ6_bitCount_0f7a4_47 (by decide) ?_
  refine gr_iload_n dJ6_bitCount_0f7a4_48 rfl ?_
  refine gr_bipush dJ6_bitCount_0f7a4_49 (by decide) ?_
  refine gr_iand (v := ((gb_b5 n &&& 63 : Nat) : Int)) dJ6_bitCount_0f7a4_51 (ga_andN _ 63) ?_
  refine gr_iret dJ6_bitCount_0f7a4_52 (by first | exact Or.inl rfl | exact Or.inr ⟨rfl, by omega⟩) (by decide) (by decide) (⟨by rw [h7], rfl⟩)
/-- b is the place of a Band, b + 1 .. b + 5 those of its rows -/
def gb_K (F : Nat → Nat → Option Nat) (b : Nat) : Prop := gw_sh b = (0, 7) ∧ gw_sh (b + 1) = (10, 4) ∧ gw_sh (b + 2) = (10, 4) ∧ gw_sh (b + 3) = (10, 4) ∧ gw_sh (b + 4) = (10, 4) ∧ gw_sh (b + 5) = (10, 4) ∧ b + 5 < 114 ∧ F b 2 = some (b + 1) ∧ F b 3 = some (b + 2) ∧ F b 4 = some (b + 3) ∧ F b 5 = some (b + 4) ∧ F b 6 = some (b + 5)
/-- what the rows hold -/
def gb_B (I : Nat → Nat → Int) (b : Nat) : Prop := ∀ p, p < 4 → 0 ≤ I (b + 1) p ∧ I (b + 1) p ≤ 2 ∧ 0 ≤ I (b + 2) p ∧ I (b + 2) p ≤ 60 ∧ 0 ≤ I (b + 3) p ∧ I (b + 3) p ≤ 60 ∧ 0 ≤ I (b + 4) p ∧ I (b + 4) p ≤ 9 ∧ 0 ≤ I (b + 5) p ∧ I (b + 5) p ≤ 12
/-- how many bows -/
def gb_bw (K : Nat → Int) : Nat → Int
  | 0 => 0
  | n + 1 => gb_bw K n + (if K n = 1 then 1 else 0)
/-- whether player p can have hand h in chord c of the piece's notes N -/
def gb_man (I : Nat → Nat → Int) (b : Nat) (N : Nat → Int) (p c h : Nat) : Bool := gb_pc h = 0 ∨ (gb_pc h ≤ (if I (b + 1) p = 1 then 2 else 1) ∧ I (b + 2) p ≤ gp_lo N c h ∧ gp_hi N c h ≤ I (b + 3) p ∧ (gb_pc h = 1 ∨ gp_hi N c h - gp_lo N c h ≤ I (b + 5) p))
/-- how loud a hand is -/
def gb_str (I : Nat → Nat → Int) (b p h : Nat) : Int := if gb_pc h = 2 then I (b + 4) p / 2 else I (b + 4) p
theorem gp_lo_in {N : Nat → Int} {c h : Nat} (hN : gp_N N) (hc : c < 8) : -1 ≤ gp_lo N c h ∧ gp_lo N c h ≤ 60 := by
  have h0 := hN (3 * c + 0) (by omega)
  have h1 := hN (3 * c + 1) (by omega)
  have h2 := hN (3 * c + 2) (by omega)
  unfold gp_lo
  grind
theorem gp_hi_in {N : Nat → Int} {c h : Nat} (hN : gp_N N) (hc : c < 8) : -1 ≤ gp_hi N c h ∧ gp_hi N c h ≤ 60 := by
  have h0 := hN (3 * c + 0) (by omega)
  have h1 := hN (3 * c + 1) (by omega)
  have h2 := hN (3 * c + 2) (by omega)
  unfold gp_hi
  grind
theorem gb_pc8 : ∀ h, h < 8 → gb_pc h ≤ 3 ∧ gb_pc h ≤ h := by decide +kernel
section GB
variable {I : Nat → Nat → Int} {F : Nat → Nat → Option Nat} {b : Nat}
theorem c_bempty (d : Nat) (hb : gb_K F b) : gw_Met jX0_empty d [.inr (some b)] (114, I, F) (gw_vo F (fun I' => I' = gw_U (gw_U I b 0 0) b 1 0)) := by
  obtain ⟨hb0, hb1, hb2, hb3, hb4, hb5, hbn, hf1, hf2, hf3, hf4, hf5⟩ := hb
  refine gw_enter okX0_empty rfl (Nat.le_of_ble_eq_true rfl) ?_
  refine gr_aload_n dX0_empty_0 rfl ?_
  refine gr_iconst dX0_empty_1 ?_
  refine gr_putI dX0_empty_2 fX0_9 (by first | assumption | rfl) (by omega) (Or.inl rfl) rfl ?_
  refine gr_aload_n dX0_empty_5 rfl ?_
  refine gr_iconst dX0_empty_6 ?_
  refine gr_putI dX0_empty_7 fX0_15 (by first | assumption | rfl) (by omega) (Or.inl rfl) rfl ?_
  refine gr_vret dX0_empty_10 rfl (by decide) (by decide) (⟨rfl, _, rfl, rfl⟩)
theorem c_hasRoomFor {x : Int} (d : Nat) (hb : gb_K F b) (hx : gw_in x) (h1 : gw_in (I b 0)) (h2 : gw_in (I b 1)) : gw_Met jX0_hasRoomFor d [.inr (some b), .inl x] (114, I, F) (gw_pu (if I b 0 < 4 ∧ (x ≠ 1 ∨ I b 1 < 2) then 1 else 0) (114, I, F)) := by
  obtain ⟨hb0, hb1, hb2, hb3, hb4, hb5, hbn, hf1, hf2, hf3, hf4, hf5⟩ := hb
  unfold gw_in at hx h1 h2
  refine gw_enter okX0_hasRoomFor rfl (Nat.le_of_ble_eq_true rfl) ?_
  refine gr_aload_n dX0_hasRoomFor_0 rfl ?_
  refine gr_getI dX0_hasRoomFor_1 fX0_9 (by first | assumption | rfl) (by omega) (by decide) rfl ?_
  refine gr_iconst dX0_hasRoomFor_4 ?_
  refine gr_icmp_ge 25 dX0_hasRoomFor_5 (by decide) (by unfold gw_in; omega) (by unfold gw_in; omega) (fun h5 => ?_) (fun h5 => ?_)
  · refine gr_iconst dX0_hasRoomFor_25 ?_
    refine gr_iret dX0_hasRoomFor_26 (by first | exact Or.inl rfl | exact Or.inr ⟨rfl, by omega⟩) (by decide) (by decide) (⟨by rw [if_neg (by omega)], rfl⟩)
  · refine gr_iload_n dX0_hasRoomFor_8 rfl ?_
    refine gr_iconst dX0_hasRoomFor_9 ?_
    refine gr_icmp_ne 21 dX0_hasRoomFor_10 (by decide) (by unfold gw_in; omega) (by unfold gw_in; omega) (fun h10 => ?_) (fun h10 => ?_)
    · refine gr_iconst dX0_hasRoomFor_21 ?_
      refine gr_goto 26 dX0_hasRoomFor_22 (by decide) ?_
      refine gr_iret dX0_hasRoomFor_26 (by first | exact Or.inl rfl | exact Or.inr ⟨rfl, by omega⟩) (by decide) (by decide) (⟨by rw [if_pos (by omega)], rfl⟩)
    · refine gr_aload_n dX0_hasRoomFor_13 rfl ?_
      refine gr_getI dX0_hasRoomFor_14 fX0_15 (by first | assumption | rfl) (by omega) (by decide) rfl ?_
      refine gr_iconst dX0_hasRoomFor_17 ?_
      refine gr_icmp_ge 25 dX0_hasRoomFor_18 (by decide) (by unfold gw_in; omega) (by unfold gw_in; omega) (fun h18 => ?_) (fun h18 => ?_)
      · refine gr_iconst dX0_hasRoomFor_25 ?_
        refine gr_iret dX0_hasRoomFor_26 (by first | exact Or.inl rfl | exact Or.inr ⟨rfl, by omega⟩) (by decide) (by decide) (⟨by rw [if_neg (by omega)], rfl⟩)
      · refine gr_iconst dX0_hasRoomFor_21 ?_
        refine gr_goto 26 dX0_hasRoomFor_22 (by decide) ?_
        refine gr_iret dX0_hasRoomFor_26 (by first | exact Or.inl rfl | exact Or.inr ⟨rfl, by omega⟩) (by decide) (by decide) (⟨by rw [if_pos (by omega)], rfl⟩)
theorem c_badd {p : Nat} {x0 x1 x2 x3 x4 : Int} (d : Nat) (hb : gb_K F b) (hp : I b 0 = (p : Int)) (hp4 : p < 4) (hx : gw_in x0) (h2 : gw_in (I b 1)) (hbw : x0 ≠ 1 ∨ I b 1 < 2) : gw_Met jX0_add (d + 1) [.inr (some b), .inl x0, .inl x1, .inl x2, .inl x3, .inl x4] (114, I, F) (gw_vo F (fun I' => ∀ a i, I' a i = if a = b ∧ i = 0 then (p : Int) + 1 else if a = b ∧ i = 1 then (if x0 = 1 then I b 1 + 1 else I b 1) else if a = b + 1 ∧ i = p then x0 else if a = b + 2 ∧ i = p then x1 else if a = b + 3 ∧ i = p then x2 else if a = b + 4 ∧ i = p then x3 else if a = b + 5 ∧ i = p then x4 else I a i)) := by
  have hb' := hb
  obtain ⟨hb0, hb1, hb2, hb3, hb4, hb5, hbn, hf1, hf2, hf3, hf4, hf5⟩ := hb
  refine gw_enter okX0_add rfl (Nat.le_of_ble_eq_true rfl) ?_
  refine gr_aload_n dX0_add_0 rfl ?_
  refine gr_iload_n dX0_add_1 rfl ?_
  refine gr_virt dX0_add_2 kX0_34 (as := [_]) rfl rfl (by first | assumption | rfl) (by omega) (Nat.le_of_ble_eq_true rfl) (gw_Rm_m (by omega) (by decide) (by decide)) (c_hasRoomFor d hb' hx (by unfold gw_in; omega) h2) ?_
  rintro _ _ ⟨rfl, rfl⟩
  rw [if_pos (show I b 0 < 4 ∧ (x0 ≠ 1 ∨ I b 1 < 2) from ⟨by omega, hbw⟩)]
  unfold gw_in at hx h2
  refine gr_if_ne 9 dX0_add_5 (by decide) (by unfold gw_in; omega) (fun h5 => ?_) (fun h5 => ?_)
  · refine gr_aload_n dX0_add_9 rfl ?_
    refine gr_getR dX0_add_10 fX0_18 (by first | assumption | rfl) (by omega) (by decide) rfl (by assumption) ?_
    refine gr_aload_n dX0_add_13 rfl ?_
    refine gr_getI dX0_add_14 fX0_9 (by first | assumption | rfl) (by omega) (by decide) rfl ?_
    refine gr_iload_n dX0_add_17 rfl ?_
    rw [hp]
    refine gr_iast (i := p) dX0_add_18 (by first | assumption | rfl) (by omega) (by omega) (by omega) (by decide) ?_
    refine gr_aload_n dX0_add_19 rfl ?_
    refine gr_getR dX0_add_20 fX0_22 (by first | assumption | rfl) (by omega) (by decide) rfl (by assumption) ?_
    refine gr_aload_n dX0_add_23 rfl ?_
    refine gr_getI dX0_add_24 fX0_9 (by first | assumption | rfl) (by omega) (by decide) rfl ?_
    refine gr_iload_n dX0_add_27 rfl ?_
    rw [show gw_U I (b + 1) p x0 b 0 = (p : Int) by unfold gw_U; rw [if_neg (by omega)]; exact hp]
    refine gr_iast (i := p) dX0_add_28 (by first | assumption | rfl) (by omega) (by omega) (by omega) (by decide) ?_
    refine gr_aload_n dX0_add_29 rfl ?_
    refine gr_getR dX0_add_30 fX0_25 (by first | assumption | rfl) (by omega) (by decide) rfl (by assumption) ?_
    refine gr_aload_n dX0_add_33 rfl ?_
    refine gr_getI dX0_add_34 fX0_9 (by first | assumption | rfl) (by omega) (by decide) rfl ?_
    refine gr_iload_n dX0_add_37 rfl ?_
    rw [show gw_U (gw_U I (b + 1) p x0) (b + 2) p x1 b 0 = (p : Int) by unfold gw_U; grind]
    refine gr_iast (i := p) dX0_add_38 (by first | assumption | rfl) (by omega) (by omega) (by omega) (by decide) ?_
    refine gr_aload_n dX0_add_39 rfl ?_
    refine gr_getR dX0_add_40 fX0_28 (by first | assumption | rfl) (by omega) (by decide) rfl (by assumption) ?_
    refine gr_aload_n dX0_add_43 rfl ?_
    refine gr_getI dX0_add_44 fX0_9 (by first | assumption | rfl) (by omega) (by decide) rfl ?_
    refine gr_iload dX0_add_47 rfl ?_
    rw [show gw_U (gw_U (gw_U I (b + 1) p x0) (b + 2) p x1) (b + 3) p x2 b 0 = (p : Int) by unfold gw_U; grind]
    refine gr_iast (i := p) dX0_add_49 (by first | assumption | rfl) (by omega) (by omega) (by omega) (by decide) ?_
    refine gr_aload_n dX0_add_50 rfl ?_
    refine gr_getR dX0_add_51 fX0_31 (by first | assumption | rfl) (by omega) (by decide) rfl (by assumption) ?_
    refine gr_aload_n dX0_add_54 rfl ?_
    refine gr_getI dX0_add_55 fX0_9 (by first | assumption | rfl) (by omega) (by decide) rfl ?_
    refine gr_iload dX0_add_58 rfl ?_
    rw [show gw_U (gw_U (gw_U (gw_U I (b + 1) p x0) (b + 2) p x1) (b + 3) p x2) (b + 4) p x3 b 0 = (p : Int) by unfold gw_U; grind]
    refine gr_iast (i := p) dX0_add_60 (by first | assumption | rfl) (by omega) (by omega) (by omega) (by decide) ?_
    refine gr_aload_n dX0_add_61 rfl ?_
    refine gr_dup dX0_add_62 ?_
    refine gr_getI dX0_add_63 fX0_9 (by first | assumption | rfl) (by omega) (by decide) rfl ?_
    refine gr_iconst dX0_add_66 ?_
    refine gr_iadd dX0_add_67 rfl ?_
    refine gr_putI dX0_add_68 fX0_9 (by first | assumption | rfl) (by omega) (Or.inl rfl) rfl ?_
    refine gr_iload_n dX0_add_71 rfl ?_
    refine gr_iconst dX0_add_72 ?_
    refine gr_icmp_ne 86 dX0_add_73 (by decide) (by unfold gw_in; omega) (by unfold gw_in; omega) (fun h73 => ?_) (fun h73 => ?_)
    · refine gr_vret dX0_add_86 rfl (by decide) (by decide) (⟨rfl, _, rfl, fun a i => by clear hb' hb0 hb1 hb2 hb3 hb4 hb5 hf1 hf2 hf3 hf4 hf5; unfold gw_U; grind (splits := 24)⟩)
    · refine gr_aload_n dX0_add_76 rfl ?_
      refine gr_dup dX0_add_77 ?_
      refine gr_getI dX0_add_78 fX0_15 (by first | assumption | rfl) (by omega) (by decide) rfl ?_
      refine gr_iconst dX0_add_81 ?_
      refine gr_iadd dX0_add_82 rfl ?_
      refine gr_putI dX0_add_83 fX0_15 (by first | assumption | rfl) (by omega) (Or.inl rfl) rfl ?_
      refine gr_vret dX0_add_86 rfl (by decide) (by decide) (⟨rfl, _, rfl, fun a i => by clear hb' hb0 hb1 hb2 hb3 hb4 hb5 hf1 hf2 hf3 hf4 hf5; unfold gw_U; grind (splits := 24)⟩)
  · omega
theorem gb_bw_le {K : Nat → Int} {m n : Nat} (h : m ≤ n) : gb_bw K m ≤ gb_bw K n := by
  induction n with
  | zero => rw [show m = 0 by omega]; exact Int.le_refl _
  | succ n ih =>
    by_cases hm : m = n + 1
    · rw [hm]; exact Int.le_refl _
    · have := ih (by omega)
      simp only [gb_bw]
      split <;> omega
theorem gb_bw_nn {K : Nat → Int} {n : Nat} : 0 ≤ gb_bw K n := by
  have := gb_bw_le (K := K) (Nat.zero_le n)
  simpa [gb_bw] using this
theorem gb_bw_congr {K L : Nat → Int} {n : Nat} (h : ∀ i, i < n → K i = L i) : gb_bw K n = gb_bw L n := by
  induction n with
  | zero => rfl
  | succ n ih => simp only [gb_bw]; rw [ih (fun i hi => h i (by omega)), h n (by omega)]
theorem c_bbecome {o P : Nat} (d : Nat) (hb : gb_K F b) (ho : gb_K F o) (hbo : b + 5 < o ∨ o + 5 < b) (hB : gb_B I o) (hP : I o 0 = (P : Int)) (hP4 : P ≤ 4) (hbw : gb_bw (I (o + 1)) P ≤ 2) : gw_Met jX0_become (d + 2) [.inr (some b), .inr (some o)] (114, I, F) (gw_vo F (fun I' => ∀ a i, I' a i = if a = b ∧ i = 0 then (P : Int) else if a = b ∧ i = 1 then gb_bw (I (o + 1)) P else if b + 1 ≤ a ∧ a ≤ b + 5 ∧ i < P then I (a - b + o) i else I a i)) := by
  have hb' := hb
  obtain ⟨hb0, hb1, hb2, hb3, hb4, hb5, hbn, hf1, hf2, hf3, hf4, hf5⟩ := hb
  obtain ⟨ho0, ho1, ho2, ho3, ho4, ho5, hon, hg1, hg2, hg3, hg4, hg5⟩ := ho
  refine gw_enter okX0_become rfl (Nat.le_of_ble_eq_true rfl) ?_
  refine gr_aload_n dX0_become_0 rfl ?_
  refine gr_virt dX0_become_1 kX0_38 (as := []) rfl rfl (by first | assumption | rfl) (by omega) (Nat.le_of_ble_eq_true rfl) (gw_Rm_m (by omega) (by decide) (by decide)) (c_bempty (d + 1) hb') ?_
  rintro _ _ ⟨rfl, I1, rfl, hI1⟩
  refine gr_iconst dX0_become_4 ?_
  refine gr_istore_n dX0_become_5 (by decide) ?_
  have key : ∀ (n p : Nat) (I2 : Nat → Nat → Int), p + n = P → (∀ a i, I2 a i = if a = b ∧ i = 0 then (p : Int) else if a = b ∧ i = 1 then gb_bw (I (o + 1)) p else if b + 1 ≤ a ∧ a ≤ b + 5 ∧ i < p then I (a - b + o) i else I a i) → gw_G (gw_Cm jX0_become (d + 2) (gw_vo F (fun I' => ∀ a i, I' a i = if a = b ∧ i = 0 then (P : Int) else if a = b ∧ i = 1 then gb_bw (I (o + 1)) P else if b + 1 ≤ a ∧ a ≤ b + 5 ∧ i < P then I (a - b + o) i else I a i))) jX0_become 6 [some (.inr (some b)), some (.inr (some o)), some (.inl (p : Int))] [] (114, I2, F) 0 0 := by
    intro n
    induction n with
    | zero =>
      intro p I2 hp hI
      have e0 : I2 o 0 = (P : Int) := by rw [hI]; grind
      refine gr_iload_n dX0_become_6 rfl ?_
      refine gr_aload_n dX0_become_7 rfl ?_
      refine gr_getI dX0_become_8 fX0_9 (by first | assumption | rfl) (by omega) (by decide) rfl ?_
      rw [e0]
      refine gr_icmp_ge 54 dX0_become_11 (by decide) (by unfold gw_in; omega) (by unfold gw_in; omega) (fun h11 => ?_) (fun h11 => ?_)
      · have : p = P := by omega
        subst this
        refine gr_vret dX0_become_54 rfl (by decide) (by decide) (⟨rfl, _, rfl, hI⟩)
      · omega
    | succ n ih =>
      intro p I2 hp hI
      have e0 : I2 o 0 = (P : Int) := by rw [hI]; grind
      have hBp := hB p (by omega)
      have hle := gb_bw_le (K := I (o + 1)) (show p + 1 ≤ P by omega)
      have hnn := gb_bw_nn (K := I (o + 1)) (n := p)
      simp only [gb_bw] at hle
      have r1 : I2 (o + 1) p = I (o + 1) p := by rw [hI]; grind
      have r2 : I2 (o + 2) p = I (o + 2) p := by rw [hI]; grind
      have r3 : I2 (o + 3) p = I (o + 3) p := by rw [hI]; grind
      have r4 : I2 (o + 4) p = I (o + 4) p := by rw [hI]; grind
      have r5 : I2 (o + 5) p = I (o + 5) p := by rw [hI]; grind
      have r6 : I2 b 0 = (p : Int) := by rw [hI]; grind
      have r7 : I2 b 1 = gb_bw (I (o + 1)) p := by rw [hI]; grind
      refine gr_iload_n dX0_become_6 rfl ?_
      refine gr_aload_n dX0_become_7 rfl ?_
      refine gr_getI dX0_become_8 fX0_9 (by first | assumption | rfl) (by omega) (by decide) rfl ?_
      rw [e0]
      refine gr_icmp_ge 54 dX0_become_11 (by decide) (by unfold gw_in; omega) (by unfold gw_in; omega) (fun h11 => ?_) (fun h11 => ?_)
      · omega
      · refine gr_aload_n dX0_become_14 rfl ?_
        refine gr_aload_n dX0_become_15 rfl ?_
        refine gr_getR dX0_become_16 fX0_18 (by first | assumption | rfl) (by omega) (by decide) rfl (by assumption) ?_
        refine gr_iload_n dX0_become_19 rfl ?_
        refine gr_iald (i := p) dX0_become_20 (by first | assumption | rfl) (by omega) (by omega) (by omega) (by decide) ?_
        refine gr_aload_n dX0_become_21 rfl ?_
        refine gr_getR dX0_become_22 fX0_22 (by first | assumption | rfl) (by omega) (by decide) rfl (by assumption) ?_
        refine gr_iload_n dX0_become_25 rfl ?_
        refine gr_iald (i := p) dX0_become_26 (by first | assumption | rfl) (by omega) (by omega) (by omega) (by decide) ?_
        refine gr_aload_n dX0_become_27 rfl ?_
        refine gr_getR dX0_become_28 fX0_25 (by first | assumption | rfl) (by omega) (by decide) rfl (by assumption) ?_
        refine gr_iload_n dX0_become_31 rfl ?_
        refine gr_iald (i := p) dX0_become_32 (by first | assumption | rfl) (by omega) (by omega) (by omega) (by decide) ?_
        refine gr_aload_n dX0_become_33 rfl ?_
        refine gr_getR dX0_become_34 fX0_28 (by first | assumption | rfl) (by omega) (by decide) rfl (by assumption) ?_
        refine gr_iload_n dX0_become_37 rfl ?_
        refine gr_iald (i := p) dX0_become_38 (by first | assumption | rfl) (by omega) (by omega) (by omega) (by decide) ?_
        refine gr_aload_n dX0_become_39 rfl ?_
        refine gr_getR dX0_become_40 fX0_31 (by first | assumption | rfl) (by omega) (by decide) rfl (by assumption) ?_
        refine gr_iload_n dX0_become_43 rfl ?_
        refine gr_iald (i := p) dX0_become_44 (by first | assumption | rfl) (by omega) (by omega) (by omega) (by decide) ?_
        rw [r1, r2, r3, r4, r5]
        refine gr_virt dX0_become_45 kX0_41 (as := [_, _, _, _, _]) rfl rfl (by first | assumption | rfl) (by omega) (Nat.le_of_ble_eq_true rfl) (gw_Rm_m (by omega) (by decide) (by decide)) (c_badd (p := p) d hb' r6 (by omega) (by unfold gw_in; omega) (by rw [r7]; unfold gw_in; split at hle <;> omega) (by rw [r7]; split at hle <;> omega)) ?_
        rintro _ _ ⟨rfl, I3, rfl, hI3⟩
        refine gr_iinc (v := ((p + 1 : Nat) : Int)) dX0_become_48 (by decide) rfl (by omega) ?_
        refine gr_goto 6 dX0_become_51 (by decide) ?_
        refine ih (p + 1) I3 (by omega) (fun a i => ?_)
        have c1 : o + 1 = b + 1 - b + o := by omega
        have c2 : o + 2 = b + 2 - b + o := by omega
        have c3 : o + 3 = b + 3 - b + o := by omega
        have c4 : o + 4 = b + 4 - b + o := by omega
        have c5 : o + 5 = b + 5 - b + o := by omega
        rw [hI3, r7, hI]
        simp only [gb_bw]
        clear hI hI3 ih e0 r1 r2 r3 r4 r5 r6 r7 hb' hb0 hb1 hb2 hb3 hb4 hb5 hf1 hf2 hf3 hf4 hf5 ho0 ho1 ho2 ho3 ho4 ho5 hg1 hg2 hg3 hg4 hg5 hB hBp hI1 hle hnn hP hbw
        grind (splits := 24)
    
  refine key P 0 I1 (by omega) (fun a i => ?_)
  rw [hI1]
  unfold gw_U
  simp only [gb_bw]
  grind
theorem c_manages {p c h k : Nat} (d : Nat) (hb : gb_K F b) (hk : gp_K F k) (hp : p < 4) (hc : c < 8) (hh : h < 8) (hB : gb_B I b) (hN : gp_N (I (k + 1))) : gw_Met jX0_manages (d + 2) [.inr (some b), .inl (p : Int), .inr (some k), .inl (c : Int), .inl (h : Int)] (114, I, F) (gw_pu (if gb_man I b (I (k + 1)) p c h = true then 1 else 0) (114, I, F)) := by
  obtain ⟨hb0, hb1, hb2, hb3, hb4, hb5, hbn, hf1, hf2, hf3, hf4, hf5⟩ := hb
  have hk' := hk
  obtain ⟨hk1, hk2, hk3, hk4⟩ := hk
  obtain ⟨pc3, pch⟩ := gb_pc8 h hh
  have hBp := hB p hp
  have hlo := gp_lo_in (h := h) hN hc
  have hhi := gp_hi_in (h := h) hN hc
  refine gw_enter okX0_manages rfl (Nat.le_of_ble_eq_true rfl) ?_
  refine gr_iload dX0_manages_0 rfl ?_
  refine gr_stat dX0_manages_2 kX0_45 (as := [_]) rfl rfl (Nat.le_of_ble_eq_true rfl) (gw_Rm_m (by omega) (by decide) (by decide)) (c_bitCount (n := h) (d + 1) (by omega)) ?_
  rintro _ _ ⟨rfl, rfl⟩
  refine gr_istore dX0_manages_5 (by decide) ?_
  refine gr_iload dX0_manages_7 rfl ?_
  refine gr_if_ne 14 dX0_manages_9 (by decide) (by unfold gw_in; omega) (fun h9 => ?_) (fun h9 => ?_)
  · refine gr_iload dX0_manages_14 rfl ?_
    refine gr_aload_n dX0_manages_16 rfl ?_
    refine gr_getR dX0_manages_17 fX0_18 (by first | assumption | rfl) (by omega) (by decide) rfl (by assumption) ?_
    refine gr_iload_n dX0_manages_20 rfl ?_
    refine gr_iald (i := p) dX0_manages_21 (by first | assumption | rfl) (by omega) (by omega) (by omega) (by decide) ?_
    refine gr_iconst dX0_manages_22 ?_
    have fin : ∀ x : Int, (x = if I (b + 1) p = 1 then 2 else 1) → gw_G (gw_Cm jX0_manages (d + 2) (gw_pu (if gb_man I b (I (k + 1)) p c h = true then 1 else 0) (114, I, F))) jX0_manages 31 [some (.inr (some b)), some (.inl (p : Int)), some (.inr (some k)), some (.inl (c : Int)), some (.inl (h : Int)), some (.inl ((gb_pc h : Nat) : Int)), none, none] [.inl x, .inl ((gb_pc h : Nat) : Int)] (114, I, F) 0 0 := by
      intro x hx
      have hx2 : x = 1 ∨ x = 2 := by split at hx <;> omega
      refine gr_icmp_le 36 dX0_manages_31 (by decide) (by unfold gw_in; omega) (by unfold gw_in; omega) (fun h31 => ?_) (fun h31 => ?_)
      · refine gr_aload_n dX0_manages_36 rfl ?_
        refine gr_iload_n dX0_manages_37 rfl ?_
        refine gr_iload dX0_manages_38 rfl ?_
        refine gr_virt dX0_manages_40 kX0_51 (as := [_, _]) rfl rfl (by first | assumption | rfl) (by omega) (Nat.le_of_ble_eq_true rfl) (gw_Rm_m (by omega) (by decide) (by decide)) (c_lowestOf (h := h) d hk' hc hh) ?_
        rintro _ _ ⟨rfl, rfl⟩
        refine gr_istore dX0_manages_43 (by decide) ?_
        refine gr_aload_n dX0_manages_45 rfl ?_
        refine gr_iload_n dX0_manages_46 rfl ?_
        refine gr_iload dX0_manages_47 rfl ?_
        refine gr_virt dX0_manages_49 kX0_57 (as := [_, _]) rfl rfl (by first | assumption | rfl) (by omega) (Nat.le_of_ble_eq_true rfl) (gw_Rm_m (by omega) (by decide) (by decide)) (c_highestOf (h := h) d hk' hc hh) ?_
        rintro _ _ ⟨rfl, rfl⟩
        refine gr_istore dX0_manages_52 (by decide) ?_
        refine gr_iload dX0_manages_54 rfl ?_
        refine gr_aload_n dX0_manages_56 rfl ?_
        refine gr_getR dX0_manages_57 fX0_22 (by first | assumption | rfl) (by omega) (by decide) rfl (by assumption) ?_
        refine gr_iload_n dX0_manages_60 rfl ?_
        refine gr_iald (i := p) dX0_manages_61 (by first | assumption | rfl) (by omega) (by omega) (by omega) (by decide) ?_
        refine gr_icmp_lt 100 dX0_manages_62 (by decide) (by unfold gw_in; omega) (by unfold gw_in; omega) (fun h62 => ?_) (fun h62 => ?_)
        · refine gr_iconst dX0_manages_100 ?_
          refine gr_iret dX0_manages_101 (by first | exact Or.inl rfl | exact Or.inr ⟨rfl, by omega⟩) (by decide) (by decide) (⟨by unfold gb_man; grind, rfl⟩)
        · refine gr_iload dX0_manages_65 rfl ?_
          refine gr_aload_n dX0_manages_67 rfl ?_
          refine gr_getR dX0_manages_68 fX0_25 (by first | assumption | rfl) (by omega) (by decide) rfl (by assumption) ?_
          refine gr_iload_n dX0_manages_71 rfl ?_
          refine gr_iald (i := p) dX0_manages_72 (by first | assumption | rfl) (by omega) (by omega) (by omega) (by decide) ?_
          refine gr_icmp_gt 100 dX0_manages_73 (by decide) (by unfold gw_in; omega) (by unfold gw_in; omega) (fun h73 => ?_) (fun h73 => ?_)
          · refine gr_iconst dX0_manages_100 ?_
            refine gr_iret dX0_manages_101 (by first | exact Or.inl rfl | exact Or.inr ⟨rfl, by omega⟩) (by decide) (by decide) (⟨by unfold gb_man; grind, rfl⟩)
          · refine gr_iload dX0_manages_76 rfl ?_
            refine gr_iconst dX0_manages_78 ?_
            refine gr_icmp_eq 96 dX0_manages_79 (by decide) (by unfold gw_in; omega) (by unfold gw_in; omega) (fun h79 => ?_) (fun h79 => ?_)
            · refine gr_iconst dX0_manages_96 ?_
              refine gr_goto 101 dX0_manages_97 (by decide) ?_
              refine gr_iret dX0_manages_101 (by first | exact Or.inl rfl | exact Or.inr ⟨rfl, by omega⟩) (by decide) (by decide) (⟨by unfold gb_man; grind, rfl⟩)
            · refine gr_iload dX0_manages_82 rfl ?_
              refine gr_iload dX0_manages_84 rfl ?_
              refine gr_isub dX0_manages_86 rfl ?_
              refine gr_aload_n dX0_manages_87 rfl ?_
              refine gr_getR dX0_manages_88 fX0_31 (by first | assumption | rfl) (by omega) (by decide) rfl (by assumption) ?_
              refine gr_iload_n dX0_manages_91 rfl ?_
              refine gr_iald (i := p) dX0_manages_92 (by first | assumption | rfl) (by omega) (by omega) (by omega) (by decide) ?_
              refine gr_icmp_gt 100 dX0_manages_93 (by decide) (by unfold gw_in; omega) (by unfold gw_in; omega) (fun h93 => ?_) (fun h93 => ?_)
              · refine gr_iconst dX0_manages_100 ?_
                refine gr_iret dX0_manages_101 (by first | exact Or.inl rfl | exact Or.inr ⟨rfl, by omega⟩) (by decide) (by decide) (⟨by unfold gb_man; grind, rfl⟩)
              · refine gr_iconst dX0_manages_96 ?_
                refine gr_goto 101 dX0_manages_97 (by decide) ?_
                refine gr_iret dX0_manages_101 (by first | exact Or.inl rfl | exact Or.inr ⟨rfl, by omega⟩) (by decide) (by decide) (⟨by unfold gb_man; grind, rfl⟩)
      · refine gr_iconst dX0_manages_34 ?_
        refine gr_iret dX0_manages_35 (by first | exact Or.inl rfl | exact Or.inr ⟨rfl, by omega⟩) (by decide) (by decide) (⟨by unfold gb_man; grind, rfl⟩)
    refine gr_icmp_ne 30 dX0_manages_23 (by decide) (by unfold gw_in; omega) (by unfold gw_in; omega) (fun h23 => ?_) (fun h23 => ?_)
    · refine gr_iconst dX0_manages_30 ?_
      exact fin 1 (by rw [if_neg h23])
    · refine gr_iconst dX0_manages_26 ?_
      refine gr_goto 31 dX0_manages_27 (by decide) ?_
      exact fin 2 (by rw [if_pos h23])
  · refine gr_iconst dX0_manages_12 ?_
    refine gr_iret dX0_manages_13 (by first | exact Or.inl rfl | exact Or.inr ⟨rfl, by omega⟩) (by decide) (by decide) (⟨by unfold gb_man; grind, rfl⟩)
theorem c_strength {p h : Nat} (d : Nat) (hb : gb_K F b) (hp : p < 4) (hh : h < 8) (hB : gb_B I b) : gw_Met jX0_strength (d + 1) [.inr (some b), .inl (p : Int), .inl (h : Int)] (114, I, F) (gw_pu (gb_str I b p h) (114, I, F)) := by
  obtain ⟨hb0, hb1, hb2, hb3, hb4, hb5, hbn, hf1, hf2, hf3, hf4, hf5⟩ := hb
  obtain ⟨pc3, pch⟩ := gb_pc8 h hh
  have hBp := hB p hp
  refine gw_enter okX0_strength rfl (Nat.le_of_ble_eq_true rfl) ?_
  refine gr_iload_n dX0_strength_0 rfl ?_
  refine gr_stat dX0_strength_1 kX0_45 (as := [_]) rfl rfl (Nat.le_of_ble_eq_true rfl) (gw_Rm_m (by omega) (by decide) (by decide)) (c_bitCount (n := h) d (by omega)) ?_
  rintro _ _ ⟨rfl, rfl⟩
  refine gr_iconst dX0_strength_4 ?_
  refine gr_icmp_ne 19 dX0_strength_5 (by decide) (by unfold gw_in; omega) (by unfold gw_in; omega) (fun h5 => ?_) (fun h5 => ?_)
  · refine gr_aload_n dX0_strength_19 rfl ?_
    refine gr_getR dX0_strength_20 fX0_28 (by first | assumption | rfl) (by omega) (by decide) rfl (by assumption) ?_
    refine gr_iload_n dX0_strength_23 rfl ?_
    refine gr_iald (i := p) dX0_strength_24 (by first | assumption | rfl) (by omega) (by omega) (by omega) (by decide) ?_
    refine gr_iret dX0_strength_25 (by first | exact Or.inl rfl | exact Or.inr ⟨rfl, by omega⟩) (by decide) (by decide) (⟨by unfold gb_str; rw [if_neg (by omega)], rfl⟩)
  · refine gr_aload_n dX0_strength_8 rfl ?_
    refine gr_getR dX0_strength_9 fX0_28 (by first | assumption | rfl) (by omega) (by decide) rfl (by assumption) ?_
    refine gr_iload_n dX0_strength_12 rfl ?_
    refine gr_iald (i := p) dX0_strength_13 (by first | assumption | rfl) (by omega) (by omega) (by omega) (by decide) ?_
    refine gr_iconst dX0_strength_14 ?_
    refine gr_ishr (v := I (b + 4) p / 2) dX0_strength_15 (ga_shr (y := 1) (by omega) (by omega) (by omega) (by omega)) ?_
    refine gr_goto 25 dX0_strength_16 (by decide) ?_
    refine gr_iret dX0_strength_25 (by first | exact Or.inl rfl | exact Or.inr ⟨rfl, by omega⟩) (by decide) (by decide) (⟨by unfold gb_str; rw [if_pos (by omega)], rfl⟩)
end GB
