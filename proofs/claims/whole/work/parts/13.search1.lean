/-! Search: the spreads of one chord -/
/-- where the search's things lie -/
def gq_K (F : Nat → Nat → Option Nat) : Prop := F 12 0 = some 13 ∧ F 12 1 = some 19 ∧ F 12 3 = some 21 ∧ F 12 4 = some 54 ∧ F 12 5 = some 55 ∧ F 12 6 = some 64 ∧ F 12 7 = some 65 ∧ F 12 8 = some 66 ∧ F 12 9 = some 67 ∧ F 12 10 = some 68 ∧ F 12 11 = some 69 ∧ (∀ i, i < 32 → F 21 i = some (22 + i)) ∧ (∀ i, i < 8 → F 55 i = some (56 + i)) ∧ gb_K F 13 ∧ gp_K F 19
abbrev gq_B (I : Nat → Nat → Int) : Nat → Nat → Int := fun r p => I (13 + r) p
/-- players, chords and rules are as they may be -/
def gq_M (I : Nat → Nat → Int) : Prop := gb_B I 13 ∧ gp_N (I 20) ∧ (0 ≤ I 13 0 ∧ I 13 0 ≤ 4) ∧ (0 ≤ I 19 0 ∧ I 19 0 ≤ 8) ∧ (0 ≤ I 19 2 ∧ I 19 2 ≤ 20) ∧ (0 ≤ I 19 3 ∧ I 19 3 ≤ 30) ∧ gb_bw (I 14) (I 13 0).toNat ≤ 2
theorem gq_sh22 : ∀ i, i < 32 → gw_sh (22 + i) = (10, 7) := by decide +kernel
theorem gq_sh56 : ∀ i, i < 8 → gw_sh (56 + i) = (10, 784) := by decide +kernel
/-- the choices of chord c are f -/
def gq_off (I : Nat → Nat → Int) (f : Nat → List Nat) (c : Nat) : Prop := ∀ p, p < 4 → I 54 (4 * c + p) = ((f p).length : Int) ∧ ∀ i, i < (f p).length → I (22 + (4 * c + p)) i = ((f p).getD i 0 : Nat)
theorem gs_plN : ∀ st, st < 10 → ∀ h, h < 8 → ((if h % 2 = 1 then st else 0) ||| (if h / 2 % 2 = 1 then st * 256 else 0) = (if h % 2 = 1 then st else 0) + (if h / 2 % 2 = 1 then st * 256 else 0)) ∧ (((if h % 2 = 1 then st else 0) + (if h / 2 % 2 = 1 then st * 256 else 0)) ||| (if h / 4 % 2 = 1 then st * 65536 else 0) = (if h % 2 = 1 then st else 0) + (if h / 2 % 2 = 1 then st * 256 else 0) + (if h / 4 % 2 = 1 then st * 65536 else 0)) := by decide +kernel
theorem ga_and255N (x : Nat) : Int32.ofInt (x : Int) &&& Int32.ofInt 255 = Int32.ofInt ((x % 256 : Nat) : Int) := by
  have h := ga_andN x 255
  rw [show (255 : Nat) = 2 ^ 8 - 1 from rfl, Nat.and_two_pow_sub_one_eq_mod] at h
  exact h
def gs_pli (st h : Nat) : Nat → Nat
  | 0 => 0
  | i + 1 => gs_pli st h i + (if h / 2 ^ i % 2 = 1 then st * 2 ^ (8 * i) else 0)
theorem gs_pliN : ∀ st, st < 10 → ∀ h, h < 8 → ∀ i, i < 3 → (gs_pli st h i ||| st * 2 ^ (8 * i)) = gs_pli st h i + st * 2 ^ (8 * i) ∧ st * 2 ^ (8 * i) < 2147483648 := by decide +kernel
section GQ
variable {I : Nat → Nat → Int} {F : Nat → Nat → Option Nat}
theorem c_packedLoud {p h : Nat} (d : Nat) (hF : gq_K F) (hp : p < 4) (hh : h < 8) (hB : gb_B I 13) : gw_Met jX3_packedLoud (d + 2) [.inr (some 12), .inl (p : Int), .inl (h : Int)] (114, I, F) (gw_pu (gs_pl (gq_B I) p h) (114, I, F)) := by
  obtain ⟨f0, f1, f3, f4, f5, f6, f7, f8, f9, f10, f11, f21, f55, fb, fp⟩ := hF
  have hst := gs_str_in (B := gq_B I) (h := h) hB hp
  obtain ⟨st, hst2⟩ : ∃ st : Nat, gb_str (gq_B I) 0 p h = (st : Int) := ⟨(gb_str (gq_B I) 0 p h).toNat, by omega⟩
  refine gw_enter okX3_packedLoud rfl (Nat.le_of_ble_eq_true rfl) ?_
  refine gr_aload_n dX3_packedLoud_0 rfl ?_
  refine gr_getR dX3_packedLoud_1 fX3_12 (by first | assumption | rfl) (by omega) (by decide) rfl (by assumption) ?_
  refine gr_iload_n dX3_packedLoud_4 rfl ?_
  refine gr_iload_n dX3_packedLoud_5 rfl ?_
  refine gr_virt dX3_packedLoud_6 kX3_96 (as := [_, _]) rfl rfl (by first | assumption | rfl) (by omega) (Nat.le_of_ble_eq_true rfl) (gw_Rm_m (by omega) (by decide) (by decide)) (c_strength (h := h) (p := p) d fb hp hh hB) ?_
  rintro _ _ ⟨rfl, rfl⟩
  rw [show gb_str I 13 p h = (st : Int) from hst2]
  refine gr_istore_n dX3_packedLoud_9 (by decide) ?_
  refine gr_iconst dX3_packedLoud_10 ?_
  refine gr_istore dX3_packedLoud_11 (by decide) ?_
  refine gr_iconst dX3_packedLoud_13 ?_
  refine gr_istore dX3_packedLoud_14 (by decide) ?_
  have key : ∀ (n i : Nat), i + n = 3 → gw_G (gw_Cm jX3_packedLoud (d + 2) (gw_pu (gs_pl (gq_B I) p h) (114, I, F))) jX3_packedLoud 16 [some (.inr (some 12)), some (.inl (p : Int)), some (.inl (h : Int)), some (.inl (st : Int)), some (.inl (gs_pli st h i : Nat)), some (.inl (i : Int))] [] (114, I, F) 0 0 := by
    intro n
    induction n with
    | zero =>
      intro i hi
      refine gr_iload dX3_packedLoud_16 rfl ?_
      refine gr_iconst dX3_packedLoud_18 ?_
      refine gr_icmp_ge 50 dX3_packedLoud_19 (by decide) (by unfold gw_in; omega) (by unfold gw_in; omega) (fun h19 => ?_) (fun h19 => ?_)
      · refine gr_iload dX3_packedLoud_50 rfl ?_
        have e : gs_pl (gq_B I) p h = ((gs_pli st h i : Nat) : Int) := by
          rw [show i = 3 by omega]
          unfold gs_pl
          rw [hst2]
          simp only [gs_pli]
          simp only [Nat.pow_zero, Nat.div_one, Nat.pow_one, Nat.mul_zero, Nat.mul_one, show 2 ^ 2 = 4 from rfl, show 2 ^ 8 = 256 from rfl, show 8 * 2 = 16 from rfl, show 2 ^ 16 = 65536 from rfl]
          grind
        refine gr_iret dX3_packedLoud_52 (by first | exact Or.inl rfl | exact Or.inr ⟨rfl, by omega⟩) (by decide) (by decide) (⟨by rw [e], rfl⟩)
      · omega
    | succ n ih =>
      intro i hi
      obtain ⟨o1, o2⟩ := gs_pliN st (by omega) h hh i (by omega)
      refine gr_iload dX3_packedLoud_16 rfl ?_
      refine gr_iconst dX3_packedLoud_18 ?_
      refine gr_icmp_ge 50 dX3_packedLoud_19 (by decide) (by unfold gw_in; omega) (by unfold gw_in; omega) (fun h19 => ?_) (fun h19 => ?_)
      · omega
      · refine gr_iload_n dX3_packedLoud_22 rfl ?_
        refine gr_iload dX3_packedLoud_23 rfl ?_
        refine gr_ishr (v := ((h / 2 ^ i : Nat) : Int)) dX3_packedLoud_25 (ga_bit (by omega) (by omega)) ?_
        refine gr_iconst dX3_packedLoud_26 ?_
        refine gr_iand (v := ((h / 2 ^ i % 2 : Nat) : Int)) dX3_packedLoud_27 (ga_bit1 _) ?_
        refine gr_iconst dX3_packedLoud_28 ?_
        refine gr_icmp_ne 44 dX3_packedLoud_29 (by decide) (by unfold gw_in; omega) (by unfold gw_in; omega) (fun h29 => ?_) (fun h29 => ?_)
        · refine gr_iinc (v := ((i + 1 : Nat) : Int)) dX3_packedLoud_44 (by decide) rfl (by omega) ?_
          refine gr_goto 16 dX3_packedLoud_47 (by decide) ?_
          have e : gs_pli st h (i + 1) = gs_pli st h i := by simp only [gs_pli]; rw [if_neg (by omega)]; rfl
          have ih := ih (i + 1) (by omega)
          rw [e] at ih
          exact ih
        · refine gr_iload dX3_packedLoud_32 rfl ?_
          refine gr_iload_n dX3_packedLoud_34 rfl ?_
          refine gr_iload dX3_packedLoud_35 rfl ?_
          refine gr_bipush dX3_packedLoud_37 (by decide) ?_
          refine gr_imul (v := ((8 * i : Nat) : Int)) dX3_packedLoud_39 (by omega) ?_
          refine gr_ishl (v := ((st * 2 ^ (8 * i) : Nat) : Int)) dX3_packedLoud_40 (ga_shlN (by omega) (by omega)) ?_
          refine gr_ior (v := ((gs_pli st h i ||| st * 2 ^ (8 * i) : Nat) : Int)) dX3_packedLoud_41 (ga_orN _ _) ?_
          refine gr_istore dX3_packedLoud_42 (by decide) ?_
          refine gr_iinc (v := ((i + 1 : Nat) : Int)) dX3_packedLoud_44 (by decide) rfl (by omega) ?_
          refine gr_goto 16 dX3_packedLoud_47 (by decide) ?_
          have e : gs_pli st h (i + 1) = (gs_pli st h i ||| st * 2 ^ (8 * i)) := by simp only [gs_pli]; rw [if_pos (by omega), o1]
          have ih := ih (i + 1) (by omega)
          rw [e] at ih
          exact ih
  exact key 3 0 rfl
theorem c_gapOf {n : Nat} {l : Nat → Nat} {μ : gw_M} (d : Nat) (hn : n ≤ 3) (hl : ∀ i, i < 3 → l i ≤ 100) : gw_Met jX3_gapOf (d + 1) [.inl ((l 0 + 256 * l 1 + 65536 * l 2 : Nat) : Int), .inl (n : Int)] μ (gw_pu (gs_gp (fun i => (l i : Int)) n) μ) := by
  have l0 := hl 0 (by omega)
  have l1 := hl 1 (by omega)
  have l2 := hl 2 (by omega)
  refine gw_enter okX3_gapOf rfl (Nat.le_of_ble_eq_true rfl) ?_
  refine gr_iconst dX3_gapOf_0 ?_
  refine gr_istore_n dX3_gapOf_1 (by decide) ?_
  refine gr_ldc dX3_gapOf_2 nX3_99 ?_
  refine gr_istore_n dX3_gapOf_4 (by decide) ?_
  refine gr_iconst dX3_gapOf_5 ?_
  refine gr_istore dX3_gapOf_6 (by decide) ?_
  have key : ∀ (m i : Nat) (x : Option gw_V), i + m = n → gw_G (gw_Cm jX3_gapOf (d + 1) (gw_pu (gs_gp (fun i => (l i : Int)) n) μ)) jX3_gapOf 8 [some (.inl ((l 0 + 256 * l 1 + 65536 * l 2 : Nat) : Int)), some (.inl (n : Int)), some (.inl (gs_mx (fun i => (l i : Int)) i)), some (.inl (gs_mi (fun i => (l i : Int)) i)), some (.inl (i : Int)), x] [] μ 0 0 := by
    intro m
    induction m with
    | zero =>
      intro i x hi
      have hi : i = n := by omega
      subst hi
      have b1 := gs_mx_in (l := fun i => (l i : Int)) (n := i) (m := 100) (fun k hk => by have := hl k (by omega); omega)
      have b2 := gs_mi_in (l := fun i => (l i : Int)) (n := i) (m := 100) (fun k hk => by have := hl k (by omega); omega)
      unfold gs_NEVER at b2
      refine gr_iload dX3_gapOf_8 rfl ?_
      refine gr_iload_n dX3_gapOf_10 rfl ?_
      refine gr_icmp_ge 47 dX3_gapOf_11 (by decide) (by unfold gw_in; omega) (by unfold gw_in; omega) (fun h11 => ?_) (fun h11 => ?_)
      · refine gr_iload_n dX3_gapOf_47 rfl ?_
        refine gr_if_ne 56 dX3_gapOf_48 (by decide) (by unfold gw_in; omega) (fun h48 => ?_) (fun h48 => ?_)
        · refine gr_iload_n dX3_gapOf_56 rfl ?_
          refine gr_iload_n dX3_gapOf_57 rfl ?_
          refine gr_isub dX3_gapOf_58 rfl ?_
          refine gr_iret dX3_gapOf_59 (by first | exact Or.inl rfl | exact Or.inr ⟨rfl, by omega⟩) (by decide) (by decide) (⟨by unfold gs_gp; rw [if_neg h48], rfl⟩)
        · refine gr_ldc dX3_gapOf_51 nX3_99 ?_
          refine gr_goto 59 dX3_gapOf_53 (by decide) ?_
          refine gr_iret dX3_gapOf_59 (by first | exact Or.inl rfl | exact Or.inr ⟨rfl, by omega⟩) (by decide) (by decide) (⟨by unfold gs_gp; rw [if_pos h48], rfl⟩)
      · omega
    | succ m ih =>
      intro i x hi
      have b1 := gs_mx_in (l := fun i => (l i : Int)) (n := i) (m := 100) (fun k hk => by have := hl k (by omega); omega)
      have b2 := gs_mi_in (l := fun i => (l i : Int)) (n := i) (m := 100) (fun k hk => by have := hl k (by omega); omega)
      unfold gs_NEVER at b2
      have hli := hl i (by omega)
      have e : (l 0 + 256 * l 1 + 65536 * l 2) / 2 ^ (8 * i) % 256 = l i := by
        rcases (show i = 0 ∨ i = 1 ∨ i = 2 by omega) with rfl | rfl | rfl
        · simp only [Nat.mul_zero, Nat.pow_zero, Nat.div_one]; omega
        · simp only [Nat.mul_one, show 2 ^ 8 = 256 from rfl]; omega
        · simp only [show 8 * 2 = 16 from rfl, show 2 ^ 16 = 65536 from rfl]; omega
      refine gr_iload dX3_gapOf_8 rfl ?_
      refine gr_iload_n dX3_gapOf_10 rfl ?_
      refine gr_icmp_ge 47 dX3_gapOf_11 (by decide) (by unfold gw_in; omega) (by unfold gw_in; omega) (fun h11 => ?_) (fun h11 => ?_)
      · omega
      · refine gr_iload_n dX3_gapOf_14 rfl ?_
        refine gr_iload dX3_gapOf_15 rfl ?_
        refine gr_bipush dX3_gapOf_17 (by decide) ?_
        refine gr_imul (v := ((8 * i : Nat) : Int)) dX3_gapOf_19 (by omega) ?_
        refine gr_ishr (v := (((l 0 + 256 * l 1 + 65536 * l 2) / 2 ^ (8 * i) : Nat) : Int)) dX3_gapOf_20 (ga_shrN (by omega) (by omega)) ?_
        refine gr_sipush dX3_gapOf_21 (by decide) ?_
        refine gr_iand (v := ((l i : Nat) : Int)) dX3_gapOf_24 (by rw [ga_and255N, e]) ?_
        refine gr_istore dX3_gapOf_25 (by decide) ?_
        refine gr_iload_n dX3_gapOf_27 rfl ?_
        refine gr_iload dX3_gapOf_28 rfl ?_
        refine gr_mmax dX3_gapOf_30 mX3_100 mm_max1 mm_ini mm_max2 (gw_Rm_1 (by omega) (by decide) (by decide)) (by unfold gw_in; omega) (by unfold gw_in; omega) (Nat.le_of_ble_eq_true rfl) ?_
        refine gr_istore_n dX3_gapOf_33 (by decide) ?_
        refine gr_iload_n dX3_gapOf_34 rfl ?_
        refine gr_iload dX3_gapOf_35 rfl ?_
        refine gr_mmin dX3_gapOf_37 mX3_73 mm_min1 mm_ini mm_min2 (gw_Rm_1 (by omega) (by decide) (by decide)) (by unfold gw_in; omega) (by unfold gw_in; omega) (Nat.le_of_ble_eq_true rfl) ?_
        refine gr_istore_n dX3_gapOf_40 (by decide) ?_
        refine gr_iinc (v := ((i + 1 : Nat) : Int)) dX3_gapOf_41 (by decide) rfl (by omega) ?_
        refine gr_goto 8 dX3_gapOf_44 (by decide) ?_
        exact ih (i + 1) (some (.inl (l i : Int))) (by omega)
  exact key n 0 none (by omega)
theorem c_widen {q m y : Nat} (d : Nat) (hF : gq_K F) (hq : gw_sh q = (10, 784)) (hqn : q < 114) (hy : 0 < y) (hy7 : y ≤ 7) (hmy : m * y ≤ 784) : gw_Met jX3_widen d [.inr (some 12), .inr (some q), .inl (m : Int), .inl (y : Int)] (114, I, F) (gw_io F (fun r I' => r = ((m * y : Nat) : Int) ∧ ∀ a t, I' a t = if a = q ∧ t < m * y then I q (t / y) + I 65 (t % y) else I a t)) := by
  obtain ⟨f0, f1, f3, f4, f5, f6, f7, f8, f9, f10, f11, f21, f55, fb, fp⟩ := hF
  have h65 : q ≠ 65 := by
    intro h
    rw [h] at hq
    cases hq
  refine gw_enter okX3_widen rfl (Nat.le_of_ble_eq_true rfl) ?_
  refine gr_iload_n dX3_widen_0 rfl ?_
  refine gr_iconst dX3_widen_1 ?_
  refine gr_isub dX3_widen_2 rfl ?_
  refine gr_istore dX3_widen_3 (by decide) ?_
  have key : ∀ (s : Nat) (I2 : Nat → Nat → Int) (x5 x6 : Option gw_V), s ≤ m → (∀ a t, I2 a t = if a = q ∧ s * y ≤ t ∧ t < m * y then I q (t / y) + I 65 (t % y) else I a t) → gw_G (gw_Cm jX3_widen d (gw_io F (fun r I' => r = ((m * y : Nat) : Int) ∧ ∀ a t, I' a t = if a = q ∧ t < m * y then I q (t / y) + I 65 (t % y) else I a t))) jX3_widen 5 [some (.inr (some 12)), some (.inr (some q)), some (.inl (m : Int)), some (.inl (y : Int)), some (.inl ((s : Int) - 1)), x5, x6] [] (114, I2, F) 0 0 := by
    intro s
    induction s with
    | zero =>
      intro I2 x5 x6 hs hI
      refine gr_iload dX3_widen_5 rfl ?_
      refine gr_if_lt 57 dX3_widen_7 (by decide) (by unfold gw_in; omega) (fun h7 => ?_) (fun h7 => ?_)
      · refine gr_iload_n dX3_widen_57 rfl ?_
        refine gr_iload_n dX3_widen_58 rfl ?_
        refine gr_imul (v := ((m * y : Nat) : Int)) dX3_widen_59 (by rw [Int.natCast_mul]) ?_
        refine gr_iret dX3_widen_60 (by first | exact Or.inl rfl | exact Or.inr ⟨rfl, by omega⟩) (by decide) (by decide) (⟨_, _, rfl, rfl, rfl, fun a t => by rw [hI]; simp only [Nat.zero_mul, Nat.zero_le, true_and]⟩)
      · omega
    | succ s ih =>
      intro I2 x5 x6 hs hI
      have hsy : (s + 1) * y = s * y + y := by rw [Nat.add_mul, Nat.one_mul]
      have hsm : (s + 1) * y ≤ m * y := Nat.mul_le_mul_right y hs
      have hss : s ≤ s * y := Nat.le_mul_of_pos_right s hy
      have hs7 : s < 784 := by omega
      have e1 : ((s + 1 : Nat) : Int) - 1 = (s : Int) := by omega
      rw [e1]
      refine gr_iload dX3_widen_5 rfl ?_
      refine gr_if_lt 57 dX3_widen_7 (by decide) (by unfold gw_in; omega) (fun h7 => ?_) (fun h7 => ?_)
      · omega
      · refine gr_aload_n dX3_widen_10 rfl ?_
        refine gr_iload dX3_widen_11 rfl ?_
        refine gr_iald (i := s) dX3_widen_13 (by first | assumption | rfl) (by omega) (by omega) (by omega) (by decide) ?_
        refine gr_istore dX3_widen_14 (by decide) ?_
        refine gr_iload_n dX3_widen_16 rfl ?_
        refine gr_iconst dX3_widen_17 ?_
        refine gr_isub dX3_widen_18 rfl ?_
        refine gr_istore dX3_widen_19 (by decide) ?_
        have hsum : I2 q s = I q s := by
          rw [hI, if_neg (by omega)]
        rw [hsum]
        have inner : ∀ (n : Nat) (I3 : Nat → Nat → Int), n ≤ y → (∀ a t, I3 a t = if a = q ∧ s * y + n ≤ t ∧ t < m * y then I q (t / y) + I 65 (t % y) else I a t) → gw_G (gw_Cm jX3_widen d (gw_io F (fun r I' => r = ((m * y : Nat) : Int) ∧ ∀ a t, I' a t = if a = q ∧ t < m * y then I q (t / y) + I 65 (t % y) else I a t))) jX3_widen 21 [some (.inr (some 12)), some (.inr (some q)), some (.inl (m : Int)), some (.inl (y : Int)), some (.inl (s : Int)), some (.inl (I q s)), some (.inl ((n : Int) - 1))] [] (114, I3, F) 0 0 := by
          intro n
          induction n with
          | zero =>
            intro I3 hn hI3
            refine gr_iload dX3_widen_21 rfl ?_
            refine gr_if_lt 51 dX3_widen_23 (by decide) (by unfold gw_in; omega) (fun h23 => ?_) (fun h23 => ?_)
            · refine gr_iinc (v := ((s : Int) - 1)) dX3_widen_51 (by decide) rfl (by omega) ?_
              refine gr_goto 5 dX3_widen_54 (by decide) ?_
              exact ih I3 _ _ (by omega) hI3
            · omega
          | succ n ihn =>
            intro I3 hn hI3
            have e2 : ((n + 1 : Nat) : Int) - 1 = (n : Int) := by omega
            rw [e2]
            refine gr_iload dX3_widen_21 rfl ?_
            refine gr_if_lt 51 dX3_widen_23 (by decide) (by unfold gw_in; omega) (fun h23 => ?_) (fun h23 => ?_)
            · omega
            · have hadd : I3 65 n = I 65 n := by rw [hI3, if_neg (by omega)]
              refine gr_aload_n dX3_widen_26 rfl ?_
              refine gr_iload dX3_widen_27 rfl ?_
              refine gr_iload_n dX3_widen_29 rfl ?_
              refine gr_imul (v := ((s * y : Nat) : Int)) dX3_widen_30 (by rw [Int.natCast_mul]) ?_
              refine gr_iload dX3_widen_31 rfl ?_
              refine gr_iadd dX3_widen_33 rfl ?_
              refine gr_iload dX3_widen_34 rfl ?_
              refine gr_aload_n dX3_widen_36 rfl ?_
              refine gr_getR dX3_widen_37 fX3_44 (by first | assumption | rfl) (by omega) (by decide) rfl (by assumption) ?_
              refine gr_iload dX3_widen_40 rfl ?_
              refine gr_iald (i := n) dX3_widen_42 (by first | assumption | rfl) (by omega) (by omega) (by omega) (by decide) ?_
              rw [hadd]
              refine gr_iadd dX3_widen_43 rfl ?_
              refine gr_iast (i := s * y + n) dX3_widen_44 (by first | assumption | rfl) (by omega) (by omega) (by omega) (by decide) ?_
              refine gr_iinc (v := ((n : Int) - 1)) dX3_widen_45 (by decide) rfl (by omega) ?_
              refine gr_goto 21 dX3_widen_48 (by decide) ?_
              refine ihn _ (by omega) (fun a t => ?_)
              have d1 : (s * y + n) / y = s := by
                rw [Nat.mul_comm, Nat.mul_add_div hy, Nat.div_eq_of_lt (by omega), Nat.add_zero]
              have d2 : (s * y + n) % y = n := by
                rw [Nat.mul_comm, Nat.mul_add_mod, Nat.mod_eq_of_lt (by omega)]
              unfold gw_U
              rw [hI3]
              by_cases ht : a = q ∧ t = s * y + n
              · rw [if_pos ht, if_pos ⟨ht.1, by omega, by omega⟩, ht.2, d1, d2]
              · rw [if_neg ht]
                grind
        refine inner y I2 (Nat.le_refl _) (fun a t => ?_)
        rw [hI, hsy]
  exact key m I _ _ (Nat.le_refl _) (fun a t => by rw [if_neg (by omega)])
end GQ
