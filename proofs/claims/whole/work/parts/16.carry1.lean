/-! Search: moves from chord to chord; fill, lower, carryPlayer -/
/-- the MOVE of player p between hand h in chord c and hand h' in chord c'; NEVER: a bell can't -/
def gs_way (B : Nat → Nat → Int) (N : Nat → Int) (rest : Int) (p c h c' h' : Nat) : Int := if h = 0 ∨ h' = 0 then (if h = h' then 0 else rest) else if gp_lo N c h = gp_lo N c' h' ∧ B 1 p = 2 then gs_NEVER else (if 0 ≤ gp_lo N c h - gp_lo N c' h' then gp_lo N c h - gp_lo N c' h' else 0 - (gp_lo N c h - gp_lo N c' h')) + (if gb_pc h = gb_pc h' then 0 else 2)
theorem gs_way_in {B : Nat → Nat → Int} {N : Nat → Int} {rest : Int} {p c h c' h' : Nat} (hN : gp_N N) (hc : c < 8) (hc' : c' < 8) (hr : 0 ≤ rest ∧ rest ≤ 20) : 0 ≤ gs_way B N rest p c h c' h' ∧ (gs_way B N rest p c h c' h' ≤ 63 ∨ gs_way B N rest p c h c' h' = gs_NEVER) := by
  have h1 := gp_lo_in (h := h) hN hc
  have h2 := gp_lo_in (h := h') hN hc'
  unfold gs_way gs_NEVER
  grind
theorem gs_way_comm {B : Nat → Nat → Int} {N : Nat → Int} {rest : Int} {p c h c' h' : Nat} : gs_way B N rest p c h c' h' = gs_way B N rest p c' h' c h := by
  unfold gs_way
  grind
/-- the least of g x over those x < n by which w x is no NEVER; NEVER: none -/
def gs_low (w g : Nat → Int) : Nat → Int
  | 0 => gs_NEVER
  | n + 1 => if w n < gs_NEVER ∧ g n < gs_low w g n then g n else gs_low w g n
theorem gs_low_le {w g : Nat → Int} {b : Int} : ∀ n, gs_low w g n ≤ b ↔ (gs_NEVER ≤ b ∨ ∃ x, x < n ∧ w x < gs_NEVER ∧ g x ≤ b)
  | 0 => by simp [gs_low]
  | n + 1 => by
    have ih := gs_low_le (w := w) (g := g) (b := b) n
    simp only [gs_low]
    constructor
    · intro h
      split at h
      · rename_i h2
        exact Or.inr ⟨n, by omega, h2.1, h⟩
      · rcases ih.mp h with h3 | ⟨x, h3, h4, h5⟩
        · exact Or.inl h3
        · exact Or.inr ⟨x, by omega, h4, h5⟩
    · intro h
      split
      · rename_i h2
        rcases h with h3 | ⟨x, h3, h4, h5⟩
        · have := ih.mpr (Or.inl h3); omega
        · by_cases hx : x = n
          · rw [← hx]; exact h5
          · have := ih.mpr (Or.inr ⟨x, by omega, h4, h5⟩); omega
      · rename_i h2
        rcases h with h3 | ⟨x, h3, h4, h5⟩
        · exact ih.mpr (Or.inl h3)
        · by_cases hx : x = n
          · subst hx
            have : ¬ g x < gs_low w g x := fun q => h2 ⟨h4, q⟩
            omega
          · exact ih.mpr (Or.inr ⟨x, by omega, h4, h5⟩)
theorem gs_low_in {w g : Nat → Int} : ∀ n, (∀ x, x < n → w x < gs_NEVER → 0 ≤ g x) → 0 ≤ gs_low w g n ∧ gs_low w g n ≤ gs_NEVER
  | 0, _ => by simp [gs_low, gs_NEVER]
  | n + 1, h => by
    have ih := gs_low_in n (fun x hx hw => h x (by omega) hw)
    simp only [gs_low]
    split
    · rename_i h2
      have := h n (by omega) h2.1
      omega
    · exact ih
/-- where the search's things lie, row at r and spare at s -/
def gq_Kr (F : Nat → Nat → Option Nat) (r s : Nat) : Prop := F 12 0 = some 13 ∧ F 12 1 = some 19 ∧ F 12 3 = some 21 ∧ F 12 4 = some 54 ∧ F 12 8 = some r ∧ F 12 9 = some s ∧ (∀ i, i < 32 → F 21 i = some (22 + i)) ∧ gb_K F 13 ∧ gp_K F 19 ∧ (r = 66 ∧ s = 67 ∨ r = 67 ∧ s = 66)
section GQ
variable {I : Nat → Nat → Int} {F : Nat → Nat → Option Nat} {r s : Nat}
theorem c_way {p c h c' h' : Nat} (d : Nat) (hF : gq_Kr F r s) (hM : gq_M I) (hp : p < 4) (hc : c < 8) (hc' : c' < 8) (hh : h < 8) (hh' : h' < 8) : gw_Met jX3_way (d + 2) [.inr (some 12), .inl (p : Int), .inl (c : Int), .inl (h : Int), .inl (c' : Int), .inl (h' : Int)] (114, I, F) (gw_pu (gs_way (gq_B I) (I 20) (I 19 2) p c h c' h') (114, I, F)) := by
  obtain ⟨f0, f1, f3, f4, f8, f9, f21, fb, fp, hrs⟩ := hF
  obtain ⟨hB, hN, ⟨hP0, hP4⟩, ⟨hS0, hS8⟩, hrest, hbal, hbw⟩ := id hM
  obtain ⟨fb0, fb1, fb2, fb3, fb4, fb5, fbn, fg1, fg2, fg3, fg4, fg5⟩ := id fb
  have hBp := hB p hp
  have h1 := gp_lo_in (h := h) hN hc
  have h2 := gp_lo_in (h := h') hN hc'
  obtain ⟨p3, ph⟩ := gb_pc8 h hh
  obtain ⟨p3', ph'⟩ := gb_pc8 h' hh'
  refine gw_enter okX3_way rfl (Nat.le_of_ble_eq_true rfl) ?_
  have zero : (h = 0 ∨ h' = 0) → gw_G (gw_Cm jX3_way (d + 2) (gw_pu (gs_way (gq_B I) (I 20) (I 19 2) p c h c' h') (114, I, F))) jX3_way 9 [some (.inr (some 12)), some (.inl (p : Int)), some (.inl (c : Int)), some (.inl (h : Int)), some (.inl (c' : Int)), some (.inl (h' : Int)), none] [] (114, I, F) 0 0 := by
    intro hz
    refine gr_iload_n dX3_way_9 rfl ?_
    refine gr_iload dX3_way_10 rfl ?_
    refine gr_icmp_ne 19 dX3_way_12 (by decide) (by unfold gw_in; omega) (by unfold gw_in; omega) (fun h12 => ?_) (fun h12 => ?_)
    · refine gr_aload_n dX3_way_19 rfl ?_
      refine gr_getR dX3_way_20 fX3_21 (by first | assumption | rfl) (by omega) (by decide) rfl (by assumption) ?_
      refine gr_getI dX3_way_23 fX3_103 (by first | assumption | rfl) (by omega) (by decide) rfl ?_
      refine gr_iret dX3_way_26 (by first | exact Or.inl rfl | exact Or.inr ⟨rfl, by omega⟩) (by decide) (by decide) (⟨by unfold gs_way; rw [if_pos hz, if_neg (by omega)], rfl⟩)
    · refine gr_iconst dX3_way_15 ?_
      refine gr_goto 26 dX3_way_16 (by decide) ?_
      refine gr_iret dX3_way_26 (by first | exact Or.inl rfl | exact Or.inr ⟨rfl, by omega⟩) (by decide) (by decide) (⟨by unfold gs_way; rw [if_pos hz, if_pos (by omega)], rfl⟩)
  refine gr_iload_n dX3_way_0 rfl ?_
  refine gr_if_eq 9 dX3_way_1 (by decide) (by unfold gw_in; omega) (fun h1z => ?_) (fun h1z => ?_)
  · exact zero (Or.inl (by omega))
  · refine gr_iload dX3_way_4 rfl ?_
    refine gr_if_ne 27 dX3_way_6 (by decide) (by unfold gw_in; omega) (fun h6z => ?_) (fun h6z => ?_)
    · have hz : ¬ (h = 0 ∨ h' = 0) := by omega
      refine gr_aload_n dX3_way_27 rfl ?_
      refine gr_getR dX3_way_28 fX3_21 (by first | assumption | rfl) (by omega) (by decide) rfl (by assumption) ?_
      refine gr_iload_n dX3_way_31 rfl ?_
      refine gr_iload_n dX3_way_32 rfl ?_
      refine gr_virt dX3_way_33 kX3_106 (as := [_, _]) rfl rfl (by first | assumption | rfl) (by omega) (Nat.le_of_ble_eq_true rfl) (gw_Rm_m (by omega) (by decide) (by decide)) (c_lowestOf (c := c) (h := h) d fp hc hh) ?_
      rintro _ _ ⟨rfl, rfl⟩
      refine gr_aload_n dX3_way_36 rfl ?_
      refine gr_getR dX3_way_37 fX3_21 (by first | assumption | rfl) (by omega) (by decide) rfl (by assumption) ?_
      refine gr_iload dX3_way_40 rfl ?_
      refine gr_iload dX3_way_42 rfl ?_
      refine gr_virt dX3_way_44 kX3_106 (as := [_, _]) rfl rfl (by first | assumption | rfl) (by omega) (Nat.le_of_ble_eq_true rfl) (gw_Rm_m (by omega) (by decide) (by decide)) (c_lowestOf (c := c') (h := h') d fp hc' hh') ?_
      rintro _ _ ⟨rfl, rfl⟩
      rw [show I (19 + 1) = I 20 from rfl]
      refine gr_isub dX3_way_47 rfl ?_
      refine gr_mabs dX3_way_48 mX3_109 mm_abs1 mm_ini mm_abs2 (gw_Rm_1 (by omega) (by decide) (by decide)) (by unfold gw_in; omega) (Nat.le_of_ble_eq_true rfl) ?_
      generalize ex : (if 0 ≤ gp_lo (I 20) c h - gp_lo (I 20) c' h' then gp_lo (I 20) c h - gp_lo (I 20) c' h' else 0 - (gp_lo (I 20) c h - gp_lo (I 20) c' h')) = x
      have hx : 0 ≤ x ∧ x ≤ 61 ∧ (x = 0 ↔ gp_lo (I 20) c h = gp_lo (I 20) c' h') := by split at ex <;> omega
      refine gr_istore dX3_way_51 (by decide) ?_
      refine gr_iload dX3_way_53 rfl ?_
      have last : ¬ (gp_lo (I 20) c h = gp_lo (I 20) c' h' ∧ I 14 p = 2) → gw_G (gw_Cm jX3_way (d + 2) (gw_pu (gs_way (gq_B I) (I 20) (I 19 2) p c h c' h') (114, I, F))) jX3_way 74 [some (.inr (some 12)), some (.inl (p : Int)), some (.inl (c : Int)), some (.inl (h : Int)), some (.inl (c' : Int)), some (.inl (h' : Int)), some (.inl x)] [] (114, I, F) 0 0 := by
        intro hn
        refine gr_iload_n dX3_way_74 rfl ?_
        refine gr_stat dX3_way_75 kX3_115 (as := [_]) rfl rfl (Nat.le_of_ble_eq_true rfl) (gw_Rm_m (by omega) (by decide) (by decide)) (c_bitCount (n := h) (d + 1) (by omega)) ?_
        rintro _ _ ⟨rfl, rfl⟩
        refine gr_iload dX3_way_78 rfl ?_
        refine gr_stat dX3_way_80 kX3_115 (as := [_]) rfl rfl (Nat.le_of_ble_eq_true rfl) (gw_Rm_m (by omega) (by decide) (by decide)) (c_bitCount (n := h') (d + 1) (by omega)) ?_
        rintro _ _ ⟨rfl, rfl⟩
        refine gr_icmp_ne 91 dX3_way_83 (by decide) (by unfold gw_in; omega) (by unfold gw_in; omega) (fun h83 => ?_) (fun h83 => ?_)
        · refine gr_iload dX3_way_91 rfl ?_
          refine gr_iconst dX3_way_93 ?_
          refine gr_iadd dX3_way_94 rfl ?_
          refine gr_iret dX3_way_95 (by first | exact Or.inl rfl | exact Or.inr ⟨rfl, by omega⟩) (by decide) (by decide) (⟨by unfold gs_way; rw [if_neg hz, if_neg hn, ex, if_neg (by omega)], rfl⟩)
        · refine gr_iload dX3_way_86 rfl ?_
          refine gr_goto 95 dX3_way_88 (by decide) ?_
          refine gr_iret dX3_way_95 (by first | exact Or.inl rfl | exact Or.inr ⟨rfl, by omega⟩) (by decide) (by decide) (⟨by unfold gs_way; rw [if_neg hz, if_neg hn, ex, if_pos (by omega), Int.add_zero], rfl⟩)
      refine gr_if_ne 74 dX3_way_55 (by decide) (by unfold gw_in; omega) (fun h55 => ?_) (fun h55 => ?_)
      · exact last (fun h => h55 (hx.2.2.mpr h.1))
      · refine gr_aload_n dX3_way_58 rfl ?_
        refine gr_getR dX3_way_59 fX3_12 (by first | assumption | rfl) (by omega) (by decide) rfl (by assumption) ?_
        refine gr_getR dX3_way_62 fX3_112 (by first | assumption | rfl) (by omega) (by decide) rfl (by assumption) ?_
        refine gr_iload_n dX3_way_65 rfl ?_
        refine gr_iald (i := p) dX3_way_66 (by first | assumption | rfl) (by omega) (by omega) (by omega) (by decide) ?_
        refine gr_iconst dX3_way_67 ?_
        refine gr_icmp_ne 74 dX3_way_68 (by decide) (by unfold gw_in; omega) (by unfold gw_in; omega) (fun h68 => ?_) (fun h68 => ?_)
        · exact last (fun h => h68 h.2)
        · refine gr_ldc dX3_way_71 nX3_99 ?_
          refine gr_iret dX3_way_73 (by first | exact Or.inl rfl | exact Or.inr ⟨rfl, by omega⟩) (by decide) (by decide) (⟨by unfold gs_way; rw [if_neg hz, if_pos ⟨hx.2.2.mp h55, h68⟩], rfl⟩)
    · exact zero (Or.inr (by omega))
theorem c_fill {q m : Nat} {v : Int} (d : Nat) (hq : gw_sh q = (10, 784)) (hqn : q < 114) (hm : m ≤ 784) : gw_Met jX3_fill d [.inr (some q), .inl (m : Int), .inl v] (114, I, F) (gw_vo F (fun I' => ∀ a t, I' a t = if a = q ∧ t < m then v else I a t)) := by
  refine gw_enter okX3_fill rfl (Nat.le_of_ble_eq_true rfl) ?_
  refine gr_iconst dX3_fill_0 ?_
  refine gr_istore_n dX3_fill_1 (by decide) ?_
  have key : ∀ (n t : Nat) (I2 : Nat → Nat → Int), t + n = m → (∀ a i, I2 a i = if a = q ∧ i < t then v else I a i) → gw_G (gw_Cm jX3_fill d (gw_vo F (fun I' => ∀ a t, I' a t = if a = q ∧ t < m then v else I a t))) jX3_fill 2 [some (.inr (some q)), some (.inl (m : Int)), some (.inl v), some (.inl (t : Int))] [] (114, I2, F) 0 0 := by
    intro n
    induction n with
    | zero =>
      intro t I2 ht hI
      have ht : t = m := by omega
      subst ht
      refine gr_iload_n dX3_fill_2 rfl ?_
      refine gr_iload_n dX3_fill_3 rfl ?_
      refine gr_icmp_ge 17 dX3_fill_4 (by decide) (by unfold gw_in; omega) (by unfold gw_in; omega) (fun h4 => ?_) (fun h4 => ?_)
      · refine gr_vret dX3_fill_17 rfl (by decide) (by decide) (⟨rfl, _, rfl, hI⟩)
      · omega
    | succ n ih =>
      intro t I2 ht hI
      refine gr_iload_n dX3_fill_2 rfl ?_
      refine gr_iload_n dX3_fill_3 rfl ?_
      refine gr_icmp_ge 17 dX3_fill_4 (by decide) (by unfold gw_in; omega) (by unfold gw_in; omega) (fun h4 => ?_) (fun h4 => ?_)
      · omega
      · refine gr_aload_n dX3_fill_7 rfl ?_
        refine gr_iload_n dX3_fill_8 rfl ?_
        refine gr_iload_n dX3_fill_9 rfl ?_
        refine gr_iast (i := t) dX3_fill_10 (by first | assumption | rfl) (by omega) (by omega) (by omega) (by decide) ?_
        refine gr_iinc (v := ((t + 1 : Nat) : Int)) dX3_fill_11 (by decide) rfl (by omega) ?_
        refine gr_goto 2 dX3_fill_14 (by decide) ?_
        exact ih (t + 1) _ (by omega) (fun a i => by unfold gw_U; grind)
  exact key m 0 I (by omega) (fun a i => by rw [if_neg (by omega)])
theorem c_lower {first len x many : Nat} {step : Int} (d : Nat) (hF : gq_Kr F r s) (hs : 0 ≤ step ∧ step ≤ gs_NEVER) (he : first + len ≤ 784) (hr1 : ∀ i, i < len → x + i * many < 784 ∧ 0 ≤ I r (x + i * many) ∧ I r (x + i * many) ≤ gs_NEVER) (hs1 : ∀ t, first ≤ t → t < first + len → 0 ≤ I s t ∧ I s t ≤ gs_NEVER) : gw_Met jX3_lower d [.inr (some 12), .inl (first : Int), .inl ((first + len : Nat) : Int), .inl (x : Int), .inl (many : Int), .inl step] (114, I, F) (gw_vo F (fun I' => ∀ a t, I' a t = if a = s ∧ first ≤ t ∧ t < first + len ∧ I r (x + (t - first) * many) + step < I s t then I r (x + (t - first) * many) + step else I a t)) := by
  obtain ⟨f0, f1, f3, f4, f8, f9, f21, fb, fp, hrs⟩ := hF
  have hr : gw_sh r = (10, 784) := by rcases hrs with ⟨h, -⟩ | ⟨h, -⟩ <;> rw [h] <;> rfl
  have hsh : gw_sh s = (10, 784) := by rcases hrs with ⟨-, h⟩ | ⟨-, h⟩ <;> rw [h] <;> rfl
  unfold gs_NEVER at hs hr1 hs1
  refine gw_enter okX3_lower rfl (Nat.le_of_ble_eq_true rfl) ?_
  refine gr_aload_n dX3_lower_0 rfl ?_
  refine gr_getR dX3_lower_1 fX3_47 (by first | assumption | rfl) (by omega) (by decide) rfl (by assumption) ?_
  refine gr_astore dX3_lower_4 (by decide) ?_
  refine gr_aload_n dX3_lower_6 rfl ?_
  refine gr_getR dX3_lower_7 fX3_50 (by first | assumption | rfl) (by omega) (by decide) rfl (by assumption) ?_
  refine gr_astore dX3_lower_10 (by decide) ?_
  refine gr_iload_n dX3_lower_12 rfl ?_
  refine gr_istore dX3_lower_13 (by decide) ?_
  refine gr_iload_n dX3_lower_15 rfl ?_
  refine gr_istore dX3_lower_16 (by decide) ?_
  have key : ∀ (n i : Nat) (I2 : Nat → Nat → Int) (x10 : Option gw_V), i + n = len → (∀ a t, I2 a t = if a = s ∧ first ≤ t ∧ t < first + i ∧ I r (x + (t - first) * many) + step < I s t then I r (x + (t - first) * many) + step else I a t) → gw_G (gw_Cm jX3_lower d (gw_vo F (fun I' => ∀ a t, I' a t = if a = s ∧ first ≤ t ∧ t < first + len ∧ I r (x + (t - first) * many) + step < I s t then I r (x + (t - first) * many) + step else I a t))) jX3_lower 18 [some (.inr (some 12)), some (.inl (first : Int)), some (.inl ((first + len : Nat) : Int)), some (.inl (x : Int)), some (.inl (many : Int)), some (.inl step), some (.inr (some r)), some (.inr (some s)), some (.inl ((x + i * many : Nat) : Int)), some (.inl ((first + i : Nat) : Int)), x10] [] (114, I2, F) 0 0 := by
    intro n
    induction n with
    | zero =>
      intro i I2 x10 hi hI
      have hi : i = len := by omega
      subst hi
      refine gr_iload dX3_lower_18 rfl ?_
      refine gr_iload_n dX3_lower_20 rfl ?_
      refine gr_icmp_ge 64 dX3_lower_21 (by decide) (by unfold gw_in; omega) (by unfold gw_in; omega) (fun h21 => ?_) (fun h21 => ?_)
      · refine gr_vret dX3_lower_64 rfl (by decide) (by decide) (⟨rfl, _, rfl, hI⟩)
      · omega
    | succ n ih =>
      intro i I2 x10 hi hI
      obtain ⟨g1, g2, g3⟩ := hr1 i (by omega)
      obtain ⟨g4, g5⟩ := hs1 (first + i) (by omega) (by omega)
      have e1 : I2 r (x + i * many) = I r (x + i * many) := by
        rw [hI, if_neg (by omega)]
      have e2 : I2 s (first + i) = I s (first + i) := by
        rw [hI, if_neg (by omega)]
      have e3 : (x + i * many : Nat) + many = x + (i + 1) * many := by rw [Nat.add_mul, Nat.one_mul]; omega
      have e4 : first + i - first = i := by omega
      refine gr_iload dX3_lower_18 rfl ?_
      refine gr_iload_n dX3_lower_20 rfl ?_
      refine gr_icmp_ge 64 dX3_lower_21 (by decide) (by unfold gw_in; omega) (by unfold gw_in; omega) (fun h21 => ?_) (fun h21 => ?_)
      · omega
      · refine gr_aload dX3_lower_24 rfl ?_
        refine gr_iload dX3_lower_26 rfl ?_
        refine gr_iald (i := x + i * many) dX3_lower_28 (by first | assumption | rfl) (by omega) (by omega) (by omega) (by decide) ?_
        refine gr_iload dX3_lower_29 rfl ?_
        refine gr_iadd dX3_lower_31 rfl ?_
        refine gr_istore dX3_lower_32 (by decide) ?_
        refine gr_iload dX3_lower_34 rfl ?_
        refine gr_aload dX3_lower_36 rfl ?_
        refine gr_iload dX3_lower_38 rfl ?_
        refine gr_iald (i := first + i) dX3_lower_40 (by first | assumption | rfl) (by omega) (by omega) (by omega) (by decide) ?_
        rw [e1, e2]
        refine gr_icmp_ge 51 dX3_lower_41 (by decide) (by unfold gw_in; omega) (by unfold gw_in; omega) (fun h41 => ?_) (fun h41 => ?_)
        · refine gr_iload dX3_lower_51 rfl ?_
          refine gr_iload dX3_lower_53 rfl ?_
          refine gr_iadd (v := ((x + (i + 1) * many : Nat) : Int)) dX3_lower_55 (by omega) ?_
          refine gr_istore dX3_lower_56 (by decide) ?_
          refine gr_iinc (v := ((first + (i + 1) : Nat) : Int)) dX3_lower_58 (by decide) rfl (by omega) ?_
          refine gr_goto 18 dX3_lower_61 (by decide) ?_
          refine ih (i + 1) _ _ (by omega) (fun a t => ?_)
          rw [hI]
          by_cases ht : a = s ∧ t = first + i
          · rw [if_neg (by omega), if_neg (by rw [ht.2, e4]; omega)]
          · grind
        · refine gr_aload dX3_lower_44 rfl ?_
          refine gr_iload dX3_lower_46 rfl ?_
          refine gr_iload dX3_lower_48 rfl ?_
          refine gr_iast (i := first + i) dX3_lower_50 (by first | assumption | rfl) (by omega) (by omega) (by omega) (by decide) ?_
          refine gr_iload dX3_lower_51 rfl ?_
          refine gr_iload dX3_lower_53 rfl ?_
          refine gr_iadd (v := ((x + (i + 1) * many : Nat) : Int)) dX3_lower_55 (by omega) ?_
          refine gr_istore dX3_lower_56 (by decide) ?_
          refine gr_iinc (v := ((first + (i + 1) : Nat) : Int)) dX3_lower_58 (by decide) rfl (by omega) ?_
          refine gr_goto 18 dX3_lower_61 (by decide) ?_
          refine ih (i + 1) _ _ (by omega) (fun a t => ?_)
          unfold gw_U
          by_cases ht : a = s ∧ t = first + i
          · rw [if_pos ht, if_pos (by rw [ht.2, e4]; omega), ht.2, e4]
          · rw [if_neg ht, hI]
            grind
  have h0 : x + 0 * many = x := by omega
  have r0 := key len 0 I none (by omega) (fun a t => by rw [if_neg (by omega)])
  rw [h0] at r0
  exact r0
end GQ
