/-! Reader: tokens -/
def gx_K (F : Nat → Nat → Option Nat) : Prop := F 1 0 = some 2 ∧ F 1 1 = some 8 ∧ F 1 3 = some 10 ∧ F 1 4 = some 11 ∧ gb_K F 2 ∧ gp_K F 8
/-- the text -/
def gx_T (I : Nat → Nat → Int) (n : Nat) : Prop := I 1 2 = (n : Int) ∧ n ≤ 150 ∧ ∀ i, i < n → 0 ≤ I 10 i ∧ I 10 i ≤ 255
def gx_pos (T : Nat → Int) (n a : Nat) : Nat := if n ≤ a then a else if gt_fig (T a) = true then gt_fe T n a else a + 1
def gx_ntok (T : Nat → Int) (n a : Nat) : Int := if a + 2 < gt_fe T n a ∨ (a + 1 < gt_fe T n a ∧ T a = 48) then -3 else -2
def gx_tok (T : Nat → Int) (n a : Nat) : Int := if n ≤ a then -1 else if gt_fig (T a) = true then gx_ntok T n a else T a
def gx_vl (T : Nat → Int) (n a : Nat) (v : Int) : Int := if n ≤ a then v else if gt_fig (T a) = true then gt_val T a (gt_fe T n a - a) else v
/-- behind next(): the token at a -/
def gx_nx (I I' : Nat → Nat → Int) (n a : Nat) : Prop := ∀ b i, I' b i = if b = 1 ∧ i = 5 then ((gx_pos (I 10) n a : Nat) : Int) else if b = 1 ∧ i = 6 then (a : Int) else if b = 1 ∧ i = 7 then gx_tok (I 10) n a else if b = 1 ∧ i = 8 then gx_vl (I 10) n a (I 1 8) else I b i
section GX
variable {I : Nat → Nat → Int} {F : Nat → Nat → Option Nat} {n : Nat}
theorem c_isWithin {x lo hi : Int} {μ : gw_M} (d : Nat) (hx : gw_in x) (hl : gw_in lo) (hh : gw_in hi) : gw_Met jX4_isWithin d [.inl x, .inl lo, .inl hi] μ (gw_pu (if lo ≤ x ∧ x ≤ hi then 1 else 0) μ) := by
  unfold gw_in at hx hl hh
  refine gw_enter okX4_isWithin rfl (Nat.le_of_ble_eq_true rfl) ?_
  refine gr_iload_n dX4_isWithin_0 rfl ?_
  refine gr_iload_n dX4_isWithin_1 rfl ?_
  refine gr_icmp_lt 14 dX4_isWithin_2 (by decide) (by unfold gw_in; omega) (by unfold gw_in; omega) (fun h2 => ?_) (fun h2 => ?_)
  · refine gr_iconst dX4_isWithin_14 ?_
    refine gr_iret dX4_isWithin_15 (by first | exact Or.inl rfl | exact Or.inr ⟨rfl, by omega⟩) (by decide) (by decide) (⟨by rw [if_neg (by omega)], rfl⟩)
  · refine gr_iload_n dX4_isWithin_5 rfl ?_
    refine gr_iload_n dX4_isWithin_6 rfl ?_
    refine gr_icmp_gt 14 dX4_isWithin_7 (by decide) (by unfold gw_in; omega) (by unfold gw_in; omega) (fun h7 => ?_) (fun h7 => ?_)
    · refine gr_iconst dX4_isWithin_14 ?_
      refine gr_iret dX4_isWithin_15 (by first | exact Or.inl rfl | exact Or.inr ⟨rfl, by omega⟩) (by decide) (by decide) (⟨by rw [if_neg (by omega)], rfl⟩)
    · refine gr_iconst dX4_isWithin_10 ?_
      refine gr_goto 15 dX4_isWithin_11 (by decide) ?_
      refine gr_iret dX4_isWithin_15 (by first | exact Or.inl rfl | exact Or.inr ⟨rfl, by omega⟩) (by decide) (by decide) (⟨by rw [if_pos (by omega)], rfl⟩)
theorem c_isFigure {x : Int} {μ : gw_M} (d : Nat) (hx : 0 ≤ x ∧ x ≤ 255) : gw_Met jX2_isFigure d [.inl x] μ (gw_pu (if gt_fig x = true then 1 else 0) μ) := by
  unfold gt_fig
  simp only [decide_eq_true_eq]
  refine gw_enter okX2_isFigure rfl (Nat.le_of_ble_eq_true rfl) ?_
  refine gr_iload_n dX2_isFigure_0 rfl ?_
  refine gr_bipush dX2_isFigure_1 (by decide) ?_
  refine gr_icmp_lt 16 dX2_isFigure_3 (by decide) (by unfold gw_in; omega) (by unfold gw_in; omega) (fun h3 => ?_) (fun h3 => ?_)
  · refine gr_iconst dX2_isFigure_16 ?_
    refine gr_iret dX2_isFigure_17 (by first | exact Or.inl rfl | exact Or.inr ⟨rfl, by omega⟩) (by decide) (by decide) (⟨by rw [if_neg (by omega)], rfl⟩)
  · refine gr_iload_n dX2_isFigure_6 rfl ?_
    refine gr_bipush dX2_isFigure_7 (by decide) ?_
    refine gr_icmp_gt 16 dX2_isFigure_9 (by decide) (by unfold gw_in; omega) (by unfold gw_in; omega) (fun h9 => ?_) (fun h9 => ?_)
    · refine gr_iconst dX2_isFigure_16 ?_
      refine gr_iret dX2_isFigure_17 (by first | exact Or.inl rfl | exact Or.inr ⟨rfl, by omega⟩) (by decide) (by decide) (⟨by rw [if_neg (by omega)], rfl⟩)
    · refine gr_iconst dX2_isFigure_12 ?_
      refine gr_goto 17 dX2_isFigure_13 (by decide) ?_
      refine gr_iret dX2_isFigure_17 (by first | exact Or.inl rfl | exact Or.inr ⟨rfl, by omega⟩) (by decide) (by decide) (⟨by rw [if_pos (by omega)], rfl⟩)
theorem c_nextNumber {a : Nat} (d : Nat) (hF : gx_K F) (hT : gx_T I n) (ha : a < n) (hat : I 1 5 = (a : Int)) (hst : I 1 6 = (a : Int)) (hfig : gt_fig (I 10 a) = true) : gw_Met jX2_nextNumber (d + 1) [.inr (some 1)] (114, I, F) (gw_vo F (fun I' => ∀ b i, I' b i = if b = 1 ∧ i = 5 then ((gt_fe (I 10) n a : Nat) : Int) else if b = 1 ∧ i = 7 then gx_ntok (I 10) n a else if b = 1 ∧ i = 8 then gt_val (I 10) a (gt_fe (I 10) n a - a) else I b i)) := by
  obtain ⟨f0, f1, f3, f4, fb, fp⟩ := hF
  obtain ⟨hn, hn150, hle⟩ := hT
  have hfe := gt_fe_in (T := I 10) (n := n) (a := a) (by omega)
  have hsh1 : gw_sh 1 = (2, 10) := rfl
  have hsh10 : gw_sh 10 = (10, 150) := rfl
  generalize hQ : gw_vo F (fun I' => ∀ b i, I' b i = if b = 1 ∧ i = 5 then ((gt_fe (I 10) n a : Nat) : Int) else if b = 1 ∧ i = 7 then gx_ntok (I 10) n a else if b = 1 ∧ i = 8 then gt_val (I 10) a (gt_fe (I 10) n a - a) else I b i) = Q
  refine gw_enter okX2_nextNumber rfl (Nat.le_of_ble_eq_true rfl) ?_
  refine gr_aload_n dX2_nextNumber_0 rfl ?_
  refine gr_iconst dX2_nextNumber_1 ?_
  refine gr_putI dX2_nextNumber_2 fX2_45 (by first | assumption | rfl) (by omega) (Or.inl rfl) rfl ?_
  have key : ∀ (m e : Nat) (I2 : Nat → Nat → Int), e + m = gt_fe (I 10) n a → a ≤ e → (∀ b i, I2 b i = if b = 1 ∧ i = 5 then (e : Int) else if b = 1 ∧ i = 8 then gt_val (I 10) a (e - a) else I b i) → gw_G (gw_Cm jX2_nextNumber (d + 1) Q) jX2_nextNumber 5 [some (.inr (some 1)), none, none] [] (114, I2, F) 0 0 := by
    intro m
    induction m with
    | zero =>
      intro e I2 he hae hI
      have i5 : I2 1 5 = (e : Int) := by rw [hI]; simp
      have i2 : I2 1 2 = (n : Int) := by rw [hI]; simp; exact hn
      have i6 : I2 1 6 = (a : Int) := by rw [hI]; simp; exact hst
      have i10 : ∀ i, I2 10 i = I 10 i := fun i => by rw [hI]; simp
      -- behind the figures
      have fin : gw_G (gw_Cm jX2_nextNumber (d + 1) Q) jX2_nextNumber 88 [some (.inr (some 1)), none, none] [] (114, I2, F) 0 0 := by
        have ha0 := hle a ha
        refine gr_aload_n dX2_nextNumber_88 rfl ?_
        refine gr_getI dX2_nextNumber_89 fX2_36 (by first | assumption | rfl) (by omega) (by decide) rfl ?_
        rw [i5]
        refine gr_aload_n dX2_nextNumber_92 rfl ?_
        refine gr_getI dX2_nextNumber_93 fX2_39 (by first | assumption | rfl) (by omega) (by decide) rfl ?_
        rw [i6]
        refine gr_isub (v := ((e - a : Nat) : Int)) dX2_nextNumber_96 (by omega) ?_
        refine gr_istore_n dX2_nextNumber_97 (by decide) ?_
        refine gr_iload_n dX2_nextNumber_98 rfl ?_
        refine gr_iconst dX2_nextNumber_99 ?_
        have last : ∀ z : Int, (z = if a + 1 < e ∧ I 10 a = 48 then 1 else 0) → gw_G (gw_Cm jX2_nextNumber (d + 1) Q) jX2_nextNumber 122 [some (.inr (some 1)), some (.inl ((e - a : Nat) : Int)), none] [.inl z] (114, I2, F) 0 0 := by
          intro z hz
          have hz2 : z = 0 ∨ z = 1 := by split at hz <;> omega
          have st : ∀ t : Int, t = gx_ntok (I 10) n a → gw_G (gw_Cm jX2_nextNumber (d + 1) Q) jX2_nextNumber 140 [some (.inr (some 1)), some (.inl ((e - a : Nat) : Int)), some (.inl z)] [.inl t, .inr (some 1)] (114, I2, F) 0 0 := by
            intro t ht
            refine gr_putI dX2_nextNumber_140 fX2_42 (by first | assumption | rfl) (by omega) (Or.inl rfl) rfl ?_
            refine gr_vret dX2_nextNumber_143 rfl (by decide) (by decide) ((by rw [← hQ]; exact ⟨rfl, _, rfl, fun b i => by unfold gw_U; rw [hI, ht, show e = gt_fe (I 10) n a by omega]; grind⟩))
          refine gr_istore_n dX2_nextNumber_122 (by decide) ?_
          refine gr_aload_n dX2_nextNumber_123 rfl ?_
          refine gr_iload_n dX2_nextNumber_124 rfl ?_
          refine gr_iconst dX2_nextNumber_125 ?_
          refine gr_icmp_gt 133 dX2_nextNumber_126 (by decide) (by unfold gw_in; omega) (by unfold gw_in; omega) (fun h126 => ?_) (fun h126 => ?_)
          · refine gr_bipush dX2_nextNumber_133 (by decide) ?_
            refine gr_goto 140 dX2_nextNumber_135 (by decide) ?_
            exact st _ (by unfold gx_ntok; rw [if_pos (by omega)])
          · refine gr_iload_n dX2_nextNumber_129 rfl ?_
            refine gr_if_eq 138 dX2_nextNumber_130 (by decide) (by unfold gw_in; omega) (fun h130 => ?_) (fun h130 => ?_)
            · refine gr_bipush dX2_nextNumber_138 (by decide) ?_
              exact st _ (by unfold gx_ntok; rw [if_neg (by split at hz <;> omega)])
            · refine gr_bipush dX2_nextNumber_133 (by decide) ?_
              refine gr_goto 140 dX2_nextNumber_135 (by decide) ?_
              exact st _ (by unfold gx_ntok; rw [if_pos (by split at hz <;> omega)])
        refine gr_icmp_le 121 dX2_nextNumber_100 (by decide) (by unfold gw_in; omega) (by unfold gw_in; omega) (fun h100 => ?_) (fun h100 => ?_)
        · refine gr_iconst dX2_nextNumber_121 ?_
          exact last 0 (by rw [if_neg (by omega)])
        · refine gr_aload_n dX2_nextNumber_103 rfl ?_
          refine gr_getR dX2_nextNumber_104 fX2_29 (by first | assumption | rfl) (by omega) (by decide) rfl (by assumption) ?_
          refine gr_aload_n dX2_nextNumber_107 rfl ?_
          refine gr_getI dX2_nextNumber_108 fX2_39 (by first | assumption | rfl) (by omega) (by decide) rfl ?_
          rw [i6]
          refine gr_iald (i := a) dX2_nextNumber_111 (by first | assumption | rfl) (by omega) (by omega) (by omega) (by decide) ?_
          refine gr_bipush dX2_nextNumber_112 (by decide) ?_
          rw [i10 a]
          refine gr_icmp_ne 121 dX2_nextNumber_114 (by decide) (by unfold gw_in; omega) (by unfold gw_in; omega) (fun h114 => ?_) (fun h114 => ?_)
          · refine gr_iconst dX2_nextNumber_121 ?_
            exact last 0 (by rw [if_neg (by omega)])
          · refine gr_iconst dX2_nextNumber_117 ?_
            refine gr_goto 122 dX2_nextNumber_118 (by decide) ?_
            exact last 1 (by rw [if_pos (by omega)])
      refine gr_aload_n dX2_nextNumber_5 rfl ?_
      refine gr_getI dX2_nextNumber_6 fX2_36 (by first | assumption | rfl) (by omega) (by decide) rfl ?_
      rw [i5]
      refine gr_aload_n dX2_nextNumber_9 rfl ?_
      refine gr_getI dX2_nextNumber_10 fX2_25 (by first | assumption | rfl) (by omega) (by decide) rfl ?_
      rw [i2]
      refine gr_icmp_ge 88 dX2_nextNumber_13 (by decide) (by unfold gw_in; omega) (by unfold gw_in; omega) (fun h13 => ?_) (fun h13 => ?_)
      · exact fin
      · have hfe2 : gt_fig (I 10 e) = false := by
          cases hz : gt_fig (I 10 e) with
          | false => rfl
          | true =>
            have all : ∀ k, a + k ≤ e → gt_fe (I 10) n a = gt_fe (I 10) n (a + k) := by
              intro k
              induction k with
              | zero => intro _; rfl
              | succ k ihk =>
                intro hk
                rw [ihk (by omega), gt_fe_s (by omega) (hfe.2.2 (a + k) (by omega) (by omega))]
                rfl
            have h1 := all (e - a) (by omega)
            rw [show a + (e - a) = e by omega, gt_fe_s (by omega) hz] at h1
            have h2 := gt_fe_in (T := I 10) (n := n) (a := e + 1) (by omega)
            omega
        refine gr_aload_n dX2_nextNumber_16 rfl ?_
        refine gr_getR dX2_nextNumber_17 fX2_29 (by first | assumption | rfl) (by omega) (by decide) rfl (by assumption) ?_
        refine gr_aload_n dX2_nextNumber_20 rfl ?_
        refine gr_getI dX2_nextNumber_21 fX2_36 (by first | assumption | rfl) (by omega) (by decide) rfl ?_
        rw [i5]
        refine gr_iald (i := e) dX2_nextNumber_24 (by first | assumption | rfl) (by omega) (by omega) (by omega) (by decide) ?_
        rw [i10 e]
        refine gr_stat dX2_nextNumber_25 kX2_111 (as := [_]) rfl rfl (Nat.le_of_ble_eq_true rfl) (gw_Rm_m (by omega) (by decide) (by decide)) (c_isFigure d (hle e (by omega))) ?_
        rintro _ _ ⟨rfl, rfl⟩
        rw [if_neg (by rw [hfe2]; decide)]
        refine gr_if_eq 88 dX2_nextNumber_28 (by decide) (by unfold gw_in; omega) (fun h28 => ?_) (fun h28 => ?_)
        · exact fin
        · omega
    | succ m ih =>
      intro e I2 he hae hI
      have i5 : I2 1 5 = (e : Int) := by rw [hI]; simp
      have i2 : I2 1 2 = (n : Int) := by rw [hI]; simp; exact hn
      have i6 : I2 1 6 = (a : Int) := by rw [hI]; simp; exact hst
      have i8 : I2 1 8 = gt_val (I 10) a (e - a) := by rw [hI]; simp
      have i10 : ∀ i, I2 10 i = I 10 i := fun i => by rw [hI]; simp
      have hfe2 := hfe.2.2 e hae (by omega)
      have hee := hle e (by omega)
      have hv := gt_val_in (T := I 10) (a := a) (e - a) (fun i hi => hfe.2.2 _ (by omega) (by omega))
      -- the new value is stored
      have st : ∀ v : Int, v = gt_val (I 10) a (e + 1 - a) → gw_G (gw_Cm jX2_nextNumber (d + 1) Q) jX2_nextNumber 72 [some (.inr (some 1)), none, none] [.inl v, .inr (some 1)] (114, I2, F) 0 0 := by
        intro v hv
        refine gr_putI dX2_nextNumber_72 fX2_45 (by first | assumption | rfl) (by omega) (Or.inl rfl) rfl ?_
        refine gr_aload_n dX2_nextNumber_75 rfl ?_
        refine gr_dup dX2_nextNumber_76 ?_
        refine gr_getI dX2_nextNumber_77 fX2_36 (by first | assumption | rfl) (by omega) (by decide) rfl ?_
        rw [show gw_U I2 1 8 v 1 5 = (e : Int) by unfold gw_U; rw [if_neg (by omega)]; exact i5]
        refine gr_iconst dX2_nextNumber_80 ?_
        refine gr_iadd (v := ((e + 1 : Nat) : Int)) dX2_nextNumber_81 (by omega) ?_
        refine gr_putI dX2_nextNumber_82 fX2_36 (by first | assumption | rfl) (by omega) (Or.inl rfl) rfl ?_
        refine gr_goto 5 dX2_nextNumber_85 (by decide) ?_
        refine ih (e + 1) _ (by omega) (by omega) (fun b i => ?_)
        unfold gw_U
        rw [hI, hv]
        grind
      refine gr_aload_n dX2_nextNumber_5 rfl ?_
      refine gr_getI dX2_nextNumber_6 fX2_36 (by first | assumption | rfl) (by omega) (by decide) rfl ?_
      rw [i5]
      refine gr_aload_n dX2_nextNumber_9 rfl ?_
      refine gr_getI dX2_nextNumber_10 fX2_25 (by first | assumption | rfl) (by omega) (by decide) rfl ?_
      rw [i2]
      refine gr_icmp_ge 88 dX2_nextNumber_13 (by decide) (by unfold gw_in; omega) (by unfold gw_in; omega) (fun h13 => ?_) (fun h13 => ?_)
      · omega
      · refine gr_aload_n dX2_nextNumber_16 rfl ?_
        refine gr_getR dX2_nextNumber_17 fX2_29 (by first | assumption | rfl) (by omega) (by decide) rfl (by assumption) ?_
        refine gr_aload_n dX2_nextNumber_20 rfl ?_
        refine gr_getI dX2_nextNumber_21 fX2_36 (by first | assumption | rfl) (by omega) (by decide) rfl ?_
        rw [i5]
        refine gr_iald (i := e) dX2_nextNumber_24 (by first | assumption | rfl) (by omega) (by omega) (by omega) (by decide) ?_
        rw [i10 e]
        refine gr_stat dX2_nextNumber_25 kX2_111 (as := [_]) rfl rfl (Nat.le_of_ble_eq_true rfl) (gw_Rm_m (by omega) (by decide) (by decide)) (c_isFigure d hee) ?_
        rintro _ _ ⟨rfl, rfl⟩
        rw [if_pos hfe2]
        refine gr_if_eq 88 dX2_nextNumber_28 (by decide) (by unfold gw_in; omega) (fun h28 => ?_) (fun h28 => ?_)
        · omega
        · refine gr_aload_n dX2_nextNumber_31 rfl ?_
          refine gr_aload_n dX2_nextNumber_32 rfl ?_
          refine gr_getI dX2_nextNumber_33 fX2_36 (by first | assumption | rfl) (by omega) (by decide) rfl ?_
          rw [i5]
          refine gr_aload_n dX2_nextNumber_36 rfl ?_
          refine gr_getI dX2_nextNumber_37 fX2_39 (by first | assumption | rfl) (by omega) (by decide) rfl ?_
          rw [i6]
          refine gr_isub (v := ((e - a : Nat) : Int)) dX2_nextNumber_40 (by omega) ?_
          refine gr_iconst dX2_nextNumber_41 ?_
          refine gr_icmp_ge 68 dX2_nextNumber_42 (by decide) (by unfold gw_in; omega) (by unfold gw_in; omega) (fun h42 => ?_) (fun h42 => ?_)
          · refine gr_aload_n dX2_nextNumber_68 rfl ?_
            refine gr_getI dX2_nextNumber_69 fX2_45 (by first | assumption | rfl) (by omega) (by decide) rfl ?_
            rw [i8]
            exact st _ (by rw [show e + 1 - a = (e - a) + 1 by omega]; simp only [gt_val]; rw [if_neg (by omega)])
          · refine gr_aload_n dX2_nextNumber_45 rfl ?_
            refine gr_getI dX2_nextNumber_46 fX2_45 (by first | assumption | rfl) (by omega) (by decide) rfl ?_
            rw [i8]
            refine gr_bipush dX2_nextNumber_49 (by decide) ?_
            refine gr_imul dX2_nextNumber_51 rfl ?_
            refine gr_aload_n dX2_nextNumber_52 rfl ?_
            refine gr_getR dX2_nextNumber_53 fX2_29 (by first | assumption | rfl) (by omega) (by decide) rfl (by assumption) ?_
            refine gr_aload_n dX2_nextNumber_56 rfl ?_
            refine gr_getI dX2_nextNumber_57 fX2_36 (by first | assumption | rfl) (by omega) (by decide) rfl ?_
            rw [i5]
            refine gr_iald (i := e) dX2_nextNumber_60 (by first | assumption | rfl) (by omega) (by omega) (by omega) (by decide) ?_
            rw [i10 e]
            refine gr_iadd dX2_nextNumber_61 rfl ?_
            refine gr_bipush dX2_nextNumber_62 (by decide) ?_
            refine gr_isub dX2_nextNumber_64 rfl ?_
            refine gr_goto 72 dX2_nextNumber_65 (by decide) ?_
            exact st _ (by rw [show e + 1 - a = (e - a) + 1 by omega]; simp only [gt_val]; rw [if_pos (by omega), show a + (e - a) = e by omega]; omega)
  refine key (gt_fe (I 10) n a - a) a _ (by omega) (Nat.le_refl _) (fun b i => ?_)
  unfold gw_U
  rw [Nat.sub_self]
  simp only [gt_val]
  by_cases h : b = 1 ∧ i = 8
  · rw [if_pos h, if_neg (by omega)]
  · rw [if_neg h]
    by_cases h5 : b = 1 ∧ i = 5
    · rw [if_pos h5, h5.1, h5.2, hat]
    · rw [if_neg h5]
theorem c_next {p : Nat} (d : Nat) (hF : gx_K F) (hT : gx_T I n) (hp : p ≤ n) (hat : I 1 5 = (p : Int)) : gw_Met jX2_next (d + 2) [.inr (some 1)] (114, I, F) (gw_vo F (fun I' => gx_nx I I' n (gt_sk (I 10) n p))) := by
  have hF' := hF
  obtain ⟨f0, f1, f3, f4, fb, fp⟩ := hF
  obtain ⟨hn, hn150, hle⟩ := id hT
  have hsh1 : gw_sh 1 = (2, 10) := rfl
  have hsh10 : gw_sh 10 = (10, 150) := rfl
  generalize hQ : gw_vo F (fun I' => gx_nx I I' n (gt_sk (I 10) n p)) = Q
  refine gw_enter okX2_next rfl (Nat.le_of_ble_eq_true rfl) ?_
  have key : ∀ (m e : Nat) (I2 : Nat → Nat → Int), e + m = n → gt_sk (I 10) n e = gt_sk (I 10) n p → (∀ b i, I2 b i = if b = 1 ∧ i = 5 then (e : Int) else I b i) → gw_G (gw_Cm jX2_next (d + 2) Q) jX2_next 0 [some (.inr (some 1))] [] (114, I2, F) 0 0 := by
    intro m
    induction m with
    | zero =>
      intro e I2 he hsk hI
      have i5 : I2 1 5 = (e : Int) := by rw [hI]; simp
      have i2 : I2 1 2 = (n : Int) := by rw [hI]; simp; exact hn
      rw [gt_sk_id (Or.inl (by omega))] at hsk
      refine gr_aload_n dX2_next_0 rfl ?_
      refine gr_getI dX2_next_1 fX2_36 (by first | assumption | rfl) (by omega) (by decide) rfl ?_
      rw [i5]
      refine gr_aload_n dX2_next_4 rfl ?_
      refine gr_getI dX2_next_5 fX2_25 (by first | assumption | rfl) (by omega) (by decide) rfl ?_
      rw [i2]
      refine gr_icmp_ge 38 dX2_next_8 (by decide) (by unfold gw_in; omega) (by unfold gw_in; omega) (fun h8 => ?_) (fun h8 => ?_)
      · refine gr_aload_n dX2_next_38 rfl ?_
        refine gr_aload_n dX2_next_39 rfl ?_
        refine gr_getI dX2_next_40 fX2_36 (by first | assumption | rfl) (by omega) (by decide) rfl ?_
        rw [i5]
        refine gr_putI dX2_next_43 fX2_39 (by first | assumption | rfl) (by omega) (Or.inl rfl) rfl ?_
        refine gr_aload_n dX2_next_46 rfl ?_
        refine gr_getI dX2_next_47 fX2_36 (by first | assumption | rfl) (by omega) (by decide) rfl ?_
        rw [show gw_U I2 1 6 (e : Int) 1 5 = (e : Int) by unfold gw_U; rw [if_neg (by omega)]; exact i5]
        refine gr_aload_n dX2_next_50 rfl ?_
        refine gr_getI dX2_next_51 fX2_25 (by first | assumption | rfl) (by omega) (by decide) rfl ?_
        rw [show gw_U I2 1 6 (e : Int) 1 2 = (n : Int) by unfold gw_U; rw [if_neg (by omega)]; exact i2]
        refine gr_icmp_lt 65 dX2_next_54 (by decide) (by unfold gw_in; omega) (by unfold gw_in; omega) (fun h54 => ?_) (fun h54 => ?_)
        · omega
        · have z1 : gx_pos (I 10) n e = e := by unfold gx_pos; rw [if_pos (show n ≤ e by omega)]
          have z2 : gx_tok (I 10) n e = -1 := by unfold gx_tok; rw [if_pos (show n ≤ e by omega)]
          have z3 : gx_vl (I 10) n e (I 1 8) = I 1 8 := by unfold gx_vl; rw [if_pos (show n ≤ e by omega)]
          refine gr_aload_n dX2_next_57 rfl ?_
          refine gr_iconst dX2_next_58 ?_
          refine gr_putI dX2_next_59 fX2_42 (by first | assumption | rfl) (by omega) (Or.inl rfl) rfl ?_
          refine gr_goto 110 dX2_next_62 (by decide) ?_
          refine gr_vret dX2_next_110 rfl (by decide) (by decide) ((by rw [← hQ]; exact ⟨rfl, _, rfl, fun b i => by rw [← hsk, z1, z2, z3]; unfold gw_U; rw [hI]; grind⟩))
      · omega
    | succ m ih =>
      intro e I2 he hsk hI
      have i5 : I2 1 5 = (e : Int) := by rw [hI]; simp
      have i2 : I2 1 2 = (n : Int) := by rw [hI]; simp; exact hn
      have i10 : ∀ i, I2 10 i = I 10 i := fun i => by rw [hI]; simp
      have hee := hle e (by omega)
      refine gr_aload_n dX2_next_0 rfl ?_
      refine gr_getI dX2_next_1 fX2_36 (by first | assumption | rfl) (by omega) (by decide) rfl ?_
      rw [i5]
      refine gr_aload_n dX2_next_4 rfl ?_
      refine gr_getI dX2_next_5 fX2_25 (by first | assumption | rfl) (by omega) (by decide) rfl ?_
      rw [i2]
      refine gr_icmp_ge 38 dX2_next_8 (by decide) (by unfold gw_in; omega) (by unfold gw_in; omega) (fun h8 => ?_) (fun h8 => ?_)
      · omega
      · refine gr_aload_n dX2_next_11 rfl ?_
        refine gr_getR dX2_next_12 fX2_29 (by first | assumption | rfl) (by omega) (by decide) rfl (by assumption) ?_
        refine gr_aload_n dX2_next_15 rfl ?_
        refine gr_getI dX2_next_16 fX2_36 (by first | assumption | rfl) (by omega) (by decide) rfl ?_
        rw [i5]
        refine gr_iald (i := e) dX2_next_19 (by first | assumption | rfl) (by omega) (by omega) (by omega) (by decide) ?_
        refine gr_bipush dX2_next_20 (by decide) ?_
        rw [i10 e]
        refine gr_icmp_ne 38 dX2_next_22 (by decide) (by unfold gw_in; omega) (by unfold gw_in; omega) (fun h22 => ?_) (fun h22 => ?_)
        · rw [gt_sk_id (Or.inr h22)] at hsk
          refine gr_aload_n dX2_next_38 rfl ?_
          refine gr_aload_n dX2_next_39 rfl ?_
          refine gr_getI dX2_next_40 fX2_36 (by first | assumption | rfl) (by omega) (by decide) rfl ?_
          rw [i5]
          refine gr_putI dX2_next_43 fX2_39 (by first | assumption | rfl) (by omega) (Or.inl rfl) rfl ?_
          refine gr_aload_n dX2_next_46 rfl ?_
          refine gr_getI dX2_next_47 fX2_36 (by first | assumption | rfl) (by omega) (by decide) rfl ?_
          have j5 : gw_U I2 1 6 (e : Int) 1 5 = (e : Int) := by unfold gw_U; rw [if_neg (by omega)]; exact i5
          have j2 : gw_U I2 1 6 (e : Int) 1 2 = (n : Int) := by unfold gw_U; rw [if_neg (by omega)]; exact i2
          have j10 : gw_U I2 1 6 (e : Int) 10 = I 10 := by rw [gw_U_r (by omega)]; exact funext i10
          have j6 : gw_U I2 1 6 (e : Int) 1 6 = (e : Int) := gw_U_s
          rw [j5]
          refine gr_aload_n dX2_next_50 rfl ?_
          refine gr_getI dX2_next_51 fX2_25 (by first | assumption | rfl) (by omega) (by decide) rfl ?_
          rw [j2]
          refine gr_icmp_lt 65 dX2_next_54 (by decide) (by unfold gw_in; omega) (by unfold gw_in; omega) (fun h54 => ?_) (fun h54 => ?_)
          · refine gr_aload_n dX2_next_65 rfl ?_
            refine gr_getR dX2_next_66 fX2_29 (by first | assumption | rfl) (by omega) (by decide) rfl (by assumption) ?_
            refine gr_aload_n dX2_next_69 rfl ?_
            refine gr_getI dX2_next_70 fX2_36 (by first | assumption | rfl) (by omega) (by decide) rfl ?_
            rw [j5]
            refine gr_iald (i := e) dX2_next_73 (by first | assumption | rfl) (by omega) (by omega) (by omega) (by decide) ?_
            rw [show gw_U I2 1 6 (e : Int) 10 e = I 10 e by rw [j10]]
            refine gr_stat dX2_next_74 kX2_111 (as := [_]) rfl rfl (Nat.le_of_ble_eq_true rfl) (gw_Rm_m (by omega) (by decide) (by decide)) (c_isFigure (d + 1) hee) ?_
            rintro _ _ ⟨rfl, rfl⟩
            by_cases hfig : gt_fig (I 10 e) = true
            · rw [if_pos hfig]
              refine gr_if_eq 87 dX2_next_77 (by decide) (by unfold gw_in; omega) (fun h77 => ?_) (fun h77 => ?_)
              · omega
              · refine gr_aload_n dX2_next_80 rfl ?_
                refine gr_virt dX2_next_81 kX2_114 (as := []) rfl rfl (by first | assumption | rfl) (by omega) (Nat.le_of_ble_eq_true rfl) (gw_Rm_m (by omega) (by decide) (by decide)) (c_nextNumber (a := e) d hF' (n := n) ⟨j2, hn150, fun i hi => by rw [j10]; exact hle i hi⟩ (by omega) j5 j6 (by rw [j10]; exact hfig)) ?_
                rintro _ _ ⟨rfl, I3, rfl, hI3⟩
                rw [j10] at hI3
                have z1 : gx_pos (I 10) n e = gt_fe (I 10) n e := by unfold gx_pos; rw [if_neg (show ¬ n ≤ e by omega), if_pos hfig]
                have z2 : gx_tok (I 10) n e = gx_ntok (I 10) n e := by unfold gx_tok; rw [if_neg (show ¬ n ≤ e by omega), if_pos hfig]
                have z3 : gx_vl (I 10) n e (I 1 8) = gt_val (I 10) e (gt_fe (I 10) n e - e) := by unfold gx_vl; rw [if_neg (show ¬ n ≤ e by omega), if_pos hfig]
                refine gr_goto 110 dX2_next_84 (by decide) ?_
                refine gr_vret dX2_next_110 rfl (by decide) (by decide) ((by rw [← hQ]; exact ⟨rfl, _, rfl, fun b i => by rw [← hsk, z1, z2, z3, hI3]; unfold gw_U; rw [hI]; grind⟩))
            · rw [if_neg hfig]
              refine gr_if_eq 87 dX2_next_77 (by decide) (by unfold gw_in; omega) (fun h77 => ?_) (fun h77 => ?_)
              · refine gr_aload_n dX2_next_87 rfl ?_
                refine gr_aload_n dX2_next_88 rfl ?_
                refine gr_getR dX2_next_89 fX2_29 (by first | assumption | rfl) (by omega) (by decide) rfl (by assumption) ?_
                refine gr_aload_n dX2_next_92 rfl ?_
                refine gr_getI dX2_next_93 fX2_36 (by first | assumption | rfl) (by omega) (by decide) rfl ?_
                rw [j5]
                refine gr_iald (i := e) dX2_next_96 (by first | assumption | rfl) (by omega) (by omega) (by omega) (by decide) ?_
                refine gr_putI dX2_next_97 fX2_42 (by first | assumption | rfl) (by omega) (Or.inl rfl) rfl ?_
                refine gr_aload_n dX2_next_100 rfl ?_
                refine gr_dup dX2_next_101 ?_
                refine gr_getI dX2_next_102 fX2_36 (by first | assumption | rfl) (by omega) (by decide) rfl ?_
                rw [show gw_U I2 1 6 (e : Int) 10 e = I 10 e by rw [j10]]
                rw [show gw_U (gw_U I2 1 6 (e : Int)) 1 7 (I 10 e) 1 5 = (e : Int) by unfold gw_U; rw [if_neg (by omega), if_neg (by omega)]; exact i5]
                have z1 : gx_pos (I 10) n e = e + 1 := by unfold gx_pos; rw [if_neg (show ¬ n ≤ e by omega), if_neg hfig]
                have z2 : gx_tok (I 10) n e = I 10 e := by unfold gx_tok; rw [if_neg (show ¬ n ≤ e by omega), if_neg hfig]
                have z3 : gx_vl (I 10) n e (I 1 8) = I 1 8 := by unfold gx_vl; rw [if_neg (show ¬ n ≤ e by omega), if_neg hfig]
                refine gr_iconst dX2_next_105 ?_
                refine gr_iadd dX2_next_106 rfl ?_
                refine gr_putI dX2_next_107 fX2_36 (by first | assumption | rfl) (by omega) (Or.inl rfl) rfl ?_
                refine gr_vret dX2_next_110 rfl (by decide) (by decide) ((by rw [← hQ]; exact ⟨rfl, _, rfl, fun b i => by rw [← hsk, z1, z2, z3]; unfold gw_U; rw [hI]; grind⟩))
              · omega
          · omega
        · refine gr_aload_n dX2_next_25 rfl ?_
          refine gr_dup dX2_next_26 ?_
          refine gr_getI dX2_next_27 fX2_36 (by first | assumption | rfl) (by omega) (by decide) rfl ?_
          rw [i5]
          refine gr_iconst dX2_next_30 ?_
          refine gr_iadd (v := ((e + 1 : Nat) : Int)) dX2_next_31 (by omega) ?_
          refine gr_putI dX2_next_32 fX2_36 (by first | assumption | rfl) (by omega) (Or.inl rfl) rfl ?_
          refine gr_goto 0 dX2_next_35 (by decide) ?_
          exact ih (e + 1) _ (by omega) (by rw [← gt_sk_s (by omega) h22]; exact hsk) (fun b i => by unfold gw_U; rw [hI]; grind)
  exact key (n - p) p I (by omega) rfl (fun b i => by
    by_cases h : b = 1 ∧ i = 5
    · rw [if_pos h, h.1, h.2, hat]
    · rw [if_neg h])
end GX
