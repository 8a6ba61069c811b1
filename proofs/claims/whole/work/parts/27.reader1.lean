/-! Reader: tokens -/
def gx_K (F : Nat → Nat → Option Nat) : Prop := F 1 0 = some 2 ∧ F 1 1 = some 8 ∧ F 1 3 = some 10 ∧ F 1 4 = some 11 ∧ gb_K F 2 ∧ gp_K F 8
/-- the text -/
def gx_T (I : Nat → Nat → Int) (n : Nat) : Prop := I 1 2 = (n : Int) ∧ n ≤ 150 ∧ ∀ i, i < n → 0 ≤ I 10 i ∧ I 10 i ≤ 255
def gx_pos (T : Nat → Int) (n a : Nat) : Nat := if n ≤ a then a else if gt_fig (T a) = true then gt_fe T n a else a + 1
def gx_ntok (T : Nat → Int) (n a : Nat) : Int := if a + 2 < gt_fe T n a ∨ (a + 1 < gt_fe T n a ∧ T a = 48) then -3 else -2
def gx_tok (T : Nat → Int) (n a : Nat) : Int := if n ≤ a then -1 else if gt_fig (T a) = true then gx_ntok T n a else T a
/-- what weigh leaves as the value -/
def gx_wv (T : Nat → Int) (n a : Nat) : Int := if a + 2 < gt_fe T n a ∨ (a + 1 < gt_fe T n a ∧ T a = 48) then T a - 48 else gt_val T a (gt_fe T n a - a)
def gx_vl (T : Nat → Int) (n a : Nat) (v : Int) : Int := if n ≤ a then v else if gt_fig (T a) = true then gx_wv T n a else v
theorem gx_v1 {T : Nat → Int} {a : Nat} : gt_val T a 1 = T a - 48 := by
  show (if 0 < 2 then (0 : Int) * 10 + (T (a + 0) - 48) else 0) = _
  rw [if_pos (by omega), Nat.add_zero]
  omega
theorem gx_v2 {T : Nat → Int} {a : Nat} : gt_val T a 2 = (T a - 48) * 10 + T (a + 1) - 48 := by
  show (if 1 < 2 then gt_val T a 1 * 10 + (T (a + 1) - 48) else gt_val T a 1) = _
  rw [if_pos (by omega), gx_v1]
  omega
theorem gt_fe_stop {T : Nat → Int} {n a e : Nat} (ha : a ≤ n) (h : gt_fe T n a = e) (he : e < n) : gt_fig (T e) = false := by
  have hfe := gt_fe_in (T := T) (n := n) (a := a) ha
  cases hz : gt_fig (T e) with
  | false => rfl
  | true =>
    have all : ∀ k, a + k ≤ e → gt_fe T n a = gt_fe T n (a + k) := by
      intro k
      induction k with
      | zero => intro _; rfl
      | succ k ihk =>
        intro hk
        rw [ihk (by omega), gt_fe_s (by omega) (hfe.2.2 (a + k) (by omega) (by omega))]
        rfl
    have h1 := all (e - a) (by omega)
    rw [show a + (e - a) = e by omega, gt_fe_s (by omega) hz] at h1
    have h2 := gt_fe_in (T := T) (n := n) (a := e + 1) (by omega)
    omega
/-- behind next(): the token at a -/
def gx_nx (I I' : Nat → Nat → Int) (n a : Nat) : Prop := ∀ b i, I' b i = if b = 1 ∧ i = 5 then ((gx_pos (I 10) n a : Nat) : Int) else if b = 1 ∧ i = 6 then (a : Int) else if b = 1 ∧ i = 7 then gx_tok (I 10) n a else if b = 1 ∧ i = 8 then gx_vl (I 10) n a (I 1 8) else I b i
section GX
variable {I : Nat → Nat → Int} {F : Nat → Nat → Option Nat} {n : Nat}
theorem c_isWithin {x lo hi : Int} {μ : gw_M} (d : Nat) (hx : gw_in x) (hl : gw_in lo) (hh : gw_in hi) : gw_Met jX4_isWithin d [.inl x, .inl lo, .inl hi] μ (gw_pu (if lo ≤ x ∧ x ≤ hi then 1 else 0) μ) := by
  unfold gw_in at hx hl hh
  refine gw_enter okX4_isWithin rfl (Nat.le_of_ble_eq_true rfl) ?_
  refine gr_iload_n dX4_isWithin_0 rfl ?_
  refine gr_iload_n dX4_isWithin_1 rfl ?_
  refine gr_icmp_lt 14 dX4_isWithin_2 (by decide) (by unfold gw_in; omega) (by unfold gw_in; omega) (fun h2 => ?_) (fun h2 => ?_)
  · refine gr_iconst dX4_isWithin_14 ?_
    refine gr_iret dX4_isWithin_15 (by first | exact Or.inl rfl | exact Or.inr ⟨rfl, by omega⟩) (by decide) (by decide) (⟨by rw [if_neg (by omega)], rfl⟩)
  · refine gr_iload_n dX4_isWithin_5 rfl ?_
    refine gr_iload_n dX4_isWithin_6 rfl ?_
    refine gr_icmp_gt 14 dX4_isWithin_7 (by decide) (by unfold gw_in; omega) (by unfold gw_in; omega) (fun h7 => ?_) (fun h7 => ?_)
    · refine gr_iconst dX4_isWithin_14 ?_
      refine gr_iret dX4_isWithin_15 (by first | exact Or.inl rfl | exact Or.inr ⟨rfl, by omega⟩) (by decide) (by decide) (⟨by rw [if_neg (by omega)], rfl⟩)
    · refine gr_iconst dX4_isWithin_10 ?_
      refine gr_goto 15 dX4_isWithin_11 (by decide) ?_
      refine gr_iret dX4_isWithin_15 (by first | exact Or.inl rfl | exact Or.inr ⟨rfl, by omega⟩) (by decide) (by decide) (⟨by rw [if_pos (by omega)], rfl⟩)
theorem c_isFigure {x : Int} {μ : gw_M} (d : Nat) (hx : 0 ≤ x ∧ x ≤ 255) : gw_Met jX2_isFigure d [.inl x] μ (gw_pu (if gt_fig x = true then 1 else 0) μ) := by
  unfold gt_fig
  simp only [decide_eq_true_eq]
  refine gw_enter okX2_isFigure rfl (Nat.le_of_ble_eq_true rfl) ?_
  refine gr_iload_n dX2_isFigure_0 rfl ?_
  refine gr_bipush dX2_isFigure_1 (by decide) ?_
  refine gr_icmp_lt 16 dX2_isFigure_3 (by decide) (by unfold gw_in; omega) (by unfold gw_in; omega) (fun h3 => ?_) (fun h3 => ?_)
  · refine gr_iconst dX2_isFigure_16 ?_
    refine gr_iret dX2_isFigure_17 (by first | exact Or.inl rfl | exact Or.inr ⟨rfl, by omega⟩) (by decide) (by decide) (⟨by rw [if_neg (by omega)], rfl⟩)
  · refine gr_iload_n dX2_isFigure_6 rfl ?_
    refine gr_bipush dX2_isFigure_7 (by decide) ?_
    refine gr_icmp_gt 16 dX2_isFigure_9 (by decide) (by unfold gw_in; omega) (by unfold gw_in; omega) (fun h9 => ?_) (fun h9 => ?_)
    · refine gr_iconst dX2_isFigure_16 ?_
      refine gr_iret dX2_isFigure_17 (by first | exact Or.inl rfl | exact Or.inr ⟨rfl, by omega⟩) (by decide) (by decide) (⟨by rw [if_neg (by omega)], rfl⟩)
    · refine gr_iconst dX2_isFigure_12 ?_
      refine gr_goto 17 dX2_isFigure_13 (by decide) ?_
      refine gr_iret dX2_isFigure_17 (by first | exact Or.inl rfl | exact Or.inr ⟨rfl, by omega⟩) (by decide) (by decide) (⟨by rw [if_pos (by omega)], rfl⟩)
theorem c_weigh {a : Nat} {T : Nat → Int} (d : Nat) (hF : gx_K F) (hT : gx_T I n) (ha : a < n) (h10 : I 10 = T) (hst : I 1 6 = (a : Int)) (hfig : a < gt_fe T n a) : gw_Met jX2_weigh d [.inr (some 1), .inl ((gt_fe T n a - a : Nat) : Int)] (114, I, F) (gw_io F (fun r I' => r = gx_ntok T n a ∧ ∀ b i, I' b i = if b = 1 ∧ i = 8 then gx_wv T n a else I b i)) := by
  subst h10
  obtain ⟨f0, f1, f3, f4, fb, fp⟩ := hF
  obtain ⟨hn, hn150, hle⟩ := hT
  have hfe := gt_fe_in (T := I 10) (n := n) (a := a) (by omega)
  have hsh1 : gw_sh 1 = (2, 10) := rfl
  have hsh10 : gw_sh 10 = (10, 150) := rfl
  have ha0 := hle a ha
  generalize hQ : gw_io F (fun r I' => r = gx_ntok (I 10) n a ∧ ∀ b i, I' b i = if b = 1 ∧ i = 8 then gx_wv (I 10) n a else I b i) = Q
  refine gw_enter okX2_weigh rfl (Nat.le_of_ble_eq_true rfl) ?_
  refine gr_aload_n dX2_weigh_0 rfl ?_
  refine gr_aload_n dX2_weigh_1 rfl ?_
  refine gr_getR dX2_weigh_2 fX2_29 (by first | assumption | rfl) (by omega) (by decide) rfl (by assumption) ?_
  refine gr_aload_n dX2_weigh_5 rfl ?_
  refine gr_getI dX2_weigh_6 fX2_39 (by first | assumption | rfl) (by omega) (by decide) rfl ?_
  rw [hst]
  refine gr_iald (i := a) dX2_weigh_9 (by first | assumption | rfl) (by omega) (by omega) (by omega) (by decide) ?_
  refine gr_bipush dX2_weigh_10 (by decide) ?_
  refine gr_isub dX2_weigh_12 rfl ?_
  refine gr_putI dX2_weigh_13 fX2_45 (by first | assumption | rfl) (by omega) (Or.inl rfl) rfl ?_
  refine gr_iload_n dX2_weigh_16 rfl ?_
  refine gr_iconst dX2_weigh_17 ?_
  refine gr_icmp_ne 24 dX2_weigh_18 (by decide) (by unfold gw_in; omega) (by unfold gw_in; omega) (fun h18 => ?_) (fun h18 => ?_)
  · refine gr_iload_n dX2_weigh_24 rfl ?_
    refine gr_iconst dX2_weigh_25 ?_
    refine gr_icmp_gt 36 dX2_weigh_26 (by decide) (by unfold gw_in; omega) (by unfold gw_in; omega) (fun h26 => ?_) (fun h26 => ?_)
    · have z1 : gx_ntok (I 10) n a = -3 := by unfold gx_ntok; rw [if_pos (by omega)]
      have z2 : gx_wv (I 10) n a = I 10 a - 48 := by unfold gx_wv; rw [if_pos (by omega)]
      refine gr_bipush dX2_weigh_36 (by decide) ?_
      refine gr_iret dX2_weigh_38 (by first | exact Or.inl rfl | exact Or.inr ⟨rfl, by omega⟩) (by decide) (by decide) ((by rw [← hQ]; exact ⟨_, _, rfl, rfl, z1.symm, fun b i => by rw [z2]; unfold gw_U; rfl⟩))
    · refine gr_aload_n dX2_weigh_29 rfl ?_
      refine gr_getI dX2_weigh_30 fX2_45 (by first | assumption | rfl) (by omega) (by decide) rfl ?_
      rw [gw_U_s]
      refine gr_if_ne 39 dX2_weigh_33 (by decide) (by unfold gw_in; omega) (fun h33 => ?_) (fun h33 => ?_)
      · have z1 : gx_ntok (I 10) n a = -2 := by unfold gx_ntok; rw [if_neg (by omega)]
        have z2 : gx_wv (I 10) n a = (I 10 a - 48) * 10 + I 10 (a + 1) - 48 := by
          unfold gx_wv
          rw [if_neg (by omega), show gt_fe (I 10) n a - a = 2 by omega, gx_v2]
        refine gr_aload_n dX2_weigh_39 rfl ?_
        refine gr_aload_n dX2_weigh_40 rfl ?_
        refine gr_getI dX2_weigh_41 fX2_45 (by first | assumption | rfl) (by omega) (by decide) rfl ?_
        rw [gw_U_s]
        refine gr_bipush dX2_weigh_44 (by decide) ?_
        refine gr_imul dX2_weigh_46 rfl ?_
        refine gr_aload_n dX2_weigh_47 rfl ?_
        refine gr_getR dX2_weigh_48 fX2_29 (by first | assumption | rfl) (by omega) (by decide) rfl (by assumption) ?_
        refine gr_aload_n dX2_weigh_51 rfl ?_
        refine gr_getI dX2_weigh_52 fX2_39 (by first | assumption | rfl) (by omega) (by decide) rfl ?_
        rw [show gw_U I 1 8 (I 10 a - 48) 1 6 = (a : Int) by unfold gw_U; rw [if_neg (by omega)]; exact hst]
        refine gr_iconst dX2_weigh_55 ?_
        refine gr_iadd dX2_weigh_56 rfl ?_
        refine gr_iald (i := a + 1) dX2_weigh_57 (by first | assumption | rfl) (by omega) (by omega) (by omega) (by decide) ?_
        rw [show gw_U I 1 8 (I 10 a - 48) 10 (a + 1) = I 10 (a + 1) by rw [gw_U_r (by omega)]]
        refine gr_iadd dX2_weigh_58 rfl ?_
        refine gr_bipush dX2_weigh_59 (by decide) ?_
        refine gr_isub dX2_weigh_61 rfl ?_
        refine gr_putI dX2_weigh_62 fX2_45 (by first | assumption | rfl) (by omega) (Or.inl rfl) rfl ?_
        refine gr_bipush dX2_weigh_65 (by decide) ?_
        refine gr_iret dX2_weigh_67 (by first | exact Or.inl rfl | exact Or.inr ⟨rfl, by omega⟩) (by decide) (by decide) ((by rw [← hQ]; exact ⟨_, _, rfl, rfl, z1.symm, fun b i => by rw [z2]; unfold gw_U; grind⟩))
      · have z1 : gx_ntok (I 10) n a = -3 := by unfold gx_ntok; rw [if_pos (by omega)]
        have z2 : gx_wv (I 10) n a = I 10 a - 48 := by unfold gx_wv; rw [if_pos (by omega)]
        refine gr_bipush dX2_weigh_36 (by decide) ?_
        refine gr_iret dX2_weigh_38 (by first | exact Or.inl rfl | exact Or.inr ⟨rfl, by omega⟩) (by decide) (by decide) ((by rw [← hQ]; exact ⟨_, _, rfl, rfl, z1.symm, fun b i => by rw [z2]; unfold gw_U; rfl⟩))
  · have z1 : gx_ntok (I 10) n a = -2 := by unfold gx_ntok; rw [if_neg (by omega)]
    have z2 : gx_wv (I 10) n a = I 10 a - 48 := by
      unfold gx_wv
      rw [if_neg (by omega), show gt_fe (I 10) n a - a = 1 by omega, gx_v1]
    refine gr_bipush dX2_weigh_21 (by decide) ?_
    refine gr_iret dX2_weigh_23 (by first | exact Or.inl rfl | exact Or.inr ⟨rfl, by omega⟩) (by decide) (by decide) ((by rw [← hQ]; exact ⟨_, _, rfl, rfl, z1.symm, fun b i => by rw [z2]; unfold gw_U; rfl⟩))
theorem c_next {p : Nat} (d : Nat) (hF : gx_K F) (hT : gx_T I n) (hp : p ≤ n) (hat : I 1 5 = (p : Int)) : gw_Met jX2_next (d + 2) [.inr (some 1)] (114, I, F) (gw_vo F (fun I' => gx_nx I I' n (gt_sk (I 10) n p))) := by
  have hF' := hF
  obtain ⟨f0, f1, f3, f4, fb, fp⟩ := hF
  obtain ⟨hn, hn150, hle⟩ := id hT
  have hsh1 : gw_sh 1 = (2, 10) := rfl
  have hsh10 : gw_sh 10 = (10, 150) := rfl
  generalize hQ : gw_vo F (fun I' => gx_nx I I' n (gt_sk (I 10) n p)) = Q
  refine gw_enter okX2_next rfl (Nat.le_of_ble_eq_true rfl) ?_
  -- behind the blanks
  have tail : ∀ (e : Nat) (I2 : Nat → Nat → Int), e ≤ n → gt_sk (I 10) n p = e → (∀ b i, I2 b i = if b = 1 ∧ i = 5 then (e : Int) else I b i) → gw_G (gw_Cm jX2_next (d + 2) Q) jX2_next 38 [some (.inr (some 1))] [] (114, I2, F) 0 0 := by
    intro e I2 he hsk hI
    have i5 : I2 1 5 = (e : Int) := by rw [hI]; simp
    have hfe := gt_fe_in (T := I 10) (n := n) (a := e) he
    -- the figures
    have key2 : ∀ (m q : Nat) (I3 : Nat → Nat → Int), q + m = gt_fe (I 10) n e → e ≤ q → (∀ b i, I3 b i = if b = 1 ∧ i = 5 then (q : Int) else if b = 1 ∧ i = 6 then (e : Int) else I b i) → gw_G (gw_Cm jX2_next (d + 2) Q) jX2_next 46 [some (.inr (some 1))] [] (114, I3, F) 0 0 := by
      intro m
      induction m with
      | zero =>
        intro q I3 hq heq hI3
        have j5 : I3 1 5 = (q : Int) := by rw [hI3]; simp
        have j2 : I3 1 2 = (n : Int) := by rw [hI3]; simp; exact hn
        have j6 : I3 1 6 = (e : Int) := by rw [hI3]; simp
        have j10 : I3 10 = I 10 := funext fun i => by rw [hI3]; simp
        -- behind the figures
        have fin : gw_G (gw_Cm jX2_next (d + 2) Q) jX2_next 85 [some (.inr (some 1))] [] (114, I3, F) 0 0 := by
          refine gr_aload_n dX2_next_85 rfl ?_
          refine gr_getI dX2_next_86 fX2_36 (by first | assumption | rfl) (by omega) (by decide) rfl ?_
          rw [j5]
          refine gr_aload_n dX2_next_89 rfl ?_
          refine gr_getI dX2_next_90 fX2_39 (by first | assumption | rfl) (by omega) (by decide) rfl ?_
          rw [j6]
          refine gr_icmp_le 116 dX2_next_93 (by decide) (by unfold gw_in; omega) (by unfold gw_in; omega) (fun h93 => ?_) (fun h93 => ?_)
          · have hqe : q = e := by omega
            subst hqe
            refine gr_aload_n dX2_next_116 rfl ?_
            refine gr_getI dX2_next_117 fX2_36 (by first | assumption | rfl) (by omega) (by decide) rfl ?_
            rw [j5]
            refine gr_aload_n dX2_next_120 rfl ?_
            refine gr_getI dX2_next_121 fX2_25 (by first | assumption | rfl) (by omega) (by decide) rfl ?_
            rw [j2]
            refine gr_icmp_lt 135 dX2_next_124 (by decide) (by unfold gw_in; omega) (by unfold gw_in; omega) (fun h124 => ?_) (fun h124 => ?_)
            · have hfig := gt_fe_stop he (show gt_fe (I 10) n q = q by omega) (by omega)
              have z1 : gx_pos (I 10) n q = q + 1 := by unfold gx_pos; rw [if_neg (show ¬ n ≤ q by omega), if_neg (by rw [hfig]; decide)]
              have z2 : gx_tok (I 10) n q = I 10 q := by unfold gx_tok; rw [if_neg (show ¬ n ≤ q by omega), if_neg (by rw [hfig]; decide)]
              have z3 : gx_vl (I 10) n q (I 1 8) = I 1 8 := by unfold gx_vl; rw [if_neg (show ¬ n ≤ q by omega), if_neg (by rw [hfig]; decide)]
              refine gr_aload_n dX2_next_135 rfl ?_
              refine gr_aload_n dX2_next_136 rfl ?_
              refine gr_getR dX2_next_137 fX2_29 (by first | assumption | rfl) (by omega) (by decide) rfl (by assumption) ?_
              refine gr_aload_n dX2_next_140 rfl ?_
              refine gr_getI dX2_next_141 fX2_36 (by first | assumption | rfl) (by omega) (by decide) rfl ?_
              rw [j5]
              refine gr_iald (i := q) dX2_next_144 (by first | assumption | rfl) (by omega) (by omega) (by omega) (by decide) ?_
              refine gr_putI dX2_next_145 fX2_42 (by first | assumption | rfl) (by omega) (Or.inl rfl) rfl ?_
              refine gr_aload_n dX2_next_148 rfl ?_
              refine gr_dup dX2_next_149 ?_
              refine gr_getI dX2_next_150 fX2_36 (by first | assumption | rfl) (by omega) (by decide) rfl ?_
              rw [show I3 10 q = I 10 q by rw [j10]]
              rw [show gw_U I3 1 7 (I 10 q) 1 5 = (q : Int) by unfold gw_U; rw [if_neg (by omega)]; exact j5]
              refine gr_iconst dX2_next_153 ?_
              refine gr_iadd dX2_next_154 rfl ?_
              refine gr_putI dX2_next_155 fX2_36 (by first | assumption | rfl) (by omega) (Or.inl rfl) rfl ?_
              refine gr_vret dX2_next_158 rfl (by decide) (by decide) ((by rw [← hQ]; exact ⟨rfl, _, rfl, fun b i => by rw [hsk, z1, z2, z3]; unfold gw_U; rw [hI3]; grind⟩))
            · have z1 : gx_pos (I 10) n q = q := by unfold gx_pos; rw [if_pos (show n ≤ q by omega)]
              have z2 : gx_tok (I 10) n q = -1 := by unfold gx_tok; rw [if_pos (show n ≤ q by omega)]
              have z3 : gx_vl (I 10) n q (I 1 8) = I 1 8 := by unfold gx_vl; rw [if_pos (show n ≤ q by omega)]
              refine gr_aload_n dX2_next_127 rfl ?_
              refine gr_iconst dX2_next_128 ?_
              refine gr_putI dX2_next_129 fX2_42 (by first | assumption | rfl) (by omega) (Or.inl rfl) rfl ?_
              refine gr_goto 158 dX2_next_132 (by decide) ?_
              refine gr_vret dX2_next_158 rfl (by decide) (by decide) ((by rw [← hQ]; exact ⟨rfl, _, rfl, fun b i => by rw [hsk, z1, z2, z3]; unfold gw_U; rw [hI3]; grind⟩))
          · have hfig := hfe.2.2 e (Nat.le_refl _) (by omega)
            have z1 : gx_pos (I 10) n e = q := by unfold gx_pos; rw [if_neg (show ¬ n ≤ e by omega), if_pos hfig]; omega
            have z2 : gx_tok (I 10) n e = gx_ntok (I 10) n e := by unfold gx_tok; rw [if_neg (show ¬ n ≤ e by omega), if_pos hfig]
            have z3 : gx_vl (I 10) n e (I 1 8) = gx_wv (I 10) n e := by unfold gx_vl; rw [if_neg (show ¬ n ≤ e by omega), if_pos hfig]
            refine gr_aload_n dX2_next_96 rfl ?_
            refine gr_aload_n dX2_next_97 rfl ?_
            refine gr_aload_n dX2_next_98 rfl ?_
            refine gr_getI dX2_next_99 fX2_36 (by first | assumption | rfl) (by omega) (by decide) rfl ?_
            rw [j5]
            refine gr_aload_n dX2_next_102 rfl ?_
            refine gr_getI dX2_next_103 fX2_39 (by first | assumption | rfl) (by omega) (by decide) rfl ?_
            rw [j6]
            refine gr_isub (v := ((gt_fe (I 10) n e - e : Nat) : Int)) dX2_next_106 (by omega) ?_
            refine gr_virt dX2_next_107 kX2_114 (as := [_]) rfl rfl (by first | assumption | rfl) (by omega) (Nat.le_of_ble_eq_true rfl) (gw_Rm_m (by omega) (by decide) (by decide)) (c_weigh (a := e) (T := I 10) (n := n) (d + 1) hF' ⟨j2, hn150, fun i hi => by rw [j10]; exact hle i hi⟩ (by omega) j10 j6 (by omega)) ?_
            rintro _ _ ⟨_, I4, rfl, rfl, rfl, hI4⟩
            refine gr_putI dX2_next_110 fX2_42 (by first | assumption | rfl) (by omega) (Or.inl rfl) rfl ?_
            refine gr_goto 158 dX2_next_113 (by decide) ?_
            refine gr_vret dX2_next_158 rfl (by decide) (by decide) ((by rw [← hQ]; exact ⟨rfl, _, rfl, fun b i => by rw [hsk, z1, z2, z3]; unfold gw_U; rw [hI4, hI3]; grind⟩))
        refine gr_aload_n dX2_next_46 rfl ?_
        refine gr_getI dX2_next_47 fX2_36 (by first | assumption | rfl) (by omega) (by decide) rfl ?_
        rw [j5]
        refine gr_aload_n dX2_next_50 rfl ?_
        refine gr_getI dX2_next_51 fX2_25 (by first | assumption | rfl) (by omega) (by decide) rfl ?_
        rw [j2]
        refine gr_icmp_ge 85 dX2_next_54 (by decide) (by unfold gw_in; omega) (by unfold gw_in; omega) (fun h54 => ?_) (fun h54 => ?_)
        · exact fin
        · have hfig := gt_fe_stop he (show gt_fe (I 10) n e = q by omega) (by omega)
          refine gr_aload_n dX2_next_57 rfl ?_
          refine gr_getR dX2_next_58 fX2_29 (by first | assumption | rfl) (by omega) (by decide) rfl (by assumption) ?_
          refine gr_aload_n dX2_next_61 rfl ?_
          refine gr_getI dX2_next_62 fX2_36 (by first | assumption | rfl) (by omega) (by decide) rfl ?_
          rw [j5]
          refine gr_iald (i := q) dX2_next_65 (by first | assumption | rfl) (by omega) (by omega) (by omega) (by decide) ?_
          rw [show I3 10 q = I 10 q by rw [j10]]
          refine gr_stat dX2_next_66 kX2_111 (as := [_]) rfl rfl (Nat.le_of_ble_eq_true rfl) (gw_Rm_m (by omega) (by decide) (by decide)) (c_isFigure (d + 1) (hle q (by omega))) ?_
          rintro _ _ ⟨rfl, rfl⟩
          rw [if_neg (by rw [hfig]; decide)]
          refine gr_if_eq 85 dX2_next_69 (by decide) (by unfold gw_in; omega) (fun h69 => ?_) (fun h69 => ?_)
          · exact fin
          · omega
      | succ m ih =>
        intro q I3 hq heq hI3
        have j5 : I3 1 5 = (q : Int) := by rw [hI3]; simp
        have j2 : I3 1 2 = (n : Int) := by rw [hI3]; simp; exact hn
        have j10 : I3 10 = I 10 := funext fun i => by rw [hI3]; simp
        have hfig := hfe.2.2 q heq (by omega)
        refine gr_aload_n dX2_next_46 rfl ?_
        refine gr_getI dX2_next_47 fX2_36 (by first | assumption | rfl) (by omega) (by decide) rfl ?_
        rw [j5]
        refine gr_aload_n dX2_next_50 rfl ?_
        refine gr_getI dX2_next_51 fX2_25 (by first | assumption | rfl) (by omega) (by decide) rfl ?_
        rw [j2]
        refine gr_icmp_ge 85 dX2_next_54 (by decide) (by unfold gw_in; omega) (by unfold gw_in; omega) (fun h54 => ?_) (fun h54 => ?_)
        · omega
        · refine gr_aload_n dX2_next_57 rfl ?_
          refine gr_getR dX2_next_58 fX2_29 (by first | assumption | rfl) (by omega) (by decide) rfl (by assumption) ?_
          refine gr_aload_n dX2_next_61 rfl ?_
          refine gr_getI dX2_next_62 fX2_36 (by first | assumption | rfl) (by omega) (by decide) rfl ?_
          rw [j5]
          refine gr_iald (i := q) dX2_next_65 (by first | assumption | rfl) (by omega) (by omega) (by omega) (by decide) ?_
          rw [show I3 10 q = I 10 q by rw [j10]]
          refine gr_stat dX2_next_66 kX2_111 (as := [_]) rfl rfl (Nat.le_of_ble_eq_true rfl) (gw_Rm_m (by omega) (by decide) (by decide)) (c_isFigure (d + 1) (hle q (by omega))) ?_
          rintro _ _ ⟨rfl, rfl⟩
          rw [if_pos hfig]
          refine gr_if_eq 85 dX2_next_69 (by decide) (by unfold gw_in; omega) (fun h69 => ?_) (fun h69 => ?_)
          · omega
          · refine gr_aload_n dX2_next_72 rfl ?_
            refine gr_dup dX2_next_73 ?_
            refine gr_getI dX2_next_74 fX2_36 (by first | assumption | rfl) (by omega) (by decide) rfl ?_
            rw [j5]
            refine gr_iconst dX2_next_77 ?_
            refine gr_iadd (v := ((q + 1 : Nat) : Int)) dX2_next_78 (by omega) ?_
            refine gr_putI dX2_next_79 fX2_36 (by first | assumption | rfl) (by omega) (Or.inl rfl) rfl ?_
            refine gr_goto 46 dX2_next_82 (by decide) ?_
            exact ih (q + 1) _ (by omega) (by omega) (fun b i => by unfold gw_U; rw [hI3]; grind)
    refine gr_aload_n dX2_next_38 rfl ?_
    refine gr_aload_n dX2_next_39 rfl ?_
    refine gr_getI dX2_next_40 fX2_36 (by first | assumption | rfl) (by omega) (by decide) rfl ?_
    rw [i5]
    refine gr_putI dX2_next_43 fX2_39 (by first | assumption | rfl) (by omega) (Or.inl rfl) rfl ?_
    exact key2 (gt_fe (I 10) n e - e) e _ (by omega) (Nat.le_refl _) (fun b i => by unfold gw_U; rw [hI]; grind)
  have key : ∀ (m e : Nat) (I2 : Nat → Nat → Int), e + m = n → gt_sk (I 10) n e = gt_sk (I 10) n p → (∀ b i, I2 b i = if b = 1 ∧ i = 5 then (e : Int) else I b i) → gw_G (gw_Cm jX2_next (d + 2) Q) jX2_next 0 [some (.inr (some 1))] [] (114, I2, F) 0 0 := by
    intro m
    induction m with
    | zero =>
      intro e I2 he hsk hI
      have i5 : I2 1 5 = (e : Int) := by rw [hI]; simp
      have i2 : I2 1 2 = (n : Int) := by rw [hI]; simp; exact hn
      rw [gt_sk_id (Or.inl (by omega))] at hsk
      refine gr_aload_n dX2_next_0 rfl ?_
      refine gr_getI dX2_next_1 fX2_36 (by first | assumption | rfl) (by omega) (by decide) rfl ?_
      rw [i5]
      refine gr_aload_n dX2_next_4 rfl ?_
      refine gr_getI dX2_next_5 fX2_25 (by first | assumption | rfl) (by omega) (by decide) rfl ?_
      rw [i2]
      refine gr_icmp_ge 38 dX2_next_8 (by decide) (by unfold gw_in; omega) (by unfold gw_in; omega) (fun h8 => ?_) (fun h8 => ?_)
      · exact tail e I2 (by omega) hsk.symm hI
      · omega
    | succ m ih =>
      intro e I2 he hsk hI
      have i5 : I2 1 5 = (e : Int) := by rw [hI]; simp
      have i2 : I2 1 2 = (n : Int) := by rw [hI]; simp; exact hn
      have i10 : ∀ i, I2 10 i = I 10 i := fun i => by rw [hI]; simp
      have hee := hle e (by omega)
      refine gr_aload_n dX2_next_0 rfl ?_
      refine gr_getI dX2_next_1 fX2_36 (by first | assumption | rfl) (by omega) (by decide) rfl ?_
      rw [i5]
      refine gr_aload_n dX2_next_4 rfl ?_
      refine gr_getI dX2_next_5 fX2_25 (by first | assumption | rfl) (by omega) (by decide) rfl ?_
      rw [i2]
      refine gr_icmp_ge 38 dX2_next_8 (by decide) (by unfold gw_in; omega) (by unfold gw_in; omega) (fun h8 => ?_) (fun h8 => ?_)
      · omega
      · refine gr_aload_n dX2_next_11 rfl ?_
        refine gr_getR dX2_next_12 fX2_29 (by first | assumption | rfl) (by omega) (by decide) rfl (by assumption) ?_
        refine gr_aload_n dX2_next_15 rfl ?_
        refine gr_getI dX2_next_16 fX2_36 (by first | assumption | rfl) (by omega) (by decide) rfl ?_
        rw [i5]
        refine gr_iald (i := e) dX2_next_19 (by first | assumption | rfl) (by omega) (by omega) (by omega) (by decide) ?_
        refine gr_bipush dX2_next_20 (by decide) ?_
        rw [i10 e]
        refine gr_icmp_ne 38 dX2_next_22 (by decide) (by unfold gw_in; omega) (by unfold gw_in; omega) (fun h22 => ?_) (fun h22 => ?_)
        · rw [gt_sk_id (Or.inr h22)] at hsk
          exact tail e I2 (by omega) hsk.symm hI
        · refine gr_aload_n dX2_next_25 rfl ?_
          refine gr_dup dX2_next_26 ?_
          refine gr_getI dX2_next_27 fX2_36 (by first | assumption | rfl) (by omega) (by decide) rfl ?_
          rw [i5]
          refine gr_iconst dX2_next_30 ?_
          refine gr_iadd (v := ((e + 1 : Nat) : Int)) dX2_next_31 (by omega) ?_
          refine gr_putI dX2_next_32 fX2_36 (by first | assumption | rfl) (by omega) (Or.inl rfl) rfl ?_
          refine gr_goto 0 dX2_next_35 (by decide) ?_
          exact ih (e + 1) _ (by omega) (by rw [← gt_sk_s (by omega) h22]; exact hsk) (fun b i => by unfold gw_U; rw [hI]; grind)
  exact key (n - p) p I (by omega) rfl (fun b i => by
    by_cases h : b = 1 ∧ i = 5
    · rw [if_pos h, h.1, h.2, hat]
    · rw [if_neg h])
end GX
