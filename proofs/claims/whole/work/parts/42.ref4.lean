/-! THE REFERENCE: what is to pay -/
theorem gm_getD_mem {L : List Nat} {j : Nat} (h : j < L.length) : L.getD j 0 ∈ L := by
  rw [List.getD_eq_getElem?_getD, List.getElem?_eq_getElem h]
  exact List.getElem_mem h
def gm_mv (N : Nat → Int) (rest : Int) (c h c' h' : Nat) : Int := if h = 0 ∨ h' = 0 then (if h = h' then 0 else rest) else (if 0 ≤ gp_lo N c h - gp_lo N c' h' then gp_lo N c h - gp_lo N c' h' else 0 - (gp_lo N c h - gp_lo N c' h')) + (if gb_pc h = gb_pc h' then 0 else 2)
theorem gm_mv_w {B : Nat → Nat → Int} {N : Nat → Int} {rest : Int} {p c h c' h' : Nat} : gs_way B N rest p c h c' h' = if (h ≠ 0 ∧ h' ≠ 0) ∧ gp_lo N c h = gp_lo N c' h' ∧ B 1 p = 2 then gs_NEVER else gm_mv N rest c h c' h' := by
  unfold gs_way gm_mv
  grind
def gm_sw (B : Nat → Nat → Int) (N : Nat → Int) (rest : Int) (c k c' k' : Nat) : Nat → Int
  | 0 => 0
  | p + 1 => gm_sw B N rest c k c' k' p + gs_way B N rest p c (gs_hd k p) c' (gs_hd k' p)
theorem gm_sw_4 {B : Nat → Nat → Int} {N : Nat → Int} {rest : Int} {c k c' k' P : Nat} (hP : P ≤ 4) (h0 : ∀ p, P ≤ p → p < 4 → gs_hd k p = 0) (h1 : ∀ p, P ≤ p → p < 4 → gs_hd k' p = 0) : gm_sw B N rest c k c' k' P = gs_tot B N rest c k c' k' := by
  have e : gs_tot B N rest c k c' k' = gm_sw B N rest c k c' k' 4 := by
    simp only [gm_sw, gs_tot]; omega
  rw [e]
  have : ∀ m, P + m ≤ 4 → gm_sw B N rest c k c' k' (P + m) = gm_sw B N rest c k c' k' P := by
    intro m
    induction m with
    | zero => intro _; rfl
    | succ m ih =>
      intro hm
      rw [show P + (m + 1) = (P + m) + 1 by omega]
      simp only [gm_sw]
      rw [ih (by omega), h0 (P + m) (by omega) (by omega), h1 (P + m) (by omega) (by omega)]
      unfold gs_way
      simp
  have := this (4 - P) (by omega)
  rw [show P + (4 - P) = 4 by omega] at this
  exact this.symm
theorem gm_can_iff {B : Nat → Nat → Int} {N : Nat → Int} {rest : Int} {c k c' k' P : Nat} (h0 : ∀ p, P ≤ p → p < 4 → gs_hd k p = 0) (h1 : ∀ p, P ≤ p → p < 4 → gs_hd k' p = 0) : gs_can B N rest c k c' k' = true ↔ ∀ p, p < P → p < 4 → gs_way B N rest p c (gs_hd k p) c' (gs_hd k' p) < gs_NEVER := by
  unfold gs_can
  simp only [decide_eq_true_eq]
  have key : ∀ p, p < 4 → (∀ p, p < P → p < 4 → gs_way B N rest p c (gs_hd k p) c' (gs_hd k' p) < gs_NEVER) → gs_way B N rest p c (gs_hd k p) c' (gs_hd k' p) < gs_NEVER := by
    intro p hp h
    by_cases hP : p < P
    · exact h p hP hp
    · rw [h0 p (by omega) hp, h1 p (by omega) hp]
      unfold gs_way gs_NEVER
      simp
  constructor
  · rintro ⟨a, b, c, d⟩ p _ hp
    rcases (show p = 0 ∨ p = 1 ∨ p = 2 ∨ p = 3 by omega) with rfl | rfl | rfl | rfl
    · exact a
    · exact b
    · exact c
    · exact d
  · intro h
    exact ⟨key 0 (by omega) h, key 1 (by omega) h, key 2 (by omega) h, key 3 (by omega) h⟩
section GM
variable {J : Nat → Nat → Int} {F : Nat → Nat → Option Nat} {P S : Nat} {B : Nat → Nat → Int} {N : Nat → Int} {rest : Int}
theorem m_moveOf {c h h' : Nat} (d : Nat) (hK : gm_K F) (hV : gm_V J P B N S rest) (hS : gm_S P B N S rest) (hc : c + 1 < S) (hh : h < 2 ^ gp_cnt N c) (hh' : h' < 2 ^ gp_cnt N (c + 1)) : gw_Met jX5_moveOf (d + 1) [.inr (some 99), .inl (c : Int), .inl (h : Int), .inl (h' : Int)] (114, J, F) (gw_pu (gm_mv N rest c h (c + 1) h') (114, J, F)) := by
  obtain ⟨g1, g2, g4, g5, g6, g8, g9, g11, g12, g14, g18, g19, g20, g21⟩ := id hK
  obtain ⟨v0, v1, v2, v3, v4⟩ := id hV
  obtain ⟨s1, s2, s3, s4, s5, s6, s7, s8⟩ := id hS
  have hcnt := gp_cnt_le N c
  have hcnt' := gp_cnt_le N (c + 1)
  have h8 := gm_2p hcnt
  have h8' := gm_2p hcnt'
  have hh8 : h < 8 := Nat.lt_of_lt_of_le hh h8
  have hh8' : h' < 8 := Nat.lt_of_lt_of_le hh' h8'
  have zero : (h = 0 ∨ h' = 0) → gw_G (gw_Cm jX5_moveOf (d + 1) (gw_pu (gm_mv N rest c h (c + 1) h') (114, J, F))) jX5_moveOf 8 [some (.inr (some 99)), some (.inl (c : Int)), some (.inl (h : Int)), some (.inl (h' : Int)), none] [] (114, J, F) 0 0 := by
    intro hz
    refine gr_iload_n dX5_moveOf_8 rfl ?_
    refine gr_iload_n dX5_moveOf_9 rfl ?_
    refine gr_icmp_ne 17 dX5_moveOf_10 (by decide) (by unfold gw_in; omega) (by unfold gw_in; omega) (fun h10 => ?_) (fun h10 => ?_)
    · refine gr_aload_n dX5_moveOf_17 rfl ?_
      refine gr_getR dX5_moveOf_18 fX5_13 (by first | assumption | rfl) (by omega) (by decide) rfl (by assumption) ?_
      refine gr_bipush dX5_moveOf_21 (by decide) ?_
      refine gr_iald (i := 34) dX5_moveOf_23 (by first | assumption | rfl) (by omega) (by omega) (by omega) (by decide) ?_
      refine gr_iret dX5_moveOf_24 (by first | exact Or.inl rfl | exact Or.inr ⟨rfl, by omega⟩) (by decide) (by decide) (⟨by unfold gm_mv; rw [if_pos hz, if_neg (by omega), v4], rfl⟩)
    · refine gr_iconst dX5_moveOf_13 ?_
      refine gr_goto 24 dX5_moveOf_14 (by decide) ?_
      refine gr_iret dX5_moveOf_24 (by first | exact Or.inl rfl | exact Or.inr ⟨rfl, by omega⟩) (by decide) (by decide) (⟨by unfold gm_mv; rw [if_pos hz, if_pos (by omega)], rfl⟩)
  refine gw_enter okX5_moveOf rfl (Nat.le_of_ble_eq_true rfl) ?_
  refine gr_iload_n dX5_moveOf_0 rfl ?_
  refine gr_if_eq 8 dX5_moveOf_1 (by decide) (by unfold gw_in; omega) (fun h1 => ?_) (fun h1 => ?_)
  · exact zero (Or.inl (by omega))
  · refine gr_iload_n dX5_moveOf_4 rfl ?_
    refine gr_if_ne 25 dX5_moveOf_5 (by decide) (by unfold gw_in; omega) (fun h5 => ?_) (fun h5 => ?_)
    · obtain ⟨l1, -, l3, -⟩ := gm_lohi (N := N) (c := c) hh hcnt (show h ≠ 0 by omega)
      obtain ⟨k1, -, k3, -⟩ := gm_lohi (N := N) (c := c + 1) hh' hcnt' (show h' ≠ 0 by omega)
      have e1 := (v3 c (by omega)).2 _ l1
      have e2 := (v3 (c + 1) hc).2 _ k1
      rw [l3] at e1
      rw [k3] at e2
      have q1 := gp_lo_in (h := h) s5 (show c < 8 by omega)
      have q2 := gp_lo_in (h := h') s5 (show c + 1 < 8 by omega)
      have p1 : gb_pc h ≤ 3 := by unfold gb_pc; omega
      have p2 : gb_pc h' ≤ 3 := by unfold gb_pc; omega
      have em : gm_mv N rest c h (c + 1) h' = (if 0 ≤ gp_lo N c h - gp_lo N (c + 1) h' then gp_lo N c h - gp_lo N (c + 1) h' else 0 - (gp_lo N c h - gp_lo N (c + 1) h')) + (if gb_pc h = gb_pc h' then 0 else 2) := by
        unfold gm_mv
        rw [if_neg (by omega)]
      have tail : ∀ x : Int, x = (if 0 ≤ gp_lo N c h - gp_lo N (c + 1) h' then gp_lo N c h - gp_lo N (c + 1) h' else 0 - (gp_lo N c h - gp_lo N (c + 1) h')) → ∀ x4, gw_G (gw_Cm jX5_moveOf (d + 1) (gw_pu (gm_mv N rest c h (c + 1) h') (114, J, F))) jX5_moveOf 61 [some (.inr (some 99)), some (.inl (c : Int)), some (.inl (h : Int)), some (.inl (h' : Int)), x4] [.inl x] (114, J, F) 0 0 := by
        intro x hx x4
        refine gr_iload_n dX5_moveOf_61 rfl ?_
        refine gr_stat dX5_moveOf_62 kX5_146 (as := [_]) rfl rfl (Nat.le_of_ble_eq_true rfl) (gw_Rm_m (by omega) (by decide) (by decide)) (m_ones (h := h) d hh8) ?_
        rintro _ _ ⟨rfl, rfl⟩
        refine gr_iload_n dX5_moveOf_65 rfl ?_
        refine gr_stat dX5_moveOf_66 kX5_146 (as := [_]) rfl rfl (Nat.le_of_ble_eq_true rfl) (gw_Rm_m (by omega) (by decide) (by decide)) (m_ones (h := h') d hh8') ?_
        rintro _ _ ⟨rfl, rfl⟩
        refine gr_icmp_ne 76 dX5_moveOf_69 (by decide) (by unfold gw_in; omega) (by unfold gw_in; omega) (fun h69 => ?_) (fun h69 => ?_)
        · refine gr_iconst dX5_moveOf_76 ?_
          refine gr_iadd dX5_moveOf_77 rfl ?_
          refine gr_iret dX5_moveOf_78 (by first | exact Or.inl rfl | exact Or.inr ⟨rfl, by omega⟩) (by decide) (by decide) (⟨by rw [em, hx, if_neg (show ¬ gb_pc h = gb_pc h' by omega)], rfl⟩)
        · refine gr_iconst dX5_moveOf_72 ?_
          refine gr_goto 77 dX5_moveOf_73 (by decide) ?_
          refine gr_iadd dX5_moveOf_77 rfl ?_
          refine gr_iret dX5_moveOf_78 (by first | exact Or.inl rfl | exact Or.inr ⟨rfl, by omega⟩) (by decide) (by decide) (⟨by rw [em, hx, if_pos (show gb_pc h = gb_pc h' by omega)], rfl⟩)
      refine gr_aload_n dX5_moveOf_25 rfl ?_
      refine gr_iload_n dX5_moveOf_26 rfl ?_
      refine gr_iload_n dX5_moveOf_27 rfl ?_
      refine gr_stat dX5_moveOf_28 kX5_140 (as := [_]) rfl rfl (Nat.le_of_ble_eq_true rfl) (gw_Rm_m (by omega) (by decide) (by decide)) (m_lowest d hh8) ?_
      rintro _ _ ⟨rfl, rfl⟩
      refine gr_virt dX5_moveOf_31 kX5_130 (as := [_, _]) rfl rfl (by first | assumption | rfl) (by omega) (Nat.le_of_ble_eq_true rfl) (gw_Rm_m (by omega) (by decide) (by decide)) (m_note (c := c) (i := gm_lo h) d hK (by omega) (gm_lo3 h)) ?_
      rintro _ _ ⟨rfl, rfl⟩
      rw [e1]
      refine gr_aload_n dX5_moveOf_34 rfl ?_
      refine gr_iload_n dX5_moveOf_35 rfl ?_
      refine gr_iconst dX5_moveOf_36 ?_
      refine gr_iadd (v := ((c + 1 : Nat) : Int)) dX5_moveOf_37 (by omega) ?_
      refine gr_iload_n dX5_moveOf_38 rfl ?_
      refine gr_stat dX5_moveOf_39 kX5_140 (as := [_]) rfl rfl (Nat.le_of_ble_eq_true rfl) (gw_Rm_m (by omega) (by decide) (by decide)) (m_lowest d hh8') ?_
      rintro _ _ ⟨rfl, rfl⟩
      refine gr_virt dX5_moveOf_42 kX5_130 (as := [_, _]) rfl rfl (by first | assumption | rfl) (by omega) (Nat.le_of_ble_eq_true rfl) (gw_Rm_m (by omega) (by decide) (by decide)) (m_note (c := c + 1) (i := gm_lo h') d hK (by omega) (gm_lo3 h')) ?_
      rintro _ _ ⟨rfl, rfl⟩
      rw [e2]
      refine gr_isub dX5_moveOf_45 rfl ?_
      refine gr_istore dX5_moveOf_46 (by decide) ?_
      refine gr_iload dX5_moveOf_48 rfl ?_
      refine gr_if_ge 59 dX5_moveOf_50 (by decide) (by unfold gw_in; omega) (fun h50 => ?_) (fun h50 => ?_)
      · refine gr_iload dX5_moveOf_59 rfl ?_
        exact tail _ (by rw [if_pos h50]) _
      · refine gr_iload dX5_moveOf_53 rfl ?_
        refine gr_ineg dX5_moveOf_55 rfl ?_
        refine gr_goto 61 dX5_moveOf_56 (by decide) ?_
        exact tail _ (by rw [if_neg (by omega)]; omega) _
    · exact zero (Or.inr (by omega))
theorem m_movesOf {c k k' : Nat} (d : Nat) (hK : gm_K F) (hV : gm_V J P B N S rest) (hS : gm_S P B N S rest) (hc : c + 1 < S) (hk : k < 4096) (hk' : k' < 4096) (hh : ∀ p, p < 4 → gs_hd k p < 2 ^ gp_cnt N c) (hh' : ∀ p, p < 4 → gs_hd k' p < 2 ^ gp_cnt N (c + 1)) (h0 : ∀ p, P ≤ p → p < 4 → gs_hd k p = 0) (h1 : ∀ p, P ≤ p → p < 4 → gs_hd k' p = 0) : gw_Met jX5_movesOf (d + 2) [.inr (some 99), .inl (c : Int), .inl (k : Int), .inl (k' : Int)] (114, J, F) (gw_pu (if gs_can B N rest c k (c + 1) k' = true then gs_tot B N rest c k (c + 1) k' else 1000000) (114, J, F)) := by
  obtain ⟨g1, g2, g4, g5, g6, g8, g9, g11, g12, g14, g18, g19, g20, g21⟩ := id hK
  obtain ⟨v0, v1, v2, v3, v4⟩ := id hV
  obtain ⟨s1, s2, s3, s4, s5, s6, s7, s8⟩ := id hS
  have hcan := gm_can_iff (B := B) (N := N) (rest := rest) (c := c) (c' := c + 1) h0 h1
  have htot := gm_sw_4 (B := B) (N := N) (rest := rest) (c := c) (c' := c + 1) s1 h0 h1
  have hNv : gs_NEVER = 67108864 := rfl
  have hcnt := gp_cnt_le N c
  have hcnt' := gp_cnt_le N (c + 1)
  generalize hQ : gw_pu (if gs_can B N rest c k (c + 1) k' = true then gs_tot B N rest c k (c + 1) k' else 1000000) (114, J, F) = Q
  refine gw_enter okX5_movesOf rfl (Nat.le_of_ble_eq_true rfl) ?_
  refine gr_iconst dX5_movesOf_0 ?_
  refine gr_istore dX5_movesOf_1 (by decide) ?_
  refine gr_iconst dX5_movesOf_3 ?_
  refine gr_istore dX5_movesOf_4 (by decide) ?_
  have key : ∀ (m p : Nat) (x6 x7 : Option gw_V), p + m = P → (∀ q, q < p → gs_way B N rest q c (gs_hd k q) (c + 1) (gs_hd k' q) < gs_NEVER) → gw_G (gw_Cm jX5_movesOf (d + 2) Q) jX5_movesOf 6 [some (.inr (some 99)), some (.inl (c : Int)), some (.inl (k : Int)), some (.inl (k' : Int)), some (.inl (gm_sw B N rest c k (c + 1) k' p)), some (.inl (p : Int)), x6, x7] [] (114, J, F) 0 0 := by
    intro m
    induction m with
    | zero =>
      intro p x6 x7 hp hall
      have hp : p = P := by omega
      subst hp
      refine gr_iload dX5_movesOf_6 rfl ?_
      refine gr_aload_n dX5_movesOf_8 rfl ?_
      refine gr_getI dX5_movesOf_9 fX5_63 (by first | assumption | rfl) (by omega) (by decide) rfl ?_
      rw [v0]
      refine gr_icmp_ge 99 dX5_movesOf_12 (by decide) (by unfold gw_in; omega) (by unfold gw_in; omega) (fun h12 => ?_) (fun h12 => ?_)
      · refine gr_iload dX5_movesOf_99 rfl ?_
        refine gr_iret dX5_movesOf_101 (by first | exact Or.inl rfl | exact Or.inr ⟨rfl, by omega⟩) (by decide) (by decide) ((hQ ▸ ⟨by rw [if_pos (hcan.mpr (fun q hq _ => hall q hq)), htot], rfl⟩))
      · omega
    | succ m ih =>
      intro p x6 x7 hp hall
      have hl := gs_hd_lt k p
      have hl' := gs_hd_lt k' p
      have r0 : J 100 (5 * p) = B 1 p := v1 p (by omega) 0 (by omega)
      obtain ⟨b1, b2, -⟩ := s3 p (by omega)
      have hw := gm_mv_w (B := B) (N := N) (rest := rest) (p := p) (c := c) (h := gs_hd k p) (c' := c + 1) (h' := gs_hd k' p)
      have hwi := gs_way_in (B := B) (N := N) (rest := rest) (p := p) (c := c) (h := gs_hd k p) (c' := c + 1) (h' := gs_hd k' p) s5 (by omega) (by omega) s8
      have go : ¬ ((gs_hd k p ≠ 0 ∧ gs_hd k' p ≠ 0) ∧ gp_lo N c (gs_hd k p) = gp_lo N (c + 1) (gs_hd k' p) ∧ B 1 p = 2) → gw_G (gw_Cm jX5_movesOf (d + 2) Q) jX5_movesOf 79 [some (.inr (some 99)), some (.inl (c : Int)), some (.inl (k : Int)), some (.inl (k' : Int)), some (.inl (gm_sw B N rest c k (c + 1) k' p)), some (.inl (p : Int)), some (.inl (gs_hd k p : Nat)), some (.inl (gs_hd k' p : Nat))] [] (114, J, F) 0 0 := by
        intro hn
        rw [if_neg hn] at hw
        have hmvi : gm_mv N rest c (gs_hd k p) (c + 1) (gs_hd k' p) < gs_NEVER := by
          have q1 := gp_lo_in (h := gs_hd k p) s5 (show c < 8 by omega)
          have q2 := gp_lo_in (h := gs_hd k' p) s5 (show c + 1 < 8 by omega)
          unfold gm_mv gs_NEVER
          grind
        refine gr_iload dX5_movesOf_79 rfl ?_
        refine gr_aload_n dX5_movesOf_81 rfl ?_
        refine gr_iload_n dX5_movesOf_82 rfl ?_
        refine gr_iload dX5_movesOf_83 rfl ?_
        refine gr_iload dX5_movesOf_85 rfl ?_
        refine gr_virt dX5_movesOf_87 kX5_170 (as := [_, _, _]) rfl rfl (by first | assumption | rfl) (by omega) (Nat.le_of_ble_eq_true rfl) (gw_Rm_m (by omega) (by decide) (by decide)) (m_moveOf (c := c) (h := gs_hd k p) (h' := gs_hd k' p) (d + 0) hK hV hS hc (hh p (by omega)) (hh' p (by omega))) ?_
        rintro _ _ ⟨rfl, rfl⟩
        rw [← hw]
        refine gr_iadd (v := gm_sw B N rest c k (c + 1) k' (p + 1)) dX5_movesOf_90 rfl ?_
        refine gr_istore dX5_movesOf_91 (by decide) ?_
        refine gr_iinc (v := ((p + 1 : Nat) : Int)) dX5_movesOf_93 (by decide) rfl (by omega) ?_
        refine gr_goto 6 dX5_movesOf_96 (by decide) ?_
        refine ih (p + 1) _ _ (by omega) (fun q hq => ?_)
        by_cases h : q = p
        · subst h; rw [hw]; exact hmvi
        · exact hall q (by omega)
      refine gr_iload dX5_movesOf_6 rfl ?_
      refine gr_aload_n dX5_movesOf_8 rfl ?_
      refine gr_getI dX5_movesOf_9 fX5_63 (by first | assumption | rfl) (by omega) (by decide) rfl ?_
      rw [v0]
      refine gr_icmp_ge 99 dX5_movesOf_12 (by decide) (by unfold gw_in; omega) (by unfold gw_in; omega) (fun h12 => ?_) (fun h12 => ?_)
      · omega
      · refine gr_iload_n dX5_movesOf_15 rfl ?_
        refine gr_iload dX5_movesOf_16 rfl ?_
        refine gr_stat dX5_movesOf_18 kX5_152 (as := [_, _]) rfl rfl (Nat.le_of_ble_eq_true rfl) (gw_Rm_m (by omega) (by decide) (by decide)) (m_handOf (k := k) (p := p) (d + 1) hk (by omega)) ?_
        rintro _ _ ⟨rfl, rfl⟩
        refine gr_istore dX5_movesOf_21 (by decide) ?_
        refine gr_iload_n dX5_movesOf_23 rfl ?_
        refine gr_iload dX5_movesOf_24 rfl ?_
        refine gr_stat dX5_movesOf_26 kX5_152 (as := [_, _]) rfl rfl (Nat.le_of_ble_eq_true rfl) (gw_Rm_m (by omega) (by decide) (by decide)) (m_handOf (k := k') (p := p) (d + 1) hk' (by omega)) ?_
        rintro _ _ ⟨rfl, rfl⟩
        refine gr_istore dX5_movesOf_29 (by decide) ?_
        refine gr_aload_n dX5_movesOf_31 rfl ?_
        refine gr_iload dX5_movesOf_32 rfl ?_
        refine gr_virt dX5_movesOf_34 kX5_120 (as := [_]) rfl rfl (by first | assumption | rfl) (by omega) (Nat.le_of_ble_eq_true rfl) (gw_Rm_m (by omega) (by decide) (by decide)) (m_kind (p := p) (d + 1) hK (by omega)) ?_
        rintro _ _ ⟨rfl, rfl⟩
        rw [r0]
        refine gr_iconst dX5_movesOf_37 ?_
        refine gr_icmp_ne 79 dX5_movesOf_38 (by decide) (by unfold gw_in; omega) (by unfold gw_in; omega) (fun h38 => ?_) (fun h38 => ?_)
        · exact go (fun h => h38 h.2.2)
        · refine gr_iload dX5_movesOf_41 rfl ?_
          refine gr_if_eq 79 dX5_movesOf_43 (by decide) (by unfold gw_in; omega) (fun h43 => ?_) (fun h43 => ?_)
          · exact go (fun h => h.1.1 (by omega))
          · refine gr_iload dX5_movesOf_46 rfl ?_
            refine gr_if_eq 79 dX5_movesOf_48 (by decide) (by unfold gw_in; omega) (fun h48 => ?_) (fun h48 => ?_)
            · exact go (fun h => h.1.2 (by omega))
            · obtain ⟨l1, -, l3, -⟩ := gm_lohi (N := N) (c := c) (hh p (by omega)) hcnt (show gs_hd k p ≠ 0 by omega)
              obtain ⟨k1, -, k3, -⟩ := gm_lohi (N := N) (c := c + 1) (hh' p (by omega)) hcnt' (show gs_hd k' p ≠ 0 by omega)
              have e1 := (v3 c (by omega)).2 _ l1
              have e2 := (v3 (c + 1) hc).2 _ k1
              rw [l3] at e1
              rw [k3] at e2
              have q1 := gp_lo_in (h := gs_hd k p) s5 (show c < 8 by omega)
              have q2 := gp_lo_in (h := gs_hd k' p) s5 (show c + 1 < 8 by omega)
              refine gr_aload_n dX5_movesOf_51 rfl ?_
              refine gr_iload_n dX5_movesOf_52 rfl ?_
              refine gr_iload dX5_movesOf_53 rfl ?_
              refine gr_stat dX5_movesOf_55 kX5_140 (as := [_]) rfl rfl (Nat.le_of_ble_eq_true rfl) (gw_Rm_m (by omega) (by decide) (by decide)) (m_lowest (d + 1) hl) ?_
              rintro _ _ ⟨rfl, rfl⟩
              refine gr_virt dX5_movesOf_58 kX5_130 (as := [_, _]) rfl rfl (by first | assumption | rfl) (by omega) (Nat.le_of_ble_eq_true rfl) (gw_Rm_m (by omega) (by decide) (by decide)) (m_note (c := c) (i := gm_lo (gs_hd k p)) (d + 1) hK (by omega) (gm_lo3 _)) ?_
              rintro _ _ ⟨rfl, rfl⟩
              rw [e1]
              refine gr_aload_n dX5_movesOf_61 rfl ?_
              refine gr_iload_n dX5_movesOf_62 rfl ?_
              refine gr_iconst dX5_movesOf_63 ?_
              refine gr_iadd (v := ((c + 1 : Nat) : Int)) dX5_movesOf_64 (by omega) ?_
              refine gr_iload dX5_movesOf_65 rfl ?_
              refine gr_stat dX5_movesOf_67 kX5_140 (as := [_]) rfl rfl (Nat.le_of_ble_eq_true rfl) (gw_Rm_m (by omega) (by decide) (by decide)) (m_lowest (d + 1) hl') ?_
              rintro _ _ ⟨rfl, rfl⟩
              refine gr_virt dX5_movesOf_70 kX5_130 (as := [_, _]) rfl rfl (by first | assumption | rfl) (by omega) (Nat.le_of_ble_eq_true rfl) (gw_Rm_m (by omega) (by decide) (by decide)) (m_note (c := c + 1) (i := gm_lo (gs_hd k' p)) (d + 1) hK (by omega) (gm_lo3 _)) ?_
              rintro _ _ ⟨rfl, rfl⟩
              rw [e2]
              refine gr_icmp_ne 79 dX5_movesOf_73 (by decide) (by unfold gw_in; omega) (by unfold gw_in; omega) (fun h73 => ?_) (fun h73 => ?_)
              · exact go (fun h => h73 h.2.1)
              · rw [if_pos ⟨⟨by omega, by omega⟩, h73, h38⟩] at hw
                refine gr_ldc dX5_movesOf_76 nX5_155 ?_
                refine gr_iret dX5_movesOf_78 (by first | exact Or.inl rfl | exact Or.inr ⟨rfl, by omega⟩) (by decide) (by decide) ((hQ ▸ ⟨by rw [if_neg (fun h => by have := hcan.mp h p (by omega) (by omega); omega)], rfl⟩))
  exact key P 0 _ _ (by omega) (fun q hq => absurd hq (by omega))
/-- what is to pay behind each spread of chord c -/
def gm_pr (J : Nat → Nat → Int) (P : Nat) (B : Nat → Nat → Int) (N : Nat → Int) (rest : Int) (set : Nat) (bal : Int) (n c : Nat) : Prop := gm_row J (gm_L P B N set bal c) c ∧ ∀ j, j < (gm_L P B N set bal c).length → (0 ≤ J 112 (784 * c + j) ∧ J 112 (784 * c + j) ≤ 1000000) ∧ ∀ b : Int, b < 1000000 → (J 112 (784 * c + j) ≤ b ↔ gs_pay P B N rest set bal (n - 1 - c) c ((gm_L P B N set bal c).getD j 0) b = true)
theorem gm_pr_c {J' : Nat → Nat → Int} {set : Nat} {bal : Int} {n c : Nat} (hS : gm_S P B N S rest) (h111 : J' 111 c = J 111 c) (h110 : ∀ i, 784 * c ≤ i → i < 784 * c + 784 → J' 110 i = J 110 i) (h112 : ∀ i, 784 * c ≤ i → i < 784 * c + 784 → J' 112 i = J 112 i) (h : gm_pr J P B N rest set bal n c) : gm_pr J' P B N rest set bal n c := by
  have hl := gm_L_len (set := set) (bal := bal) (c := c) hS
  obtain ⟨⟨h1, h2⟩, h3⟩ := h
  exact ⟨⟨by rw [h111]; exact h1, fun j hj => by rw [h110 _ (by omega) (by omega)]; exact h2 j hj⟩, fun j hj => by rw [h112 _ (by omega) (by omega)]; exact h3 j hj⟩
theorem m_leastBehind {c k set n : Nat} {bal : Int} (d : Nat) (hK : gm_K F) (hV : gm_V J P B N S rest) (hS : gm_S P B N S rest) (hc : c < n) (hn : n ≤ S) (hk : k ∈ gs_SP P B N set c) (hr : c + 1 < n → gm_pr J P B N rest set bal n (c + 1)) : gw_Met jX5_leastBehind (d + 3) [.inr (some 99), .inl (c : Int), .inl (k : Int), .inl (n : Int)] (114, J, F) (gw_io F (fun r J' => J' = J ∧ (0 ≤ r ∧ r ≤ 1000000) ∧ ∀ b : Int, b < 1000000 → (r ≤ b ↔ gs_pay P B N rest set bal (n - 1 - c) c k b = true))) := by
  obtain ⟨g1, g2, g4, g5, g6, g8, g9, g11, g12, g14, g18, g19, g20, g21⟩ := id hK
  obtain ⟨s1, s2, s3, s4, s5, s6, s7, s8⟩ := id hS
  generalize hQ : gw_io F (fun r J' => J' = J ∧ (0 ≤ r ∧ r ≤ 1000000) ∧ ∀ b : Int, b < 1000000 → (r ≤ b ↔ gs_pay P B N rest set bal (n - 1 - c) c k b = true)) = Q
  obtain ⟨m1, m2, m3⟩ := gm_mem hk
  refine gw_enter okX5_leastBehind rfl (Nat.le_of_ble_eq_true rfl) ?_
  refine gr_iload_n dX5_leastBehind_0 rfl ?_
  refine gr_iload_n dX5_leastBehind_1 rfl ?_
  refine gr_iconst dX5_leastBehind_2 ?_
  refine gr_isub dX5_leastBehind_3 rfl ?_
  refine gr_icmp_ne 9 dX5_leastBehind_4 (by decide) (by unfold gw_in; omega) (by unfold gw_in; omega) (fun h4 => ?_) (fun h4 => ?_)
  · obtain ⟨⟨r1, r2⟩, r3⟩ := hr (by omega)
    have hlen := gm_L_len (set := set) (bal := bal) (c := c + 1) hS
    generalize hL : gm_L P B N set bal (c + 1) = L at r1 r2 r3 hlen
    have hmem : ∀ e, e < L.length → L.getD e 0 ∈ gs_SP P B N set (c + 1) ∧ gs_EV B N bal (c + 1) (L.getD e 0) = true := fun e he => by
      have := gm_getD_mem he
      rw [← hL] at this
      exact List.mem_filter.mp (hL ▸ this)
    have hti := fun e => gs_tot_in (B := B) (N := N) (rest := rest) (c := c) (k := k) (c' := c + 1) (k' := L.getD e 0) s5 (by omega) (by omega) s8
    have fin : ∀ r : Int, (0 ≤ r ∧ r ≤ 1000000) → (∀ b : Int, b < 1000000 → (r ≤ b ↔ ∃ e, e < L.length ∧ gs_can B N rest c k (c + 1) (L.getD e 0) = true ∧ J 112 (784 * (c + 1) + e) + gs_tot B N rest c k (c + 1) (L.getD e 0) ≤ b)) → Q (some (.inl r)) (114, J, F) := by
      intro r hr1 hr2
      rw [← hQ]
      refine ⟨_, _, rfl, rfl, rfl, hr1, fun b hb => ?_⟩
      rw [hr2 b hb, show n - 1 - c = (n - 1 - (c + 1)) + 1 by omega, gs_pay_s]
      constructor
      · rintro ⟨e, he, hcan, hle⟩
        have ht := (hti e).1
        exact ⟨_, (hmem e he).1, (hmem e he).2, hcan, ((r3 e he).2 _ (by omega)).mp (by omega)⟩
      · rintro ⟨k', q1, q2, q3, q4⟩
        have hin : k' ∈ L := by rw [← hL]; exact List.mem_filter.mpr ⟨q1, q2⟩
        obtain ⟨e, he, rfl⟩ := gs_getD_of_mem hin
        have ht := (hti e).1
        refine ⟨e, he, q3, ?_⟩
        have := ((r3 e he).2 _ (by omega)).mpr q4
        omega
    refine gr_ldc dX5_leastBehind_9 nX5_155 ?_
    refine gr_istore dX5_leastBehind_11 (by decide) ?_
    refine gr_iconst dX5_leastBehind_13 ?_
    refine gr_istore dX5_leastBehind_14 (by decide) ?_
    have key : ∀ (m e : Nat) (least : Int) (x6 x7 : Option gw_V), e + m = L.length → (0 ≤ least ∧ least ≤ 1000000) → (∀ b : Int, b < 1000000 → (least ≤ b ↔ ∃ e', e' < e ∧ gs_can B N rest c k (c + 1) (L.getD e' 0) = true ∧ J 112 (784 * (c + 1) + e') + gs_tot B N rest c k (c + 1) (L.getD e' 0) ≤ b)) → gw_G (gw_Cm jX5_leastBehind (d + 3) Q) jX5_leastBehind 16 [some (.inr (some 99)), some (.inl (c : Int)), some (.inl (k : Int)), some (.inl (n : Int)), some (.inl least), some (.inl (e : Int)), x6, x7] [] (114, J, F) 0 0 := by
      intro m
      induction m with
      | zero =>
        intro e least x6 x7 he h1 h2
        refine gr_iload dX5_leastBehind_16 rfl ?_
        refine gr_aload_n dX5_leastBehind_18 rfl ?_
        refine gr_getR dX5_leastBehind_19 fX5_44 (by first | assumption | rfl) (by omega) (by decide) rfl (by assumption) ?_
        refine gr_iload_n dX5_leastBehind_22 rfl ?_
        refine gr_iconst dX5_leastBehind_23 ?_
        refine gr_iadd (v := ((c + 1 : Nat) : Int)) dX5_leastBehind_24 (by omega) ?_
        refine gr_iald (i := c + 1) dX5_leastBehind_25 (by first | assumption | rfl) (by omega) (by omega) (by omega) (by decide) ?_
        rw [r1]
        refine gr_icmp_ge 101 dX5_leastBehind_26 (by decide) (by unfold gw_in; omega) (by unfold gw_in; omega) (fun h26 => ?_) (fun h26 => ?_)
        · refine gr_iload dX5_leastBehind_101 rfl ?_
          refine gr_iret dX5_leastBehind_103 (by first | exact Or.inl rfl | exact Or.inr ⟨rfl, by omega⟩) (by decide) (by decide) (fin _ h1 (by rw [show L.length = e by omega]; exact h2))
        · omega
      | succ m ih =>
        intro e least x6 x7 he h1 h2
        have hv := r3 e (by omega)
        have ht := hti e
        -- the next one changes nothing, or is the least
        have skip : ∀ x6 x7, (∀ b : Int, b < 1000000 → gs_can B N rest c k (c + 1) (L.getD e 0) = true → J 112 (784 * (c + 1) + e) + gs_tot B N rest c k (c + 1) (L.getD e 0) ≤ b → least ≤ b) → gw_G (gw_Cm jX5_leastBehind (d + 3) Q) jX5_leastBehind 95 [some (.inr (some 99)), some (.inl (c : Int)), some (.inl (k : Int)), some (.inl (n : Int)), some (.inl least), some (.inl (e : Int)), x6, x7] [] (114, J, F) 0 0 := by
          intro x6 x7 hsk
          refine gr_iinc (v := ((e + 1 : Nat) : Int)) dX5_leastBehind_95 (by decide) rfl (by omega) ?_
          refine gr_goto 16 dX5_leastBehind_98 (by decide) ?_
          refine ih (e + 1) least _ _ (by omega) h1 (fun b hb => ?_)
          rw [h2 b hb]
          constructor
          · rintro ⟨e', q1, q2⟩; exact ⟨e', by omega, q2⟩
          · rintro ⟨e', q1, q2, q3⟩
            by_cases hee : e' = e
            · subst hee; exact (h2 b hb).mp (hsk b hb q2 q3)
            · exact ⟨e', by omega, q2, q3⟩
        refine gr_iload dX5_leastBehind_16 rfl ?_
        refine gr_aload_n dX5_leastBehind_18 rfl ?_
        refine gr_getR dX5_leastBehind_19 fX5_44 (by first | assumption | rfl) (by omega) (by decide) rfl (by assumption) ?_
        refine gr_iload_n dX5_leastBehind_22 rfl ?_
        refine gr_iconst dX5_leastBehind_23 ?_
        refine gr_iadd (v := ((c + 1 : Nat) : Int)) dX5_leastBehind_24 (by omega) ?_
        refine gr_iald (i := c + 1) dX5_leastBehind_25 (by first | assumption | rfl) (by omega) (by omega) (by omega) (by decide) ?_
        rw [r1]
        refine gr_icmp_ge 101 dX5_leastBehind_26 (by decide) (by unfold gw_in; omega) (by unfold gw_in; omega) (fun h26 => ?_) (fun h26 => ?_)
        · omega
        · refine gr_aload_n dX5_leastBehind_29 rfl ?_
          refine gr_getR dX5_leastBehind_30 fX5_47 (by first | assumption | rfl) (by omega) (by decide) rfl (by assumption) ?_
          refine gr_sipush dX5_leastBehind_33 (by decide) ?_
          refine gr_iload_n dX5_leastBehind_36 rfl ?_
          refine gr_iconst dX5_leastBehind_37 ?_
          refine gr_iadd (v := ((c + 1 : Nat) : Int)) dX5_leastBehind_38 (by omega) ?_
          refine gr_imul dX5_leastBehind_39 rfl ?_
          refine gr_iload dX5_leastBehind_40 rfl ?_
          refine gr_iadd dX5_leastBehind_42 rfl ?_
          refine gr_iald (i := 784 * (c + 1) + e) dX5_leastBehind_43 (by first | assumption | rfl) (by omega) (by omega) (by omega) (by decide) ?_
          refine gr_istore dX5_leastBehind_44 (by decide) ?_
          refine gr_iload dX5_leastBehind_46 rfl ?_
          refine gr_iload dX5_leastBehind_48 rfl ?_
          refine gr_icmp_ge 95 dX5_leastBehind_50 (by decide) (by unfold gw_in; omega) (by unfold gw_in; omega) (fun h50 => ?_) (fun h50 => ?_)
          · exact skip _ _ (fun b hb q1 q2 => by omega)
          · refine gr_iload dX5_leastBehind_53 rfl ?_
            refine gr_aload_n dX5_leastBehind_55 rfl ?_
            refine gr_iload_n dX5_leastBehind_56 rfl ?_
            refine gr_iload_n dX5_leastBehind_57 rfl ?_
            refine gr_aload_n dX5_leastBehind_58 rfl ?_
            refine gr_getR dX5_leastBehind_59 fX5_41 (by first | assumption | rfl) (by omega) (by decide) rfl (by assumption) ?_
            refine gr_sipush dX5_leastBehind_62 (by decide) ?_
            refine gr_iload_n dX5_leastBehind_65 rfl ?_
            refine gr_iconst dX5_leastBehind_66 ?_
            refine gr_iadd (v := ((c + 1 : Nat) : Int)) dX5_leastBehind_67 (by omega) ?_
            refine gr_imul dX5_leastBehind_68 rfl ?_
            refine gr_iload dX5_leastBehind_69 rfl ?_
            refine gr_iadd dX5_leastBehind_71 rfl ?_
            refine gr_iald (i := 784 * (c + 1) + e) dX5_leastBehind_72 (by first | assumption | rfl) (by omega) (by omega) (by omega) (by decide) ?_
            rw [r2 e (by omega)]
            obtain ⟨n1, n2, n3⟩ := gm_mem (hmem e (by omega)).1
            refine gr_virt dX5_leastBehind_73 kX5_174 (as := [_, _, _]) rfl rfl (by first | assumption | rfl) (by omega) (Nat.le_of_ble_eq_true rfl) (gw_Rm_m (by omega) (by decide) (by decide)) (m_movesOf (c := c) (k := k) (k' := L.getD e 0) (d + 0) hK hV hS (by omega) m1 n1 m2 n2 m3 n3) ?_
            rintro _ _ ⟨rfl, rfl⟩
            by_cases hcan : gs_can B N rest c k (c + 1) (L.getD e 0) = true
            · rw [if_pos hcan]
              have h252 := ht.2.2.1 hcan
              refine gr_iadd dX5_leastBehind_76 rfl ?_
              refine gr_istore dX5_leastBehind_77 (by decide) ?_
              refine gr_iload dX5_leastBehind_79 rfl ?_
              refine gr_iload dX5_leastBehind_81 rfl ?_
              refine gr_icmp_ge 91 dX5_leastBehind_83 (by decide) (by unfold gw_in; omega) (by unfold gw_in; omega) (fun h83 => ?_) (fun h83 => ?_)
              · refine gr_iload dX5_leastBehind_91 rfl ?_
                refine gr_istore dX5_leastBehind_93 (by decide) ?_
                exact skip _ _ (fun b hb q1 q2 => by omega)
              · refine gr_iload dX5_leastBehind_86 rfl ?_
                refine gr_goto 93 dX5_leastBehind_88 (by decide) ?_
                refine gr_istore dX5_leastBehind_93 (by decide) ?_
                refine gr_iinc (v := ((e + 1 : Nat) : Int)) dX5_leastBehind_95 (by decide) rfl (by omega) ?_
                refine gr_goto 16 dX5_leastBehind_98 (by decide) ?_
                refine ih (e + 1) _ _ _ (by omega) (by omega) (fun b hb => ?_)
                constructor
                · intro q; exact ⟨e, by omega, hcan, q⟩
                · rintro ⟨e', q1, q2, q3⟩
                  by_cases hee : e' = e
                  · subst hee; exact q3
                  · have := (h2 b hb).mpr ⟨e', by omega, q2, q3⟩
                    omega
            · rw [if_neg hcan]
              refine gr_iadd dX5_leastBehind_76 rfl ?_
              refine gr_istore dX5_leastBehind_77 (by decide) ?_
              refine gr_iload dX5_leastBehind_79 rfl ?_
              refine gr_iload dX5_leastBehind_81 rfl ?_
              refine gr_icmp_ge 91 dX5_leastBehind_83 (by decide) (by unfold gw_in; omega) (by unfold gw_in; omega) (fun h83 => ?_) (fun h83 => ?_)
              · refine gr_iload dX5_leastBehind_91 rfl ?_
                refine gr_istore dX5_leastBehind_93 (by decide) ?_
                exact skip _ _ (fun b hb q1 q2 => absurd q1 hcan)
              · omega
    exact key L.length 0 1000000 _ _ (by omega) (by omega) (fun b hb => ⟨fun h => by omega, fun ⟨e', q, _⟩ => absurd q (by omega)⟩)
  · refine gr_iconst dX5_leastBehind_7 ?_
    refine gr_iret dX5_leastBehind_8 (by first | exact Or.inl rfl | exact Or.inr ⟨rfl, by omega⟩) (by decide) (by decide) ((hQ ▸ ⟨_, _, rfl, rfl, rfl, by omega, fun b hb => by rw [show n - 1 - c = 0 by omega]; simp [gs_pay]⟩))
end GM
