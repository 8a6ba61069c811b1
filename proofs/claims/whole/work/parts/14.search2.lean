/-! Search: offer, findGaps, evenSpreads -/
theorem gq_man_congr {I I' : Nat → Nat → Int} {p c h : Nat} (e : ∀ a, a < 21 → I' a = I a) : gb_man I' 13 (I' 20) p c h = gb_man (gq_B I) 0 (I 20) p c h := by
  unfold gb_man gq_B
  simp only [e (13 + 1) (by omega), e (13 + 2) (by omega), e (13 + 3) (by omega), e (13 + 5) (by omega), e 20 (by omega), Nat.zero_add]
theorem gq_M_congr {I I' : Nat → Nat → Int} (e : ∀ a, a < 21 → I' a = I a) (h : gq_M I) : gq_M I' := by
  unfold gq_M gb_B at h ⊢
  simp only [e (13 + 1) (by omega), e (13 + 2) (by omega), e (13 + 3) (by omega), e (13 + 4) (by omega), e (13 + 5) (by omega), e 20 (by omega), e 19 (by omega), e 14 (by omega), e 13 (by omega)]
  exact h
def gs_chn (P : Nat) (B : Nat → Nat → Int) (N : Nat → Int) (set c p n : Nat) : List Nat := (List.range n).filter (gs_ok P B N set p c)
theorem gs_chn_s {P : Nat} {B : Nat → Nat → Int} {N : Nat → Int} {set c p n : Nat} : gs_chn P B N set c p (n + 1) = gs_chn P B N set c p n ++ (if gs_ok P B N set p c n = true then [n] else []) := by
  unfold gs_chn
  rw [List.range_succ, List.filter_append]
  congr 1
  simp [List.filter_cons]
theorem gs_chn_1 {P : Nat} {B : Nat → Nat → Int} {N : Nat → Int} {set c p : Nat} : gs_chn P B N set c p 1 = [0] := by
  rw [gs_chn_s]
  simp [gs_chn, gs_ok]
theorem gs_chn_stop {P : Nat} {B : Nat → Nat → Int} {N : Nat → Int} {set c p n : Nat} (hn : n ≤ 7) (h : ∀ k, n ≤ k → k < 7 → gs_ok P B N set p c k = false) : gs_chn P B N set c p n = gs_ch P B N set c p := by
  have : ∀ m, n + m ≤ 7 → gs_chn P B N set c p (n + m) = gs_chn P B N set c p n := by
    intro m
    induction m with
    | zero => intro _; rfl
    | succ m ih =>
      intro hm
      rw [show n + (m + 1) = n + m + 1 by omega, gs_chn_s, h (n + m) (by omega) (by omega), ih (by omega)]
      simp
  have h7 := this (7 - n) (by omega)
  rw [show n + (7 - n) = 7 by omega] at h7
  exact h7.symm
theorem gs_chn_le {P : Nat} {B : Nat → Nat → Int} {N : Nat → Int} {set c p n : Nat} : (gs_chn P B N set c p n).length ≤ n := by
  have := List.length_filter_le (gs_ok P B N set p c) (List.range n)
  rw [List.length_range] at this
  exact this
theorem gp_cnt_le (N : Nat → Int) (c : Nat) : gp_cnt N c ≤ 3 := by
  unfold gp_cnt
  split
  · omega
  · split
    · omega
    · split <;> omega
section GQ
variable {I : Nat → Nat → Int} {F : Nat → Nat → Option Nat}
/-- what offer leaves: only the choices of chord c change -/
def gq_offd (I I' : Nat → Nat → Int) (f : Nat → List Nat) (c n : Nat) : Prop := (∀ p, p < n → I' 54 (4 * c + p) = ((f p).length : Int) ∧ ∀ i, i < (f p).length → I' (22 + (4 * c + p)) i = ((f p).getD i 0 : Nat)) ∧ (∀ a i, ¬ (a = 54 ∧ 4 * c ≤ i ∧ i < 4 * c + 4) → ¬ (22 + 4 * c ≤ a ∧ a < 22 + 4 * c + 4) → I' a i = I a i)
theorem c_offer {c set P : Nat} (d : Nat) (hF : gq_K F) (hM : gq_M I) (hc : c < 8) (hset : set < 16) (hP : I 13 0 = (P : Int)) : gw_Met jX3_offer (d + 3) [.inr (some 12), .inl (c : Int), .inl (set : Int)] (114, I, F) (gw_vo F (fun I' => gq_offd I I' (gs_ch P (gq_B I) (I 20) set c) c 4)) := by
  obtain ⟨f0, f1, f3, f4, f5, f6, f7, f8, f9, f10, f11, f21, f55, fb, fp⟩ := hF
  obtain ⟨hB, hN, ⟨hP0, hP4⟩, ⟨hS0, hS8⟩, hrest, hbal, hbw⟩ := id hM
  have hcnt := gp_cnt_le (I 20) c
  have hsets : gw_sh 54 = (10, 32) := rfl
  refine gw_enter okX3_offer rfl (Nat.le_of_ble_eq_true rfl) ?_
  refine gr_iconst dX3_offer_0 ?_
  refine gr_aload_n dX3_offer_1 rfl ?_
  refine gr_getR dX3_offer_2 fX3_21 (by first | assumption | rfl) (by omega) (by decide) rfl (by assumption) ?_
  refine gr_iload_n dX3_offer_5 rfl ?_
  refine gr_virt dX3_offer_6 kX3_70 (as := [_]) rfl rfl (by first | assumption | rfl) (by omega) (Nat.le_of_ble_eq_true rfl) (gw_Rm_m (by omega) (by decide) (by decide)) (c_notesOf (c := c) (d + 1) fp hc hN) ?_
  rintro _ _ ⟨rfl, rfl⟩
  have hpw : 2 ^ gp_cnt (I 20) c ≤ 8 := by
    have := Nat.pow_le_pow_right (n := 2) (by omega) hcnt
    omega
  have hpw1 : 1 ≤ 2 ^ gp_cnt (I 20) c := Nat.one_le_two_pow
  refine gr_ishl (v := ((1 * 2 ^ gp_cnt (I 20) c : Nat) : Int)) dX3_offer_9 (ga_shlN (a := 1) (y := gp_cnt (I 20) c) (by omega) (by omega)) ?_
  refine gr_bipush dX3_offer_10 (by decide) ?_
  rw [Nat.one_mul]
  refine gr_mmin dX3_offer_12 mX3_73 mm_min1 mm_ini mm_min2 (gw_Rm_1 (by omega) (by decide) (by decide)) (by unfold gw_in; omega) (by unfold gw_in; omega) (Nat.le_of_ble_eq_true rfl) ?_
  obtain ⟨hands, hh⟩ : ∃ hands : Nat, (if (7 : Int) < ((2 ^ gp_cnt (I 20) c : Nat) : Int) then 7 else ((2 ^ gp_cnt (I 20) c : Nat) : Int)) = (hands : Int) := ⟨if 7 < 2 ^ gp_cnt (I 20) c then 7 else 2 ^ gp_cnt (I 20) c, by split <;> split <;> omega⟩
  have hh1 : 1 ≤ hands ∧ hands ≤ 7 ∧ (hands < 7 → hands = 2 ^ gp_cnt (I 20) c) ∧ hands ≤ 2 ^ gp_cnt (I 20) c := by split at hh <;> omega
  rw [hh]
  refine gr_istore_n dX3_offer_15 (by decide) ?_
  refine gr_iconst dX3_offer_16 ?_
  refine gr_istore dX3_offer_17 (by decide) ?_
  have key : ∀ (n p : Nat) (I2 : Nat → Nat → Int) (x5 x6 x7 : Option gw_V), p + n = 4 → gq_offd I I2 (gs_ch P (gq_B I) (I 20) set c) c p → gw_G (gw_Cm jX3_offer (d + 3) (gw_vo F (fun I' => gq_offd I I' (gs_ch P (gq_B I) (I 20) set c) c 4))) jX3_offer 19 [some (.inr (some 12)), some (.inl (c : Int)), some (.inl (set : Int)), some (.inl (hands : Int)), some (.inl (p : Int)), x5, x6, x7] [] (114, I2, F) 0 0 := by
    intro n
    induction n with
    | zero =>
      intro p I2 x5 x6 x7 hp hI
      have hp : p = 4 := by omega
      subst hp
      refine gr_iload dX3_offer_19 rfl ?_
      refine gr_iconst dX3_offer_21 ?_
      refine gr_icmp_ge 132 dX3_offer_22 (by decide) (by unfold gw_in; omega) (by unfold gw_in; omega) (fun h22 => ?_) (fun h22 => ?_)
      · refine gr_vret dX3_offer_132 rfl (by decide) (by decide) (⟨rfl, _, rfl, hI⟩)
      · omega
    | succ n ih =>
      intro p I2 x5 x6 x7 hp hI
      have hR := gq_sh22 (4 * c + p) (by omega)
      have hRF := f21 (4 * c + p) (by omega)
      obtain ⟨hI1, hI2⟩ := hI
      refine gr_iload dX3_offer_19 rfl ?_
      refine gr_iconst dX3_offer_21 ?_
      refine gr_icmp_ge 132 dX3_offer_22 (by decide) (by unfold gw_in; omega) (by unfold gw_in; omega) (fun h22 => ?_) (fun h22 => ?_)
      · omega
      · refine gr_iload_n dX3_offer_25 rfl ?_
        refine gr_iconst dX3_offer_26 ?_
        refine gr_imul dX3_offer_27 rfl ?_
        refine gr_iload dX3_offer_28 rfl ?_
        refine gr_iadd (v := ((4 * c + p : Nat) : Int)) dX3_offer_30 (by omega) ?_
        refine gr_istore dX3_offer_31 (by decide) ?_
        refine gr_iconst dX3_offer_33 ?_
        refine gr_istore dX3_offer_34 (by decide) ?_
        refine gr_aload_n dX3_offer_36 rfl ?_
        refine gr_getR dX3_offer_37 fX3_31 (by first | assumption | rfl) (by omega) (by decide) rfl (by assumption) ?_
        refine gr_iload dX3_offer_40 rfl ?_
        refine gr_rald (i := 4 * c + p) dX3_offer_42 (by first | assumption | rfl) (by omega) (by omega) (by omega) (by decide) (by assumption) ?_
        refine gr_iconst dX3_offer_43 ?_
        refine gr_iconst dX3_offer_44 ?_
        refine gr_iast (i := 0) dX3_offer_45 (by first | assumption | rfl) (by omega) (by omega) (by omega) (by decide) ?_
        refine gr_iload dX3_offer_46 rfl ?_
        refine gr_aload_n dX3_offer_48 rfl ?_
        refine gr_getR dX3_offer_49 fX3_12 (by first | assumption | rfl) (by omega) (by decide) rfl (by assumption) ?_
        refine gr_getI dX3_offer_52 fX3_79 (by first | assumption | rfl) (by omega) (by decide) rfl ?_
        have e13 : gw_U I2 (22 + (4 * c + p)) 0 0 13 0 = (P : Int) := by
          rw [gw_U_n (by omega), hI2 13 0 (by omega) (by omega)]; exact hP
        rw [e13]
        -- the end of a player's turn
        have fin : ∀ (I3 : Nat → Nat → Int) (y6 : Int) (y7 : Option gw_V), y6 = ((gs_ch P (gq_B I) (I 20) set c p).length : Int) → (∀ i, i < (gs_ch P (gq_B I) (I 20) set c p).length → I3 (22 + (4 * c + p)) i = ((gs_ch P (gq_B I) (I 20) set c p).getD i 0 : Nat)) → (∀ a i, a ≠ 22 + (4 * c + p) → I3 a i = I2 a i) → gw_G (gw_Cm jX3_offer (d + 3) (gw_vo F (fun I' => gq_offd I I' (gs_ch P (gq_B I) (I 20) set c) c 4))) jX3_offer 117 [some (.inr (some 12)), some (.inl (c : Int)), some (.inl (set : Int)), some (.inl (hands : Int)), some (.inl (p : Int)), some (.inl ((4 * c + p : Nat) : Int)), some (.inl y6), y7] [] (114, I3, F) 0 0 := by
          intro I3 y6 y7 h6 h7 h8
          refine gr_aload_n dX3_offer_117 rfl ?_
          refine gr_getR dX3_offer_118 fX3_34 (by first | assumption | rfl) (by omega) (by decide) rfl (by assumption) ?_
          refine gr_iload dX3_offer_121 rfl ?_
          refine gr_iload dX3_offer_123 rfl ?_
          refine gr_iast (i := 4 * c + p) dX3_offer_125 (by first | assumption | rfl) (by omega) (by omega) (by omega) (by decide) ?_
          refine gr_iinc (v := ((p + 1 : Nat) : Int)) dX3_offer_126 (by decide) rfl (by omega) ?_
          refine gr_goto 19 dX3_offer_129 (by decide) ?_
          refine ih (p + 1) _ _ _ _ (by omega) ⟨fun q hq => ?_, fun a i h1 h2 => ?_⟩
          · by_cases hqp : q = p
            · subst hqp
              refine ⟨by rw [gw_U_s, h6], fun i hi => ?_⟩
              rw [gw_U_n (by omega)]
              exact h7 i hi
            · obtain ⟨g1, g2⟩ := hI1 q (by omega)
              refine ⟨by rw [gw_U_n (by omega), h8 _ _ (by omega)]; exact g1, fun i hi => ?_⟩
              rw [gw_U_n (by omega), h8 _ _ (by omega)]
              exact g2 i hi
          · rw [gw_U_n (by omega), h8 _ _ (by omega)]
            exact hI2 a i h1 h2
        have one : (∀ k, 1 ≤ k → k < 7 → gs_ok P (gq_B I) (I 20) set p c k = false) → gw_G (gw_Cm jX3_offer (d + 3) (gw_vo F (fun I' => gq_offd I I' (gs_ch P (gq_B I) (I 20) set c) c 4))) jX3_offer 117 [some (.inr (some 12)), some (.inl (c : Int)), some (.inl (set : Int)), some (.inl (hands : Int)), some (.inl (p : Int)), some (.inl ((4 * c + p : Nat) : Int)), some (.inl 1), x7] [] (114, gw_U I2 (22 + (4 * c + p)) 0 0, F) 0 0 := by
          intro hno
          have e1 := gs_chn_stop (n := 1) (by omega) hno
          rw [gs_chn_1] at e1
          refine fin _ 1 x7 (by rw [← e1]; rfl) (fun i hi => ?_) (fun a i ha => gw_U_n (by omega))
          rw [← e1] at hi ⊢
          have hi : i = 0 := by simpa using hi
          subst hi
          rw [gw_U_s]
          rfl
        refine gr_icmp_ge 117 dX3_offer_55 (by decide) (by unfold gw_in; omega) (by unfold gw_in; omega) (fun h55 => ?_) (fun h55 => ?_)
        · exact one (fun k h1 h2 => by simp [gs_ok, show ¬ p < P by omega]; omega)
        · refine gr_iload_n dX3_offer_58 rfl ?_
          refine gr_iload dX3_offer_59 rfl ?_
          refine gr_ishr (v := ((set / 2 ^ p : Nat) : Int)) dX3_offer_61 (ga_bit (by omega) (by omega)) ?_
          refine gr_iconst dX3_offer_62 ?_
          refine gr_iand (v := ((set / 2 ^ p % 2 : Nat) : Int)) dX3_offer_63 (ga_bit1 _) ?_
          refine gr_iconst dX3_offer_64 ?_
          refine gr_icmp_ne 117 dX3_offer_65 (by decide) (by unfold gw_in; omega) (by unfold gw_in; omega) (fun h65 => ?_) (fun h65 => ?_)
          · exact one (fun k h1 h2 => by simp [gs_ok, show ¬ set / 2 ^ p % 2 = 1 by omega]; omega)
          · refine gr_iconst dX3_offer_68 ?_
            refine gr_istore dX3_offer_69 (by decide) ?_
            have inner : ∀ (m h : Nat) (I3 : Nat → Nat → Int), h + m = hands → 1 ≤ h → (∀ i, i < (gs_chn P (gq_B I) (I 20) set c p h).length → I3 (22 + (4 * c + p)) i = ((gs_chn P (gq_B I) (I 20) set c p h).getD i 0 : Nat)) → (∀ a i, a ≠ 22 + (4 * c + p) → I3 a i = I2 a i) → gw_G (gw_Cm jX3_offer (d + 3) (gw_vo F (fun I' => gq_offd I I' (gs_ch P (gq_B I) (I 20) set c) c 4))) jX3_offer 71 [some (.inr (some 12)), some (.inl (c : Int)), some (.inl (set : Int)), some (.inl (hands : Int)), some (.inl (p : Int)), some (.inl ((4 * c + p : Nat) : Int)), some (.inl ((gs_chn P (gq_B I) (I 20) set c p h).length : Int)), some (.inl (h : Int))] [] (114, I3, F) 0 0 := by
              intro m
              induction m with
              | zero =>
                intro h I3 hhm hh0 h7 h8
                have hhe : h = hands := by omega
                subst hhe
                refine gr_iload dX3_offer_71 rfl ?_
                refine gr_iload_n dX3_offer_73 rfl ?_
                refine gr_icmp_ge 117 dX3_offer_74 (by decide) (by unfold gw_in; omega) (by unfold gw_in; omega) (fun h74 => ?_) (fun h74 => ?_)
                · have e7 := gs_chn_stop (P := P) (B := gq_B I) (N := I 20) (set := set) (c := c) (p := p) (n := h) (by omega) (fun k h1 h2 => by
                    simp [gs_ok]
                    exact ⟨by omega, fun _ _ h => by omega⟩)
                  rw [e7] at h7 ⊢
                  exact fin I3 _ _ rfl h7 h8
                · omega
              | succ m ihm =>
                intro h I3 hhm hh0 h7 h8
                have eq21 : ∀ a, a < 21 → I3 a = I a := fun a ha => by
                  funext i
                  rw [h8 a i (by omega), hI2 a i (by omega) (by omega)]
                have hM3 := gq_M_congr eq21 hM
                obtain ⟨hB3, hN3, -⟩ := id hM3
                have hlen := gs_chn_le (P := P) (B := gq_B I) (N := I 20) (set := set) (c := c) (p := p) (n := h)
                refine gr_iload dX3_offer_71 rfl ?_
                refine gr_iload_n dX3_offer_73 rfl ?_
                refine gr_icmp_ge 117 dX3_offer_74 (by decide) (by unfold gw_in; omega) (by unfold gw_in; omega) (fun h74 => ?_) (fun h74 => ?_)
                · omega
                · refine gr_aload_n dX3_offer_77 rfl ?_
                  refine gr_getR dX3_offer_78 fX3_12 (by first | assumption | rfl) (by omega) (by decide) rfl (by assumption) ?_
                  refine gr_iload dX3_offer_81 rfl ?_
                  refine gr_aload_n dX3_offer_83 rfl ?_
                  refine gr_getR dX3_offer_84 fX3_21 (by first | assumption | rfl) (by omega) (by decide) rfl (by assumption) ?_
                  refine gr_iload_n dX3_offer_87 rfl ?_
                  refine gr_iload dX3_offer_88 rfl ?_
                  refine gr_virt dX3_offer_90 kX3_82 (as := [_, _, _, _]) rfl rfl (by first | assumption | rfl) (by omega) (Nat.le_of_ble_eq_true rfl) (gw_Rm_m (by omega) (by decide) (by decide)) (c_manages (p := p) (c := c) (h := h) (k := 19) d fb fp (by omega) hc (by omega) hB3 hN3) ?_
                  rintro _ _ ⟨rfl, rfl⟩
                  rw [gq_man_congr eq21]
                  have hokh : gs_ok P (gq_B I) (I 20) set p c h = gb_man (gq_B I) 0 (I 20) p c h := by
                    unfold gs_ok
                    have a1 : p < P := by omega
                    have a2 : set / 2 ^ p % 2 = 1 := by omega
                    have a3 : h < 2 ^ gp_cnt (I 20) c := by omega
                    have a4 : ¬ h = 0 := by omega
                    simp [a1, a2, a3, a4]
                  rw [← hokh]
                  by_cases hk : gs_ok P (gq_B I) (I 20) set p c h = true
                  · rw [if_pos hk]
                    refine gr_if_eq 111 dX3_offer_93 (by decide) (by unfold gw_in; omega) (fun h93 => ?_) (fun h93 => ?_)
                    · omega
                    · have es := gs_chn_s (P := P) (B := gq_B I) (N := I 20) (set := set) (c := c) (p := p) (n := h)
                      rw [if_pos hk] at es
                      refine gr_aload_n dX3_offer_96 rfl ?_
                      refine gr_getR dX3_offer_97 fX3_31 (by first | assumption | rfl) (by omega) (by decide) rfl (by assumption) ?_
                      refine gr_iload dX3_offer_100 rfl ?_
                      refine gr_rald (i := 4 * c + p) dX3_offer_102 (by first | assumption | rfl) (by omega) (by omega) (by omega) (by decide) (by assumption) ?_
                      refine gr_iload dX3_offer_103 rfl ?_
                      refine gr_iload dX3_offer_105 rfl ?_
                      refine gr_iast (i := (gs_chn P (gq_B I) (I 20) set c p h).length) dX3_offer_107 (by first | assumption | rfl) (by omega) (by omega) (by omega) (by decide) ?_
                      refine gr_iinc (v := ((gs_chn P (gq_B I) (I 20) set c p (h + 1)).length : Int)) dX3_offer_108 (by decide) rfl (by rw [es, List.length_append]; rfl) ?_
                      refine gr_iinc (v := ((h + 1 : Nat) : Int)) dX3_offer_111 (by decide) rfl (by omega) ?_
                      refine gr_goto 71 dX3_offer_114 (by decide) ?_
                      refine ihm (h + 1) _ (by omega) (by omega) (fun i hi => ?_) (fun a i ha => by rw [gw_U_n (by omega)]; exact h8 a i ha)
                      rw [es] at hi ⊢
                      rw [List.length_append] at hi
                      by_cases hil : i = (gs_chn P (gq_B I) (I 20) set c p h).length
                      · subst hil
                        rw [gw_U_s, List.getD_eq_getElem?_getD, List.getElem?_append_right (Nat.le_refl _), Nat.sub_self]
                        rfl
                      · have hi2 : i < (gs_chn P (gq_B I) (I 20) set c p h).length := by
                          have : [h].length = 1 := rfl
                          omega
                        rw [gw_U_n (by omega), h7 i hi2, List.getD_eq_getElem?_getD, List.getD_eq_getElem?_getD, List.getElem?_append_left hi2]
                  · rw [if_neg hk]
                    refine gr_if_eq 111 dX3_offer_93 (by decide) (by unfold gw_in; omega) (fun h93 => ?_) (fun h93 => ?_)
                    · have es := gs_chn_s (P := P) (B := gq_B I) (N := I 20) (set := set) (c := c) (p := p) (n := h)
                      rw [if_neg hk, List.append_nil] at es
                      refine gr_iinc (v := ((h + 1 : Nat) : Int)) dX3_offer_111 (by decide) rfl (by omega) ?_
                      refine gr_goto 71 dX3_offer_114 (by decide) ?_
                      have r := ihm (h + 1) I3 (by omega) (by omega) (by rw [es]; exact h7) h8
                      rw [es] at r
                      exact r
                    · omega
            have r := inner (hands - 1) 1 (gw_U I2 (22 + (4 * c + p)) 0 0) (by omega) (by omega) (fun i hi => by
              rw [gs_chn_1] at hi ⊢
              have hi : i = 0 := by simpa using hi
              subst hi
              rw [gw_U_s]
              rfl) (fun a i ha => gw_U_n (by omega))
            rw [gs_chn_1] at r
            exact r
  exact key 4 0 I _ _ _ (by omega) ⟨fun p hp => absurd hp (by omega), fun a i _ _ => rfl⟩
end GQ
