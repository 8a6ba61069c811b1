/-! Reader: readPlayer, readRules, readChord, readItem, read -/
section GX
variable {I : Nat → Nat → Int} {F : Nat → Nat → Option Nat} {n : Nat}
theorem c_readPlayer {a : Nat} {k : Int} {st : gt_S} (d : Nat) (hF : gx_K F) (hT : gx_T I n) (ha : a < n) (hat : I 1 5 = ((a + 1 : Nat) : Int)) (hst6 : I 1 6 = (a : Int)) (hk : 0 ≤ k ∧ k ≤ 2) (hst : gx_st I st) (hok : gt_ok st) (hB : gb_B I 2) (hN : gp_N (I 9)) : gw_Met jX2_readPlayer (d + 4) [.inr (some 1), .inl k] (114, I, F) (gw_io F (fun r I' => gx_res I I' n (gt_player (I 10) n st k a) r)) := by
  have hF' := hF
  obtain ⟨f0, f1, f3, f4, fb, fp⟩ := hF
  obtain ⟨hn, hn150, hle⟩ := id hT
  obtain ⟨s1, s2, s3, s4, s5, s6, s7, s8⟩ := id hst
  obtain ⟨o1, o2, o3, o4, o5, o6, o7⟩ := id hok
  have hbn := gb_bw_nn (K := st.2.1 1) (n := st.1)
  refine gw_enter okX2_readPlayer rfl (Nat.le_of_ble_eq_true rfl) ?_
  refine gr_aload_n dX2_readPlayer_0 rfl ?_
  refine gr_getR dX2_readPlayer_1 fX2_12 (by first | assumption | rfl) (by omega) (by decide) rfl (by assumption) ?_
  refine gr_iload_n dX2_readPlayer_4 rfl ?_
  refine gr_virt dX2_readPlayer_5 kX2_79 (as := [_]) rfl rfl (by first | assumption | rfl) (by omega) (Nat.le_of_ble_eq_true rfl) (gw_Rm_m (by omega) (by decide) (by decide)) (c_hasRoomFor (d + 3) fb (by unfold gw_in; omega) (by rw [s1]; unfold gw_in; omega) (by rw [s2]; unfold gw_in; omega)) ?_
  rintro _ _ ⟨rfl, rfl⟩
  by_cases hroom : st.1 = 4 ∨ (k = 1 ∧ gb_bw (st.2.1 1) st.1 = 2)
  · rw [if_neg (by rw [s1, s2]; omega)]
    refine gr_if_eq 21 dX2_readPlayer_8 (by decide) (by unfold gw_in; omega) (fun h8 => ?_) (fun h8 => ?_)
    · refine gr_iconst dX2_readPlayer_21 ?_
      refine gr_iret dX2_readPlayer_22 (by first | exact Or.inl rfl | exact Or.inr ⟨rfl, by omega⟩) (by decide) (by decide) (⟨0, I, rfl, rfl, by unfold gt_player; rw [if_pos hroom]; exact gx_fail gx_fr_rf hB hN hst6 (fun _ _ _ => rfl)⟩)
    · omega
  · rw [if_pos (by rw [s1, s2]; omega)]
    refine gr_if_eq 21 dX2_readPlayer_8 (by decide) (by unfold gw_in; omega) (fun h8 => ?_) (fun h8 => ?_)
    · omega
    · refine gr_aload_n dX2_readPlayer_11 rfl ?_
      refine gr_iconst dX2_readPlayer_12 ?_
      refine gr_bipush dX2_readPlayer_13 (by decide) ?_
      refine gr_virt dX2_readPlayer_15 kX2_82 (as := [_, _]) rfl rfl (by first | assumption | rfl) (by omega) (Nat.le_of_ble_eq_true rfl) (gw_Rm_m (by omega) (by decide) (by decide)) (c_nextIsNumber (p := a + 1) d hF' hT (by omega) hat (by unfold gw_in; omega) (by unfold gw_in; omega)) ?_
      rintro _ _ ⟨r1, I1, rfl, rfl, h1, h1s, h1f⟩
      have T1 := gx_T_fr (gx_fr_nx h1f) hT
      have q1 : ∀ b, b ≠ 1 → I1 b = I b := fun b hb => funext fun i => h1f b i (by omega)
      rcases h1 with ⟨e1, lo, hn1, rfl, p1, v1⟩ | ⟨hn1, rfl⟩
      · obtain ⟨g1, g2, g3, g4, g5, g6, -⟩ := gt_num_in hn1 (by omega)
        refine gr_if_ne 23 dX2_readPlayer_18 (by decide) (by unfold gw_in; omega) (fun h18 => ?_) (fun h18 => ?_)
        · refine gr_aload_n dX2_readPlayer_23 rfl ?_
          refine gr_getI dX2_readPlayer_24 fX2_45 (by first | assumption | rfl) (by omega) (by decide) rfl ?_
          rw [v1]
          refine gr_istore_n dX2_readPlayer_27 (by decide) ?_
          refine gr_aload_n dX2_readPlayer_28 rfl ?_
          refine gr_iload_n dX2_readPlayer_29 rfl ?_
          refine gr_bipush dX2_readPlayer_30 (by decide) ?_
          refine gr_virt dX2_readPlayer_32 kX2_82 (as := [_, _]) rfl rfl (by first | assumption | rfl) (by omega) (Nat.le_of_ble_eq_true rfl) (gw_Rm_m (by omega) (by decide) (by decide)) (c_nextIsNumber (p := e1) d hF' T1.1 (by omega) p1 (by unfold gw_in; omega) (by unfold gw_in; omega)) ?_
          rintro _ _ ⟨r2, I2, rfl, rfl, h2, h2s, h2f⟩
          have f2 : ∀ b i, ¬ (b = 1 ∧ 5 ≤ i ∧ i ≤ 8) → I2 b i = I b i := fun b i h => (h2f b i h).trans (h1f b i h)
          have T2 := gx_T_fr (gx_fr_nx f2) hT
          rw [T1.2] at h2 h2s
          rcases h2 with ⟨e2, hi, hn2, rfl, p2, v2⟩ | ⟨hn2, rfl⟩
          · obtain ⟨g1, g2, g3', g4', g5', g6', -⟩ := gt_num_in hn2 (by omega)
            refine gr_if_ne 40 dX2_readPlayer_35 (by decide) (by unfold gw_in; omega) (fun h35 => ?_) (fun h35 => ?_)
            · refine gr_aload_n dX2_readPlayer_40 rfl ?_
              refine gr_getI dX2_readPlayer_41 fX2_45 (by first | assumption | rfl) (by omega) (by decide) rfl ?_
              rw [v2]
              refine gr_istore_n dX2_readPlayer_44 (by decide) ?_
              refine gr_aload_n dX2_readPlayer_45 rfl ?_
              refine gr_iconst dX2_readPlayer_46 ?_
              refine gr_bipush dX2_readPlayer_47 (by decide) ?_
              refine gr_virt dX2_readPlayer_49 kX2_82 (as := [_, _]) rfl rfl (by first | assumption | rfl) (by omega) (Nat.le_of_ble_eq_true rfl) (gw_Rm_m (by omega) (by decide) (by decide)) (c_nextIsNumber (p := e2) d hF' T2.1 (by omega) p2 (by unfold gw_in; omega) (by unfold gw_in; omega)) ?_
              rintro _ _ ⟨r3, I3, rfl, rfl, h3, h3s, h3f⟩
              have f3' : ∀ b i, ¬ (b = 1 ∧ 5 ≤ i ∧ i ≤ 8) → I3 b i = I b i := fun b i h => (h3f b i h).trans (f2 b i h)
              have T3 := gx_T_fr (gx_fr_nx f3') hT
              rw [T2.2] at h3 h3s
              rcases h3 with ⟨e3, wt, hn3, rfl, p3, v3⟩ | ⟨hn3, rfl⟩
              · obtain ⟨g1, g2, g3'', g4'', g5'', g6'', -⟩ := gt_num_in hn3 (by omega)
                -- the player is added
                have add : ∀ (e4 : Nat) (sp : Int) (I4 : Nat → Nat → Int), (∀ b i, ¬ (b = 1 ∧ 5 ≤ i ∧ i ≤ 8) → I4 b i = I b i) → e4 ≤ n → I4 1 5 = (e4 : Int) → 0 ≤ sp ∧ sp ≤ 12 → gt_player (I 10) n st k a = gt_end (I 10) n e4 (gt_add st k lo hi wt sp) → gw_G (gw_Cm jX2_readPlayer (d + 4) (gw_io F (fun r I' => gx_res I I' n (gt_player (I 10) n st k a) r))) jX2_readPlayer 89 [some (.inr (some 1)), some (.inl k), some (.inl lo), some (.inl hi), some (.inl wt), some (.inl sp)] [] (114, I4, F) 0 0 := by
                  intro e4 sp I4 f4' he4 p4 hsp hgp
                  have q4 : ∀ b, b ≠ 1 → I4 b = I b := fun b hb => funext fun i => f4' b i (by omega)
                  refine gr_aload_n dX2_readPlayer_89 rfl ?_
                  refine gr_getR dX2_readPlayer_90 fX2_12 (by first | assumption | rfl) (by omega) (by decide) rfl (by assumption) ?_
                  refine gr_iload_n dX2_readPlayer_93 rfl ?_
                  refine gr_iload_n dX2_readPlayer_94 rfl ?_
                  refine gr_iload_n dX2_readPlayer_95 rfl ?_
                  refine gr_iload dX2_readPlayer_96 rfl ?_
                  refine gr_iload dX2_readPlayer_98 rfl ?_
                  refine gr_virt dX2_readPlayer_100 kX2_86 (as := [_, _, _, _, _]) rfl rfl (by first | assumption | rfl) (by omega) (Nat.le_of_ble_eq_true rfl) (gw_Rm_m (by omega) (by decide) (by decide)) (c_badd (p := st.1) (d + 2) fb (by rw [q4 2 (by omega)]; exact s1) (by omega) (by unfold gw_in; omega) (by rw [q4 2 (by omega), s2]; unfold gw_in; omega) (by rw [q4 2 (by omega), s2]; omega)) ?_
                  rintro _ _ ⟨rfl, I5, rfl, hI5⟩
                  have fr5 : gx_fr I I5 := fun b i x y z => by
                    rw [hI5, if_neg (by omega), if_neg (by omega), if_neg (by omega), if_neg (by omega), if_neg (by omega), if_neg (by omega), if_neg (by omega)]
                    exact f4' b i (by omega)
                  have T5 := gx_T_fr fr5 hT
                  have B5 : gb_B I5 2 := by
                    intro p hp
                    have hb := hB p hp
                    have r1 : I5 (2 + 1) p = if p = st.1 then k else I (2 + 1) p := by rw [hI5, q4 (2 + 1) (by omega)]; grind
                    have r2 : I5 (2 + 2) p = if p = st.1 then lo else I (2 + 2) p := by rw [hI5, q4 (2 + 2) (by omega)]; grind
                    have r3 : I5 (2 + 3) p = if p = st.1 then hi else I (2 + 3) p := by rw [hI5, q4 (2 + 3) (by omega)]; grind
                    have r4 : I5 (2 + 4) p = if p = st.1 then wt else I (2 + 4) p := by rw [hI5, q4 (2 + 4) (by omega)]; grind
                    have r5 : I5 (2 + 5) p = if p = st.1 then sp else I (2 + 5) p := by rw [hI5, q4 (2 + 5) (by omega)]; grind
                    rw [r1, r2, r3, r4, r5]
                    by_cases hps : p = st.1
                    · simp only [if_pos hps]; omega
                    · simp only [if_neg hps]; exact hb
                  have N5 : gp_N (I5 9) := by
                    intro i hi
                    have : I5 9 i = I 9 i := by rw [hI5, q4 9 (by omega)]; grind
                    rw [this]
                    exact hN i hi
                  have bw := gt_add_bw (st := st) (k := k) (lo := lo) (hi := hi) (wt := wt) (sp := sp)
                  have st5 : gx_st I5 (gt_add st k lo hi wt sp) := by
                    have z1 : I5 2 0 = ((st.1 + 1 : Nat) : Int) := by rw [hI5]; simp
                    have z2 : I5 2 1 = gb_bw (st.2.1 1) st.1 + (if k = 1 then 1 else 0) := by
                      rw [hI5, q4 2 (by omega), s2]
                      simp
                      split <;> omega
                    refine ⟨z1, by rw [bw]; exact z2, fun r p h1 h2 h3 => ?_, ?_, fun i hi => ?_, ?_, ?_, ?_⟩
                    · have h3 : p < st.1 + 1 := h3
                      show I5 (2 + r) p = if p = st.1 then (if r = 1 then k else if r = 2 then lo else if r = 3 then hi else if r = 4 then wt else sp) else st.2.1 r p
                      by_cases hps : p = st.1
                      · rw [if_pos hps, hI5]
                        rcases (show r = 1 ∨ r = 2 ∨ r = 3 ∨ r = 4 ∨ r = 5 by omega) with rfl | rfl | rfl | rfl | rfl <;> simp [hps]
                      · rw [if_neg hps, hI5]
                        rw [if_neg (by omega), if_neg (by omega), if_neg (by omega), if_neg (by omega), if_neg (by omega), if_neg (by omega), if_neg (by omega), q4 (2 + r) (by omega)]
                        exact s3 r p h1 h2 (by omega)
                    · rw [hI5]; rw [q4 8 (by omega)]; simp; exact s4
                    · have : I5 9 i = I 9 i := by rw [hI5, q4 9 (by omega)]; grind
                      rw [this]; exact s5 i hi
                    · rw [hI5]; rw [q4 8 (by omega)]; simp; exact s6
                    · rw [hI5]; rw [q4 8 (by omega)]; simp; exact s7
                    · rw [hI5]; rw [f4' 1 9 (by omega)]; simp; exact s8
                  have ok5 : gt_ok (gt_add st k lo hi wt sp) := by
                    refine ⟨?_, o2, ?_, fun p hp => ?_, o5, o6, o7⟩
                    · show st.1 + 1 ≤ 4; omega
                    · rw [bw]; split <;> omega
                    · have hp : p < st.1 + 1 := hp
                      unfold gt_add
                      dsimp only
                      by_cases hps : p = st.1
                      · simp only [if_pos hps]; simp; omega
                      · simp only [if_neg hps]
                        exact o4 p (by omega)
                  refine gr_aload_n dX2_readPlayer_103 rfl ?_
                  refine gr_virt dX2_readPlayer_104 kX2_90 (as := []) rfl rfl (by first | assumption | rfl) (by omega) (Nat.le_of_ble_eq_true rfl) (gw_Rm_m (by omega) (by decide) (by decide)) (c_nextEndsItem (p := e4) d hF' T5.1 he4 (by rw [hI5]; simp; exact p4)) ?_
                  rintro _ _ ⟨r6, I6, rfl, rfl, h6, h6s, h6f⟩
                  have hres := gx_end_res (n := n) T5.2 fr5 B5 N5 st5 ok5 h6 h6s h6f
                  rw [← hgp] at hres
                  have hr6 : r6 = 0 ∨ r6 = 1 := by rcases h6 with ⟨-, -, h, -⟩ | ⟨-, h⟩ <;> omega
                  refine gr_iret dX2_readPlayer_107 (Or.inr ⟨rfl, hr6⟩) (by decide) (by decide) ⟨r6, I6, rfl, rfl, hres⟩
                refine gr_if_ne 57 dX2_readPlayer_52 (by decide) (by unfold gw_in; omega) (fun h52 => ?_) (fun h52 => ?_)
                · refine gr_aload_n dX2_readPlayer_57 rfl ?_
                  refine gr_getI dX2_readPlayer_58 fX2_45 (by first | assumption | rfl) (by omega) (by decide) rfl ?_
                  rw [v3]
                  refine gr_istore dX2_readPlayer_61 (by decide) ?_
                  refine gr_iconst dX2_readPlayer_63 ?_
                  refine gr_istore dX2_readPlayer_64 (by decide) ?_
                  refine gr_iload_n dX2_readPlayer_66 rfl ?_
                  refine gr_iconst dX2_readPlayer_67 ?_
                  refine gr_icmp_ne 89 dX2_readPlayer_68 (by decide) (by unfold gw_in; omega) (by unfold gw_in; omega) (fun h68 => ?_) (fun h68 => ?_)
                  · refine add e3 0 I3 f3' (by omega) p3 ⟨by omega, by omega⟩ ?_
                    unfold gt_player
                    rw [if_neg hroom, hn1]
                    dsimp only
                    rw [hn2]
                    dsimp only
                    rw [hn3]
                    dsimp only
                    rw [if_neg h68]
                  · refine gr_aload_n dX2_readPlayer_71 rfl ?_
                    refine gr_iconst dX2_readPlayer_72 ?_
                    refine gr_bipush dX2_readPlayer_73 (by decide) ?_
                    refine gr_virt dX2_readPlayer_75 kX2_82 (as := [_, _]) rfl rfl (by first | assumption | rfl) (by omega) (Nat.le_of_ble_eq_true rfl) (gw_Rm_m (by omega) (by decide) (by decide)) (c_nextIsNumber (p := e3) d hF' T3.1 (by omega) p3 (by unfold gw_in; omega) (by unfold gw_in; omega)) ?_
                    rintro _ _ ⟨r4, I4, rfl, rfl, h4, h4s, h4f⟩
                    have f4' : ∀ b i, ¬ (b = 1 ∧ 5 ≤ i ∧ i ≤ 8) → I4 b i = I b i := fun b i h => (h4f b i h).trans (f3' b i h)
                    rw [T3.2] at h4 h4s
                    rcases h4 with ⟨e4, sp, hn4, rfl, p4, v4⟩ | ⟨hn4, rfl⟩
                    · obtain ⟨j1, j2, j3, j4, -, -, -⟩ := gt_num_in hn4 (by omega)
                      refine gr_if_ne 83 dX2_readPlayer_78 (by decide) (by unfold gw_in; omega) (fun h78 => ?_) (fun h78 => ?_)
                      · refine gr_aload_n dX2_readPlayer_83 rfl ?_
                        refine gr_getI dX2_readPlayer_84 fX2_45 (by first | assumption | rfl) (by omega) (by decide) rfl ?_
                        rw [v4]
                        refine gr_istore dX2_readPlayer_87 (by decide) ?_
                        refine add e4 sp I4 f4' (by omega) p4 ⟨j3, j4⟩ ?_
                        unfold gt_player
                        rw [if_neg hroom, hn1]
                        dsimp only
                        rw [hn2]
                        dsimp only
                        rw [hn3]
                        dsimp only
                        rw [if_pos h68, hn4]
                      · omega
                    · refine gr_if_ne 83 dX2_readPlayer_78 (by decide) (by unfold gw_in; omega) (fun h78 => ?_) (fun h78 => ?_)
                      · omega
                      · refine gr_iconst dX2_readPlayer_81 ?_
                        refine gr_iret dX2_readPlayer_82 (Or.inr ⟨rfl, Or.inl rfl⟩) (by decide) (by decide) ⟨0, I4, rfl, rfl, ?_⟩
                        have e : gt_player (I 10) n st k a = .inl (gt_sk (I 10) n e3) := by
                          unfold gt_player
                          rw [if_neg hroom, hn1]
                          dsimp only
                          rw [hn2]
                          dsimp only
                          rw [hn3]
                          dsimp only
                          rw [if_pos h68, hn4]
                        rw [e]
                        exact gx_fail gx_fr_rf hB hN h4s f4'
                · omega
              · refine gr_if_ne 57 dX2_readPlayer_52 (by decide) (by unfold gw_in; omega) (fun h52 => ?_) (fun h52 => ?_)
                · omega
                · refine gr_iconst dX2_readPlayer_55 ?_
                  refine gr_iret dX2_readPlayer_56 (Or.inr ⟨rfl, Or.inl rfl⟩) (by decide) (by decide) ⟨0, I3, rfl, rfl, ?_⟩
                  have e : gt_player (I 10) n st k a = .inl (gt_sk (I 10) n e2) := by
                    unfold gt_player
                    rw [if_neg hroom, hn1]
                    dsimp only
                    rw [hn2]
                    dsimp only
                    rw [hn3]
                  rw [e]
                  exact gx_fail gx_fr_rf hB hN h3s f3'
            · omega
          · refine gr_if_ne 40 dX2_readPlayer_35 (by decide) (by unfold gw_in; omega) (fun h35 => ?_) (fun h35 => ?_)
            · omega
            · refine gr_iconst dX2_readPlayer_38 ?_
              refine gr_iret dX2_readPlayer_39 (Or.inr ⟨rfl, Or.inl rfl⟩) (by decide) (by decide) ⟨0, I2, rfl, rfl, ?_⟩
              have e : gt_player (I 10) n st k a = .inl (gt_sk (I 10) n e1) := by
                unfold gt_player
                rw [if_neg hroom, hn1]
                dsimp only
                rw [hn2]
              rw [e]
              exact gx_fail gx_fr_rf hB hN h2s f2
        · omega
      · refine gr_if_ne 23 dX2_readPlayer_18 (by decide) (by unfold gw_in; omega) (fun h18 => ?_) (fun h18 => ?_)
        · omega
        · refine gr_iconst dX2_readPlayer_21 ?_
          refine gr_iret dX2_readPlayer_22 (Or.inr ⟨rfl, Or.inl rfl⟩) (by decide) (by decide) ⟨0, I1, rfl, rfl, ?_⟩
          have e : gt_player (I 10) n st k a = .inl (gt_sk (I 10) n (a + 1)) := by
            unfold gt_player
            rw [if_neg hroom, hn1]
          rw [e]
          exact gx_fail gx_fr_rf hB hN h1s h1f
theorem c_readRules {a : Nat} {st : gt_S} (d : Nat) (hF : gx_K F) (hT : gx_T I n) (ha : a < n) (hat : I 1 5 = ((a + 1 : Nat) : Int)) (hst6 : I 1 6 = (a : Int)) (hst : gx_st I st) (hok : gt_ok st) (hB : gb_B I 2) (hN : gp_N (I 9)) : gw_Met jX2_readRules (d + 4) [.inr (some 1)] (114, I, F) (gw_io F (fun r I' => gx_res I I' n (gt_rules (I 10) n st a) r)) := by
  have hF' := hF
  obtain ⟨f0, f1, f3, f4, fb, fp⟩ := hF
  obtain ⟨fp1, fp2, fp3, fp4⟩ := id fp
  obtain ⟨hn, hn150, hle⟩ := id hT
  obtain ⟨s1, s2, s3, s4, s5, s6, s7, s8⟩ := id hst
  obtain ⟨o1, o2, o3, o4, o5, o6, o7⟩ := id hok
  refine gw_enter okX2_readRules rfl (Nat.le_of_ble_eq_true rfl) ?_
  refine gr_aload_n dX2_readRules_0 rfl ?_
  refine gr_getI dX2_readRules_1 fX2_48 (by first | assumption | rfl) (by omega) (by decide) rfl ?_
  rw [s8]
  by_cases hq : st.2.2.2.2.2.2 = true
  · rw [if_pos hq]
    refine gr_if_ne 17 dX2_readRules_4 (by decide) (by unfold gw_in; omega) (fun h4 => ?_) (fun h4 => ?_)
    · refine gr_iconst dX2_readRules_17 ?_
      refine gr_iret dX2_readRules_18 (Or.inr ⟨rfl, Or.inl rfl⟩) (by decide) (by decide) ⟨0, I, rfl, rfl, ?_⟩
      unfold gt_rules
      rw [if_pos hq]
      exact gx_fail gx_fr_rf hB hN hst6 (fun _ _ _ => rfl)
    · omega
  · rw [if_neg hq]
    refine gr_if_ne 17 dX2_readRules_4 (by decide) (by unfold gw_in; omega) (fun h4 => ?_) (fun h4 => ?_)
    · omega
    · refine gr_aload_n dX2_readRules_7 rfl ?_
      refine gr_iconst dX2_readRules_8 ?_
      refine gr_bipush dX2_readRules_9 (by decide) ?_
      refine gr_virt dX2_readRules_11 kX2_82 (as := [_, _]) rfl rfl (by first | assumption | rfl) (by omega) (Nat.le_of_ble_eq_true rfl) (gw_Rm_m (by omega) (by decide) (by decide)) (c_nextIsNumber (p := a + 1) d hF' hT (by omega) hat (by unfold gw_in; omega) (by unfold gw_in; omega)) ?_
      rintro _ _ ⟨r1, I1, rfl, rfl, h1, h1s, h1f⟩
      have T1 := gx_T_fr (gx_fr_nx h1f) hT
      have q1 : ∀ b, b ≠ 1 → I1 b = I b := fun b hb => funext fun i => h1f b i (by omega)
      rcases h1 with ⟨e1, r, hn1, rfl, p1, v1⟩ | ⟨hn1, rfl⟩
      · obtain ⟨g1, g2, g3, g4, g5, g6, -⟩ := gt_num_in hn1 (by omega)
        refine gr_if_ne 19 dX2_readRules_14 (by decide) (by unfold gw_in; omega) (fun h14 => ?_) (fun h14 => ?_)
        · refine gr_aload_n dX2_readRules_19 rfl ?_
          refine gr_getR dX2_readRules_20 fX2_21 (by first | assumption | rfl) (by omega) (by decide) rfl (by assumption) ?_
          refine gr_aload_n dX2_readRules_23 rfl ?_
          refine gr_getI dX2_readRules_24 fX2_45 (by first | assumption | rfl) (by omega) (by decide) rfl ?_
          rw [v1]
          refine gr_putI dX2_readRules_27 fX2_101 (by first | assumption | rfl) (by omega) (Or.inl rfl) rfl ?_
          refine gr_aload_n dX2_readRules_30 rfl ?_
          refine gr_iconst dX2_readRules_31 ?_
          refine gr_bipush dX2_readRules_32 (by decide) ?_
          have fr1 : gx_fr I (gw_U I1 8 2 r) := fun b i x y z => by rw [gw_U_n (by omega)]; exact h1f b i (by omega)
          have T1' := gx_T_fr fr1 hT
          refine gr_virt dX2_readRules_34 kX2_82 (as := [_, _]) rfl rfl (by first | assumption | rfl) (by omega) (Nat.le_of_ble_eq_true rfl) (gw_Rm_m (by omega) (by decide) (by decide)) (c_nextIsNumber (p := e1) d hF' T1'.1 (by omega) (by rw [gw_U_n (by omega)]; exact p1) (by unfold gw_in; omega) (by unfold gw_in; omega)) ?_
          rintro _ _ ⟨r2, I2, rfl, rfl, h2, h2s, h2f⟩
          rw [T1'.2] at h2 h2s
          have B1 : gb_B (gw_U I1 8 2 r) 2 := by
            intro p hp
            rw [gw_U_n (by omega), gw_U_n (by omega), gw_U_n (by omega), gw_U_n (by omega), gw_U_n (by omega), q1 (2 + 1) (by omega), q1 (2 + 2) (by omega), q1 (2 + 3) (by omega), q1 (2 + 4) (by omega), q1 (2 + 5) (by omega)]
            exact hB p hp
          have N1 : gp_N (gw_U I1 8 2 r 9) := by
            intro i hi
            rw [gw_U_n (by omega), q1 9 (by omega)]
            exact hN i hi
          rcases h2 with ⟨e2, b, hn2, rfl, p2, v2⟩ | ⟨hn2, rfl⟩
          · obtain ⟨j1, j2, j3, j4, -, -, -⟩ := gt_num_in hn2 (by omega)
            refine gr_if_ne 42 dX2_readRules_37 (by decide) (by unfold gw_in; omega) (fun h37 => ?_) (fun h37 => ?_)
            · refine gr_aload_n dX2_readRules_42 rfl ?_
              refine gr_getR dX2_readRules_43 fX2_21 (by first | assumption | rfl) (by omega) (by decide) rfl (by assumption) ?_
              refine gr_aload_n dX2_readRules_46 rfl ?_
              refine gr_getI dX2_readRules_47 fX2_45 (by first | assumption | rfl) (by omega) (by decide) rfl ?_
              rw [v2]
              refine gr_putI dX2_readRules_50 fX2_104 (by first | assumption | rfl) (by omega) (Or.inl rfl) rfl ?_
              refine gr_aload_n dX2_readRules_53 rfl ?_
              refine gr_iconst dX2_readRules_54 ?_
              refine gr_putI dX2_readRules_55 fX2_48 (by first | assumption | rfl) (by omega) (Or.inr ⟨rfl, (by omega)⟩) rfl ?_
              refine gr_aload_n dX2_readRules_58 rfl ?_
              generalize hI4 : gw_U (gw_U I2 8 3 b) 1 9 1 = I4
              have v4 : ∀ x i, I4 x i = if x = 1 ∧ i = 9 then 1 else if x = 8 ∧ i = 3 then b else if x = 8 ∧ i = 2 then r else if x = 1 ∧ 5 ≤ i ∧ i ≤ 8 then I2 x i else I x i := by
                intro x i
                rw [← hI4]
                unfold gw_U
                by_cases c1 : x = 1 ∧ i = 9
                · rw [if_pos c1, if_pos c1]
                · rw [if_neg c1, if_neg c1]
                  by_cases c2 : x = 8 ∧ i = 3
                  · rw [if_pos c2, if_pos c2]
                  · rw [if_neg c2, if_neg c2]
                    by_cases c3 : x = 1 ∧ 5 ≤ i ∧ i ≤ 8
                    · rw [if_neg (by omega), if_pos c3]
                    · rw [if_neg c3, h2f x i c3]
                      by_cases c4 : x = 8 ∧ i = 2
                      · rw [if_pos c4, c4.1, c4.2, gw_U_s]
                      · rw [if_neg c4, gw_U_n c4, h1f x i c3]
              have fr4 : gx_fr I I4 := fun x i h1 h2 h3 => by
                rw [v4, if_neg (by omega), if_neg (by omega), if_neg (by omega), if_neg (by omega)]
              have T4 := gx_T_fr fr4 hT
              have q4 : ∀ x, x ≠ 1 → x ≠ 8 → I4 x = I x := fun x h1 h2 => funext fun i => by rw [v4, if_neg (by omega), if_neg (by omega), if_neg (by omega), if_neg (by omega)]
              have st4 : gx_st I4 (gt_rul st r b) := by
                refine ⟨by rw [q4 2 (by omega) (by omega)]; exact s1, by rw [q4 2 (by omega) (by omega)]; exact s2, fun x p h1 h2 h3 => by rw [q4 (2 + x) (by omega) (by omega)]; exact s3 x p h1 h2 h3, ?_, fun i hi => by rw [q4 9 (by omega) (by omega)]; exact s5 i hi, ?_, ?_, ?_⟩
                · rw [v4]; simp; exact s4
                · rw [v4]; simp; rfl
                · rw [v4]; simp; rfl
                · rw [v4]; simp; rfl
              have ok4 : gt_ok (gt_rul st r b) := ⟨o1, o2, o3, o4, o5, ⟨g3, g4⟩, ⟨j3, j4⟩⟩
              have B4 : gb_B I4 2 := by
                intro p hp
                rw [q4 (2 + 1) (by omega) (by omega), q4 (2 + 2) (by omega) (by omega), q4 (2 + 3) (by omega) (by omega), q4 (2 + 4) (by omega) (by omega), q4 (2 + 5) (by omega) (by omega)]
                exact hB p hp
              have N4 : gp_N (I4 9) := by rw [q4 9 (by omega) (by omega)]; exact hN
              refine gr_virt dX2_readRules_59 kX2_90 (as := []) rfl rfl (by first | assumption | rfl) (by omega) (Nat.le_of_ble_eq_true rfl) (gw_Rm_m (by omega) (by decide) (by decide)) (c_nextEndsItem (p := e2) d hF' T4.1 (by omega) (by rw [v4]; simp; exact p2)) ?_
              rintro _ _ ⟨r6, I6, rfl, rfl, h6, h6s, h6f⟩
              have hres := gx_end_res (n := n) T4.2 fr4 B4 N4 st4 ok4 h6 h6s h6f
              have hgp : gt_rules (I 10) n st a = gt_end (I 10) n e2 (gt_rul st r b) := by
                unfold gt_rules
                rw [if_neg hq, hn1]
                dsimp only
                rw [hn2]
              rw [← hgp] at hres
              have hr6 : r6 = 0 ∨ r6 = 1 := by rcases h6 with ⟨-, -, h, -⟩ | ⟨-, h⟩ <;> omega
              refine gr_iret dX2_readRules_62 (Or.inr ⟨rfl, hr6⟩) (by decide) (by decide) ⟨r6, I6, rfl, rfl, hres⟩
            · omega
          · refine gr_if_ne 42 dX2_readRules_37 (by decide) (by unfold gw_in; omega) (fun h37 => ?_) (fun h37 => ?_)
            · omega
            · refine gr_iconst dX2_readRules_40 ?_
              refine gr_iret dX2_readRules_41 (Or.inr ⟨rfl, Or.inl rfl⟩) (by decide) (by decide) ⟨0, I2, rfl, rfl, ?_⟩
              have e : gt_rules (I 10) n st a = .inl (gt_sk (I 10) n e1) := by
                unfold gt_rules
                rw [if_neg hq, hn1]
                dsimp only
                rw [hn2]
              rw [e]
              exact gx_fail fr1 B1 N1 h2s h2f
        · omega
      · refine gr_if_ne 19 dX2_readRules_14 (by decide) (by unfold gw_in; omega) (fun h14 => ?_) (fun h14 => ?_)
        · omega
        · refine gr_iconst dX2_readRules_17 ?_
          refine gr_iret dX2_readRules_18 (Or.inr ⟨rfl, Or.inl rfl⟩) (by decide) (by decide) ⟨0, I1, rfl, rfl, ?_⟩
          have e : gt_rules (I 10) n st a = .inl (gt_sk (I 10) n (a + 1)) := by
            unfold gt_rules
            rw [if_neg hq, hn1]
          rw [e]
          exact gx_fail gx_fr_rf hB hN h1s h1f
end GX
