/-! Reader: readChord, readItem, read, add -/
section GX
variable {I : Nat → Nat → Int} {F : Nat → Nat → Option Nat} {n : Nat}
/-- reading a chord: nothing changed but the cursor and the notes so far -/
def gx_cf (I0 I : Nat → Nat → Int) : Prop := ∀ b i, ¬ (b = 1 ∧ 5 ≤ i ∧ i ≤ 8) → b ≠ 11 → I b i = I0 b i
theorem gx_semi {T : Nat → Int} {a : Nat} (hT : ∀ i, i < n → 0 ≤ T i ∧ T i ≤ 255) : gx_tok T n a = 59 ↔ (a < n ∧ T a = 59) := by
  unfold gx_tok gx_ntok
  split
  · omega
  · split
    · rename_i h1 h2
      have h3 := of_decide_eq_true h2
      split <;> omega
    · omega
theorem chord_step {I0 : Nat → Nat → Int} {i p : Nat} {x y z : Int} {st : gt_S} {a : Nat} (d : Nat) (hF : gx_K F) (hT0 : gx_T I0 n) (hcf : gx_cf I0 I) (hp : p ≤ n) (hat : I 1 5 = (p : Int)) (hi1 : 1 ≤ i) (hi3 : i ≤ 3) (hx : I 11 0 = x) (hy : I 11 1 = y) (hz : I 11 2 = z) (hb : ∀ j, j < 3 → -1 ≤ I 11 j ∧ I 11 j ≤ 60) (hx0 : 0 ≤ x) (hst : gx_st I0 st) (hok : gt_ok st) (hS : st.2.2.1 < 8) (hB : gb_B I0 2) (hN : gp_N (I0 9))
    (hs : gt_sk (I0 10) n p < n ∧ I0 10 (gt_sk (I0 10) n p) = 59 → gt_chord (I0 10) n st a = .inr (gt_sk (I0 10) n p + 1, gt_put st x y z))
    (hf : ¬ (gt_sk (I0 10) n p < n ∧ I0 10 (gt_sk (I0 10) n p) = 59) → (i = 3 ∨ gt_num (I0 10) n (I 11 (i - 1) + 1) 60 p = none) → gt_chord (I0 10) n st a = .inl (gt_sk (I0 10) n p))
    (kk : ¬ (gt_sk (I0 10) n p < n ∧ I0 10 (gt_sk (I0 10) n p) = 59) → i < 3 → ∀ (e : Nat) (v : Int) (I1 : Nat → Nat → Int), gt_num (I0 10) n (I 11 (i - 1) + 1) 60 p = some (e, v) → gx_cf I0 I1 → I1 1 5 = (e : Int) → (∀ j, I1 11 j = if j = i then v else I 11 j) → gw_G (gw_Cm jX2_readChord (d + 4) (gw_io F (fun r I' => gx_res I0 I' n (gt_chord (I0 10) n st a) r))) jX2_readChord 50 [some (.inr (some 1)), some (.inl ((i + 1 : Nat) : Int))] [] (114, I1, F) 0 0) :
    gw_G (gw_Cm jX2_readChord (d + 4) (gw_io F (fun r I' => gx_res I0 I' n (gt_chord (I0 10) n st a) r))) jX2_readChord 50 [some (.inr (some 1)), some (.inl (i : Int))] [] (114, I, F) 0 0 := by
  have hF' := hF
  obtain ⟨f0, f1, f3, f4, fb, fp⟩ := hF
  obtain ⟨fp1, fp2, fp3, fp4⟩ := id fp
  obtain ⟨hn, hn150, hle⟩ := id hT0
  obtain ⟨s1, s2, s3, s4, s5, s6, s7, s8⟩ := id hst
  obtain ⟨o1, o2, o3, o4, o5, o6, o7⟩ := id hok
  have e10 : I 10 = I0 10 := funext fun i => hcf 10 i (by omega) (by omega)
  have hT : gx_T I n := ⟨by rw [hcf 1 2 (by omega) (by omega)]; exact hn, hn150, fun i hi => by rw [e10]; exact hle i hi⟩
  have hs2 := gt_sk_in (T := I0 10) hp
  have htk := gx_tok_in (n := n) (a := gt_sk (I0 10) n p) hle
  refine gr_iload_n dX2_readChord_50 rfl ?_
  refine gr_iconst dX2_readChord_51 ?_
  refine gr_icmp_gt 144 dX2_readChord_52 (by decide) (by unfold gw_in; omega) (by unfold gw_in; omega) (fun h52 => ?_) (fun h52 => ?_)
  · omega
  · refine gr_aload_n dX2_readChord_55 rfl ?_
    refine gr_virt dX2_readChord_56 kX2_56 (as := []) rfl rfl (by first | assumption | rfl) (by omega) (Nat.le_of_ble_eq_true rfl) (gw_Rm_m (by omega) (by decide) (by decide)) (c_next (p := p) (d + 1) hF' hT hp hat) ?_
    rintro _ _ ⟨rfl, I1, rfl, hI1⟩
    unfold gx_nx at hI1
    rw [e10] at hI1
    have i7 : I1 1 7 = gx_tok (I0 10) n (gt_sk (I0 10) n p) := by rw [hI1]; simp
    have i8 : I1 1 8 = gx_vl (I0 10) n (gt_sk (I0 10) n p) (I 1 8) := by rw [hI1]; simp
    have i5 : I1 1 5 = ((gx_pos (I0 10) n (gt_sk (I0 10) n p) : Nat) : Int) := by rw [hI1]; simp
    have i6 : I1 1 6 = ((gt_sk (I0 10) n p : Nat) : Int) := by rw [hI1]; simp
    have q1 : ∀ b i, ¬ (b = 1 ∧ 5 ≤ i ∧ i ≤ 8) → I1 b i = I b i := fun b i h => by
      rw [hI1, if_neg (by omega), if_neg (by omega), if_neg (by omega), if_neg (by omega)]
    have cf1 : gx_cf I0 I1 := fun b i h1 h2 => (q1 b i h1).trans (hcf b i h1 h2)
    have fr1 : gx_fr I0 I1 := fun b i h1 h2 h3 => cf1 b i (by omega) h3
    have e11 : ∀ j, I1 11 j = I 11 j := fun j => q1 11 j (by omega)
    have v8 : I1 1 7 = -2 → gw_in (I1 1 8) := by
      rw [i7, i8]
      exact gx_v8 hs2.2 hle
    have B1 : gb_B I1 2 := by
      intro p hp
      rw [cf1 _ _ (by omega) (by omega), cf1 _ _ (by omega) (by omega), cf1 _ _ (by omega) (by omega), cf1 _ _ (by omega) (by omega), cf1 _ _ (by omega) (by omega)]
      exact hB p hp
    have N1 : gp_N (I1 9) := by
      intro i hi
      rw [cf1 _ _ (by omega) (by omega)]
      exact hN i hi
    have sm := gx_semi (n := n) (a := gt_sk (I0 10) n p) hle
    have e80 : I1 8 0 = (st.2.2.1 : Int) := by rw [cf1 8 0 (by omega) (by omega)]; exact s4
    have bb0 := hb 0 (by omega)
    have bb1 := hb 1 (by omega)
    have bb2 := hb 2 (by omega)
    refine gr_aload_n dX2_readChord_59 rfl ?_
    refine gr_getI dX2_readChord_60 fX2_42 (by first | assumption | rfl) (by omega) (by decide) rfl ?_
    rw [i7]
    refine gr_bipush dX2_readChord_63 (by decide) ?_
    refine gr_icmp_ne 102 dX2_readChord_65 (by decide) (by unfold gw_in; omega) (by unfold gw_in; omega) (fun h65 => ?_) (fun h65 => ?_)
    · have hns := fun h => h65 (sm.mpr h)
      refine gr_iload_n dX2_readChord_102 rfl ?_
      refine gr_iconst dX2_readChord_103 ?_
      -- no such note: the fault
      have bad : gt_chord (I0 10) n st a = .inl (gt_sk (I0 10) n p) → gw_G (gw_Cm jX2_readChord (d + 4) (gw_io F (fun r I' => gx_res I0 I' n (gt_chord (I0 10) n st a) r))) jX2_readChord 126 [some (.inr (some 1)), some (.inl (i : Int))] [] (114, I1, F) 0 0 := by
        intro hg
        refine gr_iconst dX2_readChord_126 ?_
        refine gr_iret dX2_readChord_127 (Or.inr ⟨rfl, Or.inl rfl⟩) (by decide) (by decide) ⟨0, I1, rfl, rfl, ?_⟩
        rw [hg]
        exact gx_fail fr1 B1 N1 i6 (fun _ _ _ => rfl)
      refine gr_icmp_eq 126 dX2_readChord_104 (by decide) (by unfold gw_in; omega) (by unfold gw_in; omega) (fun h104 => ?_) (fun h104 => ?_)
      · exact bad (hf hns (Or.inl (by omega)))
      · have hbi := hb (i - 1) (by omega)
        refine gr_aload_n dX2_readChord_107 rfl ?_
        refine gr_aload_n dX2_readChord_108 rfl ?_
        refine gr_getR dX2_readChord_109 fX2_33 (by first | assumption | rfl) (by omega) (by decide) rfl (by assumption) ?_
        refine gr_iload_n dX2_readChord_112 rfl ?_
        refine gr_iconst dX2_readChord_113 ?_
        refine gr_isub (v := ((i - 1 : Nat) : Int)) dX2_readChord_114 (by omega) ?_
        refine gr_iald (i := i - 1) dX2_readChord_115 rfl (by omega) rfl (by omega) (by decide) ?_
        rw [e11]
        refine gr_iconst dX2_readChord_116 ?_
        refine gr_iadd dX2_readChord_117 rfl ?_
        refine gr_bipush dX2_readChord_118 (by decide) ?_
        refine gr_virt dX2_readChord_120 kX2_98 (as := [_, _]) rfl rfl (by first | assumption | rfl) (by omega) (Nat.le_of_ble_eq_true rfl) (gw_Rm_m (by omega) (by decide) (by decide)) (c_isNumber (d + 2) (by rw [i7]; unfold gw_in; omega) v8 (by unfold gw_in; omega) (by unfold gw_in; omega)) ?_
        rintro _ _ ⟨rfl, rfl⟩
        obtain ⟨n1, n2⟩ := gx_num (lo := I 11 (i - 1) + 1) (hi := 60) (v0 := I 1 8) hp hle
        rw [← i7, ← i8] at n1 n2
        by_cases hc : I1 1 7 = -2 ∧ I 11 (i - 1) + 1 ≤ I1 1 8 ∧ I1 1 8 ≤ 60
        · rw [if_pos hc]
          refine gr_if_ne 128 dX2_readChord_123 (by decide) (by unfold gw_in; omega) (fun h123 => ?_) (fun h123 => ?_)
          · refine gr_aload_n dX2_readChord_128 rfl ?_
            refine gr_getR dX2_readChord_129 fX2_33 (by first | assumption | rfl) (by omega) (by decide) rfl (by assumption) ?_
            refine gr_iload_n dX2_readChord_132 rfl ?_
            refine gr_aload_n dX2_readChord_133 rfl ?_
            refine gr_getI dX2_readChord_134 fX2_45 (by first | assumption | rfl) (by omega) (by decide) rfl ?_
            refine gr_iast (i := i) dX2_readChord_137 (by first | assumption | rfl) (by omega) (by omega) (by omega) (by decide) ?_
            refine gr_iinc (v := ((i + 1 : Nat) : Int)) dX2_readChord_138 (by decide) rfl (by omega) ?_
            refine gr_goto 50 dX2_readChord_141 (by decide) ?_
            refine kk hns (by omega) _ _ _ (n1 hc) (fun b j h1 h2 => by rw [gw_U_n (by omega)]; exact cf1 b j h1 h2) (by rw [gw_U_n (by omega)]; exact i5) (fun j => ?_)
            unfold gw_U
            rw [e11]
            by_cases hj : j = i
            · rw [if_pos ⟨rfl, hj⟩, if_pos hj]
            · rw [if_neg (fun h => hj h.2), if_neg hj]
          · omega
        · rw [if_neg hc]
          refine gr_if_ne 128 dX2_readChord_123 (by decide) (by unfold gw_in; omega) (fun h123 => ?_) (fun h123 => ?_)
          · omega
          · exact bad (hf hns (Or.inr (n2 hc)))
    · have hse := sm.mp h65
      refine gr_aload_n dX2_readChord_68 rfl ?_
      refine gr_getR dX2_readChord_69 fX2_21 (by first | assumption | rfl) (by omega) (by decide) rfl (by assumption) ?_
      refine gr_aload_n dX2_readChord_72 rfl ?_
      refine gr_getR dX2_readChord_73 fX2_21 (by first | assumption | rfl) (by omega) (by decide) rfl (by assumption) ?_
      refine gr_getI dX2_readChord_76 fX2_93 (by first | assumption | rfl) (by omega) (by decide) rfl ?_
      rw [e80]
      refine gr_aload_n dX2_readChord_79 rfl ?_
      refine gr_getR dX2_readChord_80 fX2_33 (by first | assumption | rfl) (by omega) (by decide) rfl (by assumption) ?_
      refine gr_iconst dX2_readChord_83 ?_
      refine gr_iald (i := 0) dX2_readChord_84 (by first | assumption | rfl) (by omega) (by omega) (by omega) (by decide) ?_
      rw [e11, hx]
      refine gr_aload_n dX2_readChord_85 rfl ?_
      refine gr_getR dX2_readChord_86 fX2_33 (by first | assumption | rfl) (by omega) (by decide) rfl (by assumption) ?_
      refine gr_iconst dX2_readChord_89 ?_
      refine gr_iald (i := 1) dX2_readChord_90 (by first | assumption | rfl) (by omega) (by omega) (by omega) (by decide) ?_
      rw [e11, hy]
      refine gr_aload_n dX2_readChord_91 rfl ?_
      refine gr_getR dX2_readChord_92 fX2_33 (by first | assumption | rfl) (by omega) (by decide) rfl (by assumption) ?_
      refine gr_iconst dX2_readChord_95 ?_
      refine gr_iald (i := 2) dX2_readChord_96 (by first | assumption | rfl) (by omega) (by omega) (by omega) (by decide) ?_
      rw [e11, hz]
      refine gr_virt dX2_readChord_97 kX2_94 (as := [_, _, _, _]) rfl rfl (by first | assumption | rfl) (by omega) (Nat.le_of_ble_eq_true rfl) (gw_Rm_m (by omega) (by decide) (by decide)) (c_put (c := st.2.2.1) (d + 3) fp hS (by omega) (by omega)) ?_
      rintro _ _ ⟨rfl, I2, rfl, hI2⟩
      rw [e80] at hI2
      simp only [if_true] at hI2
      refine gr_iconst dX2_readChord_100 ?_
      refine gr_iret dX2_readChord_101 (Or.inr ⟨rfl, Or.inr rfl⟩) (by decide) (by decide) ⟨1, I2, rfl, rfl, ?_⟩
      rw [hs hse]
      have q2 : ∀ b, b ≠ 8 → b ≠ 9 → I2 b = I1 b := fun b h1 h2 => funext fun j => by rw [hI2, if_neg (by omega), if_neg (by omega), if_neg (by omega), if_neg (by omega)]
      have n9 : ∀ j, I2 9 j = if j = 3 * st.2.2.1 then x else if j = 3 * st.2.2.1 + 1 then y else if j = 3 * st.2.2.1 + 2 then z else I0 9 j := fun j => by
        rw [hI2, cf1 9 j (by omega) (by omega)]
        simp
      have q8 : ∀ j, j ≠ 0 → I2 8 j = I0 8 j := fun j hj => by
        rw [hI2, if_neg (by omega), if_neg (by omega), if_neg (by omega), if_neg (by omega)]
        exact cf1 8 j (by omega) (by omega)
      refine ⟨fun b j h1 h2 h3 => ?_, ?_, ?_, rfl, ?_, ?_, ?_, by omega⟩
      · rw [q2 b (by omega) (by omega)]; exact fr1 b j h1 h2 h3
      · intro p hp
        rw [q2 (2 + 1) (by omega) (by omega), q2 (2 + 2) (by omega) (by omega), q2 (2 + 3) (by omega) (by omega), q2 (2 + 4) (by omega) (by omega), q2 (2 + 5) (by omega) (by omega)]
        exact B1 p hp
      · intro j hj
        rw [n9]
        have := hN j hj
        split
        · omega
        · split
          · omega
          · split <;> omega
      · refine ⟨by rw [q2 2 (by omega) (by omega), cf1 2 0 (by omega) (by omega)]; exact s1, by rw [q2 2 (by omega) (by omega), cf1 2 1 (by omega) (by omega)]; exact s2, fun r p h1 h2 h3 => by rw [q2 (2 + r) (by omega) (by omega), cf1 _ _ (by omega) (by omega)]; exact s3 r p h1 h2 h3, ?_, fun j hj => ?_, by rw [q8 2 (by omega)]; exact s6, by rw [q8 3 (by omega)]; exact s7, by rw [q2 1 (by omega) (by omega), cf1 1 9 (by omega) (by omega)]; exact s8⟩
        · rw [hI2]; simp; rfl
        · have hj : j < 3 * (st.2.2.1 + 1) := hj
          show I2 9 j = if j = 3 * st.2.2.1 then x else if j = 3 * st.2.2.1 + 1 then y else if j = 3 * st.2.2.1 + 2 then z else st.2.2.2.1 j
          rw [n9]
          by_cases c0 : j = 3 * st.2.2.1
          · rw [if_pos c0, if_pos c0]
          · rw [if_neg c0, if_neg c0]
            by_cases c1 : j = 3 * st.2.2.1 + 1
            · rw [if_pos c1, if_pos c1]
            · rw [if_neg c1, if_neg c1]
              by_cases c2 : j = 3 * st.2.2.1 + 2
              · rw [if_pos c2, if_pos c2]
              · rw [if_neg c2, if_neg c2]
                exact s5 j (by omega)
      · refine ⟨o1, ?_, o3, o4, fun c hc => ?_, o6, o7⟩
        · show st.2.2.1 + 1 ≤ 8; omega
        · have hc : c < st.2.2.1 + 1 := hc
          unfold gt_put
          dsimp only
          by_cases hcs : c = st.2.2.1
          · subst hcs
            refine ⟨by rw [if_pos rfl]; exact hx0, fun j hj => ?_⟩
            rcases (show j = 0 ∨ j = 1 ∨ j = 2 by omega) with rfl | rfl | rfl
            · rw [if_pos (show 3 * st.2.2.1 + 0 = 3 * st.2.2.1 by omega)]; omega
            · rw [if_neg (by omega), if_pos rfl]; omega
            · rw [if_neg (by omega), if_neg (by omega), if_pos rfl]; omega
          · obtain ⟨z1, z2⟩ := o5 c (by omega)
            refine ⟨by rw [if_neg (by omega), if_neg (by omega), if_neg (by omega)]; exact z1, fun j hj => ?_⟩
            rw [if_neg (by omega), if_neg (by omega), if_neg (by omega)]
            exact z2 j hj
      · rw [q2 1 (by omega) (by omega), i5]
        unfold gx_pos
        rw [if_neg (by omega), if_neg (by rw [hse.2]; decide)]
theorem c_readChord {a : Nat} {st : gt_S} (d : Nat) (hF : gx_K F) (hT : gx_T I n) (ha : a < n) (hat : I 1 5 = ((a + 1 : Nat) : Int)) (hst6 : I 1 6 = (a : Int)) (hst : gx_st I st) (hok : gt_ok st) (hB : gb_B I 2) (hN : gp_N (I 9)) : gw_Met jX2_readChord (d + 4) [.inr (some 1)] (114, I, F) (gw_io F (fun r I' => gx_res I I' n (gt_chord (I 10) n st a) r)) := by
  have hF' := hF
  obtain ⟨f0, f1, f3, f4, fb, fp⟩ := hF
  obtain ⟨fp1, fp2, fp3, fp4⟩ := id fp
  obtain ⟨hn, hn150, hle⟩ := id hT
  obtain ⟨s1, s2, s3, s4, s5, s6, s7, s8⟩ := id hst
  obtain ⟨o1, o2, o3, o4, o5, o6, o7⟩ := id hok
  refine gw_enter okX2_readChord rfl (Nat.le_of_ble_eq_true rfl) ?_
  refine gr_aload_n dX2_readChord_0 rfl ?_
  refine gr_getR dX2_readChord_1 fX2_21 (by first | assumption | rfl) (by omega) (by decide) rfl (by assumption) ?_
  refine gr_getI dX2_readChord_4 fX2_93 (by first | assumption | rfl) (by omega) (by decide) rfl ?_
  rw [s4]
  refine gr_bipush dX2_readChord_7 (by decide) ?_
  refine gr_icmp_ge 22 dX2_readChord_9 (by decide) (by unfold gw_in; omega) (by unfold gw_in; omega) (fun h9 => ?_) (fun h9 => ?_)
  · have hS : st.2.2.1 = 8 := by omega
    refine gr_iconst dX2_readChord_22 ?_
    refine gr_iret dX2_readChord_23 (Or.inr ⟨rfl, Or.inl rfl⟩) (by decide) (by decide) ⟨0, I, rfl, rfl, ?_⟩
    unfold gt_chord
    rw [if_pos hS]
    exact gx_fail gx_fr_rf hB hN hst6 (fun _ _ _ => rfl)
  · have hS : ¬ st.2.2.1 = 8 := by omega
    refine gr_aload_n dX2_readChord_12 rfl ?_
    refine gr_iconst dX2_readChord_13 ?_
    refine gr_bipush dX2_readChord_14 (by decide) ?_
    refine gr_virt dX2_readChord_16 kX2_82 (as := [_, _]) rfl rfl (by first | assumption | rfl) (by omega) (Nat.le_of_ble_eq_true rfl) (gw_Rm_m (by omega) (by decide) (by decide)) (c_nextIsNumber (p := a + 1) d hF' hT (by omega) hat (by unfold gw_in; omega) (by unfold gw_in; omega)) ?_
    rintro _ _ ⟨r1, I1, rfl, rfl, h1, h1s, h1f⟩
    rcases h1 with ⟨e1, x, hn1, rfl, p1, v1⟩ | ⟨hn1, rfl⟩
    · obtain ⟨g1, g2, g3, g4, g5, g6, -⟩ := gt_num_in hn1 (by omega)
      refine gr_if_ne 24 dX2_readChord_19 (by decide) (by unfold gw_in; omega) (fun h19 => ?_) (fun h19 => ?_)
      · refine gr_aload_n dX2_readChord_24 rfl ?_
        refine gr_getR dX2_readChord_25 fX2_33 (by first | assumption | rfl) (by omega) (by decide) rfl (by assumption) ?_
        refine gr_iconst dX2_readChord_28 ?_
        refine gr_aload_n dX2_readChord_29 rfl ?_
        refine gr_getI dX2_readChord_30 fX2_45 (by first | assumption | rfl) (by omega) (by decide) rfl ?_
        rw [v1]
        refine gr_iast (i := 0) dX2_readChord_33 (by first | assumption | rfl) (by omega) (by omega) (by omega) (by decide) ?_
        refine gr_aload_n dX2_readChord_34 rfl ?_
        refine gr_getR dX2_readChord_35 fX2_33 (by first | assumption | rfl) (by omega) (by decide) rfl (by assumption) ?_
        refine gr_iconst dX2_readChord_38 ?_
        refine gr_iconst dX2_readChord_39 ?_
        refine gr_iast (i := 1) dX2_readChord_40 (by first | assumption | rfl) (by omega) (by omega) (by omega) (by decide) ?_
        refine gr_aload_n dX2_readChord_41 rfl ?_
        refine gr_getR dX2_readChord_42 fX2_33 (by first | assumption | rfl) (by omega) (by decide) rfl (by assumption) ?_
        refine gr_iconst dX2_readChord_45 ?_
        refine gr_iconst dX2_readChord_46 ?_
        refine gr_iast (i := 2) dX2_readChord_47 (by first | assumption | rfl) (by omega) (by omega) (by omega) (by decide) ?_
        refine gr_iconst dX2_readChord_48 ?_
        refine gr_istore_n dX2_readChord_49 (by decide) ?_
        generalize hI2 : gw_U (gw_U (gw_U I1 11 0 x) 11 1 (-1)) 11 2 (-1) = I2
        have v2 : ∀ b j, b ≠ 11 → I2 b j = I1 b j := fun b j hb => by rw [← hI2, gw_U_n (by omega), gw_U_n (by omega), gw_U_n (by omega)]
        have c0 : I2 11 0 = x := by rw [← hI2]; unfold gw_U; simp
        have c1 : I2 11 1 = -1 := by rw [← hI2]; unfold gw_U; simp
        have c2 : I2 11 2 = -1 := by rw [← hI2]; unfold gw_U; simp
        have cf2 : gx_cf I I2 := fun b j h1 h2 => (v2 b j h2).trans (h1f b j h1)
        refine chord_step (i := 1) (p := e1) (x := x) (y := -1) (z := -1) (st := st) (a := a) d hF' hT cf2 (by omega) (by rw [v2 1 5 (by omega)]; exact p1) (by omega) (by omega) c0 c1 c2 (fun j hj => by rcases (show j = 0 ∨ j = 1 ∨ j = 2 by omega) with rfl | rfl | rfl <;> omega) (by omega) hst hok (by omega) hB hN ?_ ?_ ?_
        · intro hse
          unfold gt_chord
          rw [if_neg hS, hn1]
          dsimp only
          rw [if_pos hse]
        · intro hse hno
          unfold gt_chord
          rw [if_neg hS, hn1]
          dsimp only
          rw [if_neg hse]
          rcases hno with h | h
          · omega
          · rw [show 1 - 1 = 0 from rfl, c0] at h
            rw [h]
        · intro hse1 _ e2 y I3 hn2 cf3 p3 hc3
          rw [show 1 - 1 = 0 from rfl, c0] at hn2
          obtain ⟨j1, j2, j3, j4, j5, j6, -⟩ := gt_num_in hn2 (by omega)
          have d0 : I3 11 0 = x := by rw [hc3, if_neg (by omega)]; exact c0
          have d1 : I3 11 1 = y := by rw [hc3, if_pos rfl]
          have d2 : I3 11 2 = -1 := by rw [hc3, if_neg (by omega)]; exact c2
          refine chord_step (i := 2) (p := e2) (x := x) (y := y) (z := -1) (st := st) (a := a) d hF' hT cf3 (by omega) p3 (by omega) (by omega) d0 d1 d2 (fun j hj => by rcases (show j = 0 ∨ j = 1 ∨ j = 2 by omega) with rfl | rfl | rfl <;> omega) (by omega) hst hok (by omega) hB hN ?_ ?_ ?_
          · intro hse
            unfold gt_chord
            rw [if_neg hS, hn1]
            dsimp only
            rw [if_neg hse1, hn2]
            dsimp only
            rw [if_pos hse]
          · intro hse hno
            unfold gt_chord
            rw [if_neg hS, hn1]
            dsimp only
            rw [if_neg hse1, hn2]
            dsimp only
            rw [if_neg hse]
            rcases hno with h | h
            · omega
            · rw [show 2 - 1 = 1 from rfl, d1] at h
              rw [h]
          · intro hse2 _ e3 z I4 hn3 cf4 p4 hc4
            rw [show 2 - 1 = 1 from rfl, d1] at hn3
            obtain ⟨k1, k2, k3, k4, k5, k6, -⟩ := gt_num_in hn3 (by omega)
            have t0 : I4 11 0 = x := by rw [hc4, if_neg (by omega)]; exact d0
            have t1 : I4 11 1 = y := by rw [hc4, if_neg (by omega)]; exact d1
            have t2 : I4 11 2 = z := by rw [hc4, if_pos rfl]
            refine chord_step (i := 3) (p := e3) (x := x) (y := y) (z := z) (st := st) (a := a) d hF' hT cf4 (by omega) p4 (by omega) (by omega) t0 t1 t2 (fun j hj => by rcases (show j = 0 ∨ j = 1 ∨ j = 2 by omega) with rfl | rfl | rfl <;> omega) (by omega) hst hok (by omega) hB hN ?_ ?_ ?_
            · intro hse
              unfold gt_chord
              rw [if_neg hS, hn1]
              dsimp only
              rw [if_neg hse1, hn2]
              dsimp only
              rw [if_neg hse2, hn3]
              dsimp only
              rw [if_pos hse]
            · intro hse _
              unfold gt_chord
              rw [if_neg hS, hn1]
              dsimp only
              rw [if_neg hse1, hn2]
              dsimp only
              rw [if_neg hse2, hn3]
              dsimp only
              rw [if_neg hse]
            · intro _ h
              omega
      · omega
    · refine gr_if_ne 24 dX2_readChord_19 (by decide) (by unfold gw_in; omega) (fun h19 => ?_) (fun h19 => ?_)
      · omega
      · refine gr_iconst dX2_readChord_22 ?_
        refine gr_iret dX2_readChord_23 (Or.inr ⟨rfl, Or.inl rfl⟩) (by decide) (by decide) ⟨0, I1, rfl, rfl, ?_⟩
        have e : gt_chord (I 10) n st a = .inl (gt_sk (I 10) n (a + 1)) := by
          unfold gt_chord
          rw [if_neg hS, hn1]
        rw [e]
        exact gx_fail gx_fr_rf hB hN h1s h1f
end GX
