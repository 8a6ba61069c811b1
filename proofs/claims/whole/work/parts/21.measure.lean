/-! Search: carry by codes; measure, needed -/
theorem gs_ch_8 {P : Nat} {B : Nat → Nat → Int} {N : Nat → Int} {set c p i : Nat} (hi : i < (gs_ch P B N set c p).length) : (gs_ch P B N set c p).getD i 0 < 8 := by
  have hm := gs_ch_lt (List.getElem_mem hi)
  rw [List.getD_eq_getElem?_getD, List.getElem?_eq_getElem hi]
  exact Nat.lt_of_lt_of_le hm (by omega)
theorem gs_len4 (f : Nat → List Nat) : (gs_sp f 4).length = (((f 0).length * (f 1).length) * (f 2).length) * (f 3).length := by
  have l1 : (gs_sp f 1).length = (f 0).length := by rw [gs_len]; exact Nat.one_mul _
  rw [gs_len, gs_len, gs_len, l1]
/-- what carry leaves in the row, by codes -/
def gq_cc (I I' : Nat → Nat → Int) (L L' : List Nat) (c c' : Nat) (wm : Int) : Prop := (∀ a i, a ≠ 66 → a ≠ 67 → I' a i = I a i) ∧ ∀ t, t < L'.length → (0 ≤ I' 66 t ∧ I' 66 t ≤ gs_NEVER) ∧ ∀ b : Int, I' 66 t ≤ b ↔ (gs_NEVER ≤ b ∨ ∃ s, s < L.length ∧ gs_can (gq_B I) (I 20) (I 19 2) c (L.getD s 0) c' (L'.getD t 0) = true ∧ I 66 s + (if wm = 1 then gs_tot (gq_B I) (I 20) (I 19 2) c (L.getD s 0) c' (L'.getD t 0) else 0) ≤ b)
theorem gq_cc_of {I I' : Nat → Nat → Int} {f g : Nat → List Nat} {c c' : Nat} {wm : Int} (hf8 : ∀ p, p < 4 → ∀ i, i < (f p).length → (f p).getD i 0 < 8) (hg8 : ∀ p, p < 4 → ∀ i, i < (g p).length → (g p).getD i 0 < 8) (h : gq_carried I I' f g c c' wm) : gq_cc I I' (gs_sp f 4) (gs_sp g 4) c c' wm := by
  refine ⟨h.1, fun t ht => ?_⟩
  obtain ⟨y0, y1, y2, y3, h0, h1, h2, h3, rfl⟩ := gs_uncode ht
  obtain ⟨h4, h5⟩ := h.2 y0 y1 y2 y3 h0 h1 h2 h3
  refine ⟨h4, fun b => ?_⟩
  rw [h5 b]
  have hy := (gs_code h0 h1 h2 h3).2
  obtain ⟨g0, g1, g2, g3⟩ := gs_hd_code (hg8 1 (by omega) y1 h1) (hg8 2 (by omega) y2 h2) (hg8 3 (by omega) y3 h3) (hg8 0 (by omega) y0 h0)
  rw [hy]
  constructor
  · rintro (h | ⟨x0, x1, x2, x3, a0, a1, a2, a3, w0, w1, w2, w3, hb⟩)
    · exact Or.inl h
    · obtain ⟨hx1, hx⟩ := gs_code a0 a1 a2 a3
      obtain ⟨e0, e1, e2, e3⟩ := gs_hd_code (hf8 1 (by omega) x1 a1) (hf8 2 (by omega) x2 a2) (hf8 3 (by omega) x3 a3) (hf8 0 (by omega) x0 a0)
      refine Or.inr ⟨_, hx1, ?_, ?_⟩
      · rw [hx]
        unfold gs_can
        rw [e0, e1, e2, e3, g0, g1, g2, g3]
        exact decide_eq_true ⟨w0, w1, w2, w3⟩
      · rw [hx]
        unfold gs_tot
        rw [e0, e1, e2, e3, g0, g1, g2, g3]
        exact hb
  · rintro (h | ⟨s, hs, hc, hb⟩)
    · exact Or.inl h
    · obtain ⟨x0, x1, x2, x3, a0, a1, a2, a3, rfl⟩ := gs_uncode hs
      obtain ⟨hx1, hx⟩ := gs_code a0 a1 a2 a3
      obtain ⟨e0, e1, e2, e3⟩ := gs_hd_code (hf8 1 (by omega) x1 a1) (hf8 2 (by omega) x2 a2) (hf8 3 (by omega) x3 a3) (hf8 0 (by omega) x0 a0)
      rw [hx] at hc hb
      unfold gs_can at hc
      unfold gs_tot at hb
      rw [e0, e1, e2, e3, g0, g1, g2, g3] at hc hb
      have hc := of_decide_eq_true hc
      exact Or.inr ⟨x0, x1, x2, x3, a0, a1, a2, a3, hc.1, hc.2.1, hc.2.2.1, hc.2.2.2, hb⟩
theorem gs_gap_nn {B : Nat → Nat → Int} {n k : Nat} (hB : gs_B B) (hn : n ≤ 3) (h1 : 1 ≤ n) : 0 ≤ gs_gap B n k := by
  have h := fun i => gs_ld_in hB i 4 k (by omega)
  have a0 := h 0
  have a1 := h 1
  have a2 := h 2
  unfold gs_gap gs_gp
  rcases (show n = 1 ∨ n = 2 ∨ n = 3 by omega) with rfl | rfl | rfl
  · simp only [gs_mx, gs_mi, gs_NEVER]
    grind
  · simp only [gs_mx, gs_mi, gs_NEVER]
    grind
  · simp only [gs_mx, gs_mi, gs_NEVER]
    grind
/-- the chords have notes -/
def gq_ne (I : Nat → Nat → Int) : Prop := ∀ c : Nat, (c : Int) < I 19 0 → 1 ≤ gp_cnt (I 20) c
theorem gq_gap_congr {I I1 : Nat → Nat → Int} {n k : Nat} (e : ∀ a, a < 21 → I1 a = I a) : gs_gap (gq_B I1) n k = gs_gap (gq_B I) n k := by
  have e2 : ∀ i p k, gs_ld (gq_B I1) i p k = gs_ld (gq_B I) i p k := by
    intro i p
    induction p with
    | zero => intro k; rfl
    | succ p ih =>
      intro k
      simp only [gs_ld, ih, gb_str, gq_B, e (13 + (0 + 4)) (by omega)]
  unfold gs_gap
  simp only [e2]
theorem gq_ch_congr {I I1 : Nat → Nat → Int} {P set c : Nat} (e : ∀ a, a < 21 → I1 a = I a) : gs_ch P (gq_B I1) (I1 20) set c = gs_ch P (gq_B I) (I 20) set c := by
  funext p
  unfold gs_ch
  apply List.filter_congr
  intro h _
  unfold gs_ok gb_man gq_B
  simp only [e (13 + (0 + 1)) (by omega), e (13 + (0 + 2)) (by omega), e (13 + (0 + 3)) (by omega), e (13 + (0 + 5)) (by omega), e 20 (by omega)]
theorem gq_can_congr {I I1 : Nat → Nat → Int} {c k c' k' : Nat} (e : ∀ a, a < 21 → I1 a = I a) : gs_can (gq_B I1) (I1 20) (I1 19 2) c k c' k' = gs_can (gq_B I) (I 20) (I 19 2) c k c' k' := by
  unfold gs_can
  simp only [gq_way_congr e]
theorem gq_tot_congr {I I1 : Nat → Nat → Int} {c k c' k' : Nat} (e : ∀ a, a < 21 → I1 a = I a) : gs_tot (gq_B I1) (I1 20) (I1 19 2) c k c' k' = gs_tot (gq_B I) (I 20) (I 19 2) c k c' k' := by
  unfold gs_tot
  simp only [gq_way_congr e]
section GQ
variable {I : Nat → Nat → Int} {F : Nat → Nat → Option Nat}
/-- what measure leaves -/
def gq_need (I I' : Nat → Nat → Int) (P set n : Nat) : Prop := ∀ k, k ≤ n → (0 ≤ I' 68 k ∧ I' 68 k ≤ gs_NEVER) ∧ ∀ b : Int, 0 ≤ b → (I' 68 k ≤ b ↔ (gs_NEVER ≤ b ∨ gs_fea P (gq_B I) (I 20) (I 19 2) set b k = true))
theorem c_measure {set P S : Nat} (d : Nat) (hF : gq_K F) (hM : gq_M I) (hne : gq_ne I) (hset : set < 16) (hP : I 13 0 = (P : Int)) (hS : I 19 0 = (S : Int)) : gw_Met jX3_measure (d + 5) [.inr (some 12), .inl (set : Int)] (114, I, F) (gw_vo F (fun I' => (∀ a, a < 21 ∨ 55 ≤ a ∧ a < 64 ∨ 69 ≤ a → I' a = I a) ∧ gq_need I I' P set S)) := by
  have hF' := hF
  obtain ⟨f0, f1, f3, f4, f5, f6, f7, f8, f9, f10, f11, f21, f55, fb, fp⟩ := hF
  obtain ⟨hB, hN, ⟨hP0, hP4⟩, ⟨hS0, hS8⟩, hrest, hbal, hbw⟩ := id hM
  obtain ⟨fp1, fp2, fp3, fp4⟩ := id fp
  have hbw' : gb_bw (gq_B I 1) P ≤ 2 := by
    rw [hP] at hbw
    exact hbw
  have hNv : gs_NEVER = 67108864 := rfl
  have hlen : ∀ c, (gs_SP P (gq_B I) (I 20) set c).length ≤ 784 := fun c => gs_SP_len (by omega) hbw'
  generalize hQ : gw_vo F (fun I' => (∀ a, a < 21 ∨ 55 ≤ a ∧ a < 64 ∨ 69 ≤ a → I' a = I a) ∧ gq_need I I' P set S) = Q
  refine gw_enter okX3_measure rfl (Nat.le_of_ble_eq_true rfl) ?_
  refine gr_aload_n dX3_measure_0 rfl ?_
  refine gr_getR dX3_measure_1 fX3_53 (by first | assumption | rfl) (by omega) (by decide) rfl (by assumption) ?_
  refine gr_iconst dX3_measure_4 ?_
  refine gr_iconst dX3_measure_5 ?_
  refine gr_iast (i := 0) dX3_measure_6 (by first | assumption | rfl) (by omega) (by omega) (by omega) (by decide) ?_
  refine gr_iconst dX3_measure_7 ?_
  refine gr_istore_n dX3_measure_8 (by decide) ?_
  have key : ∀ (n c : Nat) (I2 : Nat → Nat → Int) (x3 x4 x5 : Option gw_V), c + n = S → (∀ a, a < 21 ∨ 55 ≤ a ∧ a < 64 ∨ 69 ≤ a → I2 a = I a) → gq_need I I2 P set c → (∀ c0, c = c0 + 1 → gq_off I2 (gs_ch P (gq_B I) (I 20) set c0) c0 ∧ ∀ t, t < (gs_SP P (gq_B I) (I 20) set c0).length → (0 ≤ I2 66 t ∧ I2 66 t ≤ gs_NEVER) ∧ ∀ b : Int, 0 ≤ b → (I2 66 t ≤ b ↔ (gs_NEVER ≤ b ∨ gs_fwd P (gq_B I) (I 20) (I 19 2) set b c0 ((gs_SP P (gq_B I) (I 20) set c0).getD t 0) = true))) → gw_G (gw_Cm jX3_measure (d + 5) Q) jX3_measure 9 [some (.inr (some 12)), some (.inl (set : Int)), some (.inl (c : Int)), x3, x4, x5] [] (114, I2, F) 0 0 := by
    intro n
    induction n with
    | zero =>
      intro c I2 x3 x4 x5 hc h1 h2 h3
      have e0 : I2 19 0 = (S : Int) := by rw [h1 19 (by omega)]; exact hS
      refine gr_iload_n dX3_measure_9 rfl ?_
      refine gr_aload_n dX3_measure_10 rfl ?_
      refine gr_getR dX3_measure_11 fX3_21 (by first | assumption | rfl) (by omega) (by decide) rfl (by assumption) ?_
      refine gr_getI dX3_measure_14 fX3_136 (by first | assumption | rfl) (by omega) (by decide) rfl ?_
      rw [e0]
      refine gr_icmp_ge 130 dX3_measure_17 (by decide) (by unfold gw_in; omega) (by unfold gw_in; omega) (fun h17 => ?_) (fun h17 => ?_)
      · have hc : c = S := by omega
        subst hc
        refine gr_vret dX3_measure_130 rfl (by decide) (by decide) ((by rw [← hQ]; exact ⟨rfl, _, rfl, h1, h2⟩))
      · omega
    | succ n ih =>
      intro c I2 x3 x4 x5 hc h1 h2 h3
      have e0 : I2 19 0 = (S : Int) := by rw [h1 19 (by omega)]; exact hS
      have u2 : ∀ a, a < 21 → I2 a = I a := fun a ha => h1 a (Or.inl ha)
      have hM2 := gq_M_congr u2 hM
      have hcnt := gp_cnt_le (I 20) c
      have hcn1 := hne c (by omega)
      generalize hf : gs_ch P (gq_B I) (I 20) set c = f at *
      have hf1 : ∀ p, p < 4 → 0 < (f p).length := fun p _ => by rw [← hf]; exact gs_ch_pos
      have hf7 : ∀ p, p < 4 → (f p).length ≤ 7 := fun p _ => by rw [← hf]; exact gs_ch_len7
      have hf8 : ∀ p, p < 4 → ∀ i, i < (f p).length → (f p).getD i 0 < 8 := fun p _ i hi => by rw [← hf] at hi ⊢; exact gs_ch_8 hi
      have hfl : (gs_sp f 4).length ≤ 784 := by rw [← hf]; exact hlen c
      refine gr_iload_n dX3_measure_9 rfl ?_
      refine gr_aload_n dX3_measure_10 rfl ?_
      refine gr_getR dX3_measure_11 fX3_21 (by first | assumption | rfl) (by omega) (by decide) rfl (by assumption) ?_
      refine gr_getI dX3_measure_14 fX3_136 (by first | assumption | rfl) (by omega) (by decide) rfl ?_
      rw [e0]
      refine gr_icmp_ge 130 dX3_measure_17 (by decide) (by unfold gw_in; omega) (by unfold gw_in; omega) (fun h17 => ?_) (fun h17 => ?_)
      · omega
      · refine gr_aload_n dX3_measure_20 rfl ?_
        refine gr_iload_n dX3_measure_21 rfl ?_
        refine gr_iload_n dX3_measure_22 rfl ?_
        refine gr_virt dX3_measure_23 kX3_59 (as := [_, _]) rfl rfl (by first | assumption | rfl) (by omega) (Nat.le_of_ble_eq_true rfl) (gw_Rm_m (by omega) (by decide) (by decide)) (c_offer (c := c) (set := set) (P := P) (d + 1) hF' hM2 (by omega) hset (by rw [u2 13 (by omega)]; exact hP)) ?_
        rintro _ _ ⟨rfl, I3, rfl, hI3⟩
        rw [gq_ch_congr u2, hf] at hI3
        have h13 : ∀ a, a < 21 ∨ 55 ≤ a → I3 a = I2 a := fun a ha => funext fun i => hI3.2 a i (by omega) (by omega)
        have u3 : ∀ a, a < 21 → I3 a = I a := fun a ha => by rw [h13 a (Or.inl ha), u2 a ha]
        refine gr_aload_n dX3_measure_26 rfl ?_
        refine gr_iload_n dX3_measure_27 rfl ?_
        refine gr_virt dX3_measure_28 kX3_63 (as := [_]) rfl rfl (by first | assumption | rfl) (by omega) (Nat.le_of_ble_eq_true rfl) (gw_Rm_m (by omega) (by decide) (by decide)) (c_findGaps (c := c) (f := f) (d + 1) hF' (gq_M_congr u3 hM) (by omega) hI3.1 hf1 hf7 hf8 hfl) ?_
        rintro _ _ ⟨r, I4, rfl, rfl, rfl, hI4, hg⟩
        rw [u3 20 (by omega)] at hg
        simp only [gq_gap_congr u3] at hg
        have u4 : ∀ a, a < 21 → I4 a = I a := fun a ha => by rw [← u3 a ha]; exact funext fun i => hI4 a i (by omega) (by omega)
        have hM4 := gq_M_congr u4 hM
        refine gr_istore_n dX3_measure_31 (by decide) ?_
        refine gr_iload_n dX3_measure_32 rfl ?_
        -- the row of the chord, ahead of its gaps
        have tail : ∀ I5 : Nat → Nat → Int, (∀ a i, a ≠ 66 → a ≠ 67 → I5 a i = I4 a i) → (∀ t, t < (gs_sp f 4).length → (0 ≤ I5 66 t ∧ I5 66 t ≤ gs_NEVER) ∧ ∀ b : Int, 0 ≤ b → ((I5 66 t ≤ b ∧ gs_gap (gq_B I) (gp_cnt (I 20) c) ((gs_sp f 4).getD t 0) ≤ b) ↔ (gs_NEVER ≤ b ∨ gs_fwd P (gq_B I) (I 20) (I 19 2) set b c ((gs_sp f 4).getD t 0) = true))) → gw_G (gw_Cm jX3_measure (d + 5) Q) jX3_measure 57 [some (.inr (some 12)), some (.inl (set : Int)), some (.inl (c : Int)), some (.inl ((gs_sp f 4).length : Int)), x4, x5] [] (114, I5, F) 0 0 := by
          intro I5 h5 h6
          refine gr_ldc dX3_measure_57 nX3_99 ?_
          refine gr_istore dX3_measure_59 (by decide) ?_
          refine gr_iconst dX3_measure_61 ?_
          refine gr_istore dX3_measure_62 (by decide) ?_
          have loop : ∀ (m t : Nat) (I6 : Nat → Nat → Int) (lw : Int), t + m = (gs_sp f 4).length → (∀ a i, a ≠ 66 → a ≠ 67 → I6 a i = I4 a i) → (∀ s, t ≤ s → I6 66 s = I5 66 s) → (∀ s, s < t → (0 ≤ I6 66 s ∧ I6 66 s ≤ gs_NEVER) ∧ ∀ b : Int, 0 ≤ b → (I6 66 s ≤ b ↔ (gs_NEVER ≤ b ∨ gs_fwd P (gq_B I) (I 20) (I 19 2) set b c ((gs_sp f 4).getD s 0) = true))) → (0 ≤ lw ∧ lw ≤ gs_NEVER) → (∀ b : Int, lw ≤ b ↔ (gs_NEVER ≤ b ∨ ∃ s, s < t ∧ I6 66 s ≤ b)) → gw_G (gw_Cm jX3_measure (d + 5) Q) jX3_measure 64 [some (.inr (some 12)), some (.inl (set : Int)), some (.inl (c : Int)), some (.inl ((gs_sp f 4).length : Int)), some (.inl lw), some (.inl (t : Int))] [] (114, I6, F) 0 0 := by
            intro m
            induction m with
            | zero =>
              intro t I6 lw ht g1 g2 g3 g4 g5
              have ht : t = (gs_sp f 4).length := by omega
              subst ht
              refine gr_iload dX3_measure_64 rfl ?_
              refine gr_iload_n dX3_measure_66 rfl ?_
              refine gr_icmp_ge 114 dX3_measure_67 (by decide) (by unfold gw_in; omega) (by unfold gw_in; omega) (fun h67 => ?_) (fun h67 => ?_)
              · refine gr_aload_n dX3_measure_114 rfl ?_
                refine gr_getR dX3_measure_115 fX3_53 (by first | assumption | rfl) (by omega) (by decide) rfl (by assumption) ?_
                refine gr_iload_n dX3_measure_118 rfl ?_
                refine gr_iconst dX3_measure_119 ?_
                refine gr_iadd (v := ((c + 1 : Nat) : Int)) dX3_measure_120 (by omega) ?_
                refine gr_iload dX3_measure_121 rfl ?_
                refine gr_iast (i := c + 1) dX3_measure_123 (by first | assumption | rfl) (by omega) (by omega) (by omega) (by decide) ?_
                refine gr_iinc (v := ((c + 1 : Nat) : Int)) dX3_measure_124 (by decide) rfl (by omega) ?_
                refine gr_goto 9 dX3_measure_127 (by decide) ?_
                refine ih (c + 1) _ _ _ _ (by omega) (fun a ha => ?_) (fun k hk => ?_) (fun c0 hc0 => ?_)
                · funext i
                  rw [gw_U_n (by omega), g1 a i (by omega) (by omega), hI4 a i (by omega) (by omega), h13 a (by omega), h1 a ha]
                · by_cases hkc : k = c + 1
                  · subst hkc
                    rw [gw_U_s]
                    refine ⟨g4, fun b hb => ?_⟩
                    rw [g5 b, ← gs_fb P (gq_B I) (I 20) (I 19 2) set b hN hrest c (by omega)]
                    constructor
                    · rintro (h | ⟨s, hs, hle⟩)
                      · exact Or.inl h
                      · rcases ((g3 s hs).2 b hb).mp hle with h | h
                        · exact Or.inl h
                        · refine Or.inr ⟨_, ?_, h⟩
                          rw [show gs_SP P (gq_B I) (I 20) set c = gs_sp f 4 by rw [← hf]]
                          rw [List.getD_eq_getElem?_getD, List.getElem?_eq_getElem hs]
                          exact List.getElem_mem hs
                    · rintro (h | ⟨k, hk, hfw⟩)
                      · exact Or.inl h
                      · rw [show gs_SP P (gq_B I) (I 20) set c = gs_sp f 4 by rw [← hf]] at hk
                        obtain ⟨s, hs, rfl⟩ := List.getElem_of_mem hk
                        refine Or.inr ⟨s, hs, ((g3 s hs).2 b hb).mpr (Or.inr ?_)⟩
                        rw [List.getD_eq_getElem?_getD, List.getElem?_eq_getElem hs]
                        exact hfw
                  · rw [gw_U_n (by omega), g1 68 k (by omega) (by omega), hI4 68 k (by omega) (by omega), h13 68 (by omega)]
                    exact h2 k (by omega)
                · have : c0 = c := by omega
                  subst this
                  rw [show gs_SP P (gq_B I) (I 20) set c0 = gs_sp f 4 by rw [← hf], hf]
                  refine ⟨gq_off_congr (by omega) (fun a i _ _ => by rw [gw_U_n (by omega), g1 a i (by omega) (by omega), hI4 a i (by omega) (by omega)]) hI3.1, fun t ht => ?_⟩
                  rw [gw_U_n (by omega)]
                  exact g3 t ht
              · omega
            | succ m ihm =>
              intro t I6 lw ht g1 g2 g3 g4 g5
              have e66 := g2 t (Nat.le_refl _)
              obtain ⟨q1, q2⟩ := h6 t (by omega)
              have e64 : I6 64 t = gs_gap (gq_B I) (gp_cnt (I 20) c) ((gs_sp f 4).getD t 0) := by
                rw [g1 64 t (by omega) (by omega)]; exact hg t (by omega)
              have hgn := gs_gap_nn (B := gq_B I) (k := (gs_sp f 4).getD t 0) hB hcnt hcn1
              have hgi := gs_gap_in (B := gq_B I) (n := gp_cnt (I 20) c) (k := (gs_sp f 4).getD t 0) hB hcnt
              refine gr_iload dX3_measure_64 rfl ?_
              refine gr_iload_n dX3_measure_66 rfl ?_
              refine gr_icmp_ge 114 dX3_measure_67 (by decide) (by unfold gw_in; omega) (by unfold gw_in; omega) (fun h67 => ?_) (fun h67 => ?_)
              · omega
              · refine gr_aload_n dX3_measure_70 rfl ?_
                refine gr_getR dX3_measure_71 fX3_47 (by first | assumption | rfl) (by omega) (by decide) rfl (by assumption) ?_
                refine gr_iload dX3_measure_74 rfl ?_
                refine gr_aload_n dX3_measure_76 rfl ?_
                refine gr_getR dX3_measure_77 fX3_47 (by first | assumption | rfl) (by omega) (by decide) rfl (by assumption) ?_
                refine gr_iload dX3_measure_80 rfl ?_
                refine gr_iald (i := t) dX3_measure_82 (by first | assumption | rfl) (by omega) (by omega) (by omega) (by decide) ?_
                refine gr_aload_n dX3_measure_83 rfl ?_
                refine gr_getR dX3_measure_84 fX3_41 (by first | assumption | rfl) (by omega) (by decide) rfl (by assumption) ?_
                refine gr_iload dX3_measure_87 rfl ?_
                refine gr_iald (i := t) dX3_measure_89 (by first | assumption | rfl) (by omega) (by omega) (by omega) (by decide) ?_
                rw [e66, e64]
                refine gr_mmax dX3_measure_90 mX3_100 mm_max1 mm_ini mm_max2 (gw_Rm_1 (by omega) (by decide) (by decide)) (by unfold gw_in; omega) (by unfold gw_in; omega) (Nat.le_of_ble_eq_true rfl) ?_
                generalize hmx : (if I5 66 t < gs_gap (gq_B I) (gp_cnt (I 20) c) ((gs_sp f 4).getD t 0) then gs_gap (gq_B I) (gp_cnt (I 20) c) ((gs_sp f 4).getD t 0) else I5 66 t) = mx
                have hmx2 : 0 ≤ mx ∧ mx ≤ gs_NEVER := by split at hmx <;> omega
                have hmx3 : ∀ b, mx ≤ b ↔ (I5 66 t ≤ b ∧ gs_gap (gq_B I) (gp_cnt (I 20) c) ((gs_sp f 4).getD t 0) ≤ b) := fun b => by split at hmx <;> omega
                refine gr_iast (i := t) dX3_measure_93 (by first | assumption | rfl) (by omega) (by omega) (by omega) (by decide) ?_
                refine gr_iload dX3_measure_94 rfl ?_
                refine gr_aload_n dX3_measure_96 rfl ?_
                refine gr_getR dX3_measure_97 fX3_47 (by first | assumption | rfl) (by omega) (by decide) rfl (by assumption) ?_
                refine gr_iload dX3_measure_100 rfl ?_
                refine gr_iald (i := t) dX3_measure_102 (by first | assumption | rfl) (by omega) (by omega) (by omega) (by decide) ?_
                rw [gw_U_s]
                refine gr_mmin dX3_measure_103 mX3_73 mm_min1 mm_ini mm_min2 (gw_Rm_1 (by omega) (by decide) (by decide)) (by unfold gw_in; omega) (by unfold gw_in; omega) (Nat.le_of_ble_eq_true rfl) ?_
                generalize hmi : (if mx < lw then mx else lw) = mi
                have hmi2 : 0 ≤ mi ∧ mi ≤ gs_NEVER := by split at hmi <;> omega
                have hmi3 : ∀ b, mi ≤ b ↔ (lw ≤ b ∨ mx ≤ b) := fun b => by split at hmi <;> omega
                refine gr_istore dX3_measure_106 (by decide) ?_
                refine gr_iinc (v := ((t + 1 : Nat) : Int)) dX3_measure_108 (by decide) rfl (by omega) ?_
                refine gr_goto 64 dX3_measure_111 (by decide) ?_
                refine ihm (t + 1) _ mi (by omega) (fun a i ha hb => by rw [gw_U_n (by omega)]; exact g1 a i ha hb) (fun s hs => by rw [gw_U_n (by omega)]; exact g2 s (by omega)) (fun s hs => ?_) hmi2 (fun b => ?_)
                · by_cases hst : s = t
                  · subst hst
                    rw [gw_U_s]
                    exact ⟨hmx2, fun b hb => by rw [hmx3 b, q2 b hb]⟩
                  · rw [gw_U_n (by omega)]
                    exact g3 s (by omega)
                · rw [hmi3 b, g5 b]
                  constructor
                  · rintro ((h | ⟨s, hs, hle⟩) | h)
                    · exact Or.inl h
                    · exact Or.inr ⟨s, by omega, by rw [gw_U_n (by omega)]; exact hle⟩
                    · exact Or.inr ⟨t, by omega, by rw [gw_U_s]; exact h⟩
                  · rintro (h | ⟨s, hs, hle⟩)
                    · exact Or.inl (Or.inl h)
                    · by_cases hst : s = t
                      · subst hst
                        rw [gw_U_s] at hle
                        exact Or.inr hle
                      · rw [gw_U_n (by omega)] at hle
                        exact Or.inl (Or.inr ⟨s, by omega, hle⟩)
          exact loop (gs_sp f 4).length 0 I5 gs_NEVER (by omega) h5 (fun s _ => rfl) (fun s hs => absurd hs (by omega)) ⟨by omega, by omega⟩ (fun b => ⟨fun h => Or.inl h, fun h => by rcases h with h | ⟨s, hs, -⟩ <;> omega⟩)
        refine gr_if_ne 48 dX3_measure_33 (by decide) (by unfold gw_in; omega) (fun h33 => ?_) (fun h33 => ?_)
        · obtain ⟨c0, hc0⟩ : ∃ c0, c = c0 + 1 := ⟨c - 1, by omega⟩
          subst hc0
          obtain ⟨k1, k2⟩ := h3 c0 rfl
          generalize hg0 : gs_ch P (gq_B I) (I 20) set c0 = g at k1
          have off4 : gq_off I4 g c0 := by
            intro p hp
            obtain ⟨j1, j2⟩ := k1 p hp
            exact ⟨by rw [hI4 _ _ (by omega) (by omega), hI3.2 _ _ (by omega) (by omega)]; exact j1, fun i hi => by rw [hI4 _ _ (by omega) (by omega), hI3.2 _ _ (by omega) (by omega)]; exact j2 i hi⟩
          have off4f : gq_off I4 f (c0 + 1) := gq_off_congr (by omega) (fun a i _ _ => hI4 a i (by omega) (by omega)) hI3.1
          have e66 : ∀ t, I4 66 t = I2 66 t := fun t => by rw [hI4 _ _ (by omega) (by omega), h13 66 (by omega)]
          have hg8 : ∀ p, p < 4 → ∀ i, i < (g p).length → (g p).getD i 0 < 8 := fun p _ i hi => by rw [← hg0] at hi ⊢; exact gs_ch_8 hi
          have hrw : ∀ t, t < (((g 0).length * (g 1).length) * (g 2).length) * (g 3).length → 0 ≤ I4 66 t ∧ I4 66 t ≤ gs_NEVER := fun t ht => by
            rw [← gs_len4, ← hg0] at ht
            rw [e66 t]
            exact (k2 t ht).1
          have hcp := gs_cap_of (P := P) (B := gq_B I) (N := I 20) (set := set) (c := c0) (c' := c0 + 1) (by omega) hbw'
          rw [hg0, hf] at hcp
          refine gr_aload_n dX3_measure_48 rfl ?_
          refine gr_iload_n dX3_measure_49 rfl ?_
          refine gr_iconst dX3_measure_50 ?_
          refine gr_isub (v := ((c0 : Nat) : Int)) dX3_measure_51 (by omega) ?_
          refine gr_iload_n dX3_measure_52 rfl ?_
          refine gr_iconst dX3_measure_53 ?_
          refine gr_virt dX3_measure_54 kX3_137 (as := [_, _, _]) rfl rfl (by first | assumption | rfl) (by omega) (Nat.le_of_ble_eq_true rfl) (gw_Rm_m (by omega) (by decide) (by decide)) (c_carry (c := c0) (c' := c0 + 1) (f := g) (g := f) d hF' hM4 (by omega) (by omega) (Or.inl rfl) off4 off4f hg8 hf8 (fun p _ => by rw [← hg0]; exact gs_ch_len7) hf7 hcp hrw) ?_
          rintro _ _ ⟨rfl, I5, rfl, hI5⟩
          have hcc := gq_cc_of hg8 hf8 hI5
          refine tail I5 hcc.1 (fun t ht => ?_)
          obtain ⟨j1, j2⟩ := hcc.2 t ht
          refine ⟨j1, fun b hb => ?_⟩
          have hgi := gs_gap_in (B := gq_B I) (n := gp_cnt (I 20) (c0 + 1)) (k := (gs_sp f 4).getD t 0) hB hcnt
          rw [j2 b]
          simp only [gq_can_congr u4, if_neg (show ¬ (0 : Int) = 1 by omega), Int.add_zero]
          constructor
          · rintro ⟨h | ⟨s, hs, hcan, hle⟩, hgp⟩
            · exact Or.inl h
            · rw [← hg0] at hs
              rw [e66 s] at hle
              rcases ((k2 s hs).2 b hb).mp hle with h | h
              · exact Or.inl h
              · refine Or.inr ((gs_fwd_s P (gq_B I) (I 20) (I 19 2) set b).mpr ⟨decide_eq_true hgp, _, ?_, h, ?_⟩)
                · rw [List.getD_eq_getElem?_getD, List.getElem?_eq_getElem hs]
                  exact List.getElem_mem hs
                · rw [← hg0] at hcan
                  exact hcan
          · rintro (h | h)
            · exact ⟨Or.inl h, by omega⟩
            · obtain ⟨m1, k', m2, m3, m4⟩ := (gs_fwd_s P (gq_B I) (I 20) (I 19 2) set b).mp h
              refine ⟨Or.inr ?_, of_decide_eq_true m1⟩
              obtain ⟨s, hs, rfl⟩ := List.getElem_of_mem m2
              have es : (gs_SP P (gq_B I) (I 20) set c0).getD s 0 = (gs_SP P (gq_B I) (I 20) set c0)[s] := by
                rw [List.getD_eq_getElem?_getD, List.getElem?_eq_getElem hs]; rfl
              refine ⟨s, by rw [← hg0]; exact hs, ?_, ?_⟩
              · rw [← hg0]
                rw [show (gs_sp (gs_ch P (gq_B I) (I 20) set c0) 4).getD s 0 = (gs_SP P (gq_B I) (I 20) set c0)[s] from es]
                exact m4
              · rw [e66 s]
                exact ((k2 s hs).2 b hb).mpr (Or.inr (by rw [es]; exact m3))
        · have hc0 : c = 0 := by omega
          subst hc0
          refine gr_aload_n dX3_measure_36 rfl ?_
          refine gr_getR dX3_measure_37 fX3_47 (by first | assumption | rfl) (by omega) (by decide) rfl (by assumption) ?_
          refine gr_iload_n dX3_measure_40 rfl ?_
          refine gr_iconst dX3_measure_41 ?_
          refine gr_stat dX3_measure_42 kX3_124 (as := [_, _, _]) rfl rfl (Nat.le_of_ble_eq_true rfl) (gw_Rm_m (by omega) (by decide) (by decide)) (c_fill (q := 66) (m := (gs_sp f 4).length) (v := 0) (d + 4) rfl (by omega) hfl) ?_
          rintro _ _ ⟨rfl, I5, rfl, hI5⟩
          refine gr_goto 57 dX3_measure_45 (by decide) ?_
          refine tail I5 (fun a i ha hb => by rw [hI5, if_neg (by omega)]) (fun t ht => ?_)
          rw [hI5, if_pos ⟨rfl, ht⟩]
          refine ⟨⟨by omega, by omega⟩, fun b hb => ?_⟩
          have hgi := gs_gap_in (B := gq_B I) (n := gp_cnt (I 20) 0) (k := (gs_sp f 4).getD t 0) hB hcnt
          unfold gs_fwd gs_EV gs_ev
          simp only [decide_eq_true_eq]
          omega
  refine key S 0 _ _ _ _ (by omega) (fun a ha => funext fun i => gw_U_n (by omega)) (fun k hk => ?_) (fun c0 hc0 => by omega)
  have hk : k = 0 := by omega
  subst hk
  rw [gw_U_s]
  refine ⟨⟨by omega, by omega⟩, fun b hb => ?_⟩
  simp [gs_fea, hb]
theorem c_needed {k S : Nat} (d : Nat) (hF : gq_K F) (hS : I 19 0 = (S : Int)) (hS8 : S ≤ 8) (hk : k ≤ S) : gw_Met jX3_needed d [.inr (some 12), .inl (k : Int)] (114, I, F) (gw_pu (I 68 k) (114, I, F)) := by
  obtain ⟨f0, f1, f3, f4, f5, f6, f7, f8, f9, f10, f11, f21, f55, fb, fp⟩ := hF
  obtain ⟨fp1, fp2, fp3, fp4⟩ := id fp
  refine gw_enter okX3_needed rfl (Nat.le_of_ble_eq_true rfl) ?_
  refine gr_iload_n dX3_needed_0 rfl ?_
  refine gr_if_lt 24 dX3_needed_1 (by decide) (by unfold gw_in; omega) (fun h1 => ?_) (fun h1 => ?_)
  · omega
  · refine gr_iload_n dX3_needed_4 rfl ?_
    refine gr_aload_n dX3_needed_5 rfl ?_
    refine gr_getR dX3_needed_6 fX3_21 (by first | assumption | rfl) (by omega) (by decide) rfl (by assumption) ?_
    refine gr_getI dX3_needed_9 fX3_136 (by first | assumption | rfl) (by omega) (by decide) rfl ?_
    rw [hS]
    refine gr_icmp_gt 24 dX3_needed_12 (by decide) (by unfold gw_in; omega) (by unfold gw_in; omega) (fun h12 => ?_) (fun h12 => ?_)
    · omega
    · refine gr_aload_n dX3_needed_15 rfl ?_
      refine gr_getR dX3_needed_16 fX3_53 (by first | assumption | rfl) (by omega) (by decide) rfl (by assumption) ?_
      refine gr_iload_n dX3_needed_19 rfl ?_
      refine gr_iald (i := k) dX3_needed_20 (by first | assumption | rfl) (by omega) (by omega) (by omega) (by decide) ?_
      refine gr_goto 26 dX3_needed_21 (by decide) ?_
      refine gr_iret dX3_needed_26 (by first | exact Or.inl rfl | exact Or.inr ⟨rfl, by omega⟩) (by decide) (by decide) (⟨rfl, rfl⟩)
end GQ
