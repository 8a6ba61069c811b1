/-! Search: findCosts -/
/-- what is known of chord c behind findCosts -/
def gq_cst (I I' : Nat → Nat → Int) (P set S c : Nat) : Prop := gq_off I' (gs_ch P (gq_B I) (I 20) set c) c ∧ ∀ t, t < (gs_SP P (gq_B I) (I 20) set c).length → (0 ≤ I' (56 + c) t ∧ I' (56 + c) t ≤ gs_NEVER) ∧ ∀ b : Int, I' (56 + c) t ≤ b ↔ (gs_NEVER ≤ b ∨ (gs_EV (gq_B I) (I 20) (I 19 3) c ((gs_SP P (gq_B I) (I 20) set c).getD t 0) = true ∧ gs_pay P (gq_B I) (I 20) (I 19 2) set (I 19 3) (S - 1 - c) c ((gs_SP P (gq_B I) (I 20) set c).getD t 0) b = true))
theorem gs_mem_getD {L : List Nat} {s : Nat} (hs : s < L.length) : L.getD s 0 ∈ L := by
  rw [List.getD_eq_getElem?_getD, List.getElem?_eq_getElem hs]
  exact List.getElem_mem hs
theorem gs_getD_of_mem {L : List Nat} {k : Nat} (hk : k ∈ L) : ∃ s, s < L.length ∧ L.getD s 0 = k := by
  obtain ⟨s, hs, rfl⟩ := List.getElem_of_mem hk
  exact ⟨s, hs, by rw [List.getD_eq_getElem?_getD, List.getElem?_eq_getElem hs]; rfl⟩
section GQ
variable {I : Nat → Nat → Int} {F : Nat → Nat → Option Nat}
theorem gq_cst_congr {I1 I2 : Nat → Nat → Int} {P set S c : Nat} (hc : c < 8) (e : ∀ a i, 21 ≤ a → a < 55 → (4 * c ≤ i ∧ i < 4 * c + 4 ∨ a ≠ 54) → (22 + 4 * c ≤ a ∧ a < 22 + 4 * c + 4 ∨ a = 54) → I2 a i = I1 a i) (e2 : ∀ t, I2 (56 + c) t = I1 (56 + c) t) (h : gq_cst I I1 P set S c) : gq_cst I I2 P set S c := by
  refine ⟨fun p hp => ?_, fun t ht => by rw [e2 t]; exact h.2 t ht⟩
  obtain ⟨h1, h2⟩ := h.1 p hp
  exact ⟨by rw [e _ _ (by omega) (by omega) (by omega) (by omega)]; exact h1, fun i hi => by rw [e _ _ (by omega) (by omega) (by omega) (by omega)]; exact h2 i hi⟩
theorem c_findCosts {set P S : Nat} (d : Nat) (hF : gq_K F) (hM : gq_M I) (hset : set < 16) (hP : I 13 0 = (P : Int)) (hS : I 19 0 = (S : Int)) (hin : I 19 1 = (set : Int)) : gw_Met jX3_findCosts (d + 5) [.inr (some 12)] (114, I, F) (gw_vo F (fun I' => (∀ a, a < 21 ∨ 68 ≤ a → I' a = I a) ∧ ∀ c, c < S → gq_cst I I' P set S c)) := by
  have hF' := hF
  obtain ⟨f0, f1, f3, f4, f5, f6, f7, f8, f9, f10, f11, f21, f55, fb, fp⟩ := hF
  obtain ⟨hB, hN, ⟨hP0, hP4⟩, ⟨hS0, hS8⟩, hrest, hbal, hbw⟩ := id hM
  obtain ⟨fp1, fp2, fp3, fp4⟩ := id fp
  have hbw' : gb_bw (gq_B I 1) P ≤ 2 := by
    rw [hP] at hbw
    exact hbw
  have hNv : gs_NEVER = 67108864 := rfl
  have hlen : ∀ c, (gs_SP P (gq_B I) (I 20) set c).length ≤ 784 := fun c => gs_SP_len (by omega) hbw'
  generalize hQ : gw_vo F (fun I' => (∀ a, a < 21 ∨ 68 ≤ a → I' a = I a) ∧ ∀ c, c < S → gq_cst I I' P set S c) = Q
  refine gw_enter okX3_findCosts rfl (Nat.le_of_ble_eq_true rfl) ?_
  refine gr_aload_n dX3_findCosts_0 rfl ?_
  refine gr_getR dX3_findCosts_1 fX3_21 (by first | assumption | rfl) (by omega) (by decide) rfl (by assumption) ?_
  refine gr_getI dX3_findCosts_4 fX3_136 (by first | assumption | rfl) (by omega) (by decide) rfl ?_
  rw [hS]
  refine gr_iconst dX3_findCosts_7 ?_
  refine gr_isub dX3_findCosts_8 rfl ?_
  refine gr_istore_n dX3_findCosts_9 (by decide) ?_
  have key : ∀ (n : Nat) (I2 : Nat → Nat → Int) (x2 x3 : Option gw_V), n ≤ S → (∀ a, a < 21 ∨ 68 ≤ a → I2 a = I a) → (∀ c, n ≤ c → c < S → gq_cst I I2 P set S c) → (n < S → ∀ t, t < (gs_SP P (gq_B I) (I 20) set n).length → I2 66 t = I2 (56 + n) t) → gw_G (gw_Cm jX3_findCosts (d + 5) Q) jX3_findCosts 10 [some (.inr (some 12)), some (.inl ((n : Int) - 1)), x2, x3] [] (114, I2, F) 0 0 := by
    intro n
    induction n with
    | zero =>
      intro I2 x2 x3 hn h1 h2 h3
      refine gr_iload_n dX3_findCosts_10 rfl ?_
      refine gr_if_lt 123 dX3_findCosts_11 (by decide) (by unfold gw_in; omega) (fun h11 => ?_) (fun h11 => ?_)
      · refine gr_vret dX3_findCosts_123 rfl (by decide) (by decide) ((by rw [← hQ]; exact ⟨rfl, _, rfl, h1, fun c hc => h2 c (by omega) hc⟩))
      · omega
    | succ c ih =>
      intro I2 x2 x3 hn h1 h2 h3
      have e0 : I2 19 0 = (S : Int) := by rw [h1 19 (by omega)]; exact hS
      have u2 : ∀ a, a < 21 → I2 a = I a := fun a ha => h1 a (Or.inl ha)
      have hM2 := gq_M_congr u2 hM
      have hcnt := gp_cnt_le (I 20) c
      have ein : I2 19 1 = (set : Int) := by rw [u2 19 (by omega)]; exact hin
      have e1 : ((c + 1 : Nat) : Int) - 1 = (c : Int) := by omega
      rw [e1]
      generalize hf : gs_ch P (gq_B I) (I 20) set c = f at *
      have hf1 : ∀ p, p < 4 → 0 < (f p).length := fun p _ => by rw [← hf]; exact gs_ch_pos
      have hf7 : ∀ p, p < 4 → (f p).length ≤ 7 := fun p _ => by rw [← hf]; exact gs_ch_len7
      have hf8 : ∀ p, p < 4 → ∀ i, i < (f p).length → (f p).getD i 0 < 8 := fun p _ i hi => by rw [← hf] at hi ⊢; exact gs_ch_8 hi
      have hfl : (gs_sp f 4).length ≤ 784 := by rw [← hf]; exact hlen c
      refine gr_iload_n dX3_findCosts_10 rfl ?_
      refine gr_if_lt 123 dX3_findCosts_11 (by decide) (by unfold gw_in; omega) (fun h11 => ?_) (fun h11 => ?_)
      · omega
      · refine gr_aload_n dX3_findCosts_14 rfl ?_
        refine gr_iload_n dX3_findCosts_15 rfl ?_
        refine gr_aload_n dX3_findCosts_16 rfl ?_
        refine gr_getR dX3_findCosts_17 fX3_21 (by first | assumption | rfl) (by omega) (by decide) rfl (by assumption) ?_
        refine gr_getI dX3_findCosts_20 fX3_147 (by first | assumption | rfl) (by omega) (by decide) rfl ?_
        rw [ein]
        refine gr_virt dX3_findCosts_23 kX3_59 (as := [_, _]) rfl rfl (by first | assumption | rfl) (by omega) (Nat.le_of_ble_eq_true rfl) (gw_Rm_m (by omega) (by decide) (by decide)) (c_offer (c := c) (set := set) (P := P) (d + 1) hF' hM2 (by omega) hset (by rw [u2 13 (by omega)]; exact hP)) ?_
        rintro _ _ ⟨rfl, I3, rfl, hI3⟩
        rw [gq_ch_congr u2, hf] at hI3
        have h13 : ∀ a, a < 21 ∨ 55 ≤ a → I3 a = I2 a := fun a ha => funext fun i => hI3.2 a i (by omega) (by omega)
        have u3 : ∀ a, a < 21 → I3 a = I a := fun a ha => by rw [h13 a (Or.inl ha), u2 a ha]
        refine gr_aload_n dX3_findCosts_26 rfl ?_
        refine gr_iload_n dX3_findCosts_27 rfl ?_
        refine gr_virt dX3_findCosts_28 kX3_63 (as := [_]) rfl rfl (by first | assumption | rfl) (by omega) (Nat.le_of_ble_eq_true rfl) (gw_Rm_m (by omega) (by decide) (by decide)) (c_findGaps (c := c) (f := f) (d + 1) hF' (gq_M_congr u3 hM) (by omega) hI3.1 hf1 hf7 hf8 hfl) ?_
        rintro _ _ ⟨r, I4, rfl, rfl, rfl, hI4, hg⟩
        rw [u3 20 (by omega)] at hg
        simp only [gq_gap_congr u3] at hg
        have u4 : ∀ a, a < 21 → I4 a = I a := fun a ha => by rw [← u3 a ha]; exact funext fun i => hI4 a i (by omega) (by omega)
        have hM4 := gq_M_congr u4 hM
        have e4 : I4 19 0 = (S : Int) := by rw [u4 19 (by omega)]; exact hS
        refine gr_istore_n dX3_findCosts_31 (by decide) ?_
        refine gr_iload_n dX3_findCosts_32 rfl ?_
        refine gr_aload_n dX3_findCosts_33 rfl ?_
        refine gr_getR dX3_findCosts_34 fX3_21 (by first | assumption | rfl) (by omega) (by decide) rfl (by assumption) ?_
        refine gr_getI dX3_findCosts_37 fX3_136 (by first | assumption | rfl) (by omega) (by decide) rfl ?_
        rw [e4]
        refine gr_iconst dX3_findCosts_40 ?_
        refine gr_isub dX3_findCosts_41 rfl ?_
        have tail : ∀ I5 : Nat → Nat → Int, (∀ a i, a ≠ 66 → a ≠ 67 → I5 a i = I4 a i) → (∀ t, t < (gs_sp f 4).length → (0 ≤ I5 66 t ∧ I5 66 t ≤ gs_NEVER) ∧ ∀ b : Int, I5 66 t ≤ b ↔ (gs_NEVER ≤ b ∨ gs_pay P (gq_B I) (I 20) (I 19 2) set (I 19 3) (S - 1 - c) c ((gs_sp f 4).getD t 0) b = true)) → gw_G (gw_Cm jX3_findCosts (d + 5) Q) jX3_findCosts 66 [some (.inr (some 12)), some (.inl (c : Int)), some (.inl ((gs_sp f 4).length : Int)), x3] [] (114, I5, F) 0 0 := by
          intro I5 h5 h6
          have hR := gq_sh56 c (by omega)
          have hRF := f55 c (by omega)
          refine gr_iconst dX3_findCosts_66 ?_
          refine gr_istore_n dX3_findCosts_67 (by decide) ?_
          have loop : ∀ (m t : Nat) (I6 : Nat → Nat → Int), t + m = (gs_sp f 4).length → (∀ a i, a ≠ 66 → a ≠ 67 → a ≠ 56 + c → I6 a i = I4 a i) → (∀ s, t ≤ s → I6 66 s = I5 66 s) → (∀ s, s < t → I6 (56 + c) s = I6 66 s ∧ I6 66 s = (if gs_gap (gq_B I) (gp_cnt (I 20) c) ((gs_sp f 4).getD s 0) ≤ I 19 3 then I5 66 s else gs_NEVER)) → gw_G (gw_Cm jX3_findCosts (d + 5) Q) jX3_findCosts 68 [some (.inr (some 12)), some (.inl (c : Int)), some (.inl ((gs_sp f 4).length : Int)), some (.inl (t : Int))] [] (114, I6, F) 0 0 := by
            intro m
            induction m with
            | zero =>
              intro t I6 ht g1 g2 g3
              have ht : t = (gs_sp f 4).length := by omega
              subst ht
              refine gr_iload_n dX3_findCosts_68 rfl ?_
              refine gr_iload_n dX3_findCosts_69 rfl ?_
              refine gr_icmp_ge 117 dX3_findCosts_70 (by decide) (by unfold gw_in; omega) (by unfold gw_in; omega) (fun h70 => ?_) (fun h70 => ?_)
              · refine gr_iinc (v := ((c : Int) - 1)) dX3_findCosts_117 (by decide) rfl (by omega) ?_
                refine gr_goto 10 dX3_findCosts_120 (by decide) ?_
                refine ih I6 _ _ (by omega) (fun a ha => ?_) (fun c2 hc2 hc3 => ?_) (fun _ t ht => ?_)
                · funext i
                  rw [g1 a i (by omega) (by omega) (by omega), hI4 a i (by omega) (by omega), h13 a (by omega), h1 a ha]
                · by_cases hcc : c2 = c
                  · subst hcc
                    unfold gq_cst
                    rw [hf, show gs_SP P (gq_B I) (I 20) set c2 = gs_sp f 4 by rw [← hf]]
                    refine ⟨gq_off_congr (by omega) (fun a i _ _ => by rw [g1 a i (by omega) (by omega) (by omega), hI4 a i (by omega) (by omega)]) hI3.1, fun t ht => ?_⟩
                    obtain ⟨j1, j2⟩ := g3 t ht
                    obtain ⟨j3, j4⟩ := h6 t ht
                    rw [j1, j2]
                    unfold gs_EV gs_ev
                    by_cases hgp : gs_gap (gq_B I) (gp_cnt (I 20) c2) ((gs_sp f 4).getD t 0) ≤ I 19 3
                    · rw [if_pos hgp]
                      refine ⟨j3, fun b => ?_⟩
                      rw [j4 b]
                      exact ⟨fun h => h.elim Or.inl (fun h => Or.inr ⟨decide_eq_true hgp, h⟩), fun h => h.elim Or.inl (fun h => Or.inr h.2)⟩
                    · rw [if_neg hgp]
                      exact ⟨⟨by omega, by omega⟩, fun b => ⟨fun h => Or.inl h, fun h => h.elim id (fun h => absurd (of_decide_eq_true h.1) hgp)⟩⟩
                  · refine gq_cst_congr (by omega) (fun a i b1 b2 b3 b4 => ?_) (fun t => ?_) (h2 c2 (by omega) hc3)
                    · rw [g1 a i (by omega) (by omega) (by omega), hI4 a i (by omega) (by omega)]
                      exact hI3.2 a i (by omega) (by omega)
                    · rw [g1 _ t (by omega) (by omega) (by omega), hI4 _ t (by omega) (by omega), h13 _ (by omega)]
                · rw [show gs_SP P (gq_B I) (I 20) set c = gs_sp f 4 by rw [← hf]] at ht
                  exact (g3 t ht).1.symm
              · omega
            | succ m ihm =>
              intro t I6 ht g1 g2 g3
              have e66 := g2 t (Nat.le_refl _)
              obtain ⟨q1, q2⟩ := h6 t (by omega)
              have e64 : I6 64 t = gs_gap (gq_B I) (gp_cnt (I 20) c) ((gs_sp f 4).getD t 0) := by
                rw [g1 64 t (by omega) (by omega) (by omega)]; exact hg t (by omega)
              have hgi := gs_gap_in (B := gq_B I) (n := gp_cnt (I 20) c) (k := (gs_sp f 4).getD t 0) hB hcnt
              have eb : I6 19 3 = I 19 3 := by rw [g1 19 3 (by omega) (by omega) (by omega), u4 19 (by omega)]
              refine gr_iload_n dX3_findCosts_68 rfl ?_
              refine gr_iload_n dX3_findCosts_69 rfl ?_
              refine gr_icmp_ge 117 dX3_findCosts_70 (by decide) (by unfold gw_in; omega) (by unfold gw_in; omega) (fun h70 => ?_) (fun h70 => ?_)
              · omega
              · refine gr_aload_n dX3_findCosts_73 rfl ?_
                refine gr_getR dX3_findCosts_74 fX3_41 (by first | assumption | rfl) (by omega) (by decide) rfl (by assumption) ?_
                refine gr_iload_n dX3_findCosts_77 rfl ?_
                refine gr_iald (i := t) dX3_findCosts_78 (by first | assumption | rfl) (by omega) (by omega) (by omega) (by decide) ?_
                refine gr_aload_n dX3_findCosts_79 rfl ?_
                refine gr_getR dX3_findCosts_80 fX3_21 (by first | assumption | rfl) (by omega) (by decide) rfl (by assumption) ?_
                refine gr_getI dX3_findCosts_83 fX3_67 (by first | assumption | rfl) (by omega) (by decide) rfl ?_
                rw [e64, eb]
                refine gr_icmp_le 97 dX3_findCosts_86 (by decide) (by unfold gw_in; omega) (by unfold gw_in; omega) (fun h86 => ?_) (fun h86 => ?_)
                · refine gr_aload_n dX3_findCosts_97 rfl ?_
                  refine gr_getR dX3_findCosts_98 fX3_38 (by first | assumption | rfl) (by omega) (by decide) rfl (by assumption) ?_
                  refine gr_iload_n dX3_findCosts_101 rfl ?_
                  refine gr_rald (i := c) dX3_findCosts_102 (by first | assumption | rfl) (by omega) (by omega) (by omega) (by decide) (by assumption) ?_
                  refine gr_iload_n dX3_findCosts_103 rfl ?_
                  refine gr_aload_n dX3_findCosts_104 rfl ?_
                  refine gr_getR dX3_findCosts_105 fX3_47 (by first | assumption | rfl) (by omega) (by decide) rfl (by assumption) ?_
                  refine gr_iload_n dX3_findCosts_108 rfl ?_
                  refine gr_iald (i := t) dX3_findCosts_109 rfl (by omega) rfl (by omega) (by decide) ?_
                  refine gr_iast (i := t) dX3_findCosts_110 (by first | assumption | rfl) (by omega) (by omega) (by omega) (by decide) ?_
                  refine gr_iinc (v := ((t + 1 : Nat) : Int)) dX3_findCosts_111 (by decide) rfl (by omega) ?_
                  refine gr_goto 68 dX3_findCosts_114 (by decide) ?_
                  refine ihm (t + 1) _ (by omega) (fun a i ha hb hc2 => by rw [gw_U_n (by omega)]; exact g1 a i ha hb hc2) (fun s hs => by rw [gw_U_n (by omega)]; exact g2 s (by omega)) (fun s hs => ?_)
                  by_cases hst : s = t
                  · subst hst
                    rw [gw_U_s, gw_U_n (by omega), e66, if_pos h86]
                    exact ⟨rfl, rfl⟩
                  · rw [gw_U_n (by omega), gw_U_n (by omega)]
                    exact g3 s (by omega)
                · refine gr_aload_n dX3_findCosts_89 rfl ?_
                  refine gr_getR dX3_findCosts_90 fX3_47 (by first | assumption | rfl) (by omega) (by decide) rfl (by assumption) ?_
                  refine gr_iload_n dX3_findCosts_93 rfl ?_
                  refine gr_ldc dX3_findCosts_94 nX3_99 ?_
                  refine gr_iast (i := t) dX3_findCosts_96 (by first | assumption | rfl) (by omega) (by omega) (by omega) (by decide) ?_
                  refine gr_aload_n dX3_findCosts_97 rfl ?_
                  refine gr_getR dX3_findCosts_98 fX3_38 (by first | assumption | rfl) (by omega) (by decide) rfl (by assumption) ?_
                  refine gr_iload_n dX3_findCosts_101 rfl ?_
                  refine gr_rald (i := c) dX3_findCosts_102 (by first | assumption | rfl) (by omega) (by omega) (by omega) (by decide) (by assumption) ?_
                  refine gr_iload_n dX3_findCosts_103 rfl ?_
                  refine gr_aload_n dX3_findCosts_104 rfl ?_
                  refine gr_getR dX3_findCosts_105 fX3_47 (by first | assumption | rfl) (by omega) (by decide) rfl (by assumption) ?_
                  refine gr_iload_n dX3_findCosts_108 rfl ?_
                  refine gr_iald (i := t) dX3_findCosts_109 rfl (by omega) rfl (by omega) (by decide) ?_
                  rw [gw_U_s]
                  refine gr_iast (i := t) dX3_findCosts_110 (by first | assumption | rfl) (by omega) (by omega) (by omega) (by decide) ?_
                  refine gr_iinc (v := ((t + 1 : Nat) : Int)) dX3_findCosts_111 (by decide) rfl (by omega) ?_
                  refine gr_goto 68 dX3_findCosts_114 (by decide) ?_
                  refine ihm (t + 1) _ (by omega) (fun a i ha hb hc2 => by rw [gw_U_n (by omega), gw_U_n (by omega)]; exact g1 a i ha hb hc2) (fun s hs => by rw [gw_U_n (by omega), gw_U_n (by omega)]; exact g2 s (by omega)) (fun s hs => ?_)
                  by_cases hst : s = t
                  · subst hst
                    rw [gw_U_s, gw_U_n (by omega), gw_U_s, if_neg (by omega)]
                    exact ⟨rfl, rfl⟩
                  · rw [gw_U_n (by omega), gw_U_n (by omega), gw_U_n (by omega), gw_U_n (by omega)]
                    exact g3 s (by omega)
          exact loop (gs_sp f 4).length 0 I5 (by omega) (fun a i ha hb _ => h5 a i ha hb) (fun s _ => rfl) (fun s hs => absurd hs (by omega))
        refine gr_icmp_ne 57 dX3_findCosts_42 (by decide) (by unfold gw_in; omega) (by unfold gw_in; omega) (fun h42 => ?_) (fun h42 => ?_)
        · have hcS : c + 1 < S := by omega
          obtain ⟨k1, k2⟩ := h2 (c + 1) (by omega) hcS
          have k3 := h3 hcS
          generalize hg0 : gs_ch P (gq_B I) (I 20) set (c + 1) = g at k1
          have off4 : gq_off I4 g (c + 1) := by
            intro p hp
            obtain ⟨j1, j2⟩ := k1 p hp
            exact ⟨by rw [hI4 _ _ (by omega) (by omega), hI3.2 _ _ (by omega) (by omega)]; exact j1, fun i hi => by rw [hI4 _ _ (by omega) (by omega), hI3.2 _ _ (by omega) (by omega)]; exact j2 i hi⟩
          have off4f : gq_off I4 f c := gq_off_congr (by omega) (fun a i _ _ => hI4 a i (by omega) (by omega)) hI3.1
          have e66 : ∀ t, I4 66 t = I2 66 t := fun t => by rw [hI4 _ _ (by omega) (by omega), h13 66 (by omega)]
          have hg8 : ∀ p, p < 4 → ∀ i, i < (g p).length → (g p).getD i 0 < 8 := fun p _ i hi => by rw [← hg0] at hi ⊢; exact gs_ch_8 hi
          have hrw : ∀ t, t < (((g 0).length * (g 1).length) * (g 2).length) * (g 3).length → 0 ≤ I4 66 t ∧ I4 66 t ≤ gs_NEVER := fun t ht => by
            rw [← gs_len4, ← hg0] at ht
            rw [e66 t, k3 t ht]
            exact (k2 t ht).1
          have hcp := gs_cap_of (P := P) (B := gq_B I) (N := I 20) (set := set) (c := c + 1) (c' := c) (by omega) hbw'
          rw [hg0, hf] at hcp
          refine gr_aload_n dX3_findCosts_57 rfl ?_
          refine gr_iload_n dX3_findCosts_58 rfl ?_
          refine gr_iconst dX3_findCosts_59 ?_
          refine gr_iadd (v := ((c + 1 : Nat) : Int)) dX3_findCosts_60 (by omega) ?_
          refine gr_iload_n dX3_findCosts_61 rfl ?_
          refine gr_iconst dX3_findCosts_62 ?_
          refine gr_virt dX3_findCosts_63 kX3_137 (as := [_, _, _]) rfl rfl (by first | assumption | rfl) (by omega) (Nat.le_of_ble_eq_true rfl) (gw_Rm_m (by omega) (by decide) (by decide)) (c_carry (c := c + 1) (c' := c) (f := g) (g := f) d hF' hM4 (by omega) (by omega) (Or.inr rfl) off4 off4f hg8 hf8 (fun p _ => by rw [← hg0]; exact gs_ch_len7) hf7 hcp hrw) ?_
          rintro _ _ ⟨rfl, I5, rfl, hI5⟩
          have hcc := gq_cc_of hg8 hf8 hI5
          refine tail I5 hcc.1 (fun t ht => ?_)
          obtain ⟨j1, j2⟩ := hcc.2 t ht
          refine ⟨j1, fun b => ?_⟩
          rw [j2 b]
          simp only [gq_can_congr u4, gq_tot_congr u4, if_true]
          rw [show S - 1 - c = (S - 1 - (c + 1)) + 1 by omega, gs_pay_s]
          have htn : ∀ k', 0 ≤ gs_tot (gq_B I) (I 20) (I 19 2) (c + 1) k' c ((gs_sp f 4).getD t 0) := fun k' => (gs_tot_in (B := gq_B I) (N := I 20) (rest := I 19 2) (c := c + 1) (k := k') (c' := c) (k' := (gs_sp f 4).getD t 0) hN (by omega) (by omega) hrest).1
          constructor
          · rintro (h | ⟨s, hs, hcan, hle⟩)
            · exact Or.inl h
            · rw [← hg0] at hs hcan hle
              rw [e66 s, k3 s hs] at hle
              have hle : I2 (56 + (c + 1)) s + gs_tot (gq_B I) (I 20) (I 19 2) (c + 1) ((gs_SP P (gq_B I) (I 20) set (c + 1)).getD s 0) c ((gs_sp f 4).getD t 0) ≤ b := hle
              have hnn := htn ((gs_SP P (gq_B I) (I 20) set (c + 1)).getD s 0)
              rcases ((k2 s hs).2 (b - gs_tot (gq_B I) (I 20) (I 19 2) (c + 1) ((gs_SP P (gq_B I) (I 20) set (c + 1)).getD s 0) c ((gs_sp f 4).getD t 0))).mp (by omega) with h | ⟨h7, h8⟩
              · exact Or.inl (by omega)
              · refine Or.inr ⟨_, gs_mem_getD hs, h7, ?_, ?_⟩
                · rw [gs_can_comm]; exact hcan
                · rw [gs_tot_comm]; exact h8
          · rintro (h | ⟨k', m1, m2, m3, m4⟩)
            · exact Or.inl h
            · obtain ⟨s, hs, rfl⟩ := gs_getD_of_mem m1
              refine Or.inr ⟨s, by rw [← hg0]; exact hs, ?_, ?_⟩
              · rw [← hg0, gs_can_comm]; exact m3
              · rw [← hg0, e66 s, k3 s hs]
                rw [gs_tot_comm] at m4
                have := ((k2 s hs).2 _).mpr (Or.inr ⟨m2, m4⟩)
                show I2 (56 + (c + 1)) s + gs_tot (gq_B I) (I 20) (I 19 2) (c + 1) ((gs_SP P (gq_B I) (I 20) set (c + 1)).getD s 0) c ((gs_sp f 4).getD t 0) ≤ b
                omega
        · refine gr_aload_n dX3_findCosts_45 rfl ?_
          refine gr_getR dX3_findCosts_46 fX3_47 (by first | assumption | rfl) (by omega) (by decide) rfl (by assumption) ?_
          refine gr_iload_n dX3_findCosts_49 rfl ?_
          refine gr_iconst dX3_findCosts_50 ?_
          refine gr_stat dX3_findCosts_51 kX3_124 (as := [_, _, _]) rfl rfl (Nat.le_of_ble_eq_true rfl) (gw_Rm_m (by omega) (by decide) (by decide)) (c_fill (q := 66) (m := (gs_sp f 4).length) (v := 0) (d + 4) rfl (by omega) hfl) ?_
          rintro _ _ ⟨rfl, I5, rfl, hI5⟩
          refine gr_goto 66 dX3_findCosts_54 (by decide) ?_
          refine tail I5 (fun a i ha hb => by rw [hI5, if_neg (by omega)]) (fun t ht => ?_)
          rw [hI5, if_pos ⟨rfl, ht⟩]
          refine ⟨⟨by omega, by omega⟩, fun b => ?_⟩
          rw [show S - 1 - c = 0 by omega]
          simp only [gs_pay, decide_eq_true_eq]
          omega
  exact key S I _ _ (Nat.le_refl _) (fun _ _ => rfl) (fun c h1 h2 => absurd h1 (by omega)) (fun h => absurd h (by omega))
end GQ
