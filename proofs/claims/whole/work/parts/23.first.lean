/-! Search: handIn, firstBest, choose -/
/-- sums along a code -/
def gs_tp (w : Nat → Nat → Int) : Nat → Nat → Int
  | 0, _ => 0
  | p + 1, k => gs_tp w p (k / 8) + w p (k % 8)
theorem gs_tp_s {w : Nat → Nat → Int} {p k h : Nat} (hh : h < 8) : gs_tp w (p + 1) (8 * k + h) = gs_tp w p k + w p h := by
  simp only [gs_tp]
  rw [show (8 * k + h) / 8 = k by omega, show (8 * k + h) % 8 = h by omega]
theorem gs_tp_4 {w : Nat → Nat → Int} {k : Nat} (hk : k < 4096) : gs_tp w 4 k = w 0 (gs_hd k 0) + w 1 (gs_hd k 1) + w 2 (gs_hd k 2) + w 3 (gs_hd k 3) := by
  simp only [gs_tp, gs_hd]
  rw [show k / 8 / 8 / 8 % 8 = k / 8 ^ (3 - 0) % 8 by show _ = k / 512 % 8; omega, show k / 8 / 8 % 8 = k / 8 ^ (3 - 1) % 8 by show _ = k / 64 % 8; omega, show k / 8 % 8 = k / 8 ^ (3 - 2) % 8 by show _ = k / 8 % 8; omega, show k % 8 = k / 8 ^ (3 - 3) % 8 by show _ = k / 1 % 8; omega, Int.zero_add]
theorem gs_sp_lt {f : Nat → List Nat} {t : Nat} (hf8 : ∀ p, p < 4 → ∀ i, i < (f p).length → (f p).getD i 0 < 8) (ht : t < (gs_sp f 4).length) : (gs_sp f 4).getD t 0 < 4096 := by
  obtain ⟨x0, x1, x2, x3, h0, h1, h2, h3, rfl⟩ := gs_uncode ht
  rw [(gs_code h0 h1 h2 h3).2]
  have a0 := hf8 0 (by omega) x0 h0
  have a1 := hf8 1 (by omega) x1 h1
  have a2 := hf8 2 (by omega) x2 h2
  have a3 := hf8 3 (by omega) x3 h3
  omega
theorem ga_divN {a b : Nat} (ha : a < 2147483648) (hb : 0 < b) (hb2 : b < 2147483648) : Int32.ofInt (a : Int) / Int32.ofInt (b : Int) = Int32.ofInt ((a / b : Nat) : Int) := by
  rw [ga_n a, ga_n b, ga_n (a / b)]
  exact pk_div ha hb hb2
theorem ga_remN {a b : Nat} (ha : a < 2147483648) (hb : 0 < b) (hb2 : b < 2147483648) : Int32.ofInt (a : Int) - Int32.ofInt (a : Int) / Int32.ofInt (b : Int) * Int32.ofInt (b : Int) = Int32.ofInt ((a % b : Nat) : Int) := by
  rw [ga_n a, ga_n b, ga_n (a % b)]
  exact pk_rem ha hb hb2
theorem ga_ne0 {b : Nat} (hb : 0 < b) (hb2 : b < 2147483648) : ¬ Int32.ofInt (b : Int) = 0 := by
  rw [ga_n b]
  exact nI_ne0 hb hb2
section GQ
variable {I : Nat → Nat → Int} {F : Nat → Nat → Option Nat}
theorem c_handIn {c p : Nat} (d : Nat) (hF : gq_K F) (hc : c < 8) (hp : p < 4) : gw_Met jX3_handIn d [.inr (some 12), .inl (c : Int), .inl (p : Int)] (114, I, F) (gw_pu (I 69 (4 * c + p)) (114, I, F)) := by
  obtain ⟨f0, f1, f3, f4, f5, f6, f7, f8, f9, f10, f11, f21, f55, fb, fp⟩ := hF
  refine gw_enter okX3_handIn rfl (Nat.le_of_ble_eq_true rfl) ?_
  refine gr_aload_n dX3_handIn_0 rfl ?_
  refine gr_getR dX3_handIn_1 fX3_56 (by first | assumption | rfl) (by omega) (by decide) rfl (by assumption) ?_
  refine gr_iload_n dX3_handIn_4 rfl ?_
  refine gr_iconst dX3_handIn_5 ?_
  refine gr_imul dX3_handIn_6 rfl ?_
  refine gr_iload_n dX3_handIn_7 rfl ?_
  refine gr_iadd dX3_handIn_8 rfl ?_
  refine gr_iald (i := 4 * c + p) dX3_handIn_9 (by first | assumption | rfl) (by omega) (by omega) (by omega) (by decide) ?_
  refine gr_iret dX3_handIn_10 (by first | exact Or.inl rfl | exact Or.inr ⟨rfl, by omega⟩) (by decide) (by decide) (⟨rfl, rfl⟩)
/-- what one adds for a hand of player p in chord c, the chord ahead having code k -/
def gs_wf (I : Nat → Nat → Int) (c k : Nat) (p h : Nat) : Int := if c = 0 then 0 else gs_way (gq_B I) (I 20) (I 19 2) p (c - 1) (gs_hd k p) c h
/-- what a spread costs behind the chosen ones -/
def gs_vl (I : Nat → Nat → Int) (L : List Nat) (c k s : Nat) : Int := gs_tp (gs_wf I c k) 4 (L.getD s 0) + I (56 + c) s
theorem c_firstBest {c kp : Nat} {f : Nat → List Nat} (d : Nat) (hF : gq_K F) (hM : gq_M I) (hc : c < 8) (hf : gq_off I f c) (hf1 : ∀ p, p < 4 → 0 < (f p).length) (hf7 : ∀ p, p < 4 → (f p).length ≤ 7) (hf8 : ∀ p, p < 4 → ∀ i, i < (f p).length → (f p).getD i 0 < 8) (hlen : (gs_sp f 4).length ≤ 784) (hch : 0 < c → ∀ p, p < 4 → I 69 (4 * (c - 1) + p) = (gs_hd kp p : Nat)) (hcst : ∀ t, t < (gs_sp f 4).length → 0 ≤ I (56 + c) t ∧ I (56 + c) t ≤ gs_NEVER) : gw_Met jX3_firstBest (d + 3) [.inr (some 12), .inl (c : Int)] (114, I, F) (gw_io F (fun r I' => ∃ t : Nat, r = (t : Int) ∧ t < (gs_sp f 4).length ∧ (∀ s, s < (gs_sp f 4).length → gs_vl I (gs_sp f 4) c kp t ≤ gs_vl I (gs_sp f 4) c kp s) ∧ (∀ s, s < t → gs_vl I (gs_sp f 4) c kp t < gs_vl I (gs_sp f 4) c kp s) ∧ (∀ a i, a ≠ 65 → a ≠ 67 → I' a i = I a i))) := by
  have hF' := hF
  have hKr := gq_K_Kr hF
  obtain ⟨f0, f1, f3, f4, f5, f6, f7, f8, f9, f10, f11, f21, f55, fb, fp⟩ := hF
  obtain ⟨hB, hN, ⟨hP0, hP4⟩, ⟨hS0, hS8⟩, hrest, hbal, hbw⟩ := id hM
  have hmono := gs_len_mono hf1
  have hNv : gs_NEVER = 67108864 := rfl
  have hhd : ∀ p, gs_hd kp p < 8 := fun p => Nat.mod_lt _ (by omega)
  have hwf : ∀ p h, 0 ≤ gs_wf I c kp p h ∧ gs_wf I c kp p h ≤ gs_NEVER := fun p h => by
    unfold gs_wf
    split
    · omega
    · have := gs_way_in (B := gq_B I) (N := I 20) (rest := I 19 2) (p := p) (c := c - 1) (h := gs_hd kp p) (c' := c) (h' := h) hN (by omega) hc hrest
      omega
  have hL0 : 0 < (gs_sp f 4).length := by
    rw [gs_len4]
    exact Nat.mul_pos (Nat.mul_pos (Nat.mul_pos (hf1 0 (by omega)) (hf1 1 (by omega))) (hf1 2 (by omega))) (hf1 3 (by omega))
  generalize hQ : (gw_io F (fun r I' => ∃ t : Nat, r = (t : Int) ∧ t < (gs_sp f 4).length ∧ (∀ s, s < (gs_sp f 4).length → gs_vl I (gs_sp f 4) c kp t ≤ gs_vl I (gs_sp f 4) c kp s) ∧ (∀ s, s < t → gs_vl I (gs_sp f 4) c kp t < gs_vl I (gs_sp f 4) c kp s) ∧ (∀ a i, a ≠ 65 → a ≠ 67 → I' a i = I a i))) = Q
  refine gw_enter okX3_firstBest rfl (Nat.le_of_ble_eq_true rfl) ?_
  refine gr_iconst dX3_firstBest_0 ?_
  refine gr_istore_n dX3_firstBest_1 (by decide) ?_
  refine gr_aload_n dX3_firstBest_2 rfl ?_
  refine gr_getR dX3_firstBest_3 fX3_50 (by first | assumption | rfl) (by omega) (by decide) rfl (by assumption) ?_
  refine gr_iconst dX3_firstBest_6 ?_
  refine gr_iconst dX3_firstBest_7 ?_
  refine gr_iast (i := 0) dX3_firstBest_8 (by first | assumption | rfl) (by omega) (by omega) (by omega) (by decide) ?_
  refine gr_iconst dX3_firstBest_9 ?_
  refine gr_istore_n dX3_firstBest_10 (by decide) ?_
  have key : ∀ (n p : Nat) (I2 : Nat → Nat → Int) (x4 x5 : Option gw_V), p + n = 4 → (∀ a i, a ≠ 65 → a ≠ 67 → I2 a i = I a i) → (∀ t, t < (gs_sp f p).length → I2 67 t = gs_tp (gs_wf I c kp) p ((gs_sp f p).getD t 0)) → gw_G (gw_Cm jX3_firstBest (d + 3) Q) jX3_firstBest 11 [some (.inr (some 12)), some (.inl (c : Int)), some (.inl ((gs_sp f p).length : Int)), some (.inl (p : Int)), x4, x5] [] (114, I2, F) 0 0 := by
    intro n
    induction n with
    | zero =>
      intro p I2 x4 x5 hp h1 h2
      have hp : p = 4 := by omega
      subst hp
      have hR := gq_sh56 c hc
      have hRF := f55 c hc
      have hvl : ∀ s, s < (gs_sp f 4).length → I2 67 s + I2 (56 + c) s = gs_vl I (gs_sp f 4) c kp s ∧ 0 ≤ gs_vl I (gs_sp f 4) c kp s ∧ gs_vl I (gs_sp f 4) c kp s ≤ 5 * gs_NEVER := fun s hs => by
        rw [h2 s hs, h1 (56 + c) s (by omega) (by omega)]
        refine ⟨rfl, ?_⟩
        unfold gs_vl
        have a1 := hcst s hs
        rw [gs_tp_4 (gs_sp_lt hf8 hs)]
        have b0 := hwf 0 (gs_hd ((gs_sp f 4).getD s 0) 0)
        have b1 := hwf 1 (gs_hd ((gs_sp f 4).getD s 0) 1)
        have b2 := hwf 2 (gs_hd ((gs_sp f 4).getD s 0) 2)
        have b3 := hwf 3 (gs_hd ((gs_sp f 4).getD s 0) 3)
        omega
      refine gr_iload_n dX3_firstBest_11 rfl ?_
      refine gr_iconst dX3_firstBest_12 ?_
      refine gr_icmp_ge 109 dX3_firstBest_13 (by decide) (by unfold gw_in; omega) (by unfold gw_in; omega) (fun h13 => ?_) (fun h13 => ?_)
      · refine gr_iconst dX3_firstBest_109 ?_
        refine gr_istore_n dX3_firstBest_110 (by decide) ?_
        refine gr_iconst dX3_firstBest_111 ?_
        refine gr_istore dX3_firstBest_112 (by decide) ?_
        have loop : ∀ (m s best : Nat), s + m = (gs_sp f 4).length → 0 < s → best < s → (∀ i, i < s → gs_vl I (gs_sp f 4) c kp best ≤ gs_vl I (gs_sp f 4) c kp i) → (∀ i, i < best → gs_vl I (gs_sp f 4) c kp best < gs_vl I (gs_sp f 4) c kp i) → gw_G (gw_Cm jX3_firstBest (d + 3) Q) jX3_firstBest 114 [some (.inr (some 12)), some (.inl (c : Int)), some (.inl ((gs_sp f 4).length : Int)), some (.inl (best : Int)), some (.inl (s : Int)), x5] [] (114, I2, F) 0 0 := by
          intro m
          induction m with
          | zero =>
            intro s best hs hs0 hb g1 g2
            refine gr_iload dX3_firstBest_114 rfl ?_
            refine gr_iload_n dX3_firstBest_116 rfl ?_
            refine gr_icmp_ge 164 dX3_firstBest_117 (by decide) (by unfold gw_in; omega) (by unfold gw_in; omega) (fun h117 => ?_) (fun h117 => ?_)
            · refine gr_iload_n dX3_firstBest_164 rfl ?_
              refine gr_iret dX3_firstBest_165 (by first | exact Or.inl rfl | exact Or.inr ⟨rfl, by omega⟩) (by decide) (by decide) ((by rw [← hQ]; exact ⟨_, _, rfl, rfl, best, rfl, by omega, fun i hi => g1 i (by omega), g2, h1⟩))
            · omega
          | succ m ihm =>
            intro s best hs hs0 hb g1 g2
            obtain ⟨v1, v2, v3⟩ := hvl s (by omega)
            obtain ⟨w1, w2, w3⟩ := hvl best (by omega)
            refine gr_iload dX3_firstBest_114 rfl ?_
            refine gr_iload_n dX3_firstBest_116 rfl ?_
            refine gr_icmp_ge 164 dX3_firstBest_117 (by decide) (by unfold gw_in; omega) (by unfold gw_in; omega) (fun h117 => ?_) (fun h117 => ?_)
            · omega
            · refine gr_aload_n dX3_firstBest_120 rfl ?_
              refine gr_getR dX3_firstBest_121 fX3_50 (by first | assumption | rfl) (by omega) (by decide) rfl (by assumption) ?_
              refine gr_iload dX3_firstBest_124 rfl ?_
              refine gr_iald (i := s) dX3_firstBest_126 (by first | assumption | rfl) (by omega) (by omega) (by omega) (by decide) ?_
              refine gr_aload_n dX3_firstBest_127 rfl ?_
              refine gr_getR dX3_firstBest_128 fX3_38 (by first | assumption | rfl) (by omega) (by decide) rfl (by assumption) ?_
              refine gr_iload_n dX3_firstBest_131 rfl ?_
              refine gr_rald (i := c) dX3_firstBest_132 (by first | assumption | rfl) (by omega) (by omega) (by omega) (by decide) (by assumption) ?_
              refine gr_iload dX3_firstBest_133 rfl ?_
              refine gr_iald (i := s) dX3_firstBest_135 (by first | assumption | rfl) (by omega) (by omega) (by omega) (by decide) ?_
              rw [show gw_G (gw_Cm jX3_firstBest (d + 3) Q) jX3_firstBest 136 = gw_G (gw_Cm jX3_firstBest (d + 3) Q) jX3_firstBest 136 from rfl]
              refine gr_iadd (v := gs_vl I (gs_sp f 4) c kp s) dX3_firstBest_136 v1 ?_
              refine gr_aload_n dX3_firstBest_137 rfl ?_
              refine gr_getR dX3_firstBest_138 fX3_50 (by first | assumption | rfl) (by omega) (by decide) rfl (by assumption) ?_
              refine gr_iload_n dX3_firstBest_141 rfl ?_
              refine gr_iald (i := best) dX3_firstBest_142 (by first | assumption | rfl) (by omega) (by omega) (by omega) (by decide) ?_
              refine gr_aload_n dX3_firstBest_143 rfl ?_
              refine gr_getR dX3_firstBest_144 fX3_38 (by first | assumption | rfl) (by omega) (by decide) rfl (by assumption) ?_
              refine gr_iload_n dX3_firstBest_147 rfl ?_
              refine gr_rald (i := c) dX3_firstBest_148 (by first | assumption | rfl) (by omega) (by omega) (by omega) (by decide) (by assumption) ?_
              refine gr_iload_n dX3_firstBest_149 rfl ?_
              refine gr_iald (i := best) dX3_firstBest_150 (by first | assumption | rfl) (by omega) (by omega) (by omega) (by decide) ?_
              refine gr_iadd (v := gs_vl I (gs_sp f 4) c kp best) dX3_firstBest_151 w1 ?_
              refine gr_icmp_ge 158 dX3_firstBest_152 (by decide) (by unfold gw_in; omega) (by unfold gw_in; omega) (fun h152 => ?_) (fun h152 => ?_)
              · refine gr_iinc (v := ((s + 1 : Nat) : Int)) dX3_firstBest_158 (by decide) rfl (by omega) ?_
                refine gr_goto 114 dX3_firstBest_161 (by decide) ?_
                exact ihm (s + 1) best (by omega) (by omega) (by omega) (fun i hi => by
                  by_cases e : i = s
                  · subst e; exact h152
                  · exact g1 i (by omega)) g2
              · refine gr_iload dX3_firstBest_155 rfl ?_
                refine gr_istore_n dX3_firstBest_157 (by decide) ?_
                refine gr_iinc (v := ((s + 1 : Nat) : Int)) dX3_firstBest_158 (by decide) rfl (by omega) ?_
                refine gr_goto 114 dX3_firstBest_161 (by decide) ?_
                exact ihm (s + 1) s (by omega) (by omega) (by omega) (fun i hi => by
                  by_cases e : i = s
                  · subst e; exact Int.le_refl _
                  · have := g1 i (by omega); omega) (fun i hi => by have := g1 i hi; omega)
        exact loop ((gs_sp f 4).length - 1) 1 0 (by omega) (by omega) (by omega) (fun i hi => by rw [show i = 0 by omega]; exact Int.le_refl _) (fun i hi => absurd hi (by omega))
      · omega
    | succ n ih =>
      intro p I2 x4 x5 hp h1 h2
      obtain ⟨hfp1, hfp2⟩ := hf p (by omega)
      have hl1 := hf1 p (by omega)
      have hl7 := hf7 p (by omega)
      have hR := gq_sh22 (4 * c + p) (by omega)
      have hRF := f21 (4 * c + p) (by omega)
      have hm := hmono p (by omega)
      rw [gs_len] at hm
      refine gr_iload_n dX3_firstBest_11 rfl ?_
      refine gr_iconst dX3_firstBest_12 ?_
      refine gr_icmp_ge 109 dX3_firstBest_13 (by decide) (by unfold gw_in; omega) (by unfold gw_in; omega) (fun h13 => ?_) (fun h13 => ?_)
      · omega
      · refine gr_iload_n dX3_firstBest_16 rfl ?_
        refine gr_iconst dX3_firstBest_17 ?_
        refine gr_imul dX3_firstBest_18 rfl ?_
        refine gr_iload_n dX3_firstBest_19 rfl ?_
        refine gr_iadd (v := ((4 * c + p : Nat) : Int)) dX3_firstBest_20 (by omega) ?_
        refine gr_istore dX3_firstBest_21 (by decide) ?_
        refine gr_iconst dX3_firstBest_23 ?_
        refine gr_istore dX3_firstBest_24 (by decide) ?_
        have inner : ∀ (m i : Nat) (I3 : Nat → Nat → Int), i + m = (f p).length → (∀ a t, a ≠ 65 → I3 a t = I2 a t) → (∀ t, t < i → I3 65 t = gs_wf I c kp p ((f p).getD t 0)) → gw_G (gw_Cm jX3_firstBest (d + 3) Q) jX3_firstBest 26 [some (.inr (some 12)), some (.inl (c : Int)), some (.inl ((gs_sp f p).length : Int)), some (.inl (p : Int)), some (.inl ((4 * c + p : Nat) : Int)), some (.inl (i : Int))] [] (114, I3, F) 0 0 := by
          intro m
          induction m with
          | zero =>
            intro i I3 hj g1 g2
            have hj : i = (f p).length := by omega
            subst hj
            have e1 : I3 54 (4 * c + p) = ((f p).length : Int) := by
              rw [g1 _ _ (by omega), h1 _ _ (by omega) (by omega)]; exact hfp1
            refine gr_iload dX3_firstBest_26 rfl ?_
            refine gr_aload_n dX3_firstBest_28 rfl ?_
            refine gr_getR dX3_firstBest_29 fX3_34 (by first | assumption | rfl) (by omega) (by decide) rfl (by assumption) ?_
            refine gr_iload dX3_firstBest_32 rfl ?_
            refine gr_iald (i := 4 * c + p) dX3_firstBest_34 (by first | assumption | rfl) (by omega) (by omega) (by omega) (by decide) ?_
            rw [e1]
            refine gr_icmp_ge 86 dX3_firstBest_35 (by decide) (by unfold gw_in; omega) (by unfold gw_in; omega) (fun h35 => ?_) (fun h35 => ?_)
            · refine gr_aload_n dX3_firstBest_86 rfl ?_
              refine gr_aload_n dX3_firstBest_87 rfl ?_
              refine gr_getR dX3_firstBest_88 fX3_50 (by first | assumption | rfl) (by omega) (by decide) rfl (by assumption) ?_
              refine gr_iload_n dX3_firstBest_91 rfl ?_
              refine gr_aload_n dX3_firstBest_92 rfl ?_
              refine gr_getR dX3_firstBest_93 fX3_34 (by first | assumption | rfl) (by omega) (by decide) rfl (by assumption) ?_
              refine gr_iload dX3_firstBest_96 rfl ?_
              refine gr_iald (i := 4 * c + p) dX3_firstBest_98 (by first | assumption | rfl) (by omega) (by omega) (by omega) (by decide) ?_
              rw [e1]
              refine gr_virt dX3_firstBest_99 kX3_89 (as := [_, _, _]) rfl rfl (by first | assumption | rfl) (by omega) (Nat.le_of_ble_eq_true rfl) (gw_Rm_m (by omega) (by decide) (by decide)) (c_widen (q := 67) (m := (gs_sp f p).length) (y := (f p).length) (d + 2) hF' rfl (by omega) hl1 hl7 (by omega)) ?_
              rintro _ _ ⟨r, I4, rfl, rfl, rfl, hI4⟩
              refine gr_istore_n dX3_firstBest_102 (by decide) ?_
              refine gr_iinc (v := ((p + 1 : Nat) : Int)) dX3_firstBest_103 (by decide) rfl (by omega) ?_
              refine gr_goto 11 dX3_firstBest_106 (by decide) ?_
              have hg := gs_len f p
              rw [← hg]
              refine ih (p + 1) I4 _ _ (by omega) (fun a i ha hb => ?_) (fun t ht => ?_)
              · rw [hI4, if_neg (by omega), g1 a i ha]
                exact h1 a i ha hb
              · rw [hI4, if_pos ⟨rfl, by omega⟩, g1 67 _ (by omega)]
                have ht' := ht
                rw [hg] at ht'
                rw [h2 _ ((Nat.div_lt_iff_lt_mul hl1).mpr ht'), g2 _ (Nat.mod_lt _ hl1), gs_get f p t ht, gs_tp_s (hf8 p (by omega) _ (Nat.mod_lt _ hl1))]
            · omega
          | succ m ihm =>
            intro i I3 hj g1 g2
            have e1 : I3 54 (4 * c + p) = ((f p).length : Int) := by
              rw [g1 _ _ (by omega), h1 _ _ (by omega) (by omega)]; exact hfp1
            have e2 : I3 (22 + (4 * c + p)) i = ((f p).getD i 0 : Nat) := by
              rw [g1 _ _ (by omega), h1 _ _ (by omega) (by omega)]; exact hfp2 i (by omega)
            have eq21 : ∀ a, a < 21 → I3 a = I a := fun a ha => funext fun i => by rw [g1 a i (by omega)]; exact h1 a i (by omega) (by omega)
            have hM3 := gq_M_congr eq21 hM
            -- the end: the sum is stored
            have st : ∀ v : Int, v = gs_wf I c kp p ((f p).getD i 0) → gw_G (gw_Cm jX3_firstBest (d + 3) Q) jX3_firstBest 79 [some (.inr (some 12)), some (.inl (c : Int)), some (.inl ((gs_sp f p).length : Int)), some (.inl (p : Int)), some (.inl ((4 * c + p : Nat) : Int)), some (.inl (i : Int))] [.inl v, .inl (i : Int), .inr (some 65)] (114, I3, F) 0 0 := by
              intro v hv
              refine gr_iast (i := i) dX3_firstBest_79 (by first | assumption | rfl) (by omega) (by omega) (by omega) (by decide) ?_
              refine gr_iinc (v := ((i + 1 : Nat) : Int)) dX3_firstBest_80 (by decide) rfl (by omega) ?_
              refine gr_goto 26 dX3_firstBest_83 (by decide) ?_
              refine ihm (i + 1) _ (by omega) (fun a t ha => by rw [gw_U_n (by omega)]; exact g1 a t ha) (fun t ht => ?_)
              by_cases hij : t = i
              · subst hij
                rw [gw_U_s, hv]
              · rw [gw_U_n (by omega)]
                exact g2 t (by omega)
            refine gr_iload dX3_firstBest_26 rfl ?_
            refine gr_aload_n dX3_firstBest_28 rfl ?_
            refine gr_getR dX3_firstBest_29 fX3_34 (by first | assumption | rfl) (by omega) (by decide) rfl (by assumption) ?_
            refine gr_iload dX3_firstBest_32 rfl ?_
            refine gr_iald (i := 4 * c + p) dX3_firstBest_34 (by first | assumption | rfl) (by omega) (by omega) (by omega) (by decide) ?_
            rw [e1]
            refine gr_icmp_ge 86 dX3_firstBest_35 (by decide) (by unfold gw_in; omega) (by unfold gw_in; omega) (fun h35 => ?_) (fun h35 => ?_)
            · omega
            · refine gr_aload_n dX3_firstBest_38 rfl ?_
              refine gr_getR dX3_firstBest_39 fX3_44 (by first | assumption | rfl) (by omega) (by decide) rfl (by assumption) ?_
              refine gr_iload dX3_firstBest_42 rfl ?_
              refine gr_iload_n dX3_firstBest_44 rfl ?_
              refine gr_if_ne 52 dX3_firstBest_45 (by decide) (by unfold gw_in; omega) (fun h45 => ?_) (fun h45 => ?_)
              · have hch' : I3 69 (4 * (c - 1) + p) = (gs_hd kp p : Nat) := by
                  rw [g1 _ _ (by omega), h1 _ _ (by omega) (by omega)]; exact hch (by omega) p (by omega)
                refine gr_aload_n dX3_firstBest_52 rfl ?_
                refine gr_iload_n dX3_firstBest_53 rfl ?_
                refine gr_iload_n dX3_firstBest_54 rfl ?_
                refine gr_iconst dX3_firstBest_55 ?_
                refine gr_isub (v := ((c - 1 : Nat) : Int)) dX3_firstBest_56 (by omega) ?_
                refine gr_aload_n dX3_firstBest_57 rfl ?_
                refine gr_iload_n dX3_firstBest_58 rfl ?_
                refine gr_iconst dX3_firstBest_59 ?_
                refine gr_isub (v := ((c - 1 : Nat) : Int)) dX3_firstBest_60 (by omega) ?_
                refine gr_iload_n dX3_firstBest_61 rfl ?_
                refine gr_virt dX3_firstBest_62 kX3_150 (as := [_, _]) rfl rfl (by first | assumption | rfl) (by omega) (Nat.le_of_ble_eq_true rfl) (gw_Rm_m (by omega) (by decide) (by decide)) (c_handIn (c := c - 1) (p := p) (d + 2) hF' (by omega) (by omega)) ?_
                rintro _ _ ⟨rfl, rfl⟩
                rw [hch']
                refine gr_iload_n dX3_firstBest_65 rfl ?_
                refine gr_aload_n dX3_firstBest_66 rfl ?_
                refine gr_getR dX3_firstBest_67 fX3_31 (by first | assumption | rfl) (by omega) (by decide) rfl (by assumption) ?_
                refine gr_iload dX3_firstBest_70 rfl ?_
                refine gr_rald (i := 4 * c + p) dX3_firstBest_72 (by first | assumption | rfl) (by omega) (by omega) (by omega) (by decide) (by assumption) ?_
                refine gr_iload dX3_firstBest_73 rfl ?_
                refine gr_iald (i := i) dX3_firstBest_75 (by first | assumption | rfl) (by omega) (by omega) (by omega) (by decide) ?_
                rw [e2]
                refine gr_virt dX3_firstBest_76 kX3_128 (as := [_, _, _, _, _]) rfl rfl (by first | assumption | rfl) (by omega) (Nat.le_of_ble_eq_true rfl) (gw_Rm_m (by omega) (by decide) (by decide)) (c_way (p := p) (c := c - 1) (h := gs_hd kp p) (c' := c) (h' := (f p).getD i 0) d hKr hM3 (by omega) (by omega) hc (hhd p) (hf8 p (by omega) i (by omega))) ?_
                rintro _ _ ⟨rfl, rfl⟩
                rw [gq_way_congr eq21]
                exact st _ (by unfold gs_wf; rw [if_neg (by omega)])
              · refine gr_iconst dX3_firstBest_48 ?_
                refine gr_goto 79 dX3_firstBest_49 (by decide) ?_
                exact st 0 (by unfold gs_wf; rw [if_pos (by omega)])
        exact inner (f p).length 0 I2 (by omega) (fun _ _ _ => rfl) (fun t ht => absurd ht (by omega))
  refine key 4 0 _ none none (by omega) (fun a i ha hb => gw_U_n (by omega)) (fun t ht => ?_)
  have ht : t = 0 := by
    have : (gs_sp f 0).length = 1 := rfl
    omega
  subst ht
  rw [gw_U_s]
  rfl
theorem choose_step {c p l : Nat} {f : Nat → List Nat} {Q : Option gw_V → gw_M → Prop} {x5 x6 y2 : Option gw_V} (d : Nat) (hF : gq_K F) (hc : c < 8) (hp : p < 4) (hf : gq_off I f c) (hf1 : 0 < (f p).length) (hf7 : (f p).length ≤ 7) (hl : l < 1000)
    (kk : ∀ x5 x6 : Option gw_V, gw_G (gw_Cm jX3_choose (d + 1) Q) jX3_choose 5 [some (.inr (some 12)), some (.inl (c : Int)), y2, some (.inl ((l / (f p).length : Nat) : Int)), some (.inl ((p : Int) - 1)), x5, x6] [] (114, gw_U I 69 (4 * c + p) ((f p).getD (l % (f p).length) 0 : Nat), F) 0 0) :
    gw_G (gw_Cm jX3_choose (d + 1) Q) jX3_choose 5 [some (.inr (some 12)), some (.inl (c : Int)), y2, some (.inl (l : Int)), some (.inl (p : Int)), x5, x6] [] (114, I, F) 0 0 := by
  obtain ⟨f0, f1, f3, f4, f5, f6, f7, f8, f9, f10, f11, f21, f55, fb, fp⟩ := hF
  obtain ⟨h1, h2⟩ := hf p hp
  have hR := gq_sh22 (4 * c + p) (by omega)
  have hRF := f21 (4 * c + p) (by omega)
  have hml : l % (f p).length < (f p).length := Nat.mod_lt _ hf1
  refine gr_iload dX3_choose_5 rfl ?_
  refine gr_if_lt 61 dX3_choose_7 (by decide) (by unfold gw_in; omega) (fun h7 => ?_) (fun h7 => ?_)
  · omega
  · refine gr_iload_n dX3_choose_10 rfl ?_
    refine gr_iconst dX3_choose_11 ?_
    refine gr_imul dX3_choose_12 rfl ?_
    refine gr_iload dX3_choose_13 rfl ?_
    refine gr_iadd (v := ((4 * c + p : Nat) : Int)) dX3_choose_15 (by omega) ?_
    refine gr_istore dX3_choose_16 (by decide) ?_
    refine gr_aload_n dX3_choose_18 rfl ?_
    refine gr_getR dX3_choose_19 fX3_34 (by first | assumption | rfl) (by omega) (by decide) rfl (by assumption) ?_
    refine gr_iload dX3_choose_22 rfl ?_
    refine gr_iald (i := 4 * c + p) dX3_choose_24 (by first | assumption | rfl) (by omega) (by omega) (by omega) (by decide) ?_
    rw [h1]
    refine gr_iconst dX3_choose_25 ?_
    refine gr_mmax dX3_choose_26 mX3_100 mm_max1 mm_ini mm_max2 (gw_Rm_1 (by omega) (by decide) (by decide)) (by unfold gw_in; omega) (by unfold gw_in; omega) (Nat.le_of_ble_eq_true rfl) ?_
    rw [if_neg (by omega)]
    refine gr_istore dX3_choose_29 (by decide) ?_
    refine gr_aload_n dX3_choose_31 rfl ?_
    refine gr_getR dX3_choose_32 fX3_56 (by first | assumption | rfl) (by omega) (by decide) rfl (by assumption) ?_
    refine gr_iload dX3_choose_35 rfl ?_
    refine gr_aload_n dX3_choose_37 rfl ?_
    refine gr_getR dX3_choose_38 fX3_31 (by first | assumption | rfl) (by omega) (by decide) rfl (by assumption) ?_
    refine gr_iload dX3_choose_41 rfl ?_
    refine gr_rald (i := 4 * c + p) dX3_choose_43 (by first | assumption | rfl) (by omega) (by omega) (by omega) (by decide) (by assumption) ?_
    refine gr_iload_n dX3_choose_44 rfl ?_
    refine gr_iload dX3_choose_45 rfl ?_
    refine gr_irem (v := ((l % (f p).length : Nat) : Int)) dX3_choose_47 (ga_ne0 hf1 (by omega)) (ga_remN (by omega) hf1 (by omega)) ?_
    refine gr_iald (i := l % (f p).length) dX3_choose_48 hR (by omega) rfl (by omega) (by decide) ?_
    rw [h2 _ hml]
    refine gr_iast (i := 4 * c + p) dX3_choose_49 (by first | assumption | rfl) (by omega) (by omega) (by omega) (by decide) ?_
    refine gr_iload_n dX3_choose_50 rfl ?_
    refine gr_iload dX3_choose_51 rfl ?_
    refine gr_idiv (v := ((l / (f p).length : Nat) : Int)) dX3_choose_53 (ga_ne0 hf1 (by omega)) (ga_divN (by omega) hf1 (by omega)) ?_
    refine gr_istore_n dX3_choose_54 (by decide) ?_
    refine gr_iinc (v := ((p : Int) - 1)) dX3_choose_55 (by decide) rfl (by omega) ?_
    refine gr_goto 5 dX3_choose_58 (by decide) ?_
    exact kk _ _
theorem c_choose {c t : Nat} {f : Nat → List Nat} (d : Nat) (hF : gq_K F) (hc : c < 8) (hf : gq_off I f c) (hf1 : ∀ p, p < 4 → 0 < (f p).length) (hf7 : ∀ p, p < 4 → (f p).length ≤ 7) (hf8 : ∀ p, p < 4 → ∀ i, i < (f p).length → (f p).getD i 0 < 8) (hlen : (gs_sp f 4).length ≤ 784) (ht : t < (gs_sp f 4).length) : gw_Met jX3_choose (d + 1) [.inr (some 12), .inl (c : Int), .inl (t : Int)] (114, I, F) (gw_vo F (fun I' => (∀ a i, ¬ (a = 69 ∧ 4 * c ≤ i ∧ i < 4 * c + 4) → I' a i = I a i) ∧ ∀ p, p < 4 → I' 69 (4 * c + p) = (gs_hd ((gs_sp f 4).getD t 0) p : Nat))) := by
  have hF' := hF
  obtain ⟨x0, x1, x2, x3, h0, h1, h2, h3, hte⟩ := gs_uncode ht
  have hcode := (gs_code h0 h1 h2 h3).2
  rw [← hte] at hcode
  obtain ⟨g0, g1, g2, g3⟩ := gs_hd_code (hf8 1 (by omega) x1 h1) (hf8 2 (by omega) x2 h2) (hf8 3 (by omega) x3 h3) (hf8 0 (by omega) x0 h0)
  rw [← hcode] at g0 g1 g2 g3
  have dv : ∀ a b n : Nat, b < n → (a * n + b) / n = a ∧ (a * n + b) % n = b := fun a b n hb => ⟨by rw [Nat.mul_comm, Nat.mul_add_div (by omega), Nat.div_eq_of_lt hb, Nat.add_zero], by rw [Nat.mul_comm, Nat.mul_add_mod, Nat.mod_eq_of_lt hb]⟩
  have d3 : t / (f 3).length = (x0 * (f 1).length + x1) * (f 2).length + x2 ∧ t % (f 3).length = x3 := by rw [hte]; exact dv _ _ _ h3
  have d2 := dv (x0 * (f 1).length + x1) x2 (f 2).length h2
  have d1 := dv x0 x1 (f 1).length h1
  have l3 : t / (f 3).length ≤ t := Nat.div_le_self _ _
  have l2 : (x0 * (f 1).length + x1) ≤ (x0 * (f 1).length + x1) * (f 2).length + x2 := by
    have := Nat.le_mul_of_pos_right (x0 * (f 1).length + x1) (hf1 2 (by omega)); omega
  have l1 : x0 ≤ x0 * (f 1).length + x1 := by
    have := Nat.le_mul_of_pos_right x0 (hf1 1 (by omega)); omega
  refine gw_enter okX3_choose rfl (Nat.le_of_ble_eq_true rfl) ?_
  refine gr_iload_n dX3_choose_0 rfl ?_
  refine gr_istore_n dX3_choose_1 (by decide) ?_
  refine gr_iconst dX3_choose_2 ?_
  refine gr_istore dX3_choose_3 (by decide) ?_
  refine choose_step (p := 3) (l := t) (f := f) d hF' hc (by omega) hf (hf1 3 (by omega)) (hf7 3 (by omega)) (by omega) (fun _ _ => ?_)
  refine choose_step (p := 2) (l := t / (f 3).length) (f := f) d hF' hc (by omega) (gq_off_congr hc (fun a i _ _ => gw_U_n (by omega)) hf) (hf1 2 (by omega)) (hf7 2 (by omega)) (by omega) (fun _ _ => ?_)
  refine choose_step (p := 1) (l := t / (f 3).length / (f 2).length) (f := f) d hF' hc (by omega) (gq_off_congr hc (fun a i _ _ => by rw [gw_U_n (by omega), gw_U_n (by omega)]) hf) (hf1 1 (by omega)) (hf7 1 (by omega)) (by rw [d3.1, d2.1]; omega) (fun _ _ => ?_)
  refine choose_step (p := 0) (l := t / (f 3).length / (f 2).length / (f 1).length) (f := f) d hF' hc (by omega) (gq_off_congr hc (fun a i _ _ => by rw [gw_U_n (by omega), gw_U_n (by omega), gw_U_n (by omega)]) hf) (hf1 0 (by omega)) (hf7 0 (by omega)) (by rw [d3.1, d2.1, d1.1]; omega) (fun _ _ => ?_)
  rw [d3.1, d3.2, d2.1, d2.2, d1.1, d1.2, Nat.mod_eq_of_lt h0]
  refine gr_iload dX3_choose_5 rfl ?_
  refine gr_if_lt 61 dX3_choose_7 (by decide) (by unfold gw_in; omega) (fun h7 => ?_) (fun h7 => ?_)
  · refine gr_vret dX3_choose_61 rfl (by decide) (by decide) ⟨rfl, _, rfl, fun a i h => by rw [gw_U_n (by omega), gw_U_n (by omega), gw_U_n (by omega), gw_U_n (by omega)], fun p hp => ?_⟩
    rcases (show p = 0 ∨ p = 1 ∨ p = 2 ∨ p = 3 by omega) with rfl | rfl | rfl | rfl
    · rw [gw_U_s, g0]
    · rw [gw_U_n (by omega), gw_U_s, g1]
    · rw [gw_U_n (by omega), gw_U_n (by omega), gw_U_s, g2]
    · rw [gw_U_n (by omega), gw_U_n (by omega), gw_U_n (by omega), gw_U_s, g3]
  · omega
end GQ
