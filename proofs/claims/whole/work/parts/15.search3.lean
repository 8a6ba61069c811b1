/-! Search: findGaps, evenSpreads -/
theorem gq_pl_congr {I I' : Nat → Nat → Int} {p h : Nat} (e : ∀ a, a < 21 → I' a = I a) : gs_pl (gq_B I') p h = gs_pl (gq_B I) p h := by
  unfold gs_pl gb_str gq_B
  simp only [e (13 + (0 + 4)) (by omega)]
theorem gs_len_mono {f : Nat → List Nat} (hf : ∀ p, p < 4 → 0 < (f p).length) : ∀ p, p < 4 → (gs_sp f (p + 1)).length ≤ (gs_sp f 4).length := by
  have st : ∀ p, p < 4 → (gs_sp f p).length ≤ (gs_sp f (p + 1)).length := fun p hp => by
    rw [gs_len]
    exact Nat.le_mul_of_pos_right _ (hf p hp)
  intro p hp
  rcases (show p = 0 ∨ p = 1 ∨ p = 2 ∨ p = 3 by omega) with rfl | rfl | rfl | rfl
  · exact Nat.le_trans (Nat.le_trans (st 1 (by omega)) (st 2 (by omega))) (st 3 (by omega))
  · exact Nat.le_trans (st 2 (by omega)) (st 3 (by omega))
  · exact st 3 (by omega)
  · exact Nat.le_refl _
theorem gs_pk_s {B : Nat → Nat → Int} {p k h : Nat} (hh : h < 8) : gs_pk B (p + 1) (8 * k + h) = gs_pk B p k + gs_pl B p h := by
  simp only [gs_pk]
  rw [show (8 * k + h) / 8 = k by omega, show (8 * k + h) % 8 = h by omega]
section GQ
variable {I : Nat → Nat → Int} {F : Nat → Nat → Option Nat}
theorem c_findGaps {c : Nat} {f : Nat → List Nat} (d : Nat) (hF : gq_K F) (hM : gq_M I) (hc : c < 8) (hf : gq_off I f c) (hf1 : ∀ p, p < 4 → 0 < (f p).length) (hf7 : ∀ p, p < 4 → (f p).length ≤ 7) (hf8 : ∀ p, p < 4 → ∀ i, i < (f p).length → (f p).getD i 0 < 8) (hlen : (gs_sp f 4).length ≤ 784) : gw_Met jX3_findGaps (d + 3) [.inr (some 12), .inl (c : Int)] (114, I, F) (gw_io F (fun r I' => r = ((gs_sp f 4).length : Int) ∧ (∀ a i, a ≠ 64 → a ≠ 65 → I' a i = I a i) ∧ ∀ t, t < (gs_sp f 4).length → I' 64 t = gs_gap (gq_B I) (gp_cnt (I 20) c) ((gs_sp f 4).getD t 0))) := by
  have hF' := hF
  obtain ⟨f0, f1, f3, f4, f5, f6, f7, f8, f9, f10, f11, f21, f55, fb, fp⟩ := hF
  obtain ⟨hB, hN, -⟩ := id hM
  have hcnt := gp_cnt_le (I 20) c
  have hmono := gs_len_mono hf1
  generalize hQ : (gw_io F (fun r I' => r = ((gs_sp f 4).length : Int) ∧ (∀ a i, a ≠ 64 → a ≠ 65 → I' a i = I a i) ∧ ∀ t, t < (gs_sp f 4).length → I' 64 t = gs_gap (gq_B I) (gp_cnt (I 20) c) ((gs_sp f 4).getD t 0))) = Q
  refine gw_enter okX3_findGaps rfl (Nat.le_of_ble_eq_true rfl) ?_
  refine gr_iconst dX3_findGaps_0 ?_
  refine gr_istore_n dX3_findGaps_1 (by decide) ?_
  refine gr_aload_n dX3_findGaps_2 rfl ?_
  refine gr_getR dX3_findGaps_3 fX3_41 (by first | assumption | rfl) (by omega) (by decide) rfl (by assumption) ?_
  refine gr_iconst dX3_findGaps_6 ?_
  refine gr_iconst dX3_findGaps_7 ?_
  refine gr_iast (i := 0) dX3_findGaps_8 (by first | assumption | rfl) (by omega) (by omega) (by omega) (by decide) ?_
  refine gr_iconst dX3_findGaps_9 ?_
  refine gr_istore_n dX3_findGaps_10 (by decide) ?_
  have key : ∀ (n p : Nat) (I2 : Nat → Nat → Int) (x4 x5 : Option gw_V), p + n = 4 → (∀ a i, a ≠ 64 → a ≠ 65 → I2 a i = I a i) → (∀ t, t < (gs_sp f p).length → I2 64 t = gs_pk (gq_B I) p ((gs_sp f p).getD t 0)) → gw_G (gw_Cm jX3_findGaps (d + 3) Q) jX3_findGaps 11 [some (.inr (some 12)), some (.inl (c : Int)), some (.inl ((gs_sp f p).length : Int)), some (.inl (p : Int)), x4, x5] [] (114, I2, F) 0 0 := by
    intro n
    induction n with
    | zero =>
      intro p I2 x4 x5 hp h1 h2
      have hp : p = 4 := by omega
      subst hp
      have eq21 : ∀ a, a < 21 → I2 a = I a := fun a ha => funext fun i => h1 a i (by omega) (by omega)
      refine gr_iload_n dX3_findGaps_11 rfl ?_
      refine gr_iconst dX3_findGaps_12 ?_
      refine gr_icmp_ge 89 dX3_findGaps_13 (by decide) (by unfold gw_in; omega) (by unfold gw_in; omega) (fun h13 => ?_) (fun h13 => ?_)
      · refine gr_aload_n dX3_findGaps_89 rfl ?_
        refine gr_getR dX3_findGaps_90 fX3_21 (by first | assumption | rfl) (by omega) (by decide) rfl (by assumption) ?_
        refine gr_iload_n dX3_findGaps_93 rfl ?_
        refine gr_virt dX3_findGaps_94 kX3_70 (as := [_]) rfl rfl (by first | assumption | rfl) (by omega) (Nat.le_of_ble_eq_true rfl) (gw_Rm_m (by omega) (by decide) (by decide)) (c_notesOf (c := c) (d + 1) fp hc (by rw [eq21 20 (by omega)]; exact hN)) ?_
        rintro _ _ ⟨rfl, rfl⟩
        rw [show I2 (19 + 1) = I 20 from eq21 20 (by omega)]
        refine gr_istore_n dX3_findGaps_97 (by decide) ?_
        refine gr_iconst dX3_findGaps_98 ?_
        refine gr_istore dX3_findGaps_99 (by decide) ?_
        have loop : ∀ (m t : Nat) (I3 : Nat → Nat → Int), t + m = (gs_sp f 4).length → (∀ a i, a ≠ 64 → a ≠ 65 → I3 a i = I a i) → (∀ s, s < t → I3 64 s = gs_gap (gq_B I) (gp_cnt (I 20) c) ((gs_sp f 4).getD s 0)) → (∀ s, t ≤ s → s < (gs_sp f 4).length → I3 64 s = gs_pk (gq_B I) 4 ((gs_sp f 4).getD s 0)) → gw_G (gw_Cm jX3_findGaps (d + 3) Q) jX3_findGaps 101 [some (.inr (some 12)), some (.inl (c : Int)), some (.inl ((gs_sp f 4).length : Int)), some (.inl (gp_cnt (I 20) c : Nat)), some (.inl (t : Int)), x5] [] (114, I3, F) 0 0 := by
          intro m
          induction m with
          | zero =>
            intro t I3 ht g1 g2 g3
            refine gr_iload dX3_findGaps_101 rfl ?_
            refine gr_iload_n dX3_findGaps_103 rfl ?_
            refine gr_icmp_ge 131 dX3_findGaps_104 (by decide) (by unfold gw_in; omega) (by unfold gw_in; omega) (fun h104 => ?_) (fun h104 => ?_)
            · refine gr_iload_n dX3_findGaps_131 rfl ?_
              refine gr_iret dX3_findGaps_132 (by first | exact Or.inl rfl | exact Or.inr ⟨rfl, by omega⟩) (by decide) (by decide) ((by rw [← hQ]; exact ⟨_, _, rfl, rfl, rfl, g1, fun s hs => g2 s (by omega)⟩))
            · omega
          | succ m ihm =>
            intro t I3 ht g1 g2 g3
            refine gr_iload dX3_findGaps_101 rfl ?_
            refine gr_iload_n dX3_findGaps_103 rfl ?_
            refine gr_icmp_ge 131 dX3_findGaps_104 (by decide) (by unfold gw_in; omega) (by unfold gw_in; omega) (fun h104 => ?_) (fun h104 => ?_)
            · omega
            · have hb4 := fun i => gs_ld_in (B := gq_B I) hB i 4 ((gs_sp f 4).getD t 0) (by omega)
              have e4 : I3 64 t = (((gs_ld (gq_B I) 0 4 ((gs_sp f 4).getD t 0)).toNat + 256 * (gs_ld (gq_B I) 1 4 ((gs_sp f 4).getD t 0)).toNat + 65536 * (gs_ld (gq_B I) 2 4 ((gs_sp f 4).getD t 0)).toNat : Nat) : Int) := by
                rw [g3 t (by omega) (by omega), gs_pk_ld]
                have b0 := hb4 0
                have b1 := hb4 1
                have b2 := hb4 2
                omega
              refine gr_aload_n dX3_findGaps_107 rfl ?_
              refine gr_getR dX3_findGaps_108 fX3_41 (by first | assumption | rfl) (by omega) (by decide) rfl (by assumption) ?_
              refine gr_iload dX3_findGaps_111 rfl ?_
              refine gr_aload_n dX3_findGaps_113 rfl ?_
              refine gr_getR dX3_findGaps_114 fX3_41 (by first | assumption | rfl) (by omega) (by decide) rfl (by assumption) ?_
              refine gr_iload dX3_findGaps_117 rfl ?_
              refine gr_iald (i := t) dX3_findGaps_119 (by first | assumption | rfl) (by omega) (by omega) (by omega) (by decide) ?_
              refine gr_iload_n dX3_findGaps_120 rfl ?_
              rw [e4]
              refine gr_stat dX3_findGaps_121 kX3_93 (as := [_, _]) rfl rfl (Nat.le_of_ble_eq_true rfl) (gw_Rm_m (by omega) (by decide) (by decide)) (c_gapOf (l := fun i => (gs_ld (gq_B I) i 4 ((gs_sp f 4).getD t 0)).toNat) (d + 1) hcnt (fun i _ => by have := hb4 i; omega)) ?_
              rintro _ _ ⟨rfl, rfl⟩
              rw [show (fun i => (((gs_ld (gq_B I) i 4 ((gs_sp f 4).getD t 0)).toNat : Nat) : Int)) = fun i => gs_ld (gq_B I) i 4 ((gs_sp f 4).getD t 0) from funext fun i => by have := hb4 i; omega]
              refine gr_iast (i := t) dX3_findGaps_124 (by first | assumption | rfl) (by omega) (by omega) (by omega) (by decide) ?_
              refine gr_iinc (v := ((t + 1 : Nat) : Int)) dX3_findGaps_125 (by decide) rfl (by omega) ?_
              refine gr_goto 101 dX3_findGaps_128 (by decide) ?_
              refine ihm (t + 1) _ (by omega) (fun a i ha hb => by rw [gw_U_n (by omega)]; exact g1 a i ha hb) (fun s hs => ?_) (fun s hs1 hs2 => by rw [gw_U_n (by omega)]; exact g3 s (by omega) hs2)
              by_cases hst : s = t
              · subst hst
                rw [gw_U_s]
                rfl
              · rw [gw_U_n (by omega)]
                exact g2 s (by omega)
        exact loop (gs_sp f 4).length 0 I2 (by omega) h1 (fun s hs => absurd hs (by omega)) (fun s _ hs => h2 s hs)
      · omega
    | succ n ih =>
      intro p I2 x4 x5 hp h1 h2
      obtain ⟨hfp1, hfp2⟩ := hf p (by omega)
      have hl1 := hf1 p (by omega)
      have hl7 := hf7 p (by omega)
      have hR := gq_sh22 (4 * c + p) (by omega)
      have hRF := f21 (4 * c + p) (by omega)
      have hm := hmono p (by omega)
      rw [gs_len] at hm
      refine gr_iload_n dX3_findGaps_11 rfl ?_
      refine gr_iconst dX3_findGaps_12 ?_
      refine gr_icmp_ge 89 dX3_findGaps_13 (by decide) (by unfold gw_in; omega) (by unfold gw_in; omega) (fun h13 => ?_) (fun h13 => ?_)
      · omega
      · refine gr_iload_n dX3_findGaps_16 rfl ?_
        refine gr_iconst dX3_findGaps_17 ?_
        refine gr_imul dX3_findGaps_18 rfl ?_
        refine gr_iload_n dX3_findGaps_19 rfl ?_
        refine gr_iadd (v := ((4 * c + p : Nat) : Int)) dX3_findGaps_20 (by omega) ?_
        refine gr_istore dX3_findGaps_21 (by decide) ?_
        refine gr_iconst dX3_findGaps_23 ?_
        refine gr_istore dX3_findGaps_24 (by decide) ?_
        have inner : ∀ (m j : Nat) (I3 : Nat → Nat → Int), j + m = (f p).length → (∀ a i, a ≠ 65 → I3 a i = I2 a i) → (∀ i, i < j → I3 65 i = gs_pl (gq_B I) p ((f p).getD i 0)) → gw_G (gw_Cm jX3_findGaps (d + 3) Q) jX3_findGaps 26 [some (.inr (some 12)), some (.inl (c : Int)), some (.inl ((gs_sp f p).length : Int)), some (.inl (p : Int)), some (.inl ((4 * c + p : Nat) : Int)), some (.inl (j : Int))] [] (114, I3, F) 0 0 := by
          intro m
          induction m with
          | zero =>
            intro j I3 hj g1 g2
            have hj : j = (f p).length := by omega
            subst hj
            have e1 : I3 54 (4 * c + p) = ((f p).length : Int) := by
              rw [g1 _ _ (by omega), h1 _ _ (by omega) (by omega)]; exact hfp1
            refine gr_iload dX3_findGaps_26 rfl ?_
            refine gr_aload_n dX3_findGaps_28 rfl ?_
            refine gr_getR dX3_findGaps_29 fX3_34 (by first | assumption | rfl) (by omega) (by decide) rfl (by assumption) ?_
            refine gr_iload dX3_findGaps_32 rfl ?_
            refine gr_iald (i := 4 * c + p) dX3_findGaps_34 (by first | assumption | rfl) (by omega) (by omega) (by omega) (by decide) ?_
            rw [e1]
            refine gr_icmp_ge 66 dX3_findGaps_35 (by decide) (by unfold gw_in; omega) (by unfold gw_in; omega) (fun h35 => ?_) (fun h35 => ?_)
            · refine gr_aload_n dX3_findGaps_66 rfl ?_
              refine gr_aload_n dX3_findGaps_67 rfl ?_
              refine gr_getR dX3_findGaps_68 fX3_41 (by first | assumption | rfl) (by omega) (by decide) rfl (by assumption) ?_
              refine gr_iload_n dX3_findGaps_71 rfl ?_
              refine gr_aload_n dX3_findGaps_72 rfl ?_
              refine gr_getR dX3_findGaps_73 fX3_34 (by first | assumption | rfl) (by omega) (by decide) rfl (by assumption) ?_
              refine gr_iload dX3_findGaps_76 rfl ?_
              refine gr_iald (i := 4 * c + p) dX3_findGaps_78 (by first | assumption | rfl) (by omega) (by omega) (by omega) (by decide) ?_
              rw [e1]
              refine gr_virt dX3_findGaps_79 kX3_89 (as := [_, _, _]) rfl rfl (by first | assumption | rfl) (by omega) (Nat.le_of_ble_eq_true rfl) (gw_Rm_m (by omega) (by decide) (by decide)) (c_widen (q := 64) (m := (gs_sp f p).length) (y := (f p).length) (d + 2) hF' rfl (by omega) hl1 hl7 (by omega)) ?_
              rintro _ _ ⟨r, I4, rfl, rfl, rfl, hI4⟩
              refine gr_istore_n dX3_findGaps_82 (by decide) ?_
              refine gr_iinc (v := ((p + 1 : Nat) : Int)) dX3_findGaps_83 (by decide) rfl (by omega) ?_
              refine gr_goto 11 dX3_findGaps_86 (by decide) ?_
              have hg := gs_len f p
              rw [← hg]
              refine ih (p + 1) I4 _ _ (by omega) (fun a i ha hb => ?_) (fun t ht => ?_)
              · rw [hI4, if_neg (by omega), g1 a i hb]
                exact h1 a i ha hb
              · rw [hI4, if_pos ⟨rfl, by omega⟩, g1 64 _ (by omega)]
                have ht' := ht
                rw [hg] at ht'
                rw [h2 _ ((Nat.div_lt_iff_lt_mul hl1).mpr ht'), g2 _ (Nat.mod_lt _ hl1), gs_get f p t ht, gs_pk_s (hf8 p (by omega) _ (Nat.mod_lt _ hl1))]
            · omega
          | succ m ihm =>
            intro j I3 hj g1 g2
            have e1 : I3 54 (4 * c + p) = ((f p).length : Int) := by
              rw [g1 _ _ (by omega), h1 _ _ (by omega) (by omega)]; exact hfp1
            have e2 : I3 (22 + (4 * c + p)) j = ((f p).getD j 0 : Nat) := by
              rw [g1 _ _ (by omega), h1 _ _ (by omega) (by omega)]; exact hfp2 j (by omega)
            have eq21 : ∀ a, a < 21 → I3 a = I a := fun a ha => funext fun i => by rw [g1 a i (by omega)]; exact h1 a i (by omega) (by omega)
            obtain ⟨hB3, -⟩ := gq_M_congr eq21 hM
            refine gr_iload dX3_findGaps_26 rfl ?_
            refine gr_aload_n dX3_findGaps_28 rfl ?_
            refine gr_getR dX3_findGaps_29 fX3_34 (by first | assumption | rfl) (by omega) (by decide) rfl (by assumption) ?_
            refine gr_iload dX3_findGaps_32 rfl ?_
            refine gr_iald (i := 4 * c + p) dX3_findGaps_34 (by first | assumption | rfl) (by omega) (by omega) (by omega) (by decide) ?_
            rw [e1]
            refine gr_icmp_ge 66 dX3_findGaps_35 (by decide) (by unfold gw_in; omega) (by unfold gw_in; omega) (fun h35 => ?_) (fun h35 => ?_)
            · omega
            · refine gr_aload_n dX3_findGaps_38 rfl ?_
              refine gr_getR dX3_findGaps_39 fX3_44 (by first | assumption | rfl) (by omega) (by decide) rfl (by assumption) ?_
              refine gr_iload dX3_findGaps_42 rfl ?_
              refine gr_aload_n dX3_findGaps_44 rfl ?_
              refine gr_iload_n dX3_findGaps_45 rfl ?_
              refine gr_aload_n dX3_findGaps_46 rfl ?_
              refine gr_getR dX3_findGaps_47 fX3_31 (by first | assumption | rfl) (by omega) (by decide) rfl (by assumption) ?_
              refine gr_iload dX3_findGaps_50 rfl ?_
              refine gr_rald (i := 4 * c + p) dX3_findGaps_52 (by first | assumption | rfl) (by omega) (by omega) (by omega) (by decide) (by assumption) ?_
              refine gr_iload dX3_findGaps_53 rfl ?_
              refine gr_iald (i := j) dX3_findGaps_55 (by first | assumption | rfl) (by omega) (by omega) (by omega) (by decide) ?_
              rw [e2]
              refine gr_virt dX3_findGaps_56 kX3_86 (as := [_, _]) rfl rfl (by first | assumption | rfl) (by omega) (Nat.le_of_ble_eq_true rfl) (gw_Rm_m (by omega) (by decide) (by decide)) (c_packedLoud (p := p) (h := (f p).getD j 0) d hF' (by omega) (hf8 p (by omega) j (by omega)) hB3) ?_
              rintro _ _ ⟨rfl, rfl⟩
              rw [gq_pl_congr eq21]
              refine gr_iast (i := j) dX3_findGaps_59 (by first | assumption | rfl) (by omega) (by omega) (by omega) (by decide) ?_
              refine gr_iinc (v := ((j + 1 : Nat) : Int)) dX3_findGaps_60 (by decide) rfl (by omega) ?_
              refine gr_goto 26 dX3_findGaps_63 (by decide) ?_
              refine ihm (j + 1) _ (by omega) (fun a i ha => by rw [gw_U_n (by omega)]; exact g1 a i ha) (fun i hi => ?_)
              by_cases hij : i = j
              · subst hij
                rw [gw_U_s]
              · rw [gw_U_n (by omega)]
                exact g2 i (by omega)
        exact inner (f p).length 0 I2 (by omega) (fun _ _ _ => rfl) (fun i hi => absurd hi (by omega))
  refine key 4 0 _ none none (by omega) (fun a i ha hb => gw_U_n (by omega)) (fun t ht => ?_)
  have ht : t = 0 := by
    have : (gs_sp f 0).length = 1 := rfl
    omega
  subst ht
  rw [gw_U_s]
  rfl
/-- how many of a list's codes are even by b -/
def gs_ev (B : Nat → Nat → Int) (n : Nat) (b : Int) (k : Nat) : Bool := gs_gap B n k ≤ b
theorem gs_gap_in {B : Nat → Nat → Int} {n k : Nat} (hB : gs_B B) (hn : n ≤ 3) : -gs_NEVER ≤ gs_gap B n k ∧ gs_gap B n k ≤ gs_NEVER := by
  have h := fun i => gs_ld_in hB i 4 k (by omega)
  have b1 := gs_mx_in (l := fun i => gs_ld B i 4 k) (n := n) (m := 36) (fun i _ => by have := h i; omega)
  have b2 := gs_mi_in (l := fun i => gs_ld B i 4 k) (n := n) (m := 36) (fun i _ => by have := h i; omega)
  unfold gs_gap gs_gp gs_NEVER
  unfold gs_NEVER at b2
  split <;> omega
theorem c_evenSpreads {c set P : Nat} (d : Nat) (hF : gq_K F) (hM : gq_M I) (hc : c < 8) (hset : set < 16) (hP : I 13 0 = (P : Int)) : gw_Met jX3_evenSpreads (d + 4) [.inr (some 12), .inl (c : Int), .inl (set : Int)] (114, I, F) (gw_io F (fun r I' => r = (((gs_SP P (gq_B I) (I 20) set c).filter (gs_ev (gq_B I) (gp_cnt (I 20) c) (I 19 3))).length : Int) ∧ ∀ a, a < 21 ∨ 66 ≤ a → I' a = I a)) := by
  have hF' := hF
  obtain ⟨f0, f1, f3, f4, f5, f6, f7, f8, f9, f10, f11, f21, f55, fb, fp⟩ := hF
  obtain ⟨hB, hN, ⟨hP0, hP4⟩, ⟨hS0, hS8⟩, hrest, hbal, hbw⟩ := id hM
  obtain ⟨fp1, fp2, fp3, fp4⟩ := id fp
  have hbw' : gb_bw (gq_B I 1) P ≤ 2 := by
    rw [hP] at hbw
    exact hbw
  generalize hf : gs_ch P (gq_B I) (I 20) set c = f
  have hlen : (gs_sp f 4).length ≤ 784 := by rw [← hf]; exact gs_SP_len (by omega) hbw'
  refine gw_enter okX3_evenSpreads rfl (Nat.le_of_ble_eq_true rfl) ?_
  refine gr_aload_n dX3_evenSpreads_0 rfl ?_
  refine gr_iload_n dX3_evenSpreads_1 rfl ?_
  refine gr_iload_n dX3_evenSpreads_2 rfl ?_
  refine gr_virt dX3_evenSpreads_3 kX3_59 (as := [_, _]) rfl rfl (by first | assumption | rfl) (by omega) (Nat.le_of_ble_eq_true rfl) (gw_Rm_m (by omega) (by decide) (by decide)) (c_offer (c := c) (set := set) (P := P) d hF' hM hc hset hP) ?_
  rintro _ _ ⟨rfl, I1, rfl, hI1⟩
  rw [hf] at hI1
  have q21 : ∀ a, a < 21 ∨ 66 ≤ a → I1 a = I a := fun a ha => funext fun i => hI1.2 a i (by omega) (by omega)
  have q21' : ∀ a, a < 21 → I1 a = I a := fun a ha => q21 a (Or.inl ha)
  refine gr_aload_n dX3_evenSpreads_6 rfl ?_
  refine gr_iload_n dX3_evenSpreads_7 rfl ?_
  refine gr_virt dX3_evenSpreads_8 kX3_63 (as := [_]) rfl rfl (by first | assumption | rfl) (by omega) (Nat.le_of_ble_eq_true rfl) (gw_Rm_m (by omega) (by decide) (by decide)) (c_findGaps (c := c) (f := f) d hF' (gq_M_congr q21' hM) hc hI1.1 (fun p _ => by rw [← hf]; exact gs_ch_pos) (fun p _ => by rw [← hf]; exact gs_ch_len7) (fun p _ i hi => by rw [← hf] at hi ⊢; have hm := gs_ch_lt (List.getElem_mem hi); rw [List.getD_eq_getElem?_getD, List.getElem?_eq_getElem hi]; exact Nat.lt_of_lt_of_le hm (by omega)) hlen) ?_
  rintro _ _ ⟨r, I2, rfl, rfl, rfl, hI2, hg⟩
  rw [q21' 20 (by omega)] at hg
  have hBe : ∀ n k, gs_gap (gq_B I1) n k = gs_gap (gq_B I) n k := by
    intro n k
    have e : ∀ i p k, gs_ld (gq_B I1) i p k = gs_ld (gq_B I) i p k := by
      intro i p
      induction p with
      | zero => intro k; rfl
      | succ p ih =>
        intro k
        simp only [gs_ld, ih, gb_str, gq_B, q21' (13 + (0 + 4)) (by omega)]
    unfold gs_gap
    simp only [e]
  simp only [hBe] at hg
  have q2 : ∀ a, a < 21 ∨ 66 ≤ a → I2 a = I a := fun a ha => funext fun i => by rw [hI2 a i (by omega) (by omega), q21 a ha]
  refine gr_istore_n dX3_evenSpreads_11 (by decide) ?_
  refine gr_iconst dX3_evenSpreads_12 ?_
  refine gr_istore dX3_evenSpreads_13 (by decide) ?_
  refine gr_iconst dX3_evenSpreads_15 ?_
  refine gr_istore dX3_evenSpreads_16 (by decide) ?_
  have loop : ∀ (m t : Nat), t + m = (gs_sp f 4).length → gw_G (gw_Cm jX3_evenSpreads (d + 4) (gw_io F (fun r I' => r = (((gs_sp f 4).filter (gs_ev (gq_B I) (gp_cnt (I 20) c) (I 19 3))).length : Int) ∧ ∀ a, a < 21 ∨ 66 ≤ a → I' a = I a))) jX3_evenSpreads 18 [some (.inr (some 12)), some (.inl (c : Int)), some (.inl (set : Int)), some (.inl ((gs_sp f 4).length : Int)), some (.inl ((((gs_sp f 4).take t).filter (gs_ev (gq_B I) (gp_cnt (I 20) c) (I 19 3))).length : Int)), some (.inl (t : Int))] [] (114, I2, F) 0 0 := by
    intro m
    induction m with
    | zero =>
      intro t ht
      refine gr_iload dX3_evenSpreads_18 rfl ?_
      refine gr_iload_n dX3_evenSpreads_20 rfl ?_
      refine gr_icmp_ge 50 dX3_evenSpreads_21 (by decide) (by unfold gw_in; omega) (by unfold gw_in; omega) (fun h21 => ?_) (fun h21 => ?_)
      · refine gr_iload dX3_evenSpreads_50 rfl ?_
        refine gr_iret dX3_evenSpreads_52 (by first | exact Or.inl rfl | exact Or.inr ⟨rfl, by omega⟩) (by decide) (by decide) (⟨_, _, rfl, rfl, by rw [List.take_of_length_le (by omega)], q2⟩)
      · omega
    | succ m ih =>
      intro t ht
      have hgt := hg t (by omega)
      have hin := gs_gap_in (B := gq_B I) (n := gp_cnt (I 20) c) (k := (gs_sp f 4).getD t 0) hB (gp_cnt_le _ _)
      unfold gs_NEVER at hin
      have htk : (gs_sp f 4).take (t + 1) = (gs_sp f 4).take t ++ [(gs_sp f 4).getD t 0] := by
        rw [List.take_succ, List.getD_eq_getElem?_getD, List.getElem?_eq_getElem (by omega)]
        rfl
      have hbal2 : I2 19 3 = I 19 3 := by rw [q2 19 (by omega)]
      refine gr_iload dX3_evenSpreads_18 rfl ?_
      refine gr_iload_n dX3_evenSpreads_20 rfl ?_
      refine gr_icmp_ge 50 dX3_evenSpreads_21 (by decide) (by unfold gw_in; omega) (by unfold gw_in; omega) (fun h21 => ?_) (fun h21 => ?_)
      · omega
      · refine gr_aload_n dX3_evenSpreads_24 rfl ?_
        refine gr_getR dX3_evenSpreads_25 fX3_41 (by first | assumption | rfl) (by omega) (by decide) rfl (by assumption) ?_
        refine gr_iload dX3_evenSpreads_28 rfl ?_
        refine gr_iald (i := t) dX3_evenSpreads_30 (by first | assumption | rfl) (by omega) (by omega) (by omega) (by decide) ?_
        refine gr_aload_n dX3_evenSpreads_31 rfl ?_
        refine gr_getR dX3_evenSpreads_32 fX3_21 (by first | assumption | rfl) (by omega) (by decide) rfl (by assumption) ?_
        refine gr_getI dX3_evenSpreads_35 fX3_67 (by first | assumption | rfl) (by omega) (by decide) rfl ?_
        rw [hgt, hbal2]
        refine gr_icmp_gt 44 dX3_evenSpreads_38 (by decide) (by unfold gw_in; omega) (by unfold gw_in; omega) (fun h38 => ?_) (fun h38 => ?_)
        · refine gr_iinc (v := ((t + 1 : Nat) : Int)) dX3_evenSpreads_44 (by decide) rfl (by omega) ?_
          refine gr_goto 18 dX3_evenSpreads_47 (by decide) ?_
          have r := ih (t + 1) (by omega)
          rw [htk, List.filter_append] at r
          have e : gs_ev (gq_B I) (gp_cnt (I 20) c) (I 19 3) ((gs_sp f 4).getD t 0) = false := by
            unfold gs_ev
            simp only [decide_eq_false_iff_not]
            omega
          rw [List.filter_cons_of_neg (by rw [e]; decide), List.filter_nil, List.append_nil] at r
          exact r
        · have e : gs_ev (gq_B I) (gp_cnt (I 20) c) (I 19 3) ((gs_sp f 4).getD t 0) = true := by
            unfold gs_ev
            simp only [decide_eq_true_eq]
            omega
          refine gr_iinc (v := ((((gs_sp f 4).take (t + 1)).filter (gs_ev (gq_B I) (gp_cnt (I 20) c) (I 19 3))).length : Int)) dX3_evenSpreads_41 (by decide) rfl (by rw [htk, List.filter_append, List.filter_cons_of_pos e, List.filter_nil, List.length_append]; rfl) ?_
          refine gr_iinc (v := ((t + 1 : Nat) : Int)) dX3_evenSpreads_44 (by decide) rfl (by omega) ?_
          refine gr_goto 18 dX3_evenSpreads_47 (by decide) ?_
          exact ih (t + 1) (by omega)
  have hfin := loop (gs_sp f 4).length 0 (by omega)
  rw [show gs_SP P (gq_B I) (I 20) set c = gs_sp f 4 by rw [← hf]]
  exact hfin
end GQ
