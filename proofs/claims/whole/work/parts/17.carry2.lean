/-! Search: carryPlayer, carry -/
theorem gs_mix {a A b B : Nat} (ha : a < A) (hb : b < B) : a * B + b < A * B := by
  have h : (a + 1) * B ≤ A * B := Nat.mul_le_mul_right B ha
  rw [Nat.add_mul, Nat.one_mul] at h
  omega
theorem gs_mix_ne {a a' b b' B : Nat} (hb : b < B) (hb' : b' < B) (h : a * B + b = a' * B + b') : a = a' ∧ b = b' := by
  have hB : 0 < B := by omega
  have h1 : (a * B + b) / B = a := by rw [Nat.mul_comm, Nat.mul_add_div hB, Nat.div_eq_of_lt hb, Nat.add_zero]
  have h2 : (a' * B + b') / B = a' := by rw [Nat.mul_comm, Nat.mul_add_div hB, Nat.div_eq_of_lt hb', Nat.add_zero]
  have h3 : (a * B + b) % B = b := by rw [Nat.mul_comm, Nat.mul_add_mod, Nat.mod_eq_of_lt hb]
  have h4 : (a' * B + b') % B = b' := by rw [Nat.mul_comm, Nat.mul_add_mod, Nat.mod_eq_of_lt hb']
  rw [h] at h1 h3
  exact ⟨h1.symm.trans h2, h3.symm.trans h4⟩
section GQ
variable {I : Nat → Nat → Int} {F : Nat → Nat → Option Nat} {r s : Nat}
/-- the step of player p between its x-th choice in c and its y-th in c' -/
abbrev gq_w (I : Nat → Nat → Int) (f g : Nat → List Nat) (c c' p x y : Nat) : Int := gs_way (gq_B I) (I 20) (I 19 2) p c ((f p).getD x 0) c' ((g p).getD y 0)
theorem gq_way_congr {I I' : Nat → Nat → Int} {p c h c' h' : Nat} (e : ∀ a, a < 21 → I' a = I a) : gs_way (gq_B I') (I' 20) (I' 19 2) p c h c' h' = gs_way (gq_B I) (I 20) (I 19 2) p c h c' h' := by
  unfold gs_way gq_B
  simp only [e (13 + 1) (by omega), e 20 (by omega), e 19 (by omega)]
theorem c_carryPlayer {p c c' o : Nat} {wm : Int} {f g : Nat → List Nat} (d : Nat) (hF : gq_Kr F r s) (hM : gq_M I) (hp : p < 4) (hc : c < 8) (hc' : c' < 8) (hwm : wm = 0 ∨ wm = 1) (hf : gq_off I f c) (hg : gq_off I g c') (hf8 : ∀ i, i < (f p).length → (f p).getD i 0 < 8) (hg8 : ∀ i, i < (g p).length → (g p).getD i 0 < 8) (hf7 : (f p).length ≤ 7) (hg7 : (g p).length ≤ 7) (hon : o * (f p).length ≤ 784) (hom : o * (g p).length ≤ 784) (hrow : ∀ t, t < o * (f p).length → 0 ≤ I r t ∧ I r t ≤ gs_NEVER) : gw_Met jX3_carryPlayer (d + 3) [.inr (some 12), .inl (p : Int), .inl (c : Int), .inl (c' : Int), .inl (o : Int), .inl wm] (114, I, F) (gw_vo F (fun I' => (∀ a i, a ≠ s → I' a i = I a i) ∧ ∀ y, y < (g p).length → ∀ i, i < o → I' s (y * o + i) = gs_low (fun x => gq_w I f g c c' p x y) (fun x => I r (x + i * (f p).length) + (if wm = 1 then gq_w I f g c c' p x y else 0)) (f p).length)) := by
  have hF' := hF
  obtain ⟨f0, f1, f3, f4, f8, f9, f21, fb, fp, hrs⟩ := hF
  have hr : gw_sh r = (10, 784) := by rcases hrs with ⟨h, -⟩ | ⟨h, -⟩ <;> rw [h] <;> rfl
  have hsh : gw_sh s = (10, 784) := by rcases hrs with ⟨-, h⟩ | ⟨-, h⟩ <;> rw [h] <;> rfl
  have hrs1 : r ≠ s := by omega
  have hs66 : 66 ≤ s ∧ s ≤ 67 := by omega
  obtain ⟨hB, hN, -, -, hrest, -, -⟩ := id hM
  obtain ⟨hfp1, hfp2⟩ := hf p hp
  obtain ⟨hgp1, hgp2⟩ := hg p hp
  have hA := gq_sh22 (4 * c + p) (by omega)
  have hAF := f21 (4 * c + p) (by omega)
  have hA' := gq_sh22 (4 * c' + p) (by omega)
  have hAF' := f21 (4 * c' + p) (by omega)
  generalize hQ : (gw_vo F (fun I' => (∀ a i, a ≠ s → I' a i = I a i) ∧ ∀ y, y < (g p).length → ∀ i, i < o → I' s (y * o + i) = gs_low (fun x => gq_w I f g c c' p x y) (fun x => I r (x + i * (f p).length) + (if wm = 1 then gq_w I f g c c' p x y else 0)) (f p).length)) = Q
  refine gw_enter okX3_carryPlayer rfl (Nat.le_of_ble_eq_true rfl) ?_
  refine gr_aload_n dX3_carryPlayer_0 rfl ?_
  refine gr_getR dX3_carryPlayer_1 fX3_31 (by first | assumption | rfl) (by omega) (by decide) rfl (by assumption) ?_
  refine gr_iload_n dX3_carryPlayer_4 rfl ?_
  refine gr_iconst dX3_carryPlayer_5 ?_
  refine gr_imul dX3_carryPlayer_6 rfl ?_
  refine gr_iload_n dX3_carryPlayer_7 rfl ?_
  refine gr_iadd (v := ((4 * c + p : Nat) : Int)) dX3_carryPlayer_8 (by omega) ?_
  refine gr_rald (i := 4 * c + p) dX3_carryPlayer_9 (by first | assumption | rfl) (by omega) (by omega) (by omega) (by decide) (by assumption) ?_
  refine gr_astore dX3_carryPlayer_10 (by decide) ?_
  refine gr_aload_n dX3_carryPlayer_12 rfl ?_
  refine gr_getR dX3_carryPlayer_13 fX3_31 (by first | assumption | rfl) (by omega) (by decide) rfl (by assumption) ?_
  refine gr_iload_n dX3_carryPlayer_16 rfl ?_
  refine gr_iconst dX3_carryPlayer_17 ?_
  refine gr_imul dX3_carryPlayer_18 rfl ?_
  refine gr_iload_n dX3_carryPlayer_19 rfl ?_
  refine gr_iadd (v := ((4 * c' + p : Nat) : Int)) dX3_carryPlayer_20 (by omega) ?_
  refine gr_rald (i := 4 * c' + p) dX3_carryPlayer_21 (by first | assumption | rfl) (by omega) (by omega) (by omega) (by decide) (by assumption) ?_
  refine gr_astore dX3_carryPlayer_22 (by decide) ?_
  refine gr_aload_n dX3_carryPlayer_24 rfl ?_
  refine gr_getR dX3_carryPlayer_25 fX3_34 (by first | assumption | rfl) (by omega) (by decide) rfl (by assumption) ?_
  refine gr_iload_n dX3_carryPlayer_28 rfl ?_
  refine gr_iconst dX3_carryPlayer_29 ?_
  refine gr_imul dX3_carryPlayer_30 rfl ?_
  refine gr_iload_n dX3_carryPlayer_31 rfl ?_
  refine gr_iadd (v := ((4 * c + p : Nat) : Int)) dX3_carryPlayer_32 (by omega) ?_
  refine gr_iald (i := 4 * c + p) dX3_carryPlayer_33 (by first | assumption | rfl) (by omega) (by omega) (by omega) (by decide) ?_
  rw [hfp1]
  refine gr_istore dX3_carryPlayer_34 (by decide) ?_
  refine gr_aload_n dX3_carryPlayer_36 rfl ?_
  refine gr_getR dX3_carryPlayer_37 fX3_34 (by first | assumption | rfl) (by omega) (by decide) rfl (by assumption) ?_
  refine gr_iload_n dX3_carryPlayer_40 rfl ?_
  refine gr_iconst dX3_carryPlayer_41 ?_
  refine gr_imul dX3_carryPlayer_42 rfl ?_
  refine gr_iload_n dX3_carryPlayer_43 rfl ?_
  refine gr_iadd (v := ((4 * c' + p : Nat) : Int)) dX3_carryPlayer_44 (by omega) ?_
  refine gr_iald (i := 4 * c' + p) dX3_carryPlayer_45 (by first | assumption | rfl) (by omega) (by omega) (by omega) (by decide) ?_
  rw [hgp1]
  refine gr_istore dX3_carryPlayer_46 (by decide) ?_
  refine gr_aload_n dX3_carryPlayer_48 rfl ?_
  refine gr_getR dX3_carryPlayer_49 fX3_50 (by first | assumption | rfl) (by omega) (by decide) rfl (by assumption) ?_
  refine gr_iload dX3_carryPlayer_52 rfl ?_
  refine gr_iload dX3_carryPlayer_54 rfl ?_
  refine gr_imul (v := ((o * (g p).length : Nat) : Int)) dX3_carryPlayer_56 (by rw [Int.natCast_mul]) ?_
  refine gr_ldc dX3_carryPlayer_57 nX3_99 ?_
  refine gr_stat dX3_carryPlayer_59 kX3_124 (as := [_, _, _]) rfl rfl (Nat.le_of_ble_eq_true rfl) (gw_Rm_m (by omega) (by decide) (by decide)) (c_fill (q := s) (m := o * (g p).length) (v := gs_NEVER) (d + 2) hsh (by omega) hom) ?_
  rintro _ _ ⟨rfl, I1, rfl, hI1⟩
  refine gr_iconst dX3_carryPlayer_62 ?_
  refine gr_istore dX3_carryPlayer_63 (by decide) ?_
  -- the outer loop, over y
  have outer : ∀ (n y : Nat) (I2 : Nat → Nat → Int) (x11 x12 : Option gw_V), y + n = (g p).length → (∀ a i, a ≠ s → I2 a i = I a i) → (∀ y', y' < (g p).length → ∀ i, i < o → I2 s (y' * o + i) = if y' < y then gs_low (fun x => gq_w I f g c c' p x y') (fun x => I r (x + i * (f p).length) + (if wm = 1 then gq_w I f g c c' p x y' else 0)) (f p).length else gs_NEVER) → gw_G (gw_Cm jX3_carryPlayer (d + 3) Q) jX3_carryPlayer 65 [some (.inr (some 12)), some (.inl (p : Int)), some (.inl (c : Int)), some (.inl (c' : Int)), some (.inl (o : Int)), some (.inl wm), some (.inr (some (22 + (4 * c + p)))), some (.inr (some (22 + (4 * c' + p)))), some (.inl ((f p).length : Int)), some (.inl ((g p).length : Int)), some (.inl (y : Int)), x11, x12] [] (114, I2, F) 0 0 := by
    intro n
    induction n with
    | zero =>
      intro y I2 x11 x12 hy h1 h2
      refine gr_iload dX3_carryPlayer_65 rfl ?_
      refine gr_iload dX3_carryPlayer_67 rfl ?_
      refine gr_icmp_ge 151 dX3_carryPlayer_69 (by decide) (by unfold gw_in; omega) (by unfold gw_in; omega) (fun h69 => ?_) (fun h69 => ?_)
      · refine gr_vret dX3_carryPlayer_151 rfl (by decide) (by decide) ((by rw [← hQ]; exact ⟨rfl, _, rfl, h1, fun y' hy' i hi => by rw [h2 y' hy' i hi, if_pos (by omega)]⟩))
      · omega
    | succ n ih =>
      intro y I2 x11 x12 hy h1 h2
      refine gr_iload dX3_carryPlayer_65 rfl ?_
      refine gr_iload dX3_carryPlayer_67 rfl ?_
      refine gr_icmp_ge 151 dX3_carryPlayer_69 (by decide) (by unfold gw_in; omega) (by unfold gw_in; omega) (fun h69 => ?_) (fun h69 => ?_)
      · omega
      · refine gr_iconst dX3_carryPlayer_72 ?_
        refine gr_istore dX3_carryPlayer_73 (by decide) ?_
        have inner : ∀ (m x : Nat) (I3 : Nat → Nat → Int) (z12 : Option gw_V), x + m = (f p).length → (∀ a i, a ≠ s → I3 a i = I a i) → (∀ y', y' < (g p).length → ∀ i, i < o → I3 s (y' * o + i) = if y' < y then gs_low (fun x => gq_w I f g c c' p x y') (fun x => I r (x + i * (f p).length) + (if wm = 1 then gq_w I f g c c' p x y' else 0)) (f p).length else if y' = y then gs_low (fun x => gq_w I f g c c' p x y) (fun x => I r (x + i * (f p).length) + (if wm = 1 then gq_w I f g c c' p x y else 0)) x else gs_NEVER) → gw_G (gw_Cm jX3_carryPlayer (d + 3) Q) jX3_carryPlayer 75 [some (.inr (some 12)), some (.inl (p : Int)), some (.inl (c : Int)), some (.inl (c' : Int)), some (.inl (o : Int)), some (.inl wm), some (.inr (some (22 + (4 * c + p)))), some (.inr (some (22 + (4 * c' + p)))), some (.inl ((f p).length : Int)), some (.inl ((g p).length : Int)), some (.inl (y : Int)), some (.inl (x : Int)), z12] [] (114, I3, F) 0 0 := by
          intro m
          induction m with
          | zero =>
            intro x I3 z12 hx g1 g2
            have hx : x = (f p).length := by omega
            subst hx
            refine gr_iload dX3_carryPlayer_75 rfl ?_
            refine gr_iload dX3_carryPlayer_77 rfl ?_
            refine gr_icmp_ge 145 dX3_carryPlayer_79 (by decide) (by unfold gw_in; omega) (by unfold gw_in; omega) (fun h79 => ?_) (fun h79 => ?_)
            · refine gr_iinc (v := ((y + 1 : Nat) : Int)) dX3_carryPlayer_145 (by decide) rfl (by omega) ?_
              refine gr_goto 65 dX3_carryPlayer_148 (by decide) ?_
              refine ih (y + 1) I3 _ _ (by omega) g1 (fun y' hy' i hi => ?_)
              rw [g2 y' hy' i hi]
              by_cases e : y' = y
              · subst e
                rw [if_neg (by omega), if_pos rfl, if_pos (by omega)]
              · by_cases e2 : y' < y
                · rw [if_pos e2, if_pos (by omega)]
                · rw [if_neg e2, if_neg e, if_neg (by omega)]
            · omega
          | succ m ihm =>
            intro x I3 z12 hx g1 g2
            have eq21 : ∀ a, a < 21 → I3 a = I a := fun a ha => funext fun i => g1 a i (by omega)
            have hM3 := gq_M_congr eq21 hM
            have e1 : I3 (22 + (4 * c + p)) x = ((f p).getD x 0 : Nat) := by
              rw [g1 _ _ (by omega)]; exact hfp2 x (by omega)
            have e2 : I3 (22 + (4 * c' + p)) y = ((g p).getD y 0 : Nat) := by
              rw [g1 _ _ (by omega)]; exact hgp2 y (by omega)
            obtain ⟨w0, w1⟩ : 0 ≤ gq_w I f g c c' p x y ∧ (gq_w I f g c c' p x y ≤ 63 ∨ gq_w I f g c c' p x y = gs_NEVER) := gs_way_in (B := gq_B I) (N := I 20) (rest := I 19 2) (p := p) (c := c) (h := (f p).getD x 0) (c' := c') (h' := (g p).getD y 0) hN hc hc' hrest
            refine gr_iload dX3_carryPlayer_75 rfl ?_
            refine gr_iload dX3_carryPlayer_77 rfl ?_
            refine gr_icmp_ge 145 dX3_carryPlayer_79 (by decide) (by unfold gw_in; omega) (by unfold gw_in; omega) (fun h79 => ?_) (fun h79 => ?_)
            · omega
            · refine gr_aload_n dX3_carryPlayer_82 rfl ?_
              refine gr_iload_n dX3_carryPlayer_83 rfl ?_
              refine gr_iload_n dX3_carryPlayer_84 rfl ?_
              refine gr_aload dX3_carryPlayer_85 rfl ?_
              refine gr_iload dX3_carryPlayer_87 rfl ?_
              refine gr_iald (i := x) dX3_carryPlayer_89 (by first | assumption | rfl) (by omega) (by omega) (by omega) (by decide) ?_
              refine gr_iload_n dX3_carryPlayer_90 rfl ?_
              refine gr_aload dX3_carryPlayer_91 rfl ?_
              refine gr_iload dX3_carryPlayer_93 rfl ?_
              refine gr_iald (i := y) dX3_carryPlayer_95 (by first | assumption | rfl) (by omega) (by omega) (by omega) (by decide) ?_
              rw [e1, e2]
              refine gr_virt dX3_carryPlayer_96 kX3_128 (as := [_, _, _, _, _]) rfl rfl (by first | assumption | rfl) (by omega) (Nat.le_of_ble_eq_true rfl) (gw_Rm_m (by omega) (by decide) (by decide)) (c_way (p := p) (c := c) (h := (f p).getD x 0) (c' := c') (h' := (g p).getD y 0) d hF' hM3 hp hc hc' (hf8 x (by omega)) (hg8 y (by omega))) ?_
              rintro _ _ ⟨rfl, rfl⟩
              rw [gq_way_congr eq21]
              have hNv : gs_NEVER = 67108864 := rfl
              rw [show gs_way (gq_B I) (I 20) (I 19 2) p c ((f p).getD x 0) c' ((g p).getD y 0) = gq_w I f g c c' p x y from rfl]
              refine gr_istore dX3_carryPlayer_99 (by decide) ?_
              refine gr_iload dX3_carryPlayer_101 rfl ?_
              refine gr_ldc dX3_carryPlayer_103 nX3_99 ?_
              refine gr_icmp_ge 139 dX3_carryPlayer_105 (by decide) (by unfold gw_in; omega) (by unfold gw_in; omega) (fun h105 => ?_) (fun h105 => ?_)
              · refine gr_iinc (v := ((x + 1 : Nat) : Int)) dX3_carryPlayer_139 (by decide) rfl (by omega) ?_
                refine gr_goto 75 dX3_carryPlayer_142 (by decide) ?_
                refine ihm (x + 1) I3 _ (by omega) g1 (fun y' hy' i hi => ?_)
                rw [g2 y' hy' i hi]
                by_cases e : y' = y
                · subst e
                  rw [if_neg (by omega), if_pos rfl, if_neg (by omega), if_pos rfl]
                  conv => rhs; unfold gs_low
                  rw [if_neg (fun h => by have h := h.1; omega)]
                · by_cases e2 : y' < y
                  · rw [if_pos e2, if_pos e2]
                  · rw [if_neg e2, if_neg e, if_neg e2, if_neg e]
              · have hyo : (y + 1) * o = y * o + o := by rw [Nat.add_mul, Nat.one_mul]
                have hyo2 : (y + 1) * o ≤ (g p).length * o := Nat.mul_le_mul_right o (by omega)
                have hcm : (g p).length * o = o * (g p).length := Nat.mul_comm _ _
                -- the call of lower, with its step
                have low : ∀ step : Int, step = (if wm = 1 then gq_w I f g c c' p x y else 0) → gw_G (gw_Cm jX3_carryPlayer (d + 3) Q) jX3_carryPlayer 136 [some (.inr (some 12)), some (.inl (p : Int)), some (.inl (c : Int)), some (.inl (c' : Int)), some (.inl (o : Int)), some (.inl wm), some (.inr (some (22 + (4 * c + p)))), some (.inr (some (22 + (4 * c' + p)))), some (.inl ((f p).length : Int)), some (.inl ((g p).length : Int)), some (.inl (y : Int)), some (.inl (x : Int)), some (.inl (gq_w I f g c c' p x y))] [.inl step, .inl ((f p).length : Int), .inl (x : Int), .inl ((y * o + o : Nat) : Int), .inl ((y * o : Nat) : Int), .inr (some 12)] (114, I3, F) 0 0 := by
                  intro step hstep
                  have hst : 0 ≤ step ∧ step ≤ gs_NEVER := by
                    rw [hstep]
                    split
                    · exact ⟨w0, by omega⟩
                    · exact ⟨by omega, by omega⟩
                  have hrr : ∀ i, i < o → x + i * (f p).length < o * (f p).length := fun i hi => by
                    have := gs_mix hi (show x < (f p).length by omega)
                    omega
                  have l1 : ∀ i, i < o → x + i * (f p).length < 784 ∧ 0 ≤ I3 r (x + i * (f p).length) ∧ I3 r (x + i * (f p).length) ≤ gs_NEVER := fun i hi => by
                    have h9 := hrow _ (hrr i hi)
                    rw [g1 r _ hrs1]
                    exact ⟨by have := hrr i hi; omega, h9.1, h9.2⟩
                  have l2 : ∀ t, y * o ≤ t → t < y * o + o → 0 ≤ I3 s t ∧ I3 s t ≤ gs_NEVER := fun t ht1 ht2 => by
                    obtain ⟨i, hi⟩ : ∃ i, t = y * o + i := ⟨t - y * o, by omega⟩
                    subst hi
                    rw [g2 y (by omega) i (by omega), if_neg (by omega), if_pos rfl]
                    refine gs_low_in x (fun z hz hw => ?_)
                    have h9 := hrow (z + i * (f p).length) (by have := gs_mix (show i < o by omega) (show z < (f p).length by omega); omega)
                    have h8 : 0 ≤ gq_w I f g c c' p z y ∧ (gq_w I f g c c' p z y ≤ 63 ∨ gq_w I f g c c' p z y = gs_NEVER) := gs_way_in (B := gq_B I) (N := I 20) (rest := I 19 2) (p := p) (c := c) (h := (f p).getD z 0) (c' := c') (h' := (g p).getD y 0) hN hc hc' hrest
                    split <;> omega
                  refine gr_virt dX3_carryPlayer_136 kX3_132 (as := [_, _, _, _, _]) rfl rfl (by first | assumption | rfl) (by omega) (Nat.le_of_ble_eq_true rfl) (gw_Rm_m (by omega) (by decide) (by decide)) (c_lower (first := y * o) (len := o) (x := x) (many := (f p).length) (step := step) (d + 2) hF' hst (by omega) l1 l2) ?_
                  rintro _ _ ⟨rfl, I4, rfl, hI4⟩
                  refine gr_iinc (v := ((x + 1 : Nat) : Int)) dX3_carryPlayer_139 (by decide) rfl (by omega) ?_
                  refine gr_goto 75 dX3_carryPlayer_142 (by decide) ?_
                  refine ihm (x + 1) I4 _ (by omega) (fun a i ha => by rw [hI4, if_neg (fun h => ha h.1)]; exact g1 a i ha) (fun y' hy' i hi => ?_)
                  rw [hI4]
                  by_cases e : y' = y
                  · subst e
                    rw [if_neg (show ¬ y' < y' by omega), if_pos rfl]
                    have ei : y' * o + i - y' * o = i := by omega
                    rw [ei, g1 r _ hrs1, g2 y' hy' i hi, if_neg (show ¬ y' < y' by omega), if_pos rfl]
                    conv => rhs; unfold gs_low
                    rw [hstep]
                    have hwx : gq_w I f g c c' p x y' < gs_NEVER := by rw [hNv]; exact h105
                    by_cases hlt : I r (x + i * (f p).length) + (if wm = 1 then gq_w I f g c c' p x y' else 0) < gs_low (fun x => gq_w I f g c c' p x y') (fun x => I r (x + i * (f p).length) + (if wm = 1 then gq_w I f g c c' p x y' else 0)) x
                    · refine (if_pos ⟨rfl, by omega, by omega, hlt⟩).trans ?_
                      exact (if_pos ⟨hwx, hlt⟩).symm
                    · refine (if_neg (fun h => hlt h.2.2.2)).trans ?_
                      exact (if_neg (fun h => hlt h.2)).symm
                  · have ho : ¬ (y * o ≤ y' * o + i ∧ y' * o + i < y * o + o) := by
                      rintro ⟨ha, hb⟩
                      obtain ⟨j, hj⟩ : ∃ j, y' * o + i = y * o + j := ⟨y' * o + i - y * o, by omega⟩
                      exact e (gs_mix_ne hi (show j < o by omega) hj).1
                    rw [if_neg (fun h => ho ⟨h.2.1, h.2.2.1⟩), g2 y' hy' i hi]
                    by_cases e2 : y' < y
                    · rw [if_pos e2, if_pos e2]
                    · rw [if_neg e2, if_neg e, if_neg e2, if_neg e]
                refine gr_aload_n dX3_carryPlayer_108 rfl ?_
                refine gr_iload dX3_carryPlayer_109 rfl ?_
                refine gr_iload dX3_carryPlayer_111 rfl ?_
                refine gr_imul (v := ((y * o : Nat) : Int)) dX3_carryPlayer_113 (by rw [Int.natCast_mul]) ?_
                refine gr_iload dX3_carryPlayer_114 rfl ?_
                refine gr_iconst dX3_carryPlayer_116 ?_
                refine gr_iadd dX3_carryPlayer_117 rfl ?_
                refine gr_iload dX3_carryPlayer_118 rfl ?_
                refine gr_imul (v := ((y * o + o : Nat) : Int)) dX3_carryPlayer_120 (by rw [Int.natCast_add, Int.natCast_mul, Int.add_mul, Int.one_mul]) ?_
                refine gr_iload dX3_carryPlayer_121 rfl ?_
                refine gr_iload dX3_carryPlayer_123 rfl ?_
                refine gr_iload dX3_carryPlayer_125 rfl ?_
                refine gr_if_eq 135 dX3_carryPlayer_127 (by decide) (by unfold gw_in; omega) (fun h127 => ?_) (fun h127 => ?_)
                · refine gr_iconst dX3_carryPlayer_135 ?_
                  exact low 0 (by rw [if_neg (by omega)])
                · refine gr_iload dX3_carryPlayer_130 rfl ?_
                  refine gr_goto 136 dX3_carryPlayer_132 (by decide) ?_
                  exact low _ (by rw [if_pos (by omega)])
        exact inner (f p).length 0 I2 _ (by omega) h1 (fun y' hy' i hi => by
          rw [h2 y' hy' i hi]
          by_cases e : y' = y
          · subst e
            rw [if_neg (by omega), if_neg (by omega), if_pos rfl]
            rfl
          · by_cases e2 : y' < y
            · rw [if_pos e2, if_pos e2]
            · rw [if_neg e2, if_neg e2, if_neg e])
  refine outer (g p).length 0 I1 _ _ (by omega) (fun a i ha => by rw [hI1, if_neg (fun h => ha h.1)]) (fun y' hy' i hi => ?_)
  rw [hI1, if_neg (show ¬ y' < 0 by omega), if_pos]
  refine ⟨rfl, ?_⟩
  have := gs_mix hy' hi
  rw [Nat.mul_comm o]
  exact this
end GQ
