/-! Search: carry -/
/-- how many the others than p are: from's choices ahead of p, to's behind it -/
def gs_pr (n m : Nat → Nat) (p : Nat) : Nat → Nat
  | 0 => 1
  | q + 1 => if q = p then gs_pr n m p q else gs_pr n m p q * (if q < p then n q else m q)
section GQ
variable {I : Nat → Nat → Int} {F : Nat → Nat → Option Nat} {r s : Nat}
/-- what one player's turn does to the rows -/
def gq_turn (I I' : Nat → Nat → Int) (f g : Nat → List Nat) (c c' p o : Nat) (wm : Int) (r s : Nat) : Prop := (∀ a i, a ≠ s → I' a i = I a i) ∧ ∀ y, y < (g p).length → ∀ i, i < o → I' s (y * o + i) = gs_low (fun x => gq_w I f g c c' p x y) (fun x => I r (x + i * (f p).length) + (if wm = 1 then gq_w I f g c c' p x y else 0)) (f p).length
theorem carry_step {p c c' : Nat} {wm : Int} {f g : Nat → List Nat} {Q : Option gw_V → gw_M → Prop} {x5 x6 : Option gw_V} (d : Nat) (hF : gq_Kr F r s) (hM : gq_M I) (hp : p < 4) (hc : c < 8) (hc' : c' < 8) (hwm : wm = 0 ∨ wm = 1) (hf : gq_off I f c) (hg : gq_off I g c') (hf8 : ∀ p, p < 4 → ∀ i, i < (f p).length → (f p).getD i 0 < 8) (hg8 : ∀ p, p < 4 → ∀ i, i < (g p).length → (g p).getD i 0 < 8) (hf7 : ∀ p, p < 4 → (f p).length ≤ 7) (hg7 : ∀ p, p < 4 → (g p).length ≤ 7) (hon : gs_pr (fun q => (f q).length) (fun q => (g q).length) p 4 * (f p).length ≤ 784) (hom : gs_pr (fun q => (f q).length) (fun q => (g q).length) p 4 * (g p).length ≤ 784) (hrow : ∀ t, t < gs_pr (fun q => (f q).length) (fun q => (g q).length) p 4 * (f p).length → 0 ≤ I r t ∧ I r t ≤ gs_NEVER)
    (kk : ∀ (I' : Nat → Nat → Int) (x5 x6 : Option gw_V), gq_turn I I' f g c c' p (gs_pr (fun q => (f q).length) (fun q => (g q).length) p 4) wm r s → gw_G (gw_Cm jX3_carry (d + 4) Q) jX3_carry 3 [some (.inr (some 12)), some (.inl (c : Int)), some (.inl (c' : Int)), some (.inl wm), some (.inl ((p : Int) - 1)), x5, x6] [] (114, I', gw_U (gw_U F 12 9 (some r)) 12 8 (some s)) 0 0) :
    gw_G (gw_Cm jX3_carry (d + 4) Q) jX3_carry 3 [some (.inr (some 12)), some (.inl (c : Int)), some (.inl (c' : Int)), some (.inl wm), some (.inl (p : Int)), x5, x6] [] (114, I, F) 0 0 := by
  have hF' := hF
  obtain ⟨f0, f1, f3, f4, f8, f9, f21, fb, fp, hrs⟩ := hF
  refine gr_iload dX3_carry_3 rfl ?_
  refine gr_if_lt 97 dX3_carry_5 (by decide) (by unfold gw_in; omega) (fun h5 => ?_) (fun h5 => ?_)
  · omega
  · refine gr_iconst dX3_carry_8 ?_
    refine gr_istore dX3_carry_9 (by decide) ?_
    refine gr_iconst dX3_carry_11 ?_
    refine gr_istore dX3_carry_12 (by decide) ?_
    have inner : ∀ (n q : Nat), q + n = 4 → gw_G (gw_Cm jX3_carry (d + 4) Q) jX3_carry 14 [some (.inr (some 12)), some (.inl (c : Int)), some (.inl (c' : Int)), some (.inl wm), some (.inl (p : Int)), some (.inl (gs_pr (fun q => (f q).length) (fun q => (g q).length) p q : Nat)), some (.inl (q : Int))] [] (114, I, F) 0 0 := by
      intro n
      induction n with
      | zero =>
        intro q hq
        have hq : q = 4 := by omega
        subst hq
        refine gr_iload dX3_carry_14 rfl ?_
        refine gr_iconst dX3_carry_16 ?_
        refine gr_icmp_ge 60 dX3_carry_17 (by decide) (by unfold gw_in; omega) (by unfold gw_in; omega) (fun h17 => ?_) (fun h17 => ?_)
        · refine gr_aload_n dX3_carry_60 rfl ?_
          refine gr_iload dX3_carry_61 rfl ?_
          refine gr_iload_n dX3_carry_63 rfl ?_
          refine gr_iload_n dX3_carry_64 rfl ?_
          refine gr_iload dX3_carry_65 rfl ?_
          refine gr_iload_n dX3_carry_67 rfl ?_
          refine gr_virt dX3_carry_68 kX3_120 (as := [_, _, _, _, _]) rfl rfl (by first | assumption | rfl) (by omega) (Nat.le_of_ble_eq_true rfl) (gw_Rm_m (by omega) (by decide) (by decide)) (c_carryPlayer (p := p) (c := c) (c' := c') (f := f) (g := g) d hF' hM hp hc hc' hwm hf hg (hf8 p hp) (hg8 p hp) (hf7 p hp) (hg7 p hp) hon hom hrow) ?_
          rintro _ _ ⟨rfl, I1, rfl, hI1⟩
          refine gr_aload_n dX3_carry_71 rfl ?_
          refine gr_getR dX3_carry_72 fX3_50 (by first | assumption | rfl) (by omega) (by decide) rfl (by assumption) ?_
          refine gr_astore dX3_carry_75 (by decide) ?_
          refine gr_aload_n dX3_carry_77 rfl ?_
          refine gr_aload_n dX3_carry_78 rfl ?_
          refine gr_getR dX3_carry_79 fX3_47 (by first | assumption | rfl) (by omega) (by decide) rfl (by assumption) ?_
          refine gr_putR dX3_carry_82 fX3_50 (fun h => by cases h) (by first | assumption | rfl) (by omega) rfl rfl ?_
          refine gr_aload_n dX3_carry_85 rfl ?_
          refine gr_aload dX3_carry_86 rfl ?_
          refine gr_putR dX3_carry_88 fX3_47 (fun h => by cases h) (by first | assumption | rfl) (by omega) rfl rfl ?_
          refine gr_iinc (v := ((p : Int) - 1)) dX3_carry_91 (by decide) rfl (by omega) ?_
          refine gr_goto 3 dX3_carry_94 (by decide) ?_
          exact kk I1 _ _ hI1
        · omega
      | succ n ih =>
        intro q hq
        refine gr_iload dX3_carry_14 rfl ?_
        refine gr_iconst dX3_carry_16 ?_
        refine gr_icmp_ge 60 dX3_carry_17 (by decide) (by unfold gw_in; omega) (by unfold gw_in; omega) (fun h17 => ?_) (fun h17 => ?_)
        · omega
        · refine gr_iload dX3_carry_20 rfl ?_
          refine gr_iload dX3_carry_22 rfl ?_
          refine gr_icmp_eq 54 dX3_carry_24 (by decide) (by unfold gw_in; omega) (by unfold gw_in; omega) (fun h24 => ?_) (fun h24 => ?_)
          · refine gr_iinc (v := ((q + 1 : Nat) : Int)) dX3_carry_54 (by decide) rfl (by omega) ?_
            refine gr_goto 14 dX3_carry_57 (by decide) ?_
            have r0 := ih (q + 1) (by omega)
            rw [show gs_pr (fun q => (f q).length) (fun q => (g q).length) p (q + 1) = gs_pr (fun q => (f q).length) (fun q => (g q).length) p q by simp only [gs_pr]; rw [if_pos (by omega)]] at r0
            exact r0
          · refine gr_iload dX3_carry_27 rfl ?_
            refine gr_aload_n dX3_carry_29 rfl ?_
            refine gr_getR dX3_carry_30 fX3_34 (by first | assumption | rfl) (by omega) (by decide) rfl (by assumption) ?_
            refine gr_iload dX3_carry_33 rfl ?_
            refine gr_iload dX3_carry_35 rfl ?_
            refine gr_icmp_ge 44 dX3_carry_37 (by decide) (by unfold gw_in; omega) (by unfold gw_in; omega) (fun h37 => ?_) (fun h37 => ?_)
            · refine gr_iload_n dX3_carry_44 rfl ?_
              refine gr_iconst dX3_carry_45 ?_
              refine gr_imul dX3_carry_46 rfl ?_
              refine gr_iload dX3_carry_47 rfl ?_
              refine gr_iadd (v := ((4 * c' + q : Nat) : Int)) dX3_carry_49 (by omega) ?_
              have e1 := (hg q (by omega)).1
              refine gr_iald (i := 4 * c' + q) dX3_carry_50 rfl (by omega) (by omega) (by omega) (by decide) ?_
              rw [e1]
              refine gr_imul (v := ((gs_pr (fun q => (f q).length) (fun q => (g q).length) p (q + 1) : Nat) : Int)) dX3_carry_51 (by simp only [gs_pr]; rw [if_neg (by omega), if_neg (by omega), Int.natCast_mul]) ?_
              refine gr_istore dX3_carry_52 (by decide) ?_
              refine gr_iinc (v := ((q + 1 : Nat) : Int)) dX3_carry_54 (by decide) rfl (by omega) ?_
              refine gr_goto 14 dX3_carry_57 (by decide) ?_
              exact ih (q + 1) (by omega)
            · refine gr_iload_n dX3_carry_40 rfl ?_
              refine gr_goto 45 dX3_carry_41 (by decide) ?_
              refine gr_iconst dX3_carry_45 ?_
              refine gr_imul dX3_carry_46 rfl ?_
              refine gr_iload dX3_carry_47 rfl ?_
              refine gr_iadd (v := ((4 * c + q : Nat) : Int)) dX3_carry_49 (by omega) ?_
              have e1 := (hf q (by omega)).1
              refine gr_iald (i := 4 * c + q) dX3_carry_50 rfl (by omega) (by omega) (by omega) (by decide) ?_
              rw [e1]
              refine gr_imul (v := ((gs_pr (fun q => (f q).length) (fun q => (g q).length) p (q + 1) : Nat) : Int)) dX3_carry_51 (by simp only [gs_pr]; rw [if_neg (by omega), if_pos (by omega), Int.natCast_mul]) ?_
              refine gr_istore dX3_carry_52 (by decide) ?_
              refine gr_iinc (v := ((q + 1 : Nat) : Int)) dX3_carry_54 (by decide) rfl (by omega) ?_
              refine gr_goto 14 dX3_carry_57 (by decide) ?_
              exact ih (q + 1) (by omega)
    exact inner 4 0 (by omega)
/-- what carry leaves in the row: by the choices of each player -/
def gq_carried (I I' : Nat → Nat → Int) (f g : Nat → List Nat) (c c' : Nat) (wm : Int) : Prop := (∀ a i, a ≠ 66 → a ≠ 67 → I' a i = I a i) ∧ (∀ y0 y1 y2 y3, y0 < (g 0).length → y1 < (g 1).length → y2 < (g 2).length → y3 < (g 3).length → (0 ≤ I' 66 (((y0 * (g 1).length + y1) * (g 2).length + y2) * (g 3).length + y3) ∧ I' 66 (((y0 * (g 1).length + y1) * (g 2).length + y2) * (g 3).length + y3) ≤ gs_NEVER) ∧ ∀ b : Int, I' 66 (((y0 * (g 1).length + y1) * (g 2).length + y2) * (g 3).length + y3) ≤ b ↔ (gs_NEVER ≤ b ∨ ∃ x0 x1 x2 x3, x0 < (f 0).length ∧ x1 < (f 1).length ∧ x2 < (f 2).length ∧ x3 < (f 3).length ∧ gq_w I f g c c' 0 x0 y0 < gs_NEVER ∧ gq_w I f g c c' 1 x1 y1 < gs_NEVER ∧ gq_w I f g c c' 2 x2 y2 < gs_NEVER ∧ gq_w I f g c c' 3 x3 y3 < gs_NEVER ∧ I 66 (((x0 * (f 1).length + x1) * (f 2).length + x2) * (f 3).length + x3) + (if wm = 1 then gq_w I f g c c' 0 x0 y0 + gq_w I f g c c' 1 x1 y1 + gq_w I f g c c' 2 x2 y2 + gq_w I f g c c' 3 x3 y3 else 0) ≤ b))
/-- four turns give it -/
theorem gq_four {I I3 I2 I1 I0 : Nat → Nat → Int} {f g : Nat → List Nat} {c c' : Nat} {wm : Int} (hM : gq_M I) (hc : c < 8) (hc' : c' < 8) (hrow : ∀ t, t < (((f 0).length * (f 1).length) * (f 2).length) * (f 3).length → 0 ≤ I 66 t ∧ I 66 t ≤ gs_NEVER)
    (t3 : gq_turn I I3 f g c c' 3 (((f 0).length * (f 1).length) * (f 2).length) wm 66 67) (t2 : gq_turn I3 I2 f g c c' 2 (((f 0).length * (f 1).length) * (g 3).length) wm 67 66) (t1 : gq_turn I2 I1 f g c c' 1 (((f 0).length * (g 2).length) * (g 3).length) wm 66 67) (t0 : gq_turn I1 I0 f g c c' 0 (((g 1).length * (g 2).length) * (g 3).length) wm 67 66) : gq_carried I I0 f g c c' wm := by
  obtain ⟨hB, hN, -, -, hrest, -, -⟩ := id hM
  have e3 : ∀ a, a < 21 → I3 a = I a := fun a ha => funext fun i => t3.1 a i (by omega)
  have e2 : ∀ a, a < 21 → I2 a = I a := fun a ha => funext fun i => by rw [t2.1 a i (by omega), t3.1 a i (by omega)]
  have e1 : ∀ a, a < 21 → I1 a = I a := fun a ha => funext fun i => by rw [t1.1 a i (by omega), t2.1 a i (by omega), t3.1 a i (by omega)]
  have w3 : ∀ p x y, gq_w I3 f g c c' p x y = gq_w I f g c c' p x y := fun p x y => gq_way_congr e3
  have w2 : ∀ p x y, gq_w I2 f g c c' p x y = gq_w I f g c c' p x y := fun p x y => gq_way_congr e2
  have w1 : ∀ p x y, gq_w I1 f g c c' p x y = gq_w I f g c c' p x y := fun p x y => gq_way_congr e1
  have wn : ∀ p x y, 0 ≤ gq_w I f g c c' p x y := fun p x y => (gs_way_in (B := gq_B I) (N := I 20) (rest := I 19 2) (p := p) (c := c) (h := (f p).getD x 0) (c' := c') (h' := (g p).getD y 0) hN hc hc' hrest).1
  have wst : ∀ p x y, 0 ≤ (if wm = 1 then gq_w I f g c c' p x y else 0) := fun p x y => by
    have := wn p x y
    split <;> omega
  generalize hn0 : (f 0).length = n0 at *
  generalize hn1 : (f 1).length = n1 at *
  generalize hn2 : (f 2).length = n2 at *
  generalize hn3 : (f 3).length = n3 at *
  generalize hm0 : (g 0).length = m0 at *
  generalize hm1 : (g 1).length = m1 at *
  generalize hm2 : (g 2).length = m2 at *
  generalize hm3 : (g 3).length = m3 at *
  unfold gq_turn at t3 t2 t1 t0
  simp only [hn0, hn1, hn2, hn3, hm0, hm1, hm2, hm3, w3, w2, w1] at t3 t2 t1 t0
  -- the rows, one after the other
  have A3 : ∀ x0 x1 x2 y3, x0 < n0 → x1 < n1 → x2 < n2 → y3 < m3 → I3 67 (y3 * ((n0 * n1) * n2) + ((x0 * n1 + x1) * n2 + x2)) = gs_low (fun x => gq_w I f g c c' 3 x y3) (fun x => I 66 (((x0 * n1 + x1) * n2 + x2) * n3 + x) + (if wm = 1 then gq_w I f g c c' 3 x y3 else 0)) n3 := by
    intro x0 x1 x2 y3 h0 h1 h2 h3
    rw [t3.2 y3 h3 _ (gs_mix (gs_mix h0 h1) h2)]
    simp only [Nat.add_comm]
  have A2 : ∀ x0 x1 y2 y3, x0 < n0 → x1 < n1 → y2 < m2 → y3 < m3 → I2 66 (y2 * ((n0 * n1) * m3) + (y3 * (n0 * n1) + (x0 * n1 + x1))) = gs_low (fun x => gq_w I f g c c' 2 x y2) (fun x => I3 67 (y3 * ((n0 * n1) * n2) + ((x0 * n1 + x1) * n2 + x)) + (if wm = 1 then gq_w I f g c c' 2 x y2 else 0)) n2 := by
    intro x0 x1 y2 y3 h0 h1 h2 h3
    rw [t2.2 y2 h2 (y3 * (n0 * n1) + (x0 * n1 + x1)) (by have := gs_mix h3 (gs_mix h0 h1); rw [Nat.mul_comm (n0 * n1) m3]; exact this)]
    have ei : ∀ x, x + (y3 * (n0 * n1) + (x0 * n1 + x1)) * n2 = y3 * ((n0 * n1) * n2) + ((x0 * n1 + x1) * n2 + x) := fun x => by grind
    simp only [ei]
  have A1 : ∀ x0 y1 y2 y3, x0 < n0 → y1 < m1 → y2 < m2 → y3 < m3 → I1 67 (y1 * ((n0 * m2) * m3) + ((y2 * m3 + y3) * n0 + x0)) = gs_low (fun x => gq_w I f g c c' 1 x y1) (fun x => I2 66 (y2 * ((n0 * n1) * m3) + (y3 * (n0 * n1) + (x0 * n1 + x))) + (if wm = 1 then gq_w I f g c c' 1 x y1 else 0)) n1 := by
    intro x0 y1 y2 y3 h0 h1 h2 h3
    rw [t1.2 y1 h1 ((y2 * m3 + y3) * n0 + x0) (by have := gs_mix (gs_mix h2 h3) h0; rw [show n0 * m2 * m3 = m2 * m3 * n0 by grind]; exact this)]
    have ei : ∀ x, x + ((y2 * m3 + y3) * n0 + x0) * n1 = y2 * ((n0 * n1) * m3) + (y3 * (n0 * n1) + (x0 * n1 + x)) := fun x => by grind
    simp only [ei]
  have A0 : ∀ y0 y1 y2 y3, y0 < m0 → y1 < m1 → y2 < m2 → y3 < m3 → I0 66 (((y0 * m1 + y1) * m2 + y2) * m3 + y3) = gs_low (fun x => gq_w I f g c c' 0 x y0) (fun x => I1 67 (y1 * ((n0 * m2) * m3) + ((y2 * m3 + y3) * n0 + x)) + (if wm = 1 then gq_w I f g c c' 0 x y0 else 0)) n0 := by
    intro y0 y1 y2 y3 h0 h1 h2 h3
    have ej : ((y0 * m1 + y1) * m2 + y2) * m3 + y3 = y0 * ((m1 * m2) * m3) + ((y1 * m2 + y2) * m3 + y3) := by grind
    rw [ej, t0.2 y0 h0 _ (gs_mix (gs_mix h1 h2) h3)]
    have ei : ∀ x, x + ((y1 * m2 + y2) * m3 + y3) * n0 = y1 * ((n0 * m2) * m3) + ((y2 * m3 + y3) * n0 + x) := fun x => by grind
    simp only [ei]
  have B3 : ∀ x0 x1 x2 y3, x0 < n0 → x1 < n1 → x2 < n2 → y3 < m3 → 0 ≤ I3 67 (y3 * ((n0 * n1) * n2) + ((x0 * n1 + x1) * n2 + x2)) := by
    intro x0 x1 x2 y3 h0 h1 h2 h3
    rw [A3 x0 x1 x2 y3 h0 h1 h2 h3]
    refine (gs_low_in n3 (fun x hx hw => ?_)).1
    have a1 := (hrow (((x0 * n1 + x1) * n2 + x2) * n3 + x) (gs_mix (gs_mix (gs_mix h0 h1) h2) hx)).1
    have a2 := wst 3 x y3
    omega
  have B2 : ∀ x0 x1 y2 y3, x0 < n0 → x1 < n1 → y2 < m2 → y3 < m3 → 0 ≤ I2 66 (y2 * ((n0 * n1) * m3) + (y3 * (n0 * n1) + (x0 * n1 + x1))) := by
    intro x0 x1 y2 y3 h0 h1 h2 h3
    rw [A2 x0 x1 y2 y3 h0 h1 h2 h3]
    refine (gs_low_in n2 (fun x hx hw => ?_)).1
    have a1 := B3 x0 x1 x y3 h0 h1 hx h3
    have a2 := wst 2 x y2
    omega
  have B1 : ∀ x0 y1 y2 y3, x0 < n0 → y1 < m1 → y2 < m2 → y3 < m3 → 0 ≤ I1 67 (y1 * ((n0 * m2) * m3) + ((y2 * m3 + y3) * n0 + x0)) := by
    intro x0 y1 y2 y3 h0 h1 h2 h3
    rw [A1 x0 y1 y2 y3 h0 h1 h2 h3]
    refine (gs_low_in n1 (fun x hx hw => ?_)).1
    have a1 := B2 x0 x y2 y3 h0 hx h2 h3
    have a2 := wst 1 x y1
    omega
  have C3 : ∀ x0 x1 x2 y3, x0 < n0 → x1 < n1 → x2 < n2 → y3 < m3 → ∀ b : Int, I3 67 (y3 * ((n0 * n1) * n2) + ((x0 * n1 + x1) * n2 + x2)) ≤ b ↔ (gs_NEVER ≤ b ∨ ∃ x3, x3 < n3 ∧ gq_w I f g c c' 3 x3 y3 < gs_NEVER ∧ I 66 (((x0 * n1 + x1) * n2 + x2) * n3 + x3) + (if wm = 1 then gq_w I f g c c' 3 x3 y3 else 0) ≤ b) := by
    intro x0 x1 x2 y3 h0 h1 h2 h3 b
    rw [A3 x0 x1 x2 y3 h0 h1 h2 h3, gs_low_le]
  have C2 : ∀ x0 x1 y2 y3, x0 < n0 → x1 < n1 → y2 < m2 → y3 < m3 → ∀ b : Int, I2 66 (y2 * ((n0 * n1) * m3) + (y3 * (n0 * n1) + (x0 * n1 + x1))) ≤ b ↔ (gs_NEVER ≤ b ∨ ∃ x2 x3, x2 < n2 ∧ x3 < n3 ∧ gq_w I f g c c' 2 x2 y2 < gs_NEVER ∧ gq_w I f g c c' 3 x3 y3 < gs_NEVER ∧ I 66 (((x0 * n1 + x1) * n2 + x2) * n3 + x3) + (if wm = 1 then gq_w I f g c c' 2 x2 y2 + gq_w I f g c c' 3 x3 y3 else 0) ≤ b) := by
    intro x0 x1 y2 y3 h0 h1 h2 h3 b
    rw [A2 x0 x1 y2 y3 h0 h1 h2 h3, gs_low_le]
    constructor
    · rintro (h | ⟨x, hx, hw, hb⟩)
      · exact Or.inl h
      · have a2 := wst 2 x y2
        rcases (C3 x0 x1 x y3 h0 h1 hx h3 (b - (if wm = 1 then gq_w I f g c c' 2 x y2 else 0))).mp (by omega) with h | ⟨x3, hx3, hw3, hb3⟩
        · exact Or.inl (by omega)
        · exact Or.inr ⟨x, x3, hx, hx3, hw, hw3, by split at hb3 <;> simp_all <;> omega⟩
    · rintro (h | ⟨x, x3, hx, hx3, hw, hw3, hb⟩)
      · exact Or.inl h
      · refine Or.inr ⟨x, hx, hw, ?_⟩
        have := (C3 x0 x1 x y3 h0 h1 hx h3 (b - (if wm = 1 then gq_w I f g c c' 2 x y2 else 0))).mpr (Or.inr ⟨x3, hx3, hw3, by split at hb <;> simp_all <;> omega⟩)
        omega
  have C1 : ∀ x0 y1 y2 y3, x0 < n0 → y1 < m1 → y2 < m2 → y3 < m3 → ∀ b : Int, I1 67 (y1 * ((n0 * m2) * m3) + ((y2 * m3 + y3) * n0 + x0)) ≤ b ↔ (gs_NEVER ≤ b ∨ ∃ x1 x2 x3, x1 < n1 ∧ x2 < n2 ∧ x3 < n3 ∧ gq_w I f g c c' 1 x1 y1 < gs_NEVER ∧ gq_w I f g c c' 2 x2 y2 < gs_NEVER ∧ gq_w I f g c c' 3 x3 y3 < gs_NEVER ∧ I 66 (((x0 * n1 + x1) * n2 + x2) * n3 + x3) + (if wm = 1 then gq_w I f g c c' 1 x1 y1 + gq_w I f g c c' 2 x2 y2 + gq_w I f g c c' 3 x3 y3 else 0) ≤ b) := by
    intro x0 y1 y2 y3 h0 h1 h2 h3 b
    rw [A1 x0 y1 y2 y3 h0 h1 h2 h3, gs_low_le]
    constructor
    · rintro (h | ⟨x, hx, hw, hb⟩)
      · exact Or.inl h
      · have a2 := wst 1 x y1
        rcases (C2 x0 x y2 y3 h0 hx h2 h3 (b - (if wm = 1 then gq_w I f g c c' 1 x y1 else 0))).mp (by omega) with h | ⟨x2, x3, hx2, hx3, hw2, hw3, hb3⟩
        · exact Or.inl (by omega)
        · exact Or.inr ⟨x, x2, x3, hx, hx2, hx3, hw, hw2, hw3, by split at hb3 <;> simp_all <;> omega⟩
    · rintro (h | ⟨x, x2, x3, hx, hx2, hx3, hw, hw2, hw3, hb⟩)
      · exact Or.inl h
      · refine Or.inr ⟨x, hx, hw, ?_⟩
        have := (C2 x0 x y2 y3 h0 hx h2 h3 (b - (if wm = 1 then gq_w I f g c c' 1 x y1 else 0))).mpr (Or.inr ⟨x2, x3, hx2, hx3, hw2, hw3, by split at hb <;> simp_all <;> omega⟩)
        omega
  unfold gq_carried
  simp only [hn0, hn1, hn2, hn3, hm0, hm1, hm2, hm3]
  refine ⟨fun a i ha hb => by rw [t0.1 a i ha, t1.1 a i hb, t2.1 a i ha, t3.1 a i hb], fun y0 y1 y2 y3 h0 h1 h2 h3 => ?_⟩
  rw [A0 y0 y1 y2 y3 h0 h1 h2 h3]
  refine ⟨gs_low_in n0 (fun x hx hw => ?_), fun b => ?_⟩
  · have a1 := B1 x y1 y2 y3 hx h1 h2 h3
    have a2 := wst 0 x y0
    omega
  · rw [gs_low_le]
    constructor
    · rintro (h | ⟨x, hx, hw, hb⟩)
      · exact Or.inl h
      · have a2 := wst 0 x y0
        rcases (C1 x y1 y2 y3 hx h1 h2 h3 (b - (if wm = 1 then gq_w I f g c c' 0 x y0 else 0))).mp (by omega) with h | ⟨x1, x2, x3, hx1, hx2, hx3, hw1, hw2, hw3, hb3⟩
        · exact Or.inl (by omega)
        · exact Or.inr ⟨x, x1, x2, x3, hx, hx1, hx2, hx3, hw, hw1, hw2, hw3, by split at hb3 <;> simp_all <;> omega⟩
    · rintro (h | ⟨x, x1, x2, x3, hx, hx1, hx2, hx3, hw, hw1, hw2, hw3, hb⟩)
      · exact Or.inl h
      · refine Or.inr ⟨x, hx, hw, ?_⟩
        have := (C1 x y1 y2 y3 hx h1 h2 h3 (b - (if wm = 1 then gq_w I f g c c' 0 x y0 else 0))).mpr (Or.inr ⟨x1, x2, x3, hx1, hx2, hx3, hw1, hw2, hw3, by split at hb <;> simp_all <;> omega⟩)
        omega
end GQ
