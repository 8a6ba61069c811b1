/-! Search: chooseFirst -/
theorem gs_find {L : List Nat} {q : Nat → Bool} {t : Nat} (ht : t < L.length) (h1 : q (L.getD t 0) = true) (h2 : ∀ s, s < t → q (L.getD s 0) = false) : (L.find? q).getD 0 = L.getD t 0 := by
  have gd : ∀ s (hs : s < L.length), L.getD s 0 = L[s] := fun s hs => by rw [List.getD_eq_getElem?_getD, List.getElem?_eq_getElem hs]; rfl
  have : L.find? q = some (L.getD t 0) := by
    rw [List.find?_eq_some_iff_getElem]
    refine ⟨h1, t, ht, (gd t ht).symm, fun s hs => ?_⟩
    rw [← gd s (by omega), h2 s hs]
    rfl
  rw [this]
  rfl
/-- the answer of chooseFirst -/
def gq_sol (I I' : Nat → Nat → Int) (P set S : Nat) : Prop := match gs_cost P (gq_B I) (I 20) (I 19 2) set (I 19 3) S with
  | none => I' 12 2 = gs_NEVER
  | some L => I' 12 2 = (L : Int) ∧ ∀ c, c < S → ∀ p, p < 4 → I' 69 (4 * c + p) = (gs_hd (gs_K P (gq_B I) (I 20) (I 19 2) set (I 19 3) S L c).1 p : Nat)
section GQ
variable {I : Nat → Nat → Int} {F : Nat → Nat → Option Nat}
/-- the first chord: by the least value the cost -/
theorem gs_cost_some {I1 : Nat → Nat → Int} {P set S t : Nat} (hM : gq_M I) (hS : 0 < S) (hS8 : S ≤ 8) (hcst : gq_cst I I1 P set S 0) (ht : t < (gs_SP P (gq_B I) (I 20) set 0).length) (hle : ∀ s, s < (gs_SP P (gq_B I) (I 20) set 0).length → I1 56 t ≤ I1 56 s) (hfi : ∀ s, s < t → I1 56 t < I1 56 s) (hlt : I1 56 t < gs_NEVER) : ∃ L : Nat, I1 56 t = (L : Int) ∧ gs_cost P (gq_B I) (I 20) (I 19 2) set (I 19 3) S = some L ∧ (gs_K P (gq_B I) (I 20) (I 19 2) set (I 19 3) S L 0).1 = (gs_SP P (gq_B I) (I 20) set 0).getD t 0 := by
  obtain ⟨hB, hN, -, -, hrest, -, -⟩ := id hM
  have hv := hcst.2 t ht
  rw [Nat.add_zero] at hv
  obtain ⟨L, hL⟩ : ∃ L : Nat, I1 56 t = (L : Int) := ⟨(I1 56 t).toNat, by omega⟩
  have hp := (hv.2 (L : Int)).mp (by omega)
  have hp : gs_EV (gq_B I) (I 20) (I 19 3) 0 ((gs_SP P (gq_B I) (I 20) set 0).getD t 0) = true ∧ gs_pay P (gq_B I) (I 20) (I 19 2) set (I 19 3) (S - 1 - 0) 0 ((gs_SP P (gq_B I) (I 20) set 0).getD t 0) (L : Int) = true := by
    rcases hp with h | h
    · omega
    · exact h
  have hbd : L < 2000 := by
    have h1 := gs_pay_bd P (gq_B I) (I 20) (I 19 2) set (I 19 3) hN hrest (show 0 + (S - 1 - 0) < 8 by omega) hp.2
    have h2 := (hv.2 (252 * ((S - 1 - 0 : Nat) : Int))).mpr (Or.inr ⟨hp.1, h1⟩)
    omega
  have none_before : ∀ b : Nat, b < L → ∀ s, s < (gs_SP P (gq_B I) (I 20) set 0).length → ¬ (gs_EV (gq_B I) (I 20) (I 19 3) 0 ((gs_SP P (gq_B I) (I 20) set 0).getD s 0) = true ∧ gs_pay P (gq_B I) (I 20) (I 19 2) set (I 19 3) (S - 1) 0 ((gs_SP P (gq_B I) (I 20) set 0).getD s 0) (b : Int) = true) := by
    intro b hb s hs hh
    have h3 := hcst.2 s hs
    rw [Nat.add_zero] at h3
    have h4 := (h3.2 (b : Int)).mpr (Or.inr hh)
    have h5 := hle s hs
    omega
  refine ⟨L, hL, ?_, ?_⟩
  · unfold gs_cost
    rw [if_neg (by omega), List.find?_range_eq_some]
    refine ⟨?_, List.mem_range.mpr hbd, fun b hb => ?_⟩
    · exact List.any_eq_true.mpr ⟨_, gs_mem_getD ht, by rw [Bool.and_eq_true]; exact hp⟩
    · rw [Bool.not_eq_true']
      rw [List.any_eq_false]
      intro k hk
      obtain ⟨s, hs, rfl⟩ := gs_getD_of_mem hk
      rw [Bool.and_eq_true]
      exact none_before b hb s hs
  · simp only [gs_K]
    refine gs_find ht (by rw [Bool.and_eq_true]; exact hp) (fun s hs => ?_)
    have h3 := hcst.2 s (by omega)
    rw [Nat.add_zero] at h3
    have h5 := hfi s hs
    cases hz : (gs_EV (gq_B I) (I 20) (I 19 3) 0 ((gs_SP P (gq_B I) (I 20) set 0).getD s 0) && gs_pay P (gq_B I) (I 20) (I 19 2) set (I 19 3) (S - 1) 0 ((gs_SP P (gq_B I) (I 20) set 0).getD s 0) (L : Int)) with
    | false => rfl
    | true =>
      rw [Bool.and_eq_true] at hz
      have h4 := (h3.2 (L : Int)).mpr (Or.inr hz)
      omega
theorem gs_cost_none {I1 : Nat → Nat → Int} {P set S t : Nat} (hS : 0 < S) (hcst : gq_cst I I1 P set S 0) (hle : ∀ s, s < (gs_SP P (gq_B I) (I 20) set 0).length → I1 56 t ≤ I1 56 s) (hlt : gs_NEVER ≤ I1 56 t) : gs_cost P (gq_B I) (I 20) (I 19 2) set (I 19 3) S = none := by
  have hNv : gs_NEVER = 67108864 := rfl
  unfold gs_cost
  rw [if_neg (by omega), List.find?_eq_none]
  intro b hb
  have hb := List.mem_range.mp hb
  rw [Bool.not_eq_true, List.any_eq_false]
  intro k hk
  obtain ⟨s, hs, rfl⟩ := gs_getD_of_mem hk
  rw [Bool.and_eq_true]
  intro hh
  have h3 := hcst.2 s hs
  rw [Nat.add_zero] at h3
  have h4 := (h3.2 (b : Int)).mpr (Or.inr hh)
  have h5 := hle s hs
  omega
/-- what is left behind chord c is the least -/
def gs_lft (I : Nat → Nat → Int) (P set S L c : Nat) : Prop := gs_pay P (gq_B I) (I 20) (I 19 2) set (I 19 3) (S - 1 - c) c (gs_K P (gq_B I) (I 20) (I 19 2) set (I 19 3) S L c).1 (gs_K P (gq_B I) (I 20) (I 19 2) set (I 19 3) S L c).2 = true ∧ ∀ b : Int, gs_pay P (gq_B I) (I 20) (I 19 2) set (I 19 3) (S - 1 - c) c (gs_K P (gq_B I) (I 20) (I 19 2) set (I 19 3) S L c).1 b = true → (gs_K P (gq_B I) (I 20) (I 19 2) set (I 19 3) S L c).2 ≤ b
theorem gs_lft_0 {I1 : Nat → Nat → Int} {P set S L t : Nat} (hcst : gq_cst I I1 P set S 0) (ht : t < (gs_SP P (gq_B I) (I 20) set 0).length) (hL : I1 56 t = (L : Int)) (hlt : (L : Int) < gs_NEVER) (hK : (gs_K P (gq_B I) (I 20) (I 19 2) set (I 19 3) S L 0).1 = (gs_SP P (gq_B I) (I 20) set 0).getD t 0) : gs_lft I P set S L 0 := by
  have hv := hcst.2 t ht
  rw [Nat.add_zero] at hv
  have hp := (hv.2 (L : Int)).mp (by omega)
  have hp : gs_EV (gq_B I) (I 20) (I 19 3) 0 ((gs_SP P (gq_B I) (I 20) set 0).getD t 0) = true ∧ gs_pay P (gq_B I) (I 20) (I 19 2) set (I 19 3) (S - 1 - 0) 0 ((gs_SP P (gq_B I) (I 20) set 0).getD t 0) (L : Int) = true := by
    rcases hp with h | h
    · omega
    · exact h
  unfold gs_lft
  rw [hK]
  refine ⟨hp.2, fun b hb => ?_⟩
  have := (hv.2 b).mpr (Or.inr ⟨hp.1, hb⟩)
  show (L : Int) ≤ b
  omega
/-- the next chord -/
theorem gs_step {I1 : Nat → Nat → Int} {P set S L c t : Nat} (hM : gq_M I) (hc : c + 1 < S) (hS8 : S ≤ 8) (hcst : gq_cst I I1 P set S (c + 1)) (hlf : gs_lft I P set S L c) (hL : (gs_K P (gq_B I) (I 20) (I 19 2) set (I 19 3) S L c).2 < gs_NEVER) (ht : t < (gs_SP P (gq_B I) (I 20) set (c + 1)).length)
    (hle : ∀ s, s < (gs_SP P (gq_B I) (I 20) set (c + 1)).length → gs_tot (gq_B I) (I 20) (I 19 2) c (gs_K P (gq_B I) (I 20) (I 19 2) set (I 19 3) S L c).1 (c + 1) ((gs_SP P (gq_B I) (I 20) set (c + 1)).getD t 0) + I1 (56 + (c + 1)) t ≤ gs_tot (gq_B I) (I 20) (I 19 2) c (gs_K P (gq_B I) (I 20) (I 19 2) set (I 19 3) S L c).1 (c + 1) ((gs_SP P (gq_B I) (I 20) set (c + 1)).getD s 0) + I1 (56 + (c + 1)) s)
    (hfi : ∀ s, s < t → gs_tot (gq_B I) (I 20) (I 19 2) c (gs_K P (gq_B I) (I 20) (I 19 2) set (I 19 3) S L c).1 (c + 1) ((gs_SP P (gq_B I) (I 20) set (c + 1)).getD t 0) + I1 (56 + (c + 1)) t < gs_tot (gq_B I) (I 20) (I 19 2) c (gs_K P (gq_B I) (I 20) (I 19 2) set (I 19 3) S L c).1 (c + 1) ((gs_SP P (gq_B I) (I 20) set (c + 1)).getD s 0) + I1 (56 + (c + 1)) s) :
    (gs_K P (gq_B I) (I 20) (I 19 2) set (I 19 3) S L (c + 1)).1 = (gs_SP P (gq_B I) (I 20) set (c + 1)).getD t 0 ∧ gs_lft I P set S L (c + 1) ∧ (gs_K P (gq_B I) (I 20) (I 19 2) set (I 19 3) S L (c + 1)).2 < gs_NEVER := by
  obtain ⟨hB, hN, -, -, hrest, -, -⟩ := id hM
  obtain ⟨l1, l2⟩ := hlf
  rw [show S - 1 - c = (S - 1 - (c + 1)) + 1 by omega] at l1 l2
  generalize hk0 : (gs_K P (gq_B I) (I 20) (I 19 2) set (I 19 3) S L c).1 = k0 at *
  generalize hr0 : (gs_K P (gq_B I) (I 20) (I 19 2) set (I 19 3) S L c).2 = r0 at *
  have tin := fun k' => gs_tot_in (B := gq_B I) (N := I 20) (rest := I 19 2) (c := c) (k := k0) (c' := c + 1) (k' := k') hN (by omega) (by omega) hrest
  -- no value is less than what is left
  have lb : ∀ s, s < (gs_SP P (gq_B I) (I 20) set (c + 1)).length → gs_tot (gq_B I) (I 20) (I 19 2) c k0 (c + 1) ((gs_SP P (gq_B I) (I 20) set (c + 1)).getD s 0) + I1 (56 + (c + 1)) s < gs_NEVER → r0 ≤ gs_tot (gq_B I) (I 20) (I 19 2) c k0 (c + 1) ((gs_SP P (gq_B I) (I 20) set (c + 1)).getD s 0) + I1 (56 + (c + 1)) s ∧ gs_can (gq_B I) (I 20) (I 19 2) c k0 (c + 1) ((gs_SP P (gq_B I) (I 20) set (c + 1)).getD s 0) = true ∧ gs_EV (gq_B I) (I 20) (I 19 3) (c + 1) ((gs_SP P (gq_B I) (I 20) set (c + 1)).getD s 0) = true ∧ gs_pay P (gq_B I) (I 20) (I 19 2) set (I 19 3) (S - 1 - (c + 1)) (c + 1) ((gs_SP P (gq_B I) (I 20) set (c + 1)).getD s 0) (I1 (56 + (c + 1)) s) = true := by
    intro s hs hlt
    obtain ⟨h1, h2⟩ := hcst.2 s hs
    have t1 := tin ((gs_SP P (gq_B I) (I 20) set (c + 1)).getD s 0)
    have hcan : gs_can (gq_B I) (I 20) (I 19 2) c k0 (c + 1) ((gs_SP P (gq_B I) (I 20) set (c + 1)).getD s 0) = true := by
      cases hz : gs_can (gq_B I) (I 20) (I 19 2) c k0 (c + 1) ((gs_SP P (gq_B I) (I 20) set (c + 1)).getD s 0) with
      | true => rfl
      | false => have := t1.2.2.2 hz; omega
    rcases (h2 (I1 (56 + (c + 1)) s)).mp (Int.le_refl _) with h | ⟨h3, h4⟩
    · omega
    · refine ⟨l2 _ ((gs_pay_s P (gq_B I) (I 20) (I 19 2) set (I 19 3)).mpr ⟨_, gs_mem_getD hs, h3, hcan, ?_⟩), hcan, h3, h4⟩
      rw [show gs_tot (gq_B I) (I 20) (I 19 2) c k0 (c + 1) ((gs_SP P (gq_B I) (I 20) set (c + 1)).getD s 0) + I1 (56 + (c + 1)) s - gs_tot (gq_B I) (I 20) (I 19 2) c k0 (c + 1) ((gs_SP P (gq_B I) (I 20) set (c + 1)).getD s 0) = I1 (56 + (c + 1)) s by omega]
      exact h4
  -- what is left is reached
  have ub : gs_tot (gq_B I) (I 20) (I 19 2) c k0 (c + 1) ((gs_SP P (gq_B I) (I 20) set (c + 1)).getD t 0) + I1 (56 + (c + 1)) t ≤ r0 := by
    obtain ⟨k', m1, m2, m3, m4⟩ := (gs_pay_s P (gq_B I) (I 20) (I 19 2) set (I 19 3)).mp l1
    obtain ⟨s, hs, rfl⟩ := gs_getD_of_mem m1
    have h1 := ((hcst.2 s hs).2 _).mpr (Or.inr ⟨m2, m4⟩)
    have h2 := hle s hs
    omega
  obtain ⟨e1, e2, e3, e4⟩ := lb t ht (by omega)
  have ev : I1 (56 + (c + 1)) t = r0 - gs_tot (gq_B I) (I 20) (I 19 2) c k0 (c + 1) ((gs_SP P (gq_B I) (I 20) set (c + 1)).getD t 0) := by omega
  have hK1 : (gs_K P (gq_B I) (I 20) (I 19 2) set (I 19 3) S L (c + 1)).1 = (gs_SP P (gq_B I) (I 20) set (c + 1)).getD t 0 := by
    simp only [gs_K]
    rw [hk0, hr0]
    refine gs_find ht ?_ (fun s hs => ?_)
    · rw [Bool.and_eq_true, Bool.and_eq_true]
      exact ⟨e3, e2, by rw [← ev]; exact e4⟩
    · have h5 := hfi s hs
      cases hz : (gs_EV (gq_B I) (I 20) (I 19 3) (c + 1) ((gs_SP P (gq_B I) (I 20) set (c + 1)).getD s 0) && (gs_can (gq_B I) (I 20) (I 19 2) c k0 (c + 1) ((gs_SP P (gq_B I) (I 20) set (c + 1)).getD s 0) && gs_pay P (gq_B I) (I 20) (I 19 2) set (I 19 3) (S - 1 - (c + 1)) (c + 1) ((gs_SP P (gq_B I) (I 20) set (c + 1)).getD s 0) (r0 - gs_tot (gq_B I) (I 20) (I 19 2) c k0 (c + 1) ((gs_SP P (gq_B I) (I 20) set (c + 1)).getD s 0)))) with
      | false => rfl
      | true =>
        rw [Bool.and_eq_true, Bool.and_eq_true] at hz
        have h4 := ((hcst.2 s (by omega)).2 _).mpr (Or.inr ⟨hz.1, hz.2.2⟩)
        omega
  have hK2 : (gs_K P (gq_B I) (I 20) (I 19 2) set (I 19 3) S L (c + 1)).2 = I1 (56 + (c + 1)) t := by
    have : (gs_K P (gq_B I) (I 20) (I 19 2) set (I 19 3) S L (c + 1)).2 = (gs_K P (gq_B I) (I 20) (I 19 2) set (I 19 3) S L c).2 - gs_tot (gq_B I) (I 20) (I 19 2) c (gs_K P (gq_B I) (I 20) (I 19 2) set (I 19 3) S L c).1 (c + 1) (gs_K P (gq_B I) (I 20) (I 19 2) set (I 19 3) S L (c + 1)).1 := rfl
    rw [this, hK1, hk0, hr0, ev]
  refine ⟨hK1, ⟨?_, fun b hb => ?_⟩, ?_⟩
  · rw [hK1, hK2]; exact e4
  · rw [hK1] at hb
    rw [hK2]
    exact ((hcst.2 t ht).2 b).mpr (Or.inr ⟨e3, hb⟩)
  · rw [hK2]
    have := (tin ((gs_SP P (gq_B I) (I 20) set (c + 1)).getD t 0)).1
    omega
theorem gq_vl_0 {I2 : Nat → Nat → Int} {L : List Nat} {k s : Nat} (hs : L.getD s 0 < 4096) : gs_vl I2 L 0 k s = I2 56 s := by
  unfold gs_vl
  rw [gs_tp_4 hs]
  simp only [gs_wf, if_true]
  simp
theorem gq_vl_s {I2 : Nat → Nat → Int} {L : List Nat} {c k s : Nat} (e : ∀ a, a < 21 → a ≠ 12 → I2 a = I a) (hs : L.getD s 0 < 4096) : gs_vl I2 L (c + 1) k s = gs_tot (gq_B I) (I 20) (I 19 2) c k (c + 1) (L.getD s 0) + I2 (56 + (c + 1)) s := by
  unfold gs_vl
  rw [gs_tp_4 hs]
  have hw : ∀ p h, gs_wf I2 (c + 1) k p h = gs_way (gq_B I) (I 20) (I 19 2) p c (gs_hd k p) (c + 1) h := by
    intro p h
    unfold gs_wf
    rw [if_neg (by omega), show c + 1 - 1 = c by omega]
    unfold gs_way gq_B
    simp only [e (13 + 1) (by omega) (by omega), e 20 (by omega) (by omega), e 19 (by omega) (by omega)]
  simp only [hw]
  rfl
theorem c_chooseFirst {I1 : Nat → Nat → Int} {set P S : Nat} (d : Nat) (hF : gq_K F) (hM : gq_M I) (hset : set < 16) (hP : I 13 0 = (P : Int)) (hS : I 19 0 = (S : Int)) (hin : I 19 1 = (set : Int)) (hI1 : ∀ a, a < 21 ∨ 68 ≤ a → I1 a = I a) (hI1c : ∀ c, c < S → gq_cst I I1 P set S c) : gw_Met jX3_chooseFirst (d + 6) [.inr (some 12)] (114, I1, F) (gw_vo F (fun I' => (∀ a i, (a < 21 ∨ a = 68 ∨ 70 ≤ a) → ¬ (a = 12 ∧ i = 2) → I' a i = I a i) ∧ gq_sol I I' P set S)) := by
  have hF' := hF
  obtain ⟨f0, f1, f3, f4, f5, f6, f7, f8, f9, f10, f11, f21, f55, fb, fp⟩ := hF
  obtain ⟨hB, hN, ⟨hP0, hP4⟩, ⟨hS0, hS8⟩, hrest, hbal, hbw⟩ := id hM
  obtain ⟨fp1, fp2, fp3, fp4⟩ := id fp
  have hbw' : gb_bw (gq_B I 1) P ≤ 2 := by
    rw [hP] at hbw
    exact hbw
  have hNv : gs_NEVER = 67108864 := rfl
  have hlen : ∀ c, (gs_SP P (gq_B I) (I 20) set c).length ≤ 784 := fun c => gs_SP_len (by omega) hbw'
  generalize hQ : gw_vo F (fun I' => (∀ a i, (a < 21 ∨ a = 68 ∨ 70 ≤ a) → ¬ (a = 12 ∧ i = 2) → I' a i = I a i) ∧ gq_sol I I' P set S) = Q
  refine gw_enter okX3_chooseFirst rfl (Nat.le_of_ble_eq_true rfl) ?_
  refine gr_aload_n dX3_chooseFirst_0 rfl ?_
  refine gr_iconst dX3_chooseFirst_1 ?_
  refine gr_putI dX3_chooseFirst_2 fX3_25 (by first | assumption | rfl) (by omega) (Or.inl rfl) rfl ?_
  refine gr_iconst dX3_chooseFirst_5 ?_
  refine gr_istore_n dX3_chooseFirst_6 (by decide) ?_
  have key : ∀ (n c L : Nat) (I2 : Nat → Nat → Int) (x2 : Option gw_V), c + n = S → (∀ a i, ¬ (a = 12 ∧ i = 2) → a ≠ 65 → a ≠ 67 → a ≠ 69 → I2 a i = I1 a i) → (I2 12 2 = (L : Int) ∧ (L : Int) < gs_NEVER) → (c = 0 → L = 0) → (∀ c0, c0 < c → gs_cost P (gq_B I) (I 20) (I 19 2) set (I 19 3) S = some L ∧ ∀ p, p < 4 → I2 69 (4 * c0 + p) = (gs_hd (gs_K P (gq_B I) (I 20) (I 19 2) set (I 19 3) S L c0).1 p : Nat)) → (∀ c0, c = c0 + 1 → gs_lft I P set S L c0 ∧ (gs_K P (gq_B I) (I 20) (I 19 2) set (I 19 3) S L c0).2 < gs_NEVER) → gw_G (gw_Cm jX3_chooseFirst (d + 6) Q) jX3_chooseFirst 7 [some (.inr (some 12)), some (.inl (c : Int)), x2] [] (114, I2, F) 0 0 := by
    intro n
    induction n with
    | zero =>
      intro c L I2 x2 hc h1 h2 h0 h3 h4
      have e0 : I2 19 0 = (S : Int) := by rw [h1 19 0 (by omega) (by omega) (by omega) (by omega), hI1 19 (by omega)]; exact hS
      refine gr_iload_n dX3_chooseFirst_7 rfl ?_
      refine gr_aload_n dX3_chooseFirst_8 rfl ?_
      refine gr_getR dX3_chooseFirst_9 fX3_21 (by first | assumption | rfl) (by omega) (by decide) rfl (by assumption) ?_
      refine gr_getI dX3_chooseFirst_12 fX3_136 (by first | assumption | rfl) (by omega) (by decide) rfl ?_
      rw [e0]
      refine gr_icmp_ge 62 dX3_chooseFirst_15 (by decide) (by unfold gw_in; omega) (by unfold gw_in; omega) (fun h19 => ?_) (fun h19 => ?_)
      · refine gr_vret dX3_chooseFirst_62 rfl (by decide) (by decide) ?_
        rw [← hQ]
        refine ⟨rfl, _, rfl, fun a i ha hb => by rw [h1 a i hb (by omega) (by omega) (by omega), hI1 a (by omega)], ?_⟩
        unfold gq_sol
        by_cases hS0' : S = 0
        · rw [show gs_cost P (gq_B I) (I 20) (I 19 2) set (I 19 3) S = some 0 by unfold gs_cost; rw [if_pos hS0']]
          dsimp only
          refine ⟨by rw [h2.1, h0 (by omega)], fun c hc => absurd hc (by omega)⟩
        · have hk := h3 (c - 1) (by omega)
          rw [hk.1]
          dsimp only
          exact ⟨h2.1, fun c0 hc0 p hp => (h3 c0 (by omega)).2 p hp⟩
      · omega
    | succ n ih =>
      intro c L I2 x2 hc h1 h2 h0 h3 h4
      have e0 : I2 19 0 = (S : Int) := by rw [h1 19 0 (by omega) (by omega) (by omega) (by omega), hI1 19 (by omega)]; exact hS
      have u2 : ∀ a, a < 21 → a ≠ 12 → I2 a = I a := fun a ha hb => funext fun i => by rw [h1 a i (by omega) (by omega) (by omega) (by omega), hI1 a (by omega)]
      have hM2 : gq_M I2 := by
        unfold gq_M gb_B at hM ⊢
        simp only [u2 (13 + 1) (by omega) (by omega), u2 (13 + 2) (by omega) (by omega), u2 (13 + 3) (by omega) (by omega), u2 (13 + 4) (by omega) (by omega), u2 (13 + 5) (by omega) (by omega), u2 20 (by omega) (by omega), u2 19 (by omega) (by omega), u2 14 (by omega) (by omega), u2 13 (by omega) (by omega)]
        exact hM
      have hcs : gq_cst I I2 P set S c := gq_cst_congr (by omega) (fun a i _ _ _ _ => h1 a i (by omega) (by omega) (by omega) (by omega)) (fun t => h1 _ t (by omega) (by omega) (by omega) (by omega)) (hI1c c (by omega))
      generalize hf : gs_ch P (gq_B I) (I 20) set c = f
      have hf1 : ∀ p, p < 4 → 0 < (f p).length := fun p _ => by rw [← hf]; exact gs_ch_pos
      have hf7 : ∀ p, p < 4 → (f p).length ≤ 7 := fun p _ => by rw [← hf]; exact gs_ch_len7
      have hf8 : ∀ p, p < 4 → ∀ i, i < (f p).length → (f p).getD i 0 < 8 := fun p _ i hi => by rw [← hf] at hi ⊢; exact gs_ch_8 hi
      have hSPf : gs_SP P (gq_B I) (I 20) set c = gs_sp f 4 := by rw [← hf]
      have hfl : (gs_sp f 4).length ≤ 784 := by rw [← hSPf]; exact hlen c
      have hoff : gq_off I2 f c := by rw [← hf]; exact hcs.1
      have hcv : ∀ t, t < (gs_sp f 4).length → 0 ≤ I2 (56 + c) t ∧ I2 (56 + c) t ≤ gs_NEVER := fun t ht => (hcs.2 t (by rw [hSPf]; exact ht)).1
      refine gr_iload_n dX3_chooseFirst_7 rfl ?_
      refine gr_aload_n dX3_chooseFirst_8 rfl ?_
      refine gr_getR dX3_chooseFirst_9 fX3_21 (by first | assumption | rfl) (by omega) (by decide) rfl (by assumption) ?_
      refine gr_getI dX3_chooseFirst_12 fX3_136 (by first | assumption | rfl) (by omega) (by decide) rfl ?_
      rw [e0]
      refine gr_icmp_ge 62 dX3_chooseFirst_15 (by decide) (by unfold gw_in; omega) (by unfold gw_in; omega) (fun h19 => ?_) (fun h19 => ?_)
      · omega
      · refine gr_aload_n dX3_chooseFirst_18 rfl ?_
        refine gr_iload_n dX3_chooseFirst_19 rfl ?_
        refine gr_virt dX3_chooseFirst_20 kX3_141 (as := [_]) rfl rfl (by first | assumption | rfl) (by omega) (Nat.le_of_ble_eq_true rfl) (gw_Rm_m (by omega) (by decide) (by decide)) (c_firstBest (c := c) (kp := (gs_K P (gq_B I) (I 20) (I 19 2) set (I 19 3) S L (c - 1)).1) (f := f) (d + 2) hF' hM2 (by omega) hoff hf1 hf7 hf8 hfl (fun h p hp => (h3 (c - 1) (by omega)).2 p hp) hcv) ?_
        rintro _ _ ⟨_, I3, rfl, rfl, t, rfl, ht, hle, hfi, hI3⟩
        refine gr_istore_n dX3_chooseFirst_23 (by decide) ?_
        refine gr_iload_n dX3_chooseFirst_24 rfl ?_
        -- choose and go on
        have go : ∀ (L2 : Nat) (I4 : Nat → Nat → Int), (∀ a i, ¬ (a = 12 ∧ i = 2) → I4 a i = I3 a i) → I4 12 2 = (L2 : Int) → (L2 : Int) < gs_NEVER → gs_cost P (gq_B I) (I 20) (I 19 2) set (I 19 3) S = some L2 → (0 < c → L2 = L) → (gs_K P (gq_B I) (I 20) (I 19 2) set (I 19 3) S L2 c).1 = (gs_sp f 4).getD t 0 → gs_lft I P set S L2 c → (gs_K P (gq_B I) (I 20) (I 19 2) set (I 19 3) S L2 c).2 < gs_NEVER → gw_G (gw_Cm jX3_chooseFirst (d + 6) Q) jX3_chooseFirst 50 [some (.inr (some 12)), some (.inl (c : Int)), some (.inl (t : Int))] [] (114, I4, F) 0 0 := by
          intro L2 I4 g1 g2 g3 g4 g5 g6 g7 g8
          refine gr_aload_n dX3_chooseFirst_50 rfl ?_
          refine gr_iload_n dX3_chooseFirst_51 rfl ?_
          refine gr_iload_n dX3_chooseFirst_52 rfl ?_
          refine gr_virt dX3_chooseFirst_53 kX3_144 (as := [_, _]) rfl rfl (by first | assumption | rfl) (by omega) (Nat.le_of_ble_eq_true rfl) (gw_Rm_m (by omega) (by decide) (by decide)) (c_choose (c := c) (t := t) (f := f) (d + 4) hF' (by omega) (gq_off_congr (by omega) (fun a i _ _ => by rw [g1 a i (by omega), hI3 a i (by omega) (by omega)]) hoff) hf1 hf7 hf8 hfl ht) ?_
          rintro _ _ ⟨rfl, I5, rfl, hI5, hI5c⟩
          refine gr_iinc (v := ((c + 1 : Nat) : Int)) dX3_chooseFirst_56 (by decide) rfl (by omega) ?_
          refine gr_goto 7 dX3_chooseFirst_59 (by decide) ?_
          refine ih (c + 1) L2 I5 _ (by omega) (fun a i ha hb hc2 hd => ?_) ⟨?_, g3⟩ (fun h => absurd h (by omega)) (fun c0 hc0 => ⟨g4, fun p hp => ?_⟩) (fun c0 hc0 => ?_)
          · rw [hI5 a i (by omega), g1 a i ha, hI3 a i hb hc2]
            exact h1 a i ha hb hc2 hd
          · rw [hI5 12 2 (by omega)]; exact g2
          · by_cases hcc : c0 = c
            · subst hcc
              rw [hI5c p hp, g6]
            · rw [hI5 69 _ (by omega), g1 69 _ (by omega), hI3 69 _ (by omega) (by omega), (h3 c0 (by omega)).2 p hp, g5 (by omega)]
          · have : c0 = c := by omega
            subst this
            exact ⟨g7, g8⟩
        refine gr_if_ne 40 dX3_chooseFirst_25 (by decide) (by unfold gw_in; omega) (fun h29 => ?_) (fun h29 => ?_)
        · obtain ⟨c0, hc0⟩ : ∃ c0, c = c0 + 1 := ⟨c - 1, by omega⟩
          subst hc0
          obtain ⟨k1, k2⟩ := h4 c0 rfl
          have k3 := (h3 c0 (by omega)).1
          rw [show c0 + 1 - 1 = c0 by omega] at hle hfi
          have hval : ∀ s, s < (gs_sp f 4).length → gs_vl I2 (gs_sp f 4) (c0 + 1) (gs_K P (gq_B I) (I 20) (I 19 2) set (I 19 3) S L c0).1 s = gs_tot (gq_B I) (I 20) (I 19 2) c0 (gs_K P (gq_B I) (I 20) (I 19 2) set (I 19 3) S L c0).1 (c0 + 1) ((gs_sp f 4).getD s 0) + I2 (56 + (c0 + 1)) s := fun s hs => gq_vl_s u2 (gs_sp_lt hf8 hs)
          have stp := gs_step (t := t) hM (by omega) (by omega) hcs k1 k2 (by rw [hSPf]; exact ht) (fun s hs => by rw [hSPf] at hs ⊢; rw [← hval t ht, ← hval s hs]; exact hle s hs) (fun s hs => by rw [hSPf]; rw [← hval t ht, ← hval s (by omega)]; exact hfi s hs)
          have el : I3 12 2 = (L : Int) := by rw [hI3 12 2 (by omega) (by omega)]; exact h2.1
          refine gr_aload_n dX3_chooseFirst_40 rfl ?_
          refine gr_getI dX3_chooseFirst_41 fX3_25 (by first | assumption | rfl) (by omega) (by decide) rfl ?_
          rw [el]
          refine gr_ldc dX3_chooseFirst_44 nX3_99 ?_
          refine gr_icmp_lt 50 dX3_chooseFirst_46 (by decide) (by unfold gw_in; omega) (by unfold gw_in; omega) (fun h50 => ?_) (fun h50 => ?_)
          · exact go L I3 (fun _ _ _ => rfl) el h2.2 k3 (fun _ => rfl) (by rw [stp.1, hSPf]) stp.2.1 stp.2.2
          · omega
        · have hc0 : c = 0 := by omega
          subst hc0
          have hR := gq_sh56 0 (by omega)
          have hRF := f55 0 (by omega)
          have hval : ∀ s, s < (gs_sp f 4).length → ∀ k, gs_vl I2 (gs_sp f 4) 0 k s = I2 56 s := fun s hs k => gq_vl_0 (gs_sp_lt hf8 hs)
          have hle2 : ∀ s, s < (gs_SP P (gq_B I) (I 20) set 0).length → I2 56 t ≤ I2 56 s := fun s hs => by
            rw [hSPf] at hs
            rw [← hval t ht, ← hval s hs]; exact hle s hs
          have hfi2 : ∀ s, s < t → I2 56 t < I2 56 s := fun s hs => by
            rw [← hval t ht, ← hval s (by omega)]; exact hfi s hs
          have e56 : I3 56 t = I2 56 t := hI3 56 t (by omega) (by omega)
          have hcvt := hcv t ht
          rw [Nat.add_zero] at hcvt
          refine gr_aload_n dX3_chooseFirst_28 rfl ?_
          refine gr_aload_n dX3_chooseFirst_29 rfl ?_
          refine gr_getR dX3_chooseFirst_30 fX3_38 (by first | assumption | rfl) (by omega) (by decide) rfl (by assumption) ?_
          refine gr_iconst dX3_chooseFirst_33 ?_
          refine gr_rald (i := 0) dX3_chooseFirst_34 (by first | assumption | rfl) (by omega) (by omega) (by omega) (by decide) (by assumption) ?_
          refine gr_iload_n dX3_chooseFirst_35 rfl ?_
          refine gr_iald (i := t) dX3_chooseFirst_36 (by first | assumption | rfl) (by omega) (by omega) (by omega) (by decide) ?_
          rw [show I3 (56 + 0) t = I2 56 t from e56]
          refine gr_putI dX3_chooseFirst_37 fX3_25 (by first | assumption | rfl) (by omega) (Or.inl rfl) rfl ?_
          refine gr_aload_n dX3_chooseFirst_40 rfl ?_
          refine gr_getI dX3_chooseFirst_41 fX3_25 (by first | assumption | rfl) (by omega) (by decide) rfl ?_
          rw [gw_U_s]
          refine gr_ldc dX3_chooseFirst_44 nX3_99 ?_
          refine gr_icmp_lt 50 dX3_chooseFirst_46 (by decide) (by unfold gw_in; omega) (by unfold gw_in; omega) (fun h50 => ?_) (fun h50 => ?_)
          · obtain ⟨L2, hL2, hcost, hK⟩ := gs_cost_some hM (by omega) (by omega) hcs (by rw [hSPf]; exact ht) hle2 hfi2 (by omega)
            have hlft := gs_lft_0 (S := S) hcs (by rw [hSPf]; exact ht) hL2 (by omega) hK
            exact go L2 _ (fun a i h => gw_U_n (by omega)) (by rw [gw_U_s, hL2]) (by omega) hcost (fun h => absurd h (by omega)) (by rw [hK, hSPf]) hlft (by show (L2 : Int) < _; omega)
          · refine gr_vret dX3_chooseFirst_49 rfl (by decide) (by decide) ?_
            rw [← hQ]
            refine ⟨rfl, _, rfl, fun a i ha hb => by rw [gw_U_n (by omega), hI3 a i (by omega) (by omega), h1 a i hb (by omega) (by omega) (by omega), hI1 a (by omega)], ?_⟩
            unfold gq_sol
            rw [gs_cost_none (by omega) hcs hle2 (by omega)]
            dsimp only
            rw [gw_U_s]
            omega
  exact key S 0 0 _ _ (by omega) (fun a i h _ _ _ => gw_U_n (by omega)) ⟨by rw [gw_U_s]; rfl, by omega⟩ (fun _ => rfl) (fun c0 h => absurd h (by omega)) (fun c0 h => absurd h (by omega))
end GQ
