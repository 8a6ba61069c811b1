/-! ChordSpreads: what holds between two calls, helpers -/
/-- the objects; pp: where the pieces of the past lie -/
def gc_K (F : Nat → Nat → Option Nat) (pp : Nat → Nat) : Prop := F 0 0 = some 1 ∧ F 0 1 = some 12 ∧ F 0 2 = some 13 ∧ F 0 3 = some 19 ∧ F 0 4 = some 70 ∧ F 0 6 = some 71 ∧ F 0 7 = some 72 ∧ F 0 8 = some 73 ∧ F 0 9 = some 74 ∧ (∀ i, i < 10 → F 70 i = some (pp i)) ∧ (∀ i, i < 2 → F 71 i = some (95 + 2 * i)) ∧ gx_K F ∧ gq_K F ∧ (∀ i, i < 12 → F (75 + 2 * i) 4 = some (75 + 2 * i + 1)) ∧ (∀ i, i < 10 → ∃ j, j < 10 ∧ pp i = 75 + 2 * j) ∧ (∀ i j, i < 10 → j < 10 → pp i = pp j → i = j)
/-- a piece that may be -/
def gc_W (I : Nat → Nat → Int) (k : Nat) : Prop := (0 ≤ I k 0 ∧ I k 0 ≤ 8) ∧ (0 ≤ I k 1 ∧ I k 1 < 16) ∧ (0 ≤ I k 2 ∧ I k 2 ≤ 20) ∧ (0 ≤ I k 3 ∧ I k 3 ≤ 30) ∧ ∀ c : Nat, (c : Int) < I k 0 → 0 ≤ I (k + 1) (3 * c) ∧ (I (k + 1) (3 * c + 1) = -1 → I (k + 1) (3 * c + 2) = -1)
/-- the players' rows and nothing else -/
def gc_B (I : Nat → Nat → Int) : Nat → Nat → Int := fun r p => if r ≤ 5 then I (13 + r) p else 0
section BC
variable {B B' : Nat → Nat → Int}
theorem gs_Bc_str (h : ∀ r, r ≤ 5 → B' r = B r) (p x : Nat) : gb_str B' 0 p x = gb_str B 0 p x := by
  unfold gb_str
  rw [h (0 + 4) (by omega)]
theorem gs_Bc_ld (h : ∀ r, r ≤ 5 → B' r = B r) (i : Nat) : ∀ p k, gs_ld B' i p k = gs_ld B i p k
  | 0, _ => rfl
  | p + 1, k => by simp only [gs_ld]; rw [gs_Bc_ld h i p, gs_Bc_str h]
theorem gs_Bc_lw (h : ∀ r, r ≤ 5 → B' r = B r) (k i w : Nat) : ∀ p, gs_lw B' k i w p = gs_lw B k i w p
  | 0 => rfl
  | p + 1 => by simp only [gs_lw]; rw [gs_Bc_lw h k i w p, gs_Bc_str h]
theorem gs_Bc_ev (h : ∀ r, r ≤ 5 → B' r = B r) : gs_ev B' = gs_ev B := by
  funext n b k
  unfold gs_ev gs_gap
  rw [show (fun i => gs_ld B' i 4 k) = (fun i => gs_ld B i 4 k) from funext fun i => gs_Bc_ld h i 4 k]
theorem gs_Bc_SP (h : ∀ r, r ≤ 5 → B' r = B r) (P : Nat) (N : Nat → Int) (set c : Nat) : gs_SP P B' N set c = gs_SP P B N set c := by
  have e : gs_ch P B' N set c = gs_ch P B N set c := by
    funext p
    unfold gs_ch
    have : gs_ok P B' N set p c = gs_ok P B N set p c := by
      funext x
      unfold gs_ok gb_man
      rw [h (0 + 1) (by omega), h (0 + 2) (by omega), h (0 + 3) (by omega), h (0 + 5) (by omega)]
    rw [this]
  show gs_sp (gs_ch P B' N set c) 4 = gs_sp (gs_ch P B N set c) 4
  rw [e]
theorem gs_Bc_way (h : ∀ r, r ≤ 5 → B' r = B r) : gs_way B' = gs_way B := by
  funext N rest p c x c' x'
  unfold gs_way
  rw [h 1 (by omega)]
theorem gs_Bc_tot (h : ∀ r, r ≤ 5 → B' r = B r) : gs_tot B' = gs_tot B := by
  unfold gs_tot
  rw [gs_Bc_way h]
theorem gs_Bc_can (h : ∀ r, r ≤ 5 → B' r = B r) : gs_can B' = gs_can B := by
  unfold gs_can
  rw [gs_Bc_way h]
theorem gs_Bc_pay (h : ∀ r, r ≤ 5 → B' r = B r) (P : Nat) (N : Nat → Int) (rest : Int) (set : Nat) (bal : Int) : ∀ m, gs_pay P B' N rest set bal m = gs_pay P B N rest set bal m
  | 0 => rfl
  | m + 1 => by
    funext c k b
    simp only [gs_pay]
    rw [gs_Bc_pay h P N rest set bal m, gs_Bc_SP h, gs_Bc_tot h, gs_Bc_can h]
    simp only [gs_EV]
    rw [gs_Bc_ev h]
theorem gs_Bc_cost (h : ∀ r, r ≤ 5 → B' r = B r) (P : Nat) (N : Nat → Int) (rest : Int) (set : Nat) (bal : Int) (S : Nat) : gs_cost P B' N rest set bal S = gs_cost P B N rest set bal S := by
  unfold gs_cost gs_EV
  rw [gs_Bc_SP h, gs_Bc_ev h, gs_Bc_pay h]
theorem gs_Bc_fea (h : ∀ r, r ≤ 5 → B' r = B r) (P : Nat) (N : Nat → Int) (rest : Int) (set : Nat) (bal : Int) (S : Nat) : gs_fea P B' N rest set bal S = gs_fea P B N rest set bal S := by
  unfold gs_fea gs_EV
  rw [gs_Bc_SP h, gs_Bc_ev h, gs_Bc_pay h]
theorem gs_Bc_K (h : ∀ r, r ≤ 5 → B' r = B r) (P : Nat) (N : Nat → Int) (rest : Int) (set : Nat) (bal : Int) (S L : Nat) : ∀ c, gs_K P B' N rest set bal S L c = gs_K P B N rest set bal S L c
  | 0 => by simp only [gs_K]; rw [gs_Bc_SP h, gs_Bc_pay h]; simp only [gs_EV]; rw [gs_Bc_ev h]
  | c + 1 => by simp only [gs_K]; rw [gs_Bc_K h P N rest set bal S L c, gs_Bc_SP h, gs_Bc_pay h, gs_Bc_can h, gs_Bc_tot h]; simp only [gs_EV]; rw [gs_Bc_ev h]
end BC
theorem gc_Bq {I I' : Nat → Nat → Int} (h : ∀ a, 13 ≤ a → a ≤ 18 → I' a = I a) : ∀ r, r ≤ 5 → gq_B I' r = gc_B I r := fun r hr => funext fun p => by
  unfold gc_B
  rw [if_pos hr, ← h (13 + r) (by omega) (by omega)]
theorem gc_Bc {I I' : Nat → Nat → Int} (h : ∀ a, 13 ≤ a → a ≤ 18 → I' a = I a) : gc_B I' = gc_B I := funext fun r => funext fun p => by
  unfold gc_B
  split
  · rw [h (13 + r) (by omega) (by omega)]
  · rfl
/-- THE SCORE as it lies in the search -/
def gc_sol (I : Nat → Nat → Int) (P : Nat) : Prop := match gs_cost P (gc_B I) (I 20) (I 19 2) (I 19 1).toNat (I 19 3) (I 19 0).toNat with
  | none => I 12 2 = gs_NEVER
  | some L => I 12 2 = (L : Int) ∧ ∀ c, c < (I 19 0).toNat → ∀ p, p < 4 → I 69 (4 * c + p) = (gs_hd (gs_K P (gc_B I) (I 20) (I 19 2) (I 19 1).toNat (I 19 3) (I 19 0).toNat L c).1 p : Nat)
theorem gc_sol_q {I I' : Nat → Nat → Int} {P : Nat} (h : ∀ a, 13 ≤ a → a ≤ 20 → I' a = I a) (hs : gq_sol I I' P (I 19 1).toNat (I 19 0).toNat) : gc_sol I' P := by
  unfold gq_sol at hs
  unfold gc_sol
  have hq : ∀ r, r ≤ 5 → gq_B I r = gc_B I r := gc_Bq fun _ _ _ => rfl
  rw [h 19 (by omega) (by omega), h 20 (by omega) (by omega), gc_Bc (fun a h1 h2 => h a h1 (by omega)), ← gs_Bc_cost hq]
  revert hs
  cases gs_cost P (gq_B I) (I 20) (I 19 2) (I 19 1).toNat (I 19 3) (I 19 0).toNat with
  | none => exact id
  | some L =>
    intro hs
    refine ⟨hs.1, fun c hc p hp => ?_⟩
    rw [hs.2 c hc p hp, gs_Bc_K hq]
theorem gc_sol_c {I I' : Nat → Nat → Int} {P : Nat} (h : ∀ a, 13 ≤ a → a ≤ 20 → I' a = I a) (h12 : I' 12 2 = I 12 2) (h69 : I' 69 = I 69) (hs : gc_sol I P) : gc_sol I' P := by
  unfold gc_sol at hs ⊢
  rw [h 19 (by omega) (by omega), h 20 (by omega) (by omega), gc_Bc (fun a h1 h2 => h a h1 (by omega)), h12, h69]
  exact hs
/-- the values -/
def gc_D (I : Nat → Nat → Int) (P n : Nat) (pp : Nat → Nat) : Prop :=
  (I 13 0 = (P : Int) ∧ gb_B I 13 ∧ gb_bw (I 14) P ≤ 2 ∧ P ≤ 4 ∧ (∀ p, p < P → 2 ≤ I 17 p)) ∧ (gc_W I 19 ∧ gp_N (I 20)) ∧ (gx_T I n ∧ gb_B I 2 ∧ gp_N (I 9)) ∧
  ((0 ≤ I 0 5 ∧ I 0 5 ≤ 10) ∧ (∀ j, j < 10 → gp_N (I (pp j + 1))) ∧ (∀ j : Nat, (j : Int) < I 0 5 → gc_W I (pp j))) ∧
  (∀ i, i < 2 → (I 72 i = 0 ∨ I 72 i = 1) ∧ gp_N (I (96 + 2 * i)) ∧ (I 72 i = 1 → gc_W I (95 + 2 * i))) ∧
  ((0 ≤ I 0 10 ∧ I 0 10 ≤ 6) ∧ (∀ h : Nat, (h : Int) < I 0 10 → 0 ≤ I 73 h ∧ I 73 h ≤ 7 ∧ (I 74 h = 0 ∨ I 74 h = 1))) ∧
  ((I 0 11 = 0 ∨ I 0 11 = 1) ∧ (I 0 11 = 1 → gc_sol I P))
theorem gc_pK {F : Nat → Nat → Option Nat} {pp : Nat → Nat} (h : gc_K F pp) {i : Nat} (hi : i < 12) : gp_K F (75 + 2 * i) := by
  have := h.2.2.2.2.2.2.2.2.2.2.2.2.2.1 i hi
  refine ⟨?_, ?_, by omega, this⟩
  · rcases (show i = 0 ∨ i = 1 ∨ i = 2 ∨ i = 3 ∨ i = 4 ∨ i = 5 ∨ i = 6 ∨ i = 7 ∨ i = 8 ∨ i = 9 ∨ i = 10 ∨ i = 11 by omega) with rfl | rfl | rfl | rfl | rfl | rfl | rfl | rfl | rfl | rfl | rfl | rfl <;> rfl
  · rcases (show i = 0 ∨ i = 1 ∨ i = 2 ∨ i = 3 ∨ i = 4 ∨ i = 5 ∨ i = 6 ∨ i = 7 ∨ i = 8 ∨ i = 9 ∨ i = 10 ∨ i = 11 by omega) with rfl | rfl | rfl | rfl | rfl | rfl | rfl | rfl | rfl | rfl | rfl | rfl <;> rfl
theorem gc_pp {F : Nat → Nat → Option Nat} {pp : Nat → Nat} (h : gc_K F pp) {i : Nat} (hi : i < 10) : gp_K F (pp i) ∧ 75 ≤ pp i ∧ pp i ≤ 93 ∧ pp i % 2 = 1 := by
  obtain ⟨j, hj, e⟩ := h.2.2.2.2.2.2.2.2.2.2.2.2.2.2.1 i hi
  rw [e]
  exact ⟨gc_pK h (by omega), by omega, by omega, by omega⟩
theorem gc_ppd {F : Nat → Nat → Option Nat} {pp : Nat → Nat} (h : gc_K F pp) {i j : Nat} (hi : i < 10) (hj : j < 10) (hij : i ≠ j) : pp i ≠ pp j := fun e => hij (h.2.2.2.2.2.2.2.2.2.2.2.2.2.2.2 i j hi hj e)
theorem gc_ne {I : Nat → Nat → Int} (h : gc_W I 19) : gq_ne I := by
  intro c hc
  have := (h.2.2.2.2 c hc).1
  unfold gp_cnt
  rw [show 3 * c + 0 = 3 * c from rfl, if_neg (by show ¬ I (19 + 1) (3 * c) = -1; omega)]
  split
  · omega
  · split <;> omega
theorem gc_M {I : Nat → Nat → Int} {P n : Nat} {pp : Nat → Nat} (h : gc_D I P n pp) : gq_M I := by
  obtain ⟨⟨h1, h2, h3, h4, h5⟩, ⟨h6, h7⟩, -⟩ := h
  obtain ⟨w1, w2, w3, w4, w5⟩ := h6
  refine ⟨h2, h7, by omega, w1, w3, w4, ?_⟩
  rw [h1]
  exact h3
section GC
variable {I : Nat → Nat → Int} {F : Nat → Nat → Option Nat} {P n : Nat} {pp : Nat → Nat}
theorem c_radd {x : Int} (d : Nat) (hF : gx_K F) (hT : gx_T I n) (hn : n < 150) : gw_Met jX2_add d [.inr (some 1), .inl x] (114, I, F) (gw_vo F (fun I' => ∀ a b, I' a b = if a = 1 ∧ b = 2 then (n : Int) + 1 else if a = 10 ∧ b = n then x else I a b)) := by
  obtain ⟨f0, f1, f3, f4, fb, fp⟩ := hF
  obtain ⟨hn1, hn2, hn3⟩ := hT
  refine gw_enter okX2_add rfl (Nat.le_of_ble_eq_true rfl) ?_
  refine gr_aload_n dX2_add_0 rfl ?_
  refine gr_getI dX2_add_1 fX2_25 (by first | assumption | rfl) (by omega) (by decide) rfl ?_
  rw [hn1]
  refine gr_sipush dX2_add_4 (by decide) ?_
  refine gr_icmp_ge 30 dX2_add_7 (by decide) (by unfold gw_in; omega) (by unfold gw_in; omega) (fun h7 => ?_) (fun h7 => ?_)
  · omega
  · refine gr_aload_n dX2_add_10 rfl ?_
    refine gr_getR dX2_add_11 fX2_29 (by first | assumption | rfl) (by omega) (by decide) rfl (by assumption) ?_
    refine gr_aload_n dX2_add_14 rfl ?_
    refine gr_getI dX2_add_15 fX2_25 (by first | assumption | rfl) (by omega) (by decide) rfl ?_
    rw [hn1]
    refine gr_iload_n dX2_add_18 rfl ?_
    refine gr_iast (i := n) dX2_add_19 (by first | assumption | rfl) (by omega) (by omega) (by omega) (by decide) ?_
    refine gr_aload_n dX2_add_20 rfl ?_
    refine gr_dup dX2_add_21 ?_
    refine gr_getI dX2_add_22 fX2_25 (by first | assumption | rfl) (by omega) (by decide) rfl ?_
    refine gr_iconst dX2_add_25 ?_
    rw [show gw_U I 10 n x 1 2 = I 1 2 from if_neg (by omega), hn1]
    refine gr_iadd dX2_add_26 rfl ?_
    refine gr_putI dX2_add_27 fX2_25 (by first | assumption | rfl) (by omega) (Or.inl rfl) rfl ?_
    refine gr_vret dX2_add_30 rfl (by decide) (by decide) (⟨rfl, _, rfl, fun a b => by unfold gw_U; grind⟩)
theorem c_isPlayer {x : Int} (d : Nat) (hK : gc_K F pp) (hP : I 13 0 = (P : Int)) (hP4 : P ≤ 4) (hx : gw_in x) : gw_Met jX4_isPlayer d [.inr (some 0), .inl x] (114, I, F) (gw_pu (if 0 ≤ x ∧ x < (P : Int) then 1 else 0) (114, I, F)) := by
  obtain ⟨k0, k1, k2, k3, -⟩ := hK
  unfold gw_in at hx
  refine gw_enter okX4_isPlayer rfl (Nat.le_of_ble_eq_true rfl) ?_
  refine gr_iload_n dX4_isPlayer_0 rfl ?_
  refine gr_if_lt 19 dX4_isPlayer_1 (by decide) (by unfold gw_in; omega) (fun h1 => ?_) (fun h1 => ?_)
  · refine gr_iconst dX4_isPlayer_19 ?_
    refine gr_iret dX4_isPlayer_20 (by first | exact Or.inl rfl | exact Or.inr ⟨rfl, by omega⟩) (by decide) (by decide) (⟨by rw [if_neg (by omega)], rfl⟩)
  · refine gr_iload_n dX4_isPlayer_4 rfl ?_
    refine gr_aload_n dX4_isPlayer_5 rfl ?_
    refine gr_getR dX4_isPlayer_6 fX4_27 (by first | assumption | rfl) (by omega) (by decide) rfl (by assumption) ?_
    refine gr_getI dX4_isPlayer_9 fX4_179 (by first | assumption | rfl) (by omega) (by decide) rfl ?_
    rw [hP]
    refine gr_icmp_ge 19 dX4_isPlayer_12 (by decide) (by unfold gw_in; omega) (by unfold gw_in; omega) (fun h12 => ?_) (fun h12 => ?_)
    · refine gr_iconst dX4_isPlayer_19 ?_
      refine gr_iret dX4_isPlayer_20 (by first | exact Or.inl rfl | exact Or.inr ⟨rfl, by omega⟩) (by decide) (by decide) (⟨by rw [if_neg (by omega)], rfl⟩)
    · refine gr_iconst dX4_isPlayer_15 ?_
      refine gr_goto 20 dX4_isPlayer_16 (by decide) ?_
      refine gr_iret dX4_isPlayer_20 (by first | exact Or.inl rfl | exact Or.inr ⟨rfl, by omega⟩) (by decide) (by decide) (⟨by rw [if_pos (by omega)], rfl⟩)
theorem c_isChord {x : Int} (d : Nat) (hK : gc_K F pp) (hS : 0 ≤ I 19 0 ∧ I 19 0 ≤ 8) (hx : gw_in x) : gw_Met jX4_isChord d [.inr (some 0), .inl x] (114, I, F) (gw_pu (if 0 ≤ x ∧ x < I 19 0 then 1 else 0) (114, I, F)) := by
  obtain ⟨k0, k1, k2, k3, -⟩ := hK
  unfold gw_in at hx
  refine gw_enter okX4_isChord rfl (Nat.le_of_ble_eq_true rfl) ?_
  refine gr_iload_n dX4_isChord_0 rfl ?_
  refine gr_if_lt 19 dX4_isChord_1 (by decide) (by unfold gw_in; omega) (fun h1 => ?_) (fun h1 => ?_)
  · refine gr_iconst dX4_isChord_19 ?_
    refine gr_iret dX4_isChord_20 (by first | exact Or.inl rfl | exact Or.inr ⟨rfl, by omega⟩) (by decide) (by decide) (⟨by rw [if_neg (by omega)], rfl⟩)
  · refine gr_iload_n dX4_isChord_4 rfl ?_
    refine gr_aload_n dX4_isChord_5 rfl ?_
    refine gr_getR dX4_isChord_6 fX4_32 (by first | assumption | rfl) (by omega) (by decide) rfl (by assumption) ?_
    refine gr_getI dX4_isChord_9 fX4_122 (by first | assumption | rfl) (by omega) (by decide) rfl ?_
    refine gr_icmp_ge 19 dX4_isChord_12 (by decide) (by unfold gw_in; omega) (by unfold gw_in; omega) (fun h12 => ?_) (fun h12 => ?_)
    · refine gr_iconst dX4_isChord_19 ?_
      refine gr_iret dX4_isChord_20 (by first | exact Or.inl rfl | exact Or.inr ⟨rfl, by omega⟩) (by decide) (by decide) (⟨by rw [if_neg (by omega)], rfl⟩)
    · refine gr_iconst dX4_isChord_15 ?_
      refine gr_goto 20 dX4_isChord_16 (by decide) ?_
      refine gr_iret dX4_isChord_20 (by first | exact Or.inl rfl | exact Or.inr ⟨rfl, by omega⟩) (by decide) (by decide) (⟨by rw [if_pos (by omega)], rfl⟩)
/-- notes of a chord that may be told -/
abbrev gc_nts (a b c : Int) : Prop := (0 ≤ a ∧ a ≤ 60) ∧ (b = -1 ∧ c = -1 ∨ (a + 1 ≤ b ∧ b ≤ 60) ∧ (c = -1 ∨ b + 1 ≤ c ∧ c ≤ 60))
theorem c_areNotes {a b c : Int} {μ : gw_M} (d : Nat) (ha : gw_in a) (hb : gw_in b) (hc : gw_in c) : gw_Met jX4_areNotes (d + 1) [.inl a, .inl b, .inl c] μ (gw_pu (if gc_nts a b c then 1 else 0) μ) := by
  have ha' := ha
  have hb' := hb
  have hc' := hc
  unfold gw_in at ha' hb' hc'
  refine gw_enter okX4_areNotes rfl (Nat.le_of_ble_eq_true rfl) ?_
  refine gr_iload_n dX4_areNotes_0 rfl ?_
  refine gr_iconst dX4_areNotes_1 ?_
  refine gr_bipush dX4_areNotes_2 (by decide) ?_
  refine gr_stat dX4_areNotes_4 kX4_143 (as := [_, _, _]) rfl rfl (Nat.le_of_ble_eq_true rfl) (gw_Rm_m (by omega) (by decide) (by decide)) (c_isWithin d ha (by unfold gw_in; omega) (by unfold gw_in; omega)) ?_
  rintro _ _ ⟨rfl, rfl⟩
  by_cases h1 : 0 ≤ a ∧ a ≤ 60
  · rw [if_pos h1]
    refine gr_if_ne 12 dX4_areNotes_7 (by decide) (by unfold gw_in; omega) (fun h7 => ?_) (fun h7 => ?_)
    · refine gr_iload_n dX4_areNotes_12 rfl ?_
      refine gr_iconst dX4_areNotes_13 ?_
      refine gr_icmp_ne 28 dX4_areNotes_14 (by decide) (by unfold gw_in; omega) (by unfold gw_in; omega) (fun h14 => ?_) (fun h14 => ?_)
      · refine gr_iload_n dX4_areNotes_28 rfl ?_
        refine gr_iload_n dX4_areNotes_29 rfl ?_
        refine gr_iconst dX4_areNotes_30 ?_
        refine gr_iadd dX4_areNotes_31 rfl ?_
        refine gr_bipush dX4_areNotes_32 (by decide) ?_
        refine gr_stat dX4_areNotes_34 kX4_143 (as := [_, _, _]) rfl rfl (Nat.le_of_ble_eq_true rfl) (gw_Rm_m (by omega) (by decide) (by decide)) (c_isWithin d hb (by unfold gw_in; omega) (by unfold gw_in; omega)) ?_
        rintro _ _ ⟨rfl, rfl⟩
        by_cases h2 : a + 1 ≤ b ∧ b ≤ 60
        · rw [if_pos h2]
          refine gr_if_eq 61 dX4_areNotes_37 (by decide) (by unfold gw_in; omega) (fun h37 => ?_) (fun h37 => ?_)
          · omega
          · refine gr_iload_n dX4_areNotes_40 rfl ?_
            refine gr_iconst dX4_areNotes_41 ?_
            refine gr_icmp_eq 57 dX4_areNotes_42 (by decide) (by unfold gw_in; omega) (by unfold gw_in; omega) (fun h42 => ?_) (fun h42 => ?_)
            · refine gr_iconst dX4_areNotes_57 ?_
              refine gr_goto 62 dX4_areNotes_58 (by decide) ?_
              refine gr_iret dX4_areNotes_62 (by first | exact Or.inl rfl | exact Or.inr ⟨rfl, by omega⟩) (by decide) (by decide) (⟨by rw [if_pos (by unfold gc_nts; omega)], rfl⟩)
            · refine gr_iload_n dX4_areNotes_45 rfl ?_
              refine gr_iload_n dX4_areNotes_46 rfl ?_
              refine gr_iconst dX4_areNotes_47 ?_
              refine gr_iadd dX4_areNotes_48 rfl ?_
              refine gr_bipush dX4_areNotes_49 (by decide) ?_
              refine gr_stat dX4_areNotes_51 kX4_143 (as := [_, _, _]) rfl rfl (Nat.le_of_ble_eq_true rfl) (gw_Rm_m (by omega) (by decide) (by decide)) (c_isWithin d hc (by unfold gw_in; omega) (by unfold gw_in; omega)) ?_
              rintro _ _ ⟨rfl, rfl⟩
              by_cases h3 : b + 1 ≤ c ∧ c ≤ 60
              · rw [if_pos h3]
                refine gr_if_eq 61 dX4_areNotes_54 (by decide) (by unfold gw_in; omega) (fun h54 => ?_) (fun h54 => ?_)
                · omega
                · refine gr_iconst dX4_areNotes_57 ?_
                  refine gr_goto 62 dX4_areNotes_58 (by decide) ?_
                  refine gr_iret dX4_areNotes_62 (by first | exact Or.inl rfl | exact Or.inr ⟨rfl, by omega⟩) (by decide) (by decide) (⟨by rw [if_pos (by unfold gc_nts; omega)], rfl⟩)
              · rw [if_neg h3]
                refine gr_if_eq 61 dX4_areNotes_54 (by decide) (by unfold gw_in; omega) (fun h54 => ?_) (fun h54 => ?_)
                · refine gr_iconst dX4_areNotes_61 ?_
                  refine gr_iret dX4_areNotes_62 (by first | exact Or.inl rfl | exact Or.inr ⟨rfl, by omega⟩) (by decide) (by decide) (⟨by rw [if_neg (by unfold gc_nts; omega)], rfl⟩)
                · omega
        · rw [if_neg h2]
          refine gr_if_eq 61 dX4_areNotes_37 (by decide) (by unfold gw_in; omega) (fun h37 => ?_) (fun h37 => ?_)
          · refine gr_iconst dX4_areNotes_61 ?_
            refine gr_iret dX4_areNotes_62 (by first | exact Or.inl rfl | exact Or.inr ⟨rfl, by omega⟩) (by decide) (by decide) (⟨by rw [if_neg (by unfold gc_nts; omega)], rfl⟩)
          · omega
      · refine gr_iload_n dX4_areNotes_17 rfl ?_
        refine gr_iconst dX4_areNotes_18 ?_
        refine gr_icmp_ne 26 dX4_areNotes_19 (by decide) (by unfold gw_in; omega) (by unfold gw_in; omega) (fun h19 => ?_) (fun h19 => ?_)
        · refine gr_iconst dX4_areNotes_26 ?_
          refine gr_iret dX4_areNotes_27 (by first | exact Or.inl rfl | exact Or.inr ⟨rfl, by omega⟩) (by decide) (by decide) (⟨by rw [if_neg (by unfold gc_nts; omega)], rfl⟩)
        · refine gr_iconst dX4_areNotes_22 ?_
          refine gr_goto 27 dX4_areNotes_23 (by decide) ?_
          refine gr_iret dX4_areNotes_27 (by first | exact Or.inl rfl | exact Or.inr ⟨rfl, by omega⟩) (by decide) (by decide) (⟨by rw [if_pos (by unfold gc_nts; omega)], rfl⟩)
    · omega
  · rw [if_neg h1]
    refine gr_if_ne 12 dX4_areNotes_7 (by decide) (by unfold gw_in; omega) (fun h7 => ?_) (fun h7 => ?_)
    · omega
    · refine gr_iconst dX4_areNotes_10 ?_
      refine gr_iret dX4_areNotes_11 (by first | exact Or.inl rfl | exact Or.inr ⟨rfl, by omega⟩) (by decide) (by decide) (⟨by rw [if_neg (by unfold gc_nts; omega)], rfl⟩)
/-- the oldest piece becomes the youngest -/
def gc_rot (pp : Nat → Nat) : Nat → Nat := fun j => if j < 9 then pp (j + 1) else pp 0
theorem gc_K_rot {F' : Nat → Nat → Option Nat} (hK : gc_K F pp) (h70 : ∀ j, j < 10 → F' 70 j = some (gc_rot pp j)) (ho : ∀ a, a ≠ 70 → F' a = F a) : gc_K F' (gc_rot pp) := by
  obtain ⟨k0, k1, k2, k3, k4, k6, k7, k8, k9, k70, k71, kx, kq, kp, kj, ki⟩ := hK
  unfold gx_K gb_K gp_K at kx
  unfold gq_K gb_K gp_K at kq
  unfold gc_K gx_K gq_K gb_K gp_K
  refine ⟨?_, ?_, ?_, ?_, ?_, ?_, ?_, ?_, ?_, h70, ?_, ?_, ?_, ?_, ?_, ?_⟩
  all_goals try (simp only [ho _ (show (0 : Nat) ≠ 70 by decide)]; assumption)
  · intro i hi; rw [ho 71 (by decide)]; exact k71 i hi
  · simp only [ho _ (show (1 : Nat) ≠ 70 by decide), ho _ (show (2 : Nat) ≠ 70 by decide), ho _ (show (8 : Nat) ≠ 70 by decide)]; exact kx
  · simp only [ho _ (show (12 : Nat) ≠ 70 by decide), ho _ (show (13 : Nat) ≠ 70 by decide), ho _ (show (19 : Nat) ≠ 70 by decide), ho _ (show (21 : Nat) ≠ 70 by decide), ho _ (show (55 : Nat) ≠ 70 by decide)]; exact kq
  · intro i hi; rw [ho _ (by omega)]; exact kp i hi
  · intro i hi
    unfold gc_rot
    split
    · exact kj (i + 1) (by omega)
    · exact kj 0 (by omega)
  · intro i j hi hj e
    unfold gc_rot at e
    by_cases h1 : i < 9 <;> by_cases h2 : j < 9
    · rw [if_pos h1, if_pos h2] at e; have := ki _ _ (by omega) (by omega) e; omega
    · rw [if_pos h1, if_neg h2] at e; have := ki _ _ (by omega) (by omega) e; omega
    · rw [if_neg h1, if_pos h2] at e; have := ki _ _ (by omega) (by omega) e; omega
    · omega
/-- a void call that may turn the past -/
abbrev gw_vF (Q : (Nat → Nat → Int) → (Nat → Nat → Option Nat) → Prop) : Option gw_V → gw_M → Prop := fun v μ' => v = none ∧ ∃ (I' : Nat → Nat → Int) (F' : Nat → Nat → Option Nat), μ' = (114, I', F') ∧ Q I' F'
abbrev gw_iF (Q : Int → (Nat → Nat → Int) → (Nat → Nat → Option Nat) → Prop) : Option gw_V → gw_M → Prop := fun v μ' => ∃ (r : Int) (I' : Nat → Nat → Int) (F' : Nat → Nat → Option Nat), v = some (.inl r) ∧ μ' = (114, I', F') ∧ Q r I' F'
theorem c_forgetOldest (d : Nat) (hK : gc_K F pp) : gw_Met jX4_forgetOldest d [.inr (some 0)] (114, I, F) (gw_vF (fun I' F' => I' = gw_U I 0 5 9 ∧ (∀ a, a ≠ 70 → F' a = F a) ∧ ∀ j, j < 10 → F' 70 j = some (gc_rot pp j))) := by
  obtain ⟨k0, k1, k2, k3, k4, k6, k7, k8, k9, k70, k71, kx, kq, kp, kj, ki⟩ := id hK
  generalize hQ : gw_vF (fun I' F' => I' = gw_U I 0 5 9 ∧ (∀ a, a ≠ 70 → F' a = F a) ∧ ∀ j, j < 10 → F' 70 j = some (gc_rot pp j)) = Q
  refine gw_enter okX4_forgetOldest rfl (Nat.le_of_ble_eq_true rfl) ?_
  refine gr_aload_n dX4_forgetOldest_0 rfl ?_
  refine gr_getR dX4_forgetOldest_1 fX4_37 (by first | assumption | rfl) (by omega) (by decide) rfl (by assumption) ?_
  refine gr_iconst dX4_forgetOldest_4 ?_
  refine gr_pald (i := 0) dX4_forgetOldest_5 (by first | assumption | rfl) (by omega) (by omega) (by omega) (by decide) (k70 0 (by omega)) ?_
  refine gr_astore_n dX4_forgetOldest_6 (by decide) ?_
  refine gr_iconst dX4_forgetOldest_7 ?_
  refine gr_istore_n dX4_forgetOldest_8 (by decide) ?_
  have key : ∀ (m i : Nat) (F2 : Nat → Nat → Option Nat), i + m = 10 → 1 ≤ i → (∀ a, a ≠ 70 → F2 a = F a) → (∀ j, j < 10 → F2 70 j = some (if j + 1 < i then pp (j + 1) else pp j)) → gw_G (gw_Cm jX4_forgetOldest d Q) jX4_forgetOldest 9 [some (.inr (some 0)), some (.inr (some (pp 0))), some (.inl (i : Int))] [] (114, I, F2) 0 0 := by
    intro m
    induction m with
    | zero =>
      intro i F2 hi h1 hF hF70
      have e4 : F2 0 4 = some 70 := by rw [hF 0 (by omega)]; exact k4
      obtain ⟨hp0, -⟩ := gc_pp hK (show 0 < 10 by omega)
      obtain ⟨hp1, hp2, hp3, hp4⟩ := hp0
      refine gr_iload_n dX4_forgetOldest_9 rfl ?_
      refine gr_bipush dX4_forgetOldest_10 (by decide) ?_
      refine gr_icmp_ge 35 dX4_forgetOldest_12 (by decide) (by unfold gw_in; omega) (by unfold gw_in; omega) (fun h12 => ?_) (fun h12 => ?_)
      · refine gr_aload_n dX4_forgetOldest_35 rfl ?_
        refine gr_getR dX4_forgetOldest_36 fX4_37 (by first | assumption | rfl) (by omega) (by decide) rfl (by assumption) ?_
        refine gr_bipush dX4_forgetOldest_39 (by decide) ?_
        refine gr_aload_n dX4_forgetOldest_41 rfl ?_
        refine gr_past (i := 9) dX4_forgetOldest_42 (by first | assumption | rfl) (by omega) (by omega) (by omega) (by decide) (by first | assumption | rfl) (by omega) ?_
        refine gr_aload_n dX4_forgetOldest_43 rfl ?_
        refine gr_bipush dX4_forgetOldest_44 (by decide) ?_
        refine gr_putI dX4_forgetOldest_46 fX4_41 (by first | assumption | rfl) (by omega) (Or.inl rfl) rfl ?_
        refine gr_vret dX4_forgetOldest_49 rfl (by decide) (by decide) ?_
        rw [← hQ]
        refine ⟨rfl, _, _, rfl, rfl, fun a ha => ?_, fun j hj => ?_⟩
        · rw [gw_U_r ha]; exact hF a ha
        · by_cases h9 : j = 9
          · subst h9; rw [gw_U_s]; rfl
          · rw [gw_U_n (by omega), hF70 j hj, if_pos (by omega)]
            unfold gc_rot
            rw [if_pos (by omega)]
      · omega
    | succ m ih =>
      intro i F2 hi h1 hF hF70
      have e4 : F2 0 4 = some 70 := by rw [hF 0 (by omega)]; exact k4
      have e70 : F2 70 i = some (pp i) := by rw [hF70 i (by omega), if_neg (by omega)]
      obtain ⟨hp0, -⟩ := gc_pp hK (show i < 10 by omega)
      obtain ⟨hp1, hp2, hp3, hp4⟩ := hp0
      refine gr_iload_n dX4_forgetOldest_9 rfl ?_
      refine gr_bipush dX4_forgetOldest_10 (by decide) ?_
      refine gr_icmp_ge 35 dX4_forgetOldest_12 (by decide) (by unfold gw_in; omega) (by unfold gw_in; omega) (fun h12 => ?_) (fun h12 => ?_)
      · omega
      · refine gr_aload_n dX4_forgetOldest_15 rfl ?_
        refine gr_getR dX4_forgetOldest_16 fX4_37 (by first | assumption | rfl) (by omega) (by decide) rfl (by assumption) ?_
        refine gr_iload_n dX4_forgetOldest_19 rfl ?_
        refine gr_iconst dX4_forgetOldest_20 ?_
        refine gr_isub (v := ((i - 1 : Nat) : Int)) dX4_forgetOldest_21 (by omega) ?_
        refine gr_aload_n dX4_forgetOldest_22 rfl ?_
        refine gr_getR dX4_forgetOldest_23 fX4_37 (by first | assumption | rfl) (by omega) (by decide) rfl (by assumption) ?_
        refine gr_iload_n dX4_forgetOldest_26 rfl ?_
        refine gr_pald (i := i) dX4_forgetOldest_27 (by first | assumption | rfl) (by omega) (by omega) (by omega) (by decide) (by assumption) ?_
        refine gr_past (i := i - 1) dX4_forgetOldest_28 (by first | assumption | rfl) (by omega) (by omega) (by omega) (by decide) (by first | assumption | rfl) (by omega) ?_
        refine gr_iinc (v := ((i + 1 : Nat) : Int)) dX4_forgetOldest_29 (by decide) rfl (by omega) ?_
        refine gr_goto 9 dX4_forgetOldest_32 (by decide) ?_
        refine ih (i + 1) _ (by omega) (by omega) (fun a ha => ?_) (fun j hj => ?_)
        · rw [gw_U_r ha]; exact hF a ha
        · by_cases hj1 : j = i - 1
          · subst hj1; rw [gw_U_s, if_pos (by omega), show i - 1 + 1 = i by omega]
          · rw [gw_U_n (by omega), hF70 j hj]
            by_cases h2 : j + 1 < i
            · rw [if_pos h2, if_pos (by omega)]
            · rw [if_neg h2, if_neg (by omega)]
  exact key 9 1 F (by omega) (by omega) (fun _ _ => rfl) (fun j hj => by rw [if_neg (by omega)]; exact k70 j hj)
/-- what remember() does -/
def gu_rem (I I' : Nat → Nat → Int) (pp pp' : Nat → Nat) : Prop := ∃ k : Nat, (I 0 5 = (k : Int) ∧ k < 10 ∧ pp' = pp ∨ I 0 5 = 10 ∧ k = 9 ∧ pp' = gc_rot pp) ∧ ∀ a b, I' a b = if a = 0 ∧ b = 5 then (k : Int) + 1 else if a = 0 ∧ b = 11 then 0 else if a = pp' k ∧ b < 4 then I 19 b else if a = pp' k + 1 ∧ (b : Int) < 3 * I 19 0 then I 20 b else I a b
theorem c_remember (d : Nat) (hK : gc_K F pp) (h5 : 0 ≤ I 0 5 ∧ I 0 5 ≤ 10) (hS : 0 ≤ I 19 0 ∧ I 19 0 ≤ 8) : gw_Met jX4_remember (d + 1) [.inr (some 0)] (114, I, F) (gw_vF (fun I' F' => ∃ pp', gu_rem I I' pp pp' ∧ gc_K F' pp' ∧ ∀ a, a ≠ 70 → F' a = F a)) := by
  obtain ⟨k0, k1, k2, k3, k4, k6, k7, k8, k9, k70, k71, kx, kq, kp, kj, ki⟩ := id hK
  generalize hQ : gw_vF (fun I' F' => ∃ pp', gu_rem I I' pp pp' ∧ gc_K F' pp' ∧ ∀ a, a ≠ 70 → F' a = F a) = Q
  have key : ∀ (k : Nat) (I1 : Nat → Nat → Int) (F1 : Nat → Nat → Option Nat) (pp' : Nat → Nat), k < 10 → (I 0 5 = (k : Int) ∧ k < 10 ∧ pp' = pp ∨ I 0 5 = 10 ∧ k = 9 ∧ pp' = gc_rot pp) → gc_K F1 pp' → (∀ a, a ≠ 70 → F1 a = F a) → (∀ a b, I1 a b = if a = 0 ∧ b = 5 then (k : Int) else I a b) → gw_G (gw_Cm jX4_remember (d + 1) Q) jX4_remember 13 [some (.inr (some 0))] [] (114, I1, F1) 0 0 := by
    intro k I1 F1 pp' hk hor hK1 hF1 hI1
    obtain ⟨k0, k1, k2, k3, k4, k6, k7, k8, k9, k70, k71, kx, kq, kp, kj, ki⟩ := id hK1
    obtain ⟨q1, q2, q3, q4⟩ := gc_pp hK1 hk
    obtain ⟨qs, -⟩ := id q1
    obtain ⟨-, -, -, -, -, -, -, -, -, -, -, -, -, -, hq19⟩ := kq
    have e5 : I1 0 5 = (k : Int) := by rw [hI1, if_pos (by omega)]
    have e19 : I1 19 = I 19 := funext fun b => by rw [hI1, if_neg (by omega)]
    have e20 : I1 20 = I 20 := funext fun b => by rw [hI1, if_neg (by omega)]
    refine gr_aload_n dX4_remember_13 rfl ?_
    refine gr_getR dX4_remember_14 fX4_37 (by first | assumption | rfl) (by omega) (by decide) rfl (by assumption) ?_
    refine gr_aload_n dX4_remember_17 rfl ?_
    refine gr_getI dX4_remember_18 fX4_41 (by first | assumption | rfl) (by omega) (by decide) rfl ?_
    refine gr_pald (i := k) dX4_remember_21 (by first | assumption | rfl) (by omega) (by omega) (by omega) (by decide) (k70 k hk) ?_
    refine gr_aload_n dX4_remember_22 rfl ?_
    refine gr_getR dX4_remember_23 fX4_32 (by first | assumption | rfl) (by omega) (by decide) rfl (by assumption) ?_
    refine gr_virt dX4_remember_26 kX4_86 (as := [_]) rfl rfl (by first | assumption | rfl) (by omega) (Nat.le_of_ble_eq_true rfl) (gw_Rm_m (by omega) (by decide) (by decide)) (c_pbecome (k := pp' k) (o := 19) d q1 hq19 (by omega) (by omega) (by omega) (by rw [e19]; omega) (by rw [e19]; omega)) ?_
    rintro _ _ ⟨rfl, I2, rfl, hI2⟩
    have e52 : I2 0 5 = (k : Int) := by rw [hI2, if_neg (by omega), if_neg (by omega), e5]
    refine gr_aload_n dX4_remember_29 rfl ?_
    refine gr_dup dX4_remember_30 ?_
    refine gr_getI dX4_remember_31 fX4_41 (by first | assumption | rfl) (by omega) (by decide) rfl ?_
    rw [e52]
    refine gr_iconst dX4_remember_34 ?_
    refine gr_iadd dX4_remember_35 rfl ?_
    refine gr_putI dX4_remember_36 fX4_41 (by first | assumption | rfl) (by omega) (Or.inl rfl) rfl ?_
    refine gr_aload_n dX4_remember_39 rfl ?_
    refine gr_iconst dX4_remember_40 ?_
    refine gr_putI dX4_remember_41 fX4_62 (by first | assumption | rfl) (by omega) (Or.inr ⟨rfl, (by omega)⟩) rfl ?_
    refine gr_vret dX4_remember_44 rfl (by decide) (by decide) ?_
    rw [← hQ]
    refine ⟨rfl, _, _, rfl, pp', ⟨k, hor, fun a b => ?_⟩, hK1, hF1⟩
    have h2 := hI2 a b
    rw [e19, show I1 (19 + 1) = I 20 from e20, hI1 a b] at h2
    unfold gw_U
    grind
  refine gw_enter okX4_remember rfl (Nat.le_of_ble_eq_true rfl) ?_
  refine gr_aload_n dX4_remember_0 rfl ?_
  refine gr_getI dX4_remember_1 fX4_41 (by first | assumption | rfl) (by omega) (by decide) rfl ?_
  refine gr_bipush dX4_remember_4 (by decide) ?_
  refine gr_icmp_lt 13 dX4_remember_6 (by decide) (by unfold gw_in; omega) (by unfold gw_in; omega) (fun h6 => ?_) (fun h6 => ?_)
  · obtain ⟨k, hk⟩ : ∃ k : Nat, I 0 5 = (k : Int) := ⟨(I 0 5).toNat, by omega⟩
    exact key k I F pp (by omega) (Or.inl ⟨hk, by omega, rfl⟩) hK (fun _ _ => rfl) (fun a b => by by_cases h : a = 0 ∧ b = 5; rw [if_pos h, h.1, h.2]; exact hk; rw [if_neg h])
  · refine gr_aload_n dX4_remember_9 rfl ?_
    refine gr_virt dX4_remember_10 kX4_205 (as := []) rfl rfl (by first | assumption | rfl) (by omega) (Nat.le_of_ble_eq_true rfl) (gw_Rm_m (by omega) (by decide) (by decide)) (c_forgetOldest d hK) ?_
    rintro _ _ ⟨rfl, I1, F1, rfl, rfl, hF1, hF70⟩
    exact key 9 _ F1 (gc_rot pp) (by omega) (Or.inr ⟨by omega, rfl, rfl⟩) (gc_K_rot hK hF70 hF1) hF1 (fun a b => by unfold gw_U; rfl)
end GC
