/-! THE REFERENCE: all codes, and those that are spreads -/
def gs_qs (f : Nat → Nat → Bool) : Nat → Nat → Bool
  | 0, _ => true
  | n + 1, k => gs_qs f n (k / 8) && f n (k % 8)
theorem gs_rg (m : Nat) : List.range (8 * m) = (List.range m).flatMap (fun k => (List.range 8).map (fun h => 8 * k + h)) := by
  induction m with
  | zero => rfl
  | succ m ih =>
    rw [Nat.mul_succ, List.range_add, ih, List.range_succ (n := m), List.flatMap_append, List.flatMap_cons, List.flatMap_nil, List.append_nil]
theorem gs_fm {α β : Type} (l : List α) (q : α → Bool) (g : α → List β) : (l.filter q).flatMap g = l.flatMap (fun a => if q a = true then g a else []) := by
  induction l with
  | nil => rfl
  | cons a l ih =>
    rw [List.filter_cons, List.flatMap_cons]
    by_cases h : q a = true
    · rw [if_pos h, if_pos h, List.flatMap_cons, ih]
    · rw [if_neg h, if_neg h, ih]; rfl
theorem gs_ff {α β : Type} (l : List α) (q : β → Bool) (g : α → List β) : (l.flatMap g).filter q = l.flatMap (fun a => (g a).filter q) := by
  induction l with
  | nil => rfl
  | cons a l ih => rw [List.flatMap_cons, List.filter_append, ih, List.flatMap_cons]
theorem gs_sp_f (f : Nat → Nat → Bool) (h7 : ∀ p, f p 7 = false) : ∀ n, gs_sp (fun p => (List.range 7).filter (f p)) n = (List.range (8 ^ n)).filter (gs_qs f n)
  | 0 => rfl
  | n + 1 => by
    show (gs_sp (fun p => (List.range 7).filter (f p)) n).flatMap _ = _
    rw [gs_sp_f f h7 n, gs_fm, Nat.pow_succ, Nat.mul_comm, gs_rg, gs_ff]
    refine congrArg (fun g => (List.range (8 ^ n)).flatMap g) (funext fun k => ?_)
    rw [List.filter_map]
    have e : (List.range 8).filter (gs_qs f (n + 1) ∘ fun h => 8 * k + h) = if gs_qs f n k = true then (List.range 7).filter (f n) else [] := by
      have e1 : (List.range 8).filter (gs_qs f (n + 1) ∘ fun h => 8 * k + h) = (List.range 8).filter (fun h => gs_qs f n k && f n h) := by
        apply List.filter_congr
        intro h hh
        have hh := List.mem_range.mp hh
        show gs_qs f (n + 1) (8 * k + h) = _
        simp only [gs_qs]
        rw [show (8 * k + h) / 8 = k by omega, show (8 * k + h) % 8 = h by omega]
      rw [e1]
      cases hq : gs_qs f n k with
      | false => rw [if_neg (by decide)]; exact List.filter_eq_nil_iff.mpr (fun a _ => by simp)
      | true =>
        rw [if_pos rfl, show List.range 8 = List.range 7 ++ [7] from rfl, List.filter_append]
        have : [7].filter (fun h => true && f n h) = [] := by rw [List.filter_cons_of_neg (by rw [h7]; decide)]; rfl
        rw [this, List.append_nil]
        exact List.filter_congr (fun h _ => by simp)
    rw [e]
    split
    · rfl
    · rfl
def gm_ok (P : Nat) (B : Nat → Nat → Int) (N : Nat → Int) (set c k : Nat) : Bool := gs_ok P B N set 0 c (gs_hd k 0) && gs_ok P B N set 1 c (gs_hd k 1) && gs_ok P B N set 2 c (gs_hd k 2) && gs_ok P B N set 3 c (gs_hd k 3)
/-- the even spreads of a chord -/
abbrev gm_L (P : Nat) (B : Nat → Nat → Int) (N : Nat → Int) (set : Nat) (bal : Int) (c : Nat) : List Nat := (gs_SP P B N set c).filter (gs_ev B (gp_cnt N c) bal)
theorem gs_hd4 {k : Nat} (hk : k < 4096) : gs_hd k 0 = k / 8 / 8 / 8 % 8 ∧ gs_hd k 1 = k / 8 / 8 % 8 ∧ gs_hd k 2 = k / 8 % 8 ∧ gs_hd k 3 = k % 8 := by
  refine ⟨?_, ?_, ?_, ?_⟩
  · unfold gs_hd; show k / 512 % 8 = _; omega
  · unfold gs_hd; show k / 64 % 8 = _; omega
  · unfold gs_hd; show k / 8 % 8 = _; omega
  · unfold gs_hd; show k / 1 % 8 = _; omega
theorem gm_SP (P : Nat) (B : Nat → Nat → Int) (N : Nat → Int) (set c : Nat) : gs_SP P B N set c = (List.range 4096).filter (gm_ok P B N set c) := by
  have h7 : ∀ p, gs_ok P B N set p c 7 = false := by
    intro p
    unfold gs_ok gb_man
    simp only [decide_eq_false_iff_not, decide_eq_true_eq]
    rintro (h | ⟨-, -, -, h⟩)
    · omega
    · rcases h with h | ⟨h, -⟩
      · revert h; decide
      · revert h; rw [show gb_pc 7 = 3 from rfl]; split <;> omega
  have := gs_sp_f (fun p => gs_ok P B N set p c) h7 4
  show gs_sp (gs_ch P B N set c) 4 = _
  have e : gs_ch P B N set c = fun p => (List.range 7).filter (gs_ok P B N set p c) := rfl
  rw [e, this]
  apply List.filter_congr
  intro k hk
  have hk := List.mem_range.mp hk
  obtain ⟨a0, a1, a2, a3⟩ := gs_hd4 (k := k) hk
  unfold gm_ok
  simp only [gs_qs]
  rw [a0, a1, a2, a3, Bool.true_and]
theorem gm_L_f (P : Nat) (B : Nat → Nat → Int) (N : Nat → Int) (set : Nat) (bal : Int) (c : Nat) : gm_L P B N set bal c = (List.range 4096).filter (fun k => gm_ok P B N set c k && gs_ev B (gp_cnt N c) bal k) := by
  show (gs_SP P B N set c).filter _ = _
  rw [gm_SP, List.filter_filter]
  exact List.filter_congr (fun k _ => Bool.and_comm _ _)
theorem gm_mem {P : Nat} {B : Nat → Nat → Int} {N : Nat → Int} {set c k : Nat} (h : k ∈ gs_SP P B N set c) : k < 4096 ∧ (∀ p, p < 4 → gs_hd k p < 2 ^ gp_cnt N c) ∧ ∀ p, P ≤ p → p < 4 → gs_hd k p = 0 := by
  rw [gm_SP] at h
  obtain ⟨h1, h2⟩ := List.mem_filter.mp h
  unfold gm_ok at h2
  simp only [Bool.and_eq_true] at h2
  obtain ⟨⟨⟨a0, a1⟩, a2⟩, a3⟩ := h2
  have key : ∀ p, gs_ok P B N set p c (gs_hd k p) = true → gs_hd k p < 2 ^ gp_cnt N c ∧ (P ≤ p → gs_hd k p = 0) := by
    intro p hp
    unfold gs_ok at hp
    rcases of_decide_eq_true hp with h | ⟨q1, q2, q3, q4⟩
    · rw [h]; exact ⟨Nat.two_pow_pos _, fun _ => rfl⟩
    · exact ⟨q3, fun h => by omega⟩
  have all : ∀ p, p < 4 → gs_hd k p < 2 ^ gp_cnt N c ∧ (P ≤ p → gs_hd k p = 0) := by
    intro p hp
    rcases (show p = 0 ∨ p = 1 ∨ p = 2 ∨ p = 3 by omega) with rfl | rfl | rfl | rfl
    · exact key 0 a0
    · exact key 1 a1
    · exact key 2 a2
    · exact key 3 a3
  exact ⟨List.mem_range.mp h1, fun p hp => (all p hp).1, fun p h hp => (all p hp).2 h⟩
/-- who plays none at the end adds nothing -/
theorem gs_lw_P {B : Nat → Nat → Int} {k i w P : Nat} (hP : P ≤ 4) (h0 : ∀ p, P ≤ p → p < 4 → gs_hd k p = 0) : gs_lw B k i w 4 = gs_lw B k i w P := by
  have : ∀ m, P + m ≤ 4 → gs_lw B k i w (P + m) = gs_lw B k i w P := by
    intro m
    induction m with
    | zero => intro _; rfl
    | succ m ih =>
      intro hm
      rw [show P + (m + 1) = (P + m) + 1 by omega]
      simp only [gs_lw]
      rw [ih (by omega), h0 (P + m) (by omega) (by omega), if_neg (fun h => by have := h.2; simp at this), Int.add_zero]
  have := this (4 - P) (by omega)
  rwa [show P + (4 - P) = 4 by omega] at this
/-- all that is played -/
def gm_pl (k : Nat) : Nat → Nat
  | 0 => 0
  | p + 1 => gm_pl k p ||| gs_hd k p
theorem gm_pl_bit (k i : Nat) : ∀ p, (gm_pl k p).testBit i = true ↔ ∃ q, q < p ∧ (gs_hd k q).testBit i = true
  | 0 => by simp [gm_pl]
  | p + 1 => by
    simp only [gm_pl, Nat.testBit_or, Bool.or_eq_true, gm_pl_bit k i p]
    constructor
    · rintro (⟨q, h1, h2⟩ | h)
      · exact ⟨q, by omega, h2⟩
      · exact ⟨p, by omega, h⟩
    · rintro ⟨q, h1, h2⟩
      by_cases hq : q = p
      · subst hq; exact Or.inr h2
      · exact Or.inl ⟨q, by omega, h2⟩
theorem gm_pl_lt {k n : Nat} : ∀ p, (∀ q, q < p → gs_hd k q < 2 ^ n) → gm_pl k p < 2 ^ n
  | 0, _ => Nat.two_pow_pos _
  | p + 1, h => Nat.or_lt_two_pow (gm_pl_lt p (fun q hq => h q (by omega))) (h p (by omega))
theorem gm_tb (h i : Nat) : h.testBit i = true ↔ h / 2 ^ i % 2 = 1 := by
  rw [Nat.testBit_eq_decide_div_mod_eq, decide_eq_true_eq]
/-- a note is loud where somebody plays it -/
theorem gm_lw_pos {B : Nat → Nat → Int} {k i P : Nat} (hB : ∀ p, p < P → 2 ≤ B 4 p) (hP : P ≤ 4) : ∀ p, p ≤ P → (0 < gs_lw B k i 4 p ↔ (gm_pl k p).testBit i = true) ∧ 0 ≤ gs_lw B k i 4 p
  | 0, _ => by simp [gs_lw, gm_pl]
  | p + 1, hp => by
    obtain ⟨ih1, ih2⟩ := gm_lw_pos (k := k) (i := i) hB hP p (by omega)
    have hw := hB p (by omega)
    have hs : 1 ≤ gb_str B 0 p (gs_hd k p) := by
      unfold gb_str
      simp only [Nat.zero_add]
      split <;> omega
    simp only [gs_lw, gm_pl, Nat.testBit_or, Bool.or_eq_true, ← ih1, gm_tb (gs_hd k p)]
    by_cases h : gs_hd k p / 2 ^ i % 2 = 1
    · rw [if_pos ⟨by omega, h⟩]
      exact ⟨⟨fun _ => Or.inr h, fun _ => by omega⟩, by omega⟩
    · rw [if_neg (fun q => h q.2), Int.add_zero]
      exact ⟨⟨Or.inl, fun q => q.elim id (fun q => absurd q h)⟩, ih2⟩
theorem gs_mi_0 {l : Nat → Int} : ∀ {n : Nat}, (∀ i, i < n → 0 ≤ l i) → (gs_mi l n = 0 ↔ ∃ i, i < n ∧ l i = 0) ∧ 0 ≤ gs_mi l n := by
  intro n
  induction n with
  | zero => intro _; simp [gs_mi, gs_NEVER]
  | succ n ih =>
    intro h
    obtain ⟨h1, h2⟩ := ih (fun i hi => h i (by omega))
    have h3 := h n (by omega)
    simp only [gs_mi]
    by_cases hl : l n < gs_mi l n
    · rw [if_pos hl]
      refine ⟨⟨fun q => ⟨n, by omega, q⟩, fun ⟨i, q1, q2⟩ => ?_⟩, h3⟩
      by_cases hi : i = n
      · rw [← hi]; exact q2
      · have := h1.mpr ⟨i, by omega, q2⟩; omega
    · rw [if_neg hl]
      refine ⟨⟨fun q => ?_, fun ⟨i, q1, q2⟩ => ?_⟩, h2⟩
      · obtain ⟨i, q1, q2⟩ := h1.mp q
        exact ⟨i, by omega, q2⟩
      · by_cases hi : i = n
        · subst hi; omega
        · exact h1.mpr ⟨i, by omega, q2⟩
/-- the least loud, begun far off -/
def gm_mi (l : Nat → Int) : Nat → Int
  | 0 => 1000000
  | n + 1 => if l n < gm_mi l n then l n else gm_mi l n
theorem gm_mi_e {l : Nat → Int} : ∀ {n : Nat}, (∀ i, i < n → l i ≤ 36) → (n = 0 ∨ gm_mi l n ≤ 36 ∧ gm_mi l n = gs_mi l n) := by
  intro n
  induction n with
  | zero => intro _; exact Or.inl rfl
  | succ n ih =>
    intro h
    have h3 := h n (by omega)
    refine Or.inr ?_
    simp only [gm_mi, gs_mi]
    rcases ih (fun i hi => h i (by omega)) with h1 | ⟨h1, h2⟩
    · subst h1
      show (if l 0 < 1000000 then l 0 else 1000000) ≤ 36 ∧ (if l 0 < 1000000 then l 0 else 1000000) = if l 0 < 67108864 then l 0 else 67108864
      rw [if_pos (by omega), if_pos (by omega)]; exact ⟨h3, rfl⟩
    · rw [h2] at h1 ⊢
      exact ⟨by split <;> omega, rfl⟩
/-- isEven: what the reference asks -/
def gm_ev (P : Nat) (B : Nat → Nat → Int) (n : Nat) (bal : Int) (k : Nat) : Bool := gm_pl k P = 2 ^ n - 1 ∧ gs_mx (fun i => gs_lw B k i 4 P) n - gm_mi (fun i => gs_lw B k i 4 P) n ≤ bal
theorem gm_ev_gp {P : Nat} {B : Nat → Nat → Int} {n : Nat} {bal : Int} {k : Nat} (hP : P ≤ 4) (hB : gs_B B) (h2 : ∀ p, p < P → 2 ≤ B 4 p) (hn : 1 ≤ n ∧ n ≤ 3) (hb : bal ≤ 30) (hk : ∀ p, p < P → gs_hd k p < 2 ^ n) : gm_ev P B n bal k = decide (gs_gp (fun i => gs_lw B k i 4 P) n ≤ bal) := by
  have hl := fun i => gm_lw_pos (k := k) (i := i) h2 hP P (Nat.le_refl _)
  have h36 := fun i => gs_lw_in (k := k) (i := i) (w := 4) hB P hP
  have hm := (gm_mi_e (l := fun i => gs_lw B k i 4 P) (n := n) (fun i _ => by have := (h36 i).2; omega)).resolve_left (by omega)
  have h0 := gs_mi_0 (l := fun i => gs_lw B k i 4 P) (n := n) (fun i _ => (h36 i).1)
  have hpl := gm_pl_lt (k := k) (n := n) P hk
  have full : gm_pl k P = 2 ^ n - 1 ↔ ∀ i, i < n → (gm_pl k P).testBit i = true := by
    constructor
    · intro h i hi
      rw [h, Nat.testBit_two_pow_sub_one]
      simp [hi]
    · intro h
      apply Nat.eq_of_testBit_eq
      intro i
      rw [Nat.testBit_two_pow_sub_one]
      by_cases hi : i < n
      · rw [h i hi]; simp [hi]
      · rw [Nat.testBit_lt_two_pow (Nat.lt_of_lt_of_le hpl (Nat.pow_le_pow_right (by omega) (by omega)))]; simp [hi]
  unfold gm_ev gs_gp
  rw [hm.2]
  by_cases hz : gs_mi (fun i => gs_lw B k i 4 P) n = 0
  · rw [if_pos hz]
    obtain ⟨i, q1, q2⟩ := h0.1.mp hz
    have : ¬ gm_pl k P = 2 ^ n - 1 := fun h => by
      have a := (hl i).1.mpr (full.mp h i q1)
      have q2 : gs_lw B k i 4 P = 0 := q2
      omega
    simp only [this, false_and]
    unfold gs_NEVER
    simp only [decide_eq_decide, false_iff]
    omega
  · rw [if_neg hz]
    have : gm_pl k P = 2 ^ n - 1 := full.mpr (fun i hi => (hl i).1.mp (by
      have a := (h36 i).1
      have b : ¬ gs_lw B k i 4 P = 0 := fun q => hz (h0.1.mpr ⟨i, hi, q⟩)
      omega))
    simp only [this, true_and]
theorem gm_ev_e {P : Nat} {B : Nat → Nat → Int} {N : Nat → Int} {c : Nat} {bal : Int} {k : Nat} (hP : P ≤ 4) (hB : gs_B B) (h2 : ∀ p, p < P → 2 ≤ B 4 p) (hn : 1 ≤ gp_cnt N c) (hb : bal ≤ 30) (hk : k < 4096) (hh : ∀ p, p < 4 → gs_hd k p < 2 ^ gp_cnt N c) (h0 : ∀ p, P ≤ p → p < 4 → gs_hd k p = 0) : gm_ev P B (gp_cnt N c) bal k = gs_ev B (gp_cnt N c) bal k := by
  rw [gm_ev_gp hP hB h2 ⟨hn, gp_cnt_le N c⟩ hb (fun p hp => hh p (by omega))]
  unfold gs_ev gs_gap
  have : (fun i => gs_lw B k i 4 P) = (fun i => gs_ld B i 4 k) := funext fun i => by rw [← gs_lw_P hP h0, gs_lw_ld hk]
  rw [this]
