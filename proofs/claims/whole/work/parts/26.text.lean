/-! WHAT A TEXT TELLS -/
def gt_fig (x : Int) : Bool := 48 ≤ x ∧ x ≤ 57
/-- behind the blanks -/
def gt_skf (T : Nat → Int) : Nat → Nat → Nat
  | 0, a => a
  | m + 1, a => if T a = 32 then gt_skf T m (a + 1) else a
def gt_sk (T : Nat → Int) (n a : Nat) : Nat := gt_skf T (n - a) a
/-- behind the figures -/
def gt_fef (T : Nat → Int) : Nat → Nat → Nat
  | 0, a => a
  | m + 1, a => if gt_fig (T a) = true then gt_fef T m (a + 1) else a
def gt_fe (T : Nat → Int) (n a : Nat) : Nat := gt_fef T (n - a) a
/-- what the first figures say, two at most -/
def gt_val (T : Nat → Int) (a : Nat) : Nat → Int
  | 0 => 0
  | i + 1 => if i < 2 then gt_val T a i * 10 + (T (a + i) - 48) else gt_val T a i
/-- a number that may stand there: where it ends, and what it says -/
def gt_num (T : Nat → Int) (n : Nat) (lo hi : Int) (at_ : Nat) : Option (Nat × Int) := if gt_sk T n at_ < gt_fe T n (gt_sk T n at_) ∧ gt_fe T n (gt_sk T n at_) ≤ gt_sk T n at_ + 2 ∧ ¬ (gt_sk T n at_ + 1 < gt_fe T n (gt_sk T n at_) ∧ T (gt_sk T n at_) = 48) ∧ lo ≤ gt_val T (gt_sk T n at_) (gt_fe T n (gt_sk T n at_) - gt_sk T n at_) ∧ gt_val T (gt_sk T n at_) (gt_fe T n (gt_sk T n at_) - gt_sk T n at_) ≤ hi then some (gt_fe T n (gt_sk T n at_), gt_val T (gt_sk T n at_) (gt_fe T n (gt_sk T n at_) - gt_sk T n at_)) else none
/-- players, their rows, chords, notes, rest, balance, whether rules were told -/
abbrev gt_S : Type := Nat × (Nat → Nat → Int) × Nat × (Nat → Int) × Int × Int × Bool
def gt_semi (T : Nat → Int) (n e : Nat) : Prop := gt_sk T n e < n ∧ T (gt_sk T n e) = 59
def gt_end (T : Nat → Int) (n e : Nat) (st : gt_S) : Nat ⊕ (Nat × gt_S) := if gt_sk T n e < n ∧ T (gt_sk T n e) = 59 then .inr (gt_sk T n e + 1, st) else .inl (gt_sk T n e)
def gt_add (st : gt_S) (k lo hi wt sp : Int) : gt_S := (st.1 + 1, fun r p => if p = st.1 then (if r = 1 then k else if r = 2 then lo else if r = 3 then hi else if r = 4 then wt else sp) else st.2.1 r p, st.2.2)
def gt_put (st : gt_S) (x y z : Int) : gt_S := (st.1, st.2.1, st.2.2.1 + 1, fun i => if i = 3 * st.2.2.1 then x else if i = 3 * st.2.2.1 + 1 then y else if i = 3 * st.2.2.1 + 2 then z else st.2.2.2.1 i, st.2.2.2.2)
def gt_rul (st : gt_S) (r b : Int) : gt_S := (st.1, st.2.1, st.2.2.1, st.2.2.2.1, r, b, true)
def gt_player (T : Nat → Int) (n : Nat) (st : gt_S) (k : Int) (a : Nat) : Nat ⊕ (Nat × gt_S) :=
  if st.1 = 4 ∨ (k = 1 ∧ gb_bw (st.2.1 1) st.1 = 2) then .inl a else
  match gt_num T n 0 60 (a + 1) with
  | none => .inl (gt_sk T n (a + 1))
  | some (e1, lo) =>
    match gt_num T n lo 60 e1 with
    | none => .inl (gt_sk T n e1)
    | some (e2, hi) =>
      match gt_num T n 2 9 e2 with
      | none => .inl (gt_sk T n e2)
      | some (e3, wt) =>
        if k = 1 then
          match gt_num T n 0 12 e3 with
          | none => .inl (gt_sk T n e3)
          | some (e4, sp) => gt_end T n e4 (gt_add st k lo hi wt sp)
        else gt_end T n e3 (gt_add st k lo hi wt 0)
def gt_chord (T : Nat → Int) (n : Nat) (st : gt_S) (a : Nat) : Nat ⊕ (Nat × gt_S) :=
  if st.2.2.1 = 8 then .inl a else
  match gt_num T n 0 60 (a + 1) with
  | none => .inl (gt_sk T n (a + 1))
  | some (e1, x) =>
    if gt_sk T n e1 < n ∧ T (gt_sk T n e1) = 59 then .inr (gt_sk T n e1 + 1, gt_put st x (-1) (-1)) else
    match gt_num T n (x + 1) 60 e1 with
    | none => .inl (gt_sk T n e1)
    | some (e2, y) =>
      if gt_sk T n e2 < n ∧ T (gt_sk T n e2) = 59 then .inr (gt_sk T n e2 + 1, gt_put st x y (-1)) else
      match gt_num T n (y + 1) 60 e2 with
      | none => .inl (gt_sk T n e2)
      | some (e3, z) => if gt_sk T n e3 < n ∧ T (gt_sk T n e3) = 59 then .inr (gt_sk T n e3 + 1, gt_put st x y z) else .inl (gt_sk T n e3)
def gt_rules (T : Nat → Int) (n : Nat) (st : gt_S) (a : Nat) : Nat ⊕ (Nat × gt_S) :=
  if st.2.2.2.2.2.2 = true then .inl a else
  match gt_num T n 0 20 (a + 1) with
  | none => .inl (gt_sk T n (a + 1))
  | some (e1, r) =>
    match gt_num T n 0 30 e1 with
    | none => .inl (gt_sk T n e1)
    | some (e2, b) => gt_end T n e2 (gt_rul st r b)
def gt_item (T : Nat → Int) (n : Nat) (st : gt_S) (a : Nat) : Nat ⊕ (Nat × gt_S) :=
  if T a = 114 then gt_player T n st 0 a else if T a = 98 then gt_player T n st 1 a else if T a = 103 then gt_player T n st 2 a else if T a = 110 then gt_chord T n st a else if T a = 113 then gt_rules T n st a else .inl a
def gt_loop (T : Nat → Int) (n : Nat) : Nat → Nat → Nat → gt_S → Nat ⊕ (Nat × gt_S)
  | 0, a, _, _ => .inl a
  | m + 1, a, items, st =>
    if n ≤ gt_sk T n a then .inr (items, st) else
    match gt_item T n st (gt_sk T n a) with
    | .inl f => .inl f
    | .inr (e, st') => gt_loop T n m e (items + 1) st'
def gt_S0 : gt_S := (0, fun _ _ => 0, 0, fun _ => 0, 5, 9, false)
/-- what the text of n letters tells: a FAULT's place, or the items and the state -/
def gt_band (T : Nat → Int) (n : Nat) : Nat ⊕ (Nat × gt_S) := gt_loop T n 200 0 0 gt_S0
theorem gt_skf_in (T : Nat → Int) : ∀ m a, a ≤ gt_skf T m a ∧ gt_skf T m a ≤ a + m
  | 0, a => by simp [gt_skf]
  | m + 1, a => by
    have := gt_skf_in T m (a + 1)
    simp only [gt_skf]
    split <;> omega
theorem gt_sk_in {T : Nat → Int} {n a : Nat} (h : a ≤ n) : a ≤ gt_sk T n a ∧ gt_sk T n a ≤ n := by
  have := gt_skf_in T (n - a) a
  unfold gt_sk
  omega
theorem gt_sk_id {T : Nat → Int} {n a : Nat} (h : n ≤ a ∨ T a ≠ 32) : gt_sk T n a = a := by
  unfold gt_sk
  cases hm : n - a with
  | zero => rfl
  | succ m =>
    simp only [gt_skf]
    rw [if_neg (by rcases h with h | h; omega; exact h)]
theorem gt_sk_s {T : Nat → Int} {n a : Nat} (h : a < n) (h2 : T a = 32) : gt_sk T n a = gt_sk T n (a + 1) := by
  unfold gt_sk
  rw [show n - a = (n - (a + 1)) + 1 by omega]
  simp only [gt_skf]
  rw [if_pos h2]
theorem gt_fef_in (T : Nat → Int) : ∀ m a, a ≤ gt_fef T m a ∧ gt_fef T m a ≤ a + m ∧ ∀ i, a ≤ i → i < gt_fef T m a → gt_fig (T i) = true
  | 0, a => by simp only [gt_fef]; exact ⟨Nat.le_refl _, Nat.le_refl _, fun i h1 h2 => absurd h1 (by omega)⟩
  | m + 1, a => by
    have ih := gt_fef_in T m (a + 1)
    simp only [gt_fef]
    split
    · rename_i h
      refine ⟨by omega, by omega, fun i h1 h2 => ?_⟩
      by_cases hi : i = a
      · rw [hi]; exact h
      · exact ih.2.2 i (by omega) h2
    · exact ⟨Nat.le_refl _, by omega, fun i h1 h2 => absurd h1 (by omega)⟩
theorem gt_fe_in {T : Nat → Int} {n a : Nat} (h : a ≤ n) : a ≤ gt_fe T n a ∧ gt_fe T n a ≤ n ∧ ∀ i, a ≤ i → i < gt_fe T n a → gt_fig (T i) = true := by
  have := gt_fef_in T (n - a) a
  unfold gt_fe
  exact ⟨this.1, by omega, this.2.2⟩
theorem gt_fe_id {T : Nat → Int} {n a : Nat} (h : n ≤ a ∨ gt_fig (T a) = false) : gt_fe T n a = a := by
  unfold gt_fe
  cases hm : n - a with
  | zero => rfl
  | succ m =>
    simp only [gt_fef]
    rw [if_neg (by rcases h with h | h; omega; rw [h]; decide)]
theorem gt_fe_s {T : Nat → Int} {n a : Nat} (h : a < n) (h2 : gt_fig (T a) = true) : gt_fe T n a = gt_fe T n (a + 1) := by
  unfold gt_fe
  rw [show n - a = (n - (a + 1)) + 1 by omega]
  simp only [gt_fef]
  rw [if_pos h2]
theorem gt_val_in {T : Nat → Int} {a : Nat} : ∀ m, (∀ i, i < m → gt_fig (T (a + i)) = true) → 0 ≤ gt_val T a m ∧ gt_val T a m ≤ 99 ∧ (m = 0 → gt_val T a m = 0) ∧ (m ≤ 1 → gt_val T a m ≤ 9)
  | 0, _ => by simp [gt_val]
  | m + 1, h => by
    have ih := gt_val_in m (fun i hi => h i (by omega))
    have hm := h m (by omega)
    unfold gt_fig at hm
    have hm := of_decide_eq_true hm
    simp only [gt_val]
    by_cases h2 : m < 2
    · rw [if_pos h2]
      by_cases h0 : m = 0
      · have := ih.2.2.1 h0; omega
      · have := ih.2.2.2 (by omega); omega
    · rw [if_neg h2]; omega
theorem gt_num_in {T : Nat → Int} {n : Nat} {lo hi : Int} {a e : Nat} {v : Int} (h : gt_num T n lo hi a = some (e, v)) (ha : a ≤ n) : gt_sk T n a < e ∧ e ≤ n ∧ lo ≤ v ∧ v ≤ hi ∧ 0 ≤ v ∧ v ≤ 99 ∧ e = gt_fe T n (gt_sk T n a) := by
  unfold gt_num at h
  split at h
  · rename_i hc
    cases h
    have h1 := gt_sk_in (T := T) ha
    have h2 := gt_fe_in (T := T) h1.2
    have h3 := gt_val_in (T := T) (a := gt_sk T n a) (gt_fe T n (gt_sk T n a) - gt_sk T n a) (fun i hi => h2.2.2 _ (by omega) (by omega))
    exact ⟨hc.1, h2.2.1, hc.2.2.2.1, hc.2.2.2.2, h3.1, h3.2.1, rfl⟩
  · cases h
