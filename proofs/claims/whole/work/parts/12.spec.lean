/-! WHAT IS ASKED, without a machine: hands, spreads, gaps -/
/-- codes of spreads: eight to the number of players; player p's choices are f p -/
def gs_sp (f : Nat → List Nat) : Nat → List Nat
  | 0 => [0]
  | p + 1 => (gs_sp f p).flatMap (fun k => (f p).map (fun h => 8 * k + h))
theorem gs_flat {α β : Type} (g : α → List β) (n : Nat) (hg : ∀ a, (g a).length = n) : ∀ (l : List α) (s j : Nat), j < n → (l.flatMap g)[n * s + j]? = (l[s]?).bind (fun a => (g a)[j]?)
  | [], s, j, _ => by simp
  | a :: l, 0, j, hj => by
    rw [List.flatMap_cons, Nat.mul_zero, Nat.zero_add, List.getElem?_append_left (by rw [hg]; exact hj)]
    rfl
  | a :: l, s + 1, j, hj => by
    rw [List.flatMap_cons, List.getElem?_append_right (by rw [hg, Nat.mul_add]; omega), hg, show n * (s + 1) + j - n = n * s + j by rw [Nat.mul_add]; omega, gs_flat g n hg l s j hj]
    rfl
theorem gs_flat_len {α β : Type} (g : α → List β) (n : Nat) (hg : ∀ a, (g a).length = n) : ∀ l : List α, (l.flatMap g).length = l.length * n
  | [] => by simp
  | a :: l => by rw [List.flatMap_cons, List.length_append, hg, gs_flat_len g n hg l, List.length_cons, Nat.add_mul]; omega
theorem gs_len (f : Nat → List Nat) (p : Nat) : (gs_sp f (p + 1)).length = (gs_sp f p).length * (f p).length := gs_flat_len _ _ (fun a => by rw [List.length_map]) _
theorem gs_get (f : Nat → List Nat) (p t : Nat) (h : t < (gs_sp f (p + 1)).length) : (gs_sp f (p + 1)).getD t 0 = 8 * (gs_sp f p).getD (t / (f p).length) 0 + (f p).getD (t % (f p).length) 0 := by
  rw [gs_len] at h
  have hn : 0 < (f p).length := by
    rcases Nat.eq_zero_or_pos (f p).length with h0 | h0
    · rw [h0, Nat.mul_zero] at h; omega
    · exact h0
  have h1 : t % (f p).length < (f p).length := Nat.mod_lt _ hn
  have h2 : t / (f p).length < (gs_sp f p).length := (Nat.div_lt_iff_lt_mul hn).mpr h
  have e := gs_flat (fun k => (f p).map (fun h => 8 * k + h)) (f p).length (fun a => by rw [List.length_map]) (gs_sp f p) (t / (f p).length) (t % (f p).length) h1
  rw [Nat.div_add_mod] at e
  rw [List.getD_eq_getElem?_getD, List.getD_eq_getElem?_getD, List.getD_eq_getElem?_getD]
  show ((gs_sp f p).flatMap (fun k => (f p).map (fun h => 8 * k + h)))[t]?.getD 0 = _
  rw [e, List.getElem?_eq_getElem h2, Option.bind_some, List.getElem?_map, List.getElem?_eq_getElem h1]
  rfl
/-- loudness of a hand packed; of a code -/
def gs_pl (B : Nat → Nat → Int) (p h : Nat) : Int := (if h % 2 = 1 then gb_str B 0 p h else 0) + (if h / 2 % 2 = 1 then gb_str B 0 p h * 256 else 0) + (if h / 4 % 2 = 1 then gb_str B 0 p h * 65536 else 0)
def gs_pk (B : Nat → Nat → Int) : Nat → Nat → Int
  | 0, _ => 0
  | p + 1, k => gs_pk B p (k / 8) + gs_pl B p (k % 8)
/-- loudness of note i of a code of p players -/
def gs_ld (B : Nat → Nat → Int) (i : Nat) : Nat → Nat → Int
  | 0, _ => 0
  | p + 1, k => gs_ld B i p (k / 8) + (if k % 8 / 2 ^ i % 2 = 1 then gb_str B 0 p (k % 8) else 0)
theorem gs_pk_ld (B : Nat → Nat → Int) : ∀ p k : Nat, gs_pk B p k = gs_ld B 0 p k + 256 * gs_ld B 1 p k + 65536 * gs_ld B 2 p k
  | 0, _ => by simp [gs_pk, gs_ld]
  | p + 1, k => by
    simp only [gs_pk, gs_ld, gs_pk_ld B p (k / 8), gs_pl, Nat.pow_zero, Nat.div_one, Nat.pow_one, show 2 ^ 2 = 4 from rfl]
    grind
/-- the players' rows hold what they may -/
def gs_B (B : Nat → Nat → Int) : Prop := ∀ p, p < 4 → 0 ≤ B 1 p ∧ B 1 p ≤ 2 ∧ 0 ≤ B 2 p ∧ B 2 p ≤ 60 ∧ 0 ≤ B 3 p ∧ B 3 p ≤ 60 ∧ 0 ≤ B 4 p ∧ B 4 p ≤ 9 ∧ 0 ≤ B 5 p ∧ B 5 p ≤ 12
theorem gs_str_in {B : Nat → Nat → Int} {p h : Nat} (hB : gs_B B) (hp : p < 4) : 0 ≤ gb_str B 0 p h ∧ gb_str B 0 p h ≤ 9 := by
  have := hB p hp
  unfold gb_str
  simp only [Nat.zero_add]
  split <;> omega
theorem gs_ld_in {B : Nat → Nat → Int} (hB : gs_B B) (i : Nat) : ∀ p k : Nat, p ≤ 4 → 0 ≤ gs_ld B i p k ∧ gs_ld B i p k ≤ 9 * p
  | 0, _, _ => by simp [gs_ld]
  | p + 1, k, hp => by
    have h1 := gs_ld_in hB i p (k / 8) (by omega)
    have h2 := gs_str_in (h := k % 8) hB (show p < 4 by omega)
    simp only [gs_ld]
    split <;> omega
/-- the loudest, the least loud of the first n; the gap -/
abbrev gs_NEVER : Int := 67108864
def gs_mx (l : Nat → Int) : Nat → Int
  | 0 => 0
  | n + 1 => if gs_mx l n < l n then l n else gs_mx l n
def gs_mi (l : Nat → Int) : Nat → Int
  | 0 => gs_NEVER
  | n + 1 => if l n < gs_mi l n then l n else gs_mi l n
def gs_gp (l : Nat → Int) (n : Nat) : Int := if gs_mi l n = 0 then gs_NEVER else gs_mx l n - gs_mi l n
theorem gs_mx_in {l : Nat → Int} {n m : Nat} (h : ∀ i, i < n → 0 ≤ l i ∧ l i ≤ (m : Int)) : 0 ≤ gs_mx l n ∧ gs_mx l n ≤ (m : Int) := by
  induction n with
  | zero => simp [gs_mx]
  | succ n ih =>
    have h1 := ih (fun i hi => h i (by omega))
    have h2 := h n (by omega)
    simp only [gs_mx]
    split <;> omega
theorem gs_mi_in {l : Nat → Int} {n m : Nat} (h : ∀ i, i < n → 0 ≤ l i ∧ l i ≤ (m : Int)) : 0 ≤ gs_mi l n ∧ gs_mi l n ≤ gs_NEVER := by
  induction n with
  | zero => simp [gs_mi, gs_NEVER]
  | succ n ih =>
    have h1 := ih (fun i hi => h i (by omega))
    have h2 := h n (by omega)
    simp only [gs_mi]
    split <;> omega
/-- the gap of code k in a chord of n notes -/
def gs_gap (B : Nat → Nat → Int) (n k : Nat) : Int := gs_gp (fun i => gs_ld B i 4 k) n
/-- whether player p of P may have hand h in chord c, in a set of players -/
def gs_ok (P : Nat) (B : Nat → Nat → Int) (N : Nat → Int) (set p c h : Nat) : Bool := h = 0 ∨ (p < P ∧ set / 2 ^ p % 2 = 1 ∧ h < 2 ^ gp_cnt N c ∧ gb_man B 0 N p c h = true)
def gs_ch (P : Nat) (B : Nat → Nat → Int) (N : Nat → Int) (set c p : Nat) : List Nat := (List.range 7).filter (gs_ok P B N set p c)
/-- the spreads' codes of chord c, rising -/
abbrev gs_SP (P : Nat) (B : Nat → Nat → Int) (N : Nat → Int) (set c : Nat) : List Nat := gs_sp (gs_ch P B N set c) 4
theorem gs_ch_lt {P : Nat} {B : Nat → Nat → Int} {N : Nat → Int} {set c p h : Nat} (hh : h ∈ gs_ch P B N set c p) : h < 7 := List.mem_range.mp (List.mem_filter.mp hh).1
theorem gs_ch_len7 {P : Nat} {B : Nat → Nat → Int} {N : Nat → Int} {set c p : Nat} : (gs_ch P B N set c p).length ≤ 7 := by
  have := List.length_filter_le (gs_ok P B N set p c) (List.range 7)
  rw [List.length_range] at this
  exact this
theorem gs_ch_pos {P : Nat} {B : Nat → Nat → Int} {N : Nat → Int} {set c p : Nat} : 0 < (gs_ch P B N set c p).length := by
  have : 0 ∈ gs_ch P B N set c p := List.mem_filter.mpr ⟨List.mem_range.mpr (by omega), by simp [gs_ok]⟩
  exact List.length_pos_of_mem this
/-- of one that is no bow at most 4 -/
theorem gs_ch_len4 {P : Nat} {B : Nat → Nat → Int} {N : Nat → Int} {set c p : Nat} (hk : B 1 p ≠ 1) : (gs_ch P B N set c p).length ≤ 4 := by
  have e : ∀ h, h < 7 → gs_ok P B N set p c h = true → h ∈ [0, 1, 2, 4] := by
    intro h hh hok
    have h3 : h ≠ 3 := by
      rintro rfl
      simp [gs_ok, gb_man, gb_pc, hk] at hok
    have h5 : h ≠ 5 := by
      rintro rfl
      simp [gs_ok, gb_man, gb_pc, hk] at hok
    have h6 : h ≠ 6 := by
      rintro rfl
      simp [gs_ok, gb_man, gb_pc, hk] at hok
    simp only [List.mem_cons, List.not_mem_nil, or_false]
    omega
  have h1 : (gs_ch P B N set c p) = ((List.range 7).filter (fun h => decide (h ∈ [0, 1, 2, 4]))).filter (gs_ok P B N set p c) := by
    unfold gs_ch
    rw [List.filter_filter]
    apply List.filter_congr
    intro h hh
    cases hz : gs_ok P B N set p c h with
    | false => rfl
    | true => simp [e h (List.mem_range.mp hh) hz]
  rw [h1]
  refine Nat.le_trans (List.length_filter_le _ _) ?_
  decide
/-- at most 784 spreads, if there are at most two bows among the players -/
theorem gs_SP_len {P : Nat} {B : Nat → Nat → Int} {N : Nat → Int} {set c : Nat} (hP : P ≤ 4) (hbw : gb_bw (B 1) P ≤ 2) : (gs_SP P B N set c).length ≤ 784 := by
  have l1 : ∀ p, P ≤ p → (gs_ch P B N set c p).length = 1 := by
    intro p hp
    have : gs_ch P B N set c p = (List.range 7).filter (fun h => decide (h = 0)) := by
      unfold gs_ch
      apply List.filter_congr
      intro h _
      simp [gs_ok, show ¬ p < P by omega]
    rw [this]
    decide
  have hl : ∀ p, (gs_ch P B N set c p).length ≤ (if p < P ∧ B 1 p = 1 then 7 else 4) := by
    intro p
    by_cases hp : p < P
    · by_cases hk : B 1 p = 1
      · rw [if_pos ⟨hp, hk⟩]; exact gs_ch_len7
      · rw [if_neg (fun h => hk h.2)]; exact gs_ch_len4 hk
    · rw [if_neg (fun h => hp h.1), l1 p (by omega)]; omega
  rw [show gs_SP P B N set c = gs_sp (gs_ch P B N set c) 4 from rfl, gs_len, gs_len, gs_len, gs_len]
  show 1 * _ * _ * _ * _ ≤ 784
  rw [Nat.one_mul]
  have h0 := hl 0
  have h1 := hl 1
  have h2 := hl 2
  have h3 := hl 3
  refine Nat.le_trans (Nat.mul_le_mul (Nat.mul_le_mul (Nat.mul_le_mul h0 h1) h2) h3) ?_
  have hsum : (if 0 < P ∧ B 1 0 = 1 then (1 : Int) else 0) + (if 1 < P ∧ B 1 1 = 1 then 1 else 0) + (if 2 < P ∧ B 1 2 = 1 then 1 else 0) + (if 3 < P ∧ B 1 3 = 1 then 1 else 0) ≤ 2 := by
    refine Int.le_trans (Int.le_of_eq ?_) hbw
    rcases (show P = 0 ∨ P = 1 ∨ P = 2 ∨ P = 3 ∨ P = 4 by omega) with rfl | rfl | rfl | rfl | rfl <;> simp [gb_bw]
  revert hsum
  by_cases a0 : 0 < P ∧ B 1 0 = 1 <;> by_cases a1 : 1 < P ∧ B 1 1 = 1 <;> by_cases a2 : 2 < P ∧ B 1 2 = 1 <;> by_cases a3 : 3 < P ∧ B 1 3 = 1 <;> simp only [a0, a1, a2, a3, if_true, if_false, and_self] <;> intro h <;> revert h <;> decide
