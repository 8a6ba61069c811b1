/-! WHAT IS ASKED: scores -/
/-- player p's hand in a code -/
def gs_hd (k p : Nat) : Nat := k / 8 ^ (3 - p) % 8
def gs_tot (B : Nat → Nat → Int) (N : Nat → Int) (rest : Int) (c k c' k' : Nat) : Int := gs_way B N rest 0 c (gs_hd k 0) c' (gs_hd k' 0) + gs_way B N rest 1 c (gs_hd k 1) c' (gs_hd k' 1) + gs_way B N rest 2 c (gs_hd k 2) c' (gs_hd k' 2) + gs_way B N rest 3 c (gs_hd k 3) c' (gs_hd k' 3)
def gs_can (B : Nat → Nat → Int) (N : Nat → Int) (rest : Int) (c k c' k' : Nat) : Bool := gs_way B N rest 0 c (gs_hd k 0) c' (gs_hd k' 0) < gs_NEVER ∧ gs_way B N rest 1 c (gs_hd k 1) c' (gs_hd k' 1) < gs_NEVER ∧ gs_way B N rest 2 c (gs_hd k 2) c' (gs_hd k' 2) < gs_NEVER ∧ gs_way B N rest 3 c (gs_hd k 3) c' (gs_hd k' 3) < gs_NEVER
theorem gs_tot_comm {B : Nat → Nat → Int} {N : Nat → Int} {rest : Int} {c k c' k' : Nat} : gs_tot B N rest c k c' k' = gs_tot B N rest c' k' c k := by
  unfold gs_tot
  rw [gs_way_comm, gs_way_comm (p := 1), gs_way_comm (p := 2), gs_way_comm (p := 3)]
theorem gs_can_comm {B : Nat → Nat → Int} {N : Nat → Int} {rest : Int} {c k c' k' : Nat} : gs_can B N rest c k c' k' = gs_can B N rest c' k' c k := by
  unfold gs_can
  rw [gs_way_comm, gs_way_comm (p := 1), gs_way_comm (p := 2), gs_way_comm (p := 3)]
theorem gs_tot_in {B : Nat → Nat → Int} {N : Nat → Int} {rest : Int} {c k c' k' : Nat} (hN : gp_N N) (hc : c < 8) (hc' : c' < 8) (hr : 0 ≤ rest ∧ rest ≤ 20) : 0 ≤ gs_tot B N rest c k c' k' ∧ gs_tot B N rest c k c' k' ≤ 4 * gs_NEVER ∧ (gs_can B N rest c k c' k' = true → gs_tot B N rest c k c' k' ≤ 252) ∧ (gs_can B N rest c k c' k' = false → gs_NEVER ≤ gs_tot B N rest c k c' k') := by
  have w := fun p => gs_way_in (B := B) (N := N) (rest := rest) (p := p) (c := c) (h := gs_hd k p) (c' := c') (h' := gs_hd k' p) hN hc hc' hr
  have w0 := w 0
  have w1 := w 1
  have w2 := w 2
  have w3 := w 3
  unfold gs_tot gs_can
  unfold gs_NEVER at *
  simp only [decide_eq_true_eq, decide_eq_false_iff_not]
  omega
/-- codes and places -/
theorem gs_code {f : Nat → List Nat} {x0 x1 x2 x3 : Nat} (h0 : x0 < (f 0).length) (h1 : x1 < (f 1).length) (h2 : x2 < (f 2).length) (h3 : x3 < (f 3).length) : ((x0 * (f 1).length + x1) * (f 2).length + x2) * (f 3).length + x3 < (gs_sp f 4).length ∧ (gs_sp f 4).getD (((x0 * (f 1).length + x1) * (f 2).length + x2) * (f 3).length + x3) 0 = 8 * (8 * (8 * (f 0).getD x0 0 + (f 1).getD x1 0) + (f 2).getD x2 0) + (f 3).getD x3 0 := by
  have l1 : (gs_sp f 1).length = (f 0).length := by rw [gs_len]; exact Nat.one_mul _
  have l2 : (gs_sp f 2).length = (f 0).length * (f 1).length := by rw [gs_len, l1]
  have l3 : (gs_sp f 3).length = (f 0).length * (f 1).length * (f 2).length := by rw [gs_len, l2]
  have l4 : (gs_sp f 4).length = (f 0).length * (f 1).length * (f 2).length * (f 3).length := by rw [gs_len, l3]
  have b1 := h0
  have b2 := gs_mix h0 h1
  have b3 := gs_mix b2 h2
  have b4 := gs_mix b3 h3
  have dv : ∀ a b n : Nat, b < n → (a * n + b) / n = a ∧ (a * n + b) % n = b := fun a b n hb => ⟨by rw [Nat.mul_comm, Nat.mul_add_div (by omega), Nat.div_eq_of_lt hb, Nat.add_zero], by rw [Nat.mul_comm, Nat.mul_add_mod, Nat.mod_eq_of_lt hb]⟩
  refine ⟨by rw [l4]; exact b4, ?_⟩
  rw [gs_get f 3 _ (by rw [l4]; exact b4), (dv _ _ _ h3).1, (dv _ _ _ h3).2, gs_get f 2 _ (by rw [l3]; exact b3), (dv _ _ _ h2).1, (dv _ _ _ h2).2, gs_get f 1 _ (by rw [l2]; exact b2), (dv _ _ _ h1).1, (dv _ _ _ h1).2, gs_get f 0 _ (by rw [l1]; exact b1)]
  have e0 : x0 / (f 0).length = 0 := Nat.div_eq_of_lt h0
  have e1 : x0 % (f 0).length = x0 := Nat.mod_eq_of_lt h0
  rw [e0, e1]
  show 8 * (8 * (8 * (8 * 0 + _) + _) + _) + _ = _
  rw [Nat.mul_zero, Nat.zero_add]
theorem gs_uncode {f : Nat → List Nat} {t : Nat} (h : t < (gs_sp f 4).length) : ∃ x0 x1 x2 x3, x0 < (f 0).length ∧ x1 < (f 1).length ∧ x2 < (f 2).length ∧ x3 < (f 3).length ∧ t = ((x0 * (f 1).length + x1) * (f 2).length + x2) * (f 3).length + x3 := by
  have l1 : (gs_sp f 1).length = (f 0).length := by rw [gs_len]; exact Nat.one_mul _
  rw [gs_len, gs_len, gs_len, l1] at h
  have st : ∀ t a n : Nat, t < a * n → t / n < a ∧ t % n < n ∧ t = t / n * n + t % n := fun t a n ht => by
    have hn : 0 < n := by
      rcases Nat.eq_zero_or_pos n with h0 | h0
      · rw [h0, Nat.mul_zero] at ht; omega
      · exact h0
    exact ⟨(Nat.div_lt_iff_lt_mul hn).mpr ht, Nat.mod_lt _ hn, by rw [Nat.mul_comm]; exact (Nat.div_add_mod t n).symm⟩
  obtain ⟨a1, a2, a3⟩ := st _ _ _ h
  obtain ⟨b1, b2, b3⟩ := st _ _ _ a1
  obtain ⟨c1, c2, c3⟩ := st _ _ _ b1
  exact ⟨_, _, _, _, c1, c2, b2, a2, by rw [← c3, ← b3, ← a3]⟩
theorem gs_hd_code {a b c d : Nat} (hb : b < 8) (hc : c < 8) (hd : d < 8) (ha : a < 8) : gs_hd (8 * (8 * (8 * a + b) + c) + d) 0 = a ∧ gs_hd (8 * (8 * (8 * a + b) + c) + d) 1 = b ∧ gs_hd (8 * (8 * (8 * a + b) + c) + d) 2 = c ∧ gs_hd (8 * (8 * (8 * a + b) + c) + d) 3 = d := by
  unfold gs_hd
  refine ⟨?_, ?_, ?_, ?_⟩
  · show _ / 512 % 8 = _; omega
  · show _ / 64 % 8 = _; omega
  · show _ / 8 % 8 = _; omega
  · show _ / 1 % 8 = _; omega
section SC
variable (P : Nat) (B : Nat → Nat → Int) (N : Nat → Int) (rest : Int) (set : Nat) (bal : Int)
/-- k is an even spread of chord c -/
abbrev gs_EV (c k : Nat) : Bool := gs_ev B (gp_cnt N c) bal k
/-- from spread k of chord c the m chords behind it can be played for at most b -/
def gs_pay : Nat → Nat → Nat → Int → Bool
  | 0, _, _, b => 0 ≤ b
  | m + 1, c, k, b => (gs_SP P B N set (c + 1)).any (fun k' => gs_EV B N bal (c + 1) k' && (gs_can B N rest c k (c + 1) k' && gs_pay m (c + 1) k' (b - gs_tot B N rest c k (c + 1) k')))
theorem gs_pay_s {m c k : Nat} {b : Int} : gs_pay P B N rest set bal (m + 1) c k b = true ↔ ∃ k', k' ∈ gs_SP P B N set (c + 1) ∧ gs_EV B N bal (c + 1) k' = true ∧ gs_can B N rest c k (c + 1) k' = true ∧ gs_pay P B N rest set bal m (c + 1) k' (b - gs_tot B N rest c k (c + 1) k') = true := by
  simp only [gs_pay, List.any_eq_true, Bool.and_eq_true]
theorem gs_pay_mono {m : Nat} : ∀ {c k : Nat} {b b' : Int}, b ≤ b' → gs_pay P B N rest set bal m c k b = true → gs_pay P B N rest set bal m c k b' = true := by
  induction m with
  | zero => intro c k b b' h; simp only [gs_pay, decide_eq_true_eq]; omega
  | succ m ih =>
    intro c k b b' h hp
    obtain ⟨k', h1, h2, h3, h4⟩ := (gs_pay_s P B N rest set bal).mp hp
    exact (gs_pay_s P B N rest set bal).mpr ⟨k', h1, h2, h3, ih (by omega) h4⟩
theorem gs_pay_nn (hN : gp_N N) (hr : 0 ≤ rest ∧ rest ≤ 20) {m : Nat} : ∀ {c k : Nat} {b : Int}, c + m < 8 → gs_pay P B N rest set bal m c k b = true → 0 ≤ b := by
  induction m with
  | zero => intro c k b _; simp only [gs_pay, decide_eq_true_eq]; exact id
  | succ m ih =>
    intro c k b hc hp
    obtain ⟨k', h1, h2, h3, h4⟩ := (gs_pay_s P B N rest set bal).mp hp
    have := ih (by omega) h4
    have := (gs_tot_in (B := B) (N := N) (rest := rest) (c := c) (k := k) (c' := c + 1) (k' := k') hN (by omega) (by omega) hr).1
    omega
/-- what can be paid can be paid by 252 a chord -/
theorem gs_pay_bd (hN : gp_N N) (hr : 0 ≤ rest ∧ rest ≤ 20) {m : Nat} : ∀ {c k : Nat} {b : Int}, c + m < 8 → gs_pay P B N rest set bal m c k b = true → gs_pay P B N rest set bal m c k (252 * m) = true := by
  induction m with
  | zero => intro c k b _ _; simp [gs_pay]
  | succ m ih =>
    intro c k b hc hp
    obtain ⟨k', h1, h2, h3, h4⟩ := (gs_pay_s P B N rest set bal).mp hp
    have h5 := ih (by omega) h4
    have h6 := (gs_tot_in (B := B) (N := N) (rest := rest) (c := c) (k := k) (c' := c + 1) (k' := k') hN (by omega) (by omega) hr).2.2.1 h3
    exact (gs_pay_s P B N rest set bal).mpr ⟨k', h1, h2, h3, gs_pay_mono P B N rest set bal (by omega) h5⟩
/-- the cost of THE SCORE of S chords; none: there is none -/
def gs_cost (S : Nat) : Option Nat := if S = 0 then some 0 else (List.range 2000).find? (fun b => (gs_SP P B N set 0).any (fun k => gs_EV B N bal 0 k && gs_pay P B N rest set bal (S - 1) 0 k (b : Int)))
/-- its spreads one after the other, and what is left to pay behind each -/
def gs_K (S L : Nat) : Nat → Nat × Int
  | 0 => (((gs_SP P B N set 0).find? (fun k => gs_EV B N bal 0 k && gs_pay P B N rest set bal (S - 1) 0 k (L : Int))).getD 0, (L : Int))
  | c + 1 =>
    let q := gs_K S L c
    let k := ((gs_SP P B N set (c + 1)).find? (fun k => gs_EV B N bal (c + 1) k && (gs_can B N rest c q.1 (c + 1) k && gs_pay P B N rest set bal (S - 1 - (c + 1)) (c + 1) k (q.2 - gs_tot B N rest c q.1 (c + 1) k)))).getD 0
    (k, q.2 - gs_tot B N rest c q.1 (c + 1) k)
/-- by balance bal the first n chords have a score -/
def gs_fea (n : Nat) : Bool := n = 0 ∨ (gs_SP P B N set 0).any (fun k => gs_EV B N bal 0 k && gs_pay P B N rest set bal (n - 1) 0 k 2000) = true
/-- the first chords up to c can be played so that c has spread k -/
def gs_fwd : Nat → Nat → Bool
  | 0, k => gs_EV B N bal 0 k
  | c + 1, k => gs_EV B N bal (c + 1) k && (gs_SP P B N set c).any (fun k' => gs_fwd c k' && gs_can B N rest c k' (c + 1) k)
theorem gs_fwd_s {c k : Nat} : gs_fwd P B N rest set bal (c + 1) k = true ↔ gs_EV B N bal (c + 1) k = true ∧ ∃ k', k' ∈ gs_SP P B N set c ∧ gs_fwd P B N rest set bal c k' = true ∧ gs_can B N rest c k' (c + 1) k = true := by
  simp only [gs_fwd, Bool.and_eq_true, List.any_eq_true]
/-- forwards and backwards are one -/
theorem gs_fb (hN : gp_N N) (hr : 0 ≤ rest ∧ rest ≤ 20) (n : Nat) (hn : n < 8) : (∃ k, k ∈ gs_SP P B N set n ∧ gs_fwd P B N rest set bal n k = true) ↔ gs_fea P B N rest set bal (n + 1) = true := by
  have key : ∀ m c, c + m = n → ((∃ k, k ∈ gs_SP P B N set n ∧ gs_fwd P B N rest set bal n k = true) ↔ ∃ k, k ∈ gs_SP P B N set c ∧ gs_fwd P B N rest set bal c k = true ∧ gs_pay P B N rest set bal m c k 2000 = true) := by
    intro m
    induction m with
    | zero =>
      intro c hc
      rw [show c = n by omega]
      simp [gs_pay]
    | succ m ih =>
      intro c hc
      rw [ih (c + 1) (by omega)]
      constructor
      · rintro ⟨k, h1, h2, h3⟩
        obtain ⟨h4, k', h5, h6, h7⟩ := (gs_fwd_s P B N rest set bal).mp h2
        refine ⟨k', h5, h6, (gs_pay_s P B N rest set bal).mpr ⟨k, h1, h4, h7, ?_⟩⟩
        have h8 := gs_pay_bd P B N rest set bal hN hr (by omega) h3
        have h9 := (gs_tot_in (B := B) (N := N) (rest := rest) (c := c) (k := k') (c' := c + 1) (k' := k) hN (by omega) (by omega) hr).2.2.1 h7
        exact gs_pay_mono P B N rest set bal (by omega) h8
      · rintro ⟨k, h1, h2, h3⟩
        obtain ⟨k', h4, h5, h6, h7⟩ := (gs_pay_s P B N rest set bal).mp h3
        have h8 := gs_pay_bd P B N rest set bal hN hr (by omega) h7
        exact ⟨k', h4, (gs_fwd_s P B N rest set bal).mpr ⟨h5, k, h1, h2, h6⟩, gs_pay_mono P B N rest set bal (by omega) h8⟩
  rw [key n 0 (by omega)]
  unfold gs_fea
  simp [gs_fwd]
end SC
