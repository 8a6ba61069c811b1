/-! Piece: chords, who is in, rest, balance -/
/-- k is the place of a Piece, k + 1 that of its notes -/
def gp_K (F : Nat → Nat → Option Nat) (k : Nat) : Prop := gw_sh k = (1, 5) ∧ gw_sh (k + 1) = (10, 24) ∧ k + 1 < 114 ∧ F k 4 = some (k + 1)
/-- notes: -1 .. 60 -/
def gp_N (N : Nat → Int) : Prop := ∀ i, i < 24 → -1 ≤ N i ∧ N i ≤ 60
abbrev gw_pu (r : Int) (μ : gw_M) : Option gw_V → gw_M → Prop := fun v μ' => v = some (.inl r) ∧ μ' = μ
/-- a void call: the ints become so -/
abbrev gw_vo (F : Nat → Nat → Option Nat) (Q : (Nat → Nat → Int) → Prop) : Option gw_V → gw_M → Prop := fun v μ' => v = none ∧ ∃ I' : Nat → Nat → Int, μ' = (114, I', F) ∧ Q I'
/-- a call that answers an int -/
abbrev gw_io (F : Nat → Nat → Option Nat) (Q : Int → (Nat → Nat → Int) → Prop) : Option gw_V → gw_M → Prop := fun v μ' => ∃ (r : Int) (I' : Nat → Nat → Int), v = some (.inl r) ∧ μ' = (114, I', F) ∧ Q r I'
/-- how many notes a chord has -/
def gp_cnt (N : Nat → Int) (c : Nat) : Nat := if N (3 * c + 0) = -1 then 0 else if N (3 * c + 1) = -1 then 1 else if N (3 * c + 2) = -1 then 2 else 3
/-- the lowest, the highest note of a hand (0 .. 7) -/
def gp_lo (N : Nat → Int) (c h : Nat) : Int := if h % 2 = 1 then N (3 * c + 0) else if h / 2 % 2 = 1 then N (3 * c + 1) else if h / 4 % 2 = 1 then N (3 * c + 2) else -1
def gp_hi (N : Nat → Int) (c h : Nat) : Int := if h / 4 % 2 = 1 then N (3 * c + 2) else if h / 2 % 2 = 1 then N (3 * c + 1) else if h % 2 = 1 then N (3 * c + 0) else -1
theorem ga_bit {h i : Nat} (hh : h < 2147483648) (hi : i < 32) : Int32.ofInt (h : Int) >>> (Int32.ofInt (i : Int) &&& 31) = Int32.ofInt ((h / 2 ^ i : Nat) : Int) := ga_shrN hh hi
theorem ga_bit1 (x : Nat) : Int32.ofInt (x : Int) &&& Int32.ofInt 1 = Int32.ofInt ((x % 2 : Nat) : Int) := by
  have h := ga_andN x 1
  rw [Nat.and_one_is_mod] at h
  exact h
section GP
variable {I : Nat → Nat → Int} {F : Nat → Nat → Option Nat} {k : Nat}
theorem c_noteAt {c i : Nat} (d : Nat) (hk : gp_K F k) (hc : c < 8) (hi : i < 3) : gw_Met jX1_noteAt d [.inr (some k), .inl (c : Int), .inl (i : Int)] (114, I, F) (gw_pu (I (k + 1) (3 * c + i)) (114, I, F)) := by
  obtain ⟨hk1, hk2, hk3, hk4⟩ := hk
  refine gw_enter okX1_noteAt rfl (Nat.le_of_ble_eq_true rfl) ?_
  refine gr_aload_n dX1_noteAt_0 rfl ?_
  refine gr_getR dX1_noteAt_1 fX1_24 (by first | assumption | rfl) (by omega) (by decide) rfl (by assumption) ?_
  refine gr_iload_n dX1_noteAt_4 rfl ?_
  refine gr_iconst dX1_noteAt_5 ?_
  refine gr_imul dX1_noteAt_6 rfl ?_
  refine gr_iload_n dX1_noteAt_7 rfl ?_
  refine gr_iadd dX1_noteAt_8 rfl ?_
  refine gr_iald (i := 3 * c + i) dX1_noteAt_9 (by first | assumption | rfl) (by omega) (by omega) (by omega) (by decide) ?_
  refine gr_iret dX1_noteAt_10 (by first | exact Or.inl rfl | exact Or.inr ⟨rfl, by omega⟩) (by decide) (by decide) (⟨rfl, rfl⟩)
theorem c_notesOf {c : Nat} (d : Nat) (hk : gp_K F k) (hc : c < 8) (hN : gp_N (I (k + 1))) : gw_Met jX1_notesOf (d + 1) [.inr (some k), .inl (c : Int)] (114, I, F) (gw_pu (gp_cnt (I (k + 1)) c : Nat) (114, I, F)) := by
  have hk' := hk
  obtain ⟨hk1, hk2, hk3, hk4⟩ := hk
  refine gw_enter okX1_notesOf rfl (Nat.le_of_ble_eq_true rfl) ?_
  refine gr_iconst dX1_notesOf_0 ?_
  refine gr_istore_n dX1_notesOf_1 (by decide) ?_
  have key : ∀ (n i : Nat), i + n = 3 → (∀ j, j < i → I (k + 1) (3 * c + j) ≠ -1) → gw_G (gw_Cm jX1_notesOf (d + 1) (gw_pu (gp_cnt (I (k + 1)) c : Nat) (114, I, F))) jX1_notesOf 2 [some (.inr (some k)), some (.inl (c : Int)), some (.inl (i : Int))] [] (114, I, F) 0 0 := by
    intro n
    induction n with
    | zero =>
      intro i hi hj
      refine gr_iload_n dX1_notesOf_2 rfl ?_
      refine gr_iconst dX1_notesOf_3 ?_
      refine gr_icmp_ge 23 dX1_notesOf_4 (by decide) (by unfold gw_in; omega) (by unfold gw_in; omega) (fun h => ?_) (fun h => ?_)
      · refine gr_iload_n dX1_notesOf_23 rfl ?_
        have e : gp_cnt (I (k + 1)) c = i := by
          unfold gp_cnt
          rw [if_neg (hj 0 (by omega)), if_neg (hj 1 (by omega)), if_neg (hj 2 (by omega))]
          omega
        refine gr_iret dX1_notesOf_24 (by first | exact Or.inl rfl | exact Or.inr ⟨rfl, by omega⟩) (by decide) (by decide) (⟨by rw [e], rfl⟩)
      · omega
    | succ n ih =>
      intro i hi hj
      refine gr_iload_n dX1_notesOf_2 rfl ?_
      refine gr_iconst dX1_notesOf_3 ?_
      refine gr_icmp_ge 23 dX1_notesOf_4 (by decide) (by unfold gw_in; omega) (by unfold gw_in; omega) (fun h => ?_) (fun h => ?_)
      · omega
      · refine gr_aload_n dX1_notesOf_7 rfl ?_
        refine gr_iload_n dX1_notesOf_8 rfl ?_
        refine gr_iload_n dX1_notesOf_9 rfl ?_
        refine gr_virt dX1_notesOf_10 kX1_28 (as := [_, _]) rfl rfl (by first | assumption | rfl) (by omega) (Nat.le_of_ble_eq_true rfl) (gw_Rm_m (by omega) (by decide) (by decide)) (c_noteAt d hk' hc (show i < 3 by omega)) ?_
        rintro _ _ ⟨rfl, rfl⟩
        refine gr_iconst dX1_notesOf_13 ?_
        have hin := hN (3 * c + i) (by omega)
        refine gr_icmp_eq 23 dX1_notesOf_14 (by decide) (by unfold gw_in; omega) (by unfold gw_in; omega) (fun h14 => ?_) (fun h14 => ?_)
        · refine gr_iload_n dX1_notesOf_23 rfl ?_
          have e : gp_cnt (I (k + 1)) c = i := by
            unfold gp_cnt
            rcases (show i = 0 ∨ i = 1 ∨ i = 2 by omega) with rfl | rfl | rfl
            · rw [if_pos h14]
            · rw [if_neg (hj 0 (by omega)), if_pos h14]
            · rw [if_neg (hj 0 (by omega)), if_neg (hj 1 (by omega)), if_pos h14]
          refine gr_iret dX1_notesOf_24 (by first | exact Or.inl rfl | exact Or.inr ⟨rfl, by omega⟩) (by decide) (by decide) (⟨by rw [e], rfl⟩)
        · refine gr_iinc (v := ((i + 1 : Nat) : Int)) dX1_notesOf_17 (by decide) rfl (by omega) ?_
          refine gr_goto 2 dX1_notesOf_20 (by decide) ?_
          exact ih (i + 1) (by omega) (fun j hj2 => by
            rcases Nat.lt_succ_iff_lt_or_eq.mp hj2 with h | h
            · exact hj j h
            · rw [h]; exact h14)
  exact key 3 0 rfl (fun j hj => absurd hj (by omega))
theorem c_isThat {c : Nat} {x y z : Int} (d : Nat) (hk : gp_K F k) (hc : c < 8) (hN : gp_N (I (k + 1))) (hx : gw_in x) (hy : gw_in y) (hz : gw_in z) : gw_Met jX1_isThat (d + 1) [.inr (some k), .inl (c : Int), .inl x, .inl y, .inl z] (114, I, F) (gw_pu (if I (k + 1) (3 * c + 0) = x ∧ I (k + 1) (3 * c + 1) = y ∧ I (k + 1) (3 * c + 2) = z then 1 else 0) (114, I, F)) := by
  have hk' := hk
  obtain ⟨hk1, hk2, hk3, hk4⟩ := hk
  unfold gw_in at hx hy hz
  have h0 := hN (3 * c + 0) (by omega)
  have h1 := hN (3 * c + 1) (by omega)
  have h2 := hN (3 * c + 2) (by omega)
  refine gw_enter okX1_isThat rfl (Nat.le_of_ble_eq_true rfl) ?_
  refine gr_aload_n dX1_isThat_0 rfl ?_
  refine gr_iload_n dX1_isThat_1 rfl ?_
  refine gr_iconst dX1_isThat_2 ?_
  refine gr_virt dX1_isThat_3 kX1_28 (as := [_, _]) rfl rfl (by first | assumption | rfl) (by omega) (Nat.le_of_ble_eq_true rfl) (gw_Rm_m (by omega) (by decide) (by decide)) (c_noteAt (i := 0) d hk' hc (by omega)) ?_
  rintro _ _ ⟨rfl, rfl⟩
  refine gr_iload_n dX1_isThat_6 rfl ?_
  refine gr_icmp_ne 35 dX1_isThat_7 (by decide) (by unfold gw_in; omega) (by unfold gw_in; omega) (fun a => ?_) (fun a => ?_)
  · refine gr_iconst dX1_isThat_35 ?_
    refine gr_iret dX1_isThat_36 (by first | exact Or.inl rfl | exact Or.inr ⟨rfl, by omega⟩) (by decide) (by decide) (⟨by rw [if_neg (fun h => a h.1)], rfl⟩)
  · refine gr_aload_n dX1_isThat_10 rfl ?_
    refine gr_iload_n dX1_isThat_11 rfl ?_
    refine gr_iconst dX1_isThat_12 ?_
    refine gr_virt dX1_isThat_13 kX1_28 (as := [_, _]) rfl rfl (by first | assumption | rfl) (by omega) (Nat.le_of_ble_eq_true rfl) (gw_Rm_m (by omega) (by decide) (by decide)) (c_noteAt (i := 1) d hk' hc (by omega)) ?_
    rintro _ _ ⟨rfl, rfl⟩
    refine gr_iload_n dX1_isThat_16 rfl ?_
    refine gr_icmp_ne 35 dX1_isThat_17 (by decide) (by unfold gw_in; omega) (by unfold gw_in; omega) (fun b => ?_) (fun b => ?_)
    · refine gr_iconst dX1_isThat_35 ?_
      refine gr_iret dX1_isThat_36 (by first | exact Or.inl rfl | exact Or.inr ⟨rfl, by omega⟩) (by decide) (by decide) (⟨by rw [if_neg (fun h => b h.2.1)], rfl⟩)
    · refine gr_aload_n dX1_isThat_20 rfl ?_
      refine gr_iload_n dX1_isThat_21 rfl ?_
      refine gr_iconst dX1_isThat_22 ?_
      refine gr_virt dX1_isThat_23 kX1_28 (as := [_, _]) rfl rfl (by first | assumption | rfl) (by omega) (Nat.le_of_ble_eq_true rfl) (gw_Rm_m (by omega) (by decide) (by decide)) (c_noteAt (i := 2) d hk' hc (by omega)) ?_
      rintro _ _ ⟨rfl, rfl⟩
      refine gr_iload dX1_isThat_26 rfl ?_
      refine gr_icmp_ne 35 dX1_isThat_28 (by decide) (by unfold gw_in; omega) (by unfold gw_in; omega) (fun c => ?_) (fun c => ?_)
      · refine gr_iconst dX1_isThat_35 ?_
        refine gr_iret dX1_isThat_36 (by first | exact Or.inl rfl | exact Or.inr ⟨rfl, by omega⟩) (by decide) (by decide) (⟨by rw [if_neg (fun h => c h.2.2)], rfl⟩)
      · refine gr_iconst dX1_isThat_31 ?_
        refine gr_goto 36 dX1_isThat_32 (by decide) ?_
        refine gr_iret dX1_isThat_36 (by first | exact Or.inl rfl | exact Or.inr ⟨rfl, by omega⟩) (by decide) (by decide) (⟨by rw [if_pos ⟨a, b, c⟩], rfl⟩)
theorem c_lowestOf {c h : Nat} (d : Nat) (hk : gp_K F k) (hc : c < 8) (hh : h < 8) : gw_Met jX1_lowestOf (d + 1) [.inr (some k), .inl (c : Int), .inl (h : Int)] (114, I, F) (gw_pu (gp_lo (I (k + 1)) c h) (114, I, F)) := by
  have hk' := hk
  obtain ⟨hk1, hk2, hk3, hk4⟩ := hk
  refine gw_enter okX1_lowestOf rfl (Nat.le_of_ble_eq_true rfl) ?_
  refine gr_iconst dX1_lowestOf_0 ?_
  refine gr_istore_n dX1_lowestOf_1 (by decide) ?_
  have key : ∀ (n i : Nat), i + n = 3 → (∀ j, j < i → h / 2 ^ j % 2 ≠ 1) → gw_G (gw_Cm jX1_lowestOf (d + 1) (gw_pu (gp_lo (I (k + 1)) c h) (114, I, F))) jX1_lowestOf 2 [some (.inr (some k)), some (.inl (c : Int)), some (.inl (h : Int)), some (.inl (i : Int))] [] (114, I, F) 0 0 := by
    intro n
    induction n with
    | zero =>
      intro i hi hj
      have h0 := hj 0 (by omega)
      have h1 := hj 1 (by omega)
      have h2 := hj 2 (by omega)
      refine gr_iload_n dX1_lowestOf_2 rfl ?_
      refine gr_iconst dX1_lowestOf_3 ?_
      refine gr_icmp_ge 33 dX1_lowestOf_4 (by decide) (by unfold gw_in; omega) (by unfold gw_in; omega) (fun h4 => ?_) (fun h4 => ?_)
      · refine gr_iconst dX1_lowestOf_33 ?_
        refine gr_iret dX1_lowestOf_34 (by first | exact Or.inl rfl | exact Or.inr ⟨rfl, by omega⟩) (by decide) (by decide) (⟨by unfold gp_lo; grind, rfl⟩)
      · omega
    | succ n ih =>
      intro i hi hj
      refine gr_iload_n dX1_lowestOf_2 rfl ?_
      refine gr_iconst dX1_lowestOf_3 ?_
      refine gr_icmp_ge 33 dX1_lowestOf_4 (by decide) (by unfold gw_in; omega) (by unfold gw_in; omega) (fun h4 => ?_) (fun h4 => ?_)
      · omega
      · refine gr_iload_n dX1_lowestOf_7 rfl ?_
        refine gr_iload_n dX1_lowestOf_8 rfl ?_
        refine gr_ishr (v := ((h / 2 ^ i : Nat) : Int)) dX1_lowestOf_9 (ga_bit (by omega) (by omega)) ?_
        refine gr_iconst dX1_lowestOf_10 ?_
        refine gr_iand (v := ((h / 2 ^ i % 2 : Nat) : Int)) dX1_lowestOf_11 (ga_bit1 _) ?_
        refine gr_iconst dX1_lowestOf_12 ?_
        refine gr_icmp_ne 27 dX1_lowestOf_13 (by decide) (by unfold gw_in; omega) (by unfold gw_in; omega) (fun h13 => ?_) (fun h13 => ?_)
        · refine gr_iinc (v := ((i + 1 : Nat) : Int)) dX1_lowestOf_27 (by decide) rfl (by omega) ?_
          refine gr_goto 2 dX1_lowestOf_30 (by decide) ?_
          exact ih (i + 1) (by omega) (fun j hj2 => by
            rcases Nat.lt_succ_iff_lt_or_eq.mp hj2 with h | h
            · exact hj j h
            · subst h; omega)
        · refine gr_aload_n dX1_lowestOf_16 rfl ?_
          refine gr_getR dX1_lowestOf_17 fX1_24 (by first | assumption | rfl) (by omega) (by decide) rfl (by assumption) ?_
          refine gr_iload_n dX1_lowestOf_20 rfl ?_
          refine gr_iconst dX1_lowestOf_21 ?_
          refine gr_imul dX1_lowestOf_22 rfl ?_
          refine gr_iload_n dX1_lowestOf_23 rfl ?_
          refine gr_iadd dX1_lowestOf_24 rfl ?_
          refine gr_iald (i := 3 * c + i) dX1_lowestOf_25 (by first | assumption | rfl) (by omega) (by omega) (by omega) (by decide) ?_
          have e : gp_lo (I (k + 1)) c h = I (k + 1) (3 * c + i) := by
            unfold gp_lo
            rcases (show i = 0 ∨ i = 1 ∨ i = 2 by omega) with rfl | rfl | rfl
            · grind
            · have h0 := hj 0 (by omega)
              grind
            · have h0 := hj 0 (by omega)
              have h1 := hj 1 (by omega)
              grind
          refine gr_iret dX1_lowestOf_26 (by first | exact Or.inl rfl | exact Or.inr ⟨rfl, by omega⟩) (by decide) (by decide) (⟨by rw [e], rfl⟩)
  exact key 3 0 rfl (fun j hj => absurd hj (by omega))
theorem c_highestOf {c h : Nat} (d : Nat) (hk : gp_K F k) (hc : c < 8) (hh : h < 8) : gw_Met jX1_highestOf (d + 1) [.inr (some k), .inl (c : Int), .inl (h : Int)] (114, I, F) (gw_pu (gp_hi (I (k + 1)) c h) (114, I, F)) := by
  have hk' := hk
  obtain ⟨hk1, hk2, hk3, hk4⟩ := hk
  refine gw_enter okX1_highestOf rfl (Nat.le_of_ble_eq_true rfl) ?_
  refine gr_iconst dX1_highestOf_0 ?_
  refine gr_istore_n dX1_highestOf_1 (by decide) ?_
  have key : ∀ (n : Nat), n ≤ 3 → (∀ j, n ≤ j → j < 3 → h / 2 ^ j % 2 ≠ 1) → gw_G (gw_Cm jX1_highestOf (d + 1) (gw_pu (gp_hi (I (k + 1)) c h) (114, I, F))) jX1_highestOf 2 [some (.inr (some k)), some (.inl (c : Int)), some (.inl (h : Int)), some (.inl ((n : Int) - 1))] [] (114, I, F) 0 0 := by
    intro n
    induction n with
    | zero =>
      intro hi hj
      have h0 := hj 0 (by omega) (by omega)
      have h1 := hj 1 (by omega) (by omega)
      have h2 := hj 2 (by omega) (by omega)
      refine gr_iload_n dX1_highestOf_2 rfl ?_
      refine gr_if_lt 32 dX1_highestOf_3 (by decide) (by unfold gw_in; omega) (fun h3 => ?_) (fun h3 => ?_)
      · refine gr_iconst dX1_highestOf_32 ?_
        refine gr_iret dX1_highestOf_33 (by first | exact Or.inl rfl | exact Or.inr ⟨rfl, by omega⟩) (by decide) (by decide) (⟨by unfold gp_hi; grind, rfl⟩)
      · omega
    | succ n ih =>
      intro hi hj
      have e1 : ((n + 1 : Nat) : Int) - 1 = (n : Int) := by omega
      rw [e1]
      refine gr_iload_n dX1_highestOf_2 rfl ?_
      refine gr_if_lt 32 dX1_highestOf_3 (by decide) (by unfold gw_in; omega) (fun h3 => ?_) (fun h3 => ?_)
      · omega
      · refine gr_iload_n dX1_highestOf_6 rfl ?_
        refine gr_iload_n dX1_highestOf_7 rfl ?_
        refine gr_ishr (v := ((h / 2 ^ n : Nat) : Int)) dX1_highestOf_8 (ga_bit (by omega) (by omega)) ?_
        refine gr_iconst dX1_highestOf_9 ?_
        refine gr_iand (v := ((h / 2 ^ n % 2 : Nat) : Int)) dX1_highestOf_10 (ga_bit1 _) ?_
        refine gr_iconst dX1_highestOf_11 ?_
        refine gr_icmp_ne 26 dX1_highestOf_12 (by decide) (by unfold gw_in; omega) (by unfold gw_in; omega) (fun h12 => ?_) (fun h12 => ?_)
        · refine gr_iinc (v := (n : Int) - 1) dX1_highestOf_26 (by decide) rfl (by omega) ?_
          refine gr_goto 2 dX1_highestOf_29 (by decide) ?_
          exact ih (by omega) (fun j hj1 hj2 => by
            by_cases h : j = n
            · subst h; omega
            · exact hj j (by omega) hj2)
        · refine gr_aload_n dX1_highestOf_15 rfl ?_
          refine gr_getR dX1_highestOf_16 fX1_24 (by first | assumption | rfl) (by omega) (by decide) rfl (by assumption) ?_
          refine gr_iload_n dX1_highestOf_19 rfl ?_
          refine gr_iconst dX1_highestOf_20 ?_
          refine gr_imul dX1_highestOf_21 rfl ?_
          refine gr_iload_n dX1_highestOf_22 rfl ?_
          refine gr_iadd dX1_highestOf_23 rfl ?_
          refine gr_iald (i := 3 * c + n) dX1_highestOf_24 (by first | assumption | rfl) (by omega) (by omega) (by omega) (by decide) ?_
          have e : gp_hi (I (k + 1)) c h = I (k + 1) (3 * c + n) := by
            unfold gp_hi
            rcases (show n = 0 ∨ n = 1 ∨ n = 2 by omega) with rfl | rfl | rfl
            · have h2 := hj 2 (by omega) (by omega)
              have h1 := hj 1 (by omega) (by omega)
              grind
            · have h2 := hj 2 (by omega) (by omega)
              grind
            · grind
          refine gr_iret dX1_highestOf_25 (by first | exact Or.inl rfl | exact Or.inr ⟨rfl, by omega⟩) (by decide) (by decide) (⟨by rw [e], rfl⟩)
  exact key 3 (by omega) (fun j hj hj2 => absurd hj (by omega))
theorem c_pempty (d : Nat) (hk : gp_K F k) : gw_Met jX1_empty d [.inr (some k)] (114, I, F) (gw_vo F (fun I' => I' = gw_U (gw_U (gw_U (gw_U I k 0 0) k 1 0) k 2 5) k 3 9)) := by
  obtain ⟨hk1, hk2, hk3, hk4⟩ := hk
  refine gw_enter okX1_empty rfl (Nat.le_of_ble_eq_true rfl) ?_
  refine gr_aload_n dX1_empty_0 rfl ?_
  refine gr_iconst dX1_empty_1 ?_
  refine gr_putI dX1_empty_2 fX1_9 (by first | assumption | rfl) (by omega) (Or.inl rfl) rfl ?_
  refine gr_aload_n dX1_empty_5 rfl ?_
  refine gr_iconst dX1_empty_6 ?_
  refine gr_putI dX1_empty_7 fX1_15 (by first | assumption | rfl) (by omega) (Or.inl rfl) rfl ?_
  refine gr_aload_n dX1_empty_10 rfl ?_
  refine gr_iconst dX1_empty_11 ?_
  refine gr_putI dX1_empty_12 fX1_18 (by first | assumption | rfl) (by omega) (Or.inl rfl) rfl ?_
  refine gr_aload_n dX1_empty_15 rfl ?_
  refine gr_bipush dX1_empty_16 (by decide) ?_
  refine gr_putI dX1_empty_18 fX1_21 (by first | assumption | rfl) (by omega) (Or.inl rfl) rfl ?_
  refine gr_vret dX1_empty_21 rfl (by decide) (by decide) (⟨rfl, _, rfl, rfl⟩)
theorem c_put {c : Nat} {x y z : Int} (d : Nat) (hk : gp_K F k) (hc : c < 8) (hs : (c : Int) ≤ I k 0) (hs8 : I k 0 ≤ 8) : gw_Met jX1_put d [.inr (some k), .inl (c : Int), .inl x, .inl y, .inl z] (114, I, F) (gw_vo F (fun I' => ∀ a b, I' a b = if a = k ∧ b = 0 then (if (c : Int) = I k 0 then I k 0 + 1 else I k 0) else if a = k + 1 ∧ b = 3 * c then x else if a = k + 1 ∧ b = 3 * c + 1 then y else if a = k + 1 ∧ b = 3 * c + 2 then z else I a b)) := by
  obtain ⟨hk1, hk2, hk3, hk4⟩ := hk
  refine gw_enter okX1_put rfl (Nat.le_of_ble_eq_true rfl) ?_
  refine gr_iload_n dX1_put_0 rfl ?_
  refine gr_if_lt 18 dX1_put_1 (by decide) (by unfold gw_in; omega) (fun h1 => ?_) (fun h1 => ?_)
  · omega
  · refine gr_iload_n dX1_put_4 rfl ?_
    refine gr_aload_n dX1_put_5 rfl ?_
    refine gr_getI dX1_put_6 fX1_9 (by first | assumption | rfl) (by omega) (by decide) rfl ?_
    refine gr_icmp_gt 18 dX1_put_9 (by decide) (by unfold gw_in; omega) (by unfold gw_in; omega) (fun h9 => ?_) (fun h9 => ?_)
    · omega
    · refine gr_iload_n dX1_put_12 rfl ?_
      refine gr_bipush dX1_put_13 (by decide) ?_
      refine gr_icmp_lt 19 dX1_put_15 (by decide) (by unfold gw_in; omega) (by unfold gw_in; omega) (fun h15 => ?_) (fun h15 => ?_)
      · refine gr_aload_n dX1_put_19 rfl ?_
        refine gr_getR dX1_put_20 fX1_24 (by first | assumption | rfl) (by omega) (by decide) rfl (by assumption) ?_
        refine gr_iload_n dX1_put_23 rfl ?_
        refine gr_iconst dX1_put_24 ?_
        refine gr_imul dX1_put_25 rfl ?_
        refine gr_iload_n dX1_put_26 rfl ?_
        refine gr_iast (i := 3 * c) dX1_put_27 (by first | assumption | rfl) (by omega) (by omega) (by omega) (by decide) ?_
        refine gr_aload_n dX1_put_28 rfl ?_
        refine gr_getR dX1_put_29 fX1_24 (by first | assumption | rfl) (by omega) (by decide) rfl (by assumption) ?_
        refine gr_iload_n dX1_put_32 rfl ?_
        refine gr_iconst dX1_put_33 ?_
        refine gr_imul dX1_put_34 rfl ?_
        refine gr_iconst dX1_put_35 ?_
        refine gr_iadd dX1_put_36 rfl ?_
        refine gr_iload_n dX1_put_37 rfl ?_
        refine gr_iast (i := 3 * c + 1) dX1_put_38 (by first | assumption | rfl) (by omega) (by omega) (by omega) (by decide) ?_
        refine gr_aload_n dX1_put_39 rfl ?_
        refine gr_getR dX1_put_40 fX1_24 (by first | assumption | rfl) (by omega) (by decide) rfl (by assumption) ?_
        refine gr_iload_n dX1_put_43 rfl ?_
        refine gr_iconst dX1_put_44 ?_
        refine gr_imul dX1_put_45 rfl ?_
        refine gr_iconst dX1_put_46 ?_
        refine gr_iadd dX1_put_47 rfl ?_
        refine gr_iload dX1_put_48 rfl ?_
        refine gr_iast (i := 3 * c + 2) dX1_put_50 (by first | assumption | rfl) (by omega) (by omega) (by omega) (by decide) ?_
        refine gr_iload_n dX1_put_51 rfl ?_
        refine gr_aload_n dX1_put_52 rfl ?_
        refine gr_getI dX1_put_53 fX1_9 (by first | assumption | rfl) (by omega) (by decide) rfl ?_
        have e0 : gw_U (gw_U (gw_U I (k + 1) (3 * c) x) (k + 1) (3 * c + 1) y) (k + 1) (3 * c + 2) z k 0 = I k 0 := by
          simp [gw_U]
        rw [e0]
        refine gr_icmp_ne 69 dX1_put_56 (by decide) (by unfold gw_in; omega) (by unfold gw_in; omega) (fun h56 => ?_) (fun h56 => ?_)
        · refine gr_vret dX1_put_69 rfl (by decide) (by decide) (⟨rfl, _, rfl, fun a b => by unfold gw_U; grind⟩)
        · refine gr_aload_n dX1_put_59 rfl ?_
          refine gr_dup dX1_put_60 ?_
          refine gr_getI dX1_put_61 fX1_9 (by first | assumption | rfl) (by omega) (by decide) rfl ?_
          refine gr_iconst dX1_put_64 ?_
          refine gr_iadd dX1_put_65 rfl ?_
          refine gr_putI dX1_put_66 fX1_9 (by first | assumption | rfl) (by omega) (Or.inl rfl) rfl ?_
          refine gr_vret dX1_put_69 rfl (by decide) (by decide) (⟨rfl, _, rfl, fun a b => by rw [e0]; unfold gw_U; grind⟩)
      · omega
theorem c_take {c : Nat} (d : Nat) (hk : gp_K F k) (hs : (c : Int) < I k 0) (hs8 : I k 0 ≤ 8) : gw_Met jX1_take d [.inr (some k), .inl (c : Int)] (114, I, F) (gw_vo F (fun I' => ∀ a b, I' a b = if a = k ∧ b = 0 then I k 0 - 1 else if a = k + 1 ∧ 3 * c ≤ b ∧ (b : Int) < 3 * (I k 0 - 1) then I (k + 1) (b + 3) else I a b)) := by
  obtain ⟨hk1, hk2, hk3, hk4⟩ := hk
  refine gw_enter okX1_take rfl (Nat.le_of_ble_eq_true rfl) ?_
  refine gr_iload_n dX1_take_0 rfl ?_
  refine gr_iconst dX1_take_1 ?_
  refine gr_imul (v := ((3 * c : Nat) : Int)) dX1_take_2 (by omega) ?_
  refine gr_istore_n dX1_take_3 (by decide) ?_
  have key : ∀ (n i : Nat) (I2 : Nat → Nat → Int), (i : Int) + n = 3 * (I k 0 - 1) → 3 * c ≤ i → (∀ a b, I2 a b = if a = k + 1 ∧ 3 * c ≤ b ∧ b < i then I (k + 1) (b + 3) else I a b) → gw_G (gw_Cm jX1_take d (gw_vo F (fun I' => ∀ a b, I' a b = if a = k ∧ b = 0 then I k 0 - 1 else if a = k + 1 ∧ 3 * c ≤ b ∧ (b : Int) < 3 * (I k 0 - 1) then I (k + 1) (b + 3) else I a b))) jX1_take 4 [some (.inr (some k)), some (.inl (c : Int)), some (.inl (i : Int))] [] (114, I2, F) 0 0 := by
    intro n
    induction n with
    | zero =>
      intro i I2 hi hci hI
      have e0 : I2 k 0 = I k 0 := by rw [hI]; grind
      refine gr_iload_n dX1_take_4 rfl ?_
      refine gr_aload_n dX1_take_5 rfl ?_
      refine gr_getI dX1_take_6 fX1_9 (by first | assumption | rfl) (by omega) (by decide) rfl ?_
      refine gr_iconst dX1_take_9 ?_
      refine gr_isub dX1_take_10 rfl ?_
      refine gr_iconst dX1_take_11 ?_
      refine gr_imul dX1_take_12 rfl ?_
      rw [e0]
      refine gr_icmp_ge 36 dX1_take_13 (by decide) (by unfold gw_in; omega) (by unfold gw_in; omega) (fun h13 => ?_) (fun h13 => ?_)
      · refine gr_aload_n dX1_take_36 rfl ?_
        refine gr_dup dX1_take_37 ?_
        refine gr_getI dX1_take_38 fX1_9 (by first | assumption | rfl) (by omega) (by decide) rfl ?_
        refine gr_iconst dX1_take_41 ?_
        refine gr_isub dX1_take_42 rfl ?_
        refine gr_putI dX1_take_43 fX1_9 (by first | assumption | rfl) (by omega) (Or.inl rfl) rfl ?_
        refine gr_vret dX1_take_46 rfl (by decide) (by decide) (⟨rfl, _, rfl, fun a b => by unfold gw_U; grind⟩)
      · omega
    | succ n ih =>
      intro i I2 hi hci hI
      have e0 : I2 k 0 = I k 0 := by rw [hI]; grind
      refine gr_iload_n dX1_take_4 rfl ?_
      refine gr_aload_n dX1_take_5 rfl ?_
      refine gr_getI dX1_take_6 fX1_9 (by first | assumption | rfl) (by omega) (by decide) rfl ?_
      refine gr_iconst dX1_take_9 ?_
      refine gr_isub dX1_take_10 rfl ?_
      refine gr_iconst dX1_take_11 ?_
      refine gr_imul dX1_take_12 rfl ?_
      rw [e0]
      refine gr_icmp_ge 36 dX1_take_13 (by decide) (by unfold gw_in; omega) (by unfold gw_in; omega) (fun h13 => ?_) (fun h13 => ?_)
      · omega
      · refine gr_aload_n dX1_take_16 rfl ?_
        refine gr_getR dX1_take_17 fX1_24 (by first | assumption | rfl) (by omega) (by decide) rfl (by assumption) ?_
        refine gr_iload_n dX1_take_20 rfl ?_
        refine gr_aload_n dX1_take_21 rfl ?_
        refine gr_getR dX1_take_22 fX1_24 (by first | assumption | rfl) (by omega) (by decide) rfl (by assumption) ?_
        refine gr_iload_n dX1_take_25 rfl ?_
        refine gr_iconst dX1_take_26 ?_
        refine gr_iadd dX1_take_27 rfl ?_
        refine gr_iald (i := i + 3) dX1_take_28 (by first | assumption | rfl) (by omega) (by omega) (by omega) (by decide) ?_
        refine gr_iast (i := i) dX1_take_29 (by first | assumption | rfl) (by omega) (by omega) (by omega) (by decide) ?_
        refine gr_iinc (v := ((i + 1 : Nat) : Int)) dX1_take_30 (by decide) rfl (by omega) ?_
        refine gr_goto 4 dX1_take_33 (by decide) ?_
        exact ih (i + 1) _ (by omega) (by omega) (fun a b => by unfold gw_U; grind)
  exact key (3 * (I k 0 - 1) - 3 * c).toNat (3 * c) I (by omega) (by omega) (fun a b => by grind)
theorem c_pbecome {o : Nat} (d : Nat) (hk : gp_K F k) (ho : gp_K F o) (hko : k ≠ o) (hko1 : k ≠ o + 1) (hko2 : k + 1 ≠ o) (hs : 0 ≤ I o 0) (hs8 : I o 0 ≤ 8) : gw_Met jX1_become d [.inr (some k), .inr (some o)] (114, I, F) (gw_vo F (fun I' => ∀ a b, I' a b = if a = k ∧ b < 4 then I o b else if a = k + 1 ∧ (b : Int) < 3 * I o 0 then I (o + 1) b else I a b)) := by
  obtain ⟨hk1, hk2, hk3, hk4⟩ := hk
  obtain ⟨ho1, ho2, ho3, ho4⟩ := ho
  refine gw_enter okX1_become rfl (Nat.le_of_ble_eq_true rfl) ?_
  refine gr_aload_n dX1_become_0 rfl ?_
  refine gr_aload_n dX1_become_1 rfl ?_
  refine gr_getI dX1_become_2 fX1_9 (by first | assumption | rfl) (by omega) (by decide) rfl ?_
  refine gr_putI dX1_become_5 fX1_9 (by first | assumption | rfl) (by omega) (Or.inl rfl) rfl ?_
  refine gr_aload_n dX1_become_8 rfl ?_
  refine gr_aload_n dX1_become_9 rfl ?_
  refine gr_getI dX1_become_10 fX1_15 (by first | assumption | rfl) (by omega) (by decide) rfl ?_
  refine gr_putI dX1_become_13 fX1_15 (by first | assumption | rfl) (by omega) (Or.inl rfl) rfl ?_
  refine gr_aload_n dX1_become_16 rfl ?_
  refine gr_aload_n dX1_become_17 rfl ?_
  refine gr_getI dX1_become_18 fX1_18 (by first | assumption | rfl) (by omega) (by decide) rfl ?_
  refine gr_putI dX1_become_21 fX1_18 (by first | assumption | rfl) (by omega) (Or.inl rfl) rfl ?_
  refine gr_aload_n dX1_become_24 rfl ?_
  refine gr_aload_n dX1_become_25 rfl ?_
  refine gr_getI dX1_become_26 fX1_21 (by first | assumption | rfl) (by omega) (by decide) rfl ?_
  refine gr_putI dX1_become_29 fX1_21 (by first | assumption | rfl) (by omega) (Or.inl rfl) rfl ?_
  refine gr_iconst dX1_become_32 ?_
  refine gr_istore_n dX1_become_33 (by decide) ?_
  have key : ∀ (n i : Nat) (I2 : Nat → Nat → Int), (i : Int) + n = 3 * I o 0 → (∀ a b, I2 a b = if a = k ∧ b < 4 then I o b else if a = k + 1 ∧ b < i then I (o + 1) b else I a b) → gw_G (gw_Cm jX1_become d (gw_vo F (fun I' => ∀ a b, I' a b = if a = k ∧ b < 4 then I o b else if a = k + 1 ∧ (b : Int) < 3 * I o 0 then I (o + 1) b else I a b))) jX1_become 34 [some (.inr (some k)), some (.inr (some o)), some (.inl (i : Int))] [] (114, I2, F) 0 0 := by
    intro n
    induction n with
    | zero =>
      intro i I2 hi hI
      have e0 : I2 k 0 = I o 0 := by rw [hI]; grind
      refine gr_iload_n dX1_become_34 rfl ?_
      refine gr_aload_n dX1_become_35 rfl ?_
      refine gr_getI dX1_become_36 fX1_9 (by first | assumption | rfl) (by omega) (by decide) rfl ?_
      refine gr_iconst dX1_become_39 ?_
      refine gr_imul dX1_become_40 rfl ?_
      rw [e0]
      refine gr_icmp_ge 62 dX1_become_41 (by decide) (by unfold gw_in; omega) (by unfold gw_in; omega) (fun h => ?_) (fun h => ?_)
      · refine gr_vret dX1_become_62 rfl (by decide) (by decide) (⟨rfl, _, rfl, fun a b => by grind⟩)
      · omega
    | succ n ih =>
      intro i I2 hi hI
      have e0 : I2 k 0 = I o 0 := by rw [hI]; grind
      refine gr_iload_n dX1_become_34 rfl ?_
      refine gr_aload_n dX1_become_35 rfl ?_
      refine gr_getI dX1_become_36 fX1_9 (by first | assumption | rfl) (by omega) (by decide) rfl ?_
      refine gr_iconst dX1_become_39 ?_
      refine gr_imul dX1_become_40 rfl ?_
      rw [e0]
      refine gr_icmp_ge 62 dX1_become_41 (by decide) (by unfold gw_in; omega) (by unfold gw_in; omega) (fun h => ?_) (fun h => ?_)
      · omega
      · refine gr_aload_n dX1_become_44 rfl ?_
        refine gr_getR dX1_become_45 fX1_24 (by first | assumption | rfl) (by omega) (by decide) rfl (by assumption) ?_
        refine gr_iload_n dX1_become_48 rfl ?_
        refine gr_aload_n dX1_become_49 rfl ?_
        refine gr_getR dX1_become_50 fX1_24 (by first | assumption | rfl) (by omega) (by decide) rfl (by assumption) ?_
        refine gr_iload_n dX1_become_53 rfl ?_
        refine gr_iald (i := i) dX1_become_54 (by first | assumption | rfl) (by omega) (by omega) (by omega) (by decide) ?_
        refine gr_iast (i := i) dX1_become_55 (by first | assumption | rfl) (by omega) (by omega) (by omega) (by decide) ?_
        refine gr_iinc (v := ((i + 1 : Nat) : Int)) dX1_become_56 (by decide) rfl (by omega) ?_
        refine gr_goto 34 dX1_become_59 (by decide) ?_
        exact ih (i + 1) _ (by omega) (fun a b => by unfold gw_U; grind)
  exact key (3 * I o 0).toNat 0 _ (by omega) (fun a b => by unfold gw_U; grind)
end GP
