/-! THE REFERENCE: hands -/
def gm_K (F : Nat → Nat → Option Nat) : Prop := F 99 1 = some 100 ∧ F 99 2 = some 101 ∧ F 99 4 = some 102 ∧ F 99 5 = some 103 ∧ F 99 6 = some 104 ∧ F 99 8 = some 105 ∧ F 99 9 = some 106 ∧ F 99 11 = some 107 ∧ F 99 12 = some 108 ∧ F 99 14 = some 109 ∧ F 99 18 = some 110 ∧ F 99 19 = some 111 ∧ F 99 20 = some 112 ∧ F 99 21 = some 113
/-- the players and the chords lie in the reference's rows -/
def gm_V (J : Nat → Nat → Int) (P : Nat) (B : Nat → Nat → Int) (N : Nat → Int) (S : Nat) (rest : Int) : Prop := J 99 0 = (P : Int) ∧ (∀ p, p < P → ∀ r, r < 5 → J 100 (5 * p + r) = B (r + 1) p) ∧ J 101 0 = (S : Int) ∧ (∀ c, c < S → J 101 (4 * c + 1) = (gp_cnt N c : Int) ∧ ∀ i, i < gp_cnt N c → J 101 (4 * c + 2 + i) = N (3 * c + i)) ∧ J 101 34 = rest
/-- and are as they may be -/
def gm_S (P : Nat) (B : Nat → Nat → Int) (N : Nat → Int) (S : Nat) (rest : Int) : Prop := P ≤ 4 ∧ S ≤ 8 ∧ gs_B B ∧ (∀ p, p < P → 2 ≤ B 4 p) ∧ gp_N N ∧ (∀ c, c < S → 1 ≤ gp_cnt N c) ∧ gb_bw (B 1) P ≤ 2 ∧ (0 ≤ rest ∧ rest ≤ 20)
theorem gm_V_c {J J' : Nat → Nat → Int} {P : Nat} {B : Nat → Nat → Int} {N : Nat → Int} {S : Nat} {rest : Int} (h : gm_V J P B N S rest) (h0 : J' 99 0 = J 99 0) (h1 : J' 100 = J 100) (h2 : J' 101 = J 101) : gm_V J' P B N S rest := by
  unfold gm_V at h ⊢
  rw [h0, h1, h2]
  exact h
section GM
variable {J : Nat → Nat → Int} {F : Nat → Nat → Option Nat} {P S : Nat} {B : Nat → Nat → Int} {N : Nat → Int} {rest : Int}
theorem m_in {x lo hi : Int} {μ : gw_M} (d : Nat) (hx : gw_in x) (hl : gw_in lo) (hh : gw_in hi) : gw_Met jX5_in d [.inl x, .inl lo, .inl hi] μ (gw_pu (if lo ≤ x ∧ x ≤ hi then 1 else 0) μ) := by
  unfold gw_in at hx hl hh
  refine gw_enter okX5_in rfl (Nat.le_of_ble_eq_true rfl) ?_
  refine gr_iload_n dX5_in_0 rfl ?_
  refine gr_iload_n dX5_in_1 rfl ?_
  refine gr_icmp_lt 14 dX5_in_2 (by decide) (by unfold gw_in; omega) (by unfold gw_in; omega) (fun h2 => ?_) (fun h2 => ?_)
  · refine gr_iconst dX5_in_14 ?_
    refine gr_iret dX5_in_15 (by first | exact Or.inl rfl | exact Or.inr ⟨rfl, by omega⟩) (by decide) (by decide) (⟨by rw [if_neg (by omega)], rfl⟩)
  · refine gr_iload_n dX5_in_5 rfl ?_
    refine gr_iload_n dX5_in_6 rfl ?_
    refine gr_icmp_gt 14 dX5_in_7 (by decide) (by unfold gw_in; omega) (by unfold gw_in; omega) (fun h7 => ?_) (fun h7 => ?_)
    · refine gr_iconst dX5_in_14 ?_
      refine gr_iret dX5_in_15 (by first | exact Or.inl rfl | exact Or.inr ⟨rfl, by omega⟩) (by decide) (by decide) (⟨by rw [if_neg (by omega)], rfl⟩)
    · refine gr_iconst dX5_in_10 ?_
      refine gr_goto 15 dX5_in_11 (by decide) ?_
      refine gr_iret dX5_in_15 (by first | exact Or.inl rfl | exact Or.inr ⟨rfl, by omega⟩) (by decide) (by decide) (⟨by rw [if_pos (by omega)], rfl⟩)
theorem m_isPlayer {x : Int} (d : Nat) (hP : J 99 0 = (P : Int)) (hP4 : P ≤ 4) (hx : gw_in x) : gw_Met jX5_isPlayer (d + 1) [.inr (some 99), .inl x] (114, J, F) (gw_pu (if 0 ≤ x ∧ x < (P : Int) then 1 else 0) (114, J, F)) := by
  refine gw_enter okX5_isPlayer rfl (Nat.le_of_ble_eq_true rfl) ?_
  refine gr_iload_n dX5_isPlayer_0 rfl ?_
  refine gr_iconst dX5_isPlayer_1 ?_
  refine gr_aload_n dX5_isPlayer_2 rfl ?_
  refine gr_getI dX5_isPlayer_3 fX5_63 (by first | assumption | rfl) (by omega) (by decide) rfl ?_
  rw [hP]
  refine gr_iconst dX5_isPlayer_6 ?_
  refine gr_isub dX5_isPlayer_7 rfl ?_
  refine gr_stat dX5_isPlayer_8 kX5_72 (as := [_, _, _]) rfl rfl (Nat.le_of_ble_eq_true rfl) (gw_Rm_m (by omega) (by decide) (by decide)) (m_in d hx (by unfold gw_in; omega) (by unfold gw_in; omega)) ?_
  rintro _ _ ⟨rfl, rfl⟩
  have e : (if 0 ≤ x ∧ x ≤ (P : Int) - 1 then (1 : Int) else 0) = if 0 ≤ x ∧ x < (P : Int) then 1 else 0 := by
    by_cases h : 0 ≤ x ∧ x < (P : Int)
    · rw [if_pos h, if_pos (by omega)]
    · rw [if_neg h, if_neg (by omega)]
  rw [e]
  refine gr_iret dX5_isPlayer_11 (Or.inr ⟨rfl, by split <;> omega⟩) (by decide) (by decide) ⟨rfl, rfl⟩
theorem m_isChord {x : Int} (d : Nat) (hK : gm_K F) (hS : J 101 0 = (S : Int)) (hS8 : S ≤ 8) (hx : gw_in x) : gw_Met jX5_isChord (d + 1) [.inr (some 99), .inl x] (114, J, F) (gw_pu (if 0 ≤ x ∧ x < (S : Int) then 1 else 0) (114, J, F)) := by
  obtain ⟨g1, g2, g4, g5, g6, g8, g9, g11, g12, g14, g18, g19, g20, g21⟩ := id hK
  refine gw_enter okX5_isChord rfl (Nat.le_of_ble_eq_true rfl) ?_
  refine gr_iload_n dX5_isChord_0 rfl ?_
  refine gr_iconst dX5_isChord_1 ?_
  refine gr_aload_n dX5_isChord_2 rfl ?_
  refine gr_getR dX5_isChord_3 fX5_13 (by first | assumption | rfl) (by omega) (by decide) rfl (by assumption) ?_
  refine gr_iconst dX5_isChord_6 ?_
  refine gr_iald (i := 0) dX5_isChord_7 (by first | assumption | rfl) (by omega) (by omega) (by omega) (by decide) ?_
  rw [hS]
  refine gr_iconst dX5_isChord_8 ?_
  refine gr_isub dX5_isChord_9 rfl ?_
  refine gr_stat dX5_isChord_10 kX5_72 (as := [_, _, _]) rfl rfl (Nat.le_of_ble_eq_true rfl) (gw_Rm_m (by omega) (by decide) (by decide)) (m_in d hx (by unfold gw_in; omega) (by unfold gw_in; omega)) ?_
  rintro _ _ ⟨rfl, rfl⟩
  have e : (if 0 ≤ x ∧ x ≤ (S : Int) - 1 then (1 : Int) else 0) = if 0 ≤ x ∧ x < (S : Int) then 1 else 0 := by
    by_cases h : 0 ≤ x ∧ x < (S : Int)
    · rw [if_pos h, if_pos (by omega)]
    · rw [if_neg h, if_neg (by omega)]
  rw [e]
  refine gr_iret dX5_isChord_13 (Or.inr ⟨rfl, by split <;> omega⟩) (by decide) (by decide) ⟨rfl, rfl⟩
theorem m_kind {p : Nat} (d : Nat) (hK : gm_K F) (hp : p < 4) : gw_Met jX5_kind d [.inr (some 99), .inl (p : Int)] (114, J, F) (gw_pu (J 100 (5 * p)) (114, J, F)) := by
  obtain ⟨g1, g2, g4, g5, g6, g8, g9, g11, g12, g14, g18, g19, g20, g21⟩ := id hK
  refine gw_enter okX5_kind rfl (Nat.le_of_ble_eq_true rfl) ?_
  refine gr_aload_n dX5_kind_0 rfl ?_
  refine gr_getR dX5_kind_1 fX5_7 (by first | assumption | rfl) (by omega) (by decide) rfl (by assumption) ?_
  refine gr_iconst dX5_kind_4 ?_
  refine gr_iload_n dX5_kind_5 rfl ?_
  refine gr_imul dX5_kind_6 rfl ?_
  refine gr_iald (i := 5 * p) dX5_kind_7 (by first | assumption | rfl) (by omega) (by omega) (by omega) (by decide) ?_
  refine gr_iret dX5_kind_8 (by first | exact Or.inl rfl | exact Or.inr ⟨rfl, by omega⟩) (by decide) (by decide) (⟨rfl, rfl⟩)
theorem m_isIn {p m : Nat} (d : Nat) (hK : gm_K F) (hm : J 101 33 = (m : Int)) (hm16 : m < 16) (hp : p < 4) : gw_Met jX5_isIn d [.inr (some 99), .inl (p : Int)] (114, J, F) (gw_pu (if m / 2 ^ p % 2 = 1 then 1 else 0) (114, J, F)) := by
  obtain ⟨g1, g2, g4, g5, g6, g8, g9, g11, g12, g14, g18, g19, g20, g21⟩ := id hK
  have hbit : m / 2 ^ p % 2 < 2 := Nat.mod_lt _ (by omega)
  refine gw_enter okX5_isIn rfl (Nat.le_of_ble_eq_true rfl) ?_
  refine gr_aload_n dX5_isIn_0 rfl ?_
  refine gr_getR dX5_isIn_1 fX5_13 (by first | assumption | rfl) (by omega) (by decide) rfl (by assumption) ?_
  refine gr_bipush dX5_isIn_4 (by decide) ?_
  refine gr_iald (i := 33) dX5_isIn_6 (by first | assumption | rfl) (by omega) (by omega) (by omega) (by decide) ?_
  rw [hm]
  refine gr_iload_n dX5_isIn_7 rfl ?_
  refine gr_ishr (v := ((m / 2 ^ p : Nat) : Int)) dX5_isIn_8 (ga_bit (by omega) (by omega)) ?_
  refine gr_iconst dX5_isIn_9 ?_
  refine gr_iand (v := ((m / 2 ^ p % 2 : Nat) : Int)) dX5_isIn_10 (ga_bit1 _) ?_
  refine gr_iconst dX5_isIn_11 ?_
  refine gr_icmp_ne 19 dX5_isIn_12 (by decide) (by unfold gw_in; omega) (by unfold gw_in; omega) (fun h12 => ?_) (fun h12 => ?_)
  · refine gr_iconst dX5_isIn_19 ?_
    refine gr_iret dX5_isIn_20 (by first | exact Or.inl rfl | exact Or.inr ⟨rfl, by omega⟩) (by decide) (by decide) (⟨by rw [if_neg (by omega)], rfl⟩)
  · refine gr_iconst dX5_isIn_15 ?_
    refine gr_goto 20 dX5_isIn_16 (by decide) ?_
    refine gr_iret dX5_isIn_20 (by first | exact Or.inl rfl | exact Or.inr ⟨rfl, by omega⟩) (by decide) (by decide) (⟨by rw [if_pos (by omega)], rfl⟩)
theorem m_notes {c : Nat} (d : Nat) (hK : gm_K F) (hc : c < 8) : gw_Met jX5_notes d [.inr (some 99), .inl (c : Int)] (114, J, F) (gw_pu (J 101 (4 * c + 1)) (114, J, F)) := by
  obtain ⟨g1, g2, g4, g5, g6, g8, g9, g11, g12, g14, g18, g19, g20, g21⟩ := id hK
  refine gw_enter okX5_notes rfl (Nat.le_of_ble_eq_true rfl) ?_
  refine gr_aload_n dX5_notes_0 rfl ?_
  refine gr_getR dX5_notes_1 fX5_13 (by first | assumption | rfl) (by omega) (by decide) rfl (by assumption) ?_
  refine gr_iconst dX5_notes_4 ?_
  refine gr_iconst dX5_notes_5 ?_
  refine gr_iload_n dX5_notes_6 rfl ?_
  refine gr_imul dX5_notes_7 rfl ?_
  refine gr_iadd dX5_notes_8 rfl ?_
  refine gr_iald (i := 4 * c + 1) dX5_notes_9 (by first | assumption | rfl) (by omega) (by omega) (by omega) (by decide) ?_
  refine gr_iret dX5_notes_10 (by first | exact Or.inl rfl | exact Or.inr ⟨rfl, by omega⟩) (by decide) (by decide) (⟨rfl, rfl⟩)
theorem m_note {c i : Nat} (d : Nat) (hK : gm_K F) (hc : c < 8) (hi : i < 3) : gw_Met jX5_note d [.inr (some 99), .inl (c : Int), .inl (i : Int)] (114, J, F) (gw_pu (J 101 (4 * c + 2 + i)) (114, J, F)) := by
  obtain ⟨g1, g2, g4, g5, g6, g8, g9, g11, g12, g14, g18, g19, g20, g21⟩ := id hK
  refine gw_enter okX5_note rfl (Nat.le_of_ble_eq_true rfl) ?_
  refine gr_aload_n dX5_note_0 rfl ?_
  refine gr_getR dX5_note_1 fX5_13 (by first | assumption | rfl) (by omega) (by decide) rfl (by assumption) ?_
  refine gr_iconst dX5_note_4 ?_
  refine gr_iconst dX5_note_5 ?_
  refine gr_iload_n dX5_note_6 rfl ?_
  refine gr_imul dX5_note_7 rfl ?_
  refine gr_iadd dX5_note_8 rfl ?_
  refine gr_iconst dX5_note_9 ?_
  refine gr_iadd dX5_note_10 rfl ?_
  refine gr_iload_n dX5_note_11 rfl ?_
  refine gr_iadd dX5_note_12 rfl ?_
  refine gr_iald (i := 4 * c + 2 + i) dX5_note_13 (by first | assumption | rfl) (by omega) (by omega) (by omega) (by decide) ?_
  refine gr_iret dX5_note_14 (by first | exact Or.inl rfl | exact Or.inr ⟨rfl, by omega⟩) (by decide) (by decide) (⟨rfl, rfl⟩)
theorem m_ones {h : Nat} {μ : gw_M} (d : Nat) (hh : h < 8) : gw_Met jX5_ones d [.inl (h : Int)] μ (gw_pu (gb_pc h : Nat) μ) := by
  refine gw_enter okX5_ones rfl (Nat.le_of_ble_eq_true rfl) ?_
  refine gr_iload_n dX5_ones_0 rfl ?_
  refine gr_iconst dX5_ones_1 ?_
  refine gr_iand (v := ((h % 2 : Nat) : Int)) dX5_ones_2 (ga_bit1 _) ?_
  refine gr_iload_n dX5_ones_3 rfl ?_
  refine gr_iconst dX5_ones_4 ?_
  refine gr_ishr (v := ((h / 2 ^ 1 : Nat) : Int)) dX5_ones_5 (ga_bit (i := 1) (by omega) (by omega)) ?_
  refine gr_iconst dX5_ones_6 ?_
  refine gr_iand (v := ((h / 2 ^ 1 % 2 : Nat) : Int)) dX5_ones_7 (ga_bit1 _) ?_
  refine gr_iadd dX5_ones_8 rfl ?_
  refine gr_iload_n dX5_ones_9 rfl ?_
  refine gr_iconst dX5_ones_10 ?_
  refine gr_ishr (v := ((h / 2 ^ 2 : Nat) : Int)) dX5_ones_11 (ga_bit (i := 2) (by omega) (by omega)) ?_
  refine gr_iconst dX5_ones_12 ?_
  refine gr_iand (v := ((h / 2 ^ 2 % 2 : Nat) : Int)) dX5_ones_13 (ga_bit1 _) ?_
  refine gr_iadd dX5_ones_14 rfl ?_
  refine gr_iret dX5_ones_15 (by first | exact Or.inl rfl | exact Or.inr ⟨rfl, by omega⟩) (by decide) (by decide) (⟨by unfold gb_pc; congr 2; omega, rfl⟩)
def gm_lo (h : Nat) : Nat := if h % 2 = 1 then 0 else if h / 2 % 2 = 1 then 1 else 2
def gm_hi (h : Nat) : Nat := if 3 < h then 2 else if 1 < h then 1 else 0
theorem ga_and2 (h : Nat) (hh : h < 8) : Int32.ofInt (h : Int) &&& Int32.ofInt 2 = Int32.ofInt ((2 * (h / 2 % 2) : Nat) : Int) := by
  have : ∀ h : Nat, h < 8 → Int32.ofInt (h : Int) &&& Int32.ofInt 2 = Int32.ofInt ((2 * (h / 2 % 2) : Nat) : Int) := by decide +kernel
  exact this h hh
theorem m_lowest {h : Nat} {μ : gw_M} (d : Nat) (hh : h < 8) : gw_Met jX5_lowest d [.inl (h : Int)] μ (gw_pu (gm_lo h : Nat) μ) := by
  refine gw_enter okX5_lowest rfl (Nat.le_of_ble_eq_true rfl) ?_
  refine gr_iload_n dX5_lowest_0 rfl ?_
  refine gr_iconst dX5_lowest_1 ?_
  refine gr_iand (v := ((h % 2 : Nat) : Int)) dX5_lowest_2 (ga_bit1 _) ?_
  refine gr_iconst dX5_lowest_3 ?_
  refine gr_icmp_ne 11 dX5_lowest_4 (by decide) (by unfold gw_in; omega) (by unfold gw_in; omega) (fun h4 => ?_) (fun h4 => ?_)
  · refine gr_iload_n dX5_lowest_11 rfl ?_
    refine gr_iconst dX5_lowest_12 ?_
    refine gr_iand (v := ((2 * (h / 2 % 2) : Nat) : Int)) dX5_lowest_13 (ga_and2 h hh) ?_
    refine gr_iconst dX5_lowest_14 ?_
    refine gr_icmp_ne 22 dX5_lowest_15 (by decide) (by unfold gw_in; omega) (by unfold gw_in; omega) (fun h15 => ?_) (fun h15 => ?_)
    · refine gr_iconst dX5_lowest_22 ?_
      refine gr_iret dX5_lowest_23 (by first | exact Or.inl rfl | exact Or.inr ⟨rfl, by omega⟩) (by decide) (by decide) (⟨by unfold gm_lo; rw [if_neg (by omega), if_neg (by omega)]; rfl, rfl⟩)
    · refine gr_iconst dX5_lowest_18 ?_
      refine gr_goto 23 dX5_lowest_19 (by decide) ?_
      refine gr_iret dX5_lowest_23 (by first | exact Or.inl rfl | exact Or.inr ⟨rfl, by omega⟩) (by decide) (by decide) (⟨by unfold gm_lo; rw [if_neg (by omega), if_pos (by omega)]; rfl, rfl⟩)
  · refine gr_iconst dX5_lowest_7 ?_
    refine gr_goto 23 dX5_lowest_8 (by decide) ?_
    refine gr_iret dX5_lowest_23 (by first | exact Or.inl rfl | exact Or.inr ⟨rfl, by omega⟩) (by decide) (by decide) (⟨by unfold gm_lo; rw [if_pos (by omega)]; rfl, rfl⟩)
theorem m_highest {h : Nat} {μ : gw_M} (d : Nat) (hh : h < 8) : gw_Met jX5_highest d [.inl (h : Int)] μ (gw_pu (gm_hi h : Nat) μ) := by
  refine gw_enter okX5_highest rfl (Nat.le_of_ble_eq_true rfl) ?_
  refine gr_iload_n dX5_highest_0 rfl ?_
  refine gr_iconst dX5_highest_1 ?_
  refine gr_icmp_le 9 dX5_highest_2 (by decide) (by unfold gw_in; omega) (by unfold gw_in; omega) (fun h2 => ?_) (fun h2 => ?_)
  · refine gr_iload_n dX5_highest_9 rfl ?_
    refine gr_iconst dX5_highest_10 ?_
    refine gr_icmp_le 18 dX5_highest_11 (by decide) (by unfold gw_in; omega) (by unfold gw_in; omega) (fun h11 => ?_) (fun h11 => ?_)
    · refine gr_iconst dX5_highest_18 ?_
      refine gr_iret dX5_highest_19 (by first | exact Or.inl rfl | exact Or.inr ⟨rfl, by omega⟩) (by decide) (by decide) (⟨by unfold gm_hi; rw [if_neg (by omega), if_neg (by omega)]; rfl, rfl⟩)
    · refine gr_iconst dX5_highest_14 ?_
      refine gr_goto 19 dX5_highest_15 (by decide) ?_
      refine gr_iret dX5_highest_19 (by first | exact Or.inl rfl | exact Or.inr ⟨rfl, by omega⟩) (by decide) (by decide) (⟨by unfold gm_hi; rw [if_neg (by omega), if_pos (by omega)]; rfl, rfl⟩)
  · refine gr_iconst dX5_highest_5 ?_
    refine gr_goto 19 dX5_highest_6 (by decide) ?_
    refine gr_iret dX5_highest_19 (by first | exact Or.inl rfl | exact Or.inr ⟨rfl, by omega⟩) (by decide) (by decide) (⟨by unfold gm_hi; rw [if_pos (by omega)]; rfl, rfl⟩)
theorem gm_2p {n : Nat} (hn : n ≤ 3) : 2 ^ n ≤ 8 := Nat.pow_le_pow_right (by omega) hn
theorem gm_lohi {N : Nat → Int} {c h n : Nat} (hh : h < 2 ^ n) (hn : n ≤ 3) (h0 : h ≠ 0) : gm_lo h < n ∧ gm_hi h < n ∧ N (3 * c + gm_lo h) = gp_lo N c h ∧ N (3 * c + gm_hi h) = gp_hi N c h := by
  unfold gm_lo gm_hi gp_lo gp_hi
  rcases (show n = 0 ∨ n = 1 ∨ n = 2 ∨ n = 3 by omega) with rfl | rfl | rfl | rfl
  · omega
  · have : h = 1 := by omega
    subst this; simp
  · rcases (show h = 1 ∨ h = 2 ∨ h = 3 by omega) with rfl | rfl | rfl <;> simp
  · rcases (show h = 1 ∨ h = 2 ∨ h = 3 ∨ h = 4 ∨ h = 5 ∨ h = 6 ∨ h = 7 by omega) with rfl | rfl | rfl | rfl | rfl | rfl | rfl <;> simp
theorem gm_lo3 (h : Nat) : gm_lo h < 3 := by unfold gm_lo; split; omega; split <;> omega
theorem gm_hi3 (h : Nat) : gm_hi h < 3 := by unfold gm_hi; split; omega; split <;> omega
theorem m_isHand {p c h : Nat} (d : Nat) (hK : gm_K F) (hV : gm_V J P B N S rest) (hS : gm_S P B N S rest) (hp : p < P) (hc : c < S) (hh : h < 2 ^ gp_cnt N c) : gw_Met jX5_isHand (d + 1) [.inr (some 99), .inl (p : Int), .inl (c : Int), .inl (h : Int)] (114, J, F) (gw_pu (if gb_man B 0 N p c h = true then 1 else 0) (114, J, F)) := by
  obtain ⟨g1, g2, g4, g5, g6, g8, g9, g11, g12, g14, g18, g19, g20, g21⟩ := id hK
  obtain ⟨v0, v1, v2, v3, v4⟩ := id hV
  obtain ⟨s1, s2, s3, s4, s5, s6, s7, s8⟩ := id hS
  have hcnt := gp_cnt_le N c
  have h8 := gm_2p hcnt
  obtain ⟨b1, b2, b3, b4, b5, b6, b7, b8, b9, b10⟩ := s3 p (by omega)
  have r0 : J 100 (5 * p) = B 1 p := v1 p hp 0 (by omega)
  have r1 : J 100 (5 * p + 1) = B 2 p := v1 p hp 1 (by omega)
  have r2 : J 100 (5 * p + 2) = B 3 p := v1 p hp 2 (by omega)
  have r4 : J 100 (5 * p + 4) = B 5 p := v1 p hp 4 (by omega)
  refine gw_enter okX5_isHand rfl (Nat.le_of_ble_eq_true rfl) ?_
  refine gr_iload_n dX5_isHand_0 rfl ?_
  refine gr_if_ne 6 dX5_isHand_1 (by decide) (by unfold gw_in; omega) (fun h1 => ?_) (fun h1 => ?_)
  · obtain ⟨l1, l2, l3, l4⟩ := gm_lohi (N := N) (c := c) hh hcnt (show h ≠ 0 by omega)
    have e1 := (v3 c hc).2 _ l1
    have e2 := (v3 c hc).2 _ l2
    rw [l3] at e1
    rw [l4] at e2
    have q1 := s5 (3 * c + gm_lo h) (by have := gm_lo3 h; omega)
    have q2 := s5 (3 * c + gm_hi h) (by have := gm_hi3 h; omega)
    rw [l3] at q1
    rw [l4] at q2
    have hpc1 : 1 ≤ gb_pc h := (show ∀ h : Nat, h < 8 → h ≠ 0 → 1 ≤ gb_pc h by decide) h (by omega) (by omega)
    have hpc3 : gb_pc h ≤ 3 := by unfold gb_pc; omega
    have em : gb_man B 0 N p c h = true ↔ (B 2 p ≤ gp_lo N c h ∧ gp_hi N c h ≤ B 3 p) ∧ (gb_pc h = 1 ∨ gb_pc h = 2 ∧ B 1 p = 1 ∧ gp_hi N c h - gp_lo N c h ≤ B 5 p) := by
      unfold gb_man
      simp only [Nat.zero_add, decide_eq_true_eq]
      by_cases hk : B 1 p = 1
      · rw [if_pos hk]; omega
      · rw [if_neg hk]; omega
    refine gr_aload_n dX5_isHand_6 rfl ?_
    refine gr_iload_n dX5_isHand_7 rfl ?_
    refine gr_iload_n dX5_isHand_8 rfl ?_
    refine gr_stat dX5_isHand_9 kX5_140 (as := [_]) rfl rfl (Nat.le_of_ble_eq_true rfl) (gw_Rm_m (by omega) (by decide) (by decide)) (m_lowest d (by omega)) ?_
    rintro _ _ ⟨rfl, rfl⟩
    refine gr_virt dX5_isHand_12 kX5_130 (as := [_, _]) rfl rfl (by first | assumption | rfl) (by omega) (Nat.le_of_ble_eq_true rfl) (gw_Rm_m (by omega) (by decide) (by decide)) (m_note (c := c) (i := gm_lo h) d hK (by omega) (gm_lo3 h)) ?_
    rintro _ _ ⟨rfl, rfl⟩
    rw [e1]
    refine gr_istore dX5_isHand_15 (by decide) ?_
    refine gr_aload_n dX5_isHand_17 rfl ?_
    refine gr_iload_n dX5_isHand_18 rfl ?_
    refine gr_iload_n dX5_isHand_19 rfl ?_
    refine gr_stat dX5_isHand_20 kX5_143 (as := [_]) rfl rfl (Nat.le_of_ble_eq_true rfl) (gw_Rm_m (by omega) (by decide) (by decide)) (m_highest d (by omega)) ?_
    rintro _ _ ⟨rfl, rfl⟩
    refine gr_virt dX5_isHand_23 kX5_130 (as := [_, _]) rfl rfl (by first | assumption | rfl) (by omega) (Nat.le_of_ble_eq_true rfl) (gw_Rm_m (by omega) (by decide) (by decide)) (m_note (c := c) (i := gm_hi h) d hK (by omega) (gm_hi3 h)) ?_
    rintro _ _ ⟨rfl, rfl⟩
    rw [e2]
    have no : ¬ gb_man B 0 N p c h = true → ∀ x6, gw_G (gw_Cm jX5_isHand (d + 1) (gw_pu (if gb_man B 0 N p c h = true then 1 else 0) (114, J, F))) jX5_isHand 117 [some (.inr (some 99)), some (.inl (p : Int)), some (.inl (c : Int)), some (.inl (h : Int)), some (.inl (gp_lo N c h)), some (.inl (gp_hi N c h)), x6] [] (114, J, F) 0 0 := by
      intro hn x6
      refine gr_iconst dX5_isHand_117 ?_
      refine gr_iret dX5_isHand_118 (by first | exact Or.inl rfl | exact Or.inr ⟨rfl, by omega⟩) (by decide) (by decide) (⟨by rw [if_neg hn], rfl⟩)
    have far : ¬ (B 2 p ≤ gp_lo N c h ∧ gp_hi N c h ≤ B 3 p) → ∀ x6, gw_G (gw_Cm jX5_isHand (d + 1) (gw_pu (if gb_man B 0 N p c h = true then 1 else 0) (114, J, F))) jX5_isHand 62 [some (.inr (some 99)), some (.inl (p : Int)), some (.inl (c : Int)), some (.inl (h : Int)), some (.inl (gp_lo N c h)), some (.inl (gp_hi N c h)), x6] [] (114, J, F) 0 0 := by
      intro hn x6
      refine gr_iconst dX5_isHand_62 ?_
      refine gr_istore dX5_isHand_63 (by decide) ?_
      refine gr_iload dX5_isHand_65 rfl ?_
      refine gr_if_eq 117 dX5_isHand_67 (by decide) (by unfold gw_in; omega) (fun h67 => ?_) (fun h67 => ?_)
      · exact no (fun h => hn (em.mp h).1) _
      · omega
    refine gr_istore dX5_isHand_26 (by decide) ?_
    refine gr_iload dX5_isHand_28 rfl ?_
    refine gr_aload_n dX5_isHand_30 rfl ?_
    refine gr_getR dX5_isHand_31 fX5_7 (by first | assumption | rfl) (by omega) (by decide) rfl (by assumption) ?_
    refine gr_iconst dX5_isHand_34 ?_
    refine gr_iload_n dX5_isHand_35 rfl ?_
    refine gr_imul dX5_isHand_36 rfl ?_
    refine gr_iconst dX5_isHand_37 ?_
    refine gr_iadd dX5_isHand_38 rfl ?_
    refine gr_iald (i := 5 * p + 1) dX5_isHand_39 (by first | assumption | rfl) (by omega) (by omega) (by omega) (by decide) ?_
    rw [r1]
    refine gr_icmp_lt 62 dX5_isHand_40 (by decide) (by unfold gw_in; omega) (by unfold gw_in; omega) (fun h40 => ?_) (fun h40 => ?_)
    · exact far (by omega) _
    · refine gr_iload dX5_isHand_43 rfl ?_
      refine gr_aload_n dX5_isHand_45 rfl ?_
      refine gr_getR dX5_isHand_46 fX5_7 (by first | assumption | rfl) (by omega) (by decide) rfl (by assumption) ?_
      refine gr_iconst dX5_isHand_49 ?_
      refine gr_iload_n dX5_isHand_50 rfl ?_
      refine gr_imul dX5_isHand_51 rfl ?_
      refine gr_iconst dX5_isHand_52 ?_
      refine gr_iadd dX5_isHand_53 rfl ?_
      refine gr_iald (i := 5 * p + 2) dX5_isHand_54 (by first | assumption | rfl) (by omega) (by omega) (by omega) (by decide) ?_
      rw [r2]
      refine gr_icmp_gt 62 dX5_isHand_55 (by decide) (by unfold gw_in; omega) (by unfold gw_in; omega) (fun h55 => ?_) (fun h55 => ?_)
      · exact far (by omega) _
      · refine gr_iconst dX5_isHand_58 ?_
        refine gr_goto 63 dX5_isHand_59 (by decide) ?_
        refine gr_istore dX5_isHand_63 (by decide) ?_
        refine gr_iload dX5_isHand_65 rfl ?_
        refine gr_if_eq 117 dX5_isHand_67 (by decide) (by unfold gw_in; omega) (fun h67 => ?_) (fun h67 => ?_)
        · omega
        · refine gr_iload_n dX5_isHand_70 rfl ?_
          refine gr_stat dX5_isHand_71 kX5_146 (as := [_]) rfl rfl (Nat.le_of_ble_eq_true rfl) (gw_Rm_m (by omega) (by decide) (by decide)) (m_ones (h := h) d (by omega)) ?_
          rintro _ _ ⟨rfl, rfl⟩
          refine gr_iconst dX5_isHand_74 ?_
          refine gr_icmp_eq 113 dX5_isHand_75 (by decide) (by unfold gw_in; omega) (by unfold gw_in; omega) (fun h75 => ?_) (fun h75 => ?_)
          · refine gr_iconst dX5_isHand_113 ?_
            refine gr_goto 118 dX5_isHand_114 (by decide) ?_
            refine gr_iret dX5_isHand_118 (by first | exact Or.inl rfl | exact Or.inr ⟨rfl, by omega⟩) (by decide) (by decide) (⟨by rw [if_pos (em.mpr ⟨by omega, by omega⟩)], rfl⟩)
          · refine gr_iload_n dX5_isHand_78 rfl ?_
            refine gr_stat dX5_isHand_79 kX5_146 (as := [_]) rfl rfl (Nat.le_of_ble_eq_true rfl) (gw_Rm_m (by omega) (by decide) (by decide)) (m_ones (h := h) d (by omega)) ?_
            rintro _ _ ⟨rfl, rfl⟩
            refine gr_iconst dX5_isHand_82 ?_
            refine gr_icmp_ne 117 dX5_isHand_83 (by decide) (by unfold gw_in; omega) (by unfold gw_in; omega) (fun h83 => ?_) (fun h83 => ?_)
            · exact no (fun h => by have := (em.mp h).2; omega) _
            · refine gr_aload_n dX5_isHand_86 rfl ?_
              refine gr_iload_n dX5_isHand_87 rfl ?_
              refine gr_virt dX5_isHand_88 kX5_120 (as := [_]) rfl rfl (by first | assumption | rfl) (by omega) (Nat.le_of_ble_eq_true rfl) (gw_Rm_m (by omega) (by decide) (by decide)) (m_kind (p := p) d hK (by omega)) ?_
              rintro _ _ ⟨rfl, rfl⟩
              rw [r0]
              refine gr_iconst dX5_isHand_91 ?_
              refine gr_icmp_ne 117 dX5_isHand_92 (by decide) (by unfold gw_in; omega) (by unfold gw_in; omega) (fun h92 => ?_) (fun h92 => ?_)
              · exact no (fun h => by have := (em.mp h).2; omega) _
              · refine gr_iload dX5_isHand_95 rfl ?_
                refine gr_iload dX5_isHand_97 rfl ?_
                refine gr_isub dX5_isHand_99 rfl ?_
                refine gr_aload_n dX5_isHand_100 rfl ?_
                refine gr_getR dX5_isHand_101 fX5_7 (by first | assumption | rfl) (by omega) (by decide) rfl (by assumption) ?_
                refine gr_iconst dX5_isHand_104 ?_
                refine gr_iload_n dX5_isHand_105 rfl ?_
                refine gr_imul dX5_isHand_106 rfl ?_
                refine gr_iconst dX5_isHand_107 ?_
                refine gr_iadd dX5_isHand_108 rfl ?_
                refine gr_iald (i := 5 * p + 4) dX5_isHand_109 (by first | assumption | rfl) (by omega) (by omega) (by omega) (by decide) ?_
                rw [r4]
                refine gr_icmp_gt 117 dX5_isHand_110 (by decide) (by unfold gw_in; omega) (by unfold gw_in; omega) (fun h110 => ?_) (fun h110 => ?_)
                · exact no (fun h => by have := (em.mp h).2; omega) _
                · refine gr_iconst dX5_isHand_113 ?_
                  refine gr_goto 118 dX5_isHand_114 (by decide) ?_
                  refine gr_iret dX5_isHand_118 (by first | exact Or.inl rfl | exact Or.inr ⟨rfl, by omega⟩) (by decide) (by decide) (⟨by rw [if_pos (em.mpr ⟨by omega, by omega⟩)], rfl⟩)
  · refine gr_iconst dX5_isHand_4 ?_
    refine gr_iret dX5_isHand_5 (by first | exact Or.inl rfl | exact Or.inr ⟨rfl, by omega⟩) (by decide) (by decide) (⟨by rw [if_pos (by rw [show h = 0 by omega]; simp [gb_man, gb_pc])], rfl⟩)
theorem gm_hdv {k p : Nat} (hp : p < 4) : k / 2 ^ (3 * (3 - p)) % 8 = gs_hd k p := by
  unfold gs_hd
  rw [Nat.pow_mul]
theorem m_handOf {k p : Nat} {μ : gw_M} (d : Nat) (hk : k < 4096) (hp : p < 4) : gw_Met jX5_handOf d [.inl (k : Int), .inl (p : Int)] μ (gw_pu (gs_hd k p : Nat) μ) := by
  refine gw_enter okX5_handOf rfl (Nat.le_of_ble_eq_true rfl) ?_
  refine gr_iload_n dX5_handOf_0 rfl ?_
  refine gr_iconst dX5_handOf_1 ?_
  refine gr_iconst dX5_handOf_2 ?_
  refine gr_iload_n dX5_handOf_3 rfl ?_
  refine gr_isub dX5_handOf_4 rfl ?_
  refine gr_imul (v := ((3 * (3 - p) : Nat) : Int)) dX5_handOf_5 (by omega) ?_
  refine gr_ishr (v := ((k / 2 ^ (3 * (3 - p)) : Nat) : Int)) dX5_handOf_6 (ga_bit (by omega) (by omega)) ?_
  refine gr_bipush dX5_handOf_7 (by decide) ?_
  refine gr_iand (v := ((k / 2 ^ (3 * (3 - p)) % 8 : Nat) : Int)) dX5_handOf_9 (ga_and7 (Int.natCast_nonneg _)) ?_
  refine gr_iret dX5_handOf_10 (by first | exact Or.inl rfl | exact Or.inr ⟨rfl, by omega⟩) (by decide) (by decide) (⟨by rw [gm_hdv hp], rfl⟩)
theorem m_loudOf {k i : Nat} (d : Nat) (hK : gm_K F) (hV : gm_V J P B N S rest) (hS : gm_S P B N S rest) (hk : k < 4096) (hi : i < 3) : gw_Met jX5_loudOf (d + 1) [.inr (some 99), .inl (k : Int), .inl (i : Int)] (114, J, F) (gw_pu (gs_lw B k i 4 P) (114, J, F)) := by
  obtain ⟨g1, g2, g4, g5, g6, g8, g9, g11, g12, g14, g18, g19, g20, g21⟩ := id hK
  obtain ⟨v0, v1, v2, v3, v4⟩ := id hV
  obtain ⟨s1, s2, s3, s4, s5, s6, s7, s8⟩ := id hS
  refine gw_enter okX5_loudOf rfl (Nat.le_of_ble_eq_true rfl) ?_
  refine gr_iconst dX5_loudOf_0 ?_
  refine gr_istore_n dX5_loudOf_1 (by decide) ?_
  refine gr_iconst dX5_loudOf_2 ?_
  refine gr_istore dX5_loudOf_3 (by decide) ?_
  have key : ∀ (n p : Nat) (x5 x6 : Option gw_V), p + n = P → gw_G (gw_Cm jX5_loudOf (d + 1) (gw_pu (gs_lw B k i 4 P) (114, J, F))) jX5_loudOf 5 [some (.inr (some 99)), some (.inl (k : Int)), some (.inl (i : Int)), some (.inl (gs_lw B k i 4 p)), some (.inl (p : Int)), x5, x6] [] (114, J, F) 0 0 := by
    intro n
    induction n with
    | zero =>
      intro p x5 x6 hp
      refine gr_iload dX5_loudOf_5 rfl ?_
      refine gr_aload_n dX5_loudOf_7 rfl ?_
      refine gr_getI dX5_loudOf_8 fX5_63 (by first | assumption | rfl) (by omega) (by decide) rfl ?_
      rw [v0]
      refine gr_icmp_ge 75 dX5_loudOf_11 (by decide) (by unfold gw_in; omega) (by unfold gw_in; omega) (fun h11 => ?_) (fun h11 => ?_)
      · refine gr_iload_n dX5_loudOf_75 rfl ?_
        refine gr_iret dX5_loudOf_76 (by first | exact Or.inl rfl | exact Or.inr ⟨rfl, by omega⟩) (by decide) (by decide) (⟨by rw [show p = P by omega], rfl⟩)
      · omega
    | succ n ih =>
      intro p x5 x6 hp
      have hl := gs_hd_lt k p
      have r3 : J 100 (5 * p + 3) = B 4 p := v1 p (by omega) 3 (by omega)
      obtain ⟨b1, b2, b3, b4, b5, b6, b7, b8, b9, b10⟩ := s3 p (by omega)
      have hbit : gs_hd k p / 2 ^ i % 2 < 2 := Nat.mod_lt _ (by omega)
      have hpc3 : gb_pc (gs_hd k p) ≤ 3 := by unfold gb_pc; omega
      refine gr_iload dX5_loudOf_5 rfl ?_
      refine gr_aload_n dX5_loudOf_7 rfl ?_
      refine gr_getI dX5_loudOf_8 fX5_63 (by first | assumption | rfl) (by omega) (by decide) rfl ?_
      rw [v0]
      refine gr_icmp_ge 75 dX5_loudOf_11 (by decide) (by unfold gw_in; omega) (by unfold gw_in; omega) (fun h11 => ?_) (fun h11 => ?_)
      · omega
      · refine gr_iload_n dX5_loudOf_14 rfl ?_
        refine gr_iload dX5_loudOf_15 rfl ?_
        refine gr_stat dX5_loudOf_17 kX5_152 (as := [_, _]) rfl rfl (Nat.le_of_ble_eq_true rfl) (gw_Rm_m (by omega) (by decide) (by decide)) (m_handOf (k := k) (p := p) d hk (by omega)) ?_
        rintro _ _ ⟨rfl, rfl⟩
        refine gr_istore dX5_loudOf_20 (by decide) ?_
        refine gr_aload_n dX5_loudOf_22 rfl ?_
        refine gr_getR dX5_loudOf_23 fX5_7 (by first | assumption | rfl) (by omega) (by decide) rfl (by assumption) ?_
        refine gr_iconst dX5_loudOf_26 ?_
        refine gr_iload dX5_loudOf_27 rfl ?_
        refine gr_imul dX5_loudOf_29 rfl ?_
        refine gr_iconst dX5_loudOf_30 ?_
        refine gr_iadd dX5_loudOf_31 rfl ?_
        refine gr_iald (i := 5 * p + 3) dX5_loudOf_32 (by first | assumption | rfl) (by omega) (by omega) (by omega) (by decide) ?_
        rw [r3]
        refine gr_istore dX5_loudOf_33 (by decide) ?_
        refine gr_iload_n dX5_loudOf_35 rfl ?_
        refine gr_iload dX5_loudOf_36 rfl ?_
        refine gr_iload_n dX5_loudOf_38 rfl ?_
        refine gr_ishr (v := ((gs_hd k p / 2 ^ i : Nat) : Int)) dX5_loudOf_39 (ga_bit (by omega) (by omega)) ?_
        refine gr_iconst dX5_loudOf_40 ?_
        refine gr_iand (v := ((gs_hd k p / 2 ^ i % 2 : Nat) : Int)) dX5_loudOf_41 (ga_bit1 _) ?_
        refine gr_if_ne 49 dX5_loudOf_42 (by decide) (by unfold gw_in; omega) (fun h42 => ?_) (fun h42 => ?_)
        · refine gr_iload dX5_loudOf_49 rfl ?_
          refine gr_stat dX5_loudOf_51 kX5_146 (as := [_]) rfl rfl (Nat.le_of_ble_eq_true rfl) (gw_Rm_m (by omega) (by decide) (by decide)) (m_ones (h := gs_hd k p) d hl) ?_
          rintro _ _ ⟨rfl, rfl⟩
          refine gr_iconst dX5_loudOf_54 ?_
          refine gr_icmp_ne 65 dX5_loudOf_55 (by decide) (by unfold gw_in; omega) (by unfold gw_in; omega) (fun h55 => ?_) (fun h55 => ?_)
          · have e : gs_lw B k i 4 p + B 4 p = gs_lw B k i 4 (p + 1) := by
              simp only [gs_lw]
              rw [if_pos ⟨by omega, by omega⟩]
              unfold gb_str
              rw [if_neg (by omega)]
            refine gr_iload dX5_loudOf_65 rfl ?_
            refine gr_iadd (v := gs_lw B k i 4 (p + 1)) dX5_loudOf_67 e ?_
            refine gr_istore_n dX5_loudOf_68 (by decide) ?_
            refine gr_iinc (v := ((p + 1 : Nat) : Int)) dX5_loudOf_69 (by decide) rfl (by omega) ?_
            refine gr_goto 5 dX5_loudOf_72 (by decide) ?_
            exact ih (p + 1) _ _ (by omega)
          · have e : gs_lw B k i 4 p + B 4 p / 2 = gs_lw B k i 4 (p + 1) := by
              simp only [gs_lw]
              rw [if_pos ⟨by omega, by omega⟩]
              unfold gb_str
              rw [if_pos (by omega)]
            obtain ⟨wt, hwt⟩ : ∃ w : Nat, B 4 p = (w : Int) := ⟨(B 4 p).toNat, by omega⟩
            have hd : Int32.ofInt (B 4 p) / Int32.ofInt 2 = Int32.ofInt (B 4 p / 2) := by
              have : ∀ w : Nat, w < 10 → Int32.ofInt (w : Int) / Int32.ofInt 2 = Int32.ofInt ((w : Int) / 2) := by decide +kernel
              rw [hwt]
              exact this wt (by omega)
            refine gr_iload dX5_loudOf_58 rfl ?_
            refine gr_iconst dX5_loudOf_60 ?_
            refine gr_idiv (v := B 4 p / 2) dX5_loudOf_61 (by decide) hd ?_
            refine gr_goto 67 dX5_loudOf_62 (by decide) ?_
            refine gr_iadd (v := gs_lw B k i 4 (p + 1)) dX5_loudOf_67 e ?_
            refine gr_istore_n dX5_loudOf_68 (by decide) ?_
            refine gr_iinc (v := ((p + 1 : Nat) : Int)) dX5_loudOf_69 (by decide) rfl (by omega) ?_
            refine gr_goto 5 dX5_loudOf_72 (by decide) ?_
            exact ih (p + 1) _ _ (by omega)
        · have e : gs_lw B k i 4 (p + 1) = gs_lw B k i 4 p := by
            simp only [gs_lw]
            rw [if_neg (fun h => by have := h.2; omega), Int.add_zero]
          refine gr_iconst dX5_loudOf_45 ?_
          refine gr_goto 67 dX5_loudOf_46 (by decide) ?_
          refine gr_iadd (v := gs_lw B k i 4 (p + 1)) dX5_loudOf_67 (by rw [e, Int.add_zero]) ?_
          refine gr_istore_n dX5_loudOf_68 (by decide) ?_
          refine gr_iinc (v := ((p + 1 : Nat) : Int)) dX5_loudOf_69 (by decide) rfl (by omega) ?_
          refine gr_goto 5 dX5_loudOf_72 (by decide) ?_
          exact ih (p + 1) _ _ (by omega)
  exact key P 0 _ _ (by omega)
end GM
