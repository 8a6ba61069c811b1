/-! THE REFERENCE reads the text: begins, becomes, readsQuiet, readsPlayer -/
section GM
variable {J : Nat → Nat → Int} {F : Nat → Nat → Option Nat} {T : Nat → Int} {n : Nat}
theorem m_begins (d : Nat) (hK : gm_K F) : gw_Met jX5_begins d [.inr (some 99)] (114, J, F) (gw_vo F (fun J' => ∀ x y, J' x y = if x = 99 ∧ y = 10 then 0 else if x = 108 ∧ y < 36 then (if y = 34 then 5 else if y = 35 then 9 else 0) else J x y)) := by
  obtain ⟨g1, g2, g4, g5, g6, g8, g9, g11, g12, g14, g18, g19, g20, g21⟩ := id hK
  generalize hQ : gw_vo F (fun J' => ∀ x y, J' x y = if x = 99 ∧ y = 10 then 0 else if x = 108 ∧ y < 36 then (if y = 34 then 5 else if y = 35 then 9 else 0) else J x y) = Q
  refine gw_enter okX5_begins rfl (Nat.le_of_ble_eq_true rfl) ?_
  refine gr_aload_n dX5_begins_0 rfl ?_
  refine gr_iconst dX5_begins_1 ?_
  refine gr_putI dX5_begins_2 fX5_59 (by first | assumption | rfl) (by omega) (Or.inl rfl) rfl ?_
  refine gr_iconst dX5_begins_5 ?_
  refine gr_istore_n dX5_begins_6 (by decide) ?_
  have loop : ∀ (m i : Nat) (J2 : Nat → Nat → Int), i + m = 36 → (∀ x y, J2 x y = if x = 99 ∧ y = 10 then 0 else if x = 108 ∧ y < i then 0 else J x y) → gw_G (gw_Cm jX5_begins d Q) jX5_begins 7 [some (.inr (some 99)), some (.inl (i : Int))] [] (114, J2, F) 0 0 := by
    intro m
    induction m with
    | zero =>
      intro i J2 hi hJ2
      refine gr_iload_n dX5_begins_7 rfl ?_
      refine gr_bipush dX5_begins_8 (by decide) ?_
      refine gr_icmp_ge 26 dX5_begins_10 (by decide) (by unfold gw_in; omega) (by unfold gw_in; omega) (fun h10 => ?_) (fun h10 => ?_)
      · refine gr_aload_n dX5_begins_26 rfl ?_
        refine gr_getR dX5_begins_27 fX5_35 (by first | assumption | rfl) (by omega) (by decide) rfl (by assumption) ?_
        refine gr_bipush dX5_begins_30 (by decide) ?_
        refine gr_iconst dX5_begins_32 ?_
        refine gr_iast (i := 34) dX5_begins_33 (by first | assumption | rfl) (by omega) (by omega) (by omega) (by decide) ?_
        refine gr_aload_n dX5_begins_34 rfl ?_
        refine gr_getR dX5_begins_35 fX5_35 (by first | assumption | rfl) (by omega) (by decide) rfl (by assumption) ?_
        refine gr_bipush dX5_begins_38 (by decide) ?_
        refine gr_bipush dX5_begins_40 (by decide) ?_
        refine gr_iast (i := 35) dX5_begins_42 (by first | assumption | rfl) (by omega) (by omega) (by omega) (by decide) ?_
        refine gr_vret dX5_begins_43 rfl (by decide) (by decide) ?_
        rw [← hQ]
        refine ⟨rfl, _, rfl, fun x y => ?_⟩
        by_cases h1 : x = 108 ∧ y = 35
        · rw [if_neg (by omega), if_pos (by omega), if_neg (by omega), if_pos (by omega), h1.1, h1.2, gw_U_s]
        · rw [gw_U_n h1]
          by_cases h2 : x = 108 ∧ y = 34
          · rw [if_neg (by omega), if_pos (by omega), if_pos (by omega), h2.1, h2.2, gw_U_s]
          · rw [gw_U_n h2, hJ2]
            by_cases h3 : x = 99 ∧ y = 10
            · rw [if_pos h3, if_pos h3]
            · rw [if_neg h3, if_neg h3]
              by_cases h4 : x = 108 ∧ y < 36
              · rw [if_pos (by omega), if_pos h4, if_neg (by omega), if_neg (by omega)]
              · rw [if_neg (by omega), if_neg h4]
      · omega
    | succ m ih =>
      intro i J2 hi hJ2
      refine gr_iload_n dX5_begins_7 rfl ?_
      refine gr_bipush dX5_begins_8 (by decide) ?_
      refine gr_icmp_ge 26 dX5_begins_10 (by decide) (by unfold gw_in; omega) (by unfold gw_in; omega) (fun h10 => ?_) (fun h10 => ?_)
      · omega
      · refine gr_aload_n dX5_begins_13 rfl ?_
        refine gr_getR dX5_begins_14 fX5_35 (by first | assumption | rfl) (by omega) (by decide) rfl (by assumption) ?_
        refine gr_iload_n dX5_begins_17 rfl ?_
        refine gr_iconst dX5_begins_18 ?_
        refine gr_iast (i := i) dX5_begins_19 (by first | assumption | rfl) (by omega) (by omega) (by omega) (by decide) ?_
        refine gr_iinc (v := ((i + 1 : Nat) : Int)) dX5_begins_20 (by decide) rfl (by omega) ?_
        refine gr_goto 7 dX5_begins_23 (by decide) ?_
        exact ih (i + 1) _ (by omega) (fun x y => by
          unfold gw_U
          by_cases h : x = 108 ∧ y = i
          · rw [if_pos h, if_neg (by omega), if_pos (by omega)]
          · rw [if_neg h, hJ2]
            by_cases h3 : x = 99 ∧ y = 10
            · rw [if_pos h3, if_pos h3]
            · rw [if_neg h3, if_neg h3]
              by_cases h' : x = 108 ∧ y < i
              · rw [if_pos h', if_pos (by omega)]
              · rw [if_neg h', if_neg (by omega)])
  exact loop 36 0 _ (by omega) (fun x y => by
    unfold gw_U
    by_cases h3 : x = 99 ∧ y = 10
    · rw [if_pos h3, if_pos h3]
    · rw [if_neg h3, if_neg h3, if_neg (by omega)])
/-- what becomes() does -/
def gm_bc (J J' : Nat → Nat → Int) (P : Nat) : Prop := ∀ x y, J' x y = if x = 99 ∧ y = 0 then (P : Int) else if x = 99 ∧ (y = 3 ∨ y = 7) then 0 else if x = 100 ∧ y < 20 then J 107 y else if x = 101 ∧ y = 33 then ((2 ^ P - 1 : Nat) : Int) else if x = 101 ∧ y < 36 then J 108 y else if x = 103 ∧ y < 2 then 0 else J x y
theorem m_becomes {P : Nat} (d : Nat) (hK : gm_K F) (hP : J 99 10 = (P : Int)) (hP4 : P ≤ 4) : gw_Met jX5_becomes d [.inr (some 99)] (114, J, F) (gw_vo F (fun J' => gm_bc J J' P)) := by
  obtain ⟨g1, g2, g4, g5, g6, g8, g9, g11, g12, g14, g18, g19, g20, g21⟩ := id hK
  generalize hQ : gw_vo F (fun J' => gm_bc J J' P) = Q
  have h16 : 2 ^ P ≤ 16 ∧ 1 ≤ 2 ^ P := by rcases (show P = 0 ∨ P = 1 ∨ P = 2 ∨ P = 3 ∨ P = 4 by omega) with rfl | rfl | rfl | rfl | rfl <;> decide
  refine gw_enter okX5_becomes rfl (Nat.le_of_ble_eq_true rfl) ?_
  refine gr_aload_n dX5_becomes_0 rfl ?_
  refine gr_aload_n dX5_becomes_1 rfl ?_
  refine gr_getI dX5_becomes_2 fX5_59 (by first | assumption | rfl) (by omega) (by decide) rfl ?_
  rw [hP]
  refine gr_putI dX5_becomes_5 fX5_63 (by first | assumption | rfl) (by omega) (Or.inl rfl) rfl ?_
  refine gr_iconst dX5_becomes_8 ?_
  refine gr_istore_n dX5_becomes_9 (by decide) ?_
  have loop2 : ∀ (m i : Nat) (J2 : Nat → Nat → Int), i + m = 36 → (∀ x y, J2 x y = if x = 99 ∧ y = 0 then (P : Int) else if x = 100 ∧ y < 20 then J 107 y else if x = 101 ∧ y < i then J 108 y else J x y) → gw_G (gw_Cm jX5_becomes d Q) jX5_becomes 36 [some (.inr (some 99)), some (.inl (i : Int))] [] (114, J2, F) 0 0 := by
    intro m
    induction m with
    | zero =>
      intro i J2 hi hJ2
      refine gr_iload_n dX5_becomes_36 rfl ?_
      refine gr_bipush dX5_becomes_37 (by decide) ?_
      refine gr_icmp_ge 60 dX5_becomes_39 (by decide) (by unfold gw_in; omega) (by unfold gw_in; omega) (fun h39 => ?_) (fun h39 => ?_)
      · refine gr_aload_n dX5_becomes_60 rfl ?_
        refine gr_getR dX5_becomes_61 fX5_13 (by first | assumption | rfl) (by omega) (by decide) rfl (by assumption) ?_
        refine gr_bipush dX5_becomes_64 (by decide) ?_
        refine gr_iconst dX5_becomes_66 ?_
        refine gr_aload_n dX5_becomes_67 rfl ?_
        refine gr_getI dX5_becomes_68 fX5_63 (by first | assumption | rfl) (by omega) (by decide) rfl ?_
        rw [show J2 99 0 = (P : Int) by rw [hJ2, if_pos (by omega)]]
        refine gr_ishl (v := ((2 ^ P : Nat) : Int)) dX5_becomes_71 (by have h := ga_shlN (a := 1) (y := P) (by omega) (by omega); rw [Nat.one_mul] at h; exact h) ?_
        refine gr_iconst dX5_becomes_72 ?_
        refine gr_isub (v := ((2 ^ P - 1 : Nat) : Int)) dX5_becomes_73 (by omega) ?_
        refine gr_iast (i := 33) dX5_becomes_74 (by first | assumption | rfl) (by omega) (by omega) (by omega) (by decide) ?_
        refine gr_aload_n dX5_becomes_75 rfl ?_
        refine gr_iconst dX5_becomes_76 ?_
        refine gr_putI dX5_becomes_77 fX5_66 (by first | assumption | rfl) (by omega) (Or.inl rfl) rfl ?_
        refine gr_aload_n dX5_becomes_80 rfl ?_
        refine gr_iconst dX5_becomes_81 ?_
        refine gr_putI dX5_becomes_82 fX5_69 (by first | assumption | rfl) (by omega) (Or.inl rfl) rfl ?_
        refine gr_aload_n dX5_becomes_85 rfl ?_
        refine gr_getR dX5_becomes_86 fX5_19 (by first | assumption | rfl) (by omega) (by decide) rfl (by assumption) ?_
        refine gr_iconst dX5_becomes_89 ?_
        refine gr_iconst dX5_becomes_90 ?_
        refine gr_zast (i := 0) dX5_becomes_91 (by first | assumption | rfl) (by omega) (by omega) (by omega) (by decide) (by omega) ?_
        refine gr_aload_n dX5_becomes_92 rfl ?_
        refine gr_getR dX5_becomes_93 fX5_19 (by first | assumption | rfl) (by omega) (by decide) rfl (by assumption) ?_
        refine gr_iconst dX5_becomes_96 ?_
        refine gr_iconst dX5_becomes_97 ?_
        refine gr_zast (i := 1) dX5_becomes_98 (by first | assumption | rfl) (by omega) (by omega) (by omega) (by decide) (by omega) ?_
        refine gr_vret dX5_becomes_99 rfl (by decide) (by decide) ?_
        rw [← hQ]
        refine ⟨rfl, _, rfl, fun x y => ?_⟩
        by_cases q1 : x = 103 ∧ y < 2
        · rw [if_neg (by omega), if_neg (by omega), if_neg (by omega), if_neg (by omega), if_neg (by omega), if_pos q1]
          by_cases q2 : y = 1
          · rw [q1.1, q2, gw_U_s]
          · rw [q1.1, show y = 0 by omega, gw_U_n (by omega), gw_U_s]
        · rw [gw_U_n (by omega), gw_U_n (by omega)]
          by_cases q3 : x = 99 ∧ (y = 3 ∨ y = 7)
          · rw [if_neg (by omega), if_pos q3]
            by_cases q2 : y = 7
            · rw [q3.1, q2, gw_U_s]
            · rw [q3.1, show y = 3 by omega, gw_U_n (by omega), gw_U_s]
          · rw [gw_U_n (by omega), gw_U_n (by omega)]
            by_cases q4 : x = 101 ∧ y = 33
            · rw [if_neg (by omega), if_neg (by omega), if_neg (by omega), if_pos q4, q4.1, q4.2, gw_U_s]
            · rw [gw_U_n (by omega), hJ2, if_neg q3, if_neg q4, if_neg q1]
              by_cases q5 : x = 99 ∧ y = 0
              · rw [if_pos q5, if_pos q5]
              · rw [if_neg q5, if_neg q5]
                by_cases q6 : x = 100 ∧ y < 20
                · rw [if_pos q6, if_pos q6]
                · rw [if_neg q6, if_neg q6]
                  by_cases q7 : x = 101 ∧ y < i
                  · rw [if_pos q7, if_pos (by omega)]
                  · rw [if_neg q7, if_neg (by omega)]
      · omega
    | succ m ih =>
      intro i J2 hi hJ2
      refine gr_iload_n dX5_becomes_36 rfl ?_
      refine gr_bipush dX5_becomes_37 (by decide) ?_
      refine gr_icmp_ge 60 dX5_becomes_39 (by decide) (by unfold gw_in; omega) (by unfold gw_in; omega) (fun h39 => ?_) (fun h39 => ?_)
      · omega
      · refine gr_aload_n dX5_becomes_42 rfl ?_
        refine gr_getR dX5_becomes_43 fX5_13 (by first | assumption | rfl) (by omega) (by decide) rfl (by assumption) ?_
        refine gr_iload_n dX5_becomes_46 rfl ?_
        refine gr_aload_n dX5_becomes_47 rfl ?_
        refine gr_getR dX5_becomes_48 fX5_35 (by first | assumption | rfl) (by omega) (by decide) rfl (by assumption) ?_
        refine gr_iload_n dX5_becomes_51 rfl ?_
        refine gr_iald (i := i) dX5_becomes_52 (by first | assumption | rfl) (by omega) (by omega) (by omega) (by decide) ?_
        rw [show J2 108 i = J 108 i by rw [hJ2, if_neg (by omega), if_neg (by omega), if_neg (by omega)]]
        refine gr_iast (i := i) dX5_becomes_53 (by first | assumption | rfl) (by omega) (by omega) (by omega) (by decide) ?_
        refine gr_iinc (v := ((i + 1 : Nat) : Int)) dX5_becomes_54 (by decide) rfl (by omega) ?_
        refine gr_goto 36 dX5_becomes_57 (by decide) ?_
        exact ih (i + 1) _ (by omega) (fun x y => by
          unfold gw_U
          by_cases h : x = 101 ∧ y = i
          · rw [if_pos h, if_neg (by omega), if_neg (by omega), if_pos (by omega), h.2]
          · rw [if_neg h, hJ2]
            by_cases q5 : x = 99 ∧ y = 0
            · rw [if_pos q5, if_pos q5]
            · rw [if_neg q5, if_neg q5]
              by_cases q6 : x = 100 ∧ y < 20
              · rw [if_pos q6, if_pos q6]
              · rw [if_neg q6, if_neg q6]
                by_cases q7 : x = 101 ∧ y < i
                · rw [if_pos q7, if_pos (by omega)]
                · rw [if_neg q7, if_neg (by omega)])
  have loop1 : ∀ (m i : Nat) (J2 : Nat → Nat → Int), i + m = 20 → (∀ x y, J2 x y = if x = 99 ∧ y = 0 then (P : Int) else if x = 100 ∧ y < i then J 107 y else J x y) → gw_G (gw_Cm jX5_becomes d Q) jX5_becomes 10 [some (.inr (some 99)), some (.inl (i : Int))] [] (114, J2, F) 0 0 := by
    intro m
    induction m with
    | zero =>
      intro i J2 hi hJ2
      refine gr_iload_n dX5_becomes_10 rfl ?_
      refine gr_bipush dX5_becomes_11 (by decide) ?_
      refine gr_icmp_ge 34 dX5_becomes_13 (by decide) (by unfold gw_in; omega) (by unfold gw_in; omega) (fun h13 => ?_) (fun h13 => ?_)
      · refine gr_iconst dX5_becomes_34 ?_
        refine gr_istore_n dX5_becomes_35 (by decide) ?_
        exact loop2 36 0 J2 (by omega) (fun x y => by
          rw [hJ2, show i = 20 by omega]
          by_cases q5 : x = 99 ∧ y = 0
          · rw [if_pos q5, if_pos q5]
          · rw [if_neg q5, if_neg q5]
            by_cases q6 : x = 100 ∧ y < 20
            · rw [if_pos q6, if_pos q6]
            · rw [if_neg q6, if_neg q6, if_neg (by omega)])
      · omega
    | succ m ih =>
      intro i J2 hi hJ2
      refine gr_iload_n dX5_becomes_10 rfl ?_
      refine gr_bipush dX5_becomes_11 (by decide) ?_
      refine gr_icmp_ge 34 dX5_becomes_13 (by decide) (by unfold gw_in; omega) (by unfold gw_in; omega) (fun h13 => ?_) (fun h13 => ?_)
      · omega
      · refine gr_aload_n dX5_becomes_16 rfl ?_
        refine gr_getR dX5_becomes_17 fX5_7 (by first | assumption | rfl) (by omega) (by decide) rfl (by assumption) ?_
        refine gr_iload_n dX5_becomes_20 rfl ?_
        refine gr_aload_n dX5_becomes_21 rfl ?_
        refine gr_getR dX5_becomes_22 fX5_32 (by first | assumption | rfl) (by omega) (by decide) rfl (by assumption) ?_
        refine gr_iload_n dX5_becomes_25 rfl ?_
        refine gr_iald (i := i) dX5_becomes_26 (by first | assumption | rfl) (by omega) (by omega) (by omega) (by decide) ?_
        rw [show J2 107 i = J 107 i by rw [hJ2, if_neg (by omega), if_neg (by omega)]]
        refine gr_iast (i := i) dX5_becomes_27 (by first | assumption | rfl) (by omega) (by omega) (by omega) (by decide) ?_
        refine gr_iinc (v := ((i + 1 : Nat) : Int)) dX5_becomes_28 (by decide) rfl (by omega) ?_
        refine gr_goto 10 dX5_becomes_31 (by decide) ?_
        exact ih (i + 1) _ (by omega) (fun x y => by
          unfold gw_U
          by_cases h : x = 100 ∧ y = i
          · rw [if_pos h, if_neg (by omega), if_pos (by omega), h.2]
          · rw [if_neg h, hJ2]
            by_cases q5 : x = 99 ∧ y = 0
            · rw [if_pos q5, if_pos q5]
            · rw [if_neg q5, if_neg q5]
              by_cases q6 : x = 100 ∧ y < i
              · rw [if_pos q6, if_pos (by omega)]
              · rw [if_neg q6, if_neg (by omega)])
  exact loop1 20 0 _ (by omega) (fun x y => by
    unfold gw_U
    by_cases q5 : x = 99 ∧ y = 0
    · rw [if_pos q5, if_pos q5]
    · rw [if_neg q5, if_neg q5, if_neg (by omega)])
/-- what has been read so far, as the reference has it -/
def gm_T (J : Nat → Nat → Int) (st : gt_S) : Prop := J 99 10 = (st.1 : Int) ∧ (∀ p, p < st.1 → ∀ r, r < 5 → J 107 (5 * p + r) = st.2.1 (r + 1) p) ∧ J 108 0 = (st.2.2.1 : Int) ∧ (∀ c, c < st.2.2.1 → J 108 (4 * c + 1) = (gp_cnt st.2.2.2.1 c : Int) ∧ ∀ i, i < gp_cnt st.2.2.2.1 c → J 108 (4 * c + 2 + i) = st.2.2.2.1 (3 * c + i)) ∧ J 108 34 = st.2.2.2.2.1 ∧ J 108 35 = st.2.2.2.2.2.1 ∧ J 99 17 = (if st.2.2.2.2.2.2 = true then 1 else 0)
def gm_b (st : gt_S) : Prop := st.1 ≤ 4 ∧ st.2.2.1 ≤ 8 ∧ ∀ p, p < st.1 → 0 ≤ st.2.1 1 p ∧ st.2.1 1 p ≤ 2
/-- reading leaves the rest alone -/
def gm_pf (J J' : Nat → Nat → Int) : Prop := ∀ x y, ¬ (x = 99 ∧ (y = 10 ∨ 15 ≤ y ∧ y ≤ 17)) → x ≠ 107 → x ≠ 108 → J' x y = J x y
def gm_ir (J' : Nat → Nat → Int) (T : Nat → Int) (n : Nat) (o : Nat ⊕ (Nat × gt_S)) (r : Int) : Prop := (r = 0 ∧ ∃ f : Nat, o = .inl f ∧ J' 99 15 = (f : Int)) ∨ (r = 1 ∧ ∃ (e : Nat) (st' : gt_S), o = gt_end T n e st' ∧ J' 99 15 = (e : Int) ∧ e ≤ n ∧ gm_T J' st' ∧ gm_b st')
theorem gm_pf_t {J' : Nat → Nat → Int} (h : gm_pf J J') (hT : gm_t J T n) : gm_t J' T n := gm_t_c hT (h 99 13 (by omega) (by omega) (by omega)) (funext fun y => h 109 y (by omega) (by omega) (by omega))
theorem gb_bw_up {K : Nat → Int} : ∀ m : Nat, gb_bw K m ≤ m
  | 0 => by simp [gb_bw]
  | m + 1 => by
    have := gb_bw_up (K := K) m
    simp only [gb_bw]
    split <;> omega
theorem m_readsQuiet {a : Nat} {st : gt_S} (d : Nat) (hK : gm_K F) (hT : gm_t J T n) (ha : J 99 15 = (a : Int)) (han : a < n) (hS : gm_T J st) (hb : gm_b st) : gw_Met jX5_readsQuiet (d + 2) [.inr (some 99)] (114, J, F) (gw_io F (fun r J' => (r = 0 ∨ r = 1) ∧ gm_pf J J' ∧ gm_ir J' T n (gt_rules T n st a) r)) := by
  obtain ⟨g1, g2, g4, g5, g6, g8, g9, g11, g12, g14, g18, g19, g20, g21⟩ := id hK
  obtain ⟨s1, s2, s3, s4, s5, s6, s7⟩ := id hS
  generalize hQ : gw_io F (fun r J' => (r = 0 ∨ r = 1) ∧ gm_pf J J' ∧ gm_ir J' T n (gt_rules T n st a) r) = Q
  unfold gt_rules at hQ
  refine gw_enter okX5_readsQuiet rfl (Nat.le_of_ble_eq_true rfl) ?_
  refine gr_aload_n dX5_readsQuiet_0 rfl ?_
  refine gr_getI dX5_readsQuiet_1 fX5_96 (by first | assumption | rfl) (by omega) (by decide) rfl ?_
  rw [s7]
  by_cases hq : st.2.2.2.2.2.2 = true
  · rw [if_pos hq] at hQ ⊢
    refine gr_if_eq 9 dX5_readsQuiet_4 (by decide) (by unfold gw_in; omega) (fun h4 => ?_) (fun h4 => ?_)
    · omega
    · refine gr_iconst dX5_readsQuiet_7 ?_
      refine gr_iret dX5_readsQuiet_8 (by first | exact Or.inl rfl | exact Or.inr ⟨rfl, by omega⟩) (by decide) (by decide) ((hQ ▸ ⟨_, _, rfl, rfl, Or.inl rfl, fun _ _ _ _ _ => rfl, Or.inl ⟨rfl, a, rfl, ha⟩⟩))
  · rw [if_neg hq] at hQ ⊢
    refine gr_if_eq 9 dX5_readsQuiet_4 (by decide) (by unfold gw_in; omega) (fun h4 => ?_) (fun h4 => ?_)
    · refine gr_aload_n dX5_readsQuiet_9 rfl ?_
      refine gr_dup dX5_readsQuiet_10 ?_
      refine gr_getI dX5_readsQuiet_11 fX5_79 (by first | assumption | rfl) (by omega) (by decide) rfl ?_
      rw [ha]
      refine gr_iconst dX5_readsQuiet_14 ?_
      refine gr_iadd (v := ((a + 1 : Nat) : Int)) dX5_readsQuiet_15 (by omega) ?_
      refine gr_putI dX5_readsQuiet_16 fX5_79 (by first | assumption | rfl) (by omega) (Or.inl rfl) rfl ?_
      refine gr_aload_n dX5_readsQuiet_19 rfl ?_
      refine gr_iconst dX5_readsQuiet_20 ?_
      refine gr_putI dX5_readsQuiet_21 fX5_96 (by first | assumption | rfl) (by omega) (Or.inr ⟨rfl, Or.inr rfl⟩) rfl ?_
      refine gr_aload_n dX5_readsQuiet_24 rfl ?_
      refine gr_iconst dX5_readsQuiet_25 ?_
      refine gr_bipush dX5_readsQuiet_26 (by decide) ?_
      generalize hJ1 : gw_U (gw_U J 99 15 ((a + 1 : Nat) : Int)) 99 17 1 = J1
      have o1 : ∀ x y, ¬ (x = 99 ∧ (y = 15 ∨ y = 17)) → J1 x y = J x y := fun x y h => by rw [← hJ1, gw_U_n (by omega), gw_U_n (by omega)]
      have p1 : gm_pf J J1 := fun x y h1 h2 h3 => o1 x y (by omega)
      have a1 : J1 99 15 = ((a + 1 : Nat) : Int) := by rw [← hJ1, gw_U_n (by omega), gw_U_s]
      have a17 : J1 99 17 = 1 := by rw [← hJ1, gw_U_s]
      refine gr_virt dX5_readsQuiet_28 kX5_92 (as := [_, _]) rfl rfl (by first | assumption | rfl) (by omega) (Nat.le_of_ble_eq_true rfl) (gw_Rm_m (by omega) (by decide) (by decide)) (m_reads (a := a + 1) (lo := 0) (hi := 20) d hK (gm_pf_t p1 hT) a1 (by omega) (by omega) (by omega)) ?_
      rintro _ _ ⟨r, J2, rfl, rfl, h01, o2, hrd⟩
      have p2 : gm_pf J J2 := fun x y h1 h2 h3 => by rw [o2 x y (by omega), p1 x y h1 h2 h3]
      unfold gm_rd at hrd
      cases hn1 : gt_num T n 0 20 (a + 1) with
      | none =>
        rw [hn1] at hrd hQ
        obtain ⟨rfl, z15⟩ := hrd
        refine gr_if_ne 36 dX5_readsQuiet_31 (by decide) (by unfold gw_in; omega) (fun h31 => ?_) (fun h31 => ?_)
        · omega
        · refine gr_iconst dX5_readsQuiet_34 ?_
          refine gr_iret dX5_readsQuiet_35 (by first | exact Or.inl rfl | exact Or.inr ⟨rfl, by omega⟩) (by decide) (by decide) ((hQ ▸ ⟨_, _, rfl, rfl, Or.inl rfl, p2, Or.inl ⟨rfl, _, rfl, z15⟩⟩))
      | some q =>
        obtain ⟨e1, v1⟩ := q
        rw [hn1] at hrd hQ
        obtain ⟨rfl, z15, z16⟩ := hrd
        have b1 := gt_num_in hn1 (by omega)
        simp only at z15 z16 hQ
        refine gr_if_ne 36 dX5_readsQuiet_31 (by decide) (by unfold gw_in; omega) (fun h31 => ?_) (fun h31 => ?_)
        · refine gr_aload_n dX5_readsQuiet_36 rfl ?_
          refine gr_getR dX5_readsQuiet_37 fX5_35 (by first | assumption | rfl) (by omega) (by decide) rfl (by assumption) ?_
          refine gr_bipush dX5_readsQuiet_40 (by decide) ?_
          refine gr_aload_n dX5_readsQuiet_42 rfl ?_
          refine gr_getI dX5_readsQuiet_43 fX5_86 (by first | assumption | rfl) (by omega) (by decide) rfl ?_
          rw [z16]
          refine gr_iast (i := 34) dX5_readsQuiet_46 (by first | assumption | rfl) (by omega) (by omega) (by omega) (by decide) ?_
          refine gr_aload_n dX5_readsQuiet_47 rfl ?_
          refine gr_iconst dX5_readsQuiet_48 ?_
          refine gr_bipush dX5_readsQuiet_49 (by decide) ?_
          generalize hJ3 : gw_U J2 108 34 v1 = J3
          have o3 : ∀ x y, ¬ (x = 108 ∧ y = 34) → J3 x y = J2 x y := fun x y h => by rw [← hJ3, gw_U_n h]
          have p3 : gm_pf J J3 := fun x y h1 h2 h3 => by rw [o3 x y (by omega), p2 x y h1 h2 h3]
          refine gr_virt dX5_readsQuiet_51 kX5_92 (as := [_, _]) rfl rfl (by first | assumption | rfl) (by omega) (Nat.le_of_ble_eq_true rfl) (gw_Rm_m (by omega) (by decide) (by decide)) (m_reads (a := e1) (lo := 0) (hi := 30) d hK (gm_pf_t p3 hT) (by rw [o3 99 15 (by omega)]; exact z15) (by omega) (by omega) (by omega)) ?_
          rintro _ _ ⟨r, J4, rfl, rfl, h01, o4, hrd⟩
          have p4 : gm_pf J J4 := fun x y h1 h2 h3 => by rw [o4 x y (by omega), p3 x y h1 h2 h3]
          unfold gm_rd at hrd
          cases hn2 : gt_num T n 0 30 e1 with
          | none =>
            rw [hn2] at hrd hQ
            obtain ⟨rfl, w15⟩ := hrd
            refine gr_if_ne 59 dX5_readsQuiet_54 (by decide) (by unfold gw_in; omega) (fun h54 => ?_) (fun h54 => ?_)
            · omega
            · refine gr_iconst dX5_readsQuiet_57 ?_
              refine gr_iret dX5_readsQuiet_58 (by first | exact Or.inl rfl | exact Or.inr ⟨rfl, by omega⟩) (by decide) (by decide) ((hQ ▸ ⟨_, _, rfl, rfl, Or.inl rfl, p4, Or.inl ⟨rfl, _, rfl, w15⟩⟩))
          | some q =>
            obtain ⟨e2, v2⟩ := q
            rw [hn2] at hrd hQ
            obtain ⟨rfl, w15, w16⟩ := hrd
            have b2 := gt_num_in hn2 (by omega)
            simp only at w15 w16 hQ
            refine gr_if_ne 59 dX5_readsQuiet_54 (by decide) (by unfold gw_in; omega) (fun h54 => ?_) (fun h54 => ?_)
            · refine gr_aload_n dX5_readsQuiet_59 rfl ?_
              refine gr_getR dX5_readsQuiet_60 fX5_35 (by first | assumption | rfl) (by omega) (by decide) rfl (by assumption) ?_
              refine gr_bipush dX5_readsQuiet_63 (by decide) ?_
              refine gr_aload_n dX5_readsQuiet_65 rfl ?_
              refine gr_getI dX5_readsQuiet_66 fX5_86 (by first | assumption | rfl) (by omega) (by decide) rfl ?_
              rw [w16]
              refine gr_iast (i := 35) dX5_readsQuiet_69 (by first | assumption | rfl) (by omega) (by omega) (by omega) (by decide) ?_
              refine gr_iconst dX5_readsQuiet_70 ?_
              refine gr_iret dX5_readsQuiet_71 (by first | exact Or.inl rfl | exact Or.inr ⟨rfl, by omega⟩) (by decide) (by decide) ?_
              rw [← hQ]
              have o5 : ∀ x y, ¬ (x = 99 ∧ 15 ≤ y ∧ y ≤ 17) → ¬ (x = 108 ∧ (y = 34 ∨ y = 35)) → gw_U J4 108 35 v2 x y = J x y := fun x y h1 h2 => by
                rw [gw_U_n (by omega), o4 x y (by omega), o3 x y (by omega), o2 x y (by omega), o1 x y (by omega)]
              refine ⟨_, _, rfl, rfl, Or.inr rfl, fun x y h1 h2 h3 => by rw [gw_U_n (by omega), p4 x y h1 h2 h3], Or.inr ⟨rfl, e2, _, rfl, by rw [gw_U_n (by omega)]; exact w15, by omega, ⟨?_, fun p hp r hr => ?_, ?_, fun c hc => ?_, ?_, gw_U_s, ?_⟩, hb⟩⟩
              · rw [o5 99 10 (by omega) (by omega)]; exact s1
              · rw [o5 107 _ (by omega) (by omega)]; exact s2 p hp r hr
              · rw [o5 108 0 (by omega) (by omega)]; exact s3
              · obtain ⟨u1, u2⟩ := s4 c hc
                have := gp_cnt_le st.2.2.2.1 c
                have hc : c < st.2.2.1 := hc
                have := hb.2.1
                refine ⟨?_, fun i hi => ?_⟩
                · rw [o5 108 _ (by omega) (by omega)]; exact u1
                · have hi : i < gp_cnt st.2.2.2.1 c := hi
                  rw [o5 108 _ (by omega) (by omega)]; exact u2 i hi
              · rw [gw_U_n (by omega), o4 108 34 (by omega), ← hJ3, gw_U_s]; rfl
              · rw [gw_U_n (by omega), o4 99 17 (by omega), o3 99 17 (by omega), o2 99 17 (by omega), a17]; rfl
            · omega
        · omega
    · omega
end GM
