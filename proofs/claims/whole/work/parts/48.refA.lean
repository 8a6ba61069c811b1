/-! THE REFERENCE beside the class: remembers, puts, takes, calls, tells, undo, images -/
section GM
variable {A A' J : Nat → Nat → Int} {F : Nat → Nat → Option Nat} {P n : Nat} {pp pp' : Nat → Nat}
theorem m_remembers {F' : Nat → Nat → Option Nat} (d : Nat) (hC : gc_K F pp) (hC' : gc_K F' pp') (hK : gm_K F') (hR : gm_R A pp J) (hD : gc_D A P n pp) (hu : gu_rem A A' pp pp') : gw_Met jX5_remembers d [.inr (some 99)] (114, J, F') (gw_vo F' (fun J' => (∀ a, a ≠ 99 → a ≠ 102 → J' a = J a) ∧ gm_R A' pp' J')) := by
  obtain ⟨g1, g2, g4, g5, g6, g8, g9, g11, g12, g14, g18, g19, g20, g21⟩ := id hK
  obtain ⟨⟨r1, r2⟩, r3, ⟨r4, r5⟩, r6, ⟨r7, r8⟩, r9, r10⟩ := id hR
  have h5 := hD.2.2.2.1.1
  have hp3 := hD.2.2.2.1.2.2
  have hw := hD.2.1.1.1
  generalize hQ : gw_vo F' (fun J' => (∀ a, a ≠ 99 → a ≠ 102 → J' a = J a) ∧ gm_R A' pp' J') = Q
  obtain ⟨k, hor, hI⟩ := hu
  have hk : k < 10 := by omega
  obtain ⟨-, q2, q3, q4⟩ := gc_pp hC' hk
  have e : ∀ a, a ≠ 0 → a ≠ pp' k → a ≠ pp' k + 1 → A' a = A a := fun a h1 h2 h3 => funext fun b => by rw [hI, if_neg (by omega), if_neg (by omega), if_neg (by omega), if_neg (by omega)]
  have e5 : A' 0 5 = (k : Int) + 1 := by rw [hI, if_pos (by omega)]
  have e10 : A' 0 10 = A 0 10 := by rw [hI, if_neg (by omega), if_neg (by omega), if_neg (by omega), if_neg (by omega)]
  have s4 : ∀ b, b < 4 → A' (pp' k) b = A 19 b := fun b hb => by rw [hI, if_neg (by omega), if_neg (by omega), if_pos (by omega)]
  have sn : ∀ b : Nat, (b : Int) < 3 * A 19 0 → A' (pp' k + 1) b = A 20 b := fun b hb => by rw [hI, if_neg (by omega), if_neg (by omega), if_neg (by omega), if_pos (by omega)]
  -- the copying
  have copy : ∀ J1 : Nat → Nat → Int, (∀ a i, ¬ (a = 99 ∧ i = 3) → a ≠ 102 → J1 a i = J a i) → J1 99 3 = (k : Int) → (∀ j, j < k → gm_Q A J1 (pp' j) 102 (36 * j)) → gw_G (gw_Cm jX5_remembers d Q) jX5_remembers 49 [some (.inr (some 99)), none] [] (114, J1, F') 0 0 ∧ ∀ x, gw_G (gw_Cm jX5_remembers d Q) jX5_remembers 49 [some (.inr (some 99)), x] [] (114, J1, F') 0 0 := by
    intro J1 hJ1 h3 hold
    have loop : ∀ (m i : Nat) (J2 : Nat → Nat → Int), i + m = 36 → (∀ a b, J2 a b = if a = 102 ∧ 36 * k ≤ b ∧ b < 36 * k + i then J 101 (b - 36 * k) else J1 a b) → gw_G (gw_Cm jX5_remembers d Q) jX5_remembers 51 [some (.inr (some 99)), some (.inl (i : Int))] [] (114, J2, F') 0 0 := by
      intro m
      induction m with
      | zero =>
        intro i J2 hi hJ2
        have z3 : J2 99 3 = (k : Int) := by rw [hJ2, if_neg (by omega)]; exact h3
        refine gr_iload_n dX5_remembers_51 rfl ?_
        refine gr_bipush dX5_remembers_52 (by decide) ?_
        refine gr_icmp_ge 83 dX5_remembers_54 (by decide) (by unfold gw_in; omega) (by unfold gw_in; omega) (fun h54 => ?_) (fun h54 => ?_)
        · refine gr_aload_n dX5_remembers_83 rfl ?_
          refine gr_dup dX5_remembers_84 ?_
          refine gr_getI dX5_remembers_85 fX5_66 (by first | assumption | rfl) (by omega) (by decide) rfl ?_
          rw [z3]
          refine gr_iconst dX5_remembers_88 ?_
          refine gr_iadd dX5_remembers_89 rfl ?_
          refine gr_putI dX5_remembers_90 fX5_66 (by first | assumption | rfl) (by omega) (Or.inl rfl) rfl ?_
          refine gr_vret dX5_remembers_93 rfl (by decide) (by decide) ?_
          rw [← hQ]
          have hJo : ∀ a, a ≠ 99 → a ≠ 102 → gw_U J2 99 3 ((k : Int) + 1) a = J a := fun a h1 h2 => by
            rw [gw_U_r h1]; exact funext fun b => by rw [hJ2, if_neg (by omega), hJ1 a b (by omega) h2]
          have hJ9 : ∀ i, i ≠ 3 → gw_U J2 99 3 ((k : Int) + 1) 99 i = J 99 i := fun i h => by rw [gw_U_n (by omega), hJ2, if_neg (by omega), hJ1 99 i (by omega) (by omega)]
          have hJ102 : gw_U J2 99 3 ((k : Int) + 1) 102 = J2 102 := gw_U_r (by omega)
          refine ⟨rfl, _, rfl, hJo, ⟨by rw [hJ9 0 (by omega), e 13 (by omega) (by omega) (by omega)]; exact r1, fun p hp r hr => ?_⟩, gm_Q_e (e 19 (by omega) (by omega) (by omega)) (e 20 (by omega) (by omega) (by omega)) (hJo 101 (by omega) (by omega)) r3, ⟨by rw [gw_U_s, e5], fun j hj => ?_⟩, fun i hi => ⟨by rw [hJo 103 (by omega) (by omega), e 72 (by omega) (by omega) (by omega)]; exact (r6 i hi).1, fun q => ?_⟩, ⟨by rw [hJ9 7 (by omega), e10]; exact r7, fun h hh => ?_⟩, by rw [hJ9 13 (by omega), e 1 (by omega) (by omega) (by omega)]; exact r9, fun i hi => ?_⟩
          · rw [e 13 (by omega) (by omega) (by omega)] at hp
            rw [hJo 100 (by omega) (by omega), e (14 + r) (by omega) (by omega) (by omega)]; exact r2 p hp r hr
          · rw [e5] at hj
            by_cases hjk : j = k
            · subst hjk
              refine gm_Q_J hJ102 (gm_Q_A (k := 19) s4 sn (gm_Q_mv (J := J) (q := 101) (b := 0) (by omega) (fun i hi => ?_) r3))
              rw [hJ2, if_pos (by omega), Nat.zero_add, show 36 * j + i - 36 * j = i by omega]
            · have ho := hold j (by omega)
              obtain ⟨-, t2, t3, t4⟩ := gc_pp hC' (show j < 10 by omega)
              have hne := gc_ppd hC' (show j < 10 by omega) hk hjk
              have w8 : A (pp' j) 0 ≤ 8 := by
                rcases hor with ⟨a1, -, a3⟩ | ⟨a1, a2, a3⟩
                · rw [a3]; exact (hp3 j (by omega)).1.2
                · rw [a3]; unfold gc_rot; rw [if_pos (by omega)]; exact (hp3 (j + 1) (by omega)).1.2
              refine gm_Q_J hJ102 (gm_Q_A (A := A) (k := pp' j) (fun i _ => by rw [e _ (by omega) (by omega) (by omega)]) (fun i _ => by rw [e _ (by omega) (by omega) (by omega)]) (gm_Q_mv (J := J1) (q := 102) (b := 36 * j) w8 (fun i hi => ?_) ho))
              rw [hJ2, if_neg (by omega)]
          · rw [e 72 (by omega) (by omega) (by omega)] at q
            exact gm_Q_e (e _ (by omega) (by omega) (by omega)) (e _ (by omega) (by omega) (by omega)) (hJo 104 (by omega) (by omega)) ((r6 i hi).2 q)
          · rw [e10] at hh
            rw [hJo 105 (by omega) (by omega), hJo 106 (by omega) (by omega), e 73 (by omega) (by omega) (by omega), e 74 (by omega) (by omega) (by omega)]; exact r8 h hh
          · rw [e 1 (by omega) (by omega) (by omega)] at hi
            rw [hJo 109 (by omega) (by omega), e 10 (by omega) (by omega) (by omega)]; exact r10 i hi
        · omega
      | succ m ih =>
        intro i J2 hi hJ2
        have z3 : J2 99 3 = (k : Int) := by rw [hJ2, if_neg (by omega)]; exact h3
        have z1 : J2 101 i = J 101 i := by rw [hJ2, if_neg (by omega), hJ1 101 i (by omega) (by omega)]
        refine gr_iload_n dX5_remembers_51 rfl ?_
        refine gr_bipush dX5_remembers_52 (by decide) ?_
        refine gr_icmp_ge 83 dX5_remembers_54 (by decide) (by unfold gw_in; omega) (by unfold gw_in; omega) (fun h54 => ?_) (fun h54 => ?_)
        · omega
        · refine gr_aload_n dX5_remembers_57 rfl ?_
          refine gr_getR dX5_remembers_58 fX5_16 (by first | assumption | rfl) (by omega) (by decide) rfl (by assumption) ?_
          refine gr_bipush dX5_remembers_61 (by decide) ?_
          refine gr_aload_n dX5_remembers_63 rfl ?_
          refine gr_getI dX5_remembers_64 fX5_66 (by first | assumption | rfl) (by omega) (by decide) rfl ?_
          rw [z3]
          refine gr_imul dX5_remembers_67 rfl ?_
          refine gr_iload_n dX5_remembers_68 rfl ?_
          refine gr_iadd (v := ((36 * k + i : Nat) : Int)) dX5_remembers_69 (by omega) ?_
          refine gr_aload_n dX5_remembers_70 rfl ?_
          refine gr_getR dX5_remembers_71 fX5_13 (by first | assumption | rfl) (by omega) (by decide) rfl (by assumption) ?_
          refine gr_iload_n dX5_remembers_74 rfl ?_
          refine gr_iald (i := i) dX5_remembers_75 (by first | assumption | rfl) (by omega) (by omega) (by omega) (by decide) ?_
          rw [z1]
          refine gr_iast (i := 36 * k + i) dX5_remembers_76 (by first | assumption | rfl) (by omega) (by omega) (by omega) (by decide) ?_
          refine gr_iinc (v := ((i + 1 : Nat) : Int)) dX5_remembers_77 (by decide) rfl (by omega) ?_
          refine gr_goto 51 dX5_remembers_80 (by decide) ?_
          exact ih (i + 1) _ (by omega) (fun a b => by
            unfold gw_U
            by_cases h : a = 102 ∧ b = 36 * k + i
            · rw [if_pos h, if_pos (by omega), show b - 36 * k = i by omega]
            · rw [if_neg h, hJ2]
              by_cases h' : a = 102 ∧ 36 * k ≤ b ∧ b < 36 * k + i
              · rw [if_pos h', if_pos (by omega)]
              · rw [if_neg h', if_neg (by omega)])
    constructor
    · refine gr_iconst dX5_remembers_49 ?_
      refine gr_istore_n dX5_remembers_50 (by decide) ?_
      exact loop 36 0 J1 (by omega) (fun a b => by rw [if_neg (by omega)])
    · intro x
      refine gr_iconst dX5_remembers_49 ?_
      refine gr_istore_n dX5_remembers_50 (by decide) ?_
      exact loop 36 0 J1 (by omega) (fun a b => by rw [if_neg (by omega)])
  refine gw_enter okX5_remembers rfl (Nat.le_of_ble_eq_true rfl) ?_
  refine gr_aload_n dX5_remembers_0 rfl ?_
  refine gr_getI dX5_remembers_1 fX5_66 (by first | assumption | rfl) (by omega) (by decide) rfl ?_
  rw [r4]
  refine gr_bipush dX5_remembers_4 (by decide) ?_
  refine gr_icmp_ne 49 dX5_remembers_6 (by decide) (by unfold gw_in; omega) (by unfold gw_in; omega) (fun h6 => ?_) (fun h6 => ?_)
  · have hk5 : A 0 5 = (k : Int) ∧ pp' = pp := by rcases hor with ⟨a1, -, a3⟩ | ⟨a1, -, -⟩; exact ⟨a1, a3⟩; omega
    exact (copy J (fun _ _ _ _ => rfl) (by rw [r4]; exact hk5.1) (fun j hj => by rw [hk5.2]; exact r5 j (by omega))).1
  · have hk9 : k = 9 ∧ pp' = gc_rot pp := by rcases hor with ⟨a1, a2, -⟩ | ⟨-, a2, a3⟩; omega; exact ⟨a2, a3⟩
    refine gr_iconst dX5_remembers_9 ?_
    refine gr_istore_n dX5_remembers_10 (by decide) ?_
    have loop : ∀ (m i : Nat) (J2 : Nat → Nat → Int), i + m = 324 → (∀ a b, J2 a b = if a = 102 ∧ b < i then J 102 (b + 36) else J a b) → gw_G (gw_Cm jX5_remembers d Q) jX5_remembers 11 [some (.inr (some 99)), some (.inl (i : Int))] [] (114, J2, F') 0 0 := by
      intro m
      induction m with
      | zero =>
        intro i J2 hi hJ2
        have z3 : J2 99 3 = 10 := by rw [hJ2, if_neg (by omega), r4]; exact h6
        refine gr_iload_n dX5_remembers_11 rfl ?_
        refine gr_sipush dX5_remembers_12 (by decide) ?_
        refine gr_icmp_ge 39 dX5_remembers_15 (by decide) (by unfold gw_in; omega) (by unfold gw_in; omega) (fun h15 => ?_) (fun h15 => ?_)
        · refine gr_aload_n dX5_remembers_39 rfl ?_
          refine gr_dup dX5_remembers_40 ?_
          refine gr_getI dX5_remembers_41 fX5_66 (by first | assumption | rfl) (by omega) (by decide) rfl ?_
          rw [z3]
          refine gr_iconst dX5_remembers_44 ?_
          refine gr_isub (v := 9) dX5_remembers_45 (by omega) ?_
          refine gr_putI dX5_remembers_46 fX5_66 (by first | assumption | rfl) (by omega) (Or.inl rfl) rfl ?_
          refine (copy _ (fun a b h1 h2 => by rw [gw_U_n h1, hJ2, if_neg (by omega)]) (by rw [gw_U_s, hk9.1]; rfl) (fun j hj => ?_)).2 _
          rw [hk9.2]
          unfold gc_rot
          rw [if_pos (by omega)]
          refine gm_Q_mv (J := J) (q := 102) (b := 36 * (j + 1)) (hp3 (j + 1) (by omega)).1.2 (fun i hi => ?_) (r5 (j + 1) (by omega))
          rw [gw_U_n (by omega), hJ2, if_pos (by omega)]
          congr 1
          omega
        · omega
      | succ m ih =>
        intro i J2 hi hJ2
        refine gr_iload_n dX5_remembers_11 rfl ?_
        refine gr_sipush dX5_remembers_12 (by decide) ?_
        refine gr_icmp_ge 39 dX5_remembers_15 (by decide) (by unfold gw_in; omega) (by unfold gw_in; omega) (fun h15 => ?_) (fun h15 => ?_)
        · omega
        · refine gr_aload_n dX5_remembers_18 rfl ?_
          refine gr_getR dX5_remembers_19 fX5_16 (by first | assumption | rfl) (by omega) (by decide) rfl (by assumption) ?_
          refine gr_iload_n dX5_remembers_22 rfl ?_
          refine gr_aload_n dX5_remembers_23 rfl ?_
          refine gr_getR dX5_remembers_24 fX5_16 (by first | assumption | rfl) (by omega) (by decide) rfl (by assumption) ?_
          refine gr_iload_n dX5_remembers_27 rfl ?_
          refine gr_bipush dX5_remembers_28 (by decide) ?_
          refine gr_iadd (v := ((i + 36 : Nat) : Int)) dX5_remembers_30 (by omega) ?_
          refine gr_iald (i := i + 36) dX5_remembers_31 (by first | assumption | rfl) (by omega) (by omega) (by omega) (by decide) ?_
          rw [show J2 102 (i + 36) = J 102 (i + 36) by rw [hJ2, if_neg (by omega)]]
          refine gr_iast (i := i) dX5_remembers_32 (by first | assumption | rfl) (by omega) (by omega) (by omega) (by decide) ?_
          refine gr_iinc (v := ((i + 1 : Nat) : Int)) dX5_remembers_33 (by decide) rfl (by omega) ?_
          refine gr_goto 11 dX5_remembers_36 (by decide) ?_
          exact ih (i + 1) _ (by omega) (fun a b => by
            unfold gw_U
            by_cases h : a = 102 ∧ b = i
            · rw [if_pos h, if_pos (by omega), h.2]
            · rw [if_neg h, hJ2]
              by_cases h' : a = 102 ∧ b < i
              · rw [if_pos h', if_pos (by omega)]
              · rw [if_neg h', if_neg (by omega)])
    exact loop 324 0 J (by omega) (fun a b => by rw [if_neg (by omega)])
/-- after remember: what the next step needs -/
theorem gm_rem_A {F' : Nat → Nat → Option Nat} {A1 : Nat → Nat → Int} (hC : gc_K F pp) (hC' : gc_K F' pp') (hD : gc_D A P n pp) (hu : gu_rem A A1 pp pp') : gc_D A1 P n pp' ∧ A1 19 = A 19 ∧ A1 20 = A 20 := by
  obtain ⟨h1, -, h3, h4, -⟩ := gc_D_rem hC hC' hD hu
  exact ⟨h1, h3, h4⟩
theorem gr_mod {C : gw_C} {j : gw_J} {pc : Nat} {ls : List (Option gw_V)} {st : List gw_V} {μ : gw_M} {u w : Nat} {v v' : Int} (h : Int32.ofInt v = Int32.ofInt v') (k : gw_G C j pc ls (.inl v' :: st) μ u w) : gw_G C j pc ls (.inl v :: st) μ u w := by
  intro E p l e R s m args below meth c Z hC hX H locs lsA hP hS hL
  have := k E p l e R s m args below meth c Z hC hX H locs lsA hP hS hL
  rw [List.map_cons] at this ⊢
  rw [show gw_val (gw_a E) (.inl v) = gw_val (gw_a E) (.inl v') by unfold gw_val; simp only [h]]
  exact this
theorem m_areNotes {a b c : Int} {μ : gw_M} (d : Nat) (ha : gw_in a) (hb : gw_in b) (hc : gw_in c) : gw_Met jX5_areNotes (d + 1) [.inl a, .inl b, .inl c] μ (gw_pu (if gc_nts a b c then 1 else 0) μ) := by
  have ha' := ha
  have hb' := hb
  have hc' := hc
  unfold gw_in at ha' hb' hc'
  obtain ⟨a1, x1, x2, x3⟩ : ∃ a1 : Int, Int32.ofInt (a + 1) = Int32.ofInt a1 ∧ gw_in a1 ∧ (0 ≤ a ∧ a ≤ 60 → a1 = a + 1) :=
    ⟨(Int32.ofInt (a + 1)).toInt, (gw_ofInt _).symm, gw_inI _, fun h1 => gw_toInt (by unfold gw_in; omega)⟩
  obtain ⟨b1, y1, y2, y3⟩ : ∃ b1 : Int, Int32.ofInt (b + 1) = Int32.ofInt b1 ∧ gw_in b1 ∧ (0 ≤ b ∧ b ≤ 60 → b1 = b + 1) :=
    ⟨(Int32.ofInt (b + 1)).toInt, (gw_ofInt _).symm, gw_inI _, fun h1 => gw_toInt (by unfold gw_in; omega)⟩
  generalize hQ : gw_pu (if gc_nts a b c then 1 else 0) μ = Q
  have last : ∀ t3 t4 : Int, (t3 = 0 ∨ t3 = 1) → (t4 = 0 ∨ t4 = 1) → (t3 = 1 ↔ (b = -1 ∨ a1 ≤ b ∧ b ≤ 60)) → (t4 = 1 ↔ (c = -1 ∨ b ≠ -1 ∧ b1 ≤ c ∧ c ≤ 60)) → gw_G (gw_Cm jX5_areNotes (d + 1) Q) jX5_areNotes 52 [some (.inl a), some (.inl b), some (.inl c), some (.inl t3), some (.inl t4)] [] μ 0 0 := by
    intro t3 t4 h3 h4 i3 i4
    refine gr_iload_n dX5_areNotes_52 rfl ?_
    refine gr_iconst dX5_areNotes_53 ?_
    refine gr_bipush dX5_areNotes_54 (by decide) ?_
    refine gr_stat dX5_areNotes_56 kX5_72 (as := [_, _, _]) rfl rfl (Nat.le_of_ble_eq_true rfl) (gw_Rm_m (by omega) (by decide) (by decide)) (m_in d ha (by unfold gw_in; omega) (by unfold gw_in; omega)) ?_
    rintro _ _ ⟨rfl, rfl⟩
    by_cases h1 : 0 ≤ a ∧ a ≤ 60
    · have x3 := x3 h1
      rw [if_pos h1]
      refine gr_if_eq 75 dX5_areNotes_59 (by decide) (by unfold gw_in; omega) (fun h59 => ?_) (fun h59 => ?_)
      · omega
      · refine gr_iload_n dX5_areNotes_62 rfl ?_
        refine gr_if_eq 75 dX5_areNotes_63 (by decide) (by unfold gw_in; omega) (fun h63 => ?_) (fun h63 => ?_)
        · refine gr_iconst dX5_areNotes_75 ?_
          refine gr_iret dX5_areNotes_76 (by first | exact Or.inl rfl | exact Or.inr ⟨rfl, by omega⟩) (by decide) (by decide) ((hQ ▸ ⟨by rw [if_neg (by unfold gc_nts; omega)], rfl⟩))
        · refine gr_iload dX5_areNotes_66 rfl ?_
          refine gr_if_eq 75 dX5_areNotes_68 (by decide) (by unfold gw_in; omega) (fun h68 => ?_) (fun h68 => ?_)
          · refine gr_iconst dX5_areNotes_75 ?_
            refine gr_iret dX5_areNotes_76 (by first | exact Or.inl rfl | exact Or.inr ⟨rfl, by omega⟩) (by decide) (by decide) ((hQ ▸ ⟨by rw [if_neg (by unfold gc_nts; omega)], rfl⟩))
          · refine gr_iconst dX5_areNotes_71 ?_
            refine gr_goto 76 dX5_areNotes_72 (by decide) ?_
            refine gr_iret dX5_areNotes_76 (by first | exact Or.inl rfl | exact Or.inr ⟨rfl, by omega⟩) (by decide) (by decide) ((hQ ▸ ⟨by rw [if_pos (by unfold gc_nts; omega)], rfl⟩))
    · rw [if_neg h1]
      refine gr_if_eq 75 dX5_areNotes_59 (by decide) (by unfold gw_in; omega) (fun h59 => ?_) (fun h59 => ?_)
      · refine gr_iconst dX5_areNotes_75 ?_
        refine gr_iret dX5_areNotes_76 (by first | exact Or.inl rfl | exact Or.inr ⟨rfl, by omega⟩) (by decide) (by decide) ((hQ ▸ ⟨by rw [if_neg (by unfold gc_nts; omega)], rfl⟩))
      · omega
  have mid : ∀ t3 : Int, ∀ x4, (t3 = 0 ∨ t3 = 1) → (t3 = 1 ↔ (b = -1 ∨ a1 ≤ b ∧ b ≤ 60)) → gw_G (gw_Cm jX5_areNotes (d + 1) Q) jX5_areNotes 23 [some (.inl a), some (.inl b), some (.inl c), some (.inl t3), x4] [] μ 0 0 := by
    intro t3 x4 h3 i3
    refine gr_iload_n dX5_areNotes_23 rfl ?_
    refine gr_iconst dX5_areNotes_24 ?_
    refine gr_icmp_eq 45 dX5_areNotes_25 (by decide) (by unfold gw_in; omega) (by unfold gw_in; omega) (fun h25 => ?_) (fun h25 => ?_)
    · refine gr_iconst dX5_areNotes_45 ?_
      refine gr_goto 50 dX5_areNotes_46 (by decide) ?_
      refine gr_istore dX5_areNotes_50 (by decide) ?_
      exact last t3 1 h3 (Or.inr rfl) i3 ⟨fun _ => Or.inl h25, fun _ => rfl⟩
    · refine gr_iload_n dX5_areNotes_28 rfl ?_
      refine gr_iconst dX5_areNotes_29 ?_
      refine gr_icmp_eq 49 dX5_areNotes_30 (by decide) (by unfold gw_in; omega) (by unfold gw_in; omega) (fun h30 => ?_) (fun h30 => ?_)
      · refine gr_iconst dX5_areNotes_49 ?_
        refine gr_istore dX5_areNotes_50 (by decide) ?_
        exact last t3 0 h3 (Or.inl rfl) i3 ⟨fun h => by omega, fun h => by omega⟩
      · refine gr_iload_n dX5_areNotes_33 rfl ?_
        refine gr_iload_n dX5_areNotes_34 rfl ?_
        refine gr_iconst dX5_areNotes_35 ?_
        refine gr_iadd dX5_areNotes_36 rfl ?_
        refine gr_mod y1 ?_
        refine gr_bipush dX5_areNotes_37 (by decide) ?_
        refine gr_stat dX5_areNotes_39 kX5_72 (as := [_, _, _]) rfl rfl (Nat.le_of_ble_eq_true rfl) (gw_Rm_m (by omega) (by decide) (by decide)) (m_in d hc y2 (by unfold gw_in; omega)) ?_
        rintro _ _ ⟨rfl, rfl⟩
        by_cases h2 : b1 ≤ c ∧ c ≤ 60
        · rw [if_pos h2]
          refine gr_if_eq 49 dX5_areNotes_42 (by decide) (by unfold gw_in; omega) (fun h42 => ?_) (fun h42 => ?_)
          · omega
          · refine gr_iconst dX5_areNotes_45 ?_
            refine gr_goto 50 dX5_areNotes_46 (by decide) ?_
            refine gr_istore dX5_areNotes_50 (by decide) ?_
            exact last t3 1 h3 (Or.inr rfl) i3 ⟨fun _ => Or.inr ⟨h30, h2⟩, fun _ => rfl⟩
        · rw [if_neg h2]
          refine gr_if_eq 49 dX5_areNotes_42 (by decide) (by unfold gw_in; omega) (fun h42 => ?_) (fun h42 => ?_)
          · refine gr_iconst dX5_areNotes_49 ?_
            refine gr_istore dX5_areNotes_50 (by decide) ?_
            exact last t3 0 h3 (Or.inl rfl) i3 ⟨fun h => by omega, fun h => by omega⟩
          · omega
  refine gw_enter okX5_areNotes rfl (Nat.le_of_ble_eq_true rfl) ?_
  refine gr_iload_n dX5_areNotes_0 rfl ?_
  refine gr_iconst dX5_areNotes_1 ?_
  refine gr_icmp_eq 17 dX5_areNotes_2 (by decide) (by unfold gw_in; omega) (by unfold gw_in; omega) (fun h2 => ?_) (fun h2 => ?_)
  · refine gr_iconst dX5_areNotes_17 ?_
    refine gr_goto 22 dX5_areNotes_18 (by decide) ?_
    refine gr_istore_n dX5_areNotes_22 (by decide) ?_
    exact mid 1 _ (Or.inr rfl) ⟨fun _ => Or.inl h2, fun _ => rfl⟩
  · refine gr_iload_n dX5_areNotes_5 rfl ?_
    refine gr_iload_n dX5_areNotes_6 rfl ?_
    refine gr_iconst dX5_areNotes_7 ?_
    refine gr_iadd dX5_areNotes_8 rfl ?_
    refine gr_mod x1 ?_
    refine gr_bipush dX5_areNotes_9 (by decide) ?_
    refine gr_stat dX5_areNotes_11 kX5_72 (as := [_, _, _]) rfl rfl (Nat.le_of_ble_eq_true rfl) (gw_Rm_m (by omega) (by decide) (by decide)) (m_in d hb x2 (by unfold gw_in; omega)) ?_
    rintro _ _ ⟨rfl, rfl⟩
    by_cases h3 : a1 ≤ b ∧ b ≤ 60
    · rw [if_pos h3]
      refine gr_if_eq 21 dX5_areNotes_14 (by decide) (by unfold gw_in; omega) (fun h14 => ?_) (fun h14 => ?_)
      · omega
      · refine gr_iconst dX5_areNotes_17 ?_
        refine gr_goto 22 dX5_areNotes_18 (by decide) ?_
        refine gr_istore_n dX5_areNotes_22 (by decide) ?_
        exact mid 1 _ (Or.inr rfl) ⟨fun _ => Or.inr h3, fun _ => rfl⟩
    · rw [if_neg h3]
      refine gr_if_eq 21 dX5_areNotes_14 (by decide) (by unfold gw_in; omega) (fun h14 => ?_) (fun h14 => ?_)
      · refine gr_iconst dX5_areNotes_21 ?_
        refine gr_istore_n dX5_areNotes_22 (by decide) ?_
        exact mid 0 _ (Or.inl rfl) ⟨fun h => by omega, fun h => by omega⟩
      · omega
/-- how many notes are told -/
def gm_my (y z : Int) : Nat := if y = -1 then 1 else if z = -1 then 2 else 3
theorem gm_put_Q {A1 J1 J' : Nat → Nat → Int} {c : Nat} {x y z : Int} (hn : gc_nts x y z) (hc : (c : Int) ≤ A1 19 0) (hc8 : c < 8) (hu : gu_put A1 A' c x y z) (hJ : ∀ b, J' 101 b = if b = 0 then (if (c : Int) = A1 19 0 then A1 19 0 + 1 else A1 19 0) else if b = 4 * c + 1 then (gm_my y z : Int) else if b = 4 * c + 2 then x else if b = 4 * c + 3 then y else if b = 4 * c + 4 then z else J1 101 b) (hQ : gm_Q A1 J1 19 101 0) : gm_Q A' J' 19 101 0 := by
  obtain ⟨q1, q2, q3, q4, q5⟩ := hQ
  simp only [Nat.zero_add] at q2 q3 q4 q5
  have e19 : ∀ b, b ≠ 0 → A' 19 b = A1 19 b := fun b h1 => by rw [hu, if_neg (by omega), if_neg (by omega), if_neg (by omega), if_neg (by omega)]
  have es : A' 19 0 = if (c : Int) = A1 19 0 then A1 19 0 + 1 else A1 19 0 := by rw [hu, if_pos (by omega)]
  have ex : A' 20 (3 * c) = x := by rw [hu, if_neg (by omega), if_pos (by omega)]
  have ey : A' 20 (3 * c + 1) = y := by rw [hu, if_neg (by omega), if_neg (by omega), if_pos (by omega)]
  have ez : A' 20 (3 * c + 2) = z := by rw [hu, if_neg (by omega), if_neg (by omega), if_neg (by omega), if_pos (by omega)]
  have eo : ∀ b, ¬ (3 * c ≤ b ∧ b < 3 * c + 3) → A' 20 b = A1 20 b := fun b h1 => by rw [hu, if_neg (by omega), if_neg (by omega), if_neg (by omega), if_neg (by omega)]
  unfold gc_nts at hn
  refine ⟨by rw [hJ, if_pos rfl, es], ?_, ?_, ?_, fun k hk => ?_⟩
  · rw [Nat.zero_add, hJ, if_neg (by omega), if_neg (by omega), if_neg (by omega), if_neg (by omega), if_neg (by omega), e19 1 (by omega)]; exact q2
  · rw [Nat.zero_add, hJ, if_neg (by omega), if_neg (by omega), if_neg (by omega), if_neg (by omega), if_neg (by omega), e19 2 (by omega)]; exact q3
  · rw [Nat.zero_add, hJ, if_neg (by omega), if_neg (by omega), if_neg (by omega), if_neg (by omega), if_neg (by omega), e19 3 (by omega)]; exact q4
  · simp only [Nat.zero_add]
    by_cases hkc : k = c
    · subst hkc
      have ecnt : gp_cnt (A' (19 + 1)) k = gm_my y z := by
        show gp_cnt (A' 20) k = _
        unfold gp_cnt gm_my
        rw [Nat.add_zero, ex, ey, ez, if_neg (by omega)]
      rw [ecnt]
      refine ⟨by rw [hJ, if_neg (by omega), if_pos (by omega)], fun i hi => ?_⟩
      have hm3 : gm_my y z ≤ 3 := by unfold gm_my; split; omega; split <;> omega
      show J' 101 (4 * k + 2 + i) = A' 20 (3 * k + i)
      rcases (show i = 0 ∨ i = 1 ∨ i = 2 by omega) with rfl | rfl | rfl
      · rw [hJ, if_neg (by omega), if_neg (by omega), if_pos (by omega), Nat.add_zero, ex]
      · rw [hJ, if_neg (by omega), if_neg (by omega), if_neg (by omega), if_pos (by omega), ey]
      · rw [hJ, if_neg (by omega), if_neg (by omega), if_neg (by omega), if_neg (by omega), if_pos (by omega), ez]
    · have hk1 : (k : Int) < A1 19 0 := by
        rw [es] at hk
        revert hk
        split <;> omega
      have hN : ∀ i, i < 3 → A' 20 (3 * k + i) = A1 20 (3 * k + i) := fun i hi => eo _ (by omega)
      have ecnt : gp_cnt (A' (19 + 1)) k = gp_cnt (A1 (19 + 1)) k := by
        show gp_cnt (A' 20) k = gp_cnt (A1 20) k
        unfold gp_cnt
        rw [hN 0 (by omega), hN 1 (by omega), hN 2 (by omega)]
      have hc3 := gp_cnt_le (A1 (19 + 1)) k
      obtain ⟨a, b⟩ := q5 k hk1
      rw [ecnt]
      refine ⟨?_, fun i hi => ?_⟩
      · rw [hJ, if_neg (by omega), if_neg (by omega), if_neg (by omega), if_neg (by omega), if_neg (by omega)]; exact a
      · show J' 101 (4 * k + 2 + i) = A' 20 (3 * k + i)
        rw [hJ, if_neg (by omega), if_neg (by omega), if_neg (by omega), if_neg (by omega), if_neg (by omega), hN i (by omega)]; exact b i hi
theorem gm_is {N : Nat → Int} {c : Nat} {x y z : Int} (h0 : 0 ≤ N (3 * c)) (h1 : N (3 * c + 1) = -1 → N (3 * c + 2) = -1) (hn : gc_nts x y z) : (gp_cnt N c = gm_my y z ∧ N (3 * c) = x ∧ (gm_my y z < 2 ∨ N (3 * c + 1) = y) ∧ (gm_my y z < 3 ∨ N (3 * c + 2) = z)) ↔ (N (3 * c) = x ∧ N (3 * c + 1) = y ∧ N (3 * c + 2) = z) := by
  unfold gc_nts at hn
  unfold gp_cnt gm_my
  rw [Nat.add_zero, if_neg (by omega)]
  constructor
  · rintro ⟨a, b, c', d⟩
    revert a c' d
    split <;> split <;> (try split) <;> (try split) <;> omega
  · rintro ⟨a, b, c'⟩
    rw [b, c']
    refine ⟨rfl, a, ?_, ?_⟩
    · exact Or.inr rfl
    · exact Or.inr rfl
theorem gm_u4 {J1 : Nat → Nat → Int} {c : Nat} {m x y z : Int} (b : Nat) : gw_U (gw_U (gw_U (gw_U J1 101 (4 * c + 1) m) 101 (4 * c + 2) x) 101 (4 * c + 3) y) 101 (4 * c + 4) z 101 b = if b = 4 * c + 1 then m else if b = 4 * c + 2 then x else if b = 4 * c + 3 then y else if b = 4 * c + 4 then z else J1 101 b := by
  by_cases h1 : b = 4 * c + 1
  · rw [if_pos h1, gw_U_n (by omega), gw_U_n (by omega), gw_U_n (by omega), h1, gw_U_s]
  · rw [if_neg h1]
    by_cases h2 : b = 4 * c + 2
    · rw [if_pos h2, gw_U_n (by omega), gw_U_n (by omega), h2, gw_U_s]
    · rw [if_neg h2]
      by_cases h3 : b = 4 * c + 3
      · rw [if_pos h3, gw_U_n (by omega), h3, gw_U_s]
      · rw [if_neg h3]
        by_cases h4 : b = 4 * c + 4
        · rw [if_pos h4, h4, gw_U_s]
        · rw [if_neg h4, gw_U_n (by omega), gw_U_n (by omega), gw_U_n (by omega), gw_U_n (by omega)]
theorem m_puts {F' : Nat → Nat → Option Nat} {k x y z : Int} (d : Nat) (hC : gc_K F pp) (hC' : gc_K F' pp') (hK : gm_K F') (hR : gm_R A pp J) (hD : gc_D A P n pp) (hk : gw_in k) (hx : gw_in x) (hy : gw_in y) (hz : gw_in z) (hu : gu_puts A A' pp pp' k x y z) : gw_Met jX5_puts (d + 2) [.inr (some 99), .inl k, .inl x, .inl y, .inl z] (114, J, F') (gw_io F' (fun r J' => r = ga_puts A k x y z ∧ gm_fr J J' ∧ gm_R A' pp' J')) := by
  obtain ⟨g1, g2, g4, g5, g6, g8, g9, g11, g12, g14, g18, g19, g20, g21⟩ := id hK
  obtain ⟨hV, hS, h33, hset, h35, hbal⟩ := gm_R_V hR hD
  obtain ⟨z1, z2⟩ := gm_sz hD
  obtain ⟨v0, v1, v2, v3, v4⟩ := id hV
  obtain ⟨w1, w2, w3, w4, w5⟩ := hD.2.1.1
  have hNN := hD.2.1.2
  rw [← z1] at v2
  have hx' := hx
  have hy' := hy
  have hz' := hz
  unfold gw_in at hx' hy' hz'
  generalize hQ : gw_io F' (fun r J' => r = ga_puts A k x y z ∧ gm_fr J J' ∧ gm_R A' pp' J') = Q
  unfold gu_puts at hu
  have no : ∀ r : Int, ¬ gc_puts A k x y z → r = ga_puts A k x y z → Q (some (.inl r)) (114, J, F') := by
    intro r h1 h2
    rw [if_neg h1] at hu
    rw [← hQ]
    exact ⟨_, _, rfl, rfl, h2, fun _ _ => rfl, by rw [hu.1, hu.2]; exact hR⟩
  have bad : ∀ hb : ¬ ((0 ≤ k ∧ k ≤ A 19 0) ∧ gc_nts x y z), gw_G (gw_Cm jX5_puts (d + 2) Q) jX5_puts 24 [some (.inr (some 99)), some (.inl k), some (.inl x), some (.inl y), some (.inl z), none, none, none] [] (114, J, F') 0 0 := by
    intro hb
    refine gr_iconst dX5_puts_24 ?_
    refine gr_iret dX5_puts_25 (by first | exact Or.inl rfl | exact Or.inr ⟨rfl, by omega⟩) (by decide) (by decide) (no _ (fun h => hb h.1) (by unfold ga_puts; rw [if_neg hb]))
  have hm3 : 1 ≤ gm_my y z ∧ gm_my y z ≤ 3 := by unfold gm_my; split; omega; split <;> omega
  -- it is another one
  have go : ∀ hb : ((0 ≤ k ∧ k ≤ A 19 0) ∧ gc_nts x y z), ¬ (k < A 19 0 ∧ A 20 (3 * k.toNat) = x ∧ A 20 (3 * k.toNat + 1) = y ∧ A 20 (3 * k.toNat + 2) = z) → ∀ x6, gw_G (gw_Cm jX5_puts (d + 2) Q) jX5_puts 115 [some (.inr (some 99)), some (.inl k), some (.inl x), some (.inl y), some (.inl z), some (.inl (gm_my y z : Nat)), x6, none] [] (114, J, F') 0 0 := by
    intro hb hne x6
    refine gr_iconst dX5_puts_115 ?_
    refine gr_istore dX5_puts_116 (by decide) ?_
    refine gr_iload dX5_puts_118 rfl ?_
    refine gr_if_eq 126 dX5_puts_120 (by decide) (by unfold gw_in; omega) (fun h120 => ?_) (fun h120 => ?_)
    · refine gr_iload_n dX5_puts_126 rfl ?_
      refine gr_bipush dX5_puts_127 (by decide) ?_
      refine gr_icmp_ne 135 dX5_puts_129 (by decide) (by unfold gw_in; omega) (by unfold gw_in; omega) (fun h129 => ?_) (fun h129 => ?_)
      · obtain ⟨c, rfl⟩ : ∃ c : Nat, k = (c : Int) := ⟨k.toNat, by omega⟩
        rw [if_pos ⟨hb, hne, by omega⟩, Int.toNat_natCast] at hu
        rw [Int.toNat_natCast] at hne
        obtain ⟨A1, hu1, hu2⟩ := hu
        obtain ⟨hD1, e19, e20⟩ := gm_rem_A hC hC' hD hu1
        refine gr_aload_n dX5_puts_135 rfl ?_
        refine gr_virt dX5_puts_136 kX5_137 (as := []) rfl rfl (by first | assumption | rfl) (by omega) (Nat.le_of_ble_eq_true rfl) (gw_Rm_m (by omega) (by decide) (by decide)) (m_remembers (d + 1) hC hC' hK hR hD hu1) ?_
        rintro _ _ ⟨rfl, J1, rfl, hJ1, hR1⟩
        have j0 : J1 101 0 = A 19 0 := by rw [hJ1 101 (by omega) (by omega)]; exact v2
        refine gr_iconst dX5_puts_139 ?_
        refine gr_iconst dX5_puts_140 ?_
        refine gr_iload_n dX5_puts_141 rfl ?_
        refine gr_imul dX5_puts_142 rfl ?_
        refine gr_iadd (v := ((4 * c + 1 : Nat) : Int)) dX5_puts_143 (by omega) ?_
        refine gr_istore dX5_puts_144 (by decide) ?_
        refine gr_aload_n dX5_puts_146 rfl ?_
        refine gr_getR dX5_puts_147 fX5_13 (by first | assumption | rfl) (by omega) (by decide) rfl (by assumption) ?_
        refine gr_iload dX5_puts_150 rfl ?_
        refine gr_iload dX5_puts_152 rfl ?_
        refine gr_iast (i := 4 * c + 1) dX5_puts_154 (by first | assumption | rfl) (by omega) (by omega) (by omega) (by decide) ?_
        refine gr_aload_n dX5_puts_155 rfl ?_
        refine gr_getR dX5_puts_156 fX5_13 (by first | assumption | rfl) (by omega) (by decide) rfl (by assumption) ?_
        refine gr_iload dX5_puts_159 rfl ?_
        refine gr_iconst dX5_puts_161 ?_
        refine gr_iadd dX5_puts_162 rfl ?_
        refine gr_iload_n dX5_puts_163 rfl ?_
        refine gr_iast (i := 4 * c + 2) dX5_puts_164 (by first | assumption | rfl) (by omega) (by omega) (by omega) (by decide) ?_
        refine gr_aload_n dX5_puts_165 rfl ?_
        refine gr_getR dX5_puts_166 fX5_13 (by first | assumption | rfl) (by omega) (by decide) rfl (by assumption) ?_
        refine gr_iload dX5_puts_169 rfl ?_
        refine gr_iconst dX5_puts_171 ?_
        refine gr_iadd dX5_puts_172 rfl ?_
        refine gr_iload_n dX5_puts_173 rfl ?_
        refine gr_iast (i := 4 * c + 3) dX5_puts_174 (by first | assumption | rfl) (by omega) (by omega) (by omega) (by decide) ?_
        refine gr_aload_n dX5_puts_175 rfl ?_
        refine gr_getR dX5_puts_176 fX5_13 (by first | assumption | rfl) (by omega) (by decide) rfl (by assumption) ?_
        refine gr_iload dX5_puts_179 rfl ?_
        refine gr_iconst dX5_puts_181 ?_
        refine gr_iadd dX5_puts_182 rfl ?_
        refine gr_iload dX5_puts_183 rfl ?_
        refine gr_iast (i := 4 * c + 4) dX5_puts_185 (by first | assumption | rfl) (by omega) (by omega) (by omega) (by decide) ?_
        refine gr_aload_n dX5_puts_186 rfl ?_
        refine gr_getR dX5_puts_187 fX5_13 (by first | assumption | rfl) (by omega) (by decide) rfl (by assumption) ?_
        refine gr_iconst dX5_puts_190 ?_
        refine gr_dup2 dX5_puts_191 ?_
        generalize h4 : gw_U (gw_U (gw_U (gw_U J1 101 (4 * c + 1) ((gm_my y z : Nat) : Int)) 101 (4 * c + 2) x) 101 (4 * c + 3) y) 101 (4 * c + 4) z = J4
        have v4' : ∀ b, J4 101 b = if b = 4 * c + 1 then (gm_my y z : Int) else if b = 4 * c + 2 then x else if b = 4 * c + 3 then y else if b = 4 * c + 4 then z else J1 101 b := by
          intro b; rw [← h4]; exact gm_u4 b
        have o4 : ∀ a, a ≠ 101 → J4 a = J1 a := fun a h => by rw [← h4, gw_U_r h, gw_U_r h, gw_U_r h, gw_U_r h]
        have j40 : J4 101 0 = A 19 0 := by rw [v4', if_neg (by omega), if_neg (by omega), if_neg (by omega), if_neg (by omega)]; exact j0
        have endg : ∀ s0 : Int, s0 = (if (c : Int) = A 19 0 then A 19 0 + 1 else A 19 0) → gw_U J4 101 0 s0 101 0 = s0 ∧ gm_fr J (gw_U J4 101 0 s0) ∧ gm_R A' pp' (gw_U J4 101 0 s0) := by
          intro s0 hs0
          refine ⟨gw_U_s, fun a ha => by rw [gw_U_r (by omega), o4 a (by omega), hJ1 a (by omega) (by omega)], ?_⟩
          refine gm_R_now hC' hD1 (A := A1) (J := J1) (fun a h1 h2 => funext fun b => by rw [hu2, if_neg (by omega), if_neg (by omega), if_neg (by omega), if_neg (by omega)]) (fun a ha => by rw [gw_U_r ha, o4 a ha]) (gm_put_Q (c := c) hb.2 (by rw [e19]; omega) (by omega) hu2 (fun b => ?_) hR1.2.1) hR1
          rw [e19, ← hs0]
          by_cases hb0 : b = 0
          · subst hb0; rw [if_pos rfl, gw_U_s]
          · rw [if_neg hb0, gw_U_n (by omega)]; exact v4' b
        refine gr_iald (i := 0) dX5_puts_192 (by first | assumption | rfl) (by omega) (by omega) (by omega) (by decide) ?_
        rw [j40]
        refine gr_iload_n dX5_puts_193 rfl ?_
        refine gr_aload_n dX5_puts_194 rfl ?_
        refine gr_getR dX5_puts_195 fX5_13 (by first | assumption | rfl) (by omega) (by decide) rfl (by assumption) ?_
        refine gr_iconst dX5_puts_198 ?_
        refine gr_iald (i := 0) dX5_puts_199 (by first | assumption | rfl) (by omega) (by omega) (by omega) (by decide) ?_
        rw [j40]
        have ea : ga_puts A (c : Int) x y z = if (c : Int) = A 19 0 then A 19 0 + 1 else A 19 0 := by
          unfold ga_puts
          rw [if_pos hb, Int.toNat_natCast, if_neg hne, if_pos (by omega)]
        refine gr_icmp_ne 207 dX5_puts_200 (by decide) (by unfold gw_in; omega) (by unfold gw_in; omega) (fun h200 => ?_) (fun h200 => ?_)
        · obtain ⟨q1, q2, q3⟩ := endg (A 19 0) (by rw [if_neg h200])
          refine gr_iconst dX5_puts_207 ?_
          refine gr_iadd (v := A 19 0) dX5_puts_208 (by omega) ?_
          refine gr_iast (i := 0) dX5_puts_209 (by first | assumption | rfl) (by omega) (by omega) (by omega) (by decide) ?_
          refine gr_aload_n dX5_puts_210 rfl ?_
          refine gr_getR dX5_puts_211 fX5_13 (by first | assumption | rfl) (by omega) (by decide) rfl (by assumption) ?_
          refine gr_iconst dX5_puts_214 ?_
          refine gr_iald (i := 0) dX5_puts_215 (by first | assumption | rfl) (by omega) (by omega) (by omega) (by decide) ?_
          rw [q1]
          refine gr_iret dX5_puts_216 (by first | exact Or.inl rfl | exact Or.inr ⟨rfl, by omega⟩) (by decide) (by decide) ((hQ ▸ ⟨_, _, rfl, rfl, by rw [ea, if_neg h200], q2, q3⟩))
        · obtain ⟨q1, q2, q3⟩ := endg (A 19 0 + 1) (by rw [if_pos h200])
          refine gr_iconst dX5_puts_203 ?_
          refine gr_goto 208 dX5_puts_204 (by decide) ?_
          refine gr_iadd dX5_puts_208 rfl ?_
          refine gr_iast (i := 0) dX5_puts_209 (by first | assumption | rfl) (by omega) (by omega) (by omega) (by decide) ?_
          refine gr_aload_n dX5_puts_210 rfl ?_
          refine gr_getR dX5_puts_211 fX5_13 (by first | assumption | rfl) (by omega) (by decide) rfl (by assumption) ?_
          refine gr_iconst dX5_puts_214 ?_
          refine gr_iald (i := 0) dX5_puts_215 (by first | assumption | rfl) (by omega) (by omega) (by omega) (by decide) ?_
          rw [q1]
          refine gr_iret dX5_puts_216 (by first | exact Or.inl rfl | exact Or.inr ⟨rfl, by omega⟩) (by decide) (by decide) ((hQ ▸ ⟨_, _, rfl, rfl, by rw [ea, if_pos h200], q2, q3⟩))
      · refine gr_bipush dX5_puts_132 (by decide) ?_
        refine gr_iret dX5_puts_134 (by first | exact Or.inl rfl | exact Or.inr ⟨rfl, by omega⟩) (by decide) (by decide) (no _ (fun h => by have := h.2.2; omega) (by unfold ga_puts; rw [if_pos hb, if_neg hne, if_neg (by omega)]))
    · omega
  have same : ∀ hb : ((0 ≤ k ∧ k ≤ A 19 0) ∧ gc_nts x y z), (k < A 19 0 ∧ A 20 (3 * k.toNat) = x ∧ A 20 (3 * k.toNat + 1) = y ∧ A 20 (3 * k.toNat + 2) = z) → ∀ x6, gw_G (gw_Cm jX5_puts (d + 2) Q) jX5_puts 111 [some (.inr (some 99)), some (.inl k), some (.inl x), some (.inl y), some (.inl z), some (.inl (gm_my y z : Nat)), x6, none] [] (114, J, F') 0 0 := by
    intro hb he x6
    refine gr_iconst dX5_puts_111 ?_
    refine gr_goto 116 dX5_puts_112 (by decide) ?_
    refine gr_istore dX5_puts_116 (by decide) ?_
    refine gr_iload dX5_puts_118 rfl ?_
    refine gr_if_eq 126 dX5_puts_120 (by decide) (by unfold gw_in; omega) (fun h120 => ?_) (fun h120 => ?_)
    · omega
    · refine gr_bipush dX5_puts_123 (by decide) ?_
      refine gr_iret dX5_puts_125 (by first | exact Or.inl rfl | exact Or.inr ⟨rfl, by omega⟩) (by decide) (by decide) (no _ (fun h => h.2.1 he) (by unfold ga_puts; rw [if_pos hb, if_pos he]))
  have test : ∀ hb : ((0 ≤ k ∧ k ≤ A 19 0) ∧ gc_nts x y z), gw_G (gw_Cm jX5_puts (d + 2) Q) jX5_puts 48 [some (.inr (some 99)), some (.inl k), some (.inl x), some (.inl y), some (.inl z), some (.inl (gm_my y z : Nat)), none, none] [] (114, J, F') 0 0 := by
    intro hb
    refine gr_iload_n dX5_puts_48 rfl ?_
    refine gr_aload_n dX5_puts_49 rfl ?_
    refine gr_getR dX5_puts_50 fX5_13 (by first | assumption | rfl) (by omega) (by decide) rfl (by assumption) ?_
    refine gr_iconst dX5_puts_53 ?_
    refine gr_iald (i := 0) dX5_puts_54 (by first | assumption | rfl) (by omega) (by omega) (by omega) (by decide) ?_
    rw [v2]
    refine gr_icmp_ge 115 dX5_puts_55 (by decide) (by unfold gw_in; omega) (by unfold gw_in; omega) (fun h55 => ?_) (fun h55 => ?_)
    · exact go hb (fun h => by omega) _
    · obtain ⟨c, rfl⟩ : ∃ c : Nat, k = (c : Int) := ⟨k.toNat, by omega⟩
      have hcnt := gp_cnt_le (A 20) c
      obtain ⟨n1, n2⟩ := v3 c (by omega)
      obtain ⟨l1, l2⟩ := w5 c h55
      have hb3 := fun i hi => hNN (3 * c + i) hi
      have b0 := hb3 0 (by omega)
      have b1 := hb3 1 (by omega)
      have b2 := hb3 2 (by omega)
      have is := gm_is (N := A 20) (c := c) l1 l2 hb.2
      have neq : ¬ (A 20 (3 * c) = x ∧ A 20 (3 * c + 1) = y ∧ A 20 (3 * c + 2) = z) → ∀ x6, gw_G (gw_Cm jX5_puts (d + 2) Q) jX5_puts 115 [some (.inr (some 99)), some (.inl (c : Int)), some (.inl x), some (.inl y), some (.inl z), some (.inl (gm_my y z : Nat)), x6, none] [] (114, J, F') 0 0 := fun h x6 => go hb (fun q => h (by rw [Int.toNat_natCast] at q; exact q.2)) x6
      refine gr_aload_n dX5_puts_58 rfl ?_
      refine gr_iload_n dX5_puts_59 rfl ?_
      refine gr_virt dX5_puts_60 kX5_127 (as := [_]) rfl rfl (by first | assumption | rfl) (by omega) (Nat.le_of_ble_eq_true rfl) (gw_Rm_m (by omega) (by decide) (by decide)) (m_notes (c := c) (d + 1) hK (by omega)) ?_
      rintro _ _ ⟨rfl, rfl⟩
      rw [n1]
      refine gr_iload dX5_puts_63 rfl ?_
      refine gr_icmp_ne 115 dX5_puts_65 (by decide) (by unfold gw_in; omega) (by unfold gw_in; omega) (fun h65 => ?_) (fun h65 => ?_)
      · exact neq (fun q => h65 (by rw [(is.mpr q).1])) _
      · have hcm : gp_cnt (A 20) c = gm_my y z := by omega
        refine gr_aload_n dX5_puts_68 rfl ?_
        refine gr_iload_n dX5_puts_69 rfl ?_
        refine gr_iconst dX5_puts_70 ?_
        refine gr_virt dX5_puts_71 kX5_130 (as := [_, _]) rfl rfl (by first | assumption | rfl) (by omega) (Nat.le_of_ble_eq_true rfl) (gw_Rm_m (by omega) (by decide) (by decide)) (m_note (c := c) (i := 0) (d + 1) hK (by omega) (by omega)) ?_
        rintro _ _ ⟨rfl, rfl⟩
        rw [n2 0 (by omega), Nat.add_zero]
        refine gr_iload_n dX5_puts_74 rfl ?_
        refine gr_icmp_ne 115 dX5_puts_75 (by decide) (by unfold gw_in; omega) (by unfold gw_in; omega) (fun h75 => ?_) (fun h75 => ?_)
        · exact neq (fun q => h75 q.1) _
        · have third : (gm_my y z < 2 ∨ A 20 (3 * c + 1) = y) → gw_G (gw_Cm jX5_puts (d + 2) Q) jX5_puts 94 [some (.inr (some 99)), some (.inl (c : Int)), some (.inl x), some (.inl y), some (.inl z), some (.inl (gm_my y z : Nat)), none, none] [] (114, J, F') 0 0 := by
            intro h2
            refine gr_iload dX5_puts_94 rfl ?_
            refine gr_iconst dX5_puts_96 ?_
            refine gr_icmp_lt 111 dX5_puts_97 (by decide) (by unfold gw_in; omega) (by unfold gw_in; omega) (fun h97 => ?_) (fun h97 => ?_)
            · exact same hb (by rw [Int.toNat_natCast]; exact ⟨h55, is.mp ⟨hcm, h75, h2, Or.inl (by omega)⟩⟩) _
            · refine gr_aload_n dX5_puts_100 rfl ?_
              refine gr_iload_n dX5_puts_101 rfl ?_
              refine gr_iconst dX5_puts_102 ?_
              refine gr_virt dX5_puts_103 kX5_130 (as := [_, _]) rfl rfl (by first | assumption | rfl) (by omega) (Nat.le_of_ble_eq_true rfl) (gw_Rm_m (by omega) (by decide) (by decide)) (m_note (c := c) (i := 2) (d + 1) hK (by omega) (by omega)) ?_
              rintro _ _ ⟨rfl, rfl⟩
              rw [n2 2 (by omega)]
              refine gr_iload dX5_puts_106 rfl ?_
              refine gr_icmp_ne 115 dX5_puts_108 (by decide) (by unfold gw_in; omega) (by unfold gw_in; omega) (fun h108 => ?_) (fun h108 => ?_)
              · exact neq (fun q => h108 q.2.2) _
              · exact same hb (by rw [Int.toNat_natCast]; exact ⟨h55, is.mp ⟨hcm, h75, h2, Or.inr h108⟩⟩) _
          refine gr_iload dX5_puts_78 rfl ?_
          refine gr_iconst dX5_puts_80 ?_
          refine gr_icmp_lt 94 dX5_puts_81 (by decide) (by unfold gw_in; omega) (by unfold gw_in; omega) (fun h81 => ?_) (fun h81 => ?_)
          · exact third (Or.inl (by omega))
          · refine gr_aload_n dX5_puts_84 rfl ?_
            refine gr_iload_n dX5_puts_85 rfl ?_
            refine gr_iconst dX5_puts_86 ?_
            refine gr_virt dX5_puts_87 kX5_130 (as := [_, _]) rfl rfl (by first | assumption | rfl) (by omega) (Nat.le_of_ble_eq_true rfl) (gw_Rm_m (by omega) (by decide) (by decide)) (m_note (c := c) (i := 1) (d + 1) hK (by omega) (by omega)) ?_
            rintro _ _ ⟨rfl, rfl⟩
            rw [n2 1 (by omega)]
            refine gr_iload_n dX5_puts_90 rfl ?_
            refine gr_icmp_ne 115 dX5_puts_91 (by decide) (by unfold gw_in; omega) (by unfold gw_in; omega) (fun h91 => ?_) (fun h91 => ?_)
            · exact neq (fun q => h91 q.2.1) _
            · exact third (Or.inr h91)
  refine gw_enter okX5_puts rfl (Nat.le_of_ble_eq_true rfl) ?_
  refine gr_iload_n dX5_puts_0 rfl ?_
  refine gr_iconst dX5_puts_1 ?_
  refine gr_aload_n dX5_puts_2 rfl ?_
  refine gr_getR dX5_puts_3 fX5_13 (by first | assumption | rfl) (by omega) (by decide) rfl (by assumption) ?_
  refine gr_iconst dX5_puts_6 ?_
  refine gr_iald (i := 0) dX5_puts_7 (by first | assumption | rfl) (by omega) (by omega) (by omega) (by decide) ?_
  rw [v2]
  refine gr_stat dX5_puts_8 kX5_72 (as := [_, _, _]) rfl rfl (Nat.le_of_ble_eq_true rfl) (gw_Rm_m (by omega) (by decide) (by decide)) (m_in (d + 1) hk (by unfold gw_in; omega) (by unfold gw_in; omega)) ?_
  rintro _ _ ⟨rfl, rfl⟩
  by_cases h1 : 0 ≤ k ∧ k ≤ A 19 0
  · rw [if_pos h1]
    refine gr_if_eq 24 dX5_puts_11 (by decide) (by unfold gw_in; omega) (fun h11 => ?_) (fun h11 => ?_)
    · omega
    · refine gr_iload_n dX5_puts_14 rfl ?_
      refine gr_iload_n dX5_puts_15 rfl ?_
      refine gr_iload dX5_puts_16 rfl ?_
      refine gr_stat dX5_puts_18 kX5_134 (as := [_, _, _]) rfl rfl (Nat.le_of_ble_eq_true rfl) (gw_Rm_m (by omega) (by decide) (by decide)) (m_areNotes (d + 0) hx hy hz) ?_
      rintro _ _ ⟨rfl, rfl⟩
      by_cases h2 : gc_nts x y z
      · rw [if_pos h2]
        have t := test ⟨h1, h2⟩
        refine gr_if_ne 26 dX5_puts_21 (by decide) (by unfold gw_in; omega) (fun h21 => ?_) (fun h21 => ?_)
        · refine gr_iload_n dX5_puts_26 rfl ?_
          refine gr_iconst dX5_puts_27 ?_
          refine gr_icmp_ne 35 dX5_puts_28 (by decide) (by unfold gw_in; omega) (by unfold gw_in; omega) (fun h28 => ?_) (fun h28 => ?_)
          · refine gr_iload dX5_puts_35 rfl ?_
            refine gr_iconst dX5_puts_37 ?_
            refine gr_icmp_ne 45 dX5_puts_38 (by decide) (by unfold gw_in; omega) (by unfold gw_in; omega) (fun h38 => ?_) (fun h38 => ?_)
            · rw [show gm_my y z = 3 by unfold gm_my; rw [if_neg h28, if_neg h38]] at t
              refine gr_iconst dX5_puts_45 ?_
              refine gr_istore dX5_puts_46 (by decide) ?_
              exact t
            · rw [show gm_my y z = 2 by unfold gm_my; rw [if_neg h28, if_pos h38]] at t
              refine gr_iconst dX5_puts_41 ?_
              refine gr_goto 46 dX5_puts_42 (by decide) ?_
              refine gr_istore dX5_puts_46 (by decide) ?_
              exact t
          · rw [show gm_my y z = 1 by unfold gm_my; rw [if_pos h28]] at t
            refine gr_iconst dX5_puts_31 ?_
            refine gr_goto 46 dX5_puts_32 (by decide) ?_
            refine gr_istore dX5_puts_46 (by decide) ?_
            exact t
        · omega
      · rw [if_neg h2]
        refine gr_if_ne 26 dX5_puts_21 (by decide) (by unfold gw_in; omega) (fun h21 => ?_) (fun h21 => ?_)
        · omega
        · exact bad (fun h => h2 h.2)
  · rw [if_neg h1]
    refine gr_if_eq 24 dX5_puts_11 (by decide) (by unfold gw_in; omega) (fun h11 => ?_) (fun h11 => ?_)
    · exact bad (fun h => h1 h.1)
    · omega
end GM
