/-! THE REFERENCE reads the text: readsChord, item -/
section GM
variable {J : Nat → Nat → Int} {F : Nat → Nat → Option Nat} {T : Nat → Int} {n : Nat}
/-- a chord's row is being filled -/
def gm_c5 (J J' : Nat → Nat → Int) (S : Nat) : Prop := ∀ x y, ¬ (x = 99 ∧ (y = 15 ∨ y = 16)) → ¬ (x = 108 ∧ 4 * S + 1 ≤ y ∧ y < 4 * S + 5) → J' x y = J x y
theorem gm_c5_pf {J' : Nat → Nat → Int} {S : Nat} (h : gm_c5 J J' S) : gm_pf J J' := fun x y h1 h2 h3 => h x y (by omega) (by omega)
theorem gm_T_put {J9 : Nat → Nat → Int} {st : gt_S} {x y z m s : Int} (hS : gm_T J st) (hb : gm_b st) (h8 : st.2.2.1 < 8) (p9 : gm_c5 J J9 st.2.2.1) (hm : m = (gm_my y z : Int)) (hx : 0 ≤ x) (hy : y = -1 ∨ 0 ≤ y) (hz : z = -1 ∨ 0 ≤ z) (hs : s = ((st.2.2.1 + 1 : Nat) : Int)) (q1 : J9 108 (4 * st.2.2.1 + 2) = x) (q2 : 1 < gm_my y z → J9 108 (4 * st.2.2.1 + 3) = y) (q3 : 2 < gm_my y z → J9 108 (4 * st.2.2.1 + 4) = z) : gm_T (gw_U (gw_U J9 108 (4 * st.2.2.1 + 1) m) 108 0 s) (gt_put st x y z) ∧ gm_b (gt_put st x y z) ∧ gm_pf J (gw_U (gw_U J9 108 (4 * st.2.2.1 + 1) m) 108 0 s) := by
  obtain ⟨s1, s2, s3, s4, s5, s6, s7⟩ := hS
  obtain ⟨b1, b2, b3⟩ := id hb
  generalize hSS : st.2.2.1 = S at *
  have oA : ∀ a b, ¬ (a = 99 ∧ (b = 15 ∨ b = 16)) → ¬ (a = 108 ∧ (b = 0 ∨ 4 * S + 1 ≤ b ∧ b < 4 * S + 5)) → gw_U (gw_U J9 108 (4 * S + 1) m) 108 0 s a b = J a b := fun a b h1 h2 => by
    rw [gw_U_n (by omega), gw_U_n (by omega), p9 a b h1 (by omega)]
  have o8 : ∀ b, b ≠ 0 → b ≠ 4 * S + 1 → gw_U (gw_U J9 108 (4 * S + 1) m) 108 0 s 108 b = J9 108 b := fun b h1 h2 => by rw [gw_U_n (by omega), gw_U_n (by omega)]
  have hN : ∀ i, (gt_put st x y z).2.2.2.1 i = if i = 3 * S then x else if i = 3 * S + 1 then y else if i = 3 * S + 2 then z else st.2.2.2.1 i := fun i => by rw [← hSS]; rfl
  refine ⟨⟨?_, fun p hp r hr => ?_, ?_, fun c hc => ?_, ?_, ?_, ?_⟩, ⟨b1, by show st.2.2.1 + 1 ≤ 8; omega, b3⟩, fun a b h1 h2 h3 => oA a b (by omega) (by omega)⟩
  · rw [oA 99 10 (by omega) (by omega)]; exact s1
  · rw [oA 107 _ (by omega) (by omega)]; exact s2 p hp r hr
  · rw [gw_U_s, hs, ← hSS]; rfl
  · have hc : c < S + 1 := by rw [← hSS]; exact hc
    by_cases hcS : c = S
    · subst hcS
      have ecnt : gp_cnt (gt_put st x y z).2.2.2.1 c = gm_my y z := by
        unfold gp_cnt gm_my
        rw [show (gt_put st x y z).2.2.2.1 (3 * c + 0) = x by rw [hN, if_pos (by omega)], show (gt_put st x y z).2.2.2.1 (3 * c + 1) = y by rw [hN, if_neg (by omega), if_pos (by omega)], show (gt_put st x y z).2.2.2.1 (3 * c + 2) = z by rw [hN, if_neg (by omega), if_neg (by omega), if_pos (by omega)], if_neg (by omega)]
      have hm3 : gm_my y z ≤ 3 := by unfold gm_my; split; omega; split <;> omega
      rw [ecnt]
      refine ⟨by rw [gw_U_n (by omega), gw_U_s]; exact hm, fun i hi => ?_⟩
      rw [o8 _ (by omega) (by omega), hN]
      rcases (show i = 0 ∨ i = 1 ∨ i = 2 by omega) with rfl | rfl | rfl
      · rw [if_pos (by omega)]; exact q1
      · rw [if_neg (by omega), if_pos (by omega)]; exact q2 hi
      · rw [if_neg (by omega), if_neg (by omega), if_pos (by omega)]; exact q3 hi
    · have hNo : ∀ i, i < 3 → (gt_put st x y z).2.2.2.1 (3 * c + i) = st.2.2.2.1 (3 * c + i) := fun i hi => by rw [hN, if_neg (by omega), if_neg (by omega), if_neg (by omega)]
      have ecnt : gp_cnt (gt_put st x y z).2.2.2.1 c = gp_cnt st.2.2.2.1 c := by
        unfold gp_cnt
        rw [hNo 0 (by omega), hNo 1 (by omega), hNo 2 (by omega)]
      have hc3 := gp_cnt_le st.2.2.2.1 c
      obtain ⟨u1, u2⟩ := s4 c (by omega)
      rw [ecnt]
      refine ⟨?_, fun i hi => ?_⟩
      · rw [oA 108 _ (by omega) (by omega)]; exact u1
      · rw [oA 108 _ (by omega) (by omega), hNo i (by omega)]; exact u2 i hi
  · rw [oA 108 34 (by omega) (by omega)]; exact s5
  · rw [oA 108 35 (by omega) (by omega)]; exact s6
  · rw [oA 99 17 (by omega) (by omega)]; exact s7
theorem m_readsChord {a : Nat} {st : gt_S} (d : Nat) (hK : gm_K F) (hT : gm_t J T n) (ha : J 99 15 = (a : Int)) (han : a < n) (hS : gm_T J st) (hb : gm_b st) : gw_Met jX5_readsChord (d + 2) [.inr (some 99)] (114, J, F) (gw_io F (fun r J' => (r = 0 ∨ r = 1) ∧ gm_pf J J' ∧ gm_ir J' T n (gt_chord T n st a) r)) := by
  obtain ⟨g1, g2, g4, g5, g6, g8, g9, g11, g12, g14, g18, g19, g20, g21⟩ := id hK
  obtain ⟨s1, s2, s3, s4, s5, s6, s7⟩ := id hS
  obtain ⟨b1, b2, b3⟩ := id hb
  generalize hQ : gw_io F (fun r J' => (r = 0 ∨ r = 1) ∧ gm_pf J J' ∧ gm_ir J' T n (gt_chord T n st a) r) = Q
  unfold gt_chord at hQ
  refine gw_enter okX5_readsChord rfl (Nat.le_of_ble_eq_true rfl) ?_
  refine gr_aload_n dX5_readsChord_0 rfl ?_
  refine gr_getR dX5_readsChord_1 fX5_35 (by first | assumption | rfl) (by omega) (by decide) rfl (by assumption) ?_
  refine gr_iconst dX5_readsChord_4 ?_
  refine gr_iald (i := 0) dX5_readsChord_5 (by first | assumption | rfl) (by omega) (by omega) (by omega) (by decide) ?_
  rw [s3]
  refine gr_bipush dX5_readsChord_6 (by decide) ?_
  refine gr_icmp_ne 13 dX5_readsChord_8 (by decide) (by unfold gw_in; omega) (by unfold gw_in; omega) (fun h8 => ?_) (fun h8 => ?_)
  · have h7 : st.2.2.1 < 8 := by omega
    rw [if_neg (by omega)] at hQ
    -- the end
    have fin : ∀ (J9 : Nat → Nat → Int) (e : Nat) (w x y z : Int), gm_c5 J J9 st.2.2.1 → 0 ≤ x → (y = -1 ∨ 0 ≤ y) → (z = -1 ∨ 0 ≤ z) → J9 108 (4 * st.2.2.1 + 2) = x → (1 < gm_my y z → J9 108 (4 * st.2.2.1 + 3) = y) → (2 < gm_my y z → J9 108 (4 * st.2.2.1 + 4) = z) → J9 99 15 = (e : Int) → e ≤ n → (gw_io F (fun r J' => (r = 0 ∨ r = 1) ∧ gm_pf J J' ∧ gm_ir J' T n (gt_end T n e (gt_put st x y z)) r) = Q) → gw_G (gw_Cm jX5_readsChord (d + 2) Q) jX5_readsChord 93 [some (.inr (some 99)), some (.inl ((4 * st.2.2.1 + 1 : Nat) : Int)), some (.inl (gm_my y z : Int)), some (.inl w)] [] (114, J9, F) 0 0 := by
      intro J9 e w x y z p9 hx hy hz q1 q2 q3 q15 hen hQ9
      refine gr_aload_n dX5_readsChord_93 rfl ?_
      refine gr_getR dX5_readsChord_94 fX5_35 (by first | assumption | rfl) (by omega) (by decide) rfl (by assumption) ?_
      refine gr_iload_n dX5_readsChord_97 rfl ?_
      refine gr_iload_n dX5_readsChord_98 rfl ?_
      refine gr_iast (i := 4 * st.2.2.1 + 1) dX5_readsChord_99 (by first | assumption | rfl) (by omega) (by omega) (by omega) (by decide) ?_
      refine gr_aload_n dX5_readsChord_100 rfl ?_
      refine gr_getR dX5_readsChord_101 fX5_35 (by first | assumption | rfl) (by omega) (by decide) rfl (by assumption) ?_
      refine gr_iconst dX5_readsChord_104 ?_
      refine gr_dup2 dX5_readsChord_105 ?_
      refine gr_iald (i := 0) dX5_readsChord_106 (by first | assumption | rfl) (by omega) (by omega) (by omega) (by decide) ?_
      rw [show gw_U J9 108 (4 * st.2.2.1 + 1) (gm_my y z : Int) 108 0 = (st.2.2.1 : Int) from (gw_U_n (by omega)).trans ((p9 108 0 (by omega) (by omega)).trans s3)]
      refine gr_iconst dX5_readsChord_107 ?_
      refine gr_iadd (v := ((st.2.2.1 + 1 : Nat) : Int)) dX5_readsChord_108 (by omega) ?_
      refine gr_iast (i := 0) dX5_readsChord_109 (by first | assumption | rfl) (by omega) (by omega) (by omega) (by decide) ?_
      refine gr_iconst dX5_readsChord_110 ?_
      refine gr_iret dX5_readsChord_111 (by first | exact Or.inl rfl | exact Or.inr ⟨rfl, by omega⟩) (by decide) (by decide) ?_
      rw [← hQ9]
      obtain ⟨u1, u2, u3⟩ := gm_T_put hS hb h7 p9 rfl hx hy hz rfl q1 q2 q3
      exact ⟨_, _, rfl, rfl, Or.inr rfl, u3, Or.inr ⟨rfl, e, _, rfl, by rw [gw_U_n (by omega), gw_U_n (by omega)]; exact q15, hen, u1, u2⟩⟩
    -- a number
    have rd : ∀ (J2 : Nat → Nat → Int) (e i : Nat) (lo : Int), gm_c5 J J2 st.2.2.1 → J2 99 15 = (e : Int) → e ≤ n → (0 ≤ lo ∧ lo ≤ 61) → i < 3 → (gt_num T n lo 60 e = none → ∀ J3, gm_c5 J J3 st.2.2.1 → J3 99 15 = ((gt_sk T n e : Nat) : Int) → Q (some (.inl 0)) (114, J3, F)) → (∀ (e' : Nat) (v : Int) (J3 : Nat → Nat → Int), gt_num T n lo 60 e = some (e', v) → gm_c5 J J3 st.2.2.1 → (∀ j, j < i → J3 108 (4 * st.2.2.1 + 2 + j) = J2 108 (4 * st.2.2.1 + 2 + j)) → J3 108 (4 * st.2.2.1 + 2 + i) = v → J3 99 15 = (e' : Int) → gw_G (gw_Cm jX5_readsChord (d + 2) Q) jX5_readsChord 38 [some (.inr (some 99)), some (.inl ((4 * st.2.2.1 + 1 : Nat) : Int)), some (.inl ((i + 1 : Nat) : Int)), some (.inl (v + 1))] [] (114, J3, F) 0 0) → gw_G (gw_Cm jX5_readsChord (d + 2) Q) jX5_readsChord 56 [some (.inr (some 99)), some (.inl ((4 * st.2.2.1 + 1 : Nat) : Int)), some (.inl (i : Int)), some (.inl lo)] [] (114, J2, F) 0 0 := by
      intro J2 e i lo p2 q15 hen hlo hi hno hyes
      refine gr_aload_n dX5_readsChord_56 rfl ?_
      refine gr_iload_n dX5_readsChord_57 rfl ?_
      refine gr_bipush dX5_readsChord_58 (by decide) ?_
      refine gr_virt dX5_readsChord_60 kX5_92 (as := [_, _]) rfl rfl (by first | assumption | rfl) (by omega) (Nat.le_of_ble_eq_true rfl) (gw_Rm_m (by omega) (by decide) (by decide)) (m_reads (a := e) (lo := lo) (hi := 60) d hK (gm_pf_t (gm_c5_pf p2) hT) q15 hen (by omega) (by omega)) ?_
      rintro _ _ ⟨r, J4, rfl, rfl, h01, o4, hrd⟩
      have p4 : gm_c5 J J4 st.2.2.1 := fun x y h1 h2 => by rw [o4 x y (by omega), p2 x y h1 h2]
      unfold gm_rd at hrd
      cases hn1 : gt_num T n lo 60 e with
      | none =>
        rw [hn1] at hrd
        obtain ⟨rfl, z15⟩ := hrd
        refine gr_if_ne 68 dX5_readsChord_63 (by decide) (by unfold gw_in; omega) (fun h63 => ?_) (fun h63 => ?_)
        · omega
        · refine gr_iconst dX5_readsChord_66 ?_
          refine gr_iret dX5_readsChord_67 (by first | exact Or.inl rfl | exact Or.inr ⟨rfl, by omega⟩) (by decide) (by decide) (hno hn1 J4 p4 z15)
      | some q =>
        obtain ⟨e1, v1⟩ := q
        rw [hn1] at hrd
        obtain ⟨rfl, z15, z16⟩ := hrd
        have c1 := gt_num_in hn1 (by omega)
        simp only at z15 z16
        refine gr_if_ne 68 dX5_readsChord_63 (by decide) (by unfold gw_in; omega) (fun h63 => ?_) (fun h63 => ?_)
        · refine gr_iinc (v := ((i + 1 : Nat) : Int)) dX5_readsChord_68 (by decide) rfl (by omega) ?_
          refine gr_aload_n dX5_readsChord_71 rfl ?_
          refine gr_getR dX5_readsChord_72 fX5_35 (by first | assumption | rfl) (by omega) (by decide) rfl (by assumption) ?_
          refine gr_iload_n dX5_readsChord_75 rfl ?_
          refine gr_iload_n dX5_readsChord_76 rfl ?_
          refine gr_iadd (v := ((4 * st.2.2.1 + 2 + i : Nat) : Int)) dX5_readsChord_77 (by omega) ?_
          refine gr_aload_n dX5_readsChord_78 rfl ?_
          refine gr_getI dX5_readsChord_79 fX5_86 (by first | assumption | rfl) (by omega) (by decide) rfl ?_
          rw [z16]
          refine gr_iast (i := 4 * st.2.2.1 + 2 + i) dX5_readsChord_82 (by first | assumption | rfl) (by omega) (by omega) (by omega) (by decide) ?_
          refine gr_aload_n dX5_readsChord_83 rfl ?_
          refine gr_getI dX5_readsChord_84 fX5_86 (by first | assumption | rfl) (by omega) (by decide) rfl ?_
          rw [show gw_U J4 108 (4 * st.2.2.1 + 2 + i) v1 99 16 = v1 from (gw_U_n (by omega)).trans z16]
          refine gr_iconst dX5_readsChord_87 ?_
          refine gr_iadd dX5_readsChord_88 rfl ?_
          refine gr_istore_n dX5_readsChord_89 (by decide) ?_
          refine gr_goto 38 dX5_readsChord_90 (by decide) ?_
          exact hyes e1 v1 _ hn1 (fun x y h1 h2 => by rw [gw_U_n (by omega), p4 x y h1 h2]) (fun j hj => by rw [gw_U_n (by omega), o4 _ _ (by omega)]) gw_U_s (by rw [gw_U_n (by omega)]; exact z15)
        · omega
    -- is it the end?
    have nx : ∀ (J2 : Nat → Nat → Int) (e i : Nat) (lo : Int), gm_c5 J J2 st.2.2.1 → J2 99 15 = (e : Int) → e ≤ n → 0 < i → i < 3 → (∀ J3 : Nat → Nat → Int, gm_c5 J J3 st.2.2.1 → (∀ y, J3 108 y = J2 108 y) → J3 99 15 = ((gt_sk T n e : Nat) : Int) → (gt_sk T n e < n ∧ T (gt_sk T n e) = 59 → gw_G (gw_Cm jX5_readsChord (d + 2) Q) jX5_readsChord 93 [some (.inr (some 99)), some (.inl ((4 * st.2.2.1 + 1 : Nat) : Int)), some (.inl (i : Int)), some (.inl lo)] [] (114, J3, F) 0 0) ∧ (¬ (gt_sk T n e < n ∧ T (gt_sk T n e) = 59) → gw_G (gw_Cm jX5_readsChord (d + 2) Q) jX5_readsChord 56 [some (.inr (some 99)), some (.inl ((4 * st.2.2.1 + 1 : Nat) : Int)), some (.inl (i : Int)), some (.inl lo)] [] (114, J3, F) 0 0)) → gw_G (gw_Cm jX5_readsChord (d + 2) Q) jX5_readsChord 38 [some (.inr (some 99)), some (.inl ((4 * st.2.2.1 + 1 : Nat) : Int)), some (.inl (i : Int)), some (.inl lo)] [] (114, J2, F) 0 0 := by
      intro J2 e i lo p2 q15 hen hi0 hi3 hgo
      refine gr_iload_n dX5_readsChord_38 rfl ?_
      refine gr_iconst dX5_readsChord_39 ?_
      refine gr_icmp_ge 93 dX5_readsChord_40 (by decide) (by unfold gw_in; omega) (by unfold gw_in; omega) (fun h40 => ?_) (fun h40 => ?_)
      · omega
      · refine gr_iload_n dX5_readsChord_43 rfl ?_
        refine gr_if_eq 56 dX5_readsChord_44 (by decide) (by unfold gw_in; omega) (fun h44 => ?_) (fun h44 => ?_)
        · omega
        · refine gr_aload_n dX5_readsChord_47 rfl ?_
          refine gr_virt dX5_readsChord_48 kX5_82 (as := []) rfl rfl (by first | assumption | rfl) (by omega) (Nat.le_of_ble_eq_true rfl) (gw_Rm_m (by omega) (by decide) (by decide)) (m_here (a := e) (d + 1) hK (gm_pf_t (gm_c5_pf p2) hT) q15 hen) ?_
          rintro _ _ ⟨_, J3, rfl, rfl, rfl, hJ3⟩
          obtain ⟨u1, u2⟩ := hgo J3 (fun x y h1 h2 => by rw [hJ3, if_neg (by omega), p2 x y h1 h2]) (fun y => by rw [hJ3, if_neg (by omega)]) (by rw [hJ3, if_pos (by omega)])
          generalize hc : (if gt_sk T n e < n then T (gt_sk T n e) else -1) = c
          have hcin : (-1 ≤ c ∧ c ≤ 255) ∧ (c = 59 ↔ gt_sk T n e < n ∧ T (gt_sk T n e) = 59) := by
            rw [← hc]
            by_cases h : gt_sk T n e < n
            · rw [if_pos h]
              have := hT.2.2 _ h
              omega
            · rw [if_neg h]; omega
          refine gr_bipush dX5_readsChord_51 (by decide) ?_
          refine gr_icmp_eq 93 dX5_readsChord_53 (by decide) (by unfold gw_in; omega) (by unfold gw_in; omega) (fun h53 => ?_) (fun h53 => ?_)
          · exact u1 (hcin.2.mp h53)
          · exact u2 (fun h => h53 (hcin.2.mpr h))
    refine gr_aload_n dX5_readsChord_13 rfl ?_
    refine gr_dup dX5_readsChord_14 ?_
    refine gr_getI dX5_readsChord_15 fX5_79 (by first | assumption | rfl) (by omega) (by decide) rfl ?_
    rw [ha]
    refine gr_iconst dX5_readsChord_18 ?_
    refine gr_iadd (v := ((a + 1 : Nat) : Int)) dX5_readsChord_19 (by omega) ?_
    refine gr_putI dX5_readsChord_20 fX5_79 (by first | assumption | rfl) (by omega) (Or.inl rfl) rfl ?_
    generalize hJ1 : gw_U J 99 15 ((a + 1 : Nat) : Int) = J1
    have o1 : gm_c5 J J1 st.2.2.1 := fun x y h h2 => by rw [← hJ1, gw_U_n (by omega)]
    have a1 : J1 99 15 = ((a + 1 : Nat) : Int) := by rw [← hJ1, gw_U_s]
    refine gr_iconst dX5_readsChord_23 ?_
    refine gr_iconst dX5_readsChord_24 ?_
    refine gr_aload_n dX5_readsChord_25 rfl ?_
    refine gr_getR dX5_readsChord_26 fX5_35 (by first | assumption | rfl) (by omega) (by decide) rfl (by assumption) ?_
    refine gr_iconst dX5_readsChord_29 ?_
    refine gr_iald (i := 0) dX5_readsChord_30 (by first | assumption | rfl) (by omega) (by omega) (by omega) (by decide) ?_
    rw [show J1 108 0 = (st.2.2.1 : Int) from (o1 108 0 (by omega) (by omega)).trans s3]
    refine gr_imul dX5_readsChord_31 rfl ?_
    refine gr_iadd (v := ((4 * st.2.2.1 + 1 : Nat) : Int)) dX5_readsChord_32 (by omega) ?_
    refine gr_istore_n dX5_readsChord_33 (by decide) ?_
    refine gr_iconst dX5_readsChord_34 ?_
    refine gr_istore_n dX5_readsChord_35 (by decide) ?_
    refine gr_iconst dX5_readsChord_36 ?_
    refine gr_istore_n dX5_readsChord_37 (by decide) ?_
    refine gr_iload_n dX5_readsChord_38 rfl ?_
    refine gr_iconst dX5_readsChord_39 ?_
    refine gr_icmp_ge 93 dX5_readsChord_40 (by decide) (by unfold gw_in; omega) (by unfold gw_in; omega) (fun h40 => ?_) (fun h40 => ?_)
    · omega
    · refine gr_iload_n dX5_readsChord_43 rfl ?_
      refine gr_if_eq 56 dX5_readsChord_44 (by decide) (by unfold gw_in; omega) (fun h44 => ?_) (fun h44 => ?_)
      · refine rd J1 (a + 1) 0 0 o1 a1 (by omega) (by omega) (by omega) (fun hn1 J3 p3 z15 => ?_) (fun e1 x J3 hn1 p3 _ zx z15 => ?_)
        · rw [hn1] at hQ
          rw [← hQ]
          exact ⟨_, _, rfl, rfl, Or.inl rfl, gm_c5_pf p3, Or.inl ⟨rfl, _, rfl, z15⟩⟩
        · rw [hn1] at hQ
          simp only at hQ
          have c1 := gt_num_in hn1 (by omega)
          have k1 := gt_sk_in (T := T) (show e1 ≤ n by omega)
          refine nx J3 e1 1 (x + 1) p3 z15 (by omega) (by omega) (by omega) (fun J4 p4 y4 w15 => ⟨fun hs => ?_, fun hs => ?_⟩)
          · rw [if_pos hs, show (.inr (gt_sk T n e1 + 1, gt_put st x (-1) (-1)) : Nat ⊕ (Nat × gt_S)) = gt_end T n (gt_sk T n e1) (gt_put st x (-1) (-1)) by rw [gt_end_sk]; unfold gt_end; rw [if_pos hs]] at hQ
            exact fin J4 (gt_sk T n e1) (x + 1) x (-1) (-1) p4 (by omega) (Or.inl rfl) (Or.inl rfl) (by rw [y4]; exact zx) (fun h => absurd h (by decide)) (fun h => absurd h (by decide)) w15 (by omega) hQ
          · rw [if_neg hs] at hQ
            refine rd J4 (gt_sk T n e1) 1 (x + 1) p4 w15 (by omega) (by omega) (by omega) (fun hn2 J5 p5 v15 => ?_) (fun e2 y J5 hn2 p5 kx zy v15 => ?_)
            · rw [gt_num_sk] at hn2
              rw [gt_sk_sk] at v15
              rw [hn2] at hQ
              rw [← hQ]
              exact ⟨_, _, rfl, rfl, Or.inl rfl, gm_c5_pf p5, Or.inl ⟨rfl, _, rfl, v15⟩⟩
            · rw [gt_num_sk] at hn2
              rw [hn2] at hQ
              simp only at hQ
              have c2 := gt_num_in hn2 (by omega)
              have k2 := gt_sk_in (T := T) (show e2 ≤ n by omega)
              have zx5 : J5 108 (4 * st.2.2.1 + 2) = x := by have := kx 0 (by omega); rw [Nat.add_zero] at this; rw [this, y4]; exact zx
              refine nx J5 e2 2 (y + 1) p5 v15 (by omega) (by omega) (by omega) (fun J6 p6 y6 t15 => ⟨fun hs => ?_, fun hs => ?_⟩)
              · have e2' : gm_my y (-1) = 2 := by unfold gm_my; rw [if_neg (by omega), if_pos rfl]
                rw [if_pos hs, show (.inr (gt_sk T n e2 + 1, gt_put st x y (-1)) : Nat ⊕ (Nat × gt_S)) = gt_end T n (gt_sk T n e2) (gt_put st x y (-1)) by rw [gt_end_sk]; unfold gt_end; rw [if_pos hs]] at hQ
                have f := fin J6 (gt_sk T n e2) (y + 1) x y (-1) p6 (by omega) (Or.inr (by omega)) (Or.inl rfl) (by rw [y6]; exact zx5) (fun _ => by rw [y6]; exact zy) (fun h => by omega) t15 (by omega) hQ
                rw [e2'] at f
                exact f
              · rw [if_neg hs] at hQ
                refine rd J6 (gt_sk T n e2) 2 (y + 1) p6 t15 (by omega) (by omega) (by omega) (fun hn3 J7 p7 u15 => ?_) (fun e3 z J7 hn3 p7 ky zz u15 => ?_)
                · rw [gt_num_sk] at hn3
                  rw [gt_sk_sk] at u15
                  rw [hn3] at hQ
                  rw [← hQ]
                  exact ⟨_, _, rfl, rfl, Or.inl rfl, gm_c5_pf p7, Or.inl ⟨rfl, _, rfl, u15⟩⟩
                · rw [gt_num_sk] at hn3
                  rw [hn3] at hQ
                  simp only at hQ
                  have c3 := gt_num_in hn3 (by omega)
                  have e3' : gm_my y z = 3 := by unfold gm_my; rw [if_neg (by omega), if_neg (by omega)]
                  have zx7 : J7 108 (4 * st.2.2.1 + 2) = x := by have := ky 0 (by omega); rw [Nat.add_zero] at this; rw [this, y6]; exact zx5
                  have zy7 : J7 108 (4 * st.2.2.1 + 3) = y := by have := ky 1 (by omega); rw [show 4 * st.2.2.1 + 2 + 1 = 4 * st.2.2.1 + 3 from rfl] at this; rw [this, y6]; exact zy
                  refine gr_iload_n dX5_readsChord_38 rfl ?_
                  refine gr_iconst dX5_readsChord_39 ?_
                  refine gr_icmp_ge 93 dX5_readsChord_40 (by decide) (by unfold gw_in; omega) (by unfold gw_in; omega) (fun h40 => ?_) (fun h40 => ?_)
                  · have f := fin J7 e3 (z + 1) x y z p7 (by omega) (Or.inr (by omega)) (Or.inr (by omega)) zx7 (fun _ => zy7) (fun _ => zz) u15 (by omega) hQ
                    rw [e3'] at f
                    exact f
                  · omega
      · omega
  · rw [if_pos (by omega)] at hQ
    refine gr_iconst dX5_readsChord_11 ?_
    refine gr_iret dX5_readsChord_12 (by first | exact Or.inl rfl | exact Or.inr ⟨rfl, by omega⟩) (by decide) (by decide) ((hQ ▸ ⟨_, _, rfl, rfl, Or.inl rfl, fun _ _ _ _ _ => rfl, Or.inl ⟨rfl, a, rfl, ha⟩⟩))
theorem m_item {a : Nat} {st : gt_S} (d : Nat) (hK : gm_K F) (hT : gm_t J T n) (ha : J 99 15 = (a : Int)) (han : a < n) (hsk : gt_sk T n a = a) (hS : gm_T J st) (hb : gm_b st) : gw_Met jX5_item (d + 3) [.inr (some 99)] (114, J, F) (gw_io F (fun r J' => (r = 0 ∨ r = 1) ∧ gm_pf J J' ∧ gm_ir J' T n (gt_item T n st a) r)) := by
  obtain ⟨u1, u2, u3⟩ := hT.2.2 a han
  generalize hQ : gw_io F (fun r J' => (r = 0 ∨ r = 1) ∧ gm_pf J J' ∧ gm_ir J' T n (gt_item T n st a) r) = Q
  unfold gt_item at hQ
  refine gw_enter okX5_item rfl (Nat.le_of_ble_eq_true rfl) ?_
  refine gr_aload_n dX5_item_0 rfl ?_
  refine gr_virt dX5_item_1 kX5_82 (as := []) rfl rfl (by first | assumption | rfl) (by omega) (Nat.le_of_ble_eq_true rfl) (gw_Rm_m (by omega) (by decide) (by decide)) (m_here (a := a) (d + 2) hK hT ha (by omega)) ?_
  rintro _ _ ⟨_, J1, rfl, rfl, rfl, hJ1⟩
  have e1 : J1 = J := funext fun x => funext fun y => by
    rw [hJ1, hsk]
    by_cases h : x = 99 ∧ y = 15
    · rw [if_pos h, h.1, h.2]; exact ha.symm
    · rw [if_neg h]
  subst e1
  rw [hsk, if_pos han]
  by_cases c1 : T a = 114
  · rw [if_pos c1] at hQ
    rw [c1]
    refine gr_lookup 56 dX5_item_4 (by decide) (by unfold gw_in; omega) (off := 52) rfl (by decide) ?_
    refine gr_aload_n dX5_item_56 rfl ?_
    refine gr_iconst dX5_item_57 ?_
    refine gr_virt dX5_item_58 kX5_100 (as := [_]) rfl rfl (by first | assumption | rfl) (by omega) (Nat.le_of_ble_eq_true rfl) (gw_Rm_m (by omega) (by decide) (by decide)) (m_readsPlayer (k := 0) (a := a) (st := st) d hK hT ha han hS hb (by omega)) ?_
    rintro _ _ ⟨r, J2, rfl, rfl, h01, h⟩
    refine gr_iret dX5_item_61 (Or.inr ⟨rfl, h01⟩) (by decide) (by decide) (hQ ▸ ⟨r, J2, rfl, rfl, h01, h⟩)
  · rw [if_neg c1] at hQ
    by_cases c2 : T a = 98
    · rw [if_pos c2] at hQ
      rw [c2]
      refine gr_lookup 62 dX5_item_4 (by decide) (by unfold gw_in; omega) (off := 58) rfl (by decide) ?_
      refine gr_aload_n dX5_item_62 rfl ?_
      refine gr_iconst dX5_item_63 ?_
      refine gr_virt dX5_item_64 kX5_100 (as := [_]) rfl rfl (by first | assumption | rfl) (by omega) (Nat.le_of_ble_eq_true rfl) (gw_Rm_m (by omega) (by decide) (by decide)) (m_readsPlayer (k := 1) (a := a) (st := st) d hK hT ha han hS hb (by omega)) ?_
      rintro _ _ ⟨r, J2, rfl, rfl, h01, h⟩
      refine gr_iret dX5_item_67 (Or.inr ⟨rfl, h01⟩) (by decide) (by decide) (hQ ▸ ⟨r, J2, rfl, rfl, h01, h⟩)
    · rw [if_neg c2] at hQ
      by_cases c3 : T a = 103
      · rw [if_pos c3] at hQ
        rw [c3]
        refine gr_lookup 68 dX5_item_4 (by decide) (by unfold gw_in; omega) (off := 64) rfl (by decide) ?_
        refine gr_aload_n dX5_item_68 rfl ?_
        refine gr_iconst dX5_item_69 ?_
        refine gr_virt dX5_item_70 kX5_100 (as := [_]) rfl rfl (by first | assumption | rfl) (by omega) (Nat.le_of_ble_eq_true rfl) (gw_Rm_m (by omega) (by decide) (by decide)) (m_readsPlayer (k := 2) (a := a) (st := st) d hK hT ha han hS hb (by omega)) ?_
        rintro _ _ ⟨r, J2, rfl, rfl, h01, h⟩
        refine gr_iret dX5_item_73 (Or.inr ⟨rfl, h01⟩) (by decide) (by decide) (hQ ▸ ⟨r, J2, rfl, rfl, h01, h⟩)
      · rw [if_neg c3] at hQ
        by_cases c4 : T a = 110
        · rw [if_pos c4] at hQ
          rw [c4]
          refine gr_lookup 74 dX5_item_4 (by decide) (by unfold gw_in; omega) (off := 70) rfl (by decide) ?_
          refine gr_aload_n dX5_item_74 rfl ?_
          refine gr_virt dX5_item_75 kX5_104 (as := []) rfl rfl (by first | assumption | rfl) (by omega) (Nat.le_of_ble_eq_true rfl) (gw_Rm_m (by omega) (by decide) (by decide)) (m_readsChord (a := a) (st := st) d hK hT ha han hS hb) ?_
          rintro _ _ ⟨r, J2, rfl, rfl, h01, h⟩
          refine gr_iret dX5_item_78 (Or.inr ⟨rfl, h01⟩) (by decide) (by decide) (hQ ▸ ⟨r, J2, rfl, rfl, h01, h⟩)
        · rw [if_neg c4] at hQ
          by_cases c5 : T a = 113
          · rw [if_pos c5] at hQ
            rw [c5]
            refine gr_lookup 79 dX5_item_4 (by decide) (by unfold gw_in; omega) (off := 75) rfl (by decide) ?_
            refine gr_aload_n dX5_item_79 rfl ?_
            refine gr_virt dX5_item_80 kX5_108 (as := []) rfl rfl (by first | assumption | rfl) (by omega) (Nat.le_of_ble_eq_true rfl) (gw_Rm_m (by omega) (by decide) (by decide)) (m_readsQuiet (a := a) (st := st) d hK hT ha han hS hb) ?_
            rintro _ _ ⟨r, J2, rfl, rfl, h01, h⟩
            refine gr_iret dX5_item_83 (Or.inr ⟨rfl, h01⟩) (by decide) (by decide) (hQ ▸ ⟨r, J2, rfl, rfl, h01, h⟩)
          · rw [if_neg c5] at hQ
            refine gr_lookup 84 dX5_item_4 (by decide) (by unfold gw_in; omega) (off := 80) (by simp only [Op.lookupswitch.offset_cons, Op.lookupswitch.offset_nil]; rw [if_neg (by omega), if_neg (by omega), if_neg (by omega), if_neg (by omega), if_neg (by omega)]) (by decide) ?_
            refine gr_iconst dX5_item_84 ?_
            refine gr_iret dX5_item_85 (by first | exact Or.inl rfl | exact Or.inr ⟨rfl, by omega⟩) (by decide) (by decide) ((hQ ▸ ⟨_, _, rfl, rfl, Or.inl rfl, fun _ _ _ _ _ => rfl, Or.inl ⟨rfl, a, rfl, ha⟩⟩))
end GM
