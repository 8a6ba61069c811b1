/-! THE REFERENCE reads the text: readsPlayer -/
section GM
variable {J : Nat → Nat → Int} {F : Nat → Nat → Option Nat} {T : Nat → Int} {n : Nat}
/-- a player's row is being filled -/
def gm_pr5 (J J' : Nat → Nat → Int) (P : Nat) : Prop := ∀ x y, ¬ (x = 99 ∧ (y = 15 ∨ y = 16)) → ¬ (x = 107 ∧ 5 * P ≤ y ∧ y < 5 * P + 5) → J' x y = J x y
theorem gm_pr5_pf {J' : Nat → Nat → Int} {P : Nat} (h : gm_pr5 J J' P) : gm_pf J J' := fun x y h1 h2 h3 => h x y (by omega) (by omega)
theorem m_readsPlayer {a : Nat} {k : Int} {st : gt_S} (d : Nat) (hK : gm_K F) (hT : gm_t J T n) (ha : J 99 15 = (a : Int)) (han : a < n) (hS : gm_T J st) (hb : gm_b st) (hk : 0 ≤ k ∧ k ≤ 2) : gw_Met jX5_readsPlayer (d + 2) [.inr (some 99), .inl k] (114, J, F) (gw_io F (fun r J' => (r = 0 ∨ r = 1) ∧ gm_pf J J' ∧ gm_ir J' T n (gt_player T n st k a) r)) := by
  obtain ⟨g1, g2, g4, g5, g6, g8, g9, g11, g12, g14, g18, g19, g20, g21⟩ := id hK
  obtain ⟨s1, s2, s3, s4, s5, s6, s7⟩ := id hS
  obtain ⟨b1, b2, b3⟩ := id hb
  generalize hQ : gw_io F (fun r J' => (r = 0 ∨ r = 1) ∧ gm_pf J J' ∧ gm_ir J' T n (gt_player T n st k a) r) = Q
  unfold gt_player at hQ
  have full : (st.1 = 4 ∨ k = 1 ∧ gb_bw (st.2.1 1) st.1 = 2) → gw_G (gw_Cm jX5_readsPlayer (d + 2) Q) jX5_readsPlayer 21 [some (.inr (some 99)), some (.inl k), none] [] (114, J, F) 0 0 := by
    intro hf
    rw [if_pos hf] at hQ
    refine gr_iconst dX5_readsPlayer_21 ?_
    refine gr_iret dX5_readsPlayer_22 (by first | exact Or.inl rfl | exact Or.inr ⟨rfl, by omega⟩) (by decide) (by decide) ((hQ ▸ ⟨_, _, rfl, rfl, Or.inl rfl, fun _ _ _ _ _ => rfl, Or.inl ⟨rfl, a, rfl, ha⟩⟩))
  have go : ¬ (st.1 = 4 ∨ k = 1 ∧ gb_bw (st.2.1 1) st.1 = 2) → gw_G (gw_Cm jX5_readsPlayer (d + 2) Q) jX5_readsPlayer 23 [some (.inr (some 99)), some (.inl k), none] [] (114, J, F) 0 0 := by
    intro hf
    rw [if_neg hf] at hQ
    generalize hP : st.1 = P at *
    have hP3 : P ≤ 3 := by omega
    refine gr_aload_n dX5_readsPlayer_23 rfl ?_
    refine gr_dup dX5_readsPlayer_24 ?_
    refine gr_getI dX5_readsPlayer_25 fX5_79 (by first | assumption | rfl) (by omega) (by decide) rfl ?_
    rw [ha]
    refine gr_iconst dX5_readsPlayer_28 ?_
    refine gr_iadd (v := ((a + 1 : Nat) : Int)) dX5_readsPlayer_29 (by omega) ?_
    refine gr_putI dX5_readsPlayer_30 fX5_79 (by first | assumption | rfl) (by omega) (Or.inl rfl) rfl ?_
    generalize hJ1 : gw_U J 99 15 ((a + 1 : Nat) : Int) = J1
    have o1 : gm_pr5 J J1 P := fun x y h h2 => by rw [← hJ1, gw_U_n (by omega)]
    have a1 : J1 99 15 = ((a + 1 : Nat) : Int) := by rw [← hJ1, gw_U_s]
    refine gr_iconst dX5_readsPlayer_33 ?_
    refine gr_aload_n dX5_readsPlayer_34 rfl ?_
    refine gr_getI dX5_readsPlayer_35 fX5_59 (by first | assumption | rfl) (by omega) (by decide) rfl ?_
    rw [show J1 99 10 = (P : Int) by rw [o1 99 10 (by omega) (by omega)]; exact s1]
    refine gr_imul (v := ((5 * P : Nat) : Int)) dX5_readsPlayer_38 (by omega) ?_
    refine gr_istore_n dX5_readsPlayer_39 (by decide) ?_
    refine gr_aload_n dX5_readsPlayer_40 rfl ?_
    refine gr_iconst dX5_readsPlayer_41 ?_
    refine gr_bipush dX5_readsPlayer_42 (by decide) ?_
    refine gr_virt dX5_readsPlayer_44 kX5_92 (as := [_, _]) rfl rfl (by first | assumption | rfl) (by omega) (Nat.le_of_ble_eq_true rfl) (gw_Rm_m (by omega) (by decide) (by decide)) (m_reads (a := a + 1) (lo := 0) (hi := 60) d hK (gm_pf_t (gm_pr5_pf o1) hT) a1 (by omega) (by omega) (by omega)) ?_
    rintro _ _ ⟨r, J2, rfl, rfl, h01, o2, hrd⟩
    have p2 : gm_pr5 J J2 P := fun x y h1 h2 => by rw [o2 x y (by omega), o1 x y h1 h2]
    unfold gm_rd at hrd
    cases hn1 : gt_num T n 0 60 (a + 1) with
    | none =>
      rw [hn1] at hrd hQ
      obtain ⟨rfl, z15⟩ := hrd
      refine gr_if_ne 52 dX5_readsPlayer_47 (by decide) (by unfold gw_in; omega) (fun h47 => ?_) (fun h47 => ?_)
      · omega
      · refine gr_iconst dX5_readsPlayer_50 ?_
        refine gr_iret dX5_readsPlayer_51 (by first | exact Or.inl rfl | exact Or.inr ⟨rfl, by omega⟩) (by decide) (by decide) ((hQ ▸ ⟨_, _, rfl, rfl, Or.inl rfl, gm_pr5_pf p2, Or.inl ⟨rfl, _, rfl, z15⟩⟩))
    | some q =>
      obtain ⟨e1, v1⟩ := q
      rw [hn1] at hrd hQ
      obtain ⟨rfl, z15, z16⟩ := hrd
      have c1 := gt_num_in hn1 (by omega)
      simp only at z15 z16 hQ
      refine gr_if_ne 52 dX5_readsPlayer_47 (by decide) (by unfold gw_in; omega) (fun h47 => ?_) (fun h47 => ?_)
      · refine gr_aload_n dX5_readsPlayer_52 rfl ?_
        refine gr_getR dX5_readsPlayer_53 fX5_32 (by first | assumption | rfl) (by omega) (by decide) rfl (by assumption) ?_
        refine gr_iload_n dX5_readsPlayer_56 rfl ?_
        refine gr_iconst dX5_readsPlayer_57 ?_
        refine gr_iadd (v := ((5 * P + 1 : Nat) : Int)) dX5_readsPlayer_58 (by omega) ?_
        refine gr_aload_n dX5_readsPlayer_59 rfl ?_
        refine gr_getI dX5_readsPlayer_60 fX5_86 (by first | assumption | rfl) (by omega) (by decide) rfl ?_
        rw [z16]
        refine gr_iast (i := 5 * P + 1) dX5_readsPlayer_63 (by first | assumption | rfl) (by omega) (by omega) (by omega) (by decide) ?_
        refine gr_aload_n dX5_readsPlayer_64 rfl ?_
        refine gr_aload_n dX5_readsPlayer_65 rfl ?_
        refine gr_getI dX5_readsPlayer_66 fX5_86 (by first | assumption | rfl) (by omega) (by decide) rfl ?_
        rw [show gw_U J2 107 (5 * P + 1) v1 99 16 = v1 from (gw_U_n (by omega)).trans z16]
        generalize hJ3 : gw_U J2 107 (5 * P + 1) v1 = J3
        have o3 : ∀ x y, ¬ (x = 107 ∧ y = 5 * P + 1) → J3 x y = J2 x y := fun x y h => by rw [← hJ3, gw_U_n h]
        have p3 : gm_pr5 J J3 P := fun x y h1 h2 => by rw [o3 x y (by omega), p2 x y h1 h2]
        have t31 : J3 107 (5 * P + 1) = v1 := by rw [← hJ3, gw_U_s]
        refine gr_bipush dX5_readsPlayer_69 (by decide) ?_
        refine gr_virt dX5_readsPlayer_71 kX5_92 (as := [_, _]) rfl rfl (by first | assumption | rfl) (by omega) (Nat.le_of_ble_eq_true rfl) (gw_Rm_m (by omega) (by decide) (by decide)) (m_reads (a := e1) (lo := v1) (hi := 60) d hK (gm_pf_t (gm_pr5_pf p3) hT) (by rw [o3 99 15 (by omega)]; exact z15) (by omega) (by omega) (by omega)) ?_
        rintro _ _ ⟨r, J4, rfl, rfl, h01, o4, hrd⟩
        have p4 : gm_pr5 J J4 P := fun x y h1 h2 => by rw [o4 x y (by omega), p3 x y h1 h2]
        unfold gm_rd at hrd
        cases hn2 : gt_num T n v1 60 e1 with
        | none =>
          rw [hn2] at hrd hQ
          obtain ⟨rfl, w15⟩ := hrd
          refine gr_if_ne 79 dX5_readsPlayer_74 (by decide) (by unfold gw_in; omega) (fun h74 => ?_) (fun h74 => ?_)
          · omega
          · refine gr_iconst dX5_readsPlayer_77 ?_
            refine gr_iret dX5_readsPlayer_78 (by first | exact Or.inl rfl | exact Or.inr ⟨rfl, by omega⟩) (by decide) (by decide) ((hQ ▸ ⟨_, _, rfl, rfl, Or.inl rfl, gm_pr5_pf p4, Or.inl ⟨rfl, _, rfl, w15⟩⟩))
        | some q =>
          obtain ⟨e2, v2⟩ := q
          rw [hn2] at hrd hQ
          obtain ⟨rfl, w15, w16⟩ := hrd
          have c2 := gt_num_in hn2 (by omega)
          simp only at w15 w16 hQ
          refine gr_if_ne 79 dX5_readsPlayer_74 (by decide) (by unfold gw_in; omega) (fun h74 => ?_) (fun h74 => ?_)
          · refine gr_aload_n dX5_readsPlayer_79 rfl ?_
            refine gr_getR dX5_readsPlayer_80 fX5_32 (by first | assumption | rfl) (by omega) (by decide) rfl (by assumption) ?_
            refine gr_iload_n dX5_readsPlayer_83 rfl ?_
            refine gr_iconst dX5_readsPlayer_84 ?_
            refine gr_iadd (v := ((5 * P + 2 : Nat) : Int)) dX5_readsPlayer_85 (by omega) ?_
            refine gr_aload_n dX5_readsPlayer_86 rfl ?_
            refine gr_getI dX5_readsPlayer_87 fX5_86 (by first | assumption | rfl) (by omega) (by decide) rfl ?_
            rw [w16]
            refine gr_iast (i := 5 * P + 2) dX5_readsPlayer_90 (by first | assumption | rfl) (by omega) (by omega) (by omega) (by decide) ?_
            refine gr_aload_n dX5_readsPlayer_91 rfl ?_
            refine gr_iconst dX5_readsPlayer_92 ?_
            refine gr_bipush dX5_readsPlayer_93 (by decide) ?_
            generalize hJ5 : gw_U J4 107 (5 * P + 2) v2 = J5
            have o5 : ∀ x y, ¬ (x = 107 ∧ y = 5 * P + 2) → J5 x y = J4 x y := fun x y h => by rw [← hJ5, gw_U_n h]
            have p5 : gm_pr5 J J5 P := fun x y h1 h2 => by rw [o5 x y (by omega), p4 x y h1 h2]
            have t51 : J5 107 (5 * P + 1) = v1 := by rw [o5 _ _ (by omega), o4 _ _ (by omega)]; exact t31
            have t52 : J5 107 (5 * P + 2) = v2 := by rw [← hJ5, gw_U_s]
            refine gr_virt dX5_readsPlayer_95 kX5_92 (as := [_, _]) rfl rfl (by first | assumption | rfl) (by omega) (Nat.le_of_ble_eq_true rfl) (gw_Rm_m (by omega) (by decide) (by decide)) (m_reads (a := e2) (lo := 2) (hi := 9) d hK (gm_pf_t (gm_pr5_pf p5) hT) (by rw [o5 99 15 (by omega)]; exact w15) (by omega) (by omega) (by omega)) ?_
            rintro _ _ ⟨r, J6, rfl, rfl, h01, o6, hrd⟩
            have p6 : gm_pr5 J J6 P := fun x y h1 h2 => by rw [o6 x y (by omega), p5 x y h1 h2]
            unfold gm_rd at hrd
            cases hn3 : gt_num T n 2 9 e2 with
            | none =>
              rw [hn3] at hrd hQ
              obtain ⟨rfl, x15⟩ := hrd
              refine gr_if_ne 103 dX5_readsPlayer_98 (by decide) (by unfold gw_in; omega) (fun h98 => ?_) (fun h98 => ?_)
              · omega
              · refine gr_iconst dX5_readsPlayer_101 ?_
                refine gr_iret dX5_readsPlayer_102 (by first | exact Or.inl rfl | exact Or.inr ⟨rfl, by omega⟩) (by decide) (by decide) ((hQ ▸ ⟨_, _, rfl, rfl, Or.inl rfl, gm_pr5_pf p6, Or.inl ⟨rfl, _, rfl, x15⟩⟩))
            | some q =>
              obtain ⟨e3, v3⟩ := q
              rw [hn3] at hrd hQ
              obtain ⟨rfl, x15, x16⟩ := hrd
              have c3 := gt_num_in hn3 (by omega)
              simp only at x15 x16 hQ
              -- the end
              have fin : ∀ (J9 : Nat → Nat → Int) (e : Nat) (sp : Int), gm_pr5 J J9 P → J9 107 (5 * P + 1) = v1 → J9 107 (5 * P + 2) = v2 → J9 107 (5 * P + 3) = v3 → J9 107 (5 * P + 4) = sp → J9 99 15 = (e : Int) → e ≤ n → (gw_io F (fun r J' => (r = 0 ∨ r = 1) ∧ gm_pf J J' ∧ gm_ir J' T n (gt_end T n e (gt_add st k v1 v2 v3 sp)) r) = Q) → gw_G (gw_Cm jX5_readsPlayer (d + 2) Q) jX5_readsPlayer 153 [some (.inr (some 99)), some (.inl k), some (.inl ((5 * P : Nat) : Int))] [] (114, J9, F) 0 0 := by
                intro J9 e sp p9 q1 q2 q3 q4 q15 hen hQ9
                refine gr_aload_n dX5_readsPlayer_153 rfl ?_
                refine gr_getR dX5_readsPlayer_154 fX5_32 (by first | assumption | rfl) (by omega) (by decide) rfl (by assumption) ?_
                refine gr_iload_n dX5_readsPlayer_157 rfl ?_
                refine gr_iload_n dX5_readsPlayer_158 rfl ?_
                refine gr_iast (i := 5 * P) dX5_readsPlayer_159 (by first | assumption | rfl) (by omega) (by omega) (by omega) (by decide) ?_
                refine gr_aload_n dX5_readsPlayer_160 rfl ?_
                refine gr_dup dX5_readsPlayer_161 ?_
                refine gr_getI dX5_readsPlayer_162 fX5_59 (by first | assumption | rfl) (by omega) (by decide) rfl ?_
                rw [show gw_U J9 107 (5 * P) k 99 10 = (P : Int) from (gw_U_n (by omega)).trans ((p9 99 10 (by omega) (by omega)).trans s1)]
                refine gr_iconst dX5_readsPlayer_165 ?_
                refine gr_iadd (v := ((P + 1 : Nat) : Int)) dX5_readsPlayer_166 (by omega) ?_
                refine gr_putI dX5_readsPlayer_167 fX5_59 (by first | assumption | rfl) (by omega) (Or.inl rfl) rfl ?_
                refine gr_iconst dX5_readsPlayer_170 ?_
                refine gr_iret dX5_readsPlayer_171 (by first | exact Or.inl rfl | exact Or.inr ⟨rfl, by omega⟩) (by decide) (by decide) ?_
                rw [← hQ9]
                have oA : ∀ x y, ¬ (x = 99 ∧ (y = 10 ∨ y = 15 ∨ y = 16)) → ¬ (x = 107 ∧ 5 * P ≤ y ∧ y < 5 * P + 5) → gw_U (gw_U J9 107 (5 * P) k) 99 10 ((P + 1 : Nat) : Int) x y = J x y := fun x y h1 h2 => by
                  rw [gw_U_n (by omega), gw_U_n (by omega), p9 x y (by omega) h2]
                have o7 : ∀ y, y ≠ 5 * P → gw_U (gw_U J9 107 (5 * P) k) 99 10 ((P + 1 : Nat) : Int) 107 y = J9 107 y := fun y h => by rw [gw_U_n (by omega), gw_U_n (by omega)]
                refine ⟨_, _, rfl, rfl, Or.inr rfl, fun x y h1 h2 h3 => oA x y (by omega) (by omega), Or.inr ⟨rfl, e, _, rfl, by rw [gw_U_n (by omega), gw_U_n (by omega)]; exact q15, hen, ⟨by rw [gw_U_s, ← hP]; rfl, fun p hp r hr => ?_, ?_, fun c hc => ?_, ?_, ?_, ?_⟩, ?_⟩⟩
                · have hp : p < P + 1 := by rw [← hP]; exact hp
                  show _ = if p = st.1 then (if r + 1 = 1 then k else if r + 1 = 2 then v1 else if r + 1 = 3 then v2 else if r + 1 = 4 then v3 else sp) else st.2.1 (r + 1) p
                  rw [hP]
                  by_cases hpP : p = P
                  · rw [if_pos hpP, hpP]
                    rcases (show r = 0 ∨ r = 1 ∨ r = 2 ∨ r = 3 ∨ r = 4 by omega) with rfl | rfl | rfl | rfl | rfl
                    · rw [if_pos (by omega), gw_U_n (by omega)]; exact gw_U_s
                    · rw [if_neg (by omega), if_pos (by omega), o7 _ (by omega)]; exact q1
                    · rw [if_neg (by omega), if_neg (by omega), if_pos (by omega), o7 _ (by omega)]; exact q2
                    · rw [if_neg (by omega), if_neg (by omega), if_neg (by omega), if_pos (by omega), o7 _ (by omega)]; exact q3
                    · rw [if_neg (by omega), if_neg (by omega), if_neg (by omega), if_neg (by omega), o7 _ (by omega)]; exact q4
                  · rw [if_neg hpP, oA _ _ (by omega) (by omega)]
                    exact s2 p (by omega) r hr
                · rw [oA 108 0 (by omega) (by omega)]; exact s3
                · obtain ⟨u1, u2⟩ := s4 c hc
                  refine ⟨?_, fun i hi => ?_⟩
                  · rw [oA 108 _ (by omega) (by omega)]; exact u1
                  · rw [oA 108 _ (by omega) (by omega)]; exact u2 i hi
                · rw [oA 108 34 (by omega) (by omega)]; exact s5
                · rw [oA 108 35 (by omega) (by omega)]; exact s6
                · rw [oA 99 17 (by omega) (by omega)]; exact s7
                · refine ⟨by show st.1 + 1 ≤ 4; omega, b2, fun p hp => ?_⟩
                  have hp : p < P + 1 := by rw [← hP]; exact hp
                  show 0 ≤ (if p = st.1 then (if 1 = 1 then k else _) else st.2.1 1 p) ∧ (if p = st.1 then (if 1 = 1 then k else _) else st.2.1 1 p) ≤ 2
                  rw [hP]
                  by_cases hpP : p = P
                  · rw [if_pos hpP, if_pos rfl]; exact hk
                  · rw [if_neg hpP]; exact b3 p (by omega)
              refine gr_if_ne 103 dX5_readsPlayer_98 (by decide) (by unfold gw_in; omega) (fun h98 => ?_) (fun h98 => ?_)
              · refine gr_aload_n dX5_readsPlayer_103 rfl ?_
                refine gr_getR dX5_readsPlayer_104 fX5_32 (by first | assumption | rfl) (by omega) (by decide) rfl (by assumption) ?_
                refine gr_iload_n dX5_readsPlayer_107 rfl ?_
                refine gr_iconst dX5_readsPlayer_108 ?_
                refine gr_iadd (v := ((5 * P + 3 : Nat) : Int)) dX5_readsPlayer_109 (by omega) ?_
                refine gr_aload_n dX5_readsPlayer_110 rfl ?_
                refine gr_getI dX5_readsPlayer_111 fX5_86 (by first | assumption | rfl) (by omega) (by decide) rfl ?_
                rw [x16]
                refine gr_iast (i := 5 * P + 3) dX5_readsPlayer_114 (by first | assumption | rfl) (by omega) (by omega) (by omega) (by decide) ?_
                refine gr_aload_n dX5_readsPlayer_115 rfl ?_
                refine gr_getR dX5_readsPlayer_116 fX5_32 (by first | assumption | rfl) (by omega) (by decide) rfl (by assumption) ?_
                refine gr_iload_n dX5_readsPlayer_119 rfl ?_
                refine gr_iconst dX5_readsPlayer_120 ?_
                refine gr_iadd (v := ((5 * P + 4 : Nat) : Int)) dX5_readsPlayer_121 (by omega) ?_
                refine gr_iconst dX5_readsPlayer_122 ?_
                refine gr_iast (i := 5 * P + 4) dX5_readsPlayer_123 (by first | assumption | rfl) (by omega) (by omega) (by omega) (by decide) ?_
                refine gr_iload_n dX5_readsPlayer_124 rfl ?_
                refine gr_iconst dX5_readsPlayer_125 ?_
                generalize hJ7 : gw_U (gw_U J6 107 (5 * P + 3) v3) 107 (5 * P + 4) 0 = J7
                have o7 : ∀ x y, ¬ (x = 107 ∧ (y = 5 * P + 3 ∨ y = 5 * P + 4)) → J7 x y = J6 x y := fun x y h => by rw [← hJ7, gw_U_n (by omega), gw_U_n (by omega)]
                have p7 : gm_pr5 J J7 P := fun x y h1 h2 => by rw [o7 x y (by omega), p6 x y h1 h2]
                have t71 : J7 107 (5 * P + 1) = v1 := by rw [o7 _ _ (by omega), o6 _ _ (by omega)]; exact t51
                have t72 : J7 107 (5 * P + 2) = v2 := by rw [o7 _ _ (by omega), o6 _ _ (by omega)]; exact t52
                have t73 : J7 107 (5 * P + 3) = v3 := by rw [← hJ7, gw_U_n (by omega), gw_U_s]
                have t74 : J7 107 (5 * P + 4) = 0 := by rw [← hJ7, gw_U_s]
                refine gr_icmp_ne 153 dX5_readsPlayer_126 (by decide) (by unfold gw_in; omega) (by unfold gw_in; omega) (fun h126 => ?_) (fun h126 => ?_)
                · rw [if_neg h126] at hQ
                  exact fin J7 e3 0 p7 t71 t72 t73 t74 (by rw [o7 _ _ (by omega)]; exact x15) (by omega) hQ
                · rw [if_pos h126] at hQ
                  refine gr_aload_n dX5_readsPlayer_129 rfl ?_
                  refine gr_iconst dX5_readsPlayer_130 ?_
                  refine gr_bipush dX5_readsPlayer_131 (by decide) ?_
                  refine gr_virt dX5_readsPlayer_133 kX5_92 (as := [_, _]) rfl rfl (by first | assumption | rfl) (by omega) (Nat.le_of_ble_eq_true rfl) (gw_Rm_m (by omega) (by decide) (by decide)) (m_reads (a := e3) (lo := 0) (hi := 12) d hK (gm_pf_t (gm_pr5_pf p7) hT) (by rw [o7 99 15 (by omega)]; exact x15) (by omega) (by omega) (by omega)) ?_
                  rintro _ _ ⟨r, J8, rfl, rfl, h01, o8, hrd⟩
                  have p8 : gm_pr5 J J8 P := fun x y h1 h2 => by rw [o8 x y (by omega), p7 x y h1 h2]
                  unfold gm_rd at hrd
                  cases hn4 : gt_num T n 0 12 e3 with
                  | none =>
                    rw [hn4] at hrd hQ
                    obtain ⟨rfl, y15⟩ := hrd
                    refine gr_if_ne 141 dX5_readsPlayer_136 (by decide) (by unfold gw_in; omega) (fun h136 => ?_) (fun h136 => ?_)
                    · omega
                    · refine gr_iconst dX5_readsPlayer_139 ?_
                      refine gr_iret dX5_readsPlayer_140 (by first | exact Or.inl rfl | exact Or.inr ⟨rfl, by omega⟩) (by decide) (by decide) ((hQ ▸ ⟨_, _, rfl, rfl, Or.inl rfl, gm_pr5_pf p8, Or.inl ⟨rfl, _, rfl, y15⟩⟩))
                  | some q =>
                    obtain ⟨e4, v4⟩ := q
                    rw [hn4] at hrd hQ
                    obtain ⟨rfl, y15, y16⟩ := hrd
                    have c4 := gt_num_in hn4 (by omega)
                    simp only at y15 y16 hQ
                    refine gr_if_ne 141 dX5_readsPlayer_136 (by decide) (by unfold gw_in; omega) (fun h136 => ?_) (fun h136 => ?_)
                    · refine gr_aload_n dX5_readsPlayer_141 rfl ?_
                      refine gr_getR dX5_readsPlayer_142 fX5_32 (by first | assumption | rfl) (by omega) (by decide) rfl (by assumption) ?_
                      refine gr_iload_n dX5_readsPlayer_145 rfl ?_
                      refine gr_iconst dX5_readsPlayer_146 ?_
                      refine gr_iadd (v := ((5 * P + 4 : Nat) : Int)) dX5_readsPlayer_147 (by omega) ?_
                      refine gr_aload_n dX5_readsPlayer_148 rfl ?_
                      refine gr_getI dX5_readsPlayer_149 fX5_86 (by first | assumption | rfl) (by omega) (by decide) rfl ?_
                      rw [y16]
                      refine gr_iast (i := 5 * P + 4) dX5_readsPlayer_152 (by first | assumption | rfl) (by omega) (by omega) (by omega) (by decide) ?_
                      have o9 : ∀ x y, ¬ (x = 107 ∧ y = 5 * P + 4) → gw_U J8 107 (5 * P + 4) v4 x y = J8 x y := fun x y h => gw_U_n h
                      exact fin _ e4 v4 (fun x y h1 h2 => by rw [o9 x y (by omega), p8 x y h1 h2]) (by rw [o9 _ _ (by omega), o8 _ _ (by omega)]; exact t71) (by rw [o9 _ _ (by omega), o8 _ _ (by omega)]; exact t72) (by rw [o9 _ _ (by omega), o8 _ _ (by omega)]; exact t73) gw_U_s (by rw [o9 _ _ (by omega)]; exact y15) (by omega) hQ
                    · omega
              · omega
          · omega
      · omega
  refine gw_enter okX5_readsPlayer rfl (Nat.le_of_ble_eq_true rfl) ?_
  refine gr_aload_n dX5_readsPlayer_0 rfl ?_
  refine gr_getI dX5_readsPlayer_1 fX5_59 (by first | assumption | rfl) (by omega) (by decide) rfl ?_
  rw [s1]
  refine gr_iconst dX5_readsPlayer_4 ?_
  refine gr_icmp_eq 21 dX5_readsPlayer_5 (by decide) (by unfold gw_in; omega) (by unfold gw_in; omega) (fun h5 => ?_) (fun h5 => ?_)
  · exact full (Or.inl (by omega))
  · refine gr_iload_n dX5_readsPlayer_8 rfl ?_
    refine gr_iconst dX5_readsPlayer_9 ?_
    refine gr_icmp_ne 23 dX5_readsPlayer_10 (by decide) (by unfold gw_in; omega) (by unfold gw_in; omega) (fun h10 => ?_) (fun h10 => ?_)
    · exact go (by omega)
    · refine gr_aload_n dX5_readsPlayer_13 rfl ?_
      refine gr_virt dX5_readsPlayer_14 kX5_89 (as := []) rfl rfl (by first | assumption | rfl) (by omega) (Nat.le_of_ble_eq_true rfl) (gw_Rm_m (by omega) (by decide) (by decide)) (m_bows (P := st.1) (K := st.2.1 1) (d + 1) hK s1 b1 (fun p hp => ⟨by have := s2 p hp 0 (by omega); rw [Nat.add_zero] at this; exact this, b3 p hp⟩)) ?_
      rintro _ _ ⟨rfl, rfl⟩
      have w1 := gb_bw_nn (K := st.2.1 1) (n := st.1)
      have w2 := gb_bw_up (K := st.2.1 1) st.1
      refine gr_iconst dX5_readsPlayer_17 ?_
      refine gr_icmp_ne 23 dX5_readsPlayer_18 (by decide) (by unfold gw_in; omega) (by unfold gw_in; omega) (fun h18 => ?_) (fun h18 => ?_)
      · exact go (by omega)
      · exact full (Or.inr ⟨h10, h18⟩)
end GM
