/-! THE REFERENCE beside the class: what is told and done -/
/-- the class's places are left alone -/
def gm_fr (J J' : Nat → Nat → Int) : Prop := ∀ a, a < 99 → J' a = J a
theorem gm_fr_sa {J J' : Nat → Nat → Int} (h : gm_sa J J') : gm_fr J J' := fun a ha => gm_sa_e h (by omega) (by omega)
theorem gm_Q_mv {A J J' : Nat → Nat → Int} {k q b q' b' : Nat} (h8 : A k 0 ≤ 8) (h : ∀ i, i < 36 → J' q' (b' + i) = J q (b + i)) (hQ : gm_Q A J k q b) : gm_Q A J' k q' b' := by
  obtain ⟨q1, q2, q3, q4, q5⟩ := hQ
  refine ⟨by have := h 0 (by omega); rw [Nat.add_zero, Nat.add_zero] at this; rw [this]; exact q1, by rw [h 33 (by omega)]; exact q2, by rw [h 34 (by omega)]; exact q3, by rw [h 35 (by omega)]; exact q4, fun c hc => ?_⟩
  obtain ⟨a, b⟩ := q5 c hc
  have := gp_cnt_le (A (k + 1)) c
  rw [h (4 * c + 1) (by omega)]
  exact ⟨a, fun i hi => by rw [h (4 * c + 2 + i) (by omega)]; exact b i hi⟩
theorem gm_Q_e {A A' J J' : Nat → Nat → Int} {k q b : Nat} (h1 : A' k = A k) (h2 : A' (k + 1) = A (k + 1)) (hJ : J' q = J q) (hQ : gm_Q A J k q b) : gm_Q A' J' k q b := gm_Q_J hJ (gm_Q_A (fun i _ => by rw [h1]) (fun i _ => by rw [h2]) hQ)
section GM
variable {A A' J : Nat → Nat → Int} {F : Nat → Nat → Option Nat} {P n : Nat} {pp : Nat → Nat}
/-- the class's places that count are as they were -/
theorem gm_R_c (hK : gc_K F pp) (hD : gc_D A P n pp) (e1 : ∀ a, 13 ≤ a → a ≤ 20 → A' a = A a) (e5 : A' 0 5 = A 0 5) (e10 : A' 0 10 = A 0 10) (ep : ∀ a, 72 ≤ a → a ≤ 98 → A' a = A a) (et : A' 1 2 = A 1 2) (ex : A' 10 = A 10) (hR : gm_R A pp J) : gm_R A' pp J := by
  obtain ⟨⟨r1, r2⟩, r3, ⟨r4, r5⟩, r6, ⟨r7, r8⟩, r9, r10⟩ := hR
  refine ⟨⟨by rw [e1 13 (by omega) (by omega)]; exact r1, fun p hp r hr => ?_⟩, gm_Q_e (e1 19 (by omega) (by omega)) (e1 20 (by omega) (by omega)) rfl r3, ⟨by rw [e5]; exact r4, fun j hj => ?_⟩, fun i hi => ⟨by rw [ep 72 (by omega) (by omega)]; exact (r6 i hi).1, fun q => ?_⟩, ⟨by rw [e10]; exact r7, fun h hh => ?_⟩, by rw [et]; exact r9, fun i hi => ?_⟩
  · rw [e1 13 (by omega) (by omega)] at hp
    rw [e1 (14 + r) (by omega) (by omega)]; exact r2 p hp r hr
  · rw [e5] at hj
    have := hD.2.2.2.1.1
    obtain ⟨-, q2, q3, -⟩ := gc_pp hK (show j < 10 by omega)
    exact gm_Q_e (ep _ (by omega) (by omega)) (ep _ (by omega) (by omega)) rfl (r5 j hj)
  · rw [ep 72 (by omega) (by omega)] at q
    exact gm_Q_e (ep _ (by omega) (by omega)) (ep _ (by omega) (by omega)) rfl ((r6 i hi).2 q)
  · rw [e10] at hh
    rw [ep 73 (by omega) (by omega), ep 74 (by omega) (by omega)]; exact r8 h hh
  · rw [et] at hi
    rw [ex]; exact r10 i hi
theorem gm_R_same (hK : gc_K F pp) (hD : gc_D A P n pp) (h : gc_same A A') (hR : gm_R A pp J) : gm_R A' pp J := gm_R_c hK hD (fun a _ _ => gc_same_e h (by omega) (by omega) (by omega)) (h 0 5 (by omega) (by omega) (by omega)) (h 0 10 (by omega) (by omega) (by omega)) (fun a _ _ => gc_same_e h (by omega) (by omega) (by omega)) (by rw [gc_same_e h (by omega) (by omega) (by omega)]) (gc_same_e h (by omega) (by omega) (by omega)) hR
/-- 'now' alone has changed, on both sides -/
theorem gm_R_now {J' : Nat → Nat → Int} (hK : gc_K F pp) (hD : gc_D A P n pp) (hA : ∀ a, a ≠ 19 → a ≠ 20 → A' a = A a) (hJ : ∀ a, a ≠ 101 → J' a = J a) (hQ : gm_Q A' J' 19 101 0) (hR : gm_R A pp J) : gm_R A' pp J' := by
  obtain ⟨⟨r1, r2⟩, r3, ⟨r4, r5⟩, r6, ⟨r7, r8⟩, r9, r10⟩ := hR
  have h99 := hJ 99 (by omega)
  refine ⟨⟨by rw [h99, hA 13 (by omega) (by omega)]; exact r1, fun p hp r hr => ?_⟩, hQ, ⟨by rw [h99, hA 0 (by omega) (by omega)]; exact r4, fun j hj => ?_⟩, fun i hi => ⟨by rw [hJ 103 (by omega), hA 72 (by omega) (by omega)]; exact (r6 i hi).1, fun q => ?_⟩, ⟨by rw [h99, hA 0 (by omega) (by omega)]; exact r7, fun h hh => ?_⟩, by rw [h99, hA 1 (by omega) (by omega)]; exact r9, fun i hi => ?_⟩
  · rw [hA 13 (by omega) (by omega)] at hp
    rw [hJ 100 (by omega), hA (14 + r) (by omega) (by omega)]; exact r2 p hp r hr
  · rw [hA 0 (by omega) (by omega)] at hj
    have := hD.2.2.2.1.1
    obtain ⟨-, q2, q3, -⟩ := gc_pp hK (show j < 10 by omega)
    exact gm_Q_e (hA _ (by omega) (by omega)) (hA _ (by omega) (by omega)) (hJ 102 (by omega)) (r5 j hj)
  · rw [hA 72 (by omega) (by omega)] at q
    exact gm_Q_e (hA _ (by omega) (by omega)) (hA _ (by omega) (by omega)) (hJ 104 (by omega)) ((r6 i hi).2 q)
  · rw [hA 0 (by omega) (by omega)] at hh
    rw [hJ 105 (by omega), hJ 106 (by omega), hA 73 (by omega) (by omega), hA 74 (by omega) (by omega)]; exact r8 h hh
  · rw [hA 1 (by omega) (by omega)] at hi
    rw [hJ 109 (by omega), hA 10 (by omega) (by omega)]; exact r10 i hi
theorem m_type {x : Int} (d : Nat) (hC : gc_K F pp) (hK : gm_K F) (hR : gm_R A pp J) (hD : gc_D A P n pp) (hx : gw_in x) (hu : gu_type A A' n x) : gw_Met jX5_type (d + 1) [.inr (some 99), .inl x] (114, J, F) (gw_io F (fun r J' => r = ga_type n x ∧ gm_fr J J' ∧ gm_R A' pp J')) := by
  obtain ⟨g1, g2, g4, g5, g6, g8, g9, g11, g12, g14, g18, g19, g20, g21⟩ := id hK
  obtain ⟨⟨r1, r2⟩, r3, ⟨r4, r5⟩, r6, ⟨r7, r8⟩, r9, r10⟩ := id hR
  obtain ⟨t1, t2, t3⟩ := hD.2.2.1.1
  have e13 : J 99 13 = (n : Int) := by rw [r9]; exact t1
  generalize hQ : gw_io F (fun r J' => r = ga_type n x ∧ gm_fr J J' ∧ gm_R A' pp J') = Q
  unfold gu_type at hu
  refine gw_enter okX5_type rfl (Nat.le_of_ble_eq_true rfl) ?_
  refine gr_iload_n dX5_type_0 rfl ?_
  refine gr_iconst dX5_type_1 ?_
  refine gr_sipush dX5_type_2 (by decide) ?_
  refine gr_stat dX5_type_5 kX5_72 (as := [_, _, _]) rfl rfl (Nat.le_of_ble_eq_true rfl) (gw_Rm_m (by omega) (by decide) (by decide)) (m_in d hx (by unfold gw_in; omega) (by unfold gw_in; omega)) ?_
  rintro _ _ ⟨rfl, rfl⟩
  by_cases h1 : 0 ≤ x ∧ x ≤ 255
  · rw [if_pos h1]
    refine gr_if_ne 13 dX5_type_8 (by decide) (by unfold gw_in; omega) (fun h8 => ?_) (fun h8 => ?_)
    · refine gr_aload_n dX5_type_13 rfl ?_
      refine gr_getI dX5_type_14 fX5_76 (by first | assumption | rfl) (by omega) (by decide) rfl ?_
      rw [e13]
      refine gr_sipush dX5_type_17 (by decide) ?_
      refine gr_icmp_ne 26 dX5_type_20 (by decide) (by unfold gw_in; omega) (by unfold gw_in; omega) (fun h20 => ?_) (fun h20 => ?_)
      · rw [if_pos ⟨h1, by omega⟩] at hu
        refine gr_aload_n dX5_type_26 rfl ?_
        refine gr_getR dX5_type_27 fX5_38 (by first | assumption | rfl) (by omega) (by decide) rfl (by assumption) ?_
        refine gr_aload_n dX5_type_30 rfl ?_
        refine gr_getI dX5_type_31 fX5_76 (by first | assumption | rfl) (by omega) (by decide) rfl ?_
        rw [e13]
        refine gr_iload_n dX5_type_34 rfl ?_
        refine gr_iast (i := n) dX5_type_35 (by first | assumption | rfl) (by omega) (by omega) (by omega) (by decide) ?_
        refine gr_aload_n dX5_type_36 rfl ?_
        refine gr_dup dX5_type_37 ?_
        refine gr_getI dX5_type_38 fX5_76 (by first | assumption | rfl) (by omega) (by decide) rfl ?_
        rw [show gw_U J 109 n x 99 13 = (n : Int) from (gw_U_n (by omega)).trans e13]
        refine gr_iconst dX5_type_41 ?_
        refine gr_iadd dX5_type_42 rfl ?_
        refine gr_putI dX5_type_43 fX5_76 (by first | assumption | rfl) (by omega) (Or.inl rfl) rfl ?_
        refine gr_aload_n dX5_type_46 rfl ?_
        refine gr_getI dX5_type_47 fX5_76 (by first | assumption | rfl) (by omega) (by decide) rfl ?_
        rw [gw_U_s]
        refine gr_iret dX5_type_50 (by first | exact Or.inl rfl | exact Or.inr ⟨rfl, by omega⟩) (by decide) (by decide) ?_
        rw [← hQ]
        have hJ : ∀ a, a ≠ 99 → a ≠ 109 → gw_U (gw_U J 109 n x) 99 13 ((n : Int) + 1) a = J a := fun a h1 h2 => by rw [gw_U_r h1, gw_U_r h2]
        have hJ9 : ∀ i, i ≠ 13 → gw_U (gw_U J 109 n x) 99 13 ((n : Int) + 1) 99 i = J 99 i := fun i h => by rw [gw_U_n (by omega), gw_U_n (by omega)]
        have hA : ∀ a, a ≠ 1 → a ≠ 10 → A' a = A a := fun a h1 h2 => funext fun b => by rw [hu, if_neg (by omega), if_neg (by omega)]
        refine ⟨_, _, rfl, rfl, by unfold ga_type; rw [if_pos h1, if_pos (by omega)], fun a ha => hJ a (by omega) (by omega), ⟨by rw [hJ9 0 (by omega), hA 13 (by omega) (by omega)]; exact r1, fun p hp r hr => ?_⟩, gm_Q_e (hA 19 (by omega) (by omega)) (hA 20 (by omega) (by omega)) (hJ 101 (by omega) (by omega)) r3, ⟨by rw [hJ9 3 (by omega), hA 0 (by omega) (by omega)]; exact r4, fun j hj => ?_⟩, fun i hi => ⟨by rw [hJ 103 (by omega) (by omega), hA 72 (by omega) (by omega)]; exact (r6 i hi).1, fun q => ?_⟩, ⟨by rw [hJ9 7 (by omega), hA 0 (by omega) (by omega)]; exact r7, fun h hh => ?_⟩, by rw [gw_U_s, hu, if_pos (by omega)], fun i hi => ?_⟩
        · rw [hA 13 (by omega) (by omega)] at hp
          rw [hJ 100 (by omega) (by omega), hA (14 + r) (by omega) (by omega)]; exact r2 p hp r hr
        · rw [hA 0 (by omega) (by omega)] at hj
          have := hD.2.2.2.1.1
          obtain ⟨-, q2, q3, -⟩ := gc_pp hC (show j < 10 by omega)
          exact gm_Q_e (hA _ (by omega) (by omega)) (hA _ (by omega) (by omega)) (hJ 102 (by omega) (by omega)) (r5 j hj)
        · rw [hA 72 (by omega) (by omega)] at q
          exact gm_Q_e (hA _ (by omega) (by omega)) (hA _ (by omega) (by omega)) (hJ 104 (by omega) (by omega)) ((r6 i hi).2 q)
        · rw [hA 0 (by omega) (by omega)] at hh
          rw [hJ 105 (by omega) (by omega), hJ 106 (by omega) (by omega), hA 73 (by omega) (by omega), hA 74 (by omega) (by omega)]; exact r8 h hh
        · rw [hu, if_pos (by omega)] at hi
          rw [gw_U_n (by omega), hu, if_neg (by omega)]
          by_cases h : i = n
          · subst h; rw [gw_U_s, if_pos (by omega)]
          · rw [gw_U_n (by omega), if_neg (by omega)]; exact r10 i (by omega)
      · rw [if_neg (by omega)] at hu
        refine gr_bipush dX5_type_23 (by decide) ?_
        refine gr_iret dX5_type_25 (by first | exact Or.inl rfl | exact Or.inr ⟨rfl, by omega⟩) (by decide) (by decide) ((hQ ▸ ⟨_, _, rfl, rfl, by unfold ga_type; rw [if_pos h1, if_neg (by omega)], fun _ _ => rfl, by rw [hu]; exact hR⟩))
    · omega
  · rw [if_neg (fun h => h1 h.1)] at hu
    rw [if_neg h1]
    refine gr_if_ne 13 dX5_type_8 (by decide) (by unfold gw_in; omega) (fun h8 => ?_) (fun h8 => ?_)
    · omega
    · refine gr_iconst dX5_type_11 ?_
      refine gr_iret dX5_type_12 (by first | exact Or.inl rfl | exact Or.inr ⟨rfl, by omega⟩) (by decide) (by decide) ((hQ ▸ ⟨_, _, rfl, rfl, by unfold ga_type; rw [if_neg h1], fun _ _ => rfl, by rw [hu]; exact hR⟩))
theorem m_clear (d : Nat) (hC : gc_K F pp) (hR : gm_R A pp J) (hD : gc_D A P n pp) (hu : A' = gw_U A 1 2 0) : gw_Met jX5_clear d [.inr (some 99)] (114, J, F) (gw_io F (fun r J' => r = (n : Int) ∧ gm_fr J J' ∧ gm_R A' pp J')) := by
  obtain ⟨⟨r1, r2⟩, r3, ⟨r4, r5⟩, r6, ⟨r7, r8⟩, r9, r10⟩ := id hR
  obtain ⟨t1, t2, t3⟩ := hD.2.2.1.1
  have e13 : J 99 13 = (n : Int) := by rw [r9]; exact t1
  have hA : ∀ a, a ≠ 1 → A' a = A a := fun a h => by rw [hu]; exact gw_U_r h
  have hJ : ∀ a, a ≠ 99 → gw_U J 99 13 0 a = J a := fun a h => gw_U_r h
  refine gw_enter okX5_clear rfl (Nat.le_of_ble_eq_true rfl) ?_
  refine gr_aload_n dX5_clear_0 rfl ?_
  refine gr_getI dX5_clear_1 fX5_76 (by first | assumption | rfl) (by omega) (by decide) rfl ?_
  refine gr_istore_n dX5_clear_4 (by decide) ?_
  refine gr_aload_n dX5_clear_5 rfl ?_
  refine gr_iconst dX5_clear_6 ?_
  refine gr_putI dX5_clear_7 fX5_76 (by first | assumption | rfl) (by omega) (Or.inl rfl) rfl ?_
  refine gr_iload_n dX5_clear_10 rfl ?_
  rw [e13]
  refine gr_iret dX5_clear_11 (by first | exact Or.inl rfl | exact Or.inr ⟨rfl, by omega⟩) (by decide) (by decide) ?_
  refine ⟨_, _, rfl, rfl, rfl, fun a ha => hJ a (by omega), ⟨by rw [gw_U_n (by omega), hA 13 (by omega)]; exact r1, fun p hp r hr => ?_⟩, gm_Q_e (hA 19 (by omega)) (hA 20 (by omega)) (hJ 101 (by omega)) r3, ⟨by rw [gw_U_n (by omega), hA 0 (by omega)]; exact r4, fun j hj => ?_⟩, fun i hi => ⟨by rw [hJ 103 (by omega), hA 72 (by omega)]; exact (r6 i hi).1, fun q => ?_⟩, ⟨by rw [gw_U_n (by omega), hA 0 (by omega)]; exact r7, fun h hh => ?_⟩, by rw [gw_U_s, hu, gw_U_s], fun i hi => ?_⟩
  · rw [hA 13 (by omega)] at hp
    rw [hJ 100 (by omega), hA (14 + r) (by omega)]; exact r2 p hp r hr
  · rw [hA 0 (by omega)] at hj
    have := hD.2.2.2.1.1
    obtain ⟨-, q2, q3, -⟩ := gc_pp hC (show j < 10 by omega)
    exact gm_Q_e (hA _ (by omega)) (hA _ (by omega)) (hJ 102 (by omega)) (r5 j hj)
  · rw [hA 72 (by omega)] at q
    exact gm_Q_e (hA _ (by omega)) (hA _ (by omega)) (hJ 104 (by omega)) ((r6 i hi).2 q)
  · rw [hA 0 (by omega)] at hh
    rw [hJ 105 (by omega), hJ 106 (by omega), hA 73 (by omega), hA 74 (by omega)]; exact r8 h hh
  · rw [hu, gw_U_s] at hi; omega
theorem m_forget (d : Nat) (hC : gc_K F pp) (hR : gm_R A pp J) (hD : gc_D A P n pp) (hu : A' = gw_U A 0 10 0) : gw_Met jX5_forget d [.inr (some 99)] (114, J, F) (gw_io F (fun r J' => r = A 0 10 ∧ gm_fr J J' ∧ gm_R A' pp J')) := by
  obtain ⟨⟨r1, r2⟩, r3, ⟨r4, r5⟩, r6, ⟨r7, r8⟩, r9, r10⟩ := id hR
  have hA : ∀ a, a ≠ 0 → A' a = A a := fun a h => by rw [hu]; exact gw_U_r h
  have hA5 : A' 0 5 = A 0 5 := by rw [hu]; exact gw_U_n (by omega)
  have hJ : ∀ a, a ≠ 99 → gw_U J 99 7 0 a = J a := fun a h => gw_U_r h
  refine gw_enter okX5_forget rfl (Nat.le_of_ble_eq_true rfl) ?_
  refine gr_aload_n dX5_forget_0 rfl ?_
  refine gr_getI dX5_forget_1 fX5_69 (by first | assumption | rfl) (by omega) (by decide) rfl ?_
  refine gr_istore_n dX5_forget_4 (by decide) ?_
  refine gr_aload_n dX5_forget_5 rfl ?_
  refine gr_iconst dX5_forget_6 ?_
  refine gr_putI dX5_forget_7 fX5_69 (by first | assumption | rfl) (by omega) (Or.inl rfl) rfl ?_
  refine gr_iload_n dX5_forget_10 rfl ?_
  rw [r7]
  refine gr_iret dX5_forget_11 (by first | exact Or.inl rfl | exact Or.inr ⟨rfl, by omega⟩) (by decide) (by decide) ?_
  refine ⟨_, _, rfl, rfl, rfl, fun a ha => hJ a (by omega), ⟨by rw [gw_U_n (by omega), hA 13 (by omega)]; exact r1, fun p hp r hr => ?_⟩, gm_Q_e (hA 19 (by omega)) (hA 20 (by omega)) (hJ 101 (by omega)) r3, ⟨by rw [gw_U_n (by omega), hA5]; exact r4, fun j hj => ?_⟩, fun i hi => ⟨by rw [hJ 103 (by omega), hA 72 (by omega)]; exact (r6 i hi).1, fun q => ?_⟩, ⟨by rw [gw_U_s, hu, gw_U_s], fun h hh => ?_⟩, by rw [gw_U_n (by omega), hA 1 (by omega)]; exact r9, fun i hi => ?_⟩
  · rw [hA 13 (by omega)] at hp
    rw [hJ 100 (by omega), hA (14 + r) (by omega)]; exact r2 p hp r hr
  · rw [hA5] at hj
    have := hD.2.2.2.1.1
    obtain ⟨-, q2, q3, -⟩ := gc_pp hC (show j < 10 by omega)
    exact gm_Q_e (hA _ (by omega)) (hA _ (by omega)) (hJ 102 (by omega)) (r5 j hj)
  · rw [hA 72 (by omega)] at q
    exact gm_Q_e (hA _ (by omega)) (hA _ (by omega)) (hJ 104 (by omega)) ((r6 i hi).2 q)
  · rw [hu, gw_U_s] at hh; omega
  · rw [hA 1 (by omega)] at hi
    rw [hJ 109 (by omega), hA 10 (by omega)]; exact r10 i hi
theorem m_hears {c x : Int} (d : Nat) (hC : gc_K F pp) (hK : gm_K F) (hR : gm_R A pp J) (hD : gc_D A P n pp) (hc : gw_in c) (hx : gw_in x) (hu : gu_hears A A' c x) : gw_Met jX5_hears (d + 2) [.inr (some 99), .inl c, .inl x] (114, J, F) (gw_io F (fun r J' => r = ga_hears A c x ∧ gm_fr J J' ∧ gm_R A' pp J')) := by
  obtain ⟨g1, g2, g4, g5, g6, g8, g9, g11, g12, g14, g18, g19, g20, g21⟩ := id hK
  obtain ⟨⟨r1, r2⟩, r3, ⟨r4, r5⟩, r6, ⟨r7, r8⟩, r9, r10⟩ := id hR
  obtain ⟨hV, hS, h33, hset, h35, hbal⟩ := gm_R_V hR hD
  obtain ⟨z1, z2⟩ := gm_sz hD
  obtain ⟨he1, he2⟩ := hD.2.2.2.2.2.1
  generalize hQ : gw_io F (fun r J' => r = ga_hears A c x ∧ gm_fr J J' ∧ gm_R A' pp J') = Q
  unfold gu_hears at hu
  have bad : ¬ ((0 ≤ c ∧ c < A 19 0) ∧ 0 ≤ x ∧ x ≤ 1) → gw_G (gw_Cm jX5_hears (d + 2) Q) jX5_hears 17 [some (.inr (some 99)), some (.inl c), some (.inl x)] [] (114, J, F) 0 0 := by
    intro hb
    rw [if_neg (fun h => hb h.1)] at hu
    refine gr_iconst dX5_hears_17 ?_
    refine gr_iret dX5_hears_18 (by first | exact Or.inl rfl | exact Or.inr ⟨rfl, by omega⟩) (by decide) (by decide) ((hQ ▸ ⟨_, _, rfl, rfl, by unfold ga_hears; rw [if_neg hb], fun _ _ => rfl, by rw [hu]; exact hR⟩))
  refine gw_enter okX5_hears rfl (Nat.le_of_ble_eq_true rfl) ?_
  refine gr_aload_n dX5_hears_0 rfl ?_
  refine gr_iload_n dX5_hears_1 rfl ?_
  refine gr_virt dX5_hears_2 kX5_124 (as := [_]) rfl rfl (by first | assumption | rfl) (by omega) (Nat.le_of_ble_eq_true rfl) (gw_Rm_m (by omega) (by decide) (by decide)) (m_isChord (d + 0) hK hV.2.2.1 z2 hc) ?_
  rintro _ _ ⟨rfl, rfl⟩
  rw [← z1]
  by_cases h1 : 0 ≤ c ∧ c < A 19 0
  · rw [if_pos h1]
    refine gr_if_eq 17 dX5_hears_5 (by decide) (by unfold gw_in; omega) (fun h5 => ?_) (fun h5 => ?_)
    · omega
    · refine gr_iload_n dX5_hears_8 rfl ?_
      refine gr_iconst dX5_hears_9 ?_
      refine gr_iconst dX5_hears_10 ?_
      refine gr_stat dX5_hears_11 kX5_72 (as := [_, _, _]) rfl rfl (Nat.le_of_ble_eq_true rfl) (gw_Rm_m (by omega) (by decide) (by decide)) (m_in (d + 1) hx (by unfold gw_in; omega) (by unfold gw_in; omega)) ?_
      rintro _ _ ⟨rfl, rfl⟩
      by_cases h2 : 0 ≤ x ∧ x ≤ 1
      · rw [if_pos h2]
        refine gr_if_ne 19 dX5_hears_14 (by decide) (by unfold gw_in; omega) (fun h14 => ?_) (fun h14 => ?_)
        · obtain ⟨m, hm⟩ : ∃ m : Nat, A 0 10 = (m : Int) := ⟨(A 0 10).toNat, by omega⟩
          have e7 : J 99 7 = (m : Int) := by rw [r7]; exact hm
          refine gr_aload_n dX5_hears_19 rfl ?_
          refine gr_getI dX5_hears_20 fX5_69 (by first | assumption | rfl) (by omega) (by decide) rfl ?_
          rw [e7]
          refine gr_bipush dX5_hears_23 (by decide) ?_
          refine gr_icmp_ne 31 dX5_hears_25 (by decide) (by unfold gw_in; omega) (by unfold gw_in; omega) (fun h25 => ?_) (fun h25 => ?_)
          · rw [if_pos ⟨⟨h1, h2⟩, by omega⟩] at hu
            refine gr_aload_n dX5_hears_31 rfl ?_
            refine gr_getR dX5_hears_32 fX5_26 (by first | assumption | rfl) (by omega) (by decide) rfl (by assumption) ?_
            refine gr_aload_n dX5_hears_35 rfl ?_
            refine gr_getI dX5_hears_36 fX5_69 (by first | assumption | rfl) (by omega) (by decide) rfl ?_
            rw [e7]
            refine gr_iload_n dX5_hears_39 rfl ?_
            refine gr_iast (i := m) dX5_hears_40 (by first | assumption | rfl) (by omega) (by omega) (by omega) (by decide) ?_
            refine gr_aload_n dX5_hears_41 rfl ?_
            refine gr_getR dX5_hears_42 fX5_29 (by first | assumption | rfl) (by omega) (by decide) rfl (by assumption) ?_
            refine gr_aload_n dX5_hears_45 rfl ?_
            refine gr_getI dX5_hears_46 fX5_69 (by first | assumption | rfl) (by omega) (by decide) rfl ?_
            rw [show gw_U J 105 m c 99 7 = (m : Int) from (gw_U_n (by omega)).trans e7]
            refine gr_iload_n dX5_hears_49 rfl ?_
            refine gr_iast (i := m) dX5_hears_50 (by first | assumption | rfl) (by omega) (by omega) (by omega) (by decide) ?_
            refine gr_aload_n dX5_hears_51 rfl ?_
            refine gr_dup dX5_hears_52 ?_
            refine gr_getI dX5_hears_53 fX5_69 (by first | assumption | rfl) (by omega) (by decide) rfl ?_
            rw [show gw_U (gw_U J 105 m c) 106 m x 99 7 = (m : Int) from (gw_U_n (by omega)).trans ((gw_U_n (by omega)).trans e7)]
            refine gr_iconst dX5_hears_56 ?_
            refine gr_iadd dX5_hears_57 rfl ?_
            refine gr_putI dX5_hears_58 fX5_69 (by first | assumption | rfl) (by omega) (Or.inl rfl) rfl ?_
            refine gr_aload_n dX5_hears_61 rfl ?_
            refine gr_getI dX5_hears_62 fX5_69 (by first | assumption | rfl) (by omega) (by decide) rfl ?_
            rw [gw_U_s]
            refine gr_iret dX5_hears_65 (by first | exact Or.inl rfl | exact Or.inr ⟨rfl, by omega⟩) (by decide) (by decide) ?_
            rw [← hQ]
            have hJ : ∀ a, a ≠ 99 → a ≠ 105 → a ≠ 106 → gw_U (gw_U (gw_U J 105 m c) 106 m x) 99 7 ((m : Int) + 1) a = J a := fun a h1 h2 h3 => by rw [gw_U_r h1, gw_U_r h3, gw_U_r h2]
            have hJ9 : ∀ i, i ≠ 7 → gw_U (gw_U (gw_U J 105 m c) 106 m x) 99 7 ((m : Int) + 1) 99 i = J 99 i := fun i h => by rw [gw_U_n (by omega), gw_U_n (by omega), gw_U_n (by omega)]
            have hA : ∀ a, a ≠ 0 → a ≠ 73 → a ≠ 74 → A' a = A a := fun a h1 h2 h3 => funext fun b => by rw [hu, if_neg (by omega), if_neg (by omega), if_neg (by omega)]
            have hA5 : A' 0 5 = A 0 5 := by rw [hu, if_neg (by omega), if_neg (by omega), if_neg (by omega)]
            have hA10 : A' 0 10 = (m : Int) + 1 := by rw [hu, if_pos (by omega), hm]
            refine ⟨_, _, rfl, rfl, by unfold ga_hears; rw [if_pos ⟨h1, h2⟩, if_pos (by omega), hm], fun a ha => hJ a (by omega) (by omega) (by omega), ⟨by rw [hJ9 0 (by omega), hA 13 (by omega) (by omega) (by omega)]; exact r1, fun p hp r hr => ?_⟩, gm_Q_e (hA 19 (by omega) (by omega) (by omega)) (hA 20 (by omega) (by omega) (by omega)) (hJ 101 (by omega) (by omega) (by omega)) r3, ⟨by rw [hJ9 3 (by omega), hA5]; exact r4, fun j hj => ?_⟩, fun i hi => ⟨by rw [hJ 103 (by omega) (by omega) (by omega), hA 72 (by omega) (by omega) (by omega)]; exact (r6 i hi).1, fun q => ?_⟩, ⟨by rw [gw_U_s, hA10], fun h hh => ?_⟩, by rw [hJ9 13 (by omega), hA 1 (by omega) (by omega) (by omega)]; exact r9, fun i hi => ?_⟩
            · rw [hA 13 (by omega) (by omega) (by omega)] at hp
              rw [hJ 100 (by omega) (by omega) (by omega), hA (14 + r) (by omega) (by omega) (by omega)]; exact r2 p hp r hr
            · rw [hA5] at hj
              have := hD.2.2.2.1.1
              obtain ⟨-, q2, q3, -⟩ := gc_pp hC (show j < 10 by omega)
              exact gm_Q_e (hA _ (by omega) (by omega) (by omega)) (hA _ (by omega) (by omega) (by omega)) (hJ 102 (by omega) (by omega) (by omega)) (r5 j hj)
            · rw [hA 72 (by omega) (by omega) (by omega)] at q
              exact gm_Q_e (hA _ (by omega) (by omega) (by omega)) (hA _ (by omega) (by omega) (by omega)) (hJ 104 (by omega) (by omega) (by omega)) ((r6 i hi).2 q)
            · rw [hA10] at hh
              have q1 : gw_U (gw_U (gw_U J 105 m c) 106 m x) 99 7 ((m : Int) + 1) 105 h = if h = m then c else J 105 h := by unfold gw_U; grind
              have q2 : gw_U (gw_U (gw_U J 105 m c) 106 m x) 99 7 ((m : Int) + 1) 106 h = if h = m then x else J 106 h := by unfold gw_U; grind
              rw [q1, q2]
              by_cases h' : h = m
              · rw [if_pos h', if_pos h', hu, hu, if_neg (by omega), if_pos (by omega), if_neg (by omega), if_neg (by omega), if_pos (by omega)]
                exact ⟨rfl, rfl⟩
              · rw [if_neg h', if_neg h', hu, hu, if_neg (by omega), if_neg (by omega), if_neg (by omega), if_neg (by omega), if_neg (by omega), if_neg (by omega)]
                exact r8 h (by omega)
            · rw [hA 1 (by omega) (by omega) (by omega)] at hi
              rw [hJ 109 (by omega) (by omega) (by omega), hA 10 (by omega) (by omega) (by omega)]; exact r10 i hi
          · rw [if_neg (by omega)] at hu
            refine gr_bipush dX5_hears_28 (by decide) ?_
            refine gr_iret dX5_hears_30 (by first | exact Or.inl rfl | exact Or.inr ⟨rfl, by omega⟩) (by decide) (by decide) ((hQ ▸ ⟨_, _, rfl, rfl, by unfold ga_hears; rw [if_pos ⟨h1, h2⟩, if_neg (by omega)], fun _ _ => rfl, by rw [hu]; exact hR⟩))
        · omega
      · rw [if_neg h2]
        refine gr_if_ne 19 dX5_hears_14 (by decide) (by unfold gw_in; omega) (fun h14 => ?_) (fun h14 => ?_)
        · omega
        · exact bad (fun h => h2 h.2)
  · rw [if_neg h1]
    refine gr_if_eq 17 dX5_hears_5 (by decide) (by unfold gw_in; omega) (fun h5 => ?_) (fun h5 => ?_)
    · exact bad (fun h => h1 h.1)
    · omega
end GM
