/-! THE REFERENCE beside the class: what is asked -/
/-- piece k of A lies in row q from b on -/
def gm_Q (A J : Nat → Nat → Int) (k q b : Nat) : Prop := J q b = A k 0 ∧ J q (b + 33) = A k 1 ∧ J q (b + 34) = A k 2 ∧ J q (b + 35) = A k 3 ∧ ∀ c : Nat, (c : Int) < A k 0 → J q (b + (4 * c + 1)) = (gp_cnt (A (k + 1)) c : Int) ∧ ∀ i, i < gp_cnt (A (k + 1)) c → J q (b + (4 * c + 2 + i)) = A (k + 1) (3 * c + i)
/-- the class as it is in A, the reference as it is in J -/
def gm_R (A : Nat → Nat → Int) (pp : Nat → Nat) (J : Nat → Nat → Int) : Prop :=
  (J 99 0 = A 13 0 ∧ ∀ p : Nat, (p : Int) < A 13 0 → ∀ r, r < 5 → J 100 (5 * p + r) = A (14 + r) p) ∧ gm_Q A J 19 101 0 ∧
  (J 99 3 = A 0 5 ∧ ∀ j : Nat, (j : Int) < A 0 5 → gm_Q A J (pp j) 102 (36 * j)) ∧
  (∀ i, i < 2 → J 103 i = A 72 i ∧ (A 72 i = 1 → gm_Q A J (95 + 2 * i) 104 (36 * i))) ∧
  (J 99 7 = A 0 10 ∧ ∀ h : Nat, (h : Int) < A 0 10 → J 105 h = A 73 h ∧ J 106 h = A 74 h) ∧
  (J 99 13 = A 1 2 ∧ ∀ i : Nat, (i : Int) < A 1 2 → J 109 i = A 10 i)
/-- the reference's scratch alone -/
def gm_sa (J J' : Nat → Nat → Int) : Prop := ∀ a i, a < 110 ∨ 113 < a → ¬ (a = 99 ∧ i = 22) → J' a i = J a i
theorem gm_sa_e {J J' : Nat → Nat → Int} (h : gm_sa J J') {a : Nat} (h1 : a < 110 ∨ 113 < a) (h2 : a ≠ 99) : J' a = J a := funext fun i => h a i h1 (by omega)
theorem gm_sa_rf {J : Nat → Nat → Int} : gm_sa J J := fun _ _ _ _ => rfl
theorem gm_sa_tr {J J1 J2 : Nat → Nat → Int} (h1 : gm_sa J J1) (h2 : gm_sa J1 J2) : gm_sa J J2 := fun a i x y => (h2 a i x y).trans (h1 a i x y)
theorem gm_sc_sa {J J' : Nat → Nat → Int} (h : gm_sc J J') : gm_sa J J' := fun a i h1 _ => h a i (by omega) (by omega) (by omega)
theorem gm_Q_J {A J J' : Nat → Nat → Int} {k q b : Nat} (h : J' q = J q) (hQ : gm_Q A J k q b) : gm_Q A J' k q b := by
  unfold gm_Q at hQ ⊢
  rw [h]
  exact hQ
theorem gm_Q_A {A A' J : Nat → Nat → Int} {k k' q b : Nat} (h4 : ∀ i, i < 4 → A' k' i = A k i) (hn : ∀ i : Nat, (i : Int) < 3 * A k 0 → A' (k' + 1) i = A (k + 1) i) (hQ : gm_Q A J k q b) : gm_Q A' J k' q b := by
  obtain ⟨q1, q2, q3, q4, q5⟩ := hQ
  refine ⟨by rw [h4 0 (by omega)]; exact q1, by rw [h4 1 (by omega)]; exact q2, by rw [h4 2 (by omega)]; exact q3, by rw [h4 3 (by omega)]; exact q4, fun c hc => ?_⟩
  rw [h4 0 (by omega)] at hc
  obtain ⟨a, b⟩ := q5 c hc
  have ec : gp_cnt (A' (k' + 1)) c = gp_cnt (A (k + 1)) c := by
    unfold gp_cnt
    rw [hn (3 * c + 0) (by omega), hn (3 * c + 1) (by omega), hn (3 * c + 2) (by omega)]
  have := gp_cnt_le (A (k + 1)) c
  rw [ec]
  exact ⟨a, fun i hi => by rw [hn (3 * c + i) (by omega)]; exact b i hi⟩
theorem gm_R_J {A J J' : Nat → Nat → Int} {pp : Nat → Nat} (h : ∀ a, 99 < a → a < 110 → J' a = J a) (h99 : J' 99 0 = J 99 0 ∧ J' 99 3 = J 99 3 ∧ J' 99 7 = J 99 7 ∧ J' 99 13 = J 99 13) (hR : gm_R A pp J) : gm_R A pp J' := by
  obtain ⟨⟨r1, r2⟩, r3, ⟨r4, r5⟩, r6, ⟨r7, r8⟩, r9, r10⟩ := hR
  obtain ⟨z1, z2, z3, z4⟩ := h99
  refine ⟨⟨by rw [z1]; exact r1, by rw [h 100 (by omega) (by omega)]; exact r2⟩, gm_Q_J (h 101 (by omega) (by omega)) r3, ⟨by rw [z2]; exact r4, fun j hj => gm_Q_J (h 102 (by omega) (by omega)) (r5 j hj)⟩, fun i hi => ⟨by rw [h 103 (by omega) (by omega)]; exact (r6 i hi).1, fun q => gm_Q_J (h 104 (by omega) (by omega)) ((r6 i hi).2 q)⟩, ⟨by rw [z3]; exact r7, by rw [h 105 (by omega) (by omega), h 106 (by omega) (by omega)]; exact r8⟩, by rw [z4]; exact r9, by rw [h 109 (by omega) (by omega)]; exact r10⟩
theorem gm_R_sa {A J J' : Nat → Nat → Int} {pp : Nat → Nat} (h : gm_sa J J') (hR : gm_R A pp J) : gm_R A pp J' := gm_R_J (fun a h1 h2 => gm_sa_e h (by omega) (by omega)) ⟨h 99 0 (by omega) (by omega), h 99 3 (by omega) (by omega), h 99 7 (by omega) (by omega), h 99 13 (by omega) (by omega)⟩ hR
section GM
variable {A J : Nat → Nat → Int} {F : Nat → Nat → Option Nat} {P n : Nat} {pp : Nat → Nat}
/-- what the class's values say of the reference -/
theorem gm_R_V (hR : gm_R A pp J) (hD : gc_D A P n pp) : gm_V J P (gc_B A) (A 20) (A 19 0).toNat (A 19 2) ∧ gm_S P (gc_B A) (A 20) (A 19 0).toNat (A 19 2) ∧ J 101 33 = ((A 19 1).toNat : Int) ∧ (A 19 1).toNat < 16 ∧ J 101 35 = A 19 3 ∧ (0 ≤ A 19 3 ∧ A 19 3 ≤ 30) := by
  obtain ⟨⟨r1, r2⟩, ⟨q1, q2, q3, q4, q5⟩, -⟩ := hR
  obtain ⟨⟨b1, b2, b3, b4, b5⟩, ⟨w, hN⟩, -⟩ := hD
  have hne := gc_ne w
  obtain ⟨w1, w2, w3, w4, w5⟩ := w
  rw [Nat.zero_add] at q2 q3 q4
  refine ⟨⟨by rw [r1]; exact b1, fun p hp r hr => ?_, by rw [q1]; omega, fun c hc => ?_, q3⟩, ⟨b4, by omega, fun p hp => ?_, fun p hp => ?_, hN, fun c hc => hne c (by omega), ?_, w3⟩, by rw [q2]; omega, by omega, q4, w4⟩
  · rw [r2 p (by omega) r hr]
    unfold gc_B
    rw [if_pos (by omega), show 13 + (r + 1) = 14 + r by omega]
  · have := q5 c (by omega)
    simp only [Nat.zero_add] at this
    exact this
  · have := b2 p hp
    unfold gc_B
    simp only [show 1 ≤ 5 by omega, show 2 ≤ 5 by omega, show 3 ≤ 5 by omega, show 4 ≤ 5 by omega, if_true, Nat.le_refl]
    exact this
  · show 2 ≤ (if 4 ≤ 5 then A (13 + 4) p else 0)
    rw [if_pos (by omega)]; exact b5 p hp
  · rw [show gc_B A 1 = A 14 from funext fun p => by unfold gc_B; rw [if_pos (by omega)]]
    exact b3
theorem m_player {x w : Int} (d : Nat) (hK : gm_K F) (hR : gm_R A pp J) (hD : gc_D A P n pp) (hx : gw_in x) (hw : gw_in w) : gw_Met jX5_player (d + 2) [.inr (some 99), .inl x, .inl w] (114, J, F) (gw_pu (ga_player A P x w) (114, J, F)) := by
  obtain ⟨g1, g2, g4, g5, g6, g8, g9, g11, g12, g14, g18, g19, g20, g21⟩ := id hK
  obtain ⟨hV, hS, h33, hset, h35, hbal⟩ := gm_R_V hR hD
  have r2 := hR.1.2
  have b1 := hD.1.1
  have s1 := hS.1
  have bad : ¬ ((0 ≤ x ∧ x < (P : Int)) ∧ 0 ≤ w ∧ w ≤ 4) → gw_G (gw_Cm jX5_player (d + 2) (gw_pu (ga_player A P x w) (114, J, F))) jX5_player 17 [some (.inr (some 99)), some (.inl x), some (.inl w)] [] (114, J, F) 0 0 := by
    intro hb
    refine gr_iconst dX5_player_17 ?_
    refine gr_iret dX5_player_18 (by first | exact Or.inl rfl | exact Or.inr ⟨rfl, by omega⟩) (by decide) (by decide) (⟨by unfold ga_player; by_cases h : 0 ≤ x ∧ x < (P : Int); rw [if_pos h, if_neg (by omega), if_neg (by omega), if_neg (by omega), if_neg (by omega), if_neg (by omega)]; rw [if_neg h], rfl⟩)
  refine gw_enter okX5_player rfl (Nat.le_of_ble_eq_true rfl) ?_
  refine gr_aload_n dX5_player_0 rfl ?_
  refine gr_iload_n dX5_player_1 rfl ?_
  refine gr_virt dX5_player_2 kX5_114 (as := [_]) rfl rfl (by first | assumption | rfl) (by omega) (Nat.le_of_ble_eq_true rfl) (gw_Rm_m (by omega) (by decide) (by decide)) (m_isPlayer (d + 0) hV.1 s1 hx) ?_
  rintro _ _ ⟨rfl, rfl⟩
  by_cases h1 : 0 ≤ x ∧ x < (P : Int)
  · rw [if_pos h1]
    refine gr_if_eq 17 dX5_player_5 (by decide) (by unfold gw_in; omega) (fun h5 => ?_) (fun h5 => ?_)
    · omega
    · refine gr_iload_n dX5_player_8 rfl ?_
      refine gr_iconst dX5_player_9 ?_
      refine gr_iconst dX5_player_10 ?_
      refine gr_stat dX5_player_11 kX5_72 (as := [_, _, _]) rfl rfl (Nat.le_of_ble_eq_true rfl) (gw_Rm_m (by omega) (by decide) (by decide)) (m_in (d + 1) hw (by unfold gw_in; omega) (by unfold gw_in; omega)) ?_
      rintro _ _ ⟨rfl, rfl⟩
      by_cases h2 : 0 ≤ w ∧ w ≤ 4
      · rw [if_pos h2]
        refine gr_if_ne 19 dX5_player_14 (by decide) (by unfold gw_in; omega) (fun h14 => ?_) (fun h14 => ?_)
        · obtain ⟨p, rfl⟩ : ∃ p : Nat, x = (p : Int) := ⟨x.toNat, by omega⟩
          obtain ⟨v, rfl⟩ : ∃ v : Nat, w = (v : Int) := ⟨w.toNat, by omega⟩
          refine gr_iload_n dX5_player_19 rfl ?_
          refine gr_iconst dX5_player_20 ?_
          refine gr_icmp_ge 37 dX5_player_21 (by decide) (by unfold gw_in; omega) (by unfold gw_in; omega) (fun h21 => ?_) (fun h21 => ?_)
          · have hv : v = 4 := by omega
            subst hv
            refine gr_aload_n dX5_player_37 rfl ?_
            refine gr_iload_n dX5_player_38 rfl ?_
            refine gr_virt dX5_player_39 kX5_117 (as := [_]) rfl rfl (by first | assumption | rfl) (by omega) (Nat.le_of_ble_eq_true rfl) (gw_Rm_m (by omega) (by decide) (by decide)) (m_isIn (p := p) (m := (A 19 1).toNat) (d + 1) hK h33 hset (by omega)) ?_
            rintro _ _ ⟨rfl, rfl⟩
            have hbit : (A 19 1).toNat / 2 ^ p % 2 < 2 := Nat.mod_lt _ (by omega)
            have ea : ga_player A P (p : Int) ((4 : Nat) : Int) = (((A 19 1).toNat / 2 ^ p % 2 : Nat) : Int) := by
              unfold ga_player
              rw [if_pos h1, if_neg (by omega), if_neg (by omega), if_neg (by omega), if_neg (by omega), if_pos (by omega), Int.toNat_natCast]
            by_cases hb : (A 19 1).toNat / 2 ^ p % 2 = 1
            · rw [if_pos hb]
              refine gr_if_eq 49 dX5_player_42 (by decide) (by unfold gw_in; omega) (fun h42 => ?_) (fun h42 => ?_)
              · omega
              · refine gr_iconst dX5_player_45 ?_
                refine gr_goto 50 dX5_player_46 (by decide) ?_
                refine gr_iret dX5_player_50 (by first | exact Or.inl rfl | exact Or.inr ⟨rfl, by omega⟩) (by decide) (by decide) (⟨by rw [ea, hb]; rfl, rfl⟩)
            · rw [if_neg hb]
              refine gr_if_eq 49 dX5_player_42 (by decide) (by unfold gw_in; omega) (fun h42 => ?_) (fun h42 => ?_)
              · refine gr_iconst dX5_player_49 ?_
                refine gr_iret dX5_player_50 (by first | exact Or.inl rfl | exact Or.inr ⟨rfl, by omega⟩) (by decide) (by decide) (⟨by rw [ea, show (A 19 1).toNat / 2 ^ p % 2 = 0 by omega]; rfl, rfl⟩)
              · omega
          · refine gr_aload_n dX5_player_24 rfl ?_
            refine gr_getR dX5_player_25 fX5_7 (by first | assumption | rfl) (by omega) (by decide) rfl (by assumption) ?_
            refine gr_iconst dX5_player_28 ?_
            refine gr_iload_n dX5_player_29 rfl ?_
            refine gr_imul dX5_player_30 rfl ?_
            refine gr_iload_n dX5_player_31 rfl ?_
            refine gr_iadd dX5_player_32 rfl ?_
            refine gr_iald (i := 5 * p + v) dX5_player_33 (by first | assumption | rfl) (by omega) (by omega) (by omega) (by decide) ?_
            rw [r2 p (by omega) v (by omega)]
            have ea : ga_player A P (p : Int) (v : Int) = A (14 + v) p := by
              unfold ga_player
              rw [if_pos h1, Int.toNat_natCast]
              rcases (show v = 0 ∨ v = 1 ∨ v = 2 ∨ v = 3 by omega) with rfl | rfl | rfl | rfl <;> simp
            refine gr_goto 50 dX5_player_34 (by decide) ?_
            refine gr_iret dX5_player_50 (by first | exact Or.inl rfl | exact Or.inr ⟨rfl, by omega⟩) (by decide) (by decide) (⟨by rw [ea], rfl⟩)
        · omega
      · rw [if_neg h2]
        refine gr_if_ne 19 dX5_player_14 (by decide) (by unfold gw_in; omega) (fun h14 => ?_) (fun h14 => ?_)
        · omega
        · exact bad (fun h => h2 h.2)
  · rw [if_neg h1]
    refine gr_if_eq 17 dX5_player_5 (by decide) (by unfold gw_in; omega) (fun h5 => ?_) (fun h5 => ?_)
    · exact bad (fun h => h1 h.1)
    · omega
theorem m_span {x : Int} (d : Nat) (hK : gm_K F) (hR : gm_R A pp J) (hD : gc_D A P n pp) (hx : gw_in x) : gw_Met jX5_span (d + 2) [.inr (some 99), .inl x] (114, J, F) (gw_pu (ga_span A P x) (114, J, F)) := by
  obtain ⟨g1, g2, g4, g5, g6, g8, g9, g11, g12, g14, g18, g19, g20, g21⟩ := id hK
  obtain ⟨hV, hS, h33, hset, h35, hbal⟩ := gm_R_V hR hD
  have r2 := hR.1.2
  have b1 := hD.1.1
  have s1 := hS.1
  refine gw_enter okX5_span rfl (Nat.le_of_ble_eq_true rfl) ?_
  refine gr_aload_n dX5_span_0 rfl ?_
  refine gr_iload_n dX5_span_1 rfl ?_
  refine gr_virt dX5_span_2 kX5_114 (as := [_]) rfl rfl (by first | assumption | rfl) (by omega) (Nat.le_of_ble_eq_true rfl) (gw_Rm_m (by omega) (by decide) (by decide)) (m_isPlayer (d + 0) hV.1 s1 hx) ?_
  rintro _ _ ⟨rfl, rfl⟩
  by_cases h1 : 0 ≤ x ∧ x < (P : Int)
  · rw [if_pos h1]
    refine gr_if_eq 30 dX5_span_5 (by decide) (by unfold gw_in; omega) (fun h5 => ?_) (fun h5 => ?_)
    · omega
    · obtain ⟨p, rfl⟩ : ∃ p : Nat, x = (p : Int) := ⟨x.toNat, by omega⟩
      have hk : 0 ≤ A 14 p ∧ A 14 p ≤ 2 := ⟨(hD.1.2.1 p (by omega)).1, (hD.1.2.1 p (by omega)).2.1⟩
      have e0 : J 100 (5 * p) = A 14 p := r2 p (by omega) 0 (by omega)
      have e4 : J 100 (5 * p + 4) = A 18 p := r2 p (by omega) 4 (by omega)
      refine gr_aload_n dX5_span_8 rfl ?_
      refine gr_iload_n dX5_span_9 rfl ?_
      refine gr_virt dX5_span_10 kX5_120 (as := [_]) rfl rfl (by first | assumption | rfl) (by omega) (Nat.le_of_ble_eq_true rfl) (gw_Rm_m (by omega) (by decide) (by decide)) (m_kind (p := p) (d + 1) hK (by omega)) ?_
      rintro _ _ ⟨rfl, rfl⟩
      rw [e0]
      refine gr_iconst dX5_span_13 ?_
      refine gr_icmp_ne 30 dX5_span_14 (by decide) (by unfold gw_in; omega) (by unfold gw_in; omega) (fun h14 => ?_) (fun h14 => ?_)
      · refine gr_iconst dX5_span_30 ?_
        refine gr_iret dX5_span_31 (by first | exact Or.inl rfl | exact Or.inr ⟨rfl, by omega⟩) (by decide) (by decide) (⟨by unfold ga_span; rw [if_neg (fun h => h14 h.2)], rfl⟩)
      · refine gr_aload_n dX5_span_17 rfl ?_
        refine gr_getR dX5_span_18 fX5_7 (by first | assumption | rfl) (by omega) (by decide) rfl (by assumption) ?_
        refine gr_iconst dX5_span_21 ?_
        refine gr_iload_n dX5_span_22 rfl ?_
        refine gr_imul dX5_span_23 rfl ?_
        refine gr_iconst dX5_span_24 ?_
        refine gr_iadd dX5_span_25 rfl ?_
        refine gr_iald (i := 5 * p + 4) dX5_span_26 (by first | assumption | rfl) (by omega) (by omega) (by omega) (by decide) ?_
        rw [e4]
        refine gr_goto 31 dX5_span_27 (by decide) ?_
        refine gr_iret dX5_span_31 (by first | exact Or.inl rfl | exact Or.inr ⟨rfl, by omega⟩) (by decide) (by decide) (⟨by unfold ga_span; rw [if_pos ⟨h1, h14⟩]; rfl, rfl⟩)
  · rw [if_neg h1]
    refine gr_if_eq 30 dX5_span_5 (by decide) (by unfold gw_in; omega) (fun h5 => ?_) (fun h5 => ?_)
    · refine gr_iconst dX5_span_30 ?_
      refine gr_iret dX5_span_31 (by first | exact Or.inl rfl | exact Or.inr ⟨rfl, by omega⟩) (by decide) (by decide) (⟨by unfold ga_span; rw [if_neg (fun h => h1 h.1)], rfl⟩)
    · omega
theorem gm_sz (hD : gc_D A P n pp) : A 19 0 = ((A 19 0).toNat : Int) ∧ (A 19 0).toNat ≤ 8 := by
  have := hD.2.1.1.1
  omega
theorem m_chord {x i : Int} (d : Nat) (hK : gm_K F) (hR : gm_R A pp J) (hD : gc_D A P n pp) (hx : gw_in x) (hi : gw_in i) : gw_Met jX5_chord (d + 2) [.inr (some 99), .inl x, .inl i] (114, J, F) (gw_pu (ga_chord A x i) (114, J, F)) := by
  obtain ⟨hV, hS, h33, hset, h35, hbal⟩ := gm_R_V hR hD
  obtain ⟨v0, v1, v2, v3, v4⟩ := id hV
  obtain ⟨z1, z2⟩ := gm_sz hD
  have hi' := hi
  unfold gw_in at hi'
  refine gw_enter okX5_chord rfl (Nat.le_of_ble_eq_true rfl) ?_
  refine gr_aload_n dX5_chord_0 rfl ?_
  refine gr_iload_n dX5_chord_1 rfl ?_
  refine gr_virt dX5_chord_2 kX5_124 (as := [_]) rfl rfl (by first | assumption | rfl) (by omega) (Nat.le_of_ble_eq_true rfl) (gw_Rm_m (by omega) (by decide) (by decide)) (m_isChord (d + 0) hK v2 z2 hx) ?_
  rintro _ _ ⟨rfl, rfl⟩
  rw [← z1]
  by_cases h1 : 0 ≤ x ∧ x < A 19 0
  · rw [if_pos h1]
    refine gr_if_eq 13 dX5_chord_5 (by decide) (by unfold gw_in; omega) (fun h5 => ?_) (fun h5 => ?_)
    · omega
    · refine gr_iload_n dX5_chord_8 rfl ?_
      refine gr_iconst dX5_chord_9 ?_
      refine gr_icmp_ge 15 dX5_chord_10 (by decide) (by unfold gw_in; omega) (by unfold gw_in; omega) (fun h10 => ?_) (fun h10 => ?_)
      · obtain ⟨c, rfl⟩ : ∃ c : Nat, x = (c : Int) := ⟨x.toNat, by omega⟩
        have hcnt := gp_cnt_le (A 20) c
        obtain ⟨e1, e2⟩ := v3 c (by omega)
        unfold ga_chord
        rw [if_pos ⟨h1, h10⟩, Int.toNat_natCast]
        refine gr_iload_n dX5_chord_15 rfl ?_
        refine gr_iconst dX5_chord_16 ?_
        refine gr_icmp_ne 28 dX5_chord_17 (by decide) (by unfold gw_in; omega) (by unfold gw_in; omega) (fun h17 => ?_) (fun h17 => ?_)
        · refine gr_iload_n dX5_chord_28 rfl ?_
          refine gr_aload_n dX5_chord_29 rfl ?_
          refine gr_iload_n dX5_chord_30 rfl ?_
          refine gr_virt dX5_chord_31 kX5_127 (as := [_]) rfl rfl (by first | assumption | rfl) (by omega) (Nat.le_of_ble_eq_true rfl) (gw_Rm_m (by omega) (by decide) (by decide)) (m_notes (c := c) (d + 1) hK (by omega)) ?_
          rintro _ _ ⟨rfl, rfl⟩
          rw [e1]
          refine gr_icmp_ge 46 dX5_chord_34 (by decide) (by unfold gw_in; omega) (by unfold gw_in; omega) (fun h34 => ?_) (fun h34 => ?_)
          · refine gr_bipush dX5_chord_46 (by decide) ?_
            refine gr_iret dX5_chord_48 (by first | exact Or.inl rfl | exact Or.inr ⟨rfl, by omega⟩) (by decide) (by decide) (⟨by rw [if_neg h17, if_neg (by omega)], rfl⟩)
          · obtain ⟨m, rfl⟩ : ∃ m : Nat, i = (m : Int) := ⟨i.toNat, by omega⟩
            refine gr_aload_n dX5_chord_37 rfl ?_
            refine gr_iload_n dX5_chord_38 rfl ?_
            refine gr_iload_n dX5_chord_39 rfl ?_
            refine gr_virt dX5_chord_40 kX5_130 (as := [_, _]) rfl rfl (by first | assumption | rfl) (by omega) (Nat.le_of_ble_eq_true rfl) (gw_Rm_m (by omega) (by decide) (by decide)) (m_note (c := c) (i := m) (d + 1) hK (by omega) (by omega)) ?_
            rintro _ _ ⟨rfl, rfl⟩
            rw [e2 m (by omega)]
            refine gr_goto 48 dX5_chord_43 (by decide) ?_
            refine gr_iret dX5_chord_48 (by first | exact Or.inl rfl | exact Or.inr ⟨rfl, by omega⟩) (by decide) (by decide) (⟨by rw [if_neg h17, if_pos (by omega)]; rfl, rfl⟩)
        · refine gr_aload_n dX5_chord_20 rfl ?_
          refine gr_iload_n dX5_chord_21 rfl ?_
          refine gr_virt dX5_chord_22 kX5_127 (as := [_]) rfl rfl (by first | assumption | rfl) (by omega) (Nat.le_of_ble_eq_true rfl) (gw_Rm_m (by omega) (by decide) (by decide)) (m_notes (c := c) (d + 1) hK (by omega)) ?_
          rintro _ _ ⟨rfl, rfl⟩
          rw [e1]
          refine gr_goto 48 dX5_chord_25 (by decide) ?_
          refine gr_iret dX5_chord_48 (by first | exact Or.inl rfl | exact Or.inr ⟨rfl, by omega⟩) (by decide) (by decide) (⟨by rw [if_pos h17], rfl⟩)
      · refine gr_iconst dX5_chord_13 ?_
        refine gr_iret dX5_chord_14 (by first | exact Or.inl rfl | exact Or.inr ⟨rfl, by omega⟩) (by decide) (by decide) (⟨by unfold ga_chord; rw [if_neg (by omega)], rfl⟩)
  · rw [if_neg h1]
    refine gr_if_eq 13 dX5_chord_5 (by decide) (by unfold gw_in; omega) (fun h5 => ?_) (fun h5 => ?_)
    · refine gr_iconst dX5_chord_13 ?_
      refine gr_iret dX5_chord_14 (by first | exact Or.inl rfl | exact Or.inr ⟨rfl, by omega⟩) (by decide) (by decide) (⟨by unfold ga_chord; rw [if_neg (fun h => h1 h.1)], rfl⟩)
    · omega
theorem m_could {x y z : Int} (d : Nat) (hK : gm_K F) (hR : gm_R A pp J) (hD : gc_D A P n pp) (hx : gw_in x) (hy : gw_in y) (hz : gw_in z) : gw_Met jX5_could (d + 2) [.inr (some 99), .inl x, .inl y, .inl z] (114, J, F) (gw_pu (ga_could A P x y z) (114, J, F)) := by
  obtain ⟨hV, hS, h33, hset, h35, hbal⟩ := gm_R_V hR hD
  obtain ⟨v0, v1, v2, v3, v4⟩ := id hV
  obtain ⟨z1, z2⟩ := gm_sz hD
  have s1 := hS.1
  have bad : ¬ ((0 ≤ x ∧ x < (P : Int)) ∧ (0 ≤ y ∧ y < A 19 0) ∧ 0 ≤ z ∧ z < 2 ^ gp_cnt (A 20) y.toNat) → gw_G (gw_Cm jX5_could (d + 2) (gw_pu (ga_could A P x y z) (114, J, F))) jX5_could 36 [some (.inr (some 99)), some (.inl x), some (.inl y), some (.inl z)] [] (114, J, F) 0 0 := by
    intro hb
    refine gr_iconst dX5_could_36 ?_
    refine gr_iret dX5_could_37 (by first | exact Or.inl rfl | exact Or.inr ⟨rfl, by omega⟩) (by decide) (by decide) (⟨by unfold ga_could; rw [if_neg hb], rfl⟩)
  refine gw_enter okX5_could rfl (Nat.le_of_ble_eq_true rfl) ?_
  refine gr_aload_n dX5_could_0 rfl ?_
  refine gr_iload_n dX5_could_1 rfl ?_
  refine gr_virt dX5_could_2 kX5_114 (as := [_]) rfl rfl (by first | assumption | rfl) (by omega) (Nat.le_of_ble_eq_true rfl) (gw_Rm_m (by omega) (by decide) (by decide)) (m_isPlayer (d + 0) v0 s1 hx) ?_
  rintro _ _ ⟨rfl, rfl⟩
  by_cases h1 : 0 ≤ x ∧ x < (P : Int)
  · rw [if_pos h1]
    refine gr_if_eq 36 dX5_could_5 (by decide) (by unfold gw_in; omega) (fun h5 => ?_) (fun h5 => ?_)
    · omega
    · refine gr_aload_n dX5_could_8 rfl ?_
      refine gr_iload_n dX5_could_9 rfl ?_
      refine gr_virt dX5_could_10 kX5_124 (as := [_]) rfl rfl (by first | assumption | rfl) (by omega) (Nat.le_of_ble_eq_true rfl) (gw_Rm_m (by omega) (by decide) (by decide)) (m_isChord (d + 0) hK v2 z2 hy) ?_
      rintro _ _ ⟨rfl, rfl⟩
      rw [← z1]
      by_cases h2 : 0 ≤ y ∧ y < A 19 0
      · rw [if_pos h2]
        obtain ⟨c, rfl⟩ : ∃ c : Nat, y = (c : Int) := ⟨y.toNat, by omega⟩
        obtain ⟨p, rfl⟩ : ∃ p : Nat, x = (p : Int) := ⟨x.toNat, by omega⟩
        have hcnt := gp_cnt_le (A 20) c
        have h8 := gm_2p hcnt
        have h2p : (2 : Int) ^ gp_cnt (A 20) c = ((2 ^ gp_cnt (A 20) c : Nat) : Int) := by rw [Int.natCast_pow]; rfl
        have e1 := (v3 c (by omega)).1
        rw [Int.toNat_natCast, h2p] at bad
        refine gr_if_eq 36 dX5_could_13 (by decide) (by unfold gw_in; omega) (fun h13 => ?_) (fun h13 => ?_)
        · omega
        · refine gr_iload_n dX5_could_16 rfl ?_
          refine gr_iconst dX5_could_17 ?_
          refine gr_bipush dX5_could_18 (by decide) ?_
          refine gr_stat dX5_could_20 kX5_72 (as := [_, _, _]) rfl rfl (Nat.le_of_ble_eq_true rfl) (gw_Rm_m (by omega) (by decide) (by decide)) (m_in (d + 1) hz (by unfold gw_in; omega) (by unfold gw_in; omega)) ?_
          rintro _ _ ⟨rfl, rfl⟩
          by_cases h3 : 0 ≤ z ∧ z ≤ 7
          · rw [if_pos h3]
            obtain ⟨h, rfl⟩ : ∃ h : Nat, z = (h : Int) := ⟨z.toNat, by omega⟩
            have hdz : h / 2 ^ gp_cnt (A 20) c = 0 ↔ h < 2 ^ gp_cnt (A 20) c := Nat.div_eq_zero_iff_lt (Nat.two_pow_pos _)
            have hdl : h / 2 ^ gp_cnt (A 20) c ≤ h := Nat.div_le_self _ _
            refine gr_if_eq 36 dX5_could_23 (by decide) (by unfold gw_in; omega) (fun h23 => ?_) (fun h23 => ?_)
            · omega
            · refine gr_iload_n dX5_could_26 rfl ?_
              refine gr_aload_n dX5_could_27 rfl ?_
              refine gr_iload_n dX5_could_28 rfl ?_
              refine gr_virt dX5_could_29 kX5_127 (as := [_]) rfl rfl (by first | assumption | rfl) (by omega) (Nat.le_of_ble_eq_true rfl) (gw_Rm_m (by omega) (by decide) (by decide)) (m_notes (c := c) (d + 1) hK (by omega)) ?_
              rintro _ _ ⟨rfl, rfl⟩
              rw [e1]
              refine gr_ishr (v := ((h / 2 ^ gp_cnt (A 20) c : Nat) : Int)) dX5_could_32 (ga_bit (by omega) (by omega)) ?_
              generalize hG : h / 2 ^ gp_cnt (A 20) c = G at hdz hdl
              refine gr_if_eq 38 dX5_could_33 (by decide) (by unfold gw_in; omega) (fun h33 => ?_) (fun h33 => ?_)
              · have hlt := hdz.mp (by omega)
                refine gr_aload_n dX5_could_38 rfl ?_
                refine gr_iload_n dX5_could_39 rfl ?_
                refine gr_iload_n dX5_could_40 rfl ?_
                refine gr_iload_n dX5_could_41 rfl ?_
                refine gr_virt dX5_could_42 kX5_149 (as := [_, _, _]) rfl rfl (by first | assumption | rfl) (by omega) (Nat.le_of_ble_eq_true rfl) (gw_Rm_m (by omega) (by decide) (by decide)) (m_isHand (p := p) (c := c) (h := h) (d + 0) hK hV hS (by omega) (by omega) hlt) ?_
                rintro _ _ ⟨rfl, rfl⟩
                have ok : (0 ≤ (p : Int) ∧ (p : Int) < (P : Int)) ∧ (0 ≤ (c : Int) ∧ (c : Int) < A 19 0) ∧ 0 ≤ (h : Int) ∧ (h : Int) < 2 ^ gp_cnt (A 20) (c : Int).toNat := ⟨h1, h2, by omega, by rw [Int.toNat_natCast, h2p]; exact Int.ofNat_lt.mpr hlt⟩
                unfold ga_could
                rw [if_pos ok, Int.toNat_natCast, Int.toNat_natCast, Int.toNat_natCast]
                by_cases hm : gb_man (gc_B A) 0 (A 20) p c h = true
                · rw [if_pos hm]
                  refine gr_if_eq 52 dX5_could_45 (by decide) (by unfold gw_in; omega) (fun h45 => ?_) (fun h45 => ?_)
                  · omega
                  · refine gr_iconst dX5_could_48 ?_
                    refine gr_goto 53 dX5_could_49 (by decide) ?_
                    refine gr_iret dX5_could_53 (by first | exact Or.inl rfl | exact Or.inr ⟨rfl, by omega⟩) (by decide) (by decide) (⟨rfl, rfl⟩)
                · rw [if_neg hm]
                  refine gr_if_eq 52 dX5_could_45 (by decide) (by unfold gw_in; omega) (fun h45 => ?_) (fun h45 => ?_)
                  · refine gr_iconst dX5_could_52 ?_
                    refine gr_iret dX5_could_53 (by first | exact Or.inl rfl | exact Or.inr ⟨rfl, by omega⟩) (by decide) (by decide) (⟨rfl, rfl⟩)
                  · omega
              · exact bad (fun hh => h33 (by have := hdz.mpr (Int.ofNat_lt.mp hh.2.2.2); omega))
          · rw [if_neg h3]
            refine gr_if_eq 36 dX5_could_23 (by decide) (by unfold gw_in; omega) (fun h23 => ?_) (fun h23 => ?_)
            · refine bad (fun hh => h3 ?_)
              have a := hh.2.2.2
              have b : ((2 ^ gp_cnt (A 20) c : Nat) : Int) ≤ 8 := Int.ofNat_le.mpr h8
              have c := hh.2.2.1
              exact ⟨c, by omega⟩
            · omega
      · rw [if_neg h2]
        refine gr_if_eq 36 dX5_could_13 (by decide) (by unfold gw_in; omega) (fun h13 => ?_) (fun h13 => ?_)
        · exact bad (fun h => h2 h.2.1)
        · omega
  · rw [if_neg h1]
    refine gr_if_eq 36 dX5_could_5 (by decide) (by unfold gw_in; omega) (fun h5 => ?_) (fun h5 => ?_)
    · exact bad (fun h => h1 h.1)
    · omega
theorem m_count {w : Int} (d : Nat) (hK : gm_K F) (hR : gm_R A pp J) (hw : gw_in w) : gw_Met jX5_count d [.inr (some 99), .inl w] (114, J, F) (gw_pu (ga_count A w) (114, J, F)) := by
  obtain ⟨g1, g2, g4, g5, g6, g8, g9, g11, g12, g14, g18, g19, g20, g21⟩ := id hK
  obtain ⟨⟨r1, r2⟩, ⟨q1, q2, q3, q4, q5⟩, ⟨r4, r5⟩, r6, ⟨r7, r8⟩, r9, r10⟩ := id hR
  rw [Nat.zero_add] at q2 q3 q4
  unfold ga_count
  refine gw_enter okX5_count rfl (Nat.le_of_ble_eq_true rfl) ?_
  refine gr_iload_n dX5_count_0 rfl ?_
  by_cases c0 : w = 0
  · subst c0
    refine gr_tableIn 48 dX5_count_1 hw (by omega) (by omega) rfl (by decide) ?_
    refine gr_aload_n dX5_count_48 rfl ?_
    refine gr_getI dX5_count_49 fX5_63 (by first | assumption | rfl) (by omega) (by decide) rfl ?_
    refine gr_iret dX5_count_52 (by first | exact Or.inl rfl | exact Or.inr ⟨rfl, by omega⟩) (by decide) (by decide) (⟨by rw [if_pos rfl, r1], rfl⟩)
  · rw [if_neg c0]
    by_cases c1 : w = 1
    · subst c1
      refine gr_tableIn 53 dX5_count_1 hw (by omega) (by omega) rfl (by decide) ?_
      refine gr_aload_n dX5_count_53 rfl ?_
      refine gr_getR dX5_count_54 fX5_13 (by first | assumption | rfl) (by omega) (by decide) rfl (by assumption) ?_
      refine gr_bipush dX5_count_57 (by decide) ?_
      refine gr_iald (i := 33) dX5_count_59 (by first | assumption | rfl) (by omega) (by omega) (by omega) (by decide) ?_
      refine gr_iret dX5_count_60 (by first | exact Or.inl rfl | exact Or.inr ⟨rfl, by omega⟩) (by decide) (by decide) (⟨by rw [if_pos rfl, q2], rfl⟩)
    · rw [if_neg c1]
      by_cases c2 : w = 2
      · subst c2
        refine gr_tableIn 61 dX5_count_1 hw (by omega) (by omega) rfl (by decide) ?_
        refine gr_aload_n dX5_count_61 rfl ?_
        refine gr_getR dX5_count_62 fX5_13 (by first | assumption | rfl) (by omega) (by decide) rfl (by assumption) ?_
        refine gr_iconst dX5_count_65 ?_
        refine gr_iald (i := 0) dX5_count_66 (by first | assumption | rfl) (by omega) (by omega) (by omega) (by decide) ?_
        refine gr_iret dX5_count_67 (by first | exact Or.inl rfl | exact Or.inr ⟨rfl, by omega⟩) (by decide) (by decide) (⟨by rw [if_pos rfl, q1], rfl⟩)
      · rw [if_neg c2]
        by_cases c3 : w = 3
        · subst c3
          refine gr_tableIn 68 dX5_count_1 hw (by omega) (by omega) rfl (by decide) ?_
          refine gr_aload_n dX5_count_68 rfl ?_
          refine gr_getR dX5_count_69 fX5_13 (by first | assumption | rfl) (by omega) (by decide) rfl (by assumption) ?_
          refine gr_bipush dX5_count_72 (by decide) ?_
          refine gr_iald (i := 34) dX5_count_74 (by first | assumption | rfl) (by omega) (by omega) (by omega) (by decide) ?_
          refine gr_iret dX5_count_75 (by first | exact Or.inl rfl | exact Or.inr ⟨rfl, by omega⟩) (by decide) (by decide) (⟨by rw [if_pos rfl, q3], rfl⟩)
        · rw [if_neg c3]
          by_cases c4 : w = 4
          · subst c4
            refine gr_tableIn 76 dX5_count_1 hw (by omega) (by omega) rfl (by decide) ?_
            refine gr_aload_n dX5_count_76 rfl ?_
            refine gr_getR dX5_count_77 fX5_13 (by first | assumption | rfl) (by omega) (by decide) rfl (by assumption) ?_
            refine gr_bipush dX5_count_80 (by decide) ?_
            refine gr_iald (i := 35) dX5_count_82 (by first | assumption | rfl) (by omega) (by omega) (by omega) (by decide) ?_
            refine gr_iret dX5_count_83 (by first | exact Or.inl rfl | exact Or.inr ⟨rfl, by omega⟩) (by decide) (by decide) (⟨by rw [if_pos rfl, q4], rfl⟩)
          · rw [if_neg c4]
            by_cases c5 : w = 5
            · subst c5
              refine gr_tableIn 84 dX5_count_1 hw (by omega) (by omega) rfl (by decide) ?_
              refine gr_aload_n dX5_count_84 rfl ?_
              refine gr_getI dX5_count_85 fX5_69 (by first | assumption | rfl) (by omega) (by decide) rfl ?_
              refine gr_iret dX5_count_88 (by first | exact Or.inl rfl | exact Or.inr ⟨rfl, by omega⟩) (by decide) (by decide) (⟨by rw [if_pos rfl, r7], rfl⟩)
            · rw [if_neg c5]
              by_cases c6 : w = 6
              · subst c6
                refine gr_tableIn 89 dX5_count_1 hw (by omega) (by omega) rfl (by decide) ?_
                refine gr_aload_n dX5_count_89 rfl ?_
                refine gr_getI dX5_count_90 fX5_76 (by first | assumption | rfl) (by omega) (by decide) rfl ?_
                refine gr_iret dX5_count_93 (by first | exact Or.inl rfl | exact Or.inr ⟨rfl, by omega⟩) (by decide) (by decide) (⟨by rw [if_pos rfl, r9], rfl⟩)
              · rw [if_neg c6]
                by_cases c7 : w = 7
                · subst c7
                  refine gr_tableIn 94 dX5_count_1 hw (by omega) (by omega) rfl (by decide) ?_
                  refine gr_aload_n dX5_count_94 rfl ?_
                  refine gr_getI dX5_count_95 fX5_66 (by first | assumption | rfl) (by omega) (by decide) rfl ?_
                  refine gr_iret dX5_count_98 (by first | exact Or.inl rfl | exact Or.inr ⟨rfl, by omega⟩) (by decide) (by decide) (⟨by rw [if_pos rfl, r4], rfl⟩)
                · refine gr_tableOut 99 dX5_count_1 hw (by omega) (by decide) ?_
                  refine gr_iconst dX5_count_99 ?_
                  refine gr_iret dX5_count_100 (by first | exact Or.inl rfl | exact Or.inr ⟨rfl, by omega⟩) (by decide) (by decide) (⟨by rw [if_neg c7], rfl⟩)
theorem m_spreads {x : Int} (d : Nat) (hK : gm_K F) (hR : gm_R A pp J) (hD : gc_D A P n pp) (hx : gw_in x) : gw_Met jX5_spreads (d + 5) [.inr (some 99), .inl x] (114, J, F) (gw_io F (fun r J' => r = ga_spreads A P x ∧ gm_sa J J')) := by
  obtain ⟨g1, g2, g4, g5, g6, g8, g9, g11, g12, g14, g18, g19, g20, g21⟩ := id hK
  obtain ⟨hV, hS, h33, hset, h35, hbal⟩ := gm_R_V hR hD
  obtain ⟨v0, v1, v2, v3, v4⟩ := id hV
  obtain ⟨z1, z2⟩ := gm_sz hD
  refine gw_enter okX5_spreads rfl (Nat.le_of_ble_eq_true rfl) ?_
  refine gr_aload_n dX5_spreads_0 rfl ?_
  refine gr_iload_n dX5_spreads_1 rfl ?_
  refine gr_virt dX5_spreads_2 kX5_124 (as := [_]) rfl rfl (by first | assumption | rfl) (by omega) (Nat.le_of_ble_eq_true rfl) (gw_Rm_m (by omega) (by decide) (by decide)) (m_isChord (d + 3) hK v2 z2 hx) ?_
  rintro _ _ ⟨rfl, rfl⟩
  rw [← z1]
  by_cases h1 : 0 ≤ x ∧ x < A 19 0
  · rw [if_pos h1]
    obtain ⟨c, rfl⟩ : ∃ c : Nat, x = (c : Int) := ⟨x.toNat, by omega⟩
    refine gr_if_ne 10 dX5_spreads_5 (by decide) (by unfold gw_in; omega) (fun h5 => ?_) (fun h5 => ?_)
    · refine gr_aload_n dX5_spreads_10 rfl ?_
      refine gr_iload_n dX5_spreads_11 rfl ?_
      refine gr_aload_n dX5_spreads_12 rfl ?_
      refine gr_getR dX5_spreads_13 fX5_13 (by first | assumption | rfl) (by omega) (by decide) rfl (by assumption) ?_
      refine gr_bipush dX5_spreads_16 (by decide) ?_
      refine gr_iald (i := 33) dX5_spreads_18 (by first | assumption | rfl) (by omega) (by omega) (by omega) (by decide) ?_
      refine gr_aload_n dX5_spreads_19 rfl ?_
      refine gr_getR dX5_spreads_20 fX5_13 (by first | assumption | rfl) (by omega) (by decide) rfl (by assumption) ?_
      refine gr_bipush dX5_spreads_23 (by decide) ?_
      refine gr_iald (i := 35) dX5_spreads_25 (by first | assumption | rfl) (by omega) (by omega) (by omega) (by decide) ?_
      rw [h33, h35]
      refine gr_virt dX5_spreads_26 kX5_166 (as := [_, _, _]) rfl rfl (by first | assumption | rfl) (by omega) (Nat.le_of_ble_eq_true rfl) (gw_Rm_m (by omega) (by decide) (by decide)) (m_laysSpreads (c := c) (set := (A 19 1).toNat) (bal := A 19 3) (d + 0) hK hV hS (by omega) hset hbal) ?_
      rintro _ _ ⟨rfl, J1, rfl, hJ1, hrow⟩
      refine gr_aload_n dX5_spreads_29 rfl ?_
      refine gr_getR dX5_spreads_30 fX5_44 (by first | assumption | rfl) (by omega) (by decide) rfl (by assumption) ?_
      refine gr_iload_n dX5_spreads_33 rfl ?_
      refine gr_iald (i := c) dX5_spreads_34 (by first | assumption | rfl) (by omega) (by omega) (by omega) (by decide) ?_
      rw [hrow.1]
      refine gr_iret dX5_spreads_35 (by first | exact Or.inl rfl | exact Or.inr ⟨rfl, by omega⟩) (by decide) (by decide) (⟨_, _, rfl, rfl, by unfold ga_spreads; rw [if_pos h1]; rfl, fun a i q1 q2 => hJ1 a i (by omega) (by omega)⟩)
    · omega
  · rw [if_neg h1]
    refine gr_if_ne 10 dX5_spreads_5 (by decide) (by unfold gw_in; omega) (fun h5 => ?_) (fun h5 => ?_)
    · omega
    · refine gr_iconst dX5_spreads_8 ?_
      refine gr_iret dX5_spreads_9 (by first | exact Or.inl rfl | exact Or.inr ⟨rfl, by omega⟩) (by decide) (by decide) (⟨_, _, rfl, rfl, by unfold ga_spreads; rw [if_neg h1], gm_sa_rf⟩)
end GM
