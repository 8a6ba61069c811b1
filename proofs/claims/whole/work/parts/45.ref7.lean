/-! THE REFERENCE beside the class: the score -/
theorem gs_sm_x {f : Nat → Nat} {a : Nat} : ∀ m, (∀ p, a ≤ p → p < a + m → f p = 0) → gs_sm f (a + m) = gs_sm f a
  | 0, _ => rfl
  | m + 1, h => by
    rw [show a + (m + 1) = (a + m) + 1 by omega]
    simp only [gs_sm]
    rw [gs_sm_x m (fun p h1 h2 => h p h1 (by omega)), h (a + m) (by omega) (by omega), Nat.add_zero]
theorem gs_sm_c {f g : Nat → Nat} : ∀ n, (∀ i, i < n → f i = g i) → gs_sm f n = gs_sm g n
  | 0, _ => rfl
  | n + 1, h => by simp only [gs_sm]; rw [gs_sm_c n (fun i hi => h i (by omega)), h n (by omega)]
section GM
variable {A J : Nat → Nat → Int} {F : Nat → Nat → Option Nat} {P n : Nat} {pp : Nat → Nat}
theorem gm_sa_V {S : Nat} {B : Nat → Nat → Int} {N : Nat → Int} {rest : Int} {J' : Nat → Nat → Int} (h : gm_sa J J') (hV : gm_V J P B N S rest) : gm_V J' P B N S rest := gm_V_c hV (h 99 0 (by omega) (by omega)) (gm_sa_e h (by omega) (by omega)) (gm_sa_e h (by omega) (by omega))
theorem m_hand {x y : Int} (d : Nat) (hK : gm_K F) (hR : gm_R A pp J) (hD : gc_D A P n pp) (hx : gw_in x) (hy : gw_in y) : gw_Met jX5_hand (d + 7) [.inr (some 99), .inl x, .inl y] (114, J, F) (gw_io F (fun r J' => r = ga_hand P (gc_B A) (A 20) (A 19 2) (A 19 1).toNat (A 19 3) (A 19 0).toNat x y ∧ gm_sa J J')) := by
  obtain ⟨g1, g2, g4, g5, g6, g8, g9, g11, g12, g14, g18, g19, g20, g21⟩ := id hK
  obtain ⟨hV, hS, h33, hset, h35, hbal⟩ := gm_R_V hR hD
  obtain ⟨v0, v1, v2, v3, v4⟩ := id hV
  obtain ⟨z1, z2⟩ := gm_sz hD
  have s1 := hS.1
  generalize hB : gc_B A = B at *
  generalize hSz : (A 19 0).toNat = S at *
  generalize hse : (A 19 1).toNat = set at *
  generalize hQ : gw_io F (fun r J' => r = ga_hand P B (A 20) (A 19 2) set (A 19 3) S x y ∧ gm_sa J J') = Q
  have bad : ¬ ((0 ≤ x ∧ x < (S : Int)) ∧ 0 ≤ y ∧ y < (P : Int)) → gw_G (gw_Cm jX5_hand (d + 7) Q) jX5_hand 16 [some (.inr (some 99)), some (.inl x), some (.inl y)] [] (114, J, F) 0 0 := by
    intro hb
    refine gr_iconst dX5_hand_16 ?_
    refine gr_iret dX5_hand_17 (by first | exact Or.inl rfl | exact Or.inr ⟨rfl, by omega⟩) (by decide) (by decide) ((hQ ▸ ⟨_, _, rfl, rfl, by unfold ga_hand; rw [if_neg hb], gm_sa_rf⟩))
  refine gw_enter okX5_hand rfl (Nat.le_of_ble_eq_true rfl) ?_
  refine gr_aload_n dX5_hand_0 rfl ?_
  refine gr_iload_n dX5_hand_1 rfl ?_
  refine gr_virt dX5_hand_2 kX5_124 (as := [_]) rfl rfl (by first | assumption | rfl) (by omega) (Nat.le_of_ble_eq_true rfl) (gw_Rm_m (by omega) (by decide) (by decide)) (m_isChord (d + 5) hK v2 z2 hx) ?_
  rintro _ _ ⟨rfl, rfl⟩
  by_cases h1 : 0 ≤ x ∧ x < (S : Int)
  · rw [if_pos h1]
    refine gr_if_eq 16 dX5_hand_5 (by decide) (by unfold gw_in; omega) (fun h5 => ?_) (fun h5 => ?_)
    · omega
    · refine gr_aload_n dX5_hand_8 rfl ?_
      refine gr_iload_n dX5_hand_9 rfl ?_
      refine gr_virt dX5_hand_10 kX5_114 (as := [_]) rfl rfl (by first | assumption | rfl) (by omega) (Nat.le_of_ble_eq_true rfl) (gw_Rm_m (by omega) (by decide) (by decide)) (m_isPlayer (d + 5) v0 s1 hy) ?_
      rintro _ _ ⟨rfl, rfl⟩
      by_cases h2 : 0 ≤ y ∧ y < (P : Int)
      · rw [if_pos h2]
        refine gr_if_ne 18 dX5_hand_13 (by decide) (by unfold gw_in; omega) (fun h13 => ?_) (fun h13 => ?_)
        · obtain ⟨c, rfl⟩ : ∃ c : Nat, x = (c : Int) := ⟨x.toNat, by omega⟩
          obtain ⟨p, rfl⟩ : ∃ p : Nat, y = (p : Int) := ⟨y.toNat, by omega⟩
          refine gr_aload_n dX5_hand_18 rfl ?_
          refine gr_virt dX5_hand_19 kX5_186 (as := []) rfl rfl (by first | assumption | rfl) (by omega) (Nat.le_of_ble_eq_true rfl) (gw_Rm_m (by omega) (by decide) (by decide)) (m_laysFirst (set := set) (bal := A 19 3) (d + 0) hK hV hS hset hbal h33 h35) ?_
          rintro _ _ ⟨r, J1, rfl, rfl, hsa, hres⟩
          unfold ga_hand at hQ
          rw [if_pos ⟨h1, h2⟩] at hQ
          cases hC : gs_cost P B (A 20) (A 19 2) set (A 19 3) S with
          | none =>
            rw [hC] at hQ hres
            simp only at hres
            subst hres
            refine gr_if_eq 38 dX5_hand_22 (by decide) (by unfold gw_in; omega) (fun h22 => ?_) (fun h22 => ?_)
            · refine gr_bipush dX5_hand_38 (by decide) ?_
              refine gr_iret dX5_hand_40 (by first | exact Or.inl rfl | exact Or.inr ⟨rfl, by omega⟩) (by decide) (by decide) ((hQ ▸ ⟨_, _, rfl, rfl, rfl, hsa⟩))
            · omega
          | some L =>
            rw [hC] at hQ hres
            obtain ⟨rfl, h22', hk⟩ := hres
            obtain ⟨k1, k2, k3⟩ := hk c (by omega)
            obtain ⟨m1, m2, m3⟩ := gm_mem k2
            refine gr_if_eq 38 dX5_hand_22 (by decide) (by unfold gw_in; omega) (fun h22 => ?_) (fun h22 => ?_)
            · omega
            · refine gr_aload_n dX5_hand_25 rfl ?_
              refine gr_getR dX5_hand_26 fX5_50 (by first | assumption | rfl) (by omega) (by decide) rfl (by assumption) ?_
              refine gr_iload_n dX5_hand_29 rfl ?_
              refine gr_iald (i := c) dX5_hand_30 (by first | assumption | rfl) (by omega) (by omega) (by omega) (by decide) ?_
              rw [k1]
              refine gr_iload_n dX5_hand_31 rfl ?_
              refine gr_stat dX5_hand_32 kX5_152 (as := [_, _]) rfl rfl (Nat.le_of_ble_eq_true rfl) (gw_Rm_m (by omega) (by decide) (by decide)) (m_handOf (k := (gs_K P B (A 20) (A 19 2) set (A 19 3) S L c).1) (p := p) (d + 6) m1 (by omega)) ?_
              rintro _ _ ⟨rfl, rfl⟩
              refine gr_goto 40 dX5_hand_35 (by decide) ?_
              refine gr_iret dX5_hand_40 (by first | exact Or.inl rfl | exact Or.inr ⟨rfl, by omega⟩) (by decide) (by decide) ((hQ ▸ ⟨_, _, rfl, rfl, rfl, hsa⟩))
        · omega
      · rw [if_neg h2]
        refine gr_if_ne 18 dX5_hand_13 (by decide) (by unfold gw_in; omega) (fun h13 => ?_) (fun h13 => ?_)
        · omega
        · exact bad (fun h => h2 h.2)
  · rw [if_neg h1]
    refine gr_if_eq 16 dX5_hand_5 (by decide) (by unfold gw_in; omega) (fun h5 => ?_) (fun h5 => ?_)
    · exact bad (fun h => h1 h.1)
    · omega
theorem m_loud {x y : Int} (d : Nat) (hK : gm_K F) (hR : gm_R A pp J) (hD : gc_D A P n pp) (hx : gw_in x) (hy : gw_in y) : gw_Met jX5_loud (d + 7) [.inr (some 99), .inl x, .inl y] (114, J, F) (gw_io F (fun r J' => r = ga_loud P (gc_B A) (A 20) (A 19 2) (A 19 1).toNat (A 19 3) (A 19 0).toNat x y ∧ gm_sa J J')) := by
  obtain ⟨g1, g2, g4, g5, g6, g8, g9, g11, g12, g14, g18, g19, g20, g21⟩ := id hK
  obtain ⟨hV, hS, h33, hset, h35, hbal⟩ := gm_R_V hR hD
  obtain ⟨v0, v1, v2, v3, v4⟩ := id hV
  obtain ⟨z1, z2⟩ := gm_sz hD
  have s1 := hS.1
  generalize hB : gc_B A = B at *
  generalize hSz : (A 19 0).toNat = S at *
  generalize hse : (A 19 1).toNat = set at *
  generalize hQ : gw_io F (fun r J' => r = ga_loud P B (A 20) (A 19 2) set (A 19 3) S x y ∧ gm_sa J J') = Q
  have bad : ¬ ((0 ≤ x ∧ x < (S : Int)) ∧ 0 ≤ y ∧ y < (gp_cnt (A 20) x.toNat : Int)) → gw_G (gw_Cm jX5_loud (d + 7) Q) jX5_loud 23 [some (.inr (some 99)), some (.inl x), some (.inl y)] [] (114, J, F) 0 0 := by
    intro hb
    refine gr_iconst dX5_loud_23 ?_
    refine gr_iret dX5_loud_24 (by first | exact Or.inl rfl | exact Or.inr ⟨rfl, by omega⟩) (by decide) (by decide) ((hQ ▸ ⟨_, _, rfl, rfl, by unfold ga_loud; rw [if_neg hb], gm_sa_rf⟩))
  refine gw_enter okX5_loud rfl (Nat.le_of_ble_eq_true rfl) ?_
  refine gr_aload_n dX5_loud_0 rfl ?_
  refine gr_iload_n dX5_loud_1 rfl ?_
  refine gr_virt dX5_loud_2 kX5_124 (as := [_]) rfl rfl (by first | assumption | rfl) (by omega) (Nat.le_of_ble_eq_true rfl) (gw_Rm_m (by omega) (by decide) (by decide)) (m_isChord (d + 5) hK v2 z2 hx) ?_
  rintro _ _ ⟨rfl, rfl⟩
  by_cases h1 : 0 ≤ x ∧ x < (S : Int)
  · rw [if_pos h1]
    obtain ⟨c, rfl⟩ : ∃ c : Nat, x = (c : Int) := ⟨x.toNat, by omega⟩
    have hcnt := gp_cnt_le (A 20) c
    have e1 := (v3 c (by omega)).1
    refine gr_if_eq 23 dX5_loud_5 (by decide) (by unfold gw_in; omega) (fun h5 => ?_) (fun h5 => ?_)
    · omega
    · refine gr_iload_n dX5_loud_8 rfl ?_
      refine gr_iconst dX5_loud_9 ?_
      refine gr_aload_n dX5_loud_10 rfl ?_
      refine gr_iload_n dX5_loud_11 rfl ?_
      refine gr_virt dX5_loud_12 kX5_127 (as := [_]) rfl rfl (by first | assumption | rfl) (by omega) (Nat.le_of_ble_eq_true rfl) (gw_Rm_m (by omega) (by decide) (by decide)) (m_notes (c := c) (d + 6) hK (by omega)) ?_
      rintro _ _ ⟨rfl, rfl⟩
      rw [e1]
      refine gr_iconst dX5_loud_15 ?_
      refine gr_isub dX5_loud_16 rfl ?_
      refine gr_stat dX5_loud_17 kX5_72 (as := [_, _, _]) rfl rfl (Nat.le_of_ble_eq_true rfl) (gw_Rm_m (by omega) (by decide) (by decide)) (m_in (d + 6) hy (by unfold gw_in; omega) (by unfold gw_in; omega)) ?_
      rintro _ _ ⟨rfl, rfl⟩
      by_cases h2 : 0 ≤ y ∧ y ≤ (gp_cnt (A 20) c : Int) - 1
      · rw [if_pos h2]
        refine gr_if_ne 25 dX5_loud_20 (by decide) (by unfold gw_in; omega) (fun h20 => ?_) (fun h20 => ?_)
        · obtain ⟨i, rfl⟩ : ∃ i : Nat, y = (i : Int) := ⟨y.toNat, by omega⟩
          refine gr_aload_n dX5_loud_25 rfl ?_
          refine gr_virt dX5_loud_26 kX5_186 (as := []) rfl rfl (by first | assumption | rfl) (by omega) (Nat.le_of_ble_eq_true rfl) (gw_Rm_m (by omega) (by decide) (by decide)) (m_laysFirst (set := set) (bal := A 19 3) (d + 0) hK hV hS hset hbal h33 h35) ?_
          rintro _ _ ⟨r, J1, rfl, rfl, hsa, hres⟩
          unfold ga_loud at hQ
          rw [if_pos ⟨h1, by omega, by rw [Int.toNat_natCast]; omega⟩] at hQ
          cases hC : gs_cost P B (A 20) (A 19 2) set (A 19 3) S with
          | none =>
            rw [hC] at hQ hres
            simp only at hres
            subst hres
            refine gr_if_eq 46 dX5_loud_29 (by decide) (by unfold gw_in; omega) (fun h29 => ?_) (fun h29 => ?_)
            · refine gr_bipush dX5_loud_46 (by decide) ?_
              refine gr_iret dX5_loud_48 (by first | exact Or.inl rfl | exact Or.inr ⟨rfl, by omega⟩) (by decide) (by decide) ((hQ ▸ ⟨_, _, rfl, rfl, rfl, hsa⟩))
            · omega
          | some L =>
            rw [hC] at hQ hres
            obtain ⟨rfl, h22', hk⟩ := hres
            obtain ⟨k1, k2, k3⟩ := hk c (by omega)
            obtain ⟨m1, m2, m3⟩ := gm_mem k2
            refine gr_if_eq 46 dX5_loud_29 (by decide) (by unfold gw_in; omega) (fun h29 => ?_) (fun h29 => ?_)
            · omega
            · refine gr_aload_n dX5_loud_32 rfl ?_
              refine gr_aload_n dX5_loud_33 rfl ?_
              refine gr_getR dX5_loud_34 fX5_50 (by first | assumption | rfl) (by omega) (by decide) rfl (by assumption) ?_
              refine gr_iload_n dX5_loud_37 rfl ?_
              refine gr_iald (i := c) dX5_loud_38 (by first | assumption | rfl) (by omega) (by omega) (by omega) (by decide) ?_
              rw [k1]
              refine gr_iload_n dX5_loud_39 rfl ?_
              refine gr_virt dX5_loud_40 kX5_156 (as := [_, _]) rfl rfl (by first | assumption | rfl) (by omega) (Nat.le_of_ble_eq_true rfl) (gw_Rm_m (by omega) (by decide) (by decide)) (m_loudOf (k := (gs_K P B (A 20) (A 19 2) set (A 19 3) S L c).1) (i := i) (d + 5) hK (gm_sa_V hsa hV) hS m1 (by omega)) ?_
              rintro _ _ ⟨rfl, rfl⟩
              rw [← gs_lw_P s1 m3]
              refine gr_goto 48 dX5_loud_43 (by decide) ?_
              refine gr_iret dX5_loud_48 (by first | exact Or.inl rfl | exact Or.inr ⟨rfl, by omega⟩) (by decide) (by decide) ((hQ ▸ ⟨_, _, rfl, rfl, rfl, hsa⟩))
        · omega
      · rw [if_neg h2]
        refine gr_if_ne 25 dX5_loud_20 (by decide) (by unfold gw_in; omega) (fun h20 => ?_) (fun h20 => ?_)
        · omega
        · exact bad (fun h => h2 (by have a := h.2; rw [Int.toNat_natCast] at a; omega))
  · rw [if_neg h1]
    refine gr_if_eq 23 dX5_loud_5 (by decide) (by unfold gw_in; omega) (fun h5 => ?_) (fun h5 => ?_)
    · exact bad (fun h => h1 h.1)
    · omega
theorem m_move {x y : Int} (d : Nat) (hK : gm_K F) (hR : gm_R A pp J) (hD : gc_D A P n pp) (hx : gw_in x) (hy : gw_in y) : gw_Met jX5_move (d + 7) [.inr (some 99), .inl x, .inl y] (114, J, F) (gw_io F (fun r J' => r = ga_move P (gc_B A) (A 20) (A 19 2) (A 19 1).toNat (A 19 3) (A 19 0).toNat x y ∧ gm_sa J J')) := by
  obtain ⟨g1, g2, g4, g5, g6, g8, g9, g11, g12, g14, g18, g19, g20, g21⟩ := id hK
  obtain ⟨hV, hS, h33, hset, h35, hbal⟩ := gm_R_V hR hD
  obtain ⟨v0, v1, v2, v3, v4⟩ := id hV
  obtain ⟨z1, z2⟩ := gm_sz hD
  have s1 := hS.1
  generalize hB : gc_B A = B at *
  generalize hSz : (A 19 0).toNat = S at *
  generalize hse : (A 19 1).toNat = set at *
  generalize hQ : gw_io F (fun r J' => r = ga_move P B (A 20) (A 19 2) set (A 19 3) S x y ∧ gm_sa J J') = Q
  have bad : ¬ ((0 ≤ x ∧ x + 1 < (S : Int)) ∧ 0 ≤ y ∧ y < (P : Int)) → gw_G (gw_Cm jX5_move (d + 7) Q) jX5_move 26 [some (.inr (some 99)), some (.inl x), some (.inl y)] [] (114, J, F) 0 0 := by
    intro hb
    refine gr_iconst dX5_move_26 ?_
    refine gr_iret dX5_move_27 (by first | exact Or.inl rfl | exact Or.inr ⟨rfl, by omega⟩) (by decide) (by decide) ((hQ ▸ ⟨_, _, rfl, rfl, by unfold ga_move; rw [if_neg hb], gm_sa_rf⟩))
  refine gw_enter okX5_move rfl (Nat.le_of_ble_eq_true rfl) ?_
  refine gr_aload_n dX5_move_0 rfl ?_
  refine gr_iload_n dX5_move_1 rfl ?_
  refine gr_virt dX5_move_2 kX5_124 (as := [_]) rfl rfl (by first | assumption | rfl) (by omega) (Nat.le_of_ble_eq_true rfl) (gw_Rm_m (by omega) (by decide) (by decide)) (m_isChord (d + 5) hK v2 z2 hx) ?_
  rintro _ _ ⟨rfl, rfl⟩
  by_cases h1 : 0 ≤ x ∧ x < (S : Int)
  · rw [if_pos h1]
    obtain ⟨c, rfl⟩ : ∃ c : Nat, x = (c : Int) := ⟨x.toNat, by omega⟩
    refine gr_if_eq 26 dX5_move_5 (by decide) (by unfold gw_in; omega) (fun h5 => ?_) (fun h5 => ?_)
    · omega
    · refine gr_aload_n dX5_move_8 rfl ?_
      refine gr_iload_n dX5_move_9 rfl ?_
      refine gr_iconst dX5_move_10 ?_
      refine gr_iadd (v := ((c + 1 : Nat) : Int)) dX5_move_11 (by omega) ?_
      refine gr_virt dX5_move_12 kX5_124 (as := [_]) rfl rfl (by first | assumption | rfl) (by omega) (Nat.le_of_ble_eq_true rfl) (gw_Rm_m (by omega) (by decide) (by decide)) (m_isChord (x := ((c + 1 : Nat) : Int)) (d + 5) hK v2 z2 (by unfold gw_in; omega)) ?_
      rintro _ _ ⟨rfl, rfl⟩
      by_cases h3 : 0 ≤ ((c + 1 : Nat) : Int) ∧ ((c + 1 : Nat) : Int) < (S : Int)
      · rw [if_pos h3]
        refine gr_if_eq 26 dX5_move_15 (by decide) (by unfold gw_in; omega) (fun h15 => ?_) (fun h15 => ?_)
        · omega
        · refine gr_aload_n dX5_move_18 rfl ?_
          refine gr_iload_n dX5_move_19 rfl ?_
          refine gr_virt dX5_move_20 kX5_114 (as := [_]) rfl rfl (by first | assumption | rfl) (by omega) (Nat.le_of_ble_eq_true rfl) (gw_Rm_m (by omega) (by decide) (by decide)) (m_isPlayer (d + 5) v0 s1 hy) ?_
          rintro _ _ ⟨rfl, rfl⟩
          by_cases h2 : 0 ≤ y ∧ y < (P : Int)
          · rw [if_pos h2]
            refine gr_if_ne 28 dX5_move_23 (by decide) (by unfold gw_in; omega) (fun h23 => ?_) (fun h23 => ?_)
            · obtain ⟨p, rfl⟩ : ∃ p : Nat, y = (p : Int) := ⟨y.toNat, by omega⟩
              refine gr_aload_n dX5_move_28 rfl ?_
              refine gr_virt dX5_move_29 kX5_186 (as := []) rfl rfl (by first | assumption | rfl) (by omega) (Nat.le_of_ble_eq_true rfl) (gw_Rm_m (by omega) (by decide) (by decide)) (m_laysFirst (set := set) (bal := A 19 3) (d + 0) hK hV hS hset hbal h33 h35) ?_
              rintro _ _ ⟨r, J1, rfl, rfl, hsa, hres⟩
              unfold ga_move at hQ
              rw [if_pos ⟨by omega, h2⟩] at hQ
              cases hC : gs_cost P B (A 20) (A 19 2) set (A 19 3) S with
              | none =>
                rw [hC] at hQ hres
                simp only at hres
                subst hres
                refine gr_if_eq 65 dX5_move_32 (by decide) (by unfold gw_in; omega) (fun h32 => ?_) (fun h32 => ?_)
                · refine gr_bipush dX5_move_65 (by decide) ?_
                  refine gr_iret dX5_move_67 (by first | exact Or.inl rfl | exact Or.inr ⟨rfl, by omega⟩) (by decide) (by decide) ((hQ ▸ ⟨_, _, rfl, rfl, rfl, hsa⟩))
                · omega
              | some L =>
                rw [hC] at hQ hres
                obtain ⟨rfl, h22', hk⟩ := hres
                obtain ⟨k1, k2, k3⟩ := hk c (by omega)
                obtain ⟨m1, m2, m3⟩ := gm_mem k2
                obtain ⟨l1, l2, l3⟩ := hk (c + 1) (by omega)
                obtain ⟨n1, n2, n3⟩ := gm_mem l2
                have hcan := (gm_can_iff m3 n3).mp (k3 (by omega)) p (by omega) (by omega)
                have hw := gm_mv_w (B := B) (N := A 20) (rest := A 19 2) (p := p) (c := c) (h := gs_hd (gs_K P B (A 20) (A 19 2) set (A 19 3) S L c).1 p) (c' := c + 1) (h' := gs_hd (gs_K P B (A 20) (A 19 2) set (A 19 3) S L (c + 1)).1 p)
                have hw2 : gs_way B (A 20) (A 19 2) p c (gs_hd (gs_K P B (A 20) (A 19 2) set (A 19 3) S L c).1 p) (c + 1) (gs_hd (gs_K P B (A 20) (A 19 2) set (A 19 3) S L (c + 1)).1 p) = gm_mv (A 20) (A 19 2) c (gs_hd (gs_K P B (A 20) (A 19 2) set (A 19 3) S L c).1 p) (c + 1) (gs_hd (gs_K P B (A 20) (A 19 2) set (A 19 3) S L (c + 1)).1 p) := by
                  rw [hw]
                  refine if_neg (fun h => ?_)
                  rw [if_pos h] at hw
                  rw [hw] at hcan
                  exact absurd hcan (Int.lt_irrefl _)
                dsimp only at hQ
                rw [Int.toNat_natCast, Int.toNat_natCast, hw2] at hQ
                refine gr_if_eq 65 dX5_move_32 (by decide) (by unfold gw_in; omega) (fun h32 => ?_) (fun h32 => ?_)
                · omega
                · refine gr_aload_n dX5_move_35 rfl ?_
                  refine gr_iload_n dX5_move_36 rfl ?_
                  refine gr_aload_n dX5_move_37 rfl ?_
                  refine gr_getR dX5_move_38 fX5_50 (by first | assumption | rfl) (by omega) (by decide) rfl (by assumption) ?_
                  refine gr_iload_n dX5_move_41 rfl ?_
                  refine gr_iald (i := c) dX5_move_42 (by first | assumption | rfl) (by omega) (by omega) (by omega) (by decide) ?_
                  rw [k1]
                  refine gr_iload_n dX5_move_43 rfl ?_
                  refine gr_stat dX5_move_44 kX5_152 (as := [_, _]) rfl rfl (Nat.le_of_ble_eq_true rfl) (gw_Rm_m (by omega) (by decide) (by decide)) (m_handOf (k := (gs_K P B (A 20) (A 19 2) set (A 19 3) S L c).1) (p := p) (d + 6) m1 (by omega)) ?_
                  rintro _ _ ⟨rfl, rfl⟩
                  refine gr_aload_n dX5_move_47 rfl ?_
                  refine gr_getR dX5_move_48 fX5_50 (by first | assumption | rfl) (by omega) (by decide) rfl (by assumption) ?_
                  refine gr_iload_n dX5_move_51 rfl ?_
                  refine gr_iconst dX5_move_52 ?_
                  refine gr_iadd (v := ((c + 1 : Nat) : Int)) dX5_move_53 (by omega) ?_
                  refine gr_iald (i := c + 1) dX5_move_54 (by first | assumption | rfl) (by omega) (by omega) (by omega) (by decide) ?_
                  rw [l1]
                  refine gr_iload_n dX5_move_55 rfl ?_
                  refine gr_stat dX5_move_56 kX5_152 (as := [_, _]) rfl rfl (Nat.le_of_ble_eq_true rfl) (gw_Rm_m (by omega) (by decide) (by decide)) (m_handOf (k := (gs_K P B (A 20) (A 19 2) set (A 19 3) S L (c + 1)).1) (p := p) (d + 6) n1 (by omega)) ?_
                  rintro _ _ ⟨rfl, rfl⟩
                  refine gr_virt dX5_move_59 kX5_170 (as := [_, _, _]) rfl rfl (by first | assumption | rfl) (by omega) (Nat.le_of_ble_eq_true rfl) (gw_Rm_m (by omega) (by decide) (by decide)) (m_moveOf (c := c) (h := gs_hd (gs_K P B (A 20) (A 19 2) set (A 19 3) S L c).1 p) (h' := gs_hd (gs_K P B (A 20) (A 19 2) set (A 19 3) S L (c + 1)).1 p) (d + 5) hK (gm_sa_V hsa hV) hS (by omega) (m2 p (by omega)) (n2 p (by omega))) ?_
                  rintro _ _ ⟨rfl, rfl⟩
                  refine gr_goto 67 dX5_move_62 (by decide) ?_
                  refine gr_iret dX5_move_67 (by first | exact Or.inl rfl | exact Or.inr ⟨rfl, by omega⟩) (by decide) (by decide) ((hQ ▸ ⟨_, _, rfl, rfl, rfl, hsa⟩))
            · omega
          · rw [if_neg h2]
            refine gr_if_ne 28 dX5_move_23 (by decide) (by unfold gw_in; omega) (fun h23 => ?_) (fun h23 => ?_)
            · omega
            · exact bad (fun h => h2 h.2)
      · rw [if_neg h3]
        refine gr_if_eq 26 dX5_move_15 (by decide) (by unfold gw_in; omega) (fun h15 => ?_) (fun h15 => ?_)
        · exact bad (fun h => h3 (by omega))
        · omega
  · rw [if_neg h1]
    refine gr_if_eq 26 dX5_move_5 (by decide) (by unfold gw_in; omega) (fun h5 => ?_) (fun h5 => ?_)
    · exact bad (fun h => h1 (by omega))
    · omega
theorem m_playing {S c k i : Nat} {B : Nat → Nat → Int} {N : Nat → Int} {rest : Int} (d : Nat) (hK : gm_K F) (hV : gm_V J P B N S rest) (hP : P ≤ 4) (hc : c < 8) (hk : J 113 c = (k : Int)) (hk4 : k < 4096) (hi : i < 3) : gw_Met jX5_playing (d + 1) [.inr (some 99), .inl (c : Int), .inl (i : Int)] (114, J, F) (gw_pu ((gs_sm (fun p => gs_hd k p / 2 ^ i % 2) P : Nat) : Int) (114, J, F)) := by
  obtain ⟨g1, g2, g4, g5, g6, g8, g9, g11, g12, g14, g18, g19, g20, g21⟩ := id hK
  refine gw_enter okX5_playing rfl (Nat.le_of_ble_eq_true rfl) ?_
  refine gr_iconst dX5_playing_0 ?_
  refine gr_istore_n dX5_playing_1 (by decide) ?_
  refine gr_iconst dX5_playing_2 ?_
  refine gr_istore dX5_playing_3 (by decide) ?_
  have key : ∀ (m p : Nat), p + m = P → gw_G (gw_Cm jX5_playing (d + 1) (gw_pu ((gs_sm (fun p => gs_hd k p / 2 ^ i % 2) P : Nat) : Int) (114, J, F))) jX5_playing 5 [some (.inr (some 99)), some (.inl (c : Int)), some (.inl (i : Int)), some (.inl ((gs_sm (fun p => gs_hd k p / 2 ^ i % 2) p : Nat) : Int)), some (.inl (p : Int))] [] (114, J, F) 0 0 := by
    intro m
    induction m with
    | zero =>
      intro p hp
      refine gr_iload dX5_playing_5 rfl ?_
      refine gr_aload_n dX5_playing_7 rfl ?_
      refine gr_getI dX5_playing_8 fX5_63 (by first | assumption | rfl) (by omega) (by decide) rfl ?_
      rw [hV.1]
      refine gr_icmp_ge 38 dX5_playing_11 (by decide) (by unfold gw_in; omega) (by unfold gw_in; omega) (fun h11 => ?_) (fun h11 => ?_)
      · refine gr_iload_n dX5_playing_38 rfl ?_
        refine gr_iret dX5_playing_39 (by first | exact Or.inl rfl | exact Or.inr ⟨rfl, by omega⟩) (by decide) (by decide) (⟨by rw [show p = P by omega], rfl⟩)
      · omega
    | succ m ih =>
      intro p hp
      have hl := gs_hd_lt k p
      refine gr_iload dX5_playing_5 rfl ?_
      refine gr_aload_n dX5_playing_7 rfl ?_
      refine gr_getI dX5_playing_8 fX5_63 (by first | assumption | rfl) (by omega) (by decide) rfl ?_
      rw [hV.1]
      refine gr_icmp_ge 38 dX5_playing_11 (by decide) (by unfold gw_in; omega) (by unfold gw_in; omega) (fun h11 => ?_) (fun h11 => ?_)
      · omega
      · refine gr_iload_n dX5_playing_14 rfl ?_
        refine gr_aload_n dX5_playing_15 rfl ?_
        refine gr_getR dX5_playing_16 fX5_50 (by first | assumption | rfl) (by omega) (by decide) rfl (by assumption) ?_
        refine gr_iload_n dX5_playing_19 rfl ?_
        refine gr_iald (i := c) dX5_playing_20 (by first | assumption | rfl) (by omega) (by omega) (by omega) (by decide) ?_
        rw [hk]
        refine gr_iload dX5_playing_21 rfl ?_
        refine gr_stat dX5_playing_23 kX5_152 (as := [_, _]) rfl rfl (Nat.le_of_ble_eq_true rfl) (gw_Rm_m (by omega) (by decide) (by decide)) (m_handOf (k := k) (p := p) d hk4 (by omega)) ?_
        rintro _ _ ⟨rfl, rfl⟩
        refine gr_iload_n dX5_playing_26 rfl ?_
        refine gr_ishr (v := ((gs_hd k p / 2 ^ i : Nat) : Int)) dX5_playing_27 (ga_bit (by omega) (by omega)) ?_
        refine gr_iconst dX5_playing_28 ?_
        refine gr_iand (v := ((gs_hd k p / 2 ^ i % 2 : Nat) : Int)) dX5_playing_29 (ga_bit1 _) ?_
        refine gr_iadd (v := ((gs_sm (fun p => gs_hd k p / 2 ^ i % 2) (p + 1) : Nat) : Int)) dX5_playing_30 (by simp only [gs_sm]; omega) ?_
        refine gr_istore_n dX5_playing_31 (by decide) ?_
        refine gr_iinc (v := ((p + 1 : Nat) : Int)) dX5_playing_32 (by decide) rfl (by omega) ?_
        refine gr_goto 5 dX5_playing_35 (by decide) ?_
        exact ih (p + 1) (by omega)
  exact key P 0 (by omega)
theorem gm_nz_P {k : Nat} (hP : P ≤ 4) (h0 : ∀ p, P ≤ p → p < 4 → gs_hd k p = 0) : gs_sm (fun p => if gs_hd k p = 0 then 0 else 1) P = gs_nz k := by
  have := gs_sm_x (f := fun p => if gs_hd k p = 0 then 0 else 1) (a := P) (4 - P) (fun p h1 h2 => by rw [if_pos (h0 p h1 (by omega))])
  rw [show P + (4 - P) = 4 by omega] at this
  exact this.symm
theorem gm_po_P {k i : Nat} (hP : P ≤ 4) (h0 : ∀ p, P ≤ p → p < 4 → gs_hd k p = 0) : gs_sm (fun p => gs_hd k p / 2 ^ i % 2) P = gs_po k i := by
  have := gs_sm_x (f := fun p => gs_hd k p / 2 ^ i % 2) (a := P) (4 - P) (fun p h1 h2 => by rw [h0 p h1 (by omega)]; simp)
  rw [show P + (4 - P) = 4 by omega] at this
  exact this.symm
theorem gm_db_n {k c3 : Nat} (hc : c3 ≤ 3) (hh : ∀ p, p < 4 → gs_hd k p < 2 ^ c3) : gs_sm (fun i => if 2 ≤ gs_po k i then 1 else 0) c3 = gs_db k := by
  have := gs_sm_x (f := fun i => if 2 ≤ gs_po k i then 1 else 0) (a := c3) (3 - c3) (fun i h1 h2 => by
    have z : gs_po k i = 0 := by
      have hz : ∀ p, p < 4 → gs_hd k p / 2 ^ i % 2 = 0 := fun p hp => by
        rw [Nat.div_eq_of_lt (Nat.lt_of_lt_of_le (hh p hp) (Nat.pow_le_pow_right (by omega) h1))]
      unfold gs_po
      simp only [gs_sm]
      rw [hz 0 (by omega), hz 1 (by omega), hz 2 (by omega), hz 3 (by omega)]
    rw [z, if_neg (by omega)])
  rw [show c3 + (3 - c3) = 3 by omega] at this
  exact this.symm
theorem m_score {x : Int} (d : Nat) (hK : gm_K F) (hR : gm_R A pp J) (hD : gc_D A P n pp) (hx : gw_in x) : gw_Met jX5_score (d + 7) [.inr (some 99), .inl x] (114, J, F) (gw_io F (fun r J' => r = ga_score P (gc_B A) (A 20) (A 19 2) (A 19 1).toNat (A 19 3) (A 19 0).toNat x ∧ gm_sa J J')) := by
  obtain ⟨g1, g2, g4, g5, g6, g8, g9, g11, g12, g14, g18, g19, g20, g21⟩ := id hK
  obtain ⟨hV, hS, h33, hset, h35, hbal⟩ := gm_R_V hR hD
  obtain ⟨z1, z2⟩ := gm_sz hD
  have s1 := hS.1
  generalize hB : gc_B A = B at *
  generalize hSz : (A 19 0).toNat = S at *
  generalize hse : (A 19 1).toNat = set at *
  generalize hQ : gw_io F (fun r J' => r = ga_score P B (A 20) (A 19 2) set (A 19 3) S x ∧ gm_sa J J') = Q
  refine gw_enter okX5_score rfl (Nat.le_of_ble_eq_true rfl) ?_
  refine gr_iload_n dX5_score_0 rfl ?_
  refine gr_iconst dX5_score_1 ?_
  refine gr_iconst dX5_score_2 ?_
  refine gr_stat dX5_score_3 kX5_72 (as := [_, _, _]) rfl rfl (Nat.le_of_ble_eq_true rfl) (gw_Rm_m (by omega) (by decide) (by decide)) (m_in (d + 6) hx (by unfold gw_in; omega) (by unfold gw_in; omega)) ?_
  rintro _ _ ⟨rfl, rfl⟩
  by_cases h1 : 0 ≤ x ∧ x ≤ 2
  · rw [if_pos h1]
    refine gr_if_ne 11 dX5_score_6 (by decide) (by unfold gw_in; omega) (fun h6 => ?_) (fun h6 => ?_)
    · refine gr_aload_n dX5_score_11 rfl ?_
      refine gr_virt dX5_score_12 kX5_186 (as := []) rfl rfl (by first | assumption | rfl) (by omega) (Nat.le_of_ble_eq_true rfl) (gw_Rm_m (by omega) (by decide) (by decide)) (m_laysFirst (set := set) (bal := A 19 3) (d + 0) hK hV hS hset hbal h33 h35) ?_
      rintro _ _ ⟨r, J1, rfl, rfl, hsa, hres⟩
      unfold ga_score at hQ
      rw [if_pos h1] at hQ
      have hV1 := gm_sa_V hsa hV
      obtain ⟨v0, v1, v2, v3, v4⟩ := id hV1
      cases hC : gs_cost P B (A 20) (A 19 2) set (A 19 3) S with
      | none =>
        rw [hC] at hQ hres
        simp only at hres
        subst hres
        refine gr_if_ne 21 dX5_score_15 (by decide) (by unfold gw_in; omega) (fun h15 => ?_) (fun h15 => ?_)
        · omega
        · refine gr_bipush dX5_score_18 (by decide) ?_
          refine gr_iret dX5_score_20 (by first | exact Or.inl rfl | exact Or.inr ⟨rfl, by omega⟩) (by decide) (by decide) ((hQ ▸ ⟨_, _, rfl, rfl, rfl, hsa⟩))
      | some L =>
        rw [hC] at hQ hres
        dsimp only at hQ
        obtain ⟨rfl, h22, hk⟩ := hres
        generalize hKk : (fun c => (gs_K P B (A 20) (A 19 2) set (A 19 3) S L c).1) = K at hQ
        have hk' : ∀ c, c < S → J1 113 c = ((K c : Nat) : Int) ∧ K c ∈ gs_SP P B (A 20) set c := fun c hc => by
          rw [← hKk]; exact ⟨(hk c hc).1, (hk c hc).2.1⟩
        have hQ' : gw_io F (fun r J' => (r = if x = 0 then (L : Int) else if x = 1 then ((gs_sm (fun c => gs_nz (K c)) S : Nat) : Int) else ((gs_sm (fun c => gs_db (K c)) S : Nat) : Int)) ∧ gm_sa J J') = Q := by
          rw [← hQ, ← hKk]
        refine gr_if_ne 21 dX5_score_15 (by decide) (by unfold gw_in; omega) (fun h15 => ?_) (fun h15 => ?_)
        · refine gr_iconst dX5_score_21 ?_
          refine gr_istore_n dX5_score_22 (by decide) ?_
          refine gr_iconst dX5_score_23 ?_
          refine gr_istore_n dX5_score_24 (by decide) ?_
          refine gr_iconst dX5_score_25 ?_
          refine gr_istore dX5_score_26 (by decide) ?_
          have outer : ∀ (m c : Nat) (x5 : Option gw_V), c + m = S → gw_G (gw_Cm jX5_score (d + 7) Q) jX5_score 28 [some (.inr (some 99)), some (.inl x), some (.inl ((gs_sm (fun c => gs_nz (K c)) c : Nat) : Int)), some (.inl ((gs_sm (fun c => gs_db (K c)) c : Nat) : Int)), some (.inl (c : Int)), x5] [] (114, J1, F) 0 0 := by
            intro m
            induction m with
            | zero =>
              intro c x5 hc
              have hc : c = S := by omega
              subst hc
              refine gr_iload dX5_score_28 rfl ?_
              refine gr_aload_n dX5_score_30 rfl ?_
              refine gr_getR dX5_score_31 fX5_13 (by first | assumption | rfl) (by omega) (by decide) rfl (by assumption) ?_
              refine gr_iconst dX5_score_34 ?_
              refine gr_iald (i := 0) dX5_score_35 (by first | assumption | rfl) (by omega) (by omega) (by omega) (by decide) ?_
              rw [v2]
              refine gr_icmp_ge 126 dX5_score_36 (by decide) (by unfold gw_in; omega) (by unfold gw_in; omega) (fun h36 => ?_) (fun h36 => ?_)
              · refine gr_iload_n dX5_score_126 rfl ?_
                refine gr_if_ne 137 dX5_score_127 (by decide) (by unfold gw_in; omega) (fun h127 => ?_) (fun h127 => ?_)
                · refine gr_iload_n dX5_score_137 rfl ?_
                  refine gr_iconst dX5_score_138 ?_
                  refine gr_icmp_ne 146 dX5_score_139 (by decide) (by unfold gw_in; omega) (by unfold gw_in; omega) (fun h139 => ?_) (fun h139 => ?_)
                  · refine gr_iload_n dX5_score_146 rfl ?_
                    refine gr_iret dX5_score_147 (by first | exact Or.inl rfl | exact Or.inr ⟨rfl, by omega⟩) (by decide) (by decide) ((hQ' ▸ ⟨_, _, rfl, rfl, by rw [if_neg h127, if_neg h139], hsa⟩))
                  · refine gr_iload_n dX5_score_142 rfl ?_
                    refine gr_goto 147 dX5_score_143 (by decide) ?_
                    refine gr_iret dX5_score_147 (by first | exact Or.inl rfl | exact Or.inr ⟨rfl, by omega⟩) (by decide) (by decide) ((hQ' ▸ ⟨_, _, rfl, rfl, by rw [if_neg h127, if_pos h139], hsa⟩))
                · refine gr_aload_n dX5_score_130 rfl ?_
                  refine gr_getI dX5_score_131 fX5_183 (by first | assumption | rfl) (by omega) (by decide) rfl ?_
                  rw [h22]
                  refine gr_goto 147 dX5_score_134 (by decide) ?_
                  refine gr_iret dX5_score_147 (by first | exact Or.inl rfl | exact Or.inr ⟨rfl, by omega⟩) (by decide) (by decide) ((hQ' ▸ ⟨_, _, rfl, rfl, by rw [if_pos h127], hsa⟩))
              · omega
            | succ m ih =>
              intro c x5 hc
              obtain ⟨k1, k2⟩ := hk' c (by omega)
              obtain ⟨m1, m2, m3⟩ := gm_mem k2
              have hcnt := gp_cnt_le (A 20) c
              have e1 := (v3 c (by omega)).1
              refine gr_iload dX5_score_28 rfl ?_
              refine gr_aload_n dX5_score_30 rfl ?_
              refine gr_getR dX5_score_31 fX5_13 (by first | assumption | rfl) (by omega) (by decide) rfl (by assumption) ?_
              refine gr_iconst dX5_score_34 ?_
              refine gr_iald (i := 0) dX5_score_35 (by first | assumption | rfl) (by omega) (by omega) (by omega) (by decide) ?_
              rw [v2]
              refine gr_icmp_ge 126 dX5_score_36 (by decide) (by unfold gw_in; omega) (by unfold gw_in; omega) (fun h36 => ?_) (fun h36 => ?_)
              · omega
              · refine gr_iconst dX5_score_39 ?_
                refine gr_istore dX5_score_40 (by decide) ?_
                have in1 : ∀ (m p : Nat), p + m = P → gw_G (gw_Cm jX5_score (d + 7) Q) jX5_score 42 [some (.inr (some 99)), some (.inl x), some (.inl ((gs_sm (fun c => gs_nz (K c)) c + gs_sm (fun p => if gs_hd (K c) p = 0 then 0 else 1) p : Nat) : Int)), some (.inl ((gs_sm (fun c => gs_db (K c)) c : Nat) : Int)), some (.inl (c : Int)), some (.inl (p : Int))] [] (114, J1, F) 0 0 := by
                  intro m
                  induction m with
                  | zero =>
                    intro p hp
                    have hp : p = P := by omega
                    subst hp
                    refine gr_iload dX5_score_42 rfl ?_
                    refine gr_aload_n dX5_score_44 rfl ?_
                    refine gr_getI dX5_score_45 fX5_63 (by first | assumption | rfl) (by omega) (by decide) rfl ?_
                    rw [v0]
                    refine gr_icmp_ge 80 dX5_score_48 (by decide) (by unfold gw_in; omega) (by unfold gw_in; omega) (fun h48 => ?_) (fun h48 => ?_)
                    · rw [gm_nz_P s1 m3]
                      refine gr_iconst dX5_score_80 ?_
                      refine gr_istore dX5_score_81 (by decide) ?_
                      have in2 : ∀ (m i : Nat), i + m = gp_cnt (A 20) c → gw_G (gw_Cm jX5_score (d + 7) Q) jX5_score 83 [some (.inr (some 99)), some (.inl x), some (.inl ((gs_sm (fun c => gs_nz (K c)) (c + 1) : Nat) : Int)), some (.inl ((gs_sm (fun c => gs_db (K c)) c + gs_sm (fun i => if 2 ≤ gs_po (K c) i then 1 else 0) i : Nat) : Int)), some (.inl (c : Int)), some (.inl (i : Int))] [] (114, J1, F) 0 0 := by
                        intro m
                        induction m with
                        | zero =>
                          intro i hi
                          have hi : i = gp_cnt (A 20) c := by omega
                          subst hi
                          refine gr_iload dX5_score_83 rfl ?_
                          refine gr_aload_n dX5_score_85 rfl ?_
                          refine gr_iload dX5_score_86 rfl ?_
                          refine gr_virt dX5_score_88 kX5_127 (as := [_]) rfl rfl (by first | assumption | rfl) (by omega) (Nat.le_of_ble_eq_true rfl) (gw_Rm_m (by omega) (by decide) (by decide)) (m_notes (c := c) (d + 6) hK (by omega)) ?_
                          rintro _ _ ⟨rfl, rfl⟩
                          rw [e1]
                          refine gr_icmp_ge 120 dX5_score_91 (by decide) (by unfold gw_in; omega) (by unfold gw_in; omega) (fun h91 => ?_) (fun h91 => ?_)
                          · rw [gm_db_n hcnt m2]
                            refine gr_iinc (v := ((c + 1 : Nat) : Int)) dX5_score_120 (by decide) rfl (by omega) ?_
                            refine gr_goto 28 dX5_score_123 (by decide) ?_
                            exact ih (c + 1) _ (by omega)
                          · omega
                        | succ m ihi =>
                          intro i hi
                          have hpo := gs_po_le (K c) i
                          have nxt := ihi (i + 1) (by omega)
                          simp only [gs_sm] at nxt
                          refine gr_iload dX5_score_83 rfl ?_
                          refine gr_aload_n dX5_score_85 rfl ?_
                          refine gr_iload dX5_score_86 rfl ?_
                          refine gr_virt dX5_score_88 kX5_127 (as := [_]) rfl rfl (by first | assumption | rfl) (by omega) (Nat.le_of_ble_eq_true rfl) (gw_Rm_m (by omega) (by decide) (by decide)) (m_notes (c := c) (d + 6) hK (by omega)) ?_
                          rintro _ _ ⟨rfl, rfl⟩
                          rw [e1]
                          refine gr_icmp_ge 120 dX5_score_91 (by decide) (by unfold gw_in; omega) (by unfold gw_in; omega) (fun h91 => ?_) (fun h91 => ?_)
                          · omega
                          · refine gr_iload_n dX5_score_94 rfl ?_
                            refine gr_aload_n dX5_score_95 rfl ?_
                            refine gr_iload dX5_score_96 rfl ?_
                            refine gr_iload dX5_score_98 rfl ?_
                            refine gr_virt dX5_score_100 kX5_189 (as := [_, _]) rfl rfl (by first | assumption | rfl) (by omega) (Nat.le_of_ble_eq_true rfl) (gw_Rm_m (by omega) (by decide) (by decide)) (m_playing (c := c) (k := K c) (i := i) (d + 5) hK hV1 s1 (by omega) k1 m1 (by omega)) ?_
                            rintro _ _ ⟨rfl, rfl⟩
                            rw [gm_po_P s1 m3]
                            refine gr_iconst dX5_score_103 ?_
                            refine gr_icmp_le 111 dX5_score_104 (by decide) (by unfold gw_in; omega) (by unfold gw_in; omega) (fun h104 => ?_) (fun h104 => ?_)
                            · rw [if_neg (by omega)] at nxt
                              refine gr_iconst dX5_score_111 ?_
                              refine gr_iadd (v := ((gs_sm (fun c => gs_db (K c)) c + (gs_sm (fun i => if 2 ≤ gs_po (K c) i then 1 else 0) i + 0) : Nat) : Int)) dX5_score_112 (by omega) ?_
                              refine gr_istore_n dX5_score_113 (by decide) ?_
                              refine gr_iinc (v := ((i + 1 : Nat) : Int)) dX5_score_114 (by decide) rfl (by omega) ?_
                              refine gr_goto 83 dX5_score_117 (by decide) ?_
                              exact nxt
                            · rw [if_pos (by omega)] at nxt
                              refine gr_iconst dX5_score_107 ?_
                              refine gr_goto 112 dX5_score_108 (by decide) ?_
                              refine gr_iadd (v := ((gs_sm (fun c => gs_db (K c)) c + (gs_sm (fun i => if 2 ≤ gs_po (K c) i then 1 else 0) i + 1) : Nat) : Int)) dX5_score_112 (by omega) ?_
                              refine gr_istore_n dX5_score_113 (by decide) ?_
                              refine gr_iinc (v := ((i + 1 : Nat) : Int)) dX5_score_114 (by decide) rfl (by omega) ?_
                              refine gr_goto 83 dX5_score_117 (by decide) ?_
                              exact nxt
                      exact in2 (gp_cnt (A 20) c) 0 (by omega)
                    · omega
                  | succ m ihp =>
                    intro p hp
                    have hl := gs_hd_lt (K c) p
                    have nxt := ihp (p + 1) (by omega)
                    simp only [gs_sm] at nxt
                    refine gr_iload dX5_score_42 rfl ?_
                    refine gr_aload_n dX5_score_44 rfl ?_
                    refine gr_getI dX5_score_45 fX5_63 (by first | assumption | rfl) (by omega) (by decide) rfl ?_
                    rw [v0]
                    refine gr_icmp_ge 80 dX5_score_48 (by decide) (by unfold gw_in; omega) (by unfold gw_in; omega) (fun h48 => ?_) (fun h48 => ?_)
                    · omega
                    · refine gr_iload_n dX5_score_51 rfl ?_
                      refine gr_aload_n dX5_score_52 rfl ?_
                      refine gr_getR dX5_score_53 fX5_50 (by first | assumption | rfl) (by omega) (by decide) rfl (by assumption) ?_
                      refine gr_iload dX5_score_56 rfl ?_
                      refine gr_iald (i := c) dX5_score_58 (by first | assumption | rfl) (by omega) (by omega) (by omega) (by decide) ?_
                      rw [k1]
                      refine gr_iload dX5_score_59 rfl ?_
                      refine gr_stat dX5_score_61 kX5_152 (as := [_, _]) rfl rfl (Nat.le_of_ble_eq_true rfl) (gw_Rm_m (by omega) (by decide) (by decide)) (m_handOf (k := K c) (p := p) (d + 6) m1 (by omega)) ?_
                      rintro _ _ ⟨rfl, rfl⟩
                      refine gr_if_ne 71 dX5_score_64 (by decide) (by unfold gw_in; omega) (fun h64 => ?_) (fun h64 => ?_)
                      · rw [if_neg (by omega)] at nxt
                        refine gr_iconst dX5_score_71 ?_
                        refine gr_iadd (v := ((gs_sm (fun c => gs_nz (K c)) c + (gs_sm (fun p => if gs_hd (K c) p = 0 then 0 else 1) p + 1) : Nat) : Int)) dX5_score_72 (by omega) ?_
                        refine gr_istore_n dX5_score_73 (by decide) ?_
                        refine gr_iinc (v := ((p + 1 : Nat) : Int)) dX5_score_74 (by decide) rfl (by omega) ?_
                        refine gr_goto 42 dX5_score_77 (by decide) ?_
                        exact nxt
                      · rw [if_pos (by omega)] at nxt
                        refine gr_iconst dX5_score_67 ?_
                        refine gr_goto 72 dX5_score_68 (by decide) ?_
                        refine gr_iadd (v := ((gs_sm (fun c => gs_nz (K c)) c + (gs_sm (fun p => if gs_hd (K c) p = 0 then 0 else 1) p + 0) : Nat) : Int)) dX5_score_72 (by omega) ?_
                        refine gr_istore_n dX5_score_73 (by decide) ?_
                        refine gr_iinc (v := ((p + 1 : Nat) : Int)) dX5_score_74 (by decide) rfl (by omega) ?_
                        refine gr_goto 42 dX5_score_77 (by decide) ?_
                        exact nxt
                exact in1 P 0 (by omega)
          exact outer S 0 _ (by omega)
        · omega
    · omega
  · rw [if_neg h1]
    refine gr_if_ne 11 dX5_score_6 (by decide) (by unfold gw_in; omega) (fun h6 => ?_) (fun h6 => ?_)
    · omega
    · refine gr_iconst dX5_score_9 ?_
      refine gr_iret dX5_score_10 (by first | exact Or.inl rfl | exact Or.inr ⟨rfl, by omega⟩) (by decide) (by decide) ((hQ ▸ ⟨_, _, rfl, rfl, by unfold ga_score; rw [if_neg h1], gm_sa_rf⟩))
end GM
