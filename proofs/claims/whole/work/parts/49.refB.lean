/-! THE REFERENCE beside the class: takes, calls, tells -/
section GM
variable {A A' J : Nat → Nat → Int} {F : Nat → Nat → Option Nat} {P n : Nat} {pp pp' : Nat → Nat}
theorem gm_take_Q {A1 J1 J' : Nat → Nat → Int} {c : Nat} (hc : (c : Int) < A1 19 0) (h8 : A1 19 0 ≤ 8) (hu : gu_take A1 A' c) (hJ : ∀ b : Nat, J' 101 b = if b = 0 then A1 19 0 - 1 else if 4 * c + 1 ≤ b ∧ (b : Int) < 4 * (A1 19 0 - 1) + 1 then J1 101 (b + 4) else J1 101 b) (hQ : gm_Q A1 J1 19 101 0) : gm_Q A' J' 19 101 0 := by
  obtain ⟨q1, q2, q3, q4, q5⟩ := hQ
  simp only [Nat.zero_add] at q2 q3 q4 q5
  have e19 : ∀ b, b ≠ 0 → A' 19 b = A1 19 b := fun b h1 => by rw [hu, if_neg (by omega), if_neg (by omega)]
  have es : A' 19 0 = A1 19 0 - 1 := by rw [hu, if_pos (by omega)]
  refine ⟨by rw [hJ, if_pos rfl, es], by rw [Nat.zero_add, hJ, if_neg (by omega), if_neg (by omega), e19 1 (by omega)]; exact q2, by rw [Nat.zero_add, hJ, if_neg (by omega), if_neg (by omega), e19 2 (by omega)]; exact q3, by rw [Nat.zero_add, hJ, if_neg (by omega), if_neg (by omega), e19 3 (by omega)]; exact q4, fun k hk => ?_⟩
  rw [es] at hk
  simp only [Nat.zero_add]
  by_cases hkc : k < c
  · have hN : ∀ i, i < 3 → A' 20 (3 * k + i) = A1 20 (3 * k + i) := fun i hi => by rw [hu, if_neg (by omega), if_neg (by omega)]
    have ecnt : gp_cnt (A' (19 + 1)) k = gp_cnt (A1 (19 + 1)) k := by
      show gp_cnt (A' 20) k = gp_cnt (A1 20) k
      unfold gp_cnt
      rw [hN 0 (by omega), hN 1 (by omega), hN 2 (by omega)]
    have hc3 := gp_cnt_le (A1 (19 + 1)) k
    obtain ⟨a, b⟩ := q5 k (by omega)
    rw [ecnt]
    refine ⟨?_, fun i hi => ?_⟩
    · rw [hJ, if_neg (by omega), if_neg (by omega)]; exact a
    · show J' 101 (4 * k + 2 + i) = A' 20 (3 * k + i)
      rw [hJ, if_neg (by omega), if_neg (by omega), hN i (by omega)]; exact b i hi
  · have hN : ∀ i, i < 3 → A' 20 (3 * k + i) = A1 20 (3 * (k + 1) + i) := fun i hi => by
      rw [hu, if_neg (by omega), if_pos (by omega)]
      show A1 20 (3 * k + i + 3) = _
      congr 1
      omega
    have ecnt : gp_cnt (A' (19 + 1)) k = gp_cnt (A1 (19 + 1)) (k + 1) := by
      show gp_cnt (A' 20) k = gp_cnt (A1 20) (k + 1)
      unfold gp_cnt
      rw [hN 0 (by omega), hN 1 (by omega), hN 2 (by omega)]
    have hc3 := gp_cnt_le (A1 (19 + 1)) (k + 1)
    obtain ⟨a, b⟩ := q5 (k + 1) (by omega)
    rw [ecnt]
    refine ⟨?_, fun i hi => ?_⟩
    · rw [hJ, if_neg (by omega), if_pos (by omega), show 4 * k + 1 + 4 = 4 * (k + 1) + 1 by omega]; exact a
    · show J' 101 (4 * k + 2 + i) = A' 20 (3 * k + i)
      rw [hJ, if_neg (by omega), if_pos (by omega), hN i (by omega), show 4 * k + 2 + i + 4 = 4 * (k + 1) + 2 + i by omega]; exact b i hi
theorem m_takes {F' : Nat → Nat → Option Nat} {k : Int} (d : Nat) (hC : gc_K F pp) (hC' : gc_K F' pp') (hK : gm_K F') (hR : gm_R A pp J) (hD : gc_D A P n pp) (hk : gw_in k) (hu : gu_takes A A' pp pp' k) : gw_Met jX5_takes (d + 2) [.inr (some 99), .inl k] (114, J, F') (gw_io F' (fun r J' => r = (if 0 ≤ k ∧ k < A 19 0 then A 19 0 - 1 else -1) ∧ gm_fr J J' ∧ gm_R A' pp' J')) := by
  obtain ⟨g1, g2, g4, g5, g6, g8, g9, g11, g12, g14, g18, g19, g20, g21⟩ := id hK
  obtain ⟨hV, hS, h33, hset, h35, hbal⟩ := gm_R_V hR hD
  obtain ⟨z1, z2⟩ := gm_sz hD
  obtain ⟨v0, v1, v2, v3, v4⟩ := id hV
  generalize hQ : gw_io F' (fun r J' => r = (if 0 ≤ k ∧ k < A 19 0 then A 19 0 - 1 else -1) ∧ gm_fr J J' ∧ gm_R A' pp' J') = Q
  unfold gu_takes at hu
  refine gw_enter okX5_takes rfl (Nat.le_of_ble_eq_true rfl) ?_
  refine gr_aload_n dX5_takes_0 rfl ?_
  refine gr_iload_n dX5_takes_1 rfl ?_
  refine gr_virt dX5_takes_2 kX5_124 (as := [_]) rfl rfl (by first | assumption | rfl) (by omega) (Nat.le_of_ble_eq_true rfl) (gw_Rm_m (by omega) (by decide) (by decide)) (m_isChord (d + 0) hK v2 z2 hk) ?_
  rintro _ _ ⟨rfl, rfl⟩
  rw [← z1]
  by_cases h1 : 0 ≤ k ∧ k < A 19 0
  · rw [if_pos h1] at hu ⊢
    refine gr_if_ne 10 dX5_takes_5 (by decide) (by unfold gw_in; omega) (fun h5 => ?_) (fun h5 => ?_)
    · obtain ⟨c, rfl⟩ : ∃ c : Nat, k = (c : Int) := ⟨k.toNat, by omega⟩
      rw [Int.toNat_natCast] at hu
      obtain ⟨A1, hu1, hu2⟩ := hu
      obtain ⟨hD1, e19, e20⟩ := gm_rem_A hC hC' hD hu1
      obtain ⟨s, hs⟩ : ∃ s : Nat, A 19 0 = (s : Int) + 1 := ⟨(A 19 0 - 1).toNat, by omega⟩
      refine gr_aload_n dX5_takes_10 rfl ?_
      refine gr_virt dX5_takes_11 kX5_137 (as := []) rfl rfl (by first | assumption | rfl) (by omega) (Nat.le_of_ble_eq_true rfl) (gw_Rm_m (by omega) (by decide) (by decide)) (m_remembers (d + 1) hC hC' hK hR hD hu1) ?_
      rintro _ _ ⟨rfl, J1, rfl, hJ1, hR1⟩
      have j0 : J1 101 0 = (s : Int) + 1 := by rw [hJ1 101 (by omega) (by omega), v2]; omega
      have loop : ∀ (m e : Nat) (J2 : Nat → Nat → Int), e + m = 4 * s + 1 → 4 * c + 1 ≤ e → (∀ a b, J2 a b = if a = 101 ∧ b = 0 then (s : Int) else if a = 101 ∧ 4 * c + 1 ≤ b ∧ b < e then J1 101 (b + 4) else J1 a b) → gw_G (gw_Cm jX5_takes (d + 2) Q) jX5_takes 30 [some (.inr (some 99)), some (.inl (c : Int)), some (.inl (e : Int))] [] (114, J2, F') 0 0 := by
        intro m
        induction m with
        | zero =>
          intro e J2 he hce hJ2
          have y0 : J2 101 0 = (s : Int) := by rw [hJ2, if_pos (by omega)]
          refine gr_iload_n dX5_takes_30 rfl ?_
          refine gr_iconst dX5_takes_31 ?_
          refine gr_iconst dX5_takes_32 ?_
          refine gr_aload_n dX5_takes_33 rfl ?_
          refine gr_getR dX5_takes_34 fX5_13 (by first | assumption | rfl) (by omega) (by decide) rfl (by assumption) ?_
          refine gr_iconst dX5_takes_37 ?_
          refine gr_iald (i := 0) dX5_takes_38 (by first | assumption | rfl) (by omega) (by omega) (by omega) (by decide) ?_
          rw [y0]
          refine gr_imul dX5_takes_39 rfl ?_
          refine gr_iadd dX5_takes_40 rfl ?_
          refine gr_icmp_ge 64 dX5_takes_41 (by decide) (by unfold gw_in; omega) (by unfold gw_in; omega) (fun h41 => ?_) (fun h41 => ?_)
          · refine gr_aload_n dX5_takes_64 rfl ?_
            refine gr_getR dX5_takes_65 fX5_13 (by first | assumption | rfl) (by omega) (by decide) rfl (by assumption) ?_
            refine gr_iconst dX5_takes_68 ?_
            refine gr_iald (i := 0) dX5_takes_69 (by first | assumption | rfl) (by omega) (by omega) (by omega) (by decide) ?_
            rw [y0]
            have hJo : ∀ a, a ≠ 101 → J2 a = J1 a := fun a h => funext fun b => by rw [hJ2, if_neg (by omega), if_neg (by omega)]
            have hQQ := gm_take_Q (c := c) (A1 := A1) (A' := A') (J1 := J1) (J' := J2) (by rw [e19]; omega) (by rw [e19]; omega) hu2 (fun b => by
              rw [hJ2, e19, hs]
              by_cases hb0 : b = 0
              · rw [if_pos ⟨rfl, hb0⟩, if_pos hb0]; omega
              · rw [if_neg (fun h => hb0 h.2), if_neg hb0]
                by_cases hb1 : 4 * c + 1 ≤ b ∧ b < e
                · rw [if_pos ⟨rfl, hb1⟩, if_pos (by omega)]
                · rw [if_neg (fun h => hb1 h.2), if_neg (by omega)]) hR1.2.1
            have hRR : gm_R A' pp' J2 := gm_R_now (A := A1) (J := J1) hC' hD1 (fun a h2 h3 => funext fun b => by rw [hu2, if_neg (by omega), if_neg (by omega)]) hJo hQQ hR1
            refine gr_iret dX5_takes_70 (by first | exact Or.inl rfl | exact Or.inr ⟨rfl, by omega⟩) (by decide) (by decide) ((hQ ▸ ⟨_, _, rfl, rfl, by rw [if_pos h1]; omega, fun a ha => by rw [hJo a (by omega), hJ1 a (by omega) (by omega)], hRR⟩))
          · omega
        | succ m ih =>
          intro e J2 he hce hJ2
          have y0 : J2 101 0 = (s : Int) := by rw [hJ2, if_pos (by omega)]
          refine gr_iload_n dX5_takes_30 rfl ?_
          refine gr_iconst dX5_takes_31 ?_
          refine gr_iconst dX5_takes_32 ?_
          refine gr_aload_n dX5_takes_33 rfl ?_
          refine gr_getR dX5_takes_34 fX5_13 (by first | assumption | rfl) (by omega) (by decide) rfl (by assumption) ?_
          refine gr_iconst dX5_takes_37 ?_
          refine gr_iald (i := 0) dX5_takes_38 (by first | assumption | rfl) (by omega) (by omega) (by omega) (by decide) ?_
          rw [y0]
          refine gr_imul dX5_takes_39 rfl ?_
          refine gr_iadd dX5_takes_40 rfl ?_
          refine gr_icmp_ge 64 dX5_takes_41 (by decide) (by unfold gw_in; omega) (by unfold gw_in; omega) (fun h41 => ?_) (fun h41 => ?_)
          · omega
          · refine gr_aload_n dX5_takes_44 rfl ?_
            refine gr_getR dX5_takes_45 fX5_13 (by first | assumption | rfl) (by omega) (by decide) rfl (by assumption) ?_
            refine gr_iload_n dX5_takes_48 rfl ?_
            refine gr_aload_n dX5_takes_49 rfl ?_
            refine gr_getR dX5_takes_50 fX5_13 (by first | assumption | rfl) (by omega) (by decide) rfl (by assumption) ?_
            refine gr_iload_n dX5_takes_53 rfl ?_
            refine gr_iconst dX5_takes_54 ?_
            refine gr_iadd (v := ((e + 4 : Nat) : Int)) dX5_takes_55 (by omega) ?_
            refine gr_iald (i := e + 4) dX5_takes_56 (by first | assumption | rfl) (by omega) (by omega) (by omega) (by decide) ?_
            rw [show J2 101 (e + 4) = J1 101 (e + 4) by rw [hJ2, if_neg (by omega), if_neg (by omega)]]
            refine gr_iast (i := e) dX5_takes_57 (by first | assumption | rfl) (by omega) (by omega) (by omega) (by decide) ?_
            refine gr_iinc (v := ((e + 1 : Nat) : Int)) dX5_takes_58 (by decide) rfl (by omega) ?_
            refine gr_goto 30 dX5_takes_61 (by decide) ?_
            exact ih (e + 1) _ (by omega) (by omega) (fun a b => by
              unfold gw_U
              by_cases h : a = 101 ∧ b = e
              · rw [if_pos h, if_neg (by omega), if_pos (by omega), h.2]
              · rw [if_neg h, hJ2]
                by_cases h0 : a = 101 ∧ b = 0
                · rw [if_pos h0, if_pos h0]
                · rw [if_neg h0, if_neg h0]
                  by_cases h' : a = 101 ∧ 4 * c + 1 ≤ b ∧ b < e
                  · rw [if_pos h', if_pos (by omega)]
                  · rw [if_neg h', if_neg (by omega)])
      refine gr_aload_n dX5_takes_14 rfl ?_
      refine gr_getR dX5_takes_15 fX5_13 (by first | assumption | rfl) (by omega) (by decide) rfl (by assumption) ?_
      refine gr_iconst dX5_takes_18 ?_
      refine gr_dup2 dX5_takes_19 ?_
      refine gr_iald (i := 0) dX5_takes_20 (by first | assumption | rfl) (by omega) (by omega) (by omega) (by decide) ?_
      rw [j0]
      refine gr_iconst dX5_takes_21 ?_
      refine gr_isub (v := (s : Int)) dX5_takes_22 (by omega) ?_
      refine gr_iast (i := 0) dX5_takes_23 (by first | assumption | rfl) (by omega) (by omega) (by omega) (by decide) ?_
      refine gr_iconst dX5_takes_24 ?_
      refine gr_iconst dX5_takes_25 ?_
      refine gr_iload_n dX5_takes_26 rfl ?_
      refine gr_imul dX5_takes_27 rfl ?_
      refine gr_iadd (v := ((4 * c + 1 : Nat) : Int)) dX5_takes_28 (by omega) ?_
      refine gr_istore_n dX5_takes_29 (by decide) ?_
      exact loop (4 * s - 4 * c) (4 * c + 1) _ (by omega) (by omega) (fun a b => by
        unfold gw_U
        by_cases h0 : a = 101 ∧ b = 0
        · rw [if_pos h0, if_pos h0]
        · rw [if_neg h0, if_neg h0, if_neg (by omega)])
    · omega
  · rw [if_neg h1] at hu ⊢
    refine gr_if_ne 10 dX5_takes_5 (by decide) (by unfold gw_in; omega) (fun h5 => ?_) (fun h5 => ?_)
    · omega
    · refine gr_iconst dX5_takes_8 ?_
      refine gr_iret dX5_takes_9 (by first | exact Or.inl rfl | exact Or.inr ⟨rfl, by omega⟩) (by decide) (by decide) ((hQ ▸ ⟨_, _, rfl, rfl, by rw [if_neg h1], fun _ _ => rfl, by rw [hu.1, hu.2]; exact hR⟩))
/-- who is in, rest, balance: one of them changes -/
theorem gm_Q_u {A1 J1 : Nat → Nat → Int} {i : Nat} {v : Int} (hi : 1 ≤ i ∧ i ≤ 3) (h8 : A1 19 0 ≤ 8) (hQ : gm_Q A1 J1 19 101 0) : gm_Q (gw_U A1 19 i v) (gw_U J1 101 (32 + i) v) 19 101 0 := by
  obtain ⟨q1, q2, q3, q4, q5⟩ := hQ
  have ha : ∀ b, gw_U A1 19 i v 19 b = if b = i then v else A1 19 b := fun b => by
    by_cases h : b = i
    · rw [if_pos h, h, gw_U_s]
    · rw [if_neg h, gw_U_n (by omega)]
  have hj : ∀ b, gw_U J1 101 (32 + i) v 101 b = if b = 32 + i then v else J1 101 b := fun b => by
    by_cases h : b = 32 + i
    · rw [if_pos h, h, gw_U_s]
    · rw [if_neg h, gw_U_n (by omega)]
  have ha' : gw_U A1 19 i v (19 + 1) = A1 (19 + 1) := gw_U_r (by omega)
  refine ⟨by rw [hj, ha, if_neg (by omega), if_neg (by omega)]; exact q1, ?_, ?_, ?_, fun c hc => ?_⟩
  · rw [hj, ha]
    by_cases h : i = 1
    · rw [if_pos (by omega), if_pos (by omega)]
    · rw [if_neg (by omega), if_neg (by omega)]; exact q2
  · rw [hj, ha]
    by_cases h : i = 2
    · rw [if_pos (by omega), if_pos (by omega)]
    · rw [if_neg (by omega), if_neg (by omega)]; exact q3
  · rw [hj, ha]
    by_cases h : i = 3
    · rw [if_pos (by omega), if_pos (by omega)]
    · rw [if_neg (by omega), if_neg (by omega)]; exact q4
  · rw [ha, if_neg (by omega)] at hc
    obtain ⟨a, b⟩ := q5 c hc
    have := gp_cnt_le (A1 (19 + 1)) c
    rw [ha']
    exact ⟨by rw [hj, if_neg (by omega)]; exact a, fun i hi => by rw [hj, if_neg (by omega)]; exact b i hi⟩
theorem m_calls {F' : Nat → Nat → Option Nat} {p : Int} (d : Nat) (hC : gc_K F pp) (hC' : gc_K F' pp') (hK : gm_K F') (hR : gm_R A pp J) (hD : gc_D A P n pp) (hp : gw_in p) (hu : gu_calls A A' P pp pp' p) : gw_Met jX5_calls (d + 2) [.inr (some 99), .inl p] (114, J, F') (gw_io F' (fun r J' => r = ga_calls A P p ∧ gm_fr J J' ∧ gm_R A' pp' J')) := by
  obtain ⟨g1, g2, g4, g5, g6, g8, g9, g11, g12, g14, g18, g19, g20, g21⟩ := id hK
  obtain ⟨hV, hS, h33, hset, h35, hbal⟩ := gm_R_V hR hD
  obtain ⟨v0, v1, v2, v3, v4⟩ := id hV
  have hP4 := hS.1
  have w1 := hD.2.1.1.1
  generalize hQ : gw_io F' (fun r J' => r = ga_calls A P p ∧ gm_fr J J' ∧ gm_R A' pp' J') = Q
  unfold gu_calls at hu
  refine gw_enter okX5_calls rfl (Nat.le_of_ble_eq_true rfl) ?_
  refine gr_aload_n dX5_calls_0 rfl ?_
  refine gr_iload_n dX5_calls_1 rfl ?_
  refine gr_virt dX5_calls_2 kX5_114 (as := [_]) rfl rfl (by first | assumption | rfl) (by omega) (Nat.le_of_ble_eq_true rfl) (gw_Rm_m (by omega) (by decide) (by decide)) (m_isPlayer (d + 0) v0 hP4 hp) ?_
  rintro _ _ ⟨rfl, rfl⟩
  by_cases h1 : 0 ≤ p ∧ p < (P : Int)
  · rw [if_pos h1] at hu ⊢
    refine gr_if_ne 10 dX5_calls_5 (by decide) (by unfold gw_in; omega) (fun h5 => ?_) (fun h5 => ?_)
    · obtain ⟨c, rfl⟩ : ∃ c : Nat, p = (c : Int) := ⟨p.toNat, by omega⟩
      rw [Int.toNat_natCast] at hu
      obtain ⟨A1, hu1, hu2⟩ := hu
      obtain ⟨hD1, e19, e20⟩ := gm_rem_A hC hC' hD hu1
      generalize hm : (A 19 1).toNat = m at *
      have hx := gc_xor (m := m) (q := c) (by omega) (by omega)
      refine gr_aload_n dX5_calls_10 rfl ?_
      refine gr_virt dX5_calls_11 kX5_137 (as := []) rfl rfl (by first | assumption | rfl) (by omega) (Nat.le_of_ble_eq_true rfl) (gw_Rm_m (by omega) (by decide) (by decide)) (m_remembers (d + 1) hC hC' hK hR hD hu1) ?_
      rintro _ _ ⟨rfl, J1, rfl, hJ1, hR1⟩
      have j0 : J1 101 33 = (m : Int) := by rw [hJ1 101 (by omega) (by omega), h33]
      refine gr_aload_n dX5_calls_14 rfl ?_
      refine gr_getR dX5_calls_15 fX5_13 (by first | assumption | rfl) (by omega) (by decide) rfl (by assumption) ?_
      refine gr_bipush dX5_calls_18 (by decide) ?_
      refine gr_dup2 dX5_calls_20 ?_
      refine gr_iald (i := 33) dX5_calls_21 (by first | assumption | rfl) (by omega) (by omega) (by omega) (by decide) ?_
      rw [j0]
      refine gr_iconst dX5_calls_22 ?_
      refine gr_iload_n dX5_calls_23 rfl ?_
      refine gr_ishl (v := ((2 ^ c : Nat) : Int)) dX5_calls_24 (by have h := ga_shlN (a := 1) (y := c) (by omega) (by rcases (show c = 0 ∨ c = 1 ∨ c = 2 ∨ c = 3 by omega) with h | h | h | h <;> rw [h] <;> decide); rw [Nat.one_mul] at h; exact h) ?_
      refine gr_ixor (v := ((m ^^^ 2 ^ c : Nat) : Int)) dX5_calls_25 (ga_xorN _ _) ?_
      refine gr_iast (i := 33) dX5_calls_26 (by first | assumption | rfl) (by omega) (by omega) (by omega) (by decide) ?_
      refine gr_aload_n dX5_calls_27 rfl ?_
      refine gr_iload_n dX5_calls_28 rfl ?_
      refine gr_virt dX5_calls_29 kX5_117 (as := [_]) rfl rfl (by first | assumption | rfl) (by omega) (Nat.le_of_ble_eq_true rfl) (gw_Rm_m (by omega) (by decide) (by decide)) (m_isIn (p := c) (m := m ^^^ 2 ^ c) (d + 1) hK gw_U_s hx (by omega)) ?_
      rintro _ _ ⟨rfl, rfl⟩
      have hRR : gm_R A' pp' (gw_U J1 101 33 ((m ^^^ 2 ^ c : Nat) : Int)) := by
        rw [hu2]
        exact gm_R_now hC' hD1 (fun a h1 h2 => gw_U_r h1) (fun a h => gw_U_r h) (gm_Q_u (i := 1) (by omega) (by rw [e19]; omega) hR1.2.1) hR1
      have hfr : gm_fr J (gw_U J1 101 33 ((m ^^^ 2 ^ c : Nat) : Int)) := fun a ha => by rw [gw_U_r (by omega), hJ1 a (by omega) (by omega)]
      have ea : ga_calls A P (c : Int) = (((m ^^^ 2 ^ c) / 2 ^ c % 2 : Nat) : Int) := by
        unfold ga_calls
        rw [if_pos h1, Int.toNat_natCast, hm]
      by_cases h2 : (m ^^^ 2 ^ c) / 2 ^ c % 2 = 1
      · rw [if_pos h2]
        refine gr_if_eq 39 dX5_calls_32 (by decide) (by unfold gw_in; omega) (fun h32 => ?_) (fun h32 => ?_)
        · omega
        · refine gr_iconst dX5_calls_35 ?_
          refine gr_goto 40 dX5_calls_36 (by decide) ?_
          refine gr_iret dX5_calls_40 (by first | exact Or.inl rfl | exact Or.inr ⟨rfl, by omega⟩) (by decide) (by decide) ((hQ ▸ ⟨_, _, rfl, rfl, by rw [ea, h2]; rfl, hfr, hRR⟩))
      · rw [if_neg h2]
        refine gr_if_eq 39 dX5_calls_32 (by decide) (by unfold gw_in; omega) (fun h32 => ?_) (fun h32 => ?_)
        · refine gr_iconst dX5_calls_39 ?_
          refine gr_iret dX5_calls_40 (by first | exact Or.inl rfl | exact Or.inr ⟨rfl, by omega⟩) (by decide) (by decide) ((hQ ▸ ⟨_, _, rfl, rfl, by rw [ea]; omega, hfr, hRR⟩))
        · omega
    · omega
  · rw [if_neg h1] at hu ⊢
    refine gr_if_ne 10 dX5_calls_5 (by decide) (by unfold gw_in; omega) (fun h5 => ?_) (fun h5 => ?_)
    · omega
    · refine gr_iconst dX5_calls_8 ?_
      refine gr_iret dX5_calls_9 (by first | exact Or.inl rfl | exact Or.inr ⟨rfl, by omega⟩) (by decide) (by decide) ((hQ ▸ ⟨_, _, rfl, rfl, by unfold ga_calls; rw [if_neg h1], fun _ _ => rfl, by rw [hu.1, hu.2]; exact hR⟩))
theorem m_tells {F' : Nat → Nat → Option Nat} {x y : Int} (d : Nat) (hC : gc_K F pp) (hC' : gc_K F' pp') (hK : gm_K F') (hR : gm_R A pp J) (hD : gc_D A P n pp) (hx : gw_in x) (hy : gw_in y) (hu : gu_tells A A' pp pp' x y) : gw_Met jX5_tells (d + 2) [.inr (some 99), .inl x, .inl y] (114, J, F') (gw_io F' (fun r J' => r = ga_tells A x y ∧ gm_fr J J' ∧ gm_R A' pp' J')) := by
  obtain ⟨g1, g2, g4, g5, g6, g8, g9, g11, g12, g14, g18, g19, g20, g21⟩ := id hK
  obtain ⟨hV, hS, h33, hset, h35, hbal⟩ := gm_R_V hR hD
  obtain ⟨v0, v1, v2, v3, v4⟩ := id hV
  obtain ⟨w1, w2, w3, w4, w5⟩ := hD.2.1.1
  generalize hQ : gw_io F' (fun r J' => r = ga_tells A x y ∧ gm_fr J J' ∧ gm_R A' pp' J') = Q
  unfold gu_tells at hu
  have no : ∀ r : Int, ¬ gc_tells A x y → r = ga_tells A x y → Q (some (.inl r)) (114, J, F') := by
    intro r h1 h2
    rw [if_neg h1] at hu
    rw [← hQ]
    exact ⟨_, _, rfl, rfl, h2, fun _ _ => rfl, by rw [hu.1, hu.2]; exact hR⟩
  have bad : ∀ hb : ¬ ((0 ≤ x ∧ x ≤ 20) ∧ 0 ≤ y ∧ y ≤ 30), gw_G (gw_Cm jX5_tells (d + 2) Q) jX5_tells 20 [some (.inr (some 99)), some (.inl x), some (.inl y)] [] (114, J, F') 0 0 := by
    intro hb
    refine gr_iconst dX5_tells_20 ?_
    refine gr_iret dX5_tells_21 (by first | exact Or.inl rfl | exact Or.inr ⟨rfl, by omega⟩) (by decide) (by decide) (no _ (fun h => hb h.1) (by unfold ga_tells; rw [if_neg hb]))
  have go : ((0 ≤ x ∧ x ≤ 20) ∧ 0 ≤ y ∧ y ≤ 30) → ¬ (x = A 19 2 ∧ y = A 19 3) → gw_G (gw_Cm jX5_tells (d + 2) Q) jX5_tells 47 [some (.inr (some 99)), some (.inl x), some (.inl y)] [] (114, J, F') 0 0 := by
    intro hb hne
    rw [if_pos ⟨hb, hne⟩] at hu
    obtain ⟨A1, hu1, hu2⟩ := hu
    obtain ⟨hD1, e19, e20⟩ := gm_rem_A hC hC' hD hu1
    refine gr_aload_n dX5_tells_47 rfl ?_
    refine gr_virt dX5_tells_48 kX5_137 (as := []) rfl rfl (by first | assumption | rfl) (by omega) (Nat.le_of_ble_eq_true rfl) (gw_Rm_m (by omega) (by decide) (by decide)) (m_remembers (d + 1) hC hC' hK hR hD hu1) ?_
    rintro _ _ ⟨rfl, J1, rfl, hJ1, hR1⟩
    refine gr_aload_n dX5_tells_51 rfl ?_
    refine gr_getR dX5_tells_52 fX5_13 (by first | assumption | rfl) (by omega) (by decide) rfl (by assumption) ?_
    refine gr_bipush dX5_tells_55 (by decide) ?_
    refine gr_iload_n dX5_tells_57 rfl ?_
    refine gr_iast (i := 34) dX5_tells_58 (by first | assumption | rfl) (by omega) (by omega) (by omega) (by decide) ?_
    refine gr_aload_n dX5_tells_59 rfl ?_
    refine gr_getR dX5_tells_60 fX5_13 (by first | assumption | rfl) (by omega) (by decide) rfl (by assumption) ?_
    refine gr_bipush dX5_tells_63 (by decide) ?_
    refine gr_iload_n dX5_tells_65 rfl ?_
    refine gr_iast (i := 35) dX5_tells_66 (by first | assumption | rfl) (by omega) (by omega) (by omega) (by decide) ?_
    refine gr_iconst dX5_tells_67 ?_
    have hRR : gm_R A' pp' (gw_U (gw_U J1 101 34 x) 101 35 y) := by
      rw [hu2]
      exact gm_R_now (A := A1) (J := J1) hC' hD1 (fun a h1 h2 => (gw_U_r h1).trans (gw_U_r h1)) (fun a h => (gw_U_r h).trans (gw_U_r h)) (gm_Q_u (i := 3) (by omega) (by rw [gw_U_n (by omega), e19]; omega) (gm_Q_u (i := 2) (by omega) (by rw [e19]; omega) hR1.2.1)) hR1
    refine gr_iret dX5_tells_68 (by first | exact Or.inl rfl | exact Or.inr ⟨rfl, by omega⟩) (by decide) (by decide) ((hQ ▸ ⟨_, _, rfl, rfl, by unfold ga_tells; rw [if_pos hb, if_neg hne], fun a ha => by rw [gw_U_r (by omega), gw_U_r (by omega), hJ1 a (by omega) (by omega)], hRR⟩))
  refine gw_enter okX5_tells rfl (Nat.le_of_ble_eq_true rfl) ?_
  refine gr_iload_n dX5_tells_0 rfl ?_
  refine gr_iconst dX5_tells_1 ?_
  refine gr_bipush dX5_tells_2 (by decide) ?_
  refine gr_stat dX5_tells_4 kX5_72 (as := [_, _, _]) rfl rfl (Nat.le_of_ble_eq_true rfl) (gw_Rm_m (by omega) (by decide) (by decide)) (m_in (d + 1) hx (by unfold gw_in; omega) (by unfold gw_in; omega)) ?_
  rintro _ _ ⟨rfl, rfl⟩
  have hx' := hx
  have hy' := hy
  unfold gw_in at hx' hy'
  by_cases h1 : 0 ≤ x ∧ x ≤ 20
  · rw [if_pos h1]
    refine gr_if_eq 20 dX5_tells_7 (by decide) (by unfold gw_in; omega) (fun h7 => ?_) (fun h7 => ?_)
    · omega
    · refine gr_iload_n dX5_tells_10 rfl ?_
      refine gr_iconst dX5_tells_11 ?_
      refine gr_bipush dX5_tells_12 (by decide) ?_
      refine gr_stat dX5_tells_14 kX5_72 (as := [_, _, _]) rfl rfl (Nat.le_of_ble_eq_true rfl) (gw_Rm_m (by omega) (by decide) (by decide)) (m_in (d + 1) hy (by unfold gw_in; omega) (by unfold gw_in; omega)) ?_
      rintro _ _ ⟨rfl, rfl⟩
      by_cases h2 : 0 ≤ y ∧ y ≤ 30
      · rw [if_pos h2]
        refine gr_if_ne 22 dX5_tells_17 (by decide) (by unfold gw_in; omega) (fun h17 => ?_) (fun h17 => ?_)
        · refine gr_aload_n dX5_tells_22 rfl ?_
          refine gr_getR dX5_tells_23 fX5_13 (by first | assumption | rfl) (by omega) (by decide) rfl (by assumption) ?_
          refine gr_bipush dX5_tells_26 (by decide) ?_
          refine gr_iald (i := 34) dX5_tells_28 (by first | assumption | rfl) (by omega) (by omega) (by omega) (by decide) ?_
          rw [v4]
          refine gr_iload_n dX5_tells_29 rfl ?_
          refine gr_icmp_ne 47 dX5_tells_30 (by decide) (by unfold gw_in; omega) (by unfold gw_in; omega) (fun h30 => ?_) (fun h30 => ?_)
          · exact go ⟨h1, h2⟩ (fun h => h30 h.1.symm)
          · refine gr_aload_n dX5_tells_33 rfl ?_
            refine gr_getR dX5_tells_34 fX5_13 (by first | assumption | rfl) (by omega) (by decide) rfl (by assumption) ?_
            refine gr_bipush dX5_tells_37 (by decide) ?_
            refine gr_iald (i := 35) dX5_tells_39 (by first | assumption | rfl) (by omega) (by omega) (by omega) (by decide) ?_
            rw [h35]
            refine gr_iload_n dX5_tells_40 rfl ?_
            refine gr_icmp_ne 47 dX5_tells_41 (by decide) (by unfold gw_in; omega) (by unfold gw_in; omega) (fun h41 => ?_) (fun h41 => ?_)
            · exact go ⟨h1, h2⟩ (fun h => h41 h.2.symm)
            · refine gr_bipush dX5_tells_44 (by decide) ?_
              refine gr_iret dX5_tells_46 (by first | exact Or.inl rfl | exact Or.inr ⟨rfl, by omega⟩) (by decide) (by decide) (no _ (fun h => h.2 ⟨h30.symm, h41.symm⟩) (by unfold ga_tells; rw [if_pos ⟨h1, h2⟩, if_pos ⟨h30.symm, h41.symm⟩]))
        · omega
      · rw [if_neg h2]
        refine gr_if_ne 22 dX5_tells_17 (by decide) (by unfold gw_in; omega) (fun h17 => ?_) (fun h17 => ?_)
        · omega
        · exact bad (fun h => h2 h.2)
  · rw [if_neg h1]
    refine gr_if_eq 20 dX5_tells_7 (by decide) (by unfold gw_in; omega) (fun h7 => ?_) (fun h7 => ?_)
    · exact bad (fun h => h1 h.1)
    · omega
end GM
