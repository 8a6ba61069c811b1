/-! THE REFERENCE reads the text: band -/
section GM
variable {A A' J : Nat → Nat → Int} {F : Nat → Nat → Option Nat} {P n : Nat} {pp : Nat → Nat}
theorem gm_R_J2 {J' : Nat → Nat → Int} (h : ∀ a, 99 < a → a < 110 → a ≠ 107 → a ≠ 108 → J' a = J a) (h99 : J' 99 0 = J 99 0 ∧ J' 99 3 = J 99 3 ∧ J' 99 7 = J 99 7 ∧ J' 99 13 = J 99 13) (hR : gm_R A pp J) : gm_R A pp J' := by
  obtain ⟨⟨r1, r2⟩, r3, ⟨r4, r5⟩, r6, ⟨r7, r8⟩, r9, r10⟩ := hR
  obtain ⟨z1, z2, z3, z4⟩ := h99
  refine ⟨⟨by rw [z1]; exact r1, by rw [h 100 (by omega) (by omega) (by omega) (by omega)]; exact r2⟩, gm_Q_J (h 101 (by omega) (by omega) (by omega) (by omega)) r3, ⟨by rw [z2]; exact r4, fun j hj => gm_Q_J (h 102 (by omega) (by omega) (by omega) (by omega)) (r5 j hj)⟩, fun i hi => ⟨by rw [h 103 (by omega) (by omega) (by omega) (by omega)]; exact (r6 i hi).1, fun q => gm_Q_J (h 104 (by omega) (by omega) (by omega) (by omega)) ((r6 i hi).2 q)⟩, ⟨by rw [z3]; exact r7, by rw [h 105 (by omega) (by omega) (by omega) (by omega), h 106 (by omega) (by omega) (by omega) (by omega)]; exact r8⟩, by rw [z4]; exact r9, by rw [h 109 (by omega) (by omega) (by omega) (by omega)]; exact r10⟩
theorem gm_R_pf {J' : Nat → Nat → Int} (h : gm_pf J J') (hR : gm_R A pp J) : gm_R A pp J' := gm_R_J2 (fun a h1 h2 h3 h4 => funext fun i => h a i (by omega) h3 h4) ⟨h 99 0 (by omega) (by omega) (by omega), h 99 3 (by omega) (by omega) (by omega), h 99 7 (by omega) (by omega) (by omega), h 99 13 (by omega) (by omega) (by omega)⟩ hR
theorem gm_T_c {J' : Nat → Nat → Int} {st : gt_S} (h : ∀ x y, ¬ (x = 99 ∧ (y = 15 ∨ y = 16)) → J' x y = J x y) (hT : gm_T J st) : gm_T J' st := by
  obtain ⟨s1, s2, s3, s4, s5, s6, s7⟩ := hT
  refine ⟨by rw [h 99 10 (by omega)]; exact s1, fun p hp r hr => by rw [h 107 _ (by omega)]; exact s2 p hp r hr, by rw [h 108 0 (by omega)]; exact s3, fun c hc => ?_, by rw [h 108 34 (by omega)]; exact s5, by rw [h 108 35 (by omega)]; exact s6, by rw [h 99 17 (by omega)]; exact s7⟩
  obtain ⟨u1, u2⟩ := s4 c hc
  exact ⟨by rw [h 108 _ (by omega)]; exact u1, fun i hi => by rw [h 108 _ (by omega)]; exact u2 i hi⟩
/-- both have taken over what was read -/
theorem gm_R_new {J4 J' : Nat → Nat → Int} {st : gt_S} (hT : gm_T J st) (hb : gm_b st) (hu : gu_new A' st) (hbc : gm_bc J J4 st.1) (h : ∀ x y, ¬ (x = 99 ∧ y = 13) → J' x y = J4 x y) (h13 : J' 99 13 = 0) : gm_R A' pp J' := by
  obtain ⟨s1, s2, s3, s4, s5, s6, s7⟩ := hT
  obtain ⟨u1, u2, u3, u4, u5, u6, u7, u8, u9, u10, u11, u12, -⟩ := hu
  obtain ⟨b1, b2, b3⟩ := hb
  have h101 : ∀ y, y < 36 → y ≠ 33 → J' 101 y = J 108 y := fun y h1 h2 => by rw [h _ _ (by omega), hbc, if_neg (by omega), if_neg (by omega), if_neg (by omega), if_neg (by omega), if_pos (by omega)]
  have h2P : ((2 ^ st.1 - 1 : Nat) : Int) = 2 ^ st.1 - 1 := by
    have : 1 ≤ 2 ^ st.1 := Nat.one_le_two_pow
    push_cast [this]
    rfl
  refine ⟨⟨?_, fun p hp r hr => ?_⟩, ⟨?_, ?_, ?_, ?_, fun c hc => ?_⟩, ⟨?_, fun j hj => ?_⟩, fun i hi => ?_, ⟨?_, fun j hj => ?_⟩, ?_, fun i hi => ?_⟩
  · rw [h _ _ (by omega), hbc, if_pos (by omega), u1]
  · rw [u1] at hp
    rw [h _ _ (by omega), hbc, if_neg (by omega), if_neg (by omega), if_pos (by omega), s2 p (by omega) r hr, show 14 + r = 13 + (r + 1) by omega, u2 (r + 1) p (by omega) (by omega) (by omega)]
  · rw [h101 0 (by omega) (by omega), u3]; exact s3
  · rw [h _ _ (by omega), hbc, if_neg (by omega), if_neg (by omega), if_neg (by omega), if_pos (by omega), u4, h2P]
  · rw [Nat.zero_add, h101 34 (by omega) (by omega), u5]; exact s5
  · rw [Nat.zero_add, h101 35 (by omega) (by omega), u6]; exact s6
  · rw [u3] at hc
    obtain ⟨v1, v2⟩ := s4 c (by omega)
    have hN : ∀ i, i < 3 → A' 20 (3 * c + i) = st.2.2.2.1 (3 * c + i) := fun i hi => u7 _ (by omega)
    have ecnt : gp_cnt (A' (19 + 1)) c = gp_cnt st.2.2.2.1 c := by
      show gp_cnt (A' 20) c = _
      unfold gp_cnt
      rw [hN 0 (by omega), hN 1 (by omega), hN 2 (by omega)]
    have hc3 := gp_cnt_le st.2.2.2.1 c
    rw [ecnt]
    simp only [Nat.zero_add]
    refine ⟨?_, fun i hi => ?_⟩
    · rw [h101 _ (by omega) (by omega)]; exact v1
    · show _ = A' 20 (3 * c + i)
      rw [h101 _ (by omega) (by omega), hN i (by omega)]; exact v2 i hi
  · rw [h _ _ (by omega), hbc, if_neg (by omega), if_pos (by omega), u8]
  · rw [u8] at hj; omega
  · have e72 : A' 72 i = 0 := by
      rcases (show i = 0 ∨ i = 1 by omega) with rfl | rfl
      · exact u10
      · exact u11
    refine ⟨by rw [h _ _ (by omega), hbc, if_neg (by omega), if_neg (by omega), if_neg (by omega), if_neg (by omega), if_neg (by omega), if_pos (by omega), e72], fun q => by omega⟩
  · rw [h _ _ (by omega), hbc, if_neg (by omega), if_pos (by omega), u9]
  · rw [u9] at hj; omega
  · rw [h13, u12]
  · rw [u12] at hi; omega
theorem gm_fr_pf {J' : Nat → Nat → Int} (h : gm_pf J J') : gm_fr J J' := fun a ha => funext fun i => h a i (by omega) (by omega) (by omega)
theorem gm_R_fr (hC : gc_K F pp) (hD : gc_D A P n pp) (h : gx_fr A A') (hR : gm_R A pp J) : gm_R A' pp J := by
  have e : ∀ a, a ≠ 1 → ¬ (2 ≤ a ∧ a ≤ 9) → a ≠ 11 → A' a = A a := fun a h1 h2 h3 => funext fun i => h a i (by omega) h2 h3
  exact gm_R_c hC hD (fun a _ _ => e a (by omega) (by omega) (by omega)) (by rw [e 0 (by omega) (by omega) (by omega)]) (by rw [e 0 (by omega) (by omega) (by omega)]) (fun a _ _ => e a (by omega) (by omega) (by omega)) (h 1 2 (by omega) (by omega) (by omega)) (e 10 (by omega) (by omega) (by omega)) hR
theorem m_band {r : Int} (d : Nat) (hC : gc_K F pp) (hK : gm_K F) (hR : gm_R A pp J) (hD : gc_D A P n pp) (hu : gu_band A A' n r) : gw_Met jX5_band (d + 4) [.inr (some 99)] (114, J, F) (gw_io F (fun r' J' => r' = r ∧ gm_fr J J' ∧ gm_R A' pp J')) := by
  obtain ⟨t1, t2, t3⟩ := hD.2.2.1.1
  have hT : gm_t J (A 10) n := ⟨by rw [hR.2.2.2.2.2.1]; exact t1, t2, fun i hi => ⟨hR.2.2.2.2.2.2 i (by omega), t3 i hi⟩⟩
  generalize hQ : gw_io F (fun r' J' => r' = r ∧ gm_fr J J' ∧ gm_R A' pp J') = Q
  obtain ⟨-, hu⟩ := hu
  -- a fault
  have bad : ∀ (J5 : Nat → Nat → Int) (f : Nat) (x1), gm_pf J J5 → J5 99 15 = (f : Int) → gt_band (A 10) n = .inl f → gw_G (gw_Cm jX5_band (d + 4) Q) jX5_band 40 [some (.inr (some 99)), x1] [] (114, J5, F) 0 0 := by
    intro J5 f x1 p5 z15 hb
    rw [hb] at hu
    simp only at hu
    refine gr_bipush dX5_band_40 (by decide) ?_
    refine gr_aload_n dX5_band_42 rfl ?_
    refine gr_getI dX5_band_43 fX5_79 (by first | assumption | rfl) (by omega) (by decide) rfl ?_
    rw [z15]
    refine gr_isub dX5_band_46 rfl ?_
    refine gr_iret dX5_band_47 (by first | exact Or.inl rfl | exact Or.inr ⟨rfl, by omega⟩) (by decide) (by decide) ((hQ ▸ ⟨_, _, rfl, rfl, hu.1.symm, gm_fr_pf p5, gm_R_fr hC hD hu.2 (gm_R_pf p5 hR)⟩))
  have key : ∀ (m p items : Nat) (st : gt_S) (J3 : Nat → Nat → Int), m + items = 200 → items ≤ p → p ≤ n → gm_pf J J3 → J3 99 15 = (p : Int) → gm_T J3 st → gm_b st → gt_band (A 10) n = gt_loop (A 10) n m p items st → gw_G (gw_Cm jX5_band (d + 4) Q) jX5_band 16 [some (.inr (some 99)), some (.inl (items : Int))] [] (114, J3, F) 0 0 := by
    intro m
    induction m with
    | zero => intro p items st J3 h1 h2 h3; omega
    | succ m ih =>
      intro p items st J3 hm hip hpn p3 z15 hT3 hb3 hbd
      have hsk := gt_sk_in (T := A 10) hpn
      unfold gt_loop at hbd
      refine gr_aload_n dX5_band_16 rfl ?_
      refine gr_virt dX5_band_17 kX5_82 (as := []) rfl rfl (by first | assumption | rfl) (by omega) (Nat.le_of_ble_eq_true rfl) (gw_Rm_m (by omega) (by decide) (by decide)) (m_here (a := p) (d + 3) hK (gm_pf_t p3 hT) z15 hpn) ?_
      rintro _ _ ⟨_, J4, rfl, rfl, rfl, hJ4⟩
      have o4 : ∀ x y, ¬ (x = 99 ∧ (y = 15 ∨ y = 16)) → J4 x y = J3 x y := fun x y h => by rw [hJ4, if_neg (by omega)]
      have p4 : gm_pf J J4 := fun x y h1 h2 h3 => by rw [o4 x y (by omega), p3 x y h1 h2 h3]
      have y15 : J4 99 15 = ((gt_sk (A 10) n p : Nat) : Int) := by rw [hJ4, if_pos (by omega)]
      have hT4 := gm_T_c o4 hT3
      by_cases hend : n ≤ gt_sk (A 10) n p
      · rw [if_pos hend] at hbd
        rw [hbd] at hu
        simp only at hu
        rw [if_neg (by omega)]
        refine gr_iconst dX5_band_20 ?_
        refine gr_icmp_eq 64 dX5_band_21 (by decide) (by unfold gw_in; omega) (by unfold gw_in; omega) (fun h21 => ?_) (fun h21 => ?_)
        · refine gr_aload_n dX5_band_64 rfl ?_
          refine gr_virt dX5_band_65 kX5_56 (as := []) rfl rfl (by first | assumption | rfl) (by omega) (Nat.le_of_ble_eq_true rfl) (gw_Rm_m (by omega) (by decide) (by decide)) (m_becomes (P := st.1) (d + 3) hK hT4.1 hb3.1) ?_
          rintro _ _ ⟨rfl, J5, rfl, hJ5⟩
          refine gr_aload_n dX5_band_68 rfl ?_
          refine gr_iconst dX5_band_69 ?_
          refine gr_putI dX5_band_70 fX5_76 (by first | assumption | rfl) (by omega) (Or.inl rfl) rfl ?_
          refine gr_iload_n dX5_band_73 rfl ?_
          have hfr : gm_fr J (gw_U J5 99 13 0) := fun a ha => by
            rw [gw_U_r (by omega)]
            exact funext fun i => by rw [hJ5, if_neg (by omega), if_neg (by omega), if_neg (by omega), if_neg (by omega), if_neg (by omega), if_neg (by omega)]; exact p4 a i (by omega) (by omega) (by omega)
          refine gr_iret dX5_band_74 (by first | exact Or.inl rfl | exact Or.inr ⟨rfl, by omega⟩) (by decide) (by decide) ((hQ ▸ ⟨_, _, rfl, rfl, hu.1.symm, hfr, gm_R_new hT4 hb3 hu.2.2 hJ5 (fun x y h => gw_U_n h) gw_U_s⟩))
        · omega
      · rw [if_neg hend] at hbd
        have hlt : gt_sk (A 10) n p < n := by omega
        have tt := t3 _ hlt
        rw [if_pos hlt]
        refine gr_iconst dX5_band_20 ?_
        refine gr_icmp_eq 64 dX5_band_21 (by decide) (by unfold gw_in; omega) (by unfold gw_in; omega) (fun h21 => ?_) (fun h21 => ?_)
        · omega
        · refine gr_aload_n dX5_band_24 rfl ?_
          refine gr_virt dX5_band_25 kX5_111 (as := []) rfl rfl (by first | assumption | rfl) (by omega) (Nat.le_of_ble_eq_true rfl) (gw_Rm_m (by omega) (by decide) (by decide)) (m_item (a := gt_sk (A 10) n p) (st := st) (d + 0) hK (gm_pf_t p4 hT) y15 hlt gt_sk_sk hT4 hb3) ?_
          rintro _ _ ⟨q, J5, rfl, rfl, h01, o5, hir⟩
          have p5 : gm_pf J J5 := fun x y h1 h2 h3 => by rw [o5 x y h1 h2 h3, p4 x y h1 h2 h3]
          rcases hir with ⟨rfl, f, hf, w15⟩ | ⟨rfl, e, st', he, w15, hen, hT5, hb5⟩
          · rw [hf] at hbd
            simp only at hbd
            refine gr_if_eq 40 dX5_band_28 (by decide) (by unfold gw_in; omega) (fun h28 => ?_) (fun h28 => ?_)
            · exact bad J5 f _ p5 w15 hbd
            · omega
          · rw [he] at hbd
            have hgt : ∀ e' s', gt_end (A 10) n e st' = .inr (e', s') → gt_sk (A 10) n p < e' := fun e' s' h => gt_item_gt (he.trans h) hlt
            unfold gt_end at hbd hgt
            have hske := gt_sk_in (T := A 10) hen
            refine gr_if_eq 40 dX5_band_28 (by decide) (by unfold gw_in; omega) (fun h28 => ?_) (fun h28 => ?_)
            · omega
            · refine gr_aload_n dX5_band_31 rfl ?_
              refine gr_virt dX5_band_32 kX5_82 (as := []) rfl rfl (by first | assumption | rfl) (by omega) (Nat.le_of_ble_eq_true rfl) (gw_Rm_m (by omega) (by decide) (by decide)) (m_here (a := e) (d + 3) hK (gm_pf_t p5 hT) w15 hen) ?_
              rintro _ _ ⟨_, J6, rfl, rfl, rfl, hJ6⟩
              have o6 : ∀ x y, ¬ (x = 99 ∧ (y = 15 ∨ y = 16)) → J6 x y = J5 x y := fun x y h => by rw [hJ6, if_neg (by omega)]
              have p6 : gm_pf J J6 := fun x y h1 h2 h3 => by rw [o6 x y (by omega), p5 x y h1 h2 h3]
              have v15 : J6 99 15 = ((gt_sk (A 10) n e : Nat) : Int) := by rw [hJ6, if_pos (by omega)]
              by_cases hs : gt_sk (A 10) n e < n ∧ A 10 (gt_sk (A 10) n e) = 59
              · rw [if_pos hs] at hbd hgt
                simp only at hbd
                have hg := hgt _ _ rfl
                rw [if_pos hs.1, hs.2]
                refine gr_bipush dX5_band_35 (by decide) ?_
                refine gr_icmp_eq 48 dX5_band_37 (by decide) (by unfold gw_in; omega) (by unfold gw_in; omega) (fun h37 => ?_) (fun h37 => ?_)
                · refine gr_aload_n dX5_band_48 rfl ?_
                  refine gr_dup dX5_band_49 ?_
                  refine gr_getI dX5_band_50 fX5_79 (by first | assumption | rfl) (by omega) (by decide) rfl ?_
                  rw [v15]
                  refine gr_iconst dX5_band_53 ?_
                  refine gr_iadd (v := ((gt_sk (A 10) n e + 1 : Nat) : Int)) dX5_band_54 (by omega) ?_
                  refine gr_putI dX5_band_55 fX5_79 (by first | assumption | rfl) (by omega) (Or.inl rfl) rfl ?_
                  refine gr_iinc (v := ((items + 1 : Nat) : Int)) dX5_band_58 (by decide) rfl (by omega) ?_
                  refine gr_goto 16 dX5_band_61 (by decide) ?_
                  exact ih (gt_sk (A 10) n e + 1) (items + 1) st' _ (by omega) (by omega) (by omega) (fun x y h1 h2 h3 => by rw [gw_U_n (by omega), p6 x y h1 h2 h3]) gw_U_s (gm_T_c (fun x y h => by rw [gw_U_n (by omega), o6 x y h]) hT5) hb5 hbd
                · omega
              · rw [if_neg hs] at hbd
                simp only at hbd
                generalize hc : (if gt_sk (A 10) n e < n then A 10 (gt_sk (A 10) n e) else -1) = c
                have hcin : (-1 ≤ c ∧ c ≤ 255) ∧ c ≠ 59 := by
                  rw [← hc]
                  by_cases h : gt_sk (A 10) n e < n
                  · rw [if_pos h]
                    have := t3 _ h
                    omega
                  · rw [if_neg h]; omega
                refine gr_bipush dX5_band_35 (by decide) ?_
                refine gr_icmp_eq 48 dX5_band_37 (by decide) (by unfold gw_in; omega) (by unfold gw_in; omega) (fun h37 => ?_) (fun h37 => ?_)
                · omega
                · exact bad J6 _ _ p6 v15 hbd
  refine gw_enter okX5_band rfl (Nat.le_of_ble_eq_true rfl) ?_
  refine gr_aload_n dX5_band_0 rfl ?_
  refine gr_virt dX5_band_1 kX5_53 (as := []) rfl rfl (by first | assumption | rfl) (by omega) (Nat.le_of_ble_eq_true rfl) (gw_Rm_m (by omega) (by decide) (by decide)) (m_begins (d + 3) hK) ?_
  rintro _ _ ⟨rfl, J1, rfl, hJ1⟩
  refine gr_aload_n dX5_band_4 rfl ?_
  refine gr_iconst dX5_band_5 ?_
  refine gr_putI dX5_band_6 fX5_96 (by first | assumption | rfl) (by omega) (Or.inr ⟨rfl, Or.inl rfl⟩) rfl ?_
  refine gr_aload_n dX5_band_9 rfl ?_
  refine gr_iconst dX5_band_10 ?_
  refine gr_putI dX5_band_11 fX5_79 (by first | assumption | rfl) (by omega) (Or.inl rfl) rfl ?_
  refine gr_iconst dX5_band_14 ?_
  refine gr_istore_n dX5_band_15 (by decide) ?_
  have o1 : ∀ x y, ¬ (x = 99 ∧ (y = 10 ∨ y = 15 ∨ y = 17)) → x ≠ 108 → gw_U (gw_U J1 99 17 0) 99 15 0 x y = J x y := fun x y h h2 => by rw [gw_U_n (by omega), gw_U_n (by omega), hJ1, if_neg (by omega), if_neg (by omega)]
  have o8 : ∀ y, y < 36 → gw_U (gw_U J1 99 17 0) 99 15 0 108 y = if y = 34 then 5 else if y = 35 then 9 else 0 := fun y h => by rw [gw_U_n (by omega), gw_U_n (by omega), hJ1, if_neg (by omega), if_pos (by omega)]
  exact key 200 0 0 gt_S0 _ (by omega) (by omega) (by omega) (fun x y h1 h2 h3 => o1 x y (by omega) h3) gw_U_s ⟨by rw [gw_U_n (by omega), gw_U_n (by omega), hJ1, if_pos (by omega)]; rfl, fun p hp => absurd hp (by simp [gt_S0]), by rw [o8 0 (by omega)]; rfl, fun c hc => absurd hc (by simp [gt_S0]), by rw [o8 34 (by omega)]; rfl, by rw [o8 35 (by omega)]; rfl, by rw [gw_U_n (by omega), gw_U_s]; rfl⟩ ⟨by decide, by decide, fun p hp => absurd hp (by simp [gt_S0])⟩ rfl
end GM
