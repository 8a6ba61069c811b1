/-! THE REFERENCE: spreads -/
section GM
variable {J : Nat → Nat → Int} {F : Nat → Nat → Option Nat} {P S : Nat} {B : Nat → Nat → Int} {N : Nat → Int} {rest : Int}
theorem m_isEven {c k : Nat} {bal : Int} (d : Nat) (hK : gm_K F) (hV : gm_V J P B N S rest) (hS : gm_S P B N S rest) (hc : c < S) (hk : k < 4096) (hb : 0 ≤ bal ∧ bal ≤ 30) : gw_Met jX5_isEven (d + 2) [.inr (some 99), .inl (c : Int), .inl (k : Int), .inl bal] (114, J, F) (gw_pu (if gm_ev P B (gp_cnt N c) bal k = true then 1 else 0) (114, J, F)) := by
  obtain ⟨g1, g2, g4, g5, g6, g8, g9, g11, g12, g14, g18, g19, g20, g21⟩ := id hK
  obtain ⟨v0, v1, v2, v3, v4⟩ := id hV
  obtain ⟨s1, s2, s3, s4, s5, s6, s7, s8⟩ := id hS
  have hcnt := gp_cnt_le N c
  have hc1 := s6 c hc
  have h8 := gm_2p hcnt
  have hpw := Nat.two_pow_pos (gp_cnt N c)
  have ec := (v3 c hc).1
  have h36 := fun i => gs_lw_in (k := k) (i := i) (w := 4) s3 P s1
  have hpl8 : ∀ p, gm_pl k p < 8 := fun p => gm_pl_lt (n := 3) p (fun q _ => gs_hd_lt k q)
  have hsh : Int32.ofInt 1 <<< (Int32.ofInt (gp_cnt N c : Int) &&& 31) = Int32.ofInt ((2 ^ gp_cnt N c : Nat) : Int) := by
    have h := ga_shlN (a := 1) (y := gp_cnt N c) (by omega) (by omega)
    rw [Nat.one_mul] at h
    exact h
  generalize hQ : gw_pu (if gm_ev P B (gp_cnt N c) bal k = true then 1 else 0) (114, J, F) = Q
  unfold gm_ev at hQ
  simp only [decide_eq_true_eq] at hQ
  generalize hT : 2 ^ gp_cnt N c = T at h8 hpw hsh hQ
  have cnt1 : ∀ (x : Nat), x = gp_cnt N c → x ≤ 3 ∧ 1 ≤ x := fun x h => by omega
  refine gw_enter okX5_isEven rfl (Nat.le_of_ble_eq_true rfl) ?_
  refine gr_iconst dX5_isEven_0 ?_
  refine gr_istore dX5_isEven_1 (by decide) ?_
  refine gr_iconst dX5_isEven_3 ?_
  refine gr_istore dX5_isEven_4 (by decide) ?_
  have key1 : ∀ (m p : Nat) (x6 x7 x8 : Option gw_V), p + m = P → gw_G (gw_Cm jX5_isEven (d + 2) Q) jX5_isEven 6 [some (.inr (some 99)), some (.inl (c : Int)), some (.inl (k : Int)), some (.inl bal), some (.inl ((gm_pl k p : Nat) : Int)), some (.inl (p : Int)), x6, x7, x8] [] (114, J, F) 0 0 := by
    intro m
    induction m with
    | zero =>
      intro p x6 x7 x8 hp
      have hp : p = P := by omega
      subst hp
      have hp8 := hpl8 p
      refine gr_iload dX5_isEven_6 rfl ?_
      refine gr_aload_n dX5_isEven_8 rfl ?_
      refine gr_getI dX5_isEven_9 fX5_63 (by first | assumption | rfl) (by omega) (by decide) rfl ?_
      rw [v0]
      refine gr_icmp_ge 32 dX5_isEven_12 (by decide) (by unfold gw_in; omega) (by unfold gw_in; omega) (fun h12 => ?_) (fun h12 => ?_)
      · refine gr_iload dX5_isEven_32 rfl ?_
        refine gr_iconst dX5_isEven_34 ?_
        refine gr_aload_n dX5_isEven_35 rfl ?_
        refine gr_iload_n dX5_isEven_36 rfl ?_
        refine gr_virt dX5_isEven_37 kX5_127 (as := [_]) rfl rfl (by first | assumption | rfl) (by omega) (Nat.le_of_ble_eq_true rfl) (gw_Rm_m (by omega) (by decide) (by decide)) (m_notes (c := c) (d + 1) hK (by omega)) ?_
        rintro _ _ ⟨rfl, rfl⟩
        rw [ec]
        refine gr_ishl (v := ((T : Nat) : Int)) dX5_isEven_40 hsh ?_
        refine gr_iconst dX5_isEven_41 ?_
        refine gr_isub dX5_isEven_42 rfl ?_
        refine gr_icmp_eq 48 dX5_isEven_43 (by decide) (by unfold gw_in; omega) (by unfold gw_in; omega) (fun h43 => ?_) (fun h43 => ?_)
        · refine gr_ldc dX5_isEven_48 nX5_155 ?_
          refine gr_istore dX5_isEven_50 (by decide) ?_
          refine gr_iconst dX5_isEven_52 ?_
          refine gr_istore dX5_isEven_53 (by decide) ?_
          refine gr_iconst dX5_isEven_55 ?_
          refine gr_istore dX5_isEven_56 (by decide) ?_
          have key2 : ∀ (m i : Nat) (x8 : Option gw_V), i + m = gp_cnt N c → gw_G (gw_Cm jX5_isEven (d + 2) Q) jX5_isEven 58 [some (.inr (some 99)), some (.inl (c : Int)), some (.inl (k : Int)), some (.inl bal), some (.inl ((gm_pl k p : Nat) : Int)), some (.inl (gm_mi (fun i => gs_lw B k i 4 p) i)), some (.inl (gs_mx (fun i => gs_lw B k i 4 p) i)), some (.inl (i : Int)), x8] [] (114, J, F) 0 0 := by
            intro m
            induction m with
            | zero =>
              intro i x8 hi
              have hm := (gm_mi_e (l := fun i => gs_lw B k i 4 p) (n := i) (fun i _ => by have := (h36 i).2; omega)).resolve_left (by omega)
              have hm0 := (gs_mi_0 (l := fun i => gs_lw B k i 4 p) (n := i) (fun i _ => (h36 i).1)).2
              have hx := gs_mx_in (l := fun i => gs_lw B k i 4 p) (n := i) (m := 36) (fun i _ => by have := h36 i; omega)
              rw [← hm.2] at hm0
              refine gr_iload dX5_isEven_58 rfl ?_
              refine gr_aload_n dX5_isEven_60 rfl ?_
              refine gr_iload_n dX5_isEven_61 rfl ?_
              refine gr_virt dX5_isEven_62 kX5_127 (as := [_]) rfl rfl (by first | assumption | rfl) (by omega) (Nat.le_of_ble_eq_true rfl) (gw_Rm_m (by omega) (by decide) (by decide)) (m_notes (c := c) (d + 1) hK (by omega)) ?_
              rintro _ _ ⟨rfl, rfl⟩
              rw [ec]
              refine gr_icmp_ge 115 dX5_isEven_65 (by decide) (by unfold gw_in; omega) (by unfold gw_in; omega) (fun h65 => ?_) (fun h65 => ?_)
              · refine gr_iload dX5_isEven_115 rfl ?_
                refine gr_iload dX5_isEven_117 rfl ?_
                refine gr_isub dX5_isEven_119 rfl ?_
                refine gr_iload_n dX5_isEven_120 rfl ?_
                refine gr_icmp_gt 128 dX5_isEven_121 (by decide) (by unfold gw_in; omega) (by unfold gw_in; omega) (fun h121 => ?_) (fun h121 => ?_)
                · refine gr_iconst dX5_isEven_128 ?_
                  refine gr_iret dX5_isEven_129 (by first | exact Or.inl rfl | exact Or.inr ⟨rfl, by omega⟩) (by decide) (by decide) ((hQ ▸ ⟨by rw [if_neg (fun h => by have := h.2; rw [show gp_cnt N c = i by omega] at this; omega)], rfl⟩))
                · refine gr_iconst dX5_isEven_124 ?_
                  refine gr_goto 129 dX5_isEven_125 (by decide) ?_
                  refine gr_iret dX5_isEven_129 (by first | exact Or.inl rfl | exact Or.inr ⟨rfl, by omega⟩) (by decide) (by decide) ((hQ ▸ ⟨by rw [if_pos ⟨by omega, by rw [show gp_cnt N c = i by omega]; omega⟩], rfl⟩))
              · omega
            | succ m ih =>
              intro i x8 hi
              have hmi : 0 ≤ gm_mi (fun i => gs_lw B k i 4 p) i ∧ gm_mi (fun i => gs_lw B k i 4 p) i ≤ 1000000 := by
                rcases gm_mi_e (l := fun i => gs_lw B k i 4 p) (n := i) (fun i _ => by have := (h36 i).2; omega) with h | h
                · subst h; show 0 ≤ (1000000 : Int) ∧ (1000000 : Int) ≤ 1000000; omega
                · have := (gs_mi_0 (l := fun i => gs_lw B k i 4 p) (n := i) (fun i _ => (h36 i).1)).2
                  omega
              have hx := gs_mx_in (l := fun i => gs_lw B k i 4 p) (n := i) (m := 36) (fun i _ => by have := h36 i; omega)
              have h6 := h36 i
              have nxt := fun x8 => ih (i + 1) x8 (by omega)
              simp only [gm_mi, gs_mx] at nxt
              refine gr_iload dX5_isEven_58 rfl ?_
              refine gr_aload_n dX5_isEven_60 rfl ?_
              refine gr_iload_n dX5_isEven_61 rfl ?_
              refine gr_virt dX5_isEven_62 kX5_127 (as := [_]) rfl rfl (by first | assumption | rfl) (by omega) (Nat.le_of_ble_eq_true rfl) (gw_Rm_m (by omega) (by decide) (by decide)) (m_notes (c := c) (d + 1) hK (by omega)) ?_
              rintro _ _ ⟨rfl, rfl⟩
              rw [ec]
              refine gr_icmp_ge 115 dX5_isEven_65 (by decide) (by unfold gw_in; omega) (by unfold gw_in; omega) (fun h65 => ?_) (fun h65 => ?_)
              · omega
              · refine gr_aload_n dX5_isEven_68 rfl ?_
                refine gr_iload_n dX5_isEven_69 rfl ?_
                refine gr_iload dX5_isEven_70 rfl ?_
                refine gr_virt dX5_isEven_72 kX5_156 (as := [_, _]) rfl rfl (by first | assumption | rfl) (by omega) (Nat.le_of_ble_eq_true rfl) (gw_Rm_m (by omega) (by decide) (by decide)) (m_loudOf (k := k) (i := i) d hK hV hS hk (by omega)) ?_
                rintro _ _ ⟨rfl, rfl⟩
                refine gr_istore dX5_isEven_75 (by decide) ?_
                refine gr_iload dX5_isEven_77 rfl ?_
                refine gr_iload dX5_isEven_79 rfl ?_
                refine gr_icmp_ge 89 dX5_isEven_81 (by decide) (by unfold gw_in; omega) (by unfold gw_in; omega) (fun h81 => ?_) (fun h81 => ?_)
                · rw [if_neg (by omega)] at nxt
                  refine gr_iload dX5_isEven_89 rfl ?_
                  refine gr_istore dX5_isEven_91 (by decide) ?_
                  refine gr_iload dX5_isEven_93 rfl ?_
                  refine gr_iload dX5_isEven_95 rfl ?_
                  refine gr_icmp_le 105 dX5_isEven_97 (by decide) (by unfold gw_in; omega) (by unfold gw_in; omega) (fun h97 => ?_) (fun h97 => ?_)
                  · rw [if_neg (by omega)] at nxt
                    refine gr_iload dX5_isEven_105 rfl ?_
                    refine gr_istore dX5_isEven_107 (by decide) ?_
                    refine gr_iinc (v := ((i + 1 : Nat) : Int)) dX5_isEven_109 (by decide) rfl (by omega) ?_
                    refine gr_goto 58 dX5_isEven_112 (by decide) ?_
                    exact nxt _
                  · rw [if_pos (by omega)] at nxt
                    refine gr_iload dX5_isEven_100 rfl ?_
                    refine gr_goto 107 dX5_isEven_102 (by decide) ?_
                    refine gr_istore dX5_isEven_107 (by decide) ?_
                    refine gr_iinc (v := ((i + 1 : Nat) : Int)) dX5_isEven_109 (by decide) rfl (by omega) ?_
                    refine gr_goto 58 dX5_isEven_112 (by decide) ?_
                    exact nxt _
                · rw [if_pos (by omega)] at nxt
                  refine gr_iload dX5_isEven_84 rfl ?_
                  refine gr_goto 91 dX5_isEven_86 (by decide) ?_
                  refine gr_istore dX5_isEven_91 (by decide) ?_
                  refine gr_iload dX5_isEven_93 rfl ?_
                  refine gr_iload dX5_isEven_95 rfl ?_
                  refine gr_icmp_le 105 dX5_isEven_97 (by decide) (by unfold gw_in; omega) (by unfold gw_in; omega) (fun h97 => ?_) (fun h97 => ?_)
                  · rw [if_neg (by omega)] at nxt
                    refine gr_iload dX5_isEven_105 rfl ?_
                    refine gr_istore dX5_isEven_107 (by decide) ?_
                    refine gr_iinc (v := ((i + 1 : Nat) : Int)) dX5_isEven_109 (by decide) rfl (by omega) ?_
                    refine gr_goto 58 dX5_isEven_112 (by decide) ?_
                    exact nxt _
                  · rw [if_pos (by omega)] at nxt
                    refine gr_iload dX5_isEven_100 rfl ?_
                    refine gr_goto 107 dX5_isEven_102 (by decide) ?_
                    refine gr_istore dX5_isEven_107 (by decide) ?_
                    refine gr_iinc (v := ((i + 1 : Nat) : Int)) dX5_isEven_109 (by decide) rfl (by omega) ?_
                    refine gr_goto 58 dX5_isEven_112 (by decide) ?_
                    exact nxt _
          exact key2 (gp_cnt N c) 0 _ (by omega)
        · refine gr_iconst dX5_isEven_46 ?_
          refine gr_iret dX5_isEven_47 (by first | exact Or.inl rfl | exact Or.inr ⟨rfl, by omega⟩) (by decide) (by decide) ((hQ ▸ ⟨by rw [if_neg (fun h => h43 (by have := h.1; omega))], rfl⟩))
      · omega
    | succ m ih =>
      intro p x6 x7 x8 hp
      refine gr_iload dX5_isEven_6 rfl ?_
      refine gr_aload_n dX5_isEven_8 rfl ?_
      refine gr_getI dX5_isEven_9 fX5_63 (by first | assumption | rfl) (by omega) (by decide) rfl ?_
      rw [v0]
      refine gr_icmp_ge 32 dX5_isEven_12 (by decide) (by unfold gw_in; omega) (by unfold gw_in; omega) (fun h12 => ?_) (fun h12 => ?_)
      · omega
      · refine gr_iload dX5_isEven_15 rfl ?_
        refine gr_iload_n dX5_isEven_17 rfl ?_
        refine gr_iload dX5_isEven_18 rfl ?_
        refine gr_stat dX5_isEven_20 kX5_152 (as := [_, _]) rfl rfl (Nat.le_of_ble_eq_true rfl) (gw_Rm_m (by omega) (by decide) (by decide)) (m_handOf (k := k) (p := p) (d + 1) hk (by omega)) ?_
        rintro _ _ ⟨rfl, rfl⟩
        refine gr_ior (v := ((gm_pl k (p + 1) : Nat) : Int)) dX5_isEven_23 (ga_orN _ _) ?_
        refine gr_istore dX5_isEven_24 (by decide) ?_
        refine gr_iinc (v := ((p + 1 : Nat) : Int)) dX5_isEven_26 (by decide) rfl (by omega) ?_
        refine gr_goto 6 dX5_isEven_29 (by decide) ?_
        exact ih (p + 1) _ _ _ (by omega)
  exact key1 P 0 _ _ _ (by omega)
theorem m_isSpread {c k set : Nat} {bal : Int} (d : Nat) (hK : gm_K F) (hV : gm_V J P B N S rest) (hS : gm_S P B N S rest) (hc : c < S) (hk : k < 4096) (hset : set < 16) (hb : 0 ≤ bal ∧ bal ≤ 30) : gw_Met jX5_isSpread (d + 3) [.inr (some 99), .inl (c : Int), .inl (k : Int), .inl (set : Int), .inl bal] (114, J, F) (gw_pu (if (gm_ok P B N set c k && gs_ev B (gp_cnt N c) bal k) = true then 1 else 0) (114, J, F)) := by
  obtain ⟨g1, g2, g4, g5, g6, g8, g9, g11, g12, g14, g18, g19, g20, g21⟩ := id hK
  obtain ⟨v0, v1, v2, v3, v4⟩ := id hV
  obtain ⟨s1, s2, s3, s4, s5, s6, s7, s8⟩ := id hS
  have hcnt := gp_cnt_le N c
  have h8 := gm_2p hcnt
  have ec := (v3 c hc).1
  generalize hQ : gw_pu (if (gm_ok P B N set c k && gs_ev B (gp_cnt N c) bal k) = true then 1 else 0) (114, J, F) = Q
  have gok : gm_ok P B N set c k = true ↔ ∀ p, p < 4 → gs_ok P B N set p c (gs_hd k p) = true := by
    unfold gm_ok
    simp only [Bool.and_eq_true]
    constructor
    · rintro ⟨⟨⟨a, b⟩, c⟩, d⟩ p hp
      rcases (show p = 0 ∨ p = 1 ∨ p = 2 ∨ p = 3 by omega) with rfl | rfl | rfl | rfl
      · exact a
      · exact b
      · exact c
      · exact d
    · intro h; exact ⟨⟨⟨h 0 (by omega), h 1 (by omega)⟩, h 2 (by omega)⟩, h 3 (by omega)⟩
  refine gw_enter okX5_isSpread rfl (Nat.le_of_ble_eq_true rfl) ?_
  refine gr_iconst dX5_isSpread_0 ?_
  refine gr_istore dX5_isSpread_1 (by decide) ?_
  have key : ∀ (m p : Nat) (x6 x7 : Option gw_V), p + m = 4 → (∀ q, q < p → gs_ok P B N set q c (gs_hd k q) = true) → gw_G (gw_Cm jX5_isSpread (d + 3) Q) jX5_isSpread 3 [some (.inr (some 99)), some (.inl (c : Int)), some (.inl (k : Int)), some (.inl (set : Int)), some (.inl bal), some (.inl (p : Int)), x6, x7] [] (114, J, F) 0 0 := by
    intro m
    induction m with
    | zero =>
      intro p x6 x7 hp hall
      have hp : p = 4 := by omega
      subst hp
      have hok := gok.mpr hall
      have hmem : k ∈ gs_SP P B N set c := by rw [gm_SP]; exact List.mem_filter.mpr ⟨List.mem_range.mpr hk, hok⟩
      obtain ⟨-, m2, m3⟩ := gm_mem hmem
      refine gr_iload dX5_isSpread_3 rfl ?_
      refine gr_iconst dX5_isSpread_5 ?_
      refine gr_icmp_ge 84 dX5_isSpread_6 (by decide) (by unfold gw_in; omega) (by unfold gw_in; omega) (fun h6 => ?_) (fun h6 => ?_)
      · refine gr_aload_n dX5_isSpread_84 rfl ?_
        refine gr_iload_n dX5_isSpread_85 rfl ?_
        refine gr_iload_n dX5_isSpread_86 rfl ?_
        refine gr_iload dX5_isSpread_87 rfl ?_
        refine gr_virt dX5_isSpread_89 kX5_159 (as := [_, _, _]) rfl rfl (by first | assumption | rfl) (by omega) (Nat.le_of_ble_eq_true rfl) (gw_Rm_m (by omega) (by decide) (by decide)) (m_isEven (c := c) (k := k) (d + 0) hK hV hS hc hk hb) ?_
        rintro _ _ ⟨rfl, rfl⟩
        rw [gm_ev_e s1 s3 s4 (s6 c hc) hb.2 hk m2 m3]
        refine gr_iret dX5_isSpread_92 (Or.inr ⟨rfl, by split <;> omega⟩) (by decide) (by decide) ?_
        rw [← hQ, hok, Bool.true_and]
        exact ⟨rfl, rfl⟩
      · omega
    | succ m ih =>
      intro p x6 x7 hp hall
      have hl := gs_hd_lt k p
      have hbit : set / 2 ^ p % 2 < 2 := Nat.mod_lt _ (by omega)
      have no : gs_ok P B N set p c (gs_hd k p) = false → ∀ x7, gw_G (gw_Cm jX5_isSpread (d + 3) Q) jX5_isSpread 68 [some (.inr (some 99)), some (.inl (c : Int)), some (.inl (k : Int)), some (.inl (set : Int)), some (.inl bal), some (.inl (p : Int)), some (.inl (gs_hd k p : Nat)), x7] [] (114, J, F) 0 0 := by
        intro hf x7
        have hno : gm_ok P B N set c k = false := by
          cases h : gm_ok P B N set c k with
          | false => rfl
          | true => have := gok.mp h p (by omega); rw [hf] at this; cases this
        refine gr_iconst dX5_isSpread_68 ?_
        refine gr_istore dX5_isSpread_69 (by decide) ?_
        refine gr_iload dX5_isSpread_71 rfl ?_
        refine gr_if_ne 78 dX5_isSpread_73 (by decide) (by unfold gw_in; omega) (fun h73 => ?_) (fun h73 => ?_)
        · omega
        · refine gr_iconst dX5_isSpread_76 ?_
          refine gr_iret dX5_isSpread_77 (by first | exact Or.inl rfl | exact Or.inr ⟨rfl, by omega⟩) (by decide) (by decide) ((hQ ▸ ⟨by rw [hno]; rfl, rfl⟩))
      have yes : gs_ok P B N set p c (gs_hd k p) = true → ∀ x7, gw_G (gw_Cm jX5_isSpread (d + 3) Q) jX5_isSpread 64 [some (.inr (some 99)), some (.inl (c : Int)), some (.inl (k : Int)), some (.inl (set : Int)), some (.inl bal), some (.inl (p : Int)), some (.inl (gs_hd k p : Nat)), x7] [] (114, J, F) 0 0 := by
        intro hf x7
        refine gr_iconst dX5_isSpread_64 ?_
        refine gr_goto 69 dX5_isSpread_65 (by decide) ?_
        refine gr_istore dX5_isSpread_69 (by decide) ?_
        refine gr_iload dX5_isSpread_71 rfl ?_
        refine gr_if_ne 78 dX5_isSpread_73 (by decide) (by unfold gw_in; omega) (fun h73 => ?_) (fun h73 => ?_)
        · refine gr_iinc (v := ((p + 1 : Nat) : Int)) dX5_isSpread_78 (by decide) rfl (by omega) ?_
          refine gr_goto 3 dX5_isSpread_81 (by decide) ?_
          refine ih (p + 1) _ _ (by omega) (fun q hq => ?_)
          by_cases h : q = p
          · subst h; exact hf
          · exact hall q (by omega)
        · omega
      refine gr_iload dX5_isSpread_3 rfl ?_
      refine gr_iconst dX5_isSpread_5 ?_
      refine gr_icmp_ge 84 dX5_isSpread_6 (by decide) (by unfold gw_in; omega) (by unfold gw_in; omega) (fun h6 => ?_) (fun h6 => ?_)
      · omega
      · refine gr_iload_n dX5_isSpread_9 rfl ?_
        refine gr_iload dX5_isSpread_10 rfl ?_
        refine gr_stat dX5_isSpread_12 kX5_152 (as := [_, _]) rfl rfl (Nat.le_of_ble_eq_true rfl) (gw_Rm_m (by omega) (by decide) (by decide)) (m_handOf (k := k) (p := p) (d + 2) hk (by omega)) ?_
        rintro _ _ ⟨rfl, rfl⟩
        refine gr_istore dX5_isSpread_15 (by decide) ?_
        refine gr_iload dX5_isSpread_17 rfl ?_
        refine gr_if_eq 64 dX5_isSpread_19 (by decide) (by unfold gw_in; omega) (fun h19 => ?_) (fun h19 => ?_)
        · exact yes (by unfold gs_ok; rw [show gs_hd k p = 0 by omega]; simp) _
        · refine gr_iload dX5_isSpread_22 rfl ?_
          refine gr_aload_n dX5_isSpread_24 rfl ?_
          refine gr_getI dX5_isSpread_25 fX5_63 (by first | assumption | rfl) (by omega) (by decide) rfl ?_
          rw [v0]
          refine gr_icmp_ge 68 dX5_isSpread_28 (by decide) (by unfold gw_in; omega) (by unfold gw_in; omega) (fun h28 => ?_) (fun h28 => ?_)
          · exact no (by unfold gs_ok; simp only [decide_eq_false_iff_not]; omega) _
          · refine gr_iload_n dX5_isSpread_31 rfl ?_
            refine gr_iload dX5_isSpread_32 rfl ?_
            refine gr_ishr (v := ((set / 2 ^ p : Nat) : Int)) dX5_isSpread_34 (ga_bit (by omega) (by omega)) ?_
            refine gr_iconst dX5_isSpread_35 ?_
            refine gr_iand (v := ((set / 2 ^ p % 2 : Nat) : Int)) dX5_isSpread_36 (ga_bit1 _) ?_
            refine gr_iconst dX5_isSpread_37 ?_
            refine gr_icmp_ne 68 dX5_isSpread_38 (by decide) (by unfold gw_in; omega) (by unfold gw_in; omega) (fun h38 => ?_) (fun h38 => ?_)
            · exact no (by unfold gs_ok; simp only [decide_eq_false_iff_not]; omega) _
            · refine gr_iload dX5_isSpread_41 rfl ?_
              refine gr_aload_n dX5_isSpread_43 rfl ?_
              refine gr_iload_n dX5_isSpread_44 rfl ?_
              refine gr_virt dX5_isSpread_45 kX5_127 (as := [_]) rfl rfl (by first | assumption | rfl) (by omega) (Nat.le_of_ble_eq_true rfl) (gw_Rm_m (by omega) (by decide) (by decide)) (m_notes (c := c) (d + 2) hK (by omega)) ?_
              rintro _ _ ⟨rfl, rfl⟩
              rw [ec]
              refine gr_ishr (v := ((gs_hd k p / 2 ^ gp_cnt N c : Nat) : Int)) dX5_isSpread_48 (ga_bit (by omega) (by omega)) ?_
              have hdl : gs_hd k p / 2 ^ gp_cnt N c ≤ gs_hd k p := Nat.div_le_self _ _
              have hdz : gs_hd k p / 2 ^ gp_cnt N c = 0 ↔ gs_hd k p < 2 ^ gp_cnt N c := Nat.div_eq_zero_iff_lt (Nat.two_pow_pos _)
              generalize hG : gs_hd k p / 2 ^ gp_cnt N c = G at hdl hdz
              refine gr_if_ne 68 dX5_isSpread_49 (by decide) (by unfold gw_in; omega) (fun h49 => ?_) (fun h49 => ?_)
              · exact no (by unfold gs_ok; simp only [decide_eq_false_iff_not]; rintro (h | h); omega; have := hdz.mpr h.2.2.1; omega) _
              · have hlt := hdz.mp (by omega)
                refine gr_aload_n dX5_isSpread_52 rfl ?_
                refine gr_iload dX5_isSpread_53 rfl ?_
                refine gr_iload_n dX5_isSpread_55 rfl ?_
                refine gr_iload dX5_isSpread_56 rfl ?_
                refine gr_virt dX5_isSpread_58 kX5_149 (as := [_, _, _]) rfl rfl (by first | assumption | rfl) (by omega) (Nat.le_of_ble_eq_true rfl) (gw_Rm_m (by omega) (by decide) (by decide)) (m_isHand (p := p) (c := c) (h := gs_hd k p) (d + 1) hK hV hS (by omega) hc hlt) ?_
                rintro _ _ ⟨rfl, rfl⟩
                by_cases hm : gb_man B 0 N p c (gs_hd k p) = true
                · rw [if_pos hm]
                  refine gr_if_eq 68 dX5_isSpread_61 (by decide) (by unfold gw_in; omega) (fun h61 => ?_) (fun h61 => ?_)
                  · omega
                  · exact yes (by unfold gs_ok; simp only [decide_eq_true_eq]; exact Or.inr ⟨by omega, by omega, hlt, hm⟩) _
                · rw [if_neg hm]
                  refine gr_if_eq 68 dX5_isSpread_61 (by decide) (by unfold gw_in; omega) (fun h61 => ?_) (fun h61 => ?_)
                  · exact no (by unfold gs_ok; simp only [decide_eq_false_iff_not]; rintro (h | h); omega; exact hm h.2.2.2) _
                  · omega
  exact key 4 0 _ _ (by omega) (fun q hq => absurd hq (by omega))
/-- the row of chord c holds the list -/
def gm_row (J : Nat → Nat → Int) (L : List Nat) (c : Nat) : Prop := J 111 c = (L.length : Int) ∧ ∀ j, j < L.length → J 110 (784 * c + j) = ((L.getD j 0 : Nat) : Int)
theorem gm_L_len {set : Nat} {bal : Int} {c : Nat} (hS : gm_S P B N S rest) : (gm_L P B N set bal c).length ≤ 784 := Nat.le_trans (List.length_filter_le _ _) (gs_SP_len hS.1 hS.2.2.2.2.2.2.1)
theorem m_laysSpreads {c set : Nat} {bal : Int} (d : Nat) (hK : gm_K F) (hV : gm_V J P B N S rest) (hS : gm_S P B N S rest) (hc : c < S) (hset : set < 16) (hb : 0 ≤ bal ∧ bal ≤ 30) : gw_Met jX5_laysSpreads (d + 4) [.inr (some 99), .inl (c : Int), .inl (set : Int), .inl bal] (114, J, F) (gw_vo F (fun J' => (∀ a i, ¬ (a = 111 ∧ i = c) → ¬ (a = 110 ∧ 784 * c ≤ i ∧ i < 784 * c + 784) → J' a i = J a i) ∧ gm_row J' (gm_L P B N set bal c) c)) := by
  obtain ⟨g1, g2, g4, g5, g6, g8, g9, g11, g12, g14, g18, g19, g20, g21⟩ := id hK
  obtain ⟨s1, s2, s3, s4, s5, s6, s7, s8⟩ := id hS
  have hlen := gm_L_len (set := set) (bal := bal) (c := c) hS
  generalize hQ : gw_vo F (fun J' => (∀ a i, ¬ (a = 111 ∧ i = c) → ¬ (a = 110 ∧ 784 * c ≤ i ∧ i < 784 * c + 784) → J' a i = J a i) ∧ gm_row J' (gm_L P B N set bal c) c) = Q
  rw [gm_L_f] at hlen hQ
  generalize hq : (fun k => gm_ok P B N set c k && gs_ev B (gp_cnt N c) bal k) = q at hlen hQ
  have mono : ∀ m k, k + m = 4096 → ((List.range k).filter q).length ≤ 784 := by
    intro m
    induction m with
    | zero => intro k hk; rw [show k = 4096 by omega]; exact hlen
    | succ m ih =>
      intro k hk
      have := ih (k + 1) (by omega)
      rw [List.range_succ, List.filter_append, List.length_append] at this
      omega
  refine gw_enter okX5_laysSpreads rfl (Nat.le_of_ble_eq_true rfl) ?_
  refine gr_aload_n dX5_laysSpreads_0 rfl ?_
  refine gr_getR dX5_laysSpreads_1 fX5_44 (by first | assumption | rfl) (by omega) (by decide) rfl (by assumption) ?_
  refine gr_iload_n dX5_laysSpreads_4 rfl ?_
  refine gr_iconst dX5_laysSpreads_5 ?_
  refine gr_iast (i := c) dX5_laysSpreads_6 (by first | assumption | rfl) (by omega) (by omega) (by omega) (by decide) ?_
  refine gr_iconst dX5_laysSpreads_7 ?_
  refine gr_istore dX5_laysSpreads_8 (by decide) ?_
  have key : ∀ (m k : Nat) (J1 : Nat → Nat → Int), k + m = 4096 → (∀ a i, ¬ (a = 111 ∧ i = c) → ¬ (a = 110 ∧ 784 * c ≤ i ∧ i < 784 * c + 784) → J1 a i = J a i) → gm_row J1 ((List.range k).filter q) c → gw_G (gw_Cm jX5_laysSpreads (d + 4) Q) jX5_laysSpreads 10 [some (.inr (some 99)), some (.inl (c : Int)), some (.inl (set : Int)), some (.inl bal), some (.inl (k : Int))] [] (114, J1, F) 0 0 := by
    intro m
    induction m with
    | zero =>
      intro k J1 hk hJ hr
      refine gr_iload dX5_laysSpreads_10 rfl ?_
      refine gr_sipush dX5_laysSpreads_12 (by decide) ?_
      refine gr_icmp_ge 65 dX5_laysSpreads_15 (by decide) (by unfold gw_in; omega) (by unfold gw_in; omega) (fun h15 => ?_) (fun h15 => ?_)
      · refine gr_vret dX5_laysSpreads_65 rfl (by decide) (by decide) ((hQ ▸ ⟨rfl, _, rfl, hJ, by rw [show 4096 = k by omega]; exact hr⟩))
      · omega
    | succ m ih =>
      intro k J1 hk hJ hr
      have hV1 : gm_V J1 P B N S rest := gm_V_c hV (hJ 99 0 (by omega) (by omega)) (funext fun i => hJ 100 i (by omega) (by omega)) (funext fun i => hJ 101 i (by omega) (by omega))
      have hm := mono m (k + 1) (by omega)
      have el : (List.range (k + 1)).filter q = (List.range k).filter q ++ (if q k = true then [k] else []) := by
        rw [List.range_succ, List.filter_append]
        congr 1
        cases hz : q k <;> simp [List.filter, hz]
      rw [el] at hm
      refine gr_iload dX5_laysSpreads_10 rfl ?_
      refine gr_sipush dX5_laysSpreads_12 (by decide) ?_
      refine gr_icmp_ge 65 dX5_laysSpreads_15 (by decide) (by unfold gw_in; omega) (by unfold gw_in; omega) (fun h15 => ?_) (fun h15 => ?_)
      · omega
      · refine gr_aload_n dX5_laysSpreads_18 rfl ?_
        refine gr_iload_n dX5_laysSpreads_19 rfl ?_
        refine gr_iload dX5_laysSpreads_20 rfl ?_
        refine gr_iload_n dX5_laysSpreads_22 rfl ?_
        refine gr_iload_n dX5_laysSpreads_23 rfl ?_
        refine gr_virt dX5_laysSpreads_24 kX5_162 (as := [_, _, _, _]) rfl rfl (by first | assumption | rfl) (by omega) (Nat.le_of_ble_eq_true rfl) (gw_Rm_m (by omega) (by decide) (by decide)) (m_isSpread (c := c) (k := k) (set := set) (bal := bal) (d + 0) hK hV1 hS hc (by omega) hset hb) ?_
        rintro _ _ ⟨rfl, rfl⟩
        rw [show (gm_ok P B N set c k && gs_ev B (gp_cnt N c) bal k) = q k by rw [← hq]]
        cases hqk : q k with
        | false =>
          rw [hqk, if_neg (by decide), List.append_nil] at el
          rw [if_neg (by decide)]
          refine gr_if_eq 59 dX5_laysSpreads_27 (by decide) (by unfold gw_in; omega) (fun h27 => ?_) (fun h27 => ?_)
          · refine gr_iinc (v := ((k + 1 : Nat) : Int)) dX5_laysSpreads_59 (by decide) rfl (by omega) ?_
            refine gr_goto 10 dX5_laysSpreads_62 (by decide) ?_
            exact ih (k + 1) J1 (by omega) hJ (by rw [el]; exact hr)
          · omega
        | true =>
          rw [hqk, if_pos rfl] at el hm
          rw [List.length_append, List.length_singleton] at hm
          rw [if_pos rfl]
          generalize hl : ((List.range k).filter q) = l at hr el hm
          obtain ⟨r1, r2⟩ := hr
          refine gr_if_eq 59 dX5_laysSpreads_27 (by decide) (by unfold gw_in; omega) (fun h27 => ?_) (fun h27 => ?_)
          · omega
          · refine gr_aload_n dX5_laysSpreads_30 rfl ?_
            refine gr_getR dX5_laysSpreads_31 fX5_41 (by first | assumption | rfl) (by omega) (by decide) rfl (by assumption) ?_
            refine gr_sipush dX5_laysSpreads_34 (by decide) ?_
            refine gr_iload_n dX5_laysSpreads_37 rfl ?_
            refine gr_imul dX5_laysSpreads_38 rfl ?_
            refine gr_aload_n dX5_laysSpreads_39 rfl ?_
            refine gr_getR dX5_laysSpreads_40 fX5_44 (by first | assumption | rfl) (by omega) (by decide) rfl (by assumption) ?_
            refine gr_iload_n dX5_laysSpreads_43 rfl ?_
            refine gr_iald (i := c) dX5_laysSpreads_44 (by first | assumption | rfl) (by omega) (by omega) (by omega) (by decide) ?_
            rw [r1]
            refine gr_iadd dX5_laysSpreads_45 rfl ?_
            refine gr_iload dX5_laysSpreads_46 rfl ?_
            refine gr_iast (i := 784 * c + l.length) dX5_laysSpreads_48 (by first | assumption | rfl) (by omega) (by omega) (by omega) (by decide) ?_
            refine gr_aload_n dX5_laysSpreads_49 rfl ?_
            refine gr_getR dX5_laysSpreads_50 fX5_44 (by first | assumption | rfl) (by omega) (by decide) rfl (by assumption) ?_
            refine gr_iload_n dX5_laysSpreads_53 rfl ?_
            refine gr_dup2 dX5_laysSpreads_54 ?_
            refine gr_iald (i := c) dX5_laysSpreads_55 (by first | assumption | rfl) (by omega) (by omega) (by omega) (by decide) ?_
            rw [show gw_U J1 110 (784 * c + l.length) (k : Int) 111 c = (l.length : Int) from (gw_U_n (by omega)).trans r1]
            refine gr_iconst dX5_laysSpreads_56 ?_
            refine gr_iadd (v := ((l.length + 1 : Nat) : Int)) dX5_laysSpreads_57 (by omega) ?_
            refine gr_iast (i := c) dX5_laysSpreads_58 (by first | assumption | rfl) (by omega) (by omega) (by omega) (by decide) ?_
            refine gr_iinc (v := ((k + 1 : Nat) : Int)) dX5_laysSpreads_59 (by decide) rfl (by omega) ?_
            refine gr_goto 10 dX5_laysSpreads_62 (by decide) ?_
            refine ih (k + 1) _ (by omega) (fun a i h1 h2 => ?_) ?_
            · rw [gw_U_n h1, gw_U_n (by omega)]; exact hJ a i h1 h2
            · rw [el]
              refine ⟨by rw [gw_U_s, List.length_append]; rfl, fun j hj => ?_⟩
              rw [List.length_append, List.length_singleton] at hj
              rw [gw_U_n (by omega)]
              by_cases hjl : j = l.length
              · subst hjl
                rw [gw_U_s, List.getD_eq_getElem?_getD, List.getElem?_append_right (Nat.le_refl _), Nat.sub_self]
                rfl
              · rw [gw_U_n (by omega), r2 j (by omega), List.getD_eq_getElem?_getD, List.getD_eq_getElem?_getD, List.getElem?_append_left (by omega)]
  exact key 4096 0 _ (by omega) (fun a i h1 _ => gw_U_n h1) ⟨gw_U_s, fun j hj => absurd hj (by simp)⟩
end GM
