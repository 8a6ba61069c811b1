/-! THE REFERENCE beside the class: couldRest, reach, fewest, bear, ill -/
/-- a code without one hand -/
def gs_wo (k p : Nat) : Nat := k - gs_hd k p * 8 ^ (3 - p)
theorem gs_wo_hd {k p q : Nat} (hk : k < 4096) (hp : p < 4) (hq : q < 4) : gs_hd (gs_wo k p) q = (if q = p then 0 else gs_hd k q) ∧ gs_wo k p < 4096 ∧ (gs_wo k p = k ↔ gs_hd k p = 0) := by
  have c : (p = 0 ∨ p = 1 ∨ p = 2 ∨ p = 3) ∧ (q = 0 ∨ q = 1 ∨ q = 2 ∨ q = 3) := by omega
  unfold gs_wo gs_hd
  rcases c with ⟨rfl | rfl | rfl | rfl, rfl | rfl | rfl | rfl⟩ <;> simp <;> omega
theorem ga_wo {k p : Nat} (hk : k < 4096) (hp : p < 4) : Int32.ofInt (k : Int) &&& (Int32.ofInt ((7 * 2 ^ (3 * (3 - p)) : Nat) : Int) ^^^ Int32.ofInt (-1)) = Int32.ofInt ((gs_wo k p : Nat) : Int) := by
  have h : ∀ a : Nat, a < 64 → ∀ b : Nat, b < 64 → ∀ p : Nat, p < 4 → Int32.ofInt ((64 * a + b : Nat) : Int) &&& (Int32.ofInt ((7 * 2 ^ (3 * (3 - p)) : Nat) : Int) ^^^ Int32.ofInt (-1)) = Int32.ofInt ((gs_wo (64 * a + b) p : Nat) : Int) := by decide +kernel
  have := h (k / 64) (by omega) (k % 64) (by omega) p hp
  rwa [show 64 * (k / 64) + k % 64 = k by omega] at this
theorem gs_wo_lw {B : Nat → Nat → Int} {k p i : Nat} (hk : k < 4096) (hp : p < 4) : ∀ q, q ≤ 4 → gs_lw B (gs_wo k p) i 4 q = gs_lw B k i p q
  | 0, _ => rfl
  | q + 1, hq => by
    simp only [gs_lw]
    rw [gs_wo_lw hk hp q (by omega), (gs_wo_hd hk hp (show q < 4 by omega)).1]
    by_cases h : q = p
    · rw [if_pos h, if_neg (fun hh => by have := hh.2; simp at this), if_neg (fun hh => hh.1 h)]
    · rw [if_neg h]
      have e : (q ≠ 4 ∧ gs_hd k q / 2 ^ i % 2 = 1) ↔ (q ≠ p ∧ gs_hd k q / 2 ^ i % 2 = 1) := ⟨fun hh => ⟨h, hh.2⟩, fun hh => ⟨by omega, hh.2⟩⟩
      simp only [e]
theorem gs_pay_dec {P : Nat} {B : Nat → Nat → Int} {N : Nat → Int} {rest : Int} {set : Nat} {bal : Int} (hN : gp_N N) (hr : 0 ≤ rest ∧ rest ≤ 20) : ∀ (m : Nat) {c k : Nat} {b : Int}, c + (m + 1) < 8 → gs_pay P B N rest set bal (m + 1) c k b = true → gs_pay P B N rest set bal m c k b = true
  | 0, c, k, b, hc, h => by
    have := gs_pay_nn P B N rest set bal hN hr hc h
    simp only [gs_pay, decide_eq_true_eq]; exact this
  | m + 1, c, k, b, hc, h => by
    obtain ⟨k', h1, h2, h3, h4⟩ := (gs_pay_s P B N rest set bal).mp h
    exact (gs_pay_s P B N rest set bal).mpr ⟨k', h1, h2, h3, gs_pay_dec hN hr m (by omega) h4⟩
theorem gs_fea_dec {P : Nat} {B : Nat → Nat → Int} {N : Nat → Int} {rest : Int} {set : Nat} {bal : Int} (hN : gp_N N) (hr : 0 ≤ rest ∧ rest ≤ 20) {m : Nat} (hm : m < 8) (h : gs_fea P B N rest set bal (m + 1) = true) : gs_fea P B N rest set bal m = true := by
  unfold gs_fea at h ⊢
  rw [decide_eq_true_eq] at h ⊢
  by_cases h0 : m = 0
  · exact Or.inl h0
  · rcases h with h | h
    · omega
    · refine Or.inr ?_
      rw [List.any_eq_true] at h ⊢
      obtain ⟨k, q1, q2⟩ := h
      rw [Bool.and_eq_true] at q2
      refine ⟨k, q1, ?_⟩
      rw [Bool.and_eq_true]
      refine ⟨q2.1, ?_⟩
      have a := q2.2
      rw [show m + 1 - 1 = (m - 1) + 1 by omega] at a
      exact gs_pay_dec hN hr (m - 1) (by omega) a
theorem gs_up_eq {f : Nat → Bool} {n S : Nat} (hn : n ≤ S) (hd : ∀ k, k < n → f (k + 1) = true) (hs : n < S → f (n + 1) = false) : gs_up f S 0 = n := by
  have : ∀ m k, k + m = S → k ≤ n → gs_up f m k = n := by
    intro m
    induction m with
    | zero => intro k h1 h2; simp only [gs_up]; omega
    | succ m ih =>
      intro k h1 h2
      simp only [gs_up]
      by_cases h : k = n
      · subst h; rw [hs (by omega), if_neg (by decide)]
      · rw [hd k (by omega), if_pos rfl]; exact ih (k + 1) (by omega) (by omega)
  exact this S 0 (by omega) (by omega)
section GM
variable {A J : Nat → Nat → Int} {F : Nat → Nat → Option Nat} {P n : Nat} {pp : Nat → Nat}
theorem m_couldRest {x : Int} (d : Nat) (hK : gm_K F) (hR : gm_R A pp J) (hD : gc_D A P n pp) (hx : gw_in x) : gw_Met jX5_couldRest (d + 7) [.inr (some 99), .inl x] (114, J, F) (gw_io F (fun r J' => r = ga_rest P (gc_B A) (A 20) (A 19 2) (A 19 1).toNat (A 19 3) (A 19 0).toNat x ∧ gm_sa J J')) := by
  obtain ⟨g1, g2, g4, g5, g6, g8, g9, g11, g12, g14, g18, g19, g20, g21⟩ := id hK
  obtain ⟨hV, hS, h33, hset, h35, hbal⟩ := gm_R_V hR hD
  obtain ⟨z1, z2⟩ := gm_sz hD
  obtain ⟨s1, s2, s3, s4, s5, s6, s7, s8⟩ := id hS
  generalize hB : gc_B A = B at *
  generalize hSz : (A 19 0).toNat = S at *
  generalize hse : (A 19 1).toNat = set at *
  generalize hQ : gw_io F (fun r J' => r = ga_rest P B (A 20) (A 19 2) set (A 19 3) S x ∧ gm_sa J J') = Q
  refine gw_enter okX5_couldRest rfl (Nat.le_of_ble_eq_true rfl) ?_
  refine gr_aload_n dX5_couldRest_0 rfl ?_
  refine gr_iload_n dX5_couldRest_1 rfl ?_
  refine gr_virt dX5_couldRest_2 kX5_124 (as := [_]) rfl rfl (by first | assumption | rfl) (by omega) (Nat.le_of_ble_eq_true rfl) (gw_Rm_m (by omega) (by decide) (by decide)) (m_isChord (d + 5) hK hV.2.2.1 z2 hx) ?_
  rintro _ _ ⟨rfl, rfl⟩
  by_cases h1 : 0 ≤ x ∧ x < (S : Int)
  · rw [if_pos h1]
    obtain ⟨c, rfl⟩ : ∃ c : Nat, x = (c : Int) := ⟨x.toNat, by omega⟩
    refine gr_if_ne 10 dX5_couldRest_5 (by decide) (by unfold gw_in; omega) (fun h5 => ?_) (fun h5 => ?_)
    · refine gr_aload_n dX5_couldRest_10 rfl ?_
      refine gr_virt dX5_couldRest_11 kX5_186 (as := []) rfl rfl (by first | assumption | rfl) (by omega) (Nat.le_of_ble_eq_true rfl) (gw_Rm_m (by omega) (by decide) (by decide)) (m_laysFirst (set := set) (bal := A 19 3) (d + 0) hK hV hS hset hbal h33 h35) ?_
      rintro _ _ ⟨r, J1, rfl, rfl, hsa, hres⟩
      unfold ga_rest at hQ
      rw [if_pos h1, Int.toNat_natCast] at hQ
      have hV1 := gm_sa_V hsa hV
      have h35' : J1 101 35 = A 19 3 := by rw [gm_sa_e hsa (by omega) (by omega)]; exact h35
      obtain ⟨v0, v1, v2, v3, v4⟩ := id hV1
      cases hC : gs_cost P B (A 20) (A 19 2) set (A 19 3) S with
      | none =>
        rw [hC] at hQ hres
        simp only at hres
        subst hres
        refine gr_if_ne 20 dX5_couldRest_14 (by decide) (by unfold gw_in; omega) (fun h14 => ?_) (fun h14 => ?_)
        · omega
        · refine gr_bipush dX5_couldRest_17 (by decide) ?_
          refine gr_iret dX5_couldRest_19 (by first | exact Or.inl rfl | exact Or.inr ⟨rfl, by omega⟩) (by decide) (by decide) ((hQ ▸ ⟨_, _, rfl, rfl, rfl, hsa⟩))
      | some L =>
        rw [hC] at hQ hres
        dsimp only at hQ
        obtain ⟨rfl, h22, hk⟩ := hres
        obtain ⟨k1, k2, -⟩ := hk c (by omega)
        obtain ⟨m1, m2, m3⟩ := gm_mem k2
        generalize (gs_K P B (A 20) (A 19 2) set (A 19 3) S L c).1 = k at *
        generalize hq : gs_rq B (gp_cnt (A 20) c) (A 19 3) k = q at hQ
        refine gr_if_ne 20 dX5_couldRest_14 (by decide) (by unfold gw_in; omega) (fun h14 => ?_) (fun h14 => ?_)
        · refine gr_iconst dX5_couldRest_20 ?_
          refine gr_istore_n dX5_couldRest_21 (by decide) ?_
          refine gr_iconst dX5_couldRest_22 ?_
          refine gr_istore_n dX5_couldRest_23 (by decide) ?_
          have key : ∀ (m p : Nat) (x4 : Option gw_V), p + m = P → gw_G (gw_Cm jX5_couldRest (d + 7) Q) jX5_couldRest 24 [some (.inr (some 99)), some (.inl (c : Int)), some (.inl ((gs_bt q p : Nat) : Int)), some (.inl (p : Int)), x4] [] (114, J1, F) 0 0 := by
            intro m
            induction m with
            | zero =>
              intro p x4 hp
              refine gr_iload_n dX5_couldRest_24 rfl ?_
              refine gr_aload_n dX5_couldRest_25 rfl ?_
              refine gr_getI dX5_couldRest_26 fX5_63 (by first | assumption | rfl) (by omega) (by decide) rfl ?_
              rw [v0]
              refine gr_icmp_ge 95 dX5_couldRest_29 (by decide) (by unfold gw_in; omega) (by unfold gw_in; omega) (fun h29 => ?_) (fun h29 => ?_)
              · refine gr_iload_n dX5_couldRest_95 rfl ?_
                refine gr_iret dX5_couldRest_96 (by first | exact Or.inl rfl | exact Or.inr ⟨rfl, by omega⟩) (by decide) (by decide) ((hQ ▸ ⟨_, _, rfl, rfl, by rw [show p = P by omega], hsa⟩))
              · omega
            | succ m ih =>
              intro p x4 hp
              have nxt := fun x4 => ih (p + 1) x4 (by omega)
              simp only [gs_bt] at nxt
              have hwo := fun q hq => gs_wo_hd (k := k) (p := p) (q := q) m1 (by omega) hq
              have hw0 := hwo 0 (by omega)
              have hhw : ∀ q, q < 4 → gs_hd (gs_wo k p) q < 2 ^ gp_cnt (A 20) c := fun q hq => by
                rw [(hwo q hq).1]
                split
                · exact Nat.two_pow_pos _
                · exact m2 q hq
              have hev : gm_ev P B (gp_cnt (A 20) c) (A 19 3) (gs_wo k p) = decide (gs_gp (fun i => gs_lw B k i p 4) (gp_cnt (A 20) c) ≤ A 19 3) := by
                rw [gm_ev_gp s1 s3 s4 ⟨s6 c (by omega), gp_cnt_le _ _⟩ hbal.2 (fun q hq => hhw q (by omega))]
                have : (fun i => gs_lw B (gs_wo k p) i 4 P) = (fun i => gs_lw B k i p 4) := funext fun i => by
                  rw [gs_wo_lw m1 (by omega) P s1, gs_lw_P s1 m3]
                rw [this]
              have skip : q p = false → ∀ x4, gw_G (gw_Cm jX5_couldRest (d + 7) Q) jX5_couldRest 86 [some (.inr (some 99)), some (.inl (c : Int)), some (.inl ((gs_bt q p : Nat) : Int)), some (.inl (p : Int)), x4] [.inl ((gs_bt q p : Nat) : Int)] (114, J1, F) 0 0 := by
                intro hf x4
                rw [hf, if_neg (by decide)] at nxt
                refine gr_iconst dX5_couldRest_86 ?_
                refine gr_ior (v := ((gs_bt q p + 0 : Nat) : Int)) dX5_couldRest_87 (by have h := ga_orN (gs_bt q p) 0; rw [Nat.or_zero] at h; exact h) ?_
                refine gr_istore_n dX5_couldRest_88 (by decide) ?_
                refine gr_iinc (v := ((p + 1 : Nat) : Int)) dX5_couldRest_89 (by decide) rfl (by omega) ?_
                refine gr_goto 24 dX5_couldRest_92 (by decide) ?_
                exact nxt _
              refine gr_iload_n dX5_couldRest_24 rfl ?_
              refine gr_aload_n dX5_couldRest_25 rfl ?_
              refine gr_getI dX5_couldRest_26 fX5_63 (by first | assumption | rfl) (by omega) (by decide) rfl ?_
              rw [v0]
              refine gr_icmp_ge 95 dX5_couldRest_29 (by decide) (by unfold gw_in; omega) (by unfold gw_in; omega) (fun h29 => ?_) (fun h29 => ?_)
              · omega
              · refine gr_aload_n dX5_couldRest_32 rfl ?_
                refine gr_getR dX5_couldRest_33 fX5_50 (by first | assumption | rfl) (by omega) (by decide) rfl (by assumption) ?_
                refine gr_iload_n dX5_couldRest_36 rfl ?_
                refine gr_iald (i := c) dX5_couldRest_37 (by first | assumption | rfl) (by omega) (by omega) (by omega) (by decide) ?_
                rw [k1]
                refine gr_bipush dX5_couldRest_38 (by decide) ?_
                refine gr_iconst dX5_couldRest_40 ?_
                refine gr_iconst dX5_couldRest_41 ?_
                refine gr_iload_n dX5_couldRest_42 rfl ?_
                refine gr_isub dX5_couldRest_43 rfl ?_
                refine gr_imul (v := ((3 * (3 - p) : Nat) : Int)) dX5_couldRest_44 (by omega) ?_
                refine gr_ishl (v := ((7 * 2 ^ (3 * (3 - p)) : Nat) : Int)) dX5_couldRest_45 (ga_shlN (a := 7) (by omega) (by rcases (show p = 0 ∨ p = 1 ∨ p = 2 ∨ p = 3 by omega) with h | h | h | h <;> rw [h] <;> decide)) ?_
                refine gr_iconst dX5_couldRest_46 ?_
                refine gr_ixor (v := (Int32.ofInt ((7 * 2 ^ (3 * (3 - p)) : Nat) : Int) ^^^ Int32.ofInt (-1)).toInt) dX5_couldRest_47 (gw_ofInt _).symm ?_
                refine gr_iand (v := ((gs_wo k p : Nat) : Int)) dX5_couldRest_48 (by rw [gw_ofInt]; exact ga_wo m1 (by omega)) ?_
                refine gr_istore dX5_couldRest_49 (by decide) ?_
                refine gr_iload_n dX5_couldRest_51 rfl ?_
                refine gr_iload dX5_couldRest_52 rfl ?_
                refine gr_aload_n dX5_couldRest_54 rfl ?_
                refine gr_getR dX5_couldRest_55 fX5_50 (by first | assumption | rfl) (by omega) (by decide) rfl (by assumption) ?_
                refine gr_iload_n dX5_couldRest_58 rfl ?_
                refine gr_iald (i := c) dX5_couldRest_59 (by first | assumption | rfl) (by omega) (by omega) (by omega) (by decide) ?_
                rw [k1]
                refine gr_icmp_eq 86 dX5_couldRest_60 (by decide) (by unfold gw_in; omega) (by unfold gw_in; omega) (fun h60 => ?_) (fun h60 => ?_)
                · exact skip (by rw [← hq]; unfold gs_rq; simp only [decide_eq_false_iff_not]; exact fun h => h.1 (hw0.2.2.mp (by omega))) _
                · refine gr_aload_n dX5_couldRest_63 rfl ?_
                  refine gr_iload_n dX5_couldRest_64 rfl ?_
                  refine gr_iload dX5_couldRest_65 rfl ?_
                  refine gr_aload_n dX5_couldRest_67 rfl ?_
                  refine gr_getR dX5_couldRest_68 fX5_13 (by first | assumption | rfl) (by omega) (by decide) rfl (by assumption) ?_
                  refine gr_bipush dX5_couldRest_71 (by decide) ?_
                  refine gr_iald (i := 35) dX5_couldRest_73 (by first | assumption | rfl) (by omega) (by omega) (by omega) (by decide) ?_
                  rw [h35']
                  refine gr_virt dX5_couldRest_74 kX5_159 (as := [_, _, _]) rfl rfl (by first | assumption | rfl) (by omega) (Nat.le_of_ble_eq_true rfl) (gw_Rm_m (by omega) (by decide) (by decide)) (m_isEven (c := c) (k := gs_wo k p) (bal := A 19 3) (d + 4) hK hV1 hS (by omega) hw0.2.1 hbal) ?_
                  rintro _ _ ⟨rfl, rfl⟩
                  rw [hev]
                  by_cases hg : gs_gp (fun i => gs_lw B k i p 4) (gp_cnt (A 20) c) ≤ A 19 3
                  · rw [if_pos (decide_eq_true hg)]
                    refine gr_if_eq 86 dX5_couldRest_77 (by decide) (by unfold gw_in; omega) (fun h77 => ?_) (fun h77 => ?_)
                    · omega
                    · have ht : q p = true := by rw [← hq]; unfold gs_rq; simp only [decide_eq_true_eq]; exact ⟨fun h => h60 (by rw [hw0.2.2.mpr h]), hg⟩
                      rw [ht, if_pos rfl] at nxt
                      refine gr_iconst dX5_couldRest_80 ?_
                      refine gr_iload_n dX5_couldRest_81 rfl ?_
                      refine gr_ishl (v := ((2 ^ p : Nat) : Int)) dX5_couldRest_82 (ga_p1 (by omega)) ?_
                      refine gr_goto 87 dX5_couldRest_83 (by decide) ?_
                      refine gr_ior (v := ((gs_bt q p + 2 ^ p : Nat) : Int)) dX5_couldRest_87 (gs_bt_or q p (by omega)) ?_
                      refine gr_istore_n dX5_couldRest_88 (by decide) ?_
                      refine gr_iinc (v := ((p + 1 : Nat) : Int)) dX5_couldRest_89 (by decide) rfl (by omega) ?_
                      refine gr_goto 24 dX5_couldRest_92 (by decide) ?_
                      exact nxt _
                  · rw [if_neg (by rw [decide_eq_true_eq]; exact hg)]
                    refine gr_if_eq 86 dX5_couldRest_77 (by decide) (by unfold gw_in; omega) (fun h77 => ?_) (fun h77 => ?_)
                    · exact skip (by rw [← hq]; unfold gs_rq; simp only [decide_eq_false_iff_not]; exact fun h => hg h.2) _
                    · omega
          exact key P 0 _ (by omega)
        · omega
    · omega
  · rw [if_neg h1]
    refine gr_if_ne 10 dX5_couldRest_5 (by decide) (by unfold gw_in; omega) (fun h5 => ?_) (fun h5 => ?_)
    · omega
    · refine gr_iconst dX5_couldRest_8 ?_
      refine gr_iret dX5_couldRest_9 (by first | exact Or.inl rfl | exact Or.inr ⟨rfl, by omega⟩) (by decide) (by decide) ((hQ ▸ ⟨_, _, rfl, rfl, by unfold ga_rest; rw [if_neg h1], gm_sa_rf⟩))
theorem m_reach (d : Nat) (hK : gm_K F) (hR : gm_R A pp J) (hD : gc_D A P n pp) : gw_Met jX5_reach (d + 6) [.inr (some 99)] (114, J, F) (gw_io F (fun r J' => r = ga_reach P (gc_B A) (A 20) (A 19 2) (A 19 1).toNat (A 19 3) (A 19 0).toNat ∧ gm_sa J J')) := by
  obtain ⟨g1, g2, g4, g5, g6, g8, g9, g11, g12, g14, g18, g19, g20, g21⟩ := id hK
  obtain ⟨hV, hS, h33, hset, h35, hbal⟩ := gm_R_V hR hD
  obtain ⟨z1, z2⟩ := gm_sz hD
  obtain ⟨s1, s2, s3, s4, s5, s6, s7, s8⟩ := id hS
  generalize hB : gc_B A = B at *
  generalize hSz : (A 19 0).toNat = S at *
  generalize hse : (A 19 1).toNat = set at *
  generalize hQ : gw_io F (fun r J' => r = ga_reach P B (A 20) (A 19 2) set (A 19 3) S ∧ gm_sa J J') = Q
  refine gw_enter okX5_reach rfl (Nat.le_of_ble_eq_true rfl) ?_
  refine gr_aload_n dX5_reach_0 rfl ?_
  refine gr_getR dX5_reach_1 fX5_13 (by first | assumption | rfl) (by omega) (by decide) rfl (by assumption) ?_
  refine gr_iconst dX5_reach_4 ?_
  refine gr_iald (i := 0) dX5_reach_5 (by first | assumption | rfl) (by omega) (by omega) (by omega) (by decide) ?_
  rw [hV.2.2.1]
  refine gr_istore_n dX5_reach_6 (by decide) ?_
  have key : ∀ (m : Nat) (J1 : Nat → Nat → Int), m ≤ S → gm_sa J J1 → (∀ k, m < k → k ≤ S → gs_fea P B (A 20) (A 19 2) set (A 19 3) k = false) → gw_G (gw_Cm jX5_reach (d + 6) Q) jX5_reach 7 [some (.inr (some 99)), some (.inl (m : Int))] [] (114, J1, F) 0 0 := by
    intro m
    induction m with
    | zero =>
      intro J1 hm hsa hno
      have e1 : J1 101 = J 101 := gm_sa_e hsa (by omega) (by omega)
      refine gr_aload_n dX5_reach_7 rfl ?_
      refine gr_aload_n dX5_reach_8 rfl ?_
      refine gr_getR dX5_reach_9 fX5_13 (by first | assumption | rfl) (by omega) (by decide) rfl (by assumption) ?_
      refine gr_bipush dX5_reach_12 (by decide) ?_
      refine gr_iald (i := 33) dX5_reach_14 (by first | assumption | rfl) (by omega) (by omega) (by omega) (by decide) ?_
      refine gr_aload_n dX5_reach_15 rfl ?_
      refine gr_getR dX5_reach_16 fX5_13 (by first | assumption | rfl) (by omega) (by decide) rfl (by assumption) ?_
      refine gr_bipush dX5_reach_19 (by decide) ?_
      refine gr_iald (i := 35) dX5_reach_21 (by first | assumption | rfl) (by omega) (by omega) (by omega) (by decide) ?_
      refine gr_iload_n dX5_reach_22 rfl ?_
      rw [e1, h33, h35]
      refine gr_virt dX5_reach_23 kX5_180 (as := [_, _, _]) rfl rfl (by first | assumption | rfl) (by omega) (Nat.le_of_ble_eq_true rfl) (gw_Rm_m (by omega) (by decide) (by decide)) (m_laysScore (set := set) (n := 0) (bal := A 19 3) (d + 0) hK (gm_sa_V hsa hV) hS (by omega) hset hbal) ?_
      rintro _ _ ⟨r, J2, rfl, rfl, hJ2, -, hres⟩
      have hf := gm_res_fea hS (by omega) hres
      have hr := hres.1
      have hr2 := hf.mpr (by unfold gs_fea; simp)
      refine gr_ldc dX5_reach_26 nX5_155 ?_
      refine gr_icmp_ne 37 dX5_reach_28 (by decide) (by unfold gw_in; omega) (by unfold gw_in; omega) (fun h28 => ?_) (fun h28 => ?_)
      · refine gr_iload_n dX5_reach_37 rfl ?_
        refine gr_iret dX5_reach_38 (by first | exact Or.inl rfl | exact Or.inr ⟨rfl, by omega⟩) (by decide) (by decide) ((hQ ▸ ⟨_, _, rfl, rfl, by unfold ga_reach; rw [gs_up_eq (n := 0) (by omega) (fun k hk => absurd hk (by omega)) (fun h => hno _ (by omega) (by omega))], gm_sa_tr hsa (gm_sc_sa hJ2)⟩))
      · omega
    | succ m ih =>
      intro J1 hm hsa hno
      have e1 : J1 101 = J 101 := gm_sa_e hsa (by omega) (by omega)
      refine gr_aload_n dX5_reach_7 rfl ?_
      refine gr_aload_n dX5_reach_8 rfl ?_
      refine gr_getR dX5_reach_9 fX5_13 (by first | assumption | rfl) (by omega) (by decide) rfl (by assumption) ?_
      refine gr_bipush dX5_reach_12 (by decide) ?_
      refine gr_iald (i := 33) dX5_reach_14 (by first | assumption | rfl) (by omega) (by omega) (by omega) (by decide) ?_
      refine gr_aload_n dX5_reach_15 rfl ?_
      refine gr_getR dX5_reach_16 fX5_13 (by first | assumption | rfl) (by omega) (by decide) rfl (by assumption) ?_
      refine gr_bipush dX5_reach_19 (by decide) ?_
      refine gr_iald (i := 35) dX5_reach_21 (by first | assumption | rfl) (by omega) (by omega) (by omega) (by decide) ?_
      refine gr_iload_n dX5_reach_22 rfl ?_
      rw [e1, h33, h35]
      refine gr_virt dX5_reach_23 kX5_180 (as := [_, _, _]) rfl rfl (by first | assumption | rfl) (by omega) (Nat.le_of_ble_eq_true rfl) (gw_Rm_m (by omega) (by decide) (by decide)) (m_laysScore (set := set) (n := m + 1) (bal := A 19 3) (d + 0) hK (gm_sa_V hsa hV) hS (by omega) hset hbal) ?_
      rintro _ _ ⟨r, J2, rfl, rfl, hJ2, -, hres⟩
      have hf := gm_res_fea hS (by omega) hres
      have hr := hres.1
      refine gr_ldc dX5_reach_26 nX5_155 ?_
      refine gr_icmp_ne 37 dX5_reach_28 (by decide) (by unfold gw_in; omega) (by unfold gw_in; omega) (fun h28 => ?_) (fun h28 => ?_)
      · have hfe := hf.mp h28
        have hall : ∀ j k, k + j = m + 1 → gs_fea P B (A 20) (A 19 2) set (A 19 3) k = true := by
          intro j
          induction j with
          | zero => intro k hk; rw [show k = m + 1 by omega]; exact hfe
          | succ j ihj => intro k hk; exact gs_fea_dec s5 s8 (by omega) (ihj (k + 1) (by omega))
        refine gr_iload_n dX5_reach_37 rfl ?_
        refine gr_iret dX5_reach_38 (by first | exact Or.inl rfl | exact Or.inr ⟨rfl, by omega⟩) (by decide) (by decide) ((hQ ▸ ⟨_, _, rfl, rfl, by unfold ga_reach; rw [gs_up_eq (n := m + 1) hm (fun k hk => hall (m - k) (k + 1) (by omega)) (fun h => hno _ (by omega) (by omega))], gm_sa_tr hsa (gm_sc_sa hJ2)⟩))
      · refine gr_iinc (v := ((m : Nat) : Int)) dX5_reach_31 (by decide) rfl (by omega) ?_
        refine gr_goto 7 dX5_reach_34 (by decide) ?_
        refine ih J2 (by omega) (gm_sa_tr hsa (gm_sc_sa hJ2)) (fun k h1 h2 => ?_)
        by_cases hk : k = m + 1
        · subst hk
          cases hz : gs_fea P B (A 20) (A 19 2) set (A 19 3) (m + 1) with
          | false => rfl
          | true => have := hf.mpr hz; omega
        · exact hno k (by omega) h2
  exact key S J (Nat.le_refl _) gm_sa_rf (fun k h1 h2 => absurd h1 (by omega))
theorem m_bear (d : Nat) (hK : gm_K F) (hR : gm_R A pp J) (hD : gc_D A P n pp) : gw_Met jX5_bear (d + 6) [.inr (some 99)] (114, J, F) (gw_io F (fun r J' => r = ga_bear P (gc_B A) (A 20) (A 19 2) (A 19 1).toNat (A 19 0).toNat ∧ gm_sa J J')) := by
  obtain ⟨g1, g2, g4, g5, g6, g8, g9, g11, g12, g14, g18, g19, g20, g21⟩ := id hK
  obtain ⟨hV, hS, h33, hset, h35, hbal⟩ := gm_R_V hR hD
  obtain ⟨z1, z2⟩ := gm_sz hD
  have v2 := hV.2.2.1
  generalize hB : gc_B A = B at *
  generalize hSz : (A 19 0).toNat = S at *
  generalize hse : (A 19 1).toNat = set at *
  generalize hQ : gw_io F (fun r J' => r = ga_bear P B (A 20) (A 19 2) set S ∧ gm_sa J J') = Q
  refine gw_enter okX5_bear rfl (Nat.le_of_ble_eq_true rfl) ?_
  refine gr_iconst dX5_bear_0 ?_
  refine gr_istore_n dX5_bear_1 (by decide) ?_
  have key : ∀ (m b : Nat) (J1 : Nat → Nat → Int), b + m = 31 → gm_sa J J1 → (∀ j : Nat, j < b → gs_fea P B (A 20) (A 19 2) set (j : Int) S = false) → gw_G (gw_Cm jX5_bear (d + 6) Q) jX5_bear 2 [some (.inr (some 99)), some (.inl (b : Int))] [] (114, J1, F) 0 0 := by
    intro m
    induction m with
    | zero =>
      intro b J1 hb hsa hno
      refine gr_iload_n dX5_bear_2 rfl ?_
      refine gr_bipush dX5_bear_3 (by decide) ?_
      refine gr_icmp_gt 39 dX5_bear_5 (by decide) (by unfold gw_in; omega) (by unfold gw_in; omega) (fun h5 => ?_) (fun h5 => ?_)
      · refine gr_bipush dX5_bear_39 (by decide) ?_
        refine gr_iret dX5_bear_41 (by first | exact Or.inl rfl | exact Or.inr ⟨rfl, by omega⟩) (by decide) (by decide) ?_
        rw [← hQ]
        refine ⟨_, _, rfl, rfl, ?_, hsa⟩
        unfold ga_bear
        rw [show (List.range 31).find? (fun b : Nat => gs_fea P B (A 20) (A 19 2) set (b : Int) S) = none from List.find?_eq_none.mpr (fun j hj hf => by have := List.mem_range.mp hj; rw [hno j (by omega)] at hf; cases hf)]
      · omega
    | succ m ih =>
      intro b J1 hb hsa hno
      have e1 : J1 101 = J 101 := gm_sa_e hsa (by omega) (by omega)
      refine gr_iload_n dX5_bear_2 rfl ?_
      refine gr_bipush dX5_bear_3 (by decide) ?_
      refine gr_icmp_gt 39 dX5_bear_5 (by decide) (by unfold gw_in; omega) (by unfold gw_in; omega) (fun h5 => ?_) (fun h5 => ?_)
      · omega
      · refine gr_aload_n dX5_bear_8 rfl ?_
        refine gr_aload_n dX5_bear_9 rfl ?_
        refine gr_getR dX5_bear_10 fX5_13 (by first | assumption | rfl) (by omega) (by decide) rfl (by assumption) ?_
        refine gr_bipush dX5_bear_13 (by decide) ?_
        refine gr_iald (i := 33) dX5_bear_15 (by first | assumption | rfl) (by omega) (by omega) (by omega) (by decide) ?_
        refine gr_iload_n dX5_bear_16 rfl ?_
        refine gr_aload_n dX5_bear_17 rfl ?_
        refine gr_getR dX5_bear_18 fX5_13 (by first | assumption | rfl) (by omega) (by decide) rfl (by assumption) ?_
        refine gr_iconst dX5_bear_21 ?_
        refine gr_iald (i := 0) dX5_bear_22 (by first | assumption | rfl) (by omega) (by omega) (by omega) (by decide) ?_
        rw [e1, h33, v2]
        refine gr_virt dX5_bear_23 kX5_180 (as := [_, _, _]) rfl rfl (by first | assumption | rfl) (by omega) (Nat.le_of_ble_eq_true rfl) (gw_Rm_m (by omega) (by decide) (by decide)) (m_laysScore (set := set) (n := S) (bal := (b : Int)) (d + 0) hK (gm_sa_V hsa hV) hS (by omega) hset (by omega)) ?_
        rintro _ _ ⟨r, J2, rfl, rfl, hJ2, -, hres⟩
        have hf := gm_res_fea hS (by omega) hres
        have hr := hres.1
        refine gr_ldc dX5_bear_26 nX5_155 ?_
        refine gr_icmp_eq 33 dX5_bear_28 (by decide) (by unfold gw_in; omega) (by unfold gw_in; omega) (fun h28 => ?_) (fun h28 => ?_)
        · refine gr_iinc (v := ((b + 1 : Nat) : Int)) dX5_bear_33 (by decide) rfl (by omega) ?_
          refine gr_goto 2 dX5_bear_36 (by decide) ?_
          refine ih (b + 1) J2 (by omega) (gm_sa_tr hsa (gm_sc_sa hJ2)) (fun j hj => ?_)
          by_cases hjb : j = b
          · subst hjb
            cases hz : gs_fea P B (A 20) (A 19 2) set (j : Int) S with
            | false => rfl
            | true => have := hf.mpr hz; omega
          · exact hno j (by omega)
        · refine gr_iload_n dX5_bear_31 rfl ?_
          refine gr_iret dX5_bear_32 (by first | exact Or.inl rfl | exact Or.inr ⟨rfl, by omega⟩) (by decide) (by decide) ?_
          rw [← hQ]
          refine ⟨_, _, rfl, rfl, ?_, gm_sa_tr hsa (gm_sc_sa hJ2)⟩
          unfold ga_bear
          have : (List.range 31).find? (fun b : Nat => gs_fea P B (A 20) (A 19 2) set (b : Int) S) = some b := by
            rw [List.find?_eq_some_iff_getElem]
            refine ⟨hf.mp h28, b, by rw [List.length_range]; omega, by rw [List.getElem_range], fun j hj => ?_⟩
            rw [List.getElem_range, hno j hj]
            rfl
          rw [this]
  exact key 31 0 J (by omega) gm_sa_rf (fun j hj => absurd hj (by omega))
theorem m_ones16 {h : Nat} {μ : gw_M} (d : Nat) (hh : h < 16) : gw_Met jX5_ones d [.inl (h : Int)] μ (gw_pu ((h % 2 + h / 2 ^ 1 % 2 + h / 2 ^ 2 % 2 : Nat) : Int) μ) := by
  refine gw_enter okX5_ones rfl (Nat.le_of_ble_eq_true rfl) ?_
  refine gr_iload_n dX5_ones_0 rfl ?_
  refine gr_iconst dX5_ones_1 ?_
  refine gr_iand (v := ((h % 2 : Nat) : Int)) dX5_ones_2 (ga_bit1 _) ?_
  refine gr_iload_n dX5_ones_3 rfl ?_
  refine gr_iconst dX5_ones_4 ?_
  refine gr_ishr (v := ((h / 2 ^ 1 : Nat) : Int)) dX5_ones_5 (ga_bit (i := 1) (by omega) (by omega)) ?_
  refine gr_iconst dX5_ones_6 ?_
  refine gr_iand (v := ((h / 2 ^ 1 % 2 : Nat) : Int)) dX5_ones_7 (ga_bit1 _) ?_
  refine gr_iadd dX5_ones_8 rfl ?_
  refine gr_iload_n dX5_ones_9 rfl ?_
  refine gr_iconst dX5_ones_10 ?_
  refine gr_ishr (v := ((h / 2 ^ 2 : Nat) : Int)) dX5_ones_11 (ga_bit (i := 2) (by omega) (by omega)) ?_
  refine gr_iconst dX5_ones_12 ?_
  refine gr_iand (v := ((h / 2 ^ 2 % 2 : Nat) : Int)) dX5_ones_13 (ga_bit1 _) ?_
  refine gr_iadd dX5_ones_14 rfl ?_
  refine gr_iret dX5_ones_15 (by first | exact Or.inl rfl | exact Or.inr ⟨rfl, by omega⟩) (by decide) (by decide) (⟨by congr 2, rfl⟩)
theorem m_bits {h : Nat} {μ : gw_M} (d : Nat) (hh : h < 16) : gw_Met jX5_bits (d + 1) [.inl (h : Int)] μ (gw_pu (gb_pc h : Nat) μ) := by
  refine gw_enter okX5_bits rfl (Nat.le_of_ble_eq_true rfl) ?_
  refine gr_iload_n dX5_bits_0 rfl ?_
  refine gr_stat dX5_bits_1 kX5_146 (as := [_]) rfl rfl (Nat.le_of_ble_eq_true rfl) (gw_Rm_m (by omega) (by decide) (by decide)) (m_ones16 (h := h) d hh) ?_
  rintro _ _ ⟨rfl, rfl⟩
  refine gr_iload_n dX5_bits_4 rfl ?_
  refine gr_iconst dX5_bits_5 ?_
  refine gr_ishr (v := ((h / 2 ^ 3 : Nat) : Int)) dX5_bits_6 (ga_bit (i := 3) (by omega) (by omega)) ?_
  refine gr_iconst dX5_bits_7 ?_
  refine gr_iand (v := ((h / 2 ^ 3 % 2 : Nat) : Int)) dX5_bits_8 (ga_bit1 _) ?_
  refine gr_iadd dX5_bits_9 rfl ?_
  refine gr_iret dX5_bits_10 (by first | exact Or.inl rfl | exact Or.inr ⟨rfl, by omega⟩) (by decide) (by decide) (⟨by unfold gb_pc; congr 2, rfl⟩)
theorem m_fewest (d : Nat) (hK : gm_K F) (hR : gm_R A pp J) (hD : gc_D A P n pp) : gw_Met jX5_fewest (d + 6) [.inr (some 99)] (114, J, F) (gw_io F (fun r J' => r = ga_few P (gc_B A) (A 20) (A 19 2) (A 19 3) (A 19 0).toNat ∧ gm_sa J J')) := by
  obtain ⟨g1, g2, g4, g5, g6, g8, g9, g11, g12, g14, g18, g19, g20, g21⟩ := id hK
  obtain ⟨hV, hS, h33, hset, h35, hbal⟩ := gm_R_V hR hD
  obtain ⟨z1, z2⟩ := gm_sz hD
  have v0 := hV.1
  have v2 := hV.2.2.1
  have hb4 := hS.1
  generalize hB : gc_B A = B at *
  generalize hSz : (A 19 0).toNat = S at *
  generalize hse : (A 19 1).toNat = set at *
  have h16 : 2 ^ P ≤ 16 := Nat.pow_le_pow_right (by omega) hb4
  have hsh : Int32.ofInt 1 <<< (Int32.ofInt (P : Int) &&& 31) = Int32.ofInt ((2 ^ P : Nat) : Int) := by
    have h := ga_shlN (a := 1) (y := P) (by omega) (by omega)
    rw [Nat.one_mul] at h
    exact h
  generalize hf : (fun set => gs_fea P B (A 20) (A 19 2) set (A 19 3) S) = f
  generalize hA : ga_few P B (A 20) (A 19 2) (A 19 3) S = A0
  have hA1 : A0 = match gs_fo f (2 ^ P) (P + 1) 0 with
      | none => -9
      | some s => (s : Int) := by rw [← hA, ← hf]; rfl
  generalize hT : 2 ^ P = T at h16 hsh hA1
  generalize hQ : gw_io F (fun r J' => r = A0 ∧ gm_sa J J') = Q
  refine gw_enter okX5_fewest rfl (Nat.le_of_ble_eq_true rfl) ?_
  refine gr_iconst dX5_fewest_0 ?_
  refine gr_istore_n dX5_fewest_1 (by decide) ?_
  have outer : ∀ (j m : Nat) (x2 : Option gw_V) (J1 : Nat → Nat → Int), m + j = P + 1 → gm_sa J J1 → (A0 = match gs_fo f T j m with
      | none => -9
      | some s => (s : Int)) → gw_G (gw_Cm jX5_fewest (d + 6) Q) jX5_fewest 2 [some (.inr (some 99)), some (.inl (m : Int)), x2] [] (114, J1, F) 0 0 := by
    intro j
    induction j with
    | zero =>
      intro m x2 J1 hm hsa ha
      have e0 : J1 99 0 = (P : Int) := by rw [hsa 99 0 (by omega) (by omega)]; exact v0
      refine gr_iload_n dX5_fewest_2 rfl ?_
      refine gr_aload_n dX5_fewest_3 rfl ?_
      refine gr_getI dX5_fewest_4 fX5_63 (by first | assumption | rfl) (by omega) (by decide) rfl ?_
      rw [e0]
      refine gr_icmp_gt 67 dX5_fewest_7 (by decide) (by unfold gw_in; omega) (by unfold gw_in; omega) (fun h7 => ?_) (fun h7 => ?_)
      · refine gr_bipush dX5_fewest_67 (by decide) ?_
        refine gr_iret dX5_fewest_69 (by first | exact Or.inl rfl | exact Or.inr ⟨rfl, by omega⟩) (by decide) (by decide) ((hQ ▸ ⟨_, _, rfl, rfl, ha.symm, hsa⟩))
      · omega
    | succ j ih =>
      intro m x2 J1 hm hsa ha
      have e0 : J1 99 0 = (P : Int) := by rw [hsa 99 0 (by omega) (by omega)]; exact v0
      simp only [gs_fo] at ha
      refine gr_iload_n dX5_fewest_2 rfl ?_
      refine gr_aload_n dX5_fewest_3 rfl ?_
      refine gr_getI dX5_fewest_4 fX5_63 (by first | assumption | rfl) (by omega) (by decide) rfl ?_
      rw [e0]
      refine gr_icmp_gt 67 dX5_fewest_7 (by decide) (by unfold gw_in; omega) (by unfold gw_in; omega) (fun h7 => ?_) (fun h7 => ?_)
      · omega
      · refine gr_iconst dX5_fewest_10 ?_
        refine gr_istore_n dX5_fewest_11 (by decide) ?_
        have inner : ∀ (i s : Nat) (J2 : Nat → Nat → Int), s + i = T → gm_sa J J2 → (A0 = match (match gs_fi f m i s with
            | some s => some s
            | none => gs_fo f T j (m + 1)) with
            | none => -9
            | some s => (s : Int)) → gw_G (gw_Cm jX5_fewest (d + 6) Q) jX5_fewest 12 [some (.inr (some 99)), some (.inl (m : Int)), some (.inl (s : Int))] [] (114, J2, F) 0 0 := by
          intro i
          induction i with
          | zero =>
            intro s J2 hs t1 ha
            have e0 : J2 99 0 = (P : Int) := by rw [t1 99 0 (by omega) (by omega)]; exact v0
            refine gr_iload_n dX5_fewest_12 rfl ?_
            refine gr_iconst dX5_fewest_13 ?_
            refine gr_aload_n dX5_fewest_14 rfl ?_
            refine gr_getI dX5_fewest_15 fX5_63 (by first | assumption | rfl) (by omega) (by decide) rfl ?_
            rw [e0]
            refine gr_ishl (v := ((T : Nat) : Int)) dX5_fewest_18 hsh ?_
            refine gr_icmp_ge 61 dX5_fewest_19 (by decide) (by unfold gw_in; omega) (by unfold gw_in; omega) (fun h19 => ?_) (fun h19 => ?_)
            · refine gr_iinc (v := ((m + 1 : Nat) : Int)) dX5_fewest_61 (by decide) rfl (by omega) ?_
              refine gr_goto 2 dX5_fewest_64 (by decide) ?_
              exact ih (m + 1) _ J2 (by omega) t1 ha
            · omega
          | succ i ihi =>
            intro s J2 hs t1 ha
            have e0 : J2 99 0 = (P : Int) := by rw [t1 99 0 (by omega) (by omega)]; exact v0
            have e1 : J2 101 = J 101 := gm_sa_e t1 (by omega) (by omega)
            simp only [gs_fi] at ha
            have hpc : gb_pc s ≤ 4 := by unfold gb_pc; omega
            refine gr_iload_n dX5_fewest_12 rfl ?_
            refine gr_iconst dX5_fewest_13 ?_
            refine gr_aload_n dX5_fewest_14 rfl ?_
            refine gr_getI dX5_fewest_15 fX5_63 (by first | assumption | rfl) (by omega) (by decide) rfl ?_
            rw [e0]
            refine gr_ishl (v := ((T : Nat) : Int)) dX5_fewest_18 hsh ?_
            refine gr_icmp_ge 61 dX5_fewest_19 (by decide) (by unfold gw_in; omega) (by unfold gw_in; omega) (fun h19 => ?_) (fun h19 => ?_)
            · omega
            · refine gr_iload_n dX5_fewest_22 rfl ?_
              refine gr_stat dX5_fewest_23 kX5_192 (as := [_]) rfl rfl (Nat.le_of_ble_eq_true rfl) (gw_Rm_m (by omega) (by decide) (by decide)) (m_bits (h := s) (d + 4) (by omega)) ?_
              rintro _ _ ⟨rfl, rfl⟩
              refine gr_iload_n dX5_fewest_26 rfl ?_
              refine gr_icmp_ne 55 dX5_fewest_27 (by decide) (by unfold gw_in; omega) (by unfold gw_in; omega) (fun h27 => ?_) (fun h27 => ?_)
              · rw [if_neg (fun h => h27 (by rw [h.1]))] at ha
                refine gr_iinc (v := ((s + 1 : Nat) : Int)) dX5_fewest_55 (by decide) rfl (by omega) ?_
                refine gr_goto 12 dX5_fewest_58 (by decide) ?_
                exact ihi (s + 1) J2 (by omega) t1 ha
              · refine gr_aload_n dX5_fewest_30 rfl ?_
                refine gr_iload_n dX5_fewest_31 rfl ?_
                refine gr_aload_n dX5_fewest_32 rfl ?_
                refine gr_getR dX5_fewest_33 fX5_13 (by first | assumption | rfl) (by omega) (by decide) rfl (by assumption) ?_
                refine gr_bipush dX5_fewest_36 (by decide) ?_
                refine gr_iald (i := 35) dX5_fewest_38 (by first | assumption | rfl) (by omega) (by omega) (by omega) (by decide) ?_
                refine gr_aload_n dX5_fewest_39 rfl ?_
                refine gr_getR dX5_fewest_40 fX5_13 (by first | assumption | rfl) (by omega) (by decide) rfl (by assumption) ?_
                refine gr_iconst dX5_fewest_43 ?_
                refine gr_iald (i := 0) dX5_fewest_44 (by first | assumption | rfl) (by omega) (by omega) (by omega) (by decide) ?_
                rw [e1, h35, v2]
                refine gr_virt dX5_fewest_45 kX5_180 (as := [_, _, _]) rfl rfl (by first | assumption | rfl) (by omega) (Nat.le_of_ble_eq_true rfl) (gw_Rm_m (by omega) (by decide) (by decide)) (m_laysScore (set := s) (n := S) (bal := A 19 3) (d + 0) hK (gm_sa_V t1 hV) hS (Nat.le_refl _) (by omega) hbal) ?_
                rintro _ _ ⟨r, J3, rfl, rfl, hJ3, -, hres⟩
                have hfe := gm_res_fea hS (Nat.le_refl _) hres
                rw [show gs_fea P B (A 20) (A 19 2) s (A 19 3) S = f s by rw [← hf]] at hfe
                have hr := hres.1
                have u1 := gm_sa_tr t1 (gm_sc_sa hJ3)
                refine gr_ldc dX5_fewest_48 nX5_155 ?_
                refine gr_icmp_eq 55 dX5_fewest_50 (by decide) (by unfold gw_in; omega) (by unfold gw_in; omega) (fun h50 => ?_) (fun h50 => ?_)
                · rw [if_neg (fun h => by have := hfe.mpr h.2; omega)] at ha
                  refine gr_iinc (v := ((s + 1 : Nat) : Int)) dX5_fewest_55 (by decide) rfl (by omega) ?_
                  refine gr_goto 12 dX5_fewest_58 (by decide) ?_
                  exact ihi (s + 1) J3 (by omega) u1 ha
                · rw [if_pos ⟨by omega, hfe.mp h50⟩] at ha
                  refine gr_iload_n dX5_fewest_53 rfl ?_
                  refine gr_iret dX5_fewest_54 (by first | exact Or.inl rfl | exact Or.inr ⟨rfl, by omega⟩) (by decide) (by decide) ((hQ ▸ ⟨_, _, rfl, rfl, ha.symm, u1⟩))
        exact inner T 0 J1 (by omega) hsa ha
  exact outer (P + 1) 0 _ J (by omega) gm_sa_rf hA1
theorem m_ill (d : Nat) (hK : gm_K F) (hR : gm_R A pp J) (hD : gc_D A P n pp) : gw_Met jX5_ill (d + 5) [.inr (some 99)] (114, J, F) (gw_io F (fun r J' => r = ga_ill P (gc_B A) (A 20) (A 19 1).toNat (A 19 3) (A 19 0).toNat (A 73) (A 74) (A 0 10).toNat ∧ gm_sa J J')) := by
  obtain ⟨g1, g2, g4, g5, g6, g8, g9, g11, g12, g14, g18, g19, g20, g21⟩ := id hK
  obtain ⟨hV, hS, h33, hset, h35, hbal⟩ := gm_R_V hR hD
  obtain ⟨z1, z2⟩ := gm_sz hD
  have v0 := hV.1
  have v2 := hV.2.2.1
  have s1 := hS.1
  have hB2 := hS.2.2.2.2.2.2.1
  obtain ⟨he1, he2⟩ := hD.2.2.2.2.2.1
  obtain ⟨r7, r8⟩ := hR.2.2.2.2.1
  generalize hB : gc_B A = B at *
  generalize hSz : (A 19 0).toNat = S at *
  generalize hse : (A 19 1).toNat = m at *
  obtain ⟨H, hH⟩ : ∃ H : Nat, A 0 10 = (H : Int) := ⟨(A 0 10).toNat, by omega⟩
  rw [hH, Int.toNat_natCast]
  rw [hH] at r7
  unfold ga_ill
  generalize hq : (fun p => decide (m / 2 ^ p % 2 = 1) && gs_fit P B (A 20) (A 19 3) S (A 73) (A 74) (m - 2 ^ p) H) = q
  generalize hQ : gw_io F (fun r J' => r = ((gs_bt q P : Nat) : Int) ∧ gm_sa J J') = Q
  refine gw_enter okX5_ill rfl (Nat.le_of_ble_eq_true rfl) ?_
  refine gr_iconst dX5_ill_0 ?_
  refine gr_istore_n dX5_ill_1 (by decide) ?_
  refine gr_iconst dX5_ill_2 ?_
  refine gr_istore_n dX5_ill_3 (by decide) ?_
  have key : ∀ (j p : Nat) (J1 : Nat → Nat → Int) (x3 x4 : Option gw_V), p + j = P → gm_sa J J1 → gw_G (gw_Cm jX5_ill (d + 5) Q) jX5_ill 4 [some (.inr (some 99)), some (.inl ((gs_bt q p : Nat) : Int)), some (.inl (p : Int)), x3, x4] [] (114, J1, F) 0 0 := by
    intro j
    induction j with
    | zero =>
      intro p J1 x3 x4 hp hsa
      have e0 : J1 99 0 = (P : Int) := by rw [hsa 99 0 (by omega) (by omega)]; exact v0
      refine gr_iload_n dX5_ill_4 rfl ?_
      refine gr_aload_n dX5_ill_5 rfl ?_
      refine gr_getI dX5_ill_6 fX5_63 (by first | assumption | rfl) (by omega) (by decide) rfl ?_
      rw [e0]
      refine gr_icmp_ge 150 dX5_ill_9 (by decide) (by unfold gw_in; omega) (by unfold gw_in; omega) (fun h9 => ?_) (fun h9 => ?_)
      · refine gr_iload_n dX5_ill_150 rfl ?_
        refine gr_iret dX5_ill_151 (by first | exact Or.inl rfl | exact Or.inr ⟨rfl, by omega⟩) (by decide) (by decide) ((hQ ▸ ⟨_, _, rfl, rfl, by rw [show p = P by omega], hsa⟩))
      · omega
    | succ j ih =>
      intro p J1 x3 x4 hp hsa
      have e0 : J1 99 0 = (P : Int) := by rw [hsa 99 0 (by omega) (by omega)]; exact v0
      have hbit : m / 2 ^ p % 2 < 2 := Nat.mod_lt _ (by omega)
      -- the end of the round
      have fin : ∀ (J2 : Nat → Nat → Int) (x4 : Option gw_V), gm_sa J J2 → gw_G (gw_Cm jX5_ill (d + 5) Q) jX5_ill 130 [some (.inr (some 99)), some (.inl ((gs_bt q p : Nat) : Int)), some (.inl (p : Int)), some (.inl (if q p = true then 1 else 0)), x4] [] (114, J2, F) 0 0 := by
        intro J2 x4 t1
        have nxt := fun x3 x4 => ih (p + 1) J2 x3 x4 (by omega) t1
        simp only [gs_bt] at nxt
        cases hqp : q p with
        | true =>
          rw [hqp, if_pos rfl] at nxt
          rw [if_pos rfl]
          refine gr_iload_n dX5_ill_130 rfl ?_
          refine gr_iload_n dX5_ill_131 rfl ?_
          refine gr_if_eq 141 dX5_ill_132 (by decide) (by unfold gw_in; omega) (fun h132 => ?_) (fun h132 => ?_)
          · omega
          · refine gr_iconst dX5_ill_135 ?_
            refine gr_iload_n dX5_ill_136 rfl ?_
            refine gr_ishl (v := ((2 ^ p : Nat) : Int)) dX5_ill_137 (ga_p1 (by omega)) ?_
            refine gr_goto 142 dX5_ill_138 (by decide) ?_
            refine gr_ior (v := ((gs_bt q p + 2 ^ p : Nat) : Int)) dX5_ill_142 (gs_bt_or q p (by omega)) ?_
            refine gr_istore_n dX5_ill_143 (by decide) ?_
            refine gr_iinc (v := ((p + 1 : Nat) : Int)) dX5_ill_144 (by decide) rfl (by omega) ?_
            refine gr_goto 4 dX5_ill_147 (by decide) ?_
            exact nxt _ _
        | false =>
          rw [hqp, if_neg (by decide)] at nxt
          rw [if_neg (by decide)]
          refine gr_iload_n dX5_ill_130 rfl ?_
          refine gr_iload_n dX5_ill_131 rfl ?_
          refine gr_if_eq 141 dX5_ill_132 (by decide) (by unfold gw_in; omega) (fun h132 => ?_) (fun h132 => ?_)
          · refine gr_iconst dX5_ill_141 ?_
            refine gr_ior (v := ((gs_bt q p + 0 : Nat) : Int)) dX5_ill_142 (by have h := ga_orN (gs_bt q p) 0; rw [Nat.or_zero] at h; exact h) ?_
            refine gr_istore_n dX5_ill_143 (by decide) ?_
            refine gr_iinc (v := ((p + 1 : Nat) : Int)) dX5_ill_144 (by decide) rfl (by omega) ?_
            refine gr_goto 4 dX5_ill_147 (by decide) ?_
            exact nxt _ _
          · omega
      have e7 : ∀ J2, gm_sa J J2 → J2 99 7 = (H : Int) := fun J2 t => by rw [t 99 7 (by omega) (by omega)]; exact r7
      refine gr_iload_n dX5_ill_4 rfl ?_
      refine gr_aload_n dX5_ill_5 rfl ?_
      refine gr_getI dX5_ill_6 fX5_63 (by first | assumption | rfl) (by omega) (by decide) rfl ?_
      rw [e0]
      refine gr_icmp_ge 150 dX5_ill_9 (by decide) (by unfold gw_in; omega) (by unfold gw_in; omega) (fun h9 => ?_) (fun h9 => ?_)
      · omega
      · refine gr_aload_n dX5_ill_12 rfl ?_
        refine gr_iload_n dX5_ill_13 rfl ?_
        refine gr_virt dX5_ill_14 kX5_117 (as := [_]) rfl rfl (by first | assumption | rfl) (by omega) (Nat.le_of_ble_eq_true rfl) (gw_Rm_m (by omega) (by decide) (by decide)) (m_isIn (p := p) (m := m) (d + 4) hK (by rw [gm_sa_e hsa (by omega) (by omega)]; exact h33) hset (by omega)) ?_
        rintro _ _ ⟨rfl, rfl⟩
        refine gr_istore_n dX5_ill_17 (by decide) ?_
        refine gr_iconst dX5_ill_18 ?_
        refine gr_istore dX5_ill_19 (by decide) ?_
        by_cases hb : m / 2 ^ p % 2 = 1
        · rw [if_pos hb]
          obtain ⟨hn1, hn2⟩ := ga_not (m := m) (p := p) hset (by omega) hb
          generalize hg : gs_fit P B (A 20) (A 19 3) S (A 73) (A 74) (m - 2 ^ p) = g at *
          have hqg : q p = g H := by rw [← hq]; simp only [hb, decide_true, Bool.true_and, hg]
          rw [hqg] at fin
          have gfin : ∀ (i h : Nat), h + i = H → g h = false → g H = false := by
            intro i
            induction i with
            | zero => intro h hh hf; rw [show H = h by omega]; exact hf
            | succ i ihi =>
              intro h hh hf
              refine ihi (h + 1) (by omega) ?_
              rw [← hg] at hf ⊢
              simp only [gs_fit]
              rw [hf]
              rfl
          have loop : ∀ (i h : Nat) (J2 : Nat → Nat → Int), h + i = H → gm_sa J J2 → gw_G (gw_Cm jX5_ill (d + 5) Q) jX5_ill 21 [some (.inr (some 99)), some (.inl ((gs_bt q p : Nat) : Int)), some (.inl (p : Int)), some (.inl (if g h = true then 1 else 0)), some (.inl (h : Int))] [] (114, J2, F) 0 0 := by
            intro i
            induction i with
            | zero =>
              intro h J2 hh t1
              refine gr_iload dX5_ill_21 rfl ?_
              refine gr_aload_n dX5_ill_23 rfl ?_
              refine gr_getI dX5_ill_24 fX5_69 (by first | assumption | rfl) (by omega) (by decide) rfl ?_
              rw [e7 J2 t1]
              refine gr_icmp_ge 130 dX5_ill_27 (by decide) (by unfold gw_in; omega) (by unfold gw_in; omega) (fun h27 => ?_) (fun h27 => ?_)
              · rw [show h = H by omega]
                exact fin J2 _ t1
              · omega
            | succ i ihi =>
              intro h J2 hh t1
              obtain ⟨c0, c7, ci⟩ := he2 h (by omega)
              obtain ⟨rh1, rh2⟩ := r8 h (by omega)
              obtain ⟨c, hc⟩ : ∃ c : Nat, A 73 h = (c : Int) := ⟨(A 73 h).toNat, by omega⟩
              have e105 : J2 105 h = (c : Int) := by rw [gm_sa_e t1 (by omega) (by omega), rh1]; exact hc
              have e1 : J2 101 = J 101 := gm_sa_e t1 (by omega) (by omega)
              have hgs : g (h + 1) = (g h && gs_ht P B (A 20) (A 19 3) S (A 73) (A 74) (m - 2 ^ p) h) := by rw [← hg]; rfl
              refine gr_iload dX5_ill_21 rfl ?_
              refine gr_aload_n dX5_ill_23 rfl ?_
              refine gr_getI dX5_ill_24 fX5_69 (by first | assumption | rfl) (by omega) (by decide) rfl ?_
              rw [e7 J2 t1]
              refine gr_icmp_ge 130 dX5_ill_27 (by decide) (by unfold gw_in; omega) (by unfold gw_in; omega) (fun h27 => ?_) (fun h27 => ?_)
              · omega
              · cases hgh : g h with
                | false =>
                  rw [if_neg (by decide)]
                  refine gr_iload_n dX5_ill_30 rfl ?_
                  refine gr_if_eq 130 dX5_ill_31 (by decide) (by unfold gw_in; omega) (fun h31 => ?_) (fun h31 => ?_)
                  · have := gfin (i + 1) h hh hgh
                    rw [this, if_neg (by decide)] at fin
                    exact fin J2 _ t1
                  · omega
                | true =>
                  rw [hgh, Bool.true_and] at hgs
                  unfold gs_ht at hgs
                  rw [hc, Int.toNat_natCast] at hgs
                  rw [if_pos rfl]
                  refine gr_iload_n dX5_ill_30 rfl ?_
                  refine gr_if_eq 130 dX5_ill_31 (by decide) (by unfold gw_in; omega) (fun h31 => ?_) (fun h31 => ?_)
                  · omega
                  · refine gr_aload_n dX5_ill_34 rfl ?_
                    refine gr_aload_n dX5_ill_35 rfl ?_
                    refine gr_getR dX5_ill_36 fX5_26 (by first | assumption | rfl) (by omega) (by decide) rfl (by assumption) ?_
                    refine gr_iload dX5_ill_39 rfl ?_
                    refine gr_iald (i := h) dX5_ill_41 (by first | assumption | rfl) (by omega) (by omega) (by omega) (by decide) ?_
                    rw [e105]
                    refine gr_virt dX5_ill_42 kX5_124 (as := [_]) rfl rfl (by first | assumption | rfl) (by omega) (Nat.le_of_ble_eq_true rfl) (gw_Rm_m (by omega) (by decide) (by decide)) (m_isChord (x := (c : Int)) (S := S) (d + 3) hK (by rw [e1]; exact v2) z2 (by unfold gw_in; omega)) ?_
                    rintro _ _ ⟨rfl, rfl⟩
                    by_cases h1 : 0 ≤ (c : Int) ∧ (c : Int) < (S : Int)
                    · rw [if_pos h1]
                      refine gr_if_eq 124 dX5_ill_45 (by decide) (by unfold gw_in; omega) (fun h45 => ?_) (fun h45 => ?_)
                      · omega
                      · refine gr_aload_n dX5_ill_48 rfl ?_
                        refine gr_aload_n dX5_ill_49 rfl ?_
                        refine gr_getR dX5_ill_50 fX5_26 (by first | assumption | rfl) (by omega) (by decide) rfl (by assumption) ?_
                        refine gr_iload dX5_ill_53 rfl ?_
                        refine gr_iald (i := h) dX5_ill_55 (by first | assumption | rfl) (by omega) (by omega) (by omega) (by decide) ?_
                        rw [e105]
                        refine gr_aload_n dX5_ill_56 rfl ?_
                        refine gr_getR dX5_ill_57 fX5_13 (by first | assumption | rfl) (by omega) (by decide) rfl (by assumption) ?_
                        refine gr_bipush dX5_ill_60 (by decide) ?_
                        refine gr_iald (i := 33) dX5_ill_62 (by first | assumption | rfl) (by omega) (by omega) (by omega) (by decide) ?_
                        rw [e1, h33]
                        refine gr_iconst dX5_ill_63 ?_
                        refine gr_iload_n dX5_ill_64 rfl ?_
                        refine gr_ishl (v := ((2 ^ p : Nat) : Int)) dX5_ill_65 (ga_p1 (by omega)) ?_
                        refine gr_iconst dX5_ill_66 ?_
                        refine gr_ixor (v := (Int32.ofInt ((2 ^ p : Nat) : Int) ^^^ Int32.ofInt (-1)).toInt) dX5_ill_67 (gw_ofInt _).symm ?_
                        refine gr_iand (v := ((m - 2 ^ p : Nat) : Int)) dX5_ill_68 (by rw [gw_ofInt]; exact hn1) ?_
                        refine gr_aload_n dX5_ill_69 rfl ?_
                        refine gr_getR dX5_ill_70 fX5_13 (by first | assumption | rfl) (by omega) (by decide) rfl (by assumption) ?_
                        refine gr_bipush dX5_ill_73 (by decide) ?_
                        refine gr_iald (i := 35) dX5_ill_75 (by first | assumption | rfl) (by omega) (by omega) (by omega) (by decide) ?_
                        rw [e1, h35]
                        refine gr_virt dX5_ill_76 kX5_166 (as := [_, _, _]) rfl rfl (by first | assumption | rfl) (by omega) (Nat.le_of_ble_eq_true rfl) (gw_Rm_m (by omega) (by decide) (by decide)) (m_laysSpreads (c := c) (set := m - 2 ^ p) (bal := A 19 3) (d + 0) hK (gm_sa_V t1 hV) hS (by omega) (Nat.lt_of_le_of_lt (Nat.sub_le _ _) hset) hbal) ?_
                        rintro _ _ ⟨rfl, J3, rfl, hJ3, hrow⟩
                        have u1 : gm_sa J J3 := gm_sa_tr t1 (fun a i q1 q2 => hJ3 a i (by omega) (by omega))
                        have f105 : J3 105 h = (c : Int) := by rw [gm_sa_e u1 (by omega) (by omega), rh1]; exact hc
                        have f106 : J3 106 h = A 74 h := by rw [gm_sa_e u1 (by omega) (by omega), rh2]
                        have hl := gm_L_len (set := m - 2 ^ p) (bal := A 19 3) (c := c) hS
                        refine gr_aload_n dX5_ill_79 rfl ?_
                        refine gr_getR dX5_ill_80 fX5_44 (by first | assumption | rfl) (by omega) (by decide) rfl (by assumption) ?_
                        refine gr_aload_n dX5_ill_83 rfl ?_
                        refine gr_getR dX5_ill_84 fX5_26 (by first | assumption | rfl) (by omega) (by decide) rfl (by assumption) ?_
                        refine gr_iload dX5_ill_87 rfl ?_
                        refine gr_iald (i := h) dX5_ill_89 (by first | assumption | rfl) (by omega) (by omega) (by omega) (by decide) ?_
                        rw [f105]
                        refine gr_iald (i := c) dX5_ill_90 (by first | assumption | rfl) (by omega) (by omega) (by omega) (by decide) ?_
                        rw [hrow.1]
                        have hgs : g (h + 1) = decide (0 < (gm_L P B (A 20) (m - 2 ^ p) (A 19 3) c).length ↔ A 74 h = 1) := by
                          rw [hgs]
                          simp only [show (c : Int) < (S : Int) from h1.2, true_imp_iff]
                        generalize (gm_L P B (A 20) (m - 2 ^ p) (A 19 3) c).length = gn at hgs hl
                        have nxt := ihi (h + 1) J3 (by omega) u1
                        refine gr_if_le 98 dX5_ill_91 (by decide) (by unfold gw_in; omega) (fun h91 => ?_) (fun h91 => ?_)
                        · refine gr_iconst dX5_ill_98 ?_
                          refine gr_aload_n dX5_ill_99 rfl ?_
                          refine gr_getR dX5_ill_100 fX5_29 (by first | assumption | rfl) (by omega) (by decide) rfl (by assumption) ?_
                          refine gr_iload dX5_ill_103 rfl ?_
                          refine gr_iald (i := h) dX5_ill_105 (by first | assumption | rfl) (by omega) (by omega) (by omega) (by decide) ?_
                          refine gr_iconst dX5_ill_106 ?_
                          rw [f106]
                          refine gr_icmp_ne 114 dX5_ill_107 (by decide) (by unfold gw_in; omega) (by unfold gw_in; omega) (fun h107 => ?_) (fun h107 => ?_)
                          · rw [show g (h + 1) = true by rw [hgs, decide_eq_true_eq]; exact ⟨fun q => by omega, fun q => absurd q h107⟩, if_pos rfl] at nxt
                            refine gr_iconst dX5_ill_114 ?_
                            refine gr_icmp_ne 122 dX5_ill_115 (by decide) (by unfold gw_in; omega) (by unfold gw_in; omega) (fun h115 => ?_) (fun h115 => ?_)
                            · omega
                            · refine gr_iconst dX5_ill_118 ?_
                              refine gr_goto 123 dX5_ill_119 (by decide) ?_
                              refine gr_istore_n dX5_ill_123 (by decide) ?_
                              refine gr_iinc (v := ((h + 1 : Nat) : Int)) dX5_ill_124 (by decide) rfl (by omega) ?_
                              refine gr_goto 21 dX5_ill_127 (by decide) ?_
                              exact nxt
                          · rw [show g (h + 1) = false by rw [hgs, decide_eq_false_iff_not]; exact fun q => by have := q.mpr h107; omega, if_neg (by decide)] at nxt
                            refine gr_iconst dX5_ill_110 ?_
                            refine gr_goto 115 dX5_ill_111 (by decide) ?_
                            refine gr_icmp_ne 122 dX5_ill_115 (by decide) (by unfold gw_in; omega) (by unfold gw_in; omega) (fun h115 => ?_) (fun h115 => ?_)
                            · refine gr_iconst dX5_ill_122 ?_
                              refine gr_istore_n dX5_ill_123 (by decide) ?_
                              refine gr_iinc (v := ((h + 1 : Nat) : Int)) dX5_ill_124 (by decide) rfl (by omega) ?_
                              refine gr_goto 21 dX5_ill_127 (by decide) ?_
                              exact nxt
                            · omega
                        · refine gr_iconst dX5_ill_94 ?_
                          refine gr_goto 99 dX5_ill_95 (by decide) ?_
                          refine gr_aload_n dX5_ill_99 rfl ?_
                          refine gr_getR dX5_ill_100 fX5_29 (by first | assumption | rfl) (by omega) (by decide) rfl (by assumption) ?_
                          refine gr_iload dX5_ill_103 rfl ?_
                          refine gr_iald (i := h) dX5_ill_105 (by first | assumption | rfl) (by omega) (by omega) (by omega) (by decide) ?_
                          refine gr_iconst dX5_ill_106 ?_
                          rw [f106]
                          refine gr_icmp_ne 114 dX5_ill_107 (by decide) (by unfold gw_in; omega) (by unfold gw_in; omega) (fun h107 => ?_) (fun h107 => ?_)
                          · rw [show g (h + 1) = false by rw [hgs, decide_eq_false_iff_not]; exact fun q => h107 (q.mp (by omega)), if_neg (by decide)] at nxt
                            refine gr_iconst dX5_ill_114 ?_
                            refine gr_icmp_ne 122 dX5_ill_115 (by decide) (by unfold gw_in; omega) (by unfold gw_in; omega) (fun h115 => ?_) (fun h115 => ?_)
                            · refine gr_iconst dX5_ill_122 ?_
                              refine gr_istore_n dX5_ill_123 (by decide) ?_
                              refine gr_iinc (v := ((h + 1 : Nat) : Int)) dX5_ill_124 (by decide) rfl (by omega) ?_
                              refine gr_goto 21 dX5_ill_127 (by decide) ?_
                              exact nxt
                            · omega
                          · rw [show g (h + 1) = true by rw [hgs, decide_eq_true_eq]; exact ⟨fun _ => h107, fun _ => by omega⟩, if_pos rfl] at nxt
                            refine gr_iconst dX5_ill_110 ?_
                            refine gr_goto 115 dX5_ill_111 (by decide) ?_
                            refine gr_icmp_ne 122 dX5_ill_115 (by decide) (by unfold gw_in; omega) (by unfold gw_in; omega) (fun h115 => ?_) (fun h115 => ?_)
                            · omega
                            · refine gr_iconst dX5_ill_118 ?_
                              refine gr_goto 123 dX5_ill_119 (by decide) ?_
                              refine gr_istore_n dX5_ill_123 (by decide) ?_
                              refine gr_iinc (v := ((h + 1 : Nat) : Int)) dX5_ill_124 (by decide) rfl (by omega) ?_
                              refine gr_goto 21 dX5_ill_127 (by decide) ?_
                              exact nxt
                    · rw [if_neg h1]
                      have nxt := ihi (h + 1) J2 (by omega) t1
                      rw [show g (h + 1) = true by rw [hgs, decide_eq_true_eq]; exact fun q => absurd q (by omega), if_pos rfl] at nxt
                      refine gr_if_eq 124 dX5_ill_45 (by decide) (by unfold gw_in; omega) (fun h45 => ?_) (fun h45 => ?_)
                      · refine gr_iinc (v := ((h + 1 : Nat) : Int)) dX5_ill_124 (by decide) rfl (by omega) ?_
                        refine gr_goto 21 dX5_ill_127 (by decide) ?_
                        exact nxt
                      · omega
          have l0 := loop H 0 J1 (by omega) hsa
          rw [show g 0 = true by rw [← hg]; rfl, if_pos rfl] at l0
          exact l0
        · rw [if_neg hb]
          have hqf : q p = false := by rw [← hq]; simp only [hb, decide_false, Bool.false_and]
          rw [hqf, if_neg (by decide)] at fin
          refine gr_iload dX5_ill_21 rfl ?_
          refine gr_aload_n dX5_ill_23 rfl ?_
          refine gr_getI dX5_ill_24 fX5_69 (by first | assumption | rfl) (by omega) (by decide) rfl ?_
          rw [e7 J1 hsa]
          refine gr_icmp_ge 130 dX5_ill_27 (by decide) (by unfold gw_in; omega) (by unfold gw_in; omega) (fun h27 => ?_) (fun h27 => ?_)
          · exact fin J1 _ hsa
          · refine gr_iload_n dX5_ill_30 rfl ?_
            refine gr_if_eq 130 dX5_ill_31 (by decide) (by unfold gw_in; omega) (fun h31 => ?_) (fun h31 => ?_)
            · exact fin J1 _ hsa
            · omega
  exact key P 0 J _ _ (by omega) gm_sa_rf
end GM
