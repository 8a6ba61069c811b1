/-! THE REFERENCE: laysScore -/
section GM
variable {J : Nat → Nat → Int} {F : Nat → Nat → Option Nat} {P S : Nat} {B : Nat → Nat → Int} {N : Nat → Int} {rest : Int}
/-- the answer of laysScore -/
def gm_res (P : Nat) (B : Nat → Nat → Int) (N : Nat → Int) (rest : Int) (set : Nat) (bal : Int) (n : Nat) (r : Int) : Prop := (0 ≤ r ∧ r ≤ 1000000) ∧ ∀ b : Int, b < 1000000 → (r ≤ b ↔ (n = 0 ∧ 0 ≤ b ∨ 0 < n ∧ ∃ j, j < (gm_L P B N set bal 0).length ∧ gs_pay P B N rest set bal (n - 1) 0 ((gm_L P B N set bal 0).getD j 0) b = true))
abbrev gm_sc (J J' : Nat → Nat → Int) : Prop := ∀ a i, a ≠ 110 → a ≠ 111 → a ≠ 112 → J' a i = J a i
theorem gm_sc_V {J' : Nat → Nat → Int} (h : gm_sc J J') (hV : gm_V J P B N S rest) : gm_V J' P B N S rest := gm_V_c hV (h 99 0 (by omega) (by omega) (by omega)) (funext fun i => h 100 i (by omega) (by omega) (by omega)) (funext fun i => h 101 i (by omega) (by omega) (by omega))
theorem m_laysScore {set n : Nat} {bal : Int} (d : Nat) (hK : gm_K F) (hV : gm_V J P B N S rest) (hS : gm_S P B N S rest) (hn : n ≤ S) (hset : set < 16) (hb : 0 ≤ bal ∧ bal ≤ 30) : gw_Met jX5_laysScore (d + 5) [.inr (some 99), .inl (set : Int), .inl bal, .inl (n : Int)] (114, J, F) (gw_io F (fun r J' => gm_sc J J' ∧ (∀ c, c < n → gm_pr J' P B N rest set bal n c) ∧ gm_res P B N rest set bal n r)) := by
  obtain ⟨g1, g2, g4, g5, g6, g8, g9, g11, g12, g14, g18, g19, g20, g21⟩ := id hK
  obtain ⟨s1, s2, s3, s4, s5, s6, s7, s8⟩ := id hS
  generalize hQ : gw_io F (fun r J' => gm_sc J J' ∧ (∀ c, c < n → gm_pr J' P B N rest set bal n c) ∧ gm_res P B N rest set bal n r) = Q
  have main : ∀ (m : Nat) (least : Int) (J1 : Nat → Nat → Int) (x6 : Option gw_V), m ≤ n → gm_sc J J1 → (∀ c, m ≤ c → c < n → gm_pr J1 P B N rest set bal n c) → (0 < m → least = 1000000) → (m = 0 → gm_res P B N rest set bal n least) → gw_G (gw_Cm jX5_laysScore (d + 5) Q) jX5_laysScore 17 [some (.inr (some 99)), some (.inl (set : Int)), some (.inl bal), some (.inl (n : Int)), some (.inl least), some (.inl ((m : Int) - 1)), x6] [] (114, J1, F) 0 0 := by
    intro m
    induction m with
    | zero =>
      intro least J1 x6 hm hJ hpr h1 h2
      refine gr_iload dX5_laysScore_17 rfl ?_
      refine gr_if_lt 118 dX5_laysScore_19 (by decide) (by unfold gw_in; omega) (fun h19 => ?_) (fun h19 => ?_)
      · refine gr_iload dX5_laysScore_118 rfl ?_
        refine gr_iret dX5_laysScore_120 (by first | exact Or.inl rfl | exact Or.inr ⟨rfl, by omega⟩) (by decide) (by decide) ((hQ ▸ ⟨_, _, rfl, rfl, hJ, fun c hc => hpr c (by omega) hc, h2 rfl⟩))
      · omega
    | succ c ih =>
      intro least J1 x6 hm hJ hpr h1 h2
      rw [show ((c + 1 : Nat) : Int) - 1 = (c : Int) by omega]
      have hl1 := h1 (by omega)
      refine gr_iload dX5_laysScore_17 rfl ?_
      refine gr_if_lt 118 dX5_laysScore_19 (by decide) (by unfold gw_in; omega) (fun h19 => ?_) (fun h19 => ?_)
      · omega
      · refine gr_aload_n dX5_laysScore_22 rfl ?_
        refine gr_iload dX5_laysScore_23 rfl ?_
        refine gr_iload_n dX5_laysScore_25 rfl ?_
        refine gr_iload_n dX5_laysScore_26 rfl ?_
        refine gr_virt dX5_laysScore_27 kX5_166 (as := [_, _, _]) rfl rfl (by first | assumption | rfl) (by omega) (Nat.le_of_ble_eq_true rfl) (gw_Rm_m (by omega) (by decide) (by decide)) (m_laysSpreads (c := c) (set := set) (bal := bal) (d + 0) hK (gm_sc_V hJ hV) hS (by omega) hset hb) ?_
        rintro _ _ ⟨rfl, J2, rfl, hJ2, hrow⟩
        have hlen := gm_L_len (set := set) (bal := bal) (c := c) hS
        refine gr_iconst dX5_laysScore_30 ?_
        refine gr_istore dX5_laysScore_31 (by decide) ?_
        generalize hL : gm_L P B N set bal c = L at hrow hlen
        have inner : ∀ (m k : Nat) (least : Int) (J3 : Nat → Nat → Int), k + m = L.length → (∀ a i, ¬ (a = 112 ∧ 784 * c ≤ i ∧ i < 784 * c + 784) → J3 a i = J2 a i) → (∀ j, j < k → (0 ≤ J3 112 (784 * c + j) ∧ J3 112 (784 * c + j) ≤ 1000000) ∧ ∀ b : Int, b < 1000000 → (J3 112 (784 * c + j) ≤ b ↔ gs_pay P B N rest set bal (n - 1 - c) c (L.getD j 0) b = true)) → (0 ≤ least ∧ least ≤ 1000000) → (0 < c → least = 1000000) → (c = 0 → ∀ b : Int, b < 1000000 → (least ≤ b ↔ ∃ j, j < k ∧ gs_pay P B N rest set bal (n - 1) 0 (L.getD j 0) b = true)) → gw_G (gw_Cm jX5_laysScore (d + 5) Q) jX5_laysScore 33 [some (.inr (some 99)), some (.inl (set : Int)), some (.inl bal), some (.inl (n : Int)), some (.inl least), some (.inl (c : Int)), some (.inl (k : Int))] [] (114, J3, F) 0 0 := by
          intro m
          induction m with
          | zero =>
            intro k least J3 hk hJ3 hpay hl0 hl1 hl2
            have e1 : J3 111 c = (L.length : Int) := by rw [hJ3 111 c (by omega)]; exact hrow.1
            refine gr_iload dX5_laysScore_33 rfl ?_
            refine gr_aload_n dX5_laysScore_35 rfl ?_
            refine gr_getR dX5_laysScore_36 fX5_44 (by first | assumption | rfl) (by omega) (by decide) rfl (by assumption) ?_
            refine gr_iload dX5_laysScore_39 rfl ?_
            refine gr_iald (i := c) dX5_laysScore_41 (by first | assumption | rfl) (by omega) (by omega) (by omega) (by decide) ?_
            rw [e1]
            refine gr_icmp_ge 112 dX5_laysScore_42 (by decide) (by unfold gw_in; omega) (by unfold gw_in; omega) (fun h42 => ?_) (fun h42 => ?_)
            · refine gr_iinc (v := (c : Int) - 1) dX5_laysScore_112 (by decide) rfl (by omega) ?_
              refine gr_goto 17 dX5_laysScore_115 (by decide) ?_
              refine ih least J3 _ (by omega) (fun a i q1 q2 q3 => ?_) (fun c' q1 q2 => ?_) hl1 (fun hc0 => ?_)
              · rw [hJ3 a i (by omega), hJ2 a i (by omega) (by omega)]; exact hJ a i q1 q2 q3
              · by_cases hcc : c' = c
                · subst hcc
                  refine ⟨⟨by rw [hL]; exact e1, fun j hj => ?_⟩, fun j hj => ?_⟩
                  · rw [hL] at hj ⊢
                    rw [hJ3 110 _ (by omega)]; exact hrow.2 j hj
                  · rw [hL] at hj ⊢
                    exact hpay j (by omega)
                · refine gm_pr_c hS ?_ (fun i _ _ => ?_) (fun i _ _ => ?_) (hpr c' (by omega) q2)
                  · rw [hJ3 111 c' (by omega), hJ2 111 c' (by omega) (by omega)]
                  · rw [hJ3 110 i (by omega), hJ2 110 i (by omega) (by omega)]
                  · rw [hJ3 112 i (by omega), hJ2 112 i (by omega) (by omega)]
              · refine ⟨hl0, fun b hb => ?_⟩
                subst hc0
                rw [hl2 rfl b hb, hL, show k = L.length by omega]
                constructor
                · intro q; exact Or.inr ⟨by omega, q⟩
                · rintro (⟨q, _⟩ | ⟨_, q⟩)
                  · omega
                  · exact q
            · omega
          | succ m ihk =>
            intro k least J3 hk hJ3 hpay hl0 hl1 hl2
            have e1 : J3 111 c = (L.length : Int) := by rw [hJ3 111 c (by omega)]; exact hrow.1
            have hsc3 : gm_sc J J3 := fun a i q1 q2 q3 => by rw [hJ3 a i (by omega), hJ2 a i (by omega) (by omega)]; exact hJ a i q1 q2 q3
            have hkm : L.getD k 0 ∈ gs_SP P B N set c := by
              have := gs_mem_getD (L := L) (s := k) (by omega)
              exact (List.mem_filter.mp ((congrArg (fun l => L.getD k 0 ∈ l) hL).mpr this)).1
            refine gr_iload dX5_laysScore_33 rfl ?_
            refine gr_aload_n dX5_laysScore_35 rfl ?_
            refine gr_getR dX5_laysScore_36 fX5_44 (by first | assumption | rfl) (by omega) (by decide) rfl (by assumption) ?_
            refine gr_iload dX5_laysScore_39 rfl ?_
            refine gr_iald (i := c) dX5_laysScore_41 (by first | assumption | rfl) (by omega) (by omega) (by omega) (by decide) ?_
            rw [e1]
            refine gr_icmp_ge 112 dX5_laysScore_42 (by decide) (by unfold gw_in; omega) (by unfold gw_in; omega) (fun h42 => ?_) (fun h42 => ?_)
            · omega
            · refine gr_aload_n dX5_laysScore_45 rfl ?_
              refine gr_getR dX5_laysScore_46 fX5_47 (by first | assumption | rfl) (by omega) (by decide) rfl (by assumption) ?_
              refine gr_sipush dX5_laysScore_49 (by decide) ?_
              refine gr_iload dX5_laysScore_52 rfl ?_
              refine gr_imul dX5_laysScore_54 rfl ?_
              refine gr_iload dX5_laysScore_55 rfl ?_
              refine gr_iadd dX5_laysScore_57 rfl ?_
              refine gr_aload_n dX5_laysScore_58 rfl ?_
              refine gr_iload dX5_laysScore_59 rfl ?_
              refine gr_aload_n dX5_laysScore_61 rfl ?_
              refine gr_getR dX5_laysScore_62 fX5_41 (by first | assumption | rfl) (by omega) (by decide) rfl (by assumption) ?_
              refine gr_sipush dX5_laysScore_65 (by decide) ?_
              refine gr_iload dX5_laysScore_68 rfl ?_
              refine gr_imul dX5_laysScore_70 rfl ?_
              refine gr_iload dX5_laysScore_71 rfl ?_
              refine gr_iadd dX5_laysScore_73 rfl ?_
              refine gr_iald (i := 784 * c + k) dX5_laysScore_74 (by first | assumption | rfl) (by omega) (by omega) (by omega) (by decide) ?_
              refine gr_iload_n dX5_laysScore_75 rfl ?_
              rw [show J3 110 (784 * c + k) = ((L.getD k 0 : Nat) : Int) by rw [hJ3 110 _ (by omega)]; exact hrow.2 k (by omega)]
              refine gr_virt dX5_laysScore_76 kX5_177 (as := [_, _, _]) rfl rfl (by first | assumption | rfl) (by omega) (Nat.le_of_ble_eq_true rfl) (gw_Rm_m (by omega) (by decide) (by decide)) (m_leastBehind (c := c) (k := L.getD k 0) (set := set) (n := n) (bal := bal) (d + 1) hK (gm_sc_V hsc3 hV) hS (by omega) hn hkm (fun hc1 => gm_pr_c hS (by rw [hJ3 111 _ (by omega), hJ2 111 _ (by omega) (by omega)]) (fun i _ _ => by rw [hJ3 110 i (by omega), hJ2 110 i (by omega) (by omega)]) (fun i _ _ => by rw [hJ3 112 i (by omega), hJ2 112 i (by omega) (by omega)]) (hpr (c + 1) (by omega) hc1))) ?_
              rintro _ _ ⟨r, J9, rfl, rfl, e9, hr1, hr2⟩
              rw [e9]
              refine gr_iast (i := 784 * c + k) dX5_laysScore_79 (by first | assumption | rfl) (by omega) (by omega) (by omega) (by decide) ?_
              refine gr_iload dX5_laysScore_80 rfl ?_
              have e4 : ∀ a i, ¬ (a = 112 ∧ 784 * c ≤ i ∧ i < 784 * c + 784) → gw_U J3 112 (784 * c + k) r a i = J2 a i := fun a i q => by rw [gw_U_n (by omega)]; exact hJ3 a i q
              have p4 : ∀ j, j < k + 1 → (0 ≤ gw_U J3 112 (784 * c + k) r 112 (784 * c + j) ∧ gw_U J3 112 (784 * c + k) r 112 (784 * c + j) ≤ 1000000) ∧ ∀ b : Int, b < 1000000 → (gw_U J3 112 (784 * c + k) r 112 (784 * c + j) ≤ b ↔ gs_pay P B N rest set bal (n - 1 - c) c (L.getD j 0) b = true) := by
                intro j hj
                by_cases hjk : j = k
                · subst hjk; rw [gw_U_s]; exact ⟨hr1, hr2⟩
                · rw [gw_U_n (by omega)]; exact hpay j (by omega)
              have nxt := fun least h0 h1 h2 => ihk (k + 1) least _ (by omega) e4 p4 h0 h1 h2
              refine gr_if_ne 106 dX5_laysScore_82 (by decide) (by unfold gw_in; omega) (fun h82 => ?_) (fun h82 => ?_)
              · refine gr_iinc (v := ((k + 1 : Nat) : Int)) dX5_laysScore_106 (by decide) rfl (by omega) ?_
                refine gr_goto 33 dX5_laysScore_109 (by decide) ?_
                exact nxt least hl0 hl1 (fun q => by omega)
              · have hc0 : c = 0 := by omega
                subst hc0
                refine gr_aload_n dX5_laysScore_85 rfl ?_
                refine gr_getR dX5_laysScore_86 fX5_47 (by first | assumption | rfl) (by omega) (by decide) rfl (by assumption) ?_
                refine gr_iload dX5_laysScore_89 rfl ?_
                refine gr_iald (i := k) dX5_laysScore_91 (by first | assumption | rfl) (by omega) (by omega) (by omega) (by decide) ?_
                rw [show gw_U J3 112 (784 * 0 + k) r 112 k = r by rw [show 784 * 0 + k = k by omega]; exact gw_U_s]
                refine gr_iload dX5_laysScore_92 rfl ?_
                refine gr_icmp_ge 106 dX5_laysScore_94 (by decide) (by unfold gw_in; omega) (by unfold gw_in; omega) (fun h94 => ?_) (fun h94 => ?_)
                · refine gr_iinc (v := ((k + 1 : Nat) : Int)) dX5_laysScore_106 (by decide) rfl (by omega) ?_
                  refine gr_goto 33 dX5_laysScore_109 (by decide) ?_
                  refine nxt least hl0 hl1 (fun _ b hb => ?_)
                  rw [hl2 rfl b hb]
                  constructor
                  · rintro ⟨j, q1, q2⟩; exact ⟨j, by omega, q2⟩
                  · rintro ⟨j, q1, q2⟩
                    by_cases hjk : j = k
                    · subst hjk
                      have := (hr2 b hb).mpr q2
                      exact (hl2 rfl b hb).mp (by omega)
                    · exact ⟨j, by omega, q2⟩
                · refine gr_aload_n dX5_laysScore_97 rfl ?_
                  refine gr_getR dX5_laysScore_98 fX5_47 (by first | assumption | rfl) (by omega) (by decide) rfl (by assumption) ?_
                  refine gr_iload dX5_laysScore_101 rfl ?_
                  refine gr_iald (i := k) dX5_laysScore_103 (by first | assumption | rfl) (by omega) (by omega) (by omega) (by decide) ?_
                  rw [show gw_U J3 112 (784 * 0 + k) r 112 k = r by rw [show 784 * 0 + k = k by omega]; exact gw_U_s]
                  refine gr_istore dX5_laysScore_104 (by decide) ?_
                  refine gr_iinc (v := ((k + 1 : Nat) : Int)) dX5_laysScore_106 (by decide) rfl (by omega) ?_
                  refine gr_goto 33 dX5_laysScore_109 (by decide) ?_
                  refine nxt r hr1 (fun q => by omega) (fun _ b hb => ?_)
                  constructor
                  · intro q; exact ⟨k, by omega, (hr2 b hb).mp q⟩
                  · rintro ⟨j, q1, q2⟩
                    by_cases hjk : j = k
                    · subst hjk; exact (hr2 b hb).mpr q2
                    · have := (hl2 rfl b hb).mpr ⟨j, by omega, q2⟩
                      omega
        refine inner L.length 0 least J2 (by omega) (fun _ _ _ => rfl) (fun j hj => absurd hj (by omega)) (by omega) (fun _ => hl1) (fun _ b hb => ⟨fun q => by omega, fun ⟨j, q, _⟩ => absurd q (by omega)⟩)
  refine gw_enter okX5_laysScore rfl (Nat.le_of_ble_eq_true rfl) ?_
  refine gr_iload_n dX5_laysScore_0 rfl ?_
  refine gr_if_ne 8 dX5_laysScore_1 (by decide) (by unfold gw_in; omega) (fun h1 => ?_) (fun h1 => ?_)
  · refine gr_ldc dX5_laysScore_8 nX5_155 ?_
    refine gr_istore dX5_laysScore_10 (by decide) ?_
    refine gr_iload_n dX5_laysScore_12 rfl ?_
    refine gr_iconst dX5_laysScore_13 ?_
    refine gr_isub dX5_laysScore_14 rfl ?_
    refine gr_istore dX5_laysScore_15 (by decide) ?_
    exact main n 1000000 J _ (Nat.le_refl _) (fun _ _ _ _ _ => rfl) (fun c q1 q2 => absurd q1 (by omega)) (fun _ => rfl) (fun q => by omega)
  · refine gr_iconst dX5_laysScore_4 ?_
    refine gr_goto 10 dX5_laysScore_5 (by decide) ?_
    refine gr_istore dX5_laysScore_10 (by decide) ?_
    refine gr_iload_n dX5_laysScore_12 rfl ?_
    refine gr_iconst dX5_laysScore_13 ?_
    refine gr_isub dX5_laysScore_14 rfl ?_
    refine gr_istore dX5_laysScore_15 (by decide) ?_
    exact main n 0 J _ (Nat.le_refl _) (fun _ _ _ _ _ => rfl) (fun c q1 q2 => absurd q1 (by omega)) (fun q => by omega) (fun q => ⟨by omega, fun b hb => ⟨fun h => Or.inl ⟨q, h⟩, fun h => by omega⟩⟩)
theorem gm_any {set : Nat} {bal : Int} {c : Nat} {q : Nat → Bool} : ((gs_SP P B N set c).any (fun k => gs_EV B N bal c k && q k)) = true ↔ ∃ j, j < (gm_L P B N set bal c).length ∧ q ((gm_L P B N set bal c).getD j 0) = true := by
  rw [List.any_eq_true]
  constructor
  · rintro ⟨k, h1, h2⟩
    rw [Bool.and_eq_true] at h2
    have : k ∈ gm_L P B N set bal c := List.mem_filter.mpr ⟨h1, h2.1⟩
    obtain ⟨j, hj, rfl⟩ := gs_getD_of_mem this
    exact ⟨j, hj, h2.2⟩
  · rintro ⟨j, h1, h2⟩
    obtain ⟨q1, q2⟩ := List.mem_filter.mp (gs_mem_getD h1)
    exact ⟨_, q1, by rw [Bool.and_eq_true]; exact ⟨q2, h2⟩⟩
theorem gm_res_fea {set : Nat} {bal : Int} {n : Nat} {r : Int} (hS : gm_S P B N S rest) (hn : n ≤ S) (h : gm_res P B N rest set bal n r) : r ≠ 1000000 ↔ gs_fea P B N rest set bal n = true := by
  obtain ⟨s1, s2, s3, s4, s5, s6, s7, s8⟩ := id hS
  obtain ⟨h1, h2⟩ := h
  unfold gs_fea
  rw [decide_eq_true_eq]
  by_cases h0 : n = 0
  · have := (h2 0 (by omega)).mpr (Or.inl ⟨h0, by omega⟩)
    exact ⟨fun _ => Or.inl h0, fun _ => by omega⟩
  · rw [gm_any]
    constructor
    · intro hr
      rcases (h2 999999 (by omega)).mp (by omega) with q | ⟨-, j, q1, q2⟩
      · omega
      · have := gs_pay_bd P B N rest set bal s5 s8 (by omega) q2
        exact Or.inr ⟨j, q1, gs_pay_mono P B N rest set bal (by omega) this⟩
    · rintro (q | ⟨j, q1, q2⟩)
      · omega
      · have := (h2 2000 (by omega)).mpr (Or.inr ⟨by omega, j, q1, q2⟩)
        omega
theorem gm_res_cost {set : Nat} {bal : Int} {n : Nat} {r : Int} (hS : gm_S P B N S rest) (hn : n ≤ S) (h : gm_res P B N rest set bal n r) : (r = 1000000 ∧ gs_cost P B N rest set bal n = none) ∨ ∃ L : Nat, r = (L : Int) ∧ L < 2000 ∧ gs_cost P B N rest set bal n = some L := by
  obtain ⟨s1, s2, s3, s4, s5, s6, s7, s8⟩ := id hS
  have hf := gm_res_fea hS hn h
  obtain ⟨h1, h2⟩ := h
  by_cases h0 : n = 0
  · have := (h2 0 (by omega)).mpr (Or.inl ⟨h0, by omega⟩)
    exact Or.inr ⟨0, by omega, by omega, by unfold gs_cost; rw [if_pos h0]⟩
  · by_cases hr : r = 1000000
    · refine Or.inl ⟨hr, ?_⟩
      unfold gs_cost
      rw [if_neg h0, List.find?_eq_none]
      intro b hb hq
      have hb := List.mem_range.mp hb
      obtain ⟨j, q1, q2⟩ := gm_any.mp hq
      have := (h2 (b : Int) (by omega)).mpr (Or.inr ⟨by omega, j, q1, q2⟩)
      omega
    · obtain ⟨L, hL⟩ : ∃ L : Nat, r = (L : Int) := ⟨r.toNat, by omega⟩
      have hL2 : L < 2000 := by
        rcases (h2 999999 (by omega)).mp (by omega) with q | ⟨-, j, q1, q2⟩
        · omega
        · have a := gs_pay_bd P B N rest set bal s5 s8 (by omega) q2
          have := (h2 (252 * ((n - 1 : Nat) : Int)) (by omega)).mpr (Or.inr ⟨by omega, j, q1, a⟩)
          omega
      refine Or.inr ⟨L, hL, hL2, ?_⟩
      unfold gs_cost
      rw [if_neg h0, List.find?_eq_some_iff_getElem]
      refine ⟨?_, L, by rw [List.length_range]; exact hL2, by rw [List.getElem_range], fun j hj => ?_⟩
      · rcases (h2 (L : Int) (by omega)).mp (by omega) with q | ⟨-, q⟩
        · omega
        · exact gm_any.mpr q
      · rw [List.getElem_range]
        cases hz : ((gs_SP P B N set 0).any (fun k => gs_EV B N bal 0 k && gs_pay P B N rest set bal (n - 1) 0 k (j : Int))) with
        | false => rfl
        | true =>
          have := (h2 (j : Int) (by omega)).mpr (Or.inr ⟨by omega, gm_any.mp hz⟩)
          omega
theorem gm_find {set : Nat} {bal : Int} {c t : Nat} {q : Nat → Bool} (ht : t < (gm_L P B N set bal c).length) (h1 : q ((gm_L P B N set bal c).getD t 0) = true) (h2 : ∀ s, s < t → q ((gm_L P B N set bal c).getD s 0) = false) : ((gs_SP P B N set c).find? (fun k => gs_EV B N bal c k && q k)).getD 0 = (gm_L P B N set bal c).getD t 0 := by
  rw [← gs_find (L := gm_L P B N set bal c) (q := q) ht h1 h2, List.find?_filter]
  congr 2
  funext k
  simp only [Bool.decide_and, Bool.decide_eq_true]
theorem m_laysFirst {set : Nat} {bal : Int} (d : Nat) (hK : gm_K F) (hV : gm_V J P B N S rest) (hS : gm_S P B N S rest) (hset : set < 16) (hb : 0 ≤ bal ∧ bal ≤ 30) (h33 : J 101 33 = (set : Int)) (h35 : J 101 35 = bal) : gw_Met jX5_laysFirst (d + 6) [.inr (some 99)] (114, J, F) (gw_io F (fun r J' => (∀ a i, (a < 110 ∨ 113 < a) → ¬ (a = 99 ∧ i = 22) → J' a i = J a i) ∧ match gs_cost P B N rest set bal S with
    | none => r = 0
    | some L => r = 1 ∧ J' 99 22 = (L : Int) ∧ ∀ c, c < S → J' 113 c = (((gs_K P B N rest set bal S L c).1 : Nat) : Int) ∧ (gs_K P B N rest set bal S L c).1 ∈ gs_SP P B N set c ∧ (c + 1 < S → gs_can B N rest c (gs_K P B N rest set bal S L c).1 (c + 1) (gs_K P B N rest set bal S L (c + 1)).1 = true))) := by
  obtain ⟨g1, g2, g4, g5, g6, g8, g9, g11, g12, g14, g18, g19, g20, g21⟩ := id hK
  obtain ⟨v0, v1, v2, v3, v4⟩ := id hV
  obtain ⟨s1, s2, s3, s4, s5, s6, s7, s8⟩ := id hS
  generalize hQ : gw_io F (fun r J' => (∀ a i, (a < 110 ∨ 113 < a) → ¬ (a = 99 ∧ i = 22) → J' a i = J a i) ∧ match gs_cost P B N rest set bal S with
    | none => r = 0
    | some L => r = 1 ∧ J' 99 22 = (L : Int) ∧ ∀ c, c < S → J' 113 c = (((gs_K P B N rest set bal S L c).1 : Nat) : Int) ∧ (gs_K P B N rest set bal S L c).1 ∈ gs_SP P B N set c ∧ (c + 1 < S → gs_can B N rest c (gs_K P B N rest set bal S L c).1 (c + 1) (gs_K P B N rest set bal S L (c + 1)).1 = true)) = Q
  refine gw_enter okX5_laysFirst rfl (Nat.le_of_ble_eq_true rfl) ?_
  refine gr_aload_n dX5_laysFirst_0 rfl ?_
  refine gr_aload_n dX5_laysFirst_1 rfl ?_
  refine gr_aload_n dX5_laysFirst_2 rfl ?_
  refine gr_getR dX5_laysFirst_3 fX5_13 (by first | assumption | rfl) (by omega) (by decide) rfl (by assumption) ?_
  refine gr_bipush dX5_laysFirst_6 (by decide) ?_
  refine gr_iald (i := 33) dX5_laysFirst_8 (by first | assumption | rfl) (by omega) (by omega) (by omega) (by decide) ?_
  refine gr_aload_n dX5_laysFirst_9 rfl ?_
  refine gr_getR dX5_laysFirst_10 fX5_13 (by first | assumption | rfl) (by omega) (by decide) rfl (by assumption) ?_
  refine gr_bipush dX5_laysFirst_13 (by decide) ?_
  refine gr_iald (i := 35) dX5_laysFirst_15 (by first | assumption | rfl) (by omega) (by omega) (by omega) (by decide) ?_
  refine gr_aload_n dX5_laysFirst_16 rfl ?_
  refine gr_getR dX5_laysFirst_17 fX5_13 (by first | assumption | rfl) (by omega) (by decide) rfl (by assumption) ?_
  refine gr_iconst dX5_laysFirst_20 ?_
  refine gr_iald (i := 0) dX5_laysFirst_21 (by first | assumption | rfl) (by omega) (by omega) (by omega) (by decide) ?_
  rw [h33, h35, v2]
  refine gr_virt dX5_laysFirst_22 kX5_180 (as := [_, _, _]) rfl rfl (by first | assumption | rfl) (by omega) (Nat.le_of_ble_eq_true rfl) (gw_Rm_m (by omega) (by decide) (by decide)) (m_laysScore (set := set) (n := S) (bal := bal) (d + 0) hK hV hS (Nat.le_refl _) hset hb) ?_
  rintro _ _ ⟨r, J1, rfl, rfl, hJ1, hpr, hres⟩
  refine gr_putI dX5_laysFirst_25 fX5_183 (by first | assumption | rfl) (by omega) (Or.inl rfl) rfl ?_
  refine gr_aload_n dX5_laysFirst_28 rfl ?_
  refine gr_getI dX5_laysFirst_29 fX5_183 (by first | assumption | rfl) (by omega) (by decide) rfl ?_
  rw [gw_U_s]
  have hr1 := hres.1
  rcases gm_res_cost hS (Nat.le_refl _) hres with ⟨hr, hcost⟩ | ⟨L, rfl, hL, hcost⟩
  · refine gr_ldc dX5_laysFirst_32 nX5_155 ?_
    refine gr_icmp_ne 39 dX5_laysFirst_34 (by decide) (by unfold gw_in; omega) (by unfold gw_in; omega) (fun h34 => ?_) (fun h34 => ?_)
    · omega
    · refine gr_iconst dX5_laysFirst_37 ?_
      refine gr_iret dX5_laysFirst_38 (by first | exact Or.inl rfl | exact Or.inr ⟨rfl, by omega⟩) (by decide) (by decide) ((hQ ▸ ⟨_, _, rfl, rfl, fun a i h1 h2 => by rw [gw_U_n h2]; exact hJ1 a i (by omega) (by omega) (by omega), by rw [hcost]⟩))
  · rw [hcost] at hQ
    dsimp only at hQ
    refine gr_ldc dX5_laysFirst_32 nX5_155 ?_
    refine gr_icmp_ne 39 dX5_laysFirst_34 (by decide) (by unfold gw_in; omega) (by unfold gw_in; omega) (fun h34 => ?_) (fun h34 => ?_)
    · refine gr_aload_n dX5_laysFirst_39 rfl ?_
      refine gr_getI dX5_laysFirst_40 fX5_183 (by first | assumption | rfl) (by omega) (by decide) rfl ?_
      rw [gw_U_s]
      refine gr_istore_n dX5_laysFirst_43 (by decide) ?_
      refine gr_iconst dX5_laysFirst_44 ?_
      refine gr_istore_n dX5_laysFirst_45 (by decide) ?_
      have main : ∀ (m c : Nat) (left : Int) (J2 : Nat → Nat → Int) (x3 x4 : Option gw_V), c + m = S → (∀ a i, a ≠ 113 → J2 a i = gw_U J1 99 22 (L : Int) a i) → (left = (if c = 0 then (L : Int) else (gs_K P B N rest set bal S L (c - 1)).2)) → (∀ c', c' < c → J2 113 c' = (((gs_K P B N rest set bal S L c').1 : Nat) : Int) ∧ (gs_K P B N rest set bal S L c').1 ∈ gs_SP P B N set c' ∧ (c' + 1 < c → gs_can B N rest c' (gs_K P B N rest set bal S L c').1 (c' + 1) (gs_K P B N rest set bal S L (c' + 1)).1 = true)) → (0 ≤ left ∧ left < 1000000) → (0 < c → ∀ b : Int, b < 1000000 → (left ≤ b ↔ gs_pay P B N rest set bal (S - 1 - (c - 1)) (c - 1) (gs_K P B N rest set bal S L (c - 1)).1 b = true)) → gw_G (gw_Cm jX5_laysFirst (d + 6) Q) jX5_laysFirst 46 [some (.inr (some 99)), some (.inl left), some (.inl (c : Int)), x3, x4] [] (114, J2, F) 0 0 := by
        intro m
        induction m with
        | zero =>
          intro c left J2 x3 x4 hc hJ2 hleft hsc hl0 hl1
          have e0 : J2 101 0 = (S : Int) := by rw [hJ2 101 0 (by omega), gw_U_n (by omega), hJ1 101 0 (by omega) (by omega) (by omega)]; exact v2
          refine gr_iload_n dX5_laysFirst_46 rfl ?_
          refine gr_aload_n dX5_laysFirst_47 rfl ?_
          refine gr_getR dX5_laysFirst_48 fX5_13 (by first | assumption | rfl) (by omega) (by decide) rfl (by assumption) ?_
          refine gr_iconst dX5_laysFirst_51 ?_
          refine gr_iald (i := 0) dX5_laysFirst_52 (by first | assumption | rfl) (by omega) (by omega) (by omega) (by decide) ?_
          rw [e0]
          refine gr_icmp_ge 192 dX5_laysFirst_53 (by decide) (by unfold gw_in; omega) (by unfold gw_in; omega) (fun h53 => ?_) (fun h53 => ?_)
          · refine gr_iconst dX5_laysFirst_192 ?_
            refine gr_iret dX5_laysFirst_193 (by first | exact Or.inl rfl | exact Or.inr ⟨rfl, by omega⟩) (by decide) (by decide) ?_
            rw [← hQ]
            refine ⟨_, _, rfl, rfl, fun a i h1 h2 => ?_, rfl, ?_, fun c' hc' => ?_⟩
            · rw [hJ2 a i (by omega), gw_U_n h2]; exact hJ1 a i (by omega) (by omega) (by omega)
            · rw [hJ2 99 22 (by omega), gw_U_s]
            · have := hsc c' (by omega)
              rw [show c = S by omega] at this
              exact this
          · omega
        | succ m ih =>
          intro c left J2 x3 x4 hc hJ2 hleft hsc hl0 hl1
          have f2 : ∀ a i, a ≠ 113 → a ≠ 99 → J2 a i = J1 a i := fun a i h1 h2 => by rw [hJ2 a i h1, gw_U_n (by omega)]
          have e0 : J2 101 0 = (S : Int) := by rw [f2 101 0 (by omega) (by omega), hJ1 101 0 (by omega) (by omega) (by omega)]; exact v2
          have hV2 : gm_V J2 P B N S rest := gm_V_c hV (by rw [hJ2 99 0 (by omega), gw_U_n (by omega), hJ1 99 0 (by omega) (by omega) (by omega)]) (funext fun i => by rw [f2 100 i (by omega) (by omega), hJ1 100 i (by omega) (by omega) (by omega)]) (funext fun i => by rw [f2 101 i (by omega) (by omega), hJ1 101 i (by omega) (by omega) (by omega)])
          obtain ⟨⟨p1, p2⟩, p3⟩ := hpr c (by omega)
          have hlen := gm_L_len (set := set) (bal := bal) (c := c) hS
          generalize hLc : gm_L P B N set bal c = Lc at p1 p2 p3 hlen
          have e110 : ∀ j, j < Lc.length → J2 110 (784 * c + j) = ((Lc.getD j 0 : Nat) : Int) := fun j hj => by rw [f2 110 _ (by omega) (by omega)]; exact p2 j hj
          have e112 : ∀ j, J2 112 (784 * c + j) = J1 112 (784 * c + j) := fun j => f2 112 _ (by omega) (by omega)
          have hmem : ∀ e, e < Lc.length → Lc.getD e 0 ∈ gs_SP P B N set c ∧ gs_EV B N bal c (Lc.getD e 0) = true := fun e he => by
            have := gs_mem_getD he
            exact List.mem_filter.mp ((congrArg (fun l => Lc.getD e 0 ∈ l) hLc).mpr this)
          -- the way there
          generalize hkp : (gs_K P B N rest set bal S L (c - 1)).1 = kp
          have hby : ∃ by_ : Nat → Int, ∀ e, e < Lc.length → (by_ e = if c = 0 then 0 else if gs_can B N rest (c - 1) kp (c - 1 + 1) (Lc.getD e 0) = true then gs_tot B N rest (c - 1) kp (c - 1 + 1) (Lc.getD e 0) else 1000000) ∧ 0 ≤ by_ e ∧ by_ e ≤ 1000000 := by
            refine ⟨fun e => if c = 0 then 0 else if gs_can B N rest (c - 1) kp (c - 1 + 1) (Lc.getD e 0) = true then gs_tot B N rest (c - 1) kp (c - 1 + 1) (Lc.getD e 0) else 1000000, fun e he => ⟨rfl, ?_⟩⟩
            dsimp only
            by_cases h0 : c = 0
            · rw [if_pos h0]; omega
            · rw [if_neg h0]
              have ht := gs_tot_in (B := B) (N := N) (rest := rest) (c := c - 1) (k := kp) (c' := c - 1 + 1) (k' := Lc.getD e 0) s5 (by omega) (by omega) s8
              split
              · rename_i hcan; have := ht.2.2.1 hcan; omega
              · omega
          obtain ⟨by_, hby⟩ := hby
          -- the least that can be: left; some entry pays it
          have lb : ∀ e, e < Lc.length → left ≤ by_ e + J1 112 (784 * c + e) := by
            intro e he
            obtain ⟨b1, b2⟩ := hby e he
            have hv := p3 e he
            by_cases h0 : c = 0
            · subst h0
              rw [if_pos rfl] at b1
              rw [b1, hleft, if_pos rfl, Int.zero_add]
              by_cases hv1 : J1 112 (784 * 0 + e) < 1000000
              · refine (hres.2 _ hv1).mpr (Or.inr ⟨by omega, e, by rw [hLc]; exact he, ?_⟩)
                rw [hLc]
                exact (hv.2 _ hv1).mp (Int.le_refl _)
              · omega
            · rw [if_neg h0] at b1
              by_cases hcan : gs_can B N rest (c - 1) kp (c - 1 + 1) (Lc.getD e 0) = true
              · rw [if_pos hcan] at b1
                by_cases hv1 : by_ e + J1 112 (784 * c + e) < 1000000
                · refine (hl1 (by omega) _ hv1).mpr ?_
                  rw [hkp, show S - 1 - (c - 1) = (S - 1 - c) + 1 by omega, gs_pay_s]
                  refine ⟨Lc.getD e 0, by rw [show c - 1 + 1 = c by omega]; exact (hmem e he).1, by rw [show c - 1 + 1 = c by omega]; exact (hmem e he).2, hcan, ?_⟩
                  rw [show c - 1 + 1 = c by omega] at b1 ⊢
                  exact (hv.2 _ (by omega)).mp (by omega)
                · omega
              · rw [if_neg hcan] at b1
                omega
          have ex : ∃ e, e < Lc.length ∧ by_ e + J1 112 (784 * c + e) = left := by
            by_cases h0 : c = 0
            · subst h0
              rw [if_pos rfl] at hleft
              rcases (hres.2 left (by omega)).mp (by omega) with ⟨q, _⟩ | ⟨-, e, q1, q2⟩
              · omega
              · rw [hLc] at q1 q2
                have a := ((p3 e q1).2 left (by omega)).mpr q2
                have b := lb e q1
                have b1 := (hby e q1).1
                rw [if_pos rfl] at b1
                exact ⟨e, q1, by omega⟩
            · have a := (hl1 (by omega) left (by omega)).mp (Int.le_refl _)
              rw [hkp, show S - 1 - (c - 1) = (S - 1 - c) + 1 by omega, gs_pay_s] at a
              obtain ⟨k', q1, q2, q3, q4⟩ := a
              rw [show c - 1 + 1 = c by omega] at q1 q2 q3 q4
              have hin : k' ∈ Lc := by rw [← hLc]; exact List.mem_filter.mpr ⟨q1, q2⟩
              obtain ⟨e, he, rfl⟩ := gs_getD_of_mem hin
              have b := lb e he
              have b1 := (hby e he).1
              rw [if_neg h0, show c - 1 + 1 = c by omega, if_pos q3] at b1
              have ht := (gs_tot_in (B := B) (N := N) (rest := rest) (c := c - 1) (k := kp) (c' := c) (k' := Lc.getD e 0) s5 (by omega) (by omega) s8).1
              have cc := ((p3 e he).2 _ (by omega)).mpr q4
              exact ⟨e, he, by omega⟩
          -- entry e is chosen
          have fin : ∀ e, e < Lc.length → by_ e + J1 112 (784 * c + e) = left → (∀ e', e' < e → by_ e' + J1 112 (784 * c + e') ≠ left) → ∀ x4, gw_G (gw_Cm jX5_laysFirst (d + 6) Q) jX5_laysFirst 155 [some (.inr (some 99)), some (.inl left), some (.inl (c : Int)), some (.inl (e : Int)), x4] [] (114, J2, F) 0 0 := by
            intro e he heq hne x4
            have b1 := (hby e he).1
            have hb2 := (hby e he).2
            have hv := p3 e he
            have eK : (gs_K P B N rest set bal S L c).1 = Lc.getD e 0 ∧ (gs_K P B N rest set bal S L c).2 = J1 112 (784 * c + e) ∧ (0 < c → gs_can B N rest (c - 1) kp c (Lc.getD e 0) = true) := by
              by_cases h0 : c = 0
              · subst h0
                rw [if_pos rfl] at b1 hleft
                refine ⟨?_, ?_, fun h => by omega⟩
                · simp only [gs_K]
                  rw [gm_find (t := e) (q := fun k => gs_pay P B N rest set bal (S - 1) 0 k (L : Int)) (by rw [hLc]; exact he) ?_ ?_, hLc]
                  · rw [hLc]
                    exact (hv.2 (L : Int) (by omega)).mp (by omega)
                  · intro e' he'
                    rw [hLc]
                    cases hz : gs_pay P B N rest set bal (S - 1) 0 (Lc.getD e' 0) (L : Int) with
                    | false => rfl
                    | true =>
                      have a := ((p3 e' (by omega)).2 (L : Int) (by omega)).mpr hz
                      have b := lb e' (by omega)
                      have bb := (hby e' (by omega)).1
                      rw [if_pos rfl] at bb
                      exact absurd (show by_ e' + J1 112 (784 * 0 + e') = left by omega) (hne e' he')
                · simp only [gs_K]; omega
              · obtain ⟨c0, rfl⟩ : ∃ c0, c = c0 + 1 := ⟨c - 1, by omega⟩
                rw [show c0 + 1 - 1 = c0 by omega] at hkp hleft b1 hby
                rw [if_neg h0] at b1 hleft
                have hcan : gs_can B N rest c0 kp (c0 + 1) (Lc.getD e 0) = true := by
                  cases hz : gs_can B N rest c0 kp (c0 + 1) (Lc.getD e 0) with
                  | true => rfl
                  | false => rw [hz, if_neg (by decide)] at b1; omega
                rw [if_pos hcan] at b1
                have e1 : (gs_K P B N rest set bal S L (c0 + 1)).1 = Lc.getD e 0 := by
                  simp only [gs_K]
                  rw [hkp, ← hleft]
                  rw [gm_find (t := e) (q := fun k => gs_can B N rest c0 kp (c0 + 1) k && gs_pay P B N rest set bal (S - 1 - (c0 + 1)) (c0 + 1) k (left - gs_tot B N rest c0 kp (c0 + 1) k)) (by rw [hLc]; exact he) ?_ ?_, hLc]
                  · rw [hLc, Bool.and_eq_true]
                    exact ⟨hcan, (hv.2 _ (by omega)).mp (by omega)⟩
                  · intro e' he'
                    rw [hLc]
                    cases hz : (gs_can B N rest c0 kp (c0 + 1) (Lc.getD e' 0) && gs_pay P B N rest set bal (S - 1 - (c0 + 1)) (c0 + 1) (Lc.getD e' 0) (left - gs_tot B N rest c0 kp (c0 + 1) (Lc.getD e' 0))) with
                    | false => rfl
                    | true =>
                      rw [Bool.and_eq_true] at hz
                      have ht := (gs_tot_in (B := B) (N := N) (rest := rest) (c := c0) (k := kp) (c' := c0 + 1) (k' := Lc.getD e' 0) s5 (by omega) (by omega) s8).1
                      have a := ((p3 e' (by omega)).2 _ (by omega)).mpr hz.2
                      have b := lb e' (by omega)
                      have bb := (hby e' (by omega)).1
                      rw [if_neg h0, if_pos hz.1] at bb
                      exact absurd (show by_ e' + J1 112 (784 * (c0 + 1) + e') = left by omega) (hne e' he')
                refine ⟨e1, ?_, fun _ => by rw [show c0 + 1 - 1 = c0 by omega]; exact hcan⟩
                have e2 : (gs_K P B N rest set bal S L (c0 + 1)).2 = (gs_K P B N rest set bal S L c0).2 - gs_tot B N rest c0 (gs_K P B N rest set bal S L c0).1 (c0 + 1) (gs_K P B N rest set bal S L (c0 + 1)).1 := by simp only [gs_K]
                rw [e2, e1, hkp, ← hleft]
                omega
            refine gr_aload_n dX5_laysFirst_155 rfl ?_
            refine gr_getR dX5_laysFirst_156 fX5_50 (by first | assumption | rfl) (by omega) (by decide) rfl (by assumption) ?_
            refine gr_iload_n dX5_laysFirst_159 rfl ?_
            refine gr_aload_n dX5_laysFirst_160 rfl ?_
            refine gr_getR dX5_laysFirst_161 fX5_41 (by first | assumption | rfl) (by omega) (by decide) rfl (by assumption) ?_
            refine gr_sipush dX5_laysFirst_164 (by decide) ?_
            refine gr_iload_n dX5_laysFirst_167 rfl ?_
            refine gr_imul dX5_laysFirst_168 rfl ?_
            refine gr_iload_n dX5_laysFirst_169 rfl ?_
            refine gr_iadd dX5_laysFirst_170 rfl ?_
            refine gr_iald (i := 784 * c + e) dX5_laysFirst_171 (by first | assumption | rfl) (by omega) (by omega) (by omega) (by decide) ?_
            rw [e110 e he]
            refine gr_iast (i := c) dX5_laysFirst_172 (by first | assumption | rfl) (by omega) (by omega) (by omega) (by decide) ?_
            refine gr_aload_n dX5_laysFirst_173 rfl ?_
            refine gr_getR dX5_laysFirst_174 fX5_47 (by first | assumption | rfl) (by omega) (by decide) rfl (by assumption) ?_
            refine gr_sipush dX5_laysFirst_177 (by decide) ?_
            refine gr_iload_n dX5_laysFirst_180 rfl ?_
            refine gr_imul dX5_laysFirst_181 rfl ?_
            refine gr_iload_n dX5_laysFirst_182 rfl ?_
            refine gr_iadd dX5_laysFirst_183 rfl ?_
            refine gr_iald (i := 784 * c + e) dX5_laysFirst_184 (by first | assumption | rfl) (by omega) (by omega) (by omega) (by decide) ?_
            rw [show gw_U J2 113 c ((Lc.getD e 0 : Nat) : Int) 112 (784 * c + e) = J1 112 (784 * c + e) from (gw_U_n (by omega)).trans (e112 e)]
            refine gr_istore_n dX5_laysFirst_185 (by decide) ?_
            refine gr_iinc (v := ((c + 1 : Nat) : Int)) dX5_laysFirst_186 (by decide) rfl (by omega) ?_
            refine gr_goto 46 dX5_laysFirst_189 (by decide) ?_
            refine ih (c + 1) _ _ _ _ (by omega) (fun a i h => by rw [gw_U_n (by omega)]; exact hJ2 a i h) (by rw [if_neg (by omega), show c + 1 - 1 = c by omega, eK.2.1]) (fun c' hc' => ?_) (by omega) (fun _ b hb => ?_)
            · by_cases hcc : c' = c
              · subst hcc
                rw [gw_U_s, eK.1]
                exact ⟨rfl, (hmem e he).1, fun q => absurd q (by omega)⟩
              · rw [gw_U_n (by omega)]
                obtain ⟨z1, z2, z3⟩ := hsc c' (by omega)
                refine ⟨z1, z2, fun q => ?_⟩
                by_cases hc1 : c' + 1 = c
                · subst hc1
                  rw [eK.1]
                  have := eK.2.2 (by omega)
                  rw [show c' + 1 - 1 = c' by omega] at this hkp
                  rw [hkp]; exact this
                · exact z3 (by omega)
            · rw [show c + 1 - 1 = c by omega, eK.1]
              exact hv.2 b hb
          -- looking for it
          have look : ∀ (m e : Nat), e + m = Lc.length → (∀ e', e' < e → by_ e' + J1 112 (784 * c + e') ≠ left) → e < Lc.length → gw_G (gw_Cm jX5_laysFirst (d + 6) Q) jX5_laysFirst 93 [some (.inr (some 99)), some (.inl left), some (.inl (c : Int)), some (.inl (e : Int)), some (.inl (by_ e))] [] (114, J2, F) 0 0 := by
            intro m
            induction m with
            | zero => intro e h1 h2 h3; omega
            | succ m ihm =>
              intro e h1 h2 h3
              have hb2 := (hby e h3).2
              have hv := (p3 e h3).1
              refine gr_iload dX5_laysFirst_93 rfl ?_
              refine gr_aload_n dX5_laysFirst_95 rfl ?_
              refine gr_getR dX5_laysFirst_96 fX5_47 (by first | assumption | rfl) (by omega) (by decide) rfl (by assumption) ?_
              refine gr_sipush dX5_laysFirst_99 (by decide) ?_
              refine gr_iload_n dX5_laysFirst_102 rfl ?_
              refine gr_imul dX5_laysFirst_103 rfl ?_
              refine gr_iload_n dX5_laysFirst_104 rfl ?_
              refine gr_iadd dX5_laysFirst_105 rfl ?_
              refine gr_iald (i := 784 * c + e) dX5_laysFirst_106 (by first | assumption | rfl) (by omega) (by omega) (by omega) (by decide) ?_
              rw [e112 e]
              refine gr_iadd dX5_laysFirst_107 rfl ?_
              refine gr_iload_n dX5_laysFirst_108 rfl ?_
              refine gr_icmp_eq 155 dX5_laysFirst_109 (by decide) (by unfold gw_in; omega) (by unfold gw_in; omega) (fun h109 => ?_) (fun h109 => ?_)
              · exact fin e h3 h109 h2 _
              · have hlt : e + 1 < Lc.length := by
                  obtain ⟨x, hx1, hx2⟩ := ex
                  have : ¬ x ≤ e := fun hxe => by
                    by_cases hxx : x = e
                    · subst hxx; exact h109 hx2
                    · exact h2 x (by omega) hx2
                  omega
                have h2' : ∀ e', e' < e + 1 → by_ e' + J1 112 (784 * c + e') ≠ left := fun e' he' => by
                  by_cases hee : e' = e
                  · subst hee; exact h109
                  · exact h2 e' (by omega)
                have hnb := (hby (e + 1) hlt).1
                have nxt := ihm (e + 1) (by omega) h2' hlt
                refine gr_iinc (v := ((e + 1 : Nat) : Int)) dX5_laysFirst_112 (by decide) rfl (by omega) ?_
                refine gr_iload_n dX5_laysFirst_115 rfl ?_
                refine gr_if_ne 123 dX5_laysFirst_116 (by decide) (by unfold gw_in; omega) (fun h116 => ?_) (fun h116 => ?_)
                · rw [if_neg (by omega)] at hnb
                  obtain ⟨n1, n2, n3⟩ := gm_mem (hmem (e + 1) hlt).1
                  obtain ⟨z1, z2, z3⟩ := hsc (c - 1) (by omega)
                  rw [hkp] at z1 z2
                  obtain ⟨k1, k2, k3⟩ := gm_mem z2
                  refine gr_aload_n dX5_laysFirst_123 rfl ?_
                  refine gr_iload_n dX5_laysFirst_124 rfl ?_
                  refine gr_iconst dX5_laysFirst_125 ?_
                  refine gr_isub (v := ((c - 1 : Nat) : Int)) dX5_laysFirst_126 (by omega) ?_
                  refine gr_aload_n dX5_laysFirst_127 rfl ?_
                  refine gr_getR dX5_laysFirst_128 fX5_50 (by first | assumption | rfl) (by omega) (by decide) rfl (by assumption) ?_
                  refine gr_iload_n dX5_laysFirst_131 rfl ?_
                  refine gr_iconst dX5_laysFirst_132 ?_
                  refine gr_isub (v := ((c - 1 : Nat) : Int)) dX5_laysFirst_133 (by omega) ?_
                  refine gr_iald (i := c - 1) dX5_laysFirst_134 (by first | assumption | rfl) (by omega) (by omega) (by omega) (by decide) ?_
                  rw [z1]
                  refine gr_aload_n dX5_laysFirst_135 rfl ?_
                  refine gr_getR dX5_laysFirst_136 fX5_41 (by first | assumption | rfl) (by omega) (by decide) rfl (by assumption) ?_
                  refine gr_sipush dX5_laysFirst_139 (by decide) ?_
                  refine gr_iload_n dX5_laysFirst_142 rfl ?_
                  refine gr_imul dX5_laysFirst_143 rfl ?_
                  refine gr_iload_n dX5_laysFirst_144 rfl ?_
                  refine gr_iadd dX5_laysFirst_145 rfl ?_
                  refine gr_iald (i := 784 * c + (e + 1)) dX5_laysFirst_146 (by first | assumption | rfl) (by omega) (by omega) (by omega) (by decide) ?_
                  rw [e110 (e + 1) hlt]
                  refine gr_virt dX5_laysFirst_147 kX5_174 (as := [_, _, _]) rfl rfl (by first | assumption | rfl) (by omega) (Nat.le_of_ble_eq_true rfl) (gw_Rm_m (by omega) (by decide) (by decide)) (m_movesOf (c := c - 1) (k := kp) (k' := Lc.getD (e + 1) 0) (d + 3) hK hV2 hS (by omega) k1 n1 k2 (by rw [show c - 1 + 1 = c by omega]; exact n2) k3 n3) ?_
                  rintro _ _ ⟨rfl, rfl⟩
                  rw [← hnb]
                  refine gr_istore dX5_laysFirst_150 (by decide) ?_
                  refine gr_goto 93 dX5_laysFirst_152 (by decide) ?_
                  exact nxt
                · rw [if_pos (by omega)] at hnb
                  refine gr_iconst dX5_laysFirst_119 ?_
                  refine gr_goto 150 dX5_laysFirst_120 (by decide) ?_
                  refine gr_istore dX5_laysFirst_150 (by decide) ?_
                  refine gr_goto 93 dX5_laysFirst_152 (by decide) ?_
                  rw [← hnb]
                  exact nxt
          obtain ⟨x, hx1, hx2⟩ := ex
          have hb0 := (hby 0 (by omega)).1
          have nxt := look Lc.length 0 (by omega) (fun e' q => absurd q (by omega)) (by omega)
          refine gr_iload_n dX5_laysFirst_46 rfl ?_
          refine gr_aload_n dX5_laysFirst_47 rfl ?_
          refine gr_getR dX5_laysFirst_48 fX5_13 (by first | assumption | rfl) (by omega) (by decide) rfl (by assumption) ?_
          refine gr_iconst dX5_laysFirst_51 ?_
          refine gr_iald (i := 0) dX5_laysFirst_52 (by first | assumption | rfl) (by omega) (by omega) (by omega) (by decide) ?_
          rw [e0]
          refine gr_icmp_ge 192 dX5_laysFirst_53 (by decide) (by unfold gw_in; omega) (by unfold gw_in; omega) (fun h53 => ?_) (fun h53 => ?_)
          · omega
          · refine gr_iconst dX5_laysFirst_56 ?_
            refine gr_istore_n dX5_laysFirst_57 (by decide) ?_
            refine gr_iload_n dX5_laysFirst_58 rfl ?_
            refine gr_if_ne 66 dX5_laysFirst_59 (by decide) (by unfold gw_in; omega) (fun h59 => ?_) (fun h59 => ?_)
            · rw [if_neg (by omega)] at hb0
              obtain ⟨n1, n2, n3⟩ := gm_mem (hmem 0 (by omega)).1
              obtain ⟨z1, z2, z3⟩ := hsc (c - 1) (by omega)
              rw [hkp] at z1 z2
              obtain ⟨k1, k2, k3⟩ := gm_mem z2
              refine gr_aload_n dX5_laysFirst_66 rfl ?_
              refine gr_iload_n dX5_laysFirst_67 rfl ?_
              refine gr_iconst dX5_laysFirst_68 ?_
              refine gr_isub (v := ((c - 1 : Nat) : Int)) dX5_laysFirst_69 (by omega) ?_
              refine gr_aload_n dX5_laysFirst_70 rfl ?_
              refine gr_getR dX5_laysFirst_71 fX5_50 (by first | assumption | rfl) (by omega) (by decide) rfl (by assumption) ?_
              refine gr_iload_n dX5_laysFirst_74 rfl ?_
              refine gr_iconst dX5_laysFirst_75 ?_
              refine gr_isub (v := ((c - 1 : Nat) : Int)) dX5_laysFirst_76 (by omega) ?_
              refine gr_iald (i := c - 1) dX5_laysFirst_77 (by first | assumption | rfl) (by omega) (by omega) (by omega) (by decide) ?_
              rw [z1]
              refine gr_aload_n dX5_laysFirst_78 rfl ?_
              refine gr_getR dX5_laysFirst_79 fX5_41 (by first | assumption | rfl) (by omega) (by decide) rfl (by assumption) ?_
              refine gr_sipush dX5_laysFirst_82 (by decide) ?_
              refine gr_iload_n dX5_laysFirst_85 rfl ?_
              refine gr_imul dX5_laysFirst_86 rfl ?_
              refine gr_iald (i := 784 * c + 0) dX5_laysFirst_87 (by first | assumption | rfl) (by omega) (by omega) (by omega) (by decide) ?_
              rw [e110 0 (by omega)]
              refine gr_virt dX5_laysFirst_88 kX5_174 (as := [_, _, _]) rfl rfl (by first | assumption | rfl) (by omega) (Nat.le_of_ble_eq_true rfl) (gw_Rm_m (by omega) (by decide) (by decide)) (m_movesOf (c := c - 1) (k := kp) (k' := Lc.getD 0 0) (d + 3) hK hV2 hS (by omega) k1 n1 k2 (by rw [show c - 1 + 1 = c by omega]; exact n2) k3 n3) ?_
              rintro _ _ ⟨rfl, rfl⟩
              rw [← hb0]
              refine gr_istore dX5_laysFirst_91 (by decide) ?_
              exact nxt
            · rw [if_pos (by omega)] at hb0
              refine gr_iconst dX5_laysFirst_62 ?_
              refine gr_goto 91 dX5_laysFirst_63 (by decide) ?_
              refine gr_istore dX5_laysFirst_91 (by decide) ?_
              rw [hb0] at nxt
              exact nxt
      exact main S 0 (L : Int) _ _ _ (by omega) (fun _ _ _ => rfl) (by rw [if_pos rfl]) (fun c' q => absurd q (by omega)) (by omega) (fun q => by omega)
    · omega
end GM
