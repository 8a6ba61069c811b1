/-! Reader: items -/
theorem gx_num {T : Nat → Int} {n p : Nat} {lo hi v0 : Int} (hp : p ≤ n) (hT : ∀ i, i < n → 0 ≤ T i ∧ T i ≤ 255) : (gx_tok T n (gt_sk T n p) = -2 ∧ lo ≤ gx_vl T n (gt_sk T n p) v0 ∧ gx_vl T n (gt_sk T n p) v0 ≤ hi → gt_num T n lo hi p = some (gx_pos T n (gt_sk T n p), gx_vl T n (gt_sk T n p) v0)) ∧ (¬ (gx_tok T n (gt_sk T n p) = -2 ∧ lo ≤ gx_vl T n (gt_sk T n p) v0 ∧ gx_vl T n (gt_sk T n p) v0 ≤ hi) → gt_num T n lo hi p = none) := by
  have hs := gt_sk_in (T := T) hp
  generalize hgs : gt_sk T n p = s at *
  by_cases h1 : n ≤ s
  · have e1 : gt_fe T n s = s := gt_fe_id (Or.inl h1)
    unfold gx_tok gt_num
    rw [hgs, e1, if_pos h1]
    exact ⟨fun h => absurd h.1 (by omega), fun _ => if_neg (fun h => absurd h.1 (by omega))⟩
  · by_cases h2 : gt_fig (T s) = true
    · have e2 : s < gt_fe T n s := by
        rw [gt_fe_s (by omega) h2]
        have := gt_fe_in (T := T) (n := n) (a := s + 1) (by omega)
        omega
      unfold gx_tok gx_vl gx_pos gt_num gx_ntok gx_wv
      rw [hgs]
      simp only [if_neg h1, if_pos h2]
      by_cases h3 : s + 2 < gt_fe T n s ∨ (s + 1 < gt_fe T n s ∧ T s = 48)
      · rw [if_pos h3, if_pos h3]
        exact ⟨fun h => absurd h.1 (by omega), fun _ => if_neg (fun h => by omega)⟩
      · rw [if_neg h3, if_neg h3]
        refine ⟨fun h => if_pos ⟨e2, by omega, fun q => h3 (Or.inr q), h.2.1, h.2.2⟩, fun h => if_neg (fun q => h ⟨rfl, q.2.2.2.1, q.2.2.2.2⟩)⟩
    · have e1 : gt_fe T n s = s := gt_fe_id (Or.inr (by simpa using h2))
      have := hT s (by omega)
      unfold gx_tok gt_num
      rw [hgs, e1, if_neg h1, if_neg h2]
      exact ⟨fun h => absurd h.1 (by omega), fun _ => if_neg (fun h => absurd h.1 (by omega))⟩
theorem gx_pos_le {T : Nat → Int} {n a : Nat} (ha : a ≤ n) : gx_pos T n a ≤ n := by
  unfold gx_pos
  split
  · exact ha
  · split
    · exact (gt_fe_in (T := T) ha).2.1
    · omega
/-- the scratch state -/
def gx_st (I : Nat → Nat → Int) (st : gt_S) : Prop := I 2 0 = (st.1 : Int) ∧ I 2 1 = gb_bw (st.2.1 1) st.1 ∧ (∀ r p, 1 ≤ r → r ≤ 5 → p < st.1 → I (2 + r) p = st.2.1 r p) ∧ I 8 0 = (st.2.2.1 : Int) ∧ (∀ i, i < 3 * st.2.2.1 → I 9 i = st.2.2.2.1 i) ∧ I 8 2 = st.2.2.2.2.1 ∧ I 8 3 = st.2.2.2.2.2.1 ∧ I 1 9 = (if st.2.2.2.2.2.2 = true then 1 else 0)
/-- what a state may be -/
def gt_ok (st : gt_S) : Prop := st.1 ≤ 4 ∧ st.2.2.1 ≤ 8 ∧ gb_bw (st.2.1 1) st.1 ≤ 2 ∧ (∀ p, p < st.1 → 0 ≤ st.2.1 1 p ∧ st.2.1 1 p ≤ 2 ∧ 0 ≤ st.2.1 2 p ∧ st.2.1 2 p ≤ 60 ∧ 0 ≤ st.2.1 3 p ∧ st.2.1 3 p ≤ 60 ∧ 2 ≤ st.2.1 4 p ∧ st.2.1 4 p ≤ 9 ∧ 0 ≤ st.2.1 5 p ∧ st.2.1 5 p ≤ 12) ∧ (∀ c, c < st.2.2.1 → 0 ≤ st.2.2.2.1 (3 * c) ∧ ∀ i, i < 3 → -1 ≤ st.2.2.2.1 (3 * c + i) ∧ st.2.2.2.1 (3 * c + i) ≤ 60) ∧ (0 ≤ st.2.2.2.2.1 ∧ st.2.2.2.2.1 ≤ 20) ∧ (0 ≤ st.2.2.2.2.2.1 ∧ st.2.2.2.2.2.1 ≤ 30)
/-- nothing but the reader's own has changed -/
def gx_fr (I I' : Nat → Nat → Int) : Prop := ∀ a i, ¬ (a = 1 ∧ 5 ≤ i) → ¬ (2 ≤ a ∧ a ≤ 9) → a ≠ 11 → I' a i = I a i
def gx_res (I I' : Nat → Nat → Int) (n : Nat) (o : Nat ⊕ (Nat × gt_S)) (r : Int) : Prop := gx_fr I I' ∧ gb_B I' 2 ∧ gp_N (I' 9) ∧ match o with
  | .inl f => r = 0 ∧ I' 1 6 = (f : Int)
  | .inr (e, st) => r = 1 ∧ gx_st I' st ∧ gt_ok st ∧ I' 1 5 = (e : Int) ∧ e ≤ n
theorem gx_fr_rf {I : Nat → Nat → Int} : gx_fr I I := fun _ _ _ _ _ => rfl
theorem gx_fr_tr {I I1 I2 : Nat → Nat → Int} (h1 : gx_fr I I1) (h2 : gx_fr I1 I2) : gx_fr I I2 := fun a i x y z => (h2 a i x y z).trans (h1 a i x y z)
theorem gx_fr_nx {I I1 : Nat → Nat → Int} (h : ∀ b i, ¬ (b = 1 ∧ 5 ≤ i ∧ i ≤ 8) → I1 b i = I b i) : gx_fr I I1 := fun a i x _ _ => h a i (by omega)
section GX
variable {I : Nat → Nat → Int} {F : Nat → Nat → Option Nat} {n : Nat}
theorem gx_T_fr {I1 : Nat → Nat → Int} (h : gx_fr I I1) (hT : gx_T I n) : gx_T I1 n ∧ I1 10 = I 10 := by
  have e : I1 10 = I 10 := funext fun i => h 10 i (by omega) (by omega) (by omega)
  refine ⟨⟨by rw [h 1 2 (by omega) (by omega) (by omega)]; exact hT.1, hT.2.1, fun i hi => by rw [e]; exact hT.2.2 i hi⟩, e⟩
theorem c_isNumber {lo hi : Int} (d : Nat) (h7 : gw_in (I 1 7)) (h8 : I 1 7 = -2 → gw_in (I 1 8)) (hl : gw_in lo) (hh : gw_in hi) : gw_Met jX2_isNumber (d + 1) [.inr (some 1), .inl lo, .inl hi] (114, I, F) (gw_pu (if I 1 7 = -2 ∧ lo ≤ I 1 8 ∧ I 1 8 ≤ hi then 1 else 0) (114, I, F)) := by
  have h7' := h7
  unfold gw_in at h7'
  refine gw_enter okX2_isNumber rfl (Nat.le_of_ble_eq_true rfl) ?_
  refine gr_aload_n dX2_isNumber_0 rfl ?_
  refine gr_getI dX2_isNumber_1 fX2_42 (by first | assumption | rfl) (by omega) (by decide) rfl ?_
  refine gr_bipush dX2_isNumber_4 (by decide) ?_
  refine gr_icmp_ne 25 dX2_isNumber_6 (by decide) (by unfold gw_in; omega) (by unfold gw_in; omega) (fun h6 => ?_) (fun h6 => ?_)
  · refine gr_iconst dX2_isNumber_25 ?_
    refine gr_iret dX2_isNumber_26 (by first | exact Or.inl rfl | exact Or.inr ⟨rfl, by omega⟩) (by decide) (by decide) (⟨by rw [if_neg (by omega)], rfl⟩)
  · refine gr_aload_n dX2_isNumber_9 rfl ?_
    refine gr_getI dX2_isNumber_10 fX2_45 (by first | assumption | rfl) (by omega) (by decide) rfl ?_
    refine gr_iload_n dX2_isNumber_13 rfl ?_
    refine gr_iload_n dX2_isNumber_14 rfl ?_
    refine gr_statN dX2_isNumber_15 kX2_107 (as := [_, _, _]) rfl rfl (Nat.le_of_ble_eq_true rfl) (gw_Rm_m (by omega) (by decide) (by decide)) (c_isWithin d (h8 h6) hl hh) ?_
    rintro _ _ ⟨rfl, rfl⟩
    by_cases hc : lo ≤ I 1 8 ∧ I 1 8 ≤ hi
    · rw [if_pos hc]
      refine gr_if_eq 25 dX2_isNumber_18 (by decide) (by unfold gw_in; omega) (fun h18 => ?_) (fun h18 => ?_)
      · omega
      · refine gr_iconst dX2_isNumber_21 ?_
        refine gr_goto 26 dX2_isNumber_22 (by decide) ?_
        refine gr_iret dX2_isNumber_26 (by first | exact Or.inl rfl | exact Or.inr ⟨rfl, by omega⟩) (by decide) (by decide) (⟨by rw [if_pos ⟨h6, hc⟩], rfl⟩)
    · rw [if_neg hc]
      refine gr_if_eq 25 dX2_isNumber_18 (by decide) (by unfold gw_in; omega) (fun h18 => ?_) (fun h18 => ?_)
      · refine gr_iconst dX2_isNumber_25 ?_
        refine gr_iret dX2_isNumber_26 (by first | exact Or.inl rfl | exact Or.inr ⟨rfl, by omega⟩) (by decide) (by decide) (⟨by rw [if_neg (fun h => hc h.2)], rfl⟩)
      · omega
theorem gx_tok_in {T : Nat → Int} {a : Nat} (hT : ∀ i, i < n → 0 ≤ T i ∧ T i ≤ 255) : -3 ≤ gx_tok T n a ∧ gx_tok T n a ≤ 255 := by
  unfold gx_tok gx_ntok
  split
  · omega
  · rename_i h
    have := hT a (by omega)
    split
    · split <;> omega
    · omega
theorem gx_v8 {T : Nat → Int} {a : Nat} {v : Int} (ha : a ≤ n) (hT : ∀ i, i < n → 0 ≤ T i ∧ T i ≤ 255) : gx_tok T n a = -2 → gw_in (gx_vl T n a v) := by
  unfold gx_tok gx_vl
  split
  · intro h; omega
  · rename_i h1
    have := hT a (by omega)
    split
    · intro _
      have h2 := gt_fe_in (T := T) ha
      have h3 := gt_val_in (T := T) (a := a) (gt_fe T n a - a) (fun i hi => h2.2.2 _ (by omega) (by omega))
      unfold gw_in gx_wv
      split <;> omega
    · intro h; omega
theorem c_nextIsNumber {p : Nat} {lo hi : Int} (d : Nat) (hF : gx_K F) (hT : gx_T I n) (hp : p ≤ n) (hat : I 1 5 = (p : Int)) (hl : gw_in lo) (hh : gw_in hi) : gw_Met jX2_nextIsNumber (d + 3) [.inr (some 1), .inl lo, .inl hi] (114, I, F) (gw_io F (fun r I' => ((∃ e v, gt_num (I 10) n lo hi p = some (e, v) ∧ r = 1 ∧ I' 1 5 = ((e : Nat) : Int) ∧ I' 1 8 = v) ∨ (gt_num (I 10) n lo hi p = none ∧ r = 0)) ∧ I' 1 6 = ((gt_sk (I 10) n p : Nat) : Int) ∧ ∀ b i, ¬ (b = 1 ∧ 5 ≤ i ∧ i ≤ 8) → I' b i = I b i)) := by
  obtain ⟨hn, hn150, hle⟩ := id hT
  have hs := gt_sk_in (T := I 10) hp
  have htk := gx_tok_in (n := n) (a := gt_sk (I 10) n p) hle
  refine gw_enter okX2_nextIsNumber rfl (Nat.le_of_ble_eq_true rfl) ?_
  refine gr_aload_n dX2_nextIsNumber_0 rfl ?_
  refine gr_virt dX2_nextIsNumber_1 kX2_56 (as := []) rfl rfl (by first | assumption | rfl) (by omega) (Nat.le_of_ble_eq_true rfl) (gw_Rm_m (by omega) (by decide) (by decide)) (c_next (p := p) d hF hT hp hat) ?_
  rintro _ _ ⟨rfl, I1, rfl, hI1⟩
  have i7 : I1 1 7 = gx_tok (I 10) n (gt_sk (I 10) n p) := by rw [hI1]; simp
  have i8 : I1 1 8 = gx_vl (I 10) n (gt_sk (I 10) n p) (I 1 8) := by rw [hI1]; simp
  have i5 : I1 1 5 = ((gx_pos (I 10) n (gt_sk (I 10) n p) : Nat) : Int) := by rw [hI1]; simp
  have i6 : I1 1 6 = ((gt_sk (I 10) n p : Nat) : Int) := by rw [hI1]; simp
  have v8 : I1 1 7 = -2 → gw_in (I1 1 8) := by
    rw [i7, i8]
    exact gx_v8 hs.2 hle
  have fr : ∀ b i, ¬ (b = 1 ∧ 5 ≤ i ∧ i ≤ 8) → I1 b i = I b i := fun b i h => by
    rw [hI1, if_neg (by omega), if_neg (by omega), if_neg (by omega), if_neg (by omega)]
  obtain ⟨n1, n2⟩ := gx_num (lo := lo) (hi := hi) (v0 := I 1 8) hp hle
  rw [← i7, ← i8] at n1 n2
  refine gr_aload_n dX2_nextIsNumber_4 rfl ?_
  refine gr_iload_n dX2_nextIsNumber_5 rfl ?_
  refine gr_iload_n dX2_nextIsNumber_6 rfl ?_
  refine gr_virt dX2_nextIsNumber_7 kX2_98 (as := [_, _]) rfl rfl (by first | assumption | rfl) (by omega) (Nat.le_of_ble_eq_true rfl) (gw_Rm_m (by omega) (by decide) (by decide)) (c_isNumber (d + 1) (by unfold gw_in; omega) v8 hl hh) ?_
  rintro _ _ ⟨rfl, rfl⟩
  by_cases hc : I1 1 7 = -2 ∧ lo ≤ I1 1 8 ∧ I1 1 8 ≤ hi
  · rw [if_pos hc]
    refine gr_iret dX2_nextIsNumber_10 (by first | exact Or.inl rfl | exact Or.inr ⟨rfl, by omega⟩) (by decide) (by decide) (⟨1, I1, rfl, rfl, Or.inl ⟨_, _, n1 hc, rfl, i5, rfl⟩, i6, fr⟩)
  · rw [if_neg hc]
    refine gr_iret dX2_nextIsNumber_10 (by first | exact Or.inl rfl | exact Or.inr ⟨rfl, by omega⟩) (by decide) (by decide) (⟨0, I1, rfl, rfl, Or.inr ⟨n2 hc, rfl⟩, i6, fr⟩)
theorem c_nextEndsItem {p : Nat} (d : Nat) (hF : gx_K F) (hT : gx_T I n) (hp : p ≤ n) (hat : I 1 5 = (p : Int)) : gw_Met jX2_nextEndsItem (d + 3) [.inr (some 1)] (114, I, F) (gw_io F (fun r I' => ((gt_sk (I 10) n p < n ∧ I 10 (gt_sk (I 10) n p) = 59 ∧ r = 1 ∧ I' 1 5 = ((gt_sk (I 10) n p + 1 : Nat) : Int)) ∨ (¬ (gt_sk (I 10) n p < n ∧ I 10 (gt_sk (I 10) n p) = 59) ∧ r = 0)) ∧ I' 1 6 = ((gt_sk (I 10) n p : Nat) : Int) ∧ ∀ b i, ¬ (b = 1 ∧ 5 ≤ i ∧ i ≤ 8) → I' b i = I b i)) := by
  obtain ⟨hn, hn150, hle⟩ := id hT
  have hs := gt_sk_in (T := I 10) hp
  have htk := gx_tok_in (n := n) (a := gt_sk (I 10) n p) hle
  refine gw_enter okX2_nextEndsItem rfl (Nat.le_of_ble_eq_true rfl) ?_
  refine gr_aload_n dX2_nextEndsItem_0 rfl ?_
  refine gr_virt dX2_nextEndsItem_1 kX2_56 (as := []) rfl rfl (by first | assumption | rfl) (by omega) (Nat.le_of_ble_eq_true rfl) (gw_Rm_m (by omega) (by decide) (by decide)) (c_next (p := p) (d + 0) hF hT hp hat) ?_
  rintro _ _ ⟨rfl, I1, rfl, hI1⟩
  have i7 : I1 1 7 = gx_tok (I 10) n (gt_sk (I 10) n p) := by rw [hI1]; simp
  have i5 : I1 1 5 = ((gx_pos (I 10) n (gt_sk (I 10) n p) : Nat) : Int) := by rw [hI1]; simp
  have i6 : I1 1 6 = ((gt_sk (I 10) n p : Nat) : Int) := by rw [hI1]; simp
  have fr : ∀ b i, ¬ (b = 1 ∧ 5 ≤ i ∧ i ≤ 8) → I1 b i = I b i := fun b i h => by
    rw [hI1, if_neg (by omega), if_neg (by omega), if_neg (by omega), if_neg (by omega)]
  have semi : gx_tok (I 10) n (gt_sk (I 10) n p) = 59 ↔ (gt_sk (I 10) n p < n ∧ I 10 (gt_sk (I 10) n p) = 59) := by
    unfold gx_tok gx_ntok
    split
    · omega
    · split
      · rename_i h1 h2
        have h3 := of_decide_eq_true h2
        split <;> omega
      · omega
  refine gr_aload_n dX2_nextEndsItem_4 rfl ?_
  refine gr_getI dX2_nextEndsItem_5 fX2_42 (by first | assumption | rfl) (by omega) (by decide) rfl ?_
  rw [i7]
  refine gr_bipush dX2_nextEndsItem_8 (by decide) ?_
  refine gr_icmp_ne 17 dX2_nextEndsItem_10 (by decide) (by unfold gw_in; omega) (by unfold gw_in; omega) (fun h10 => ?_) (fun h10 => ?_)
  · refine gr_iconst dX2_nextEndsItem_17 ?_
    refine gr_iret dX2_nextEndsItem_18 (by first | exact Or.inl rfl | exact Or.inr ⟨rfl, by omega⟩) (by decide) (by decide) (⟨0, I1, rfl, rfl, Or.inr ⟨fun h => h10 (semi.mpr h), rfl⟩, i6, fr⟩)
  · have hs2 := semi.mp h10
    refine gr_iconst dX2_nextEndsItem_13 ?_
    refine gr_goto 18 dX2_nextEndsItem_14 (by decide) ?_
    refine gr_iret dX2_nextEndsItem_18 (by first | exact Or.inl rfl | exact Or.inr ⟨rfl, by omega⟩) (by decide) (by decide) (⟨1, I1, rfl, rfl, Or.inl ⟨hs2.1, hs2.2, rfl, by rw [i5]; unfold gx_pos; rw [if_neg (by omega), if_neg (by rw [hs2.2]; decide)]⟩, i6, fr⟩)
/-- an item ends -/
theorem gx_end_res {I0 I1 I2 : Nat → Nat → Int} {e : Nat} {st : gt_S} {r : Int} (hT0 : I1 10 = I0 10) (hfr : gx_fr I0 I1) (hB : gb_B I1 2) (hN : gp_N (I1 9)) (hst : gx_st I1 st) (hok : gt_ok st) (h1 : (gt_sk (I1 10) n e < n ∧ I1 10 (gt_sk (I1 10) n e) = 59 ∧ r = 1 ∧ I2 1 5 = ((gt_sk (I1 10) n e + 1 : Nat) : Int)) ∨ (¬ (gt_sk (I1 10) n e < n ∧ I1 10 (gt_sk (I1 10) n e) = 59) ∧ r = 0)) (h2 : I2 1 6 = ((gt_sk (I1 10) n e : Nat) : Int)) (h3 : ∀ b i, ¬ (b = 1 ∧ 5 ≤ i ∧ i ≤ 8) → I2 b i = I1 b i) : gx_res I0 I2 n (gt_end (I0 10) n e st) r := by
  have q : ∀ a, a ≠ 1 → I2 a = I1 a := fun a ha => funext fun i => h3 a i (by omega)
  rw [hT0] at h1 h2
  refine ⟨gx_fr_tr hfr (gx_fr_nx h3), ?_, ?_, ?_⟩
  · unfold gb_B at hB ⊢
    simp only [q (2 + 1) (by omega), q (2 + 2) (by omega), q (2 + 3) (by omega), q (2 + 4) (by omega), q (2 + 5) (by omega)]
    exact hB
  · rw [q 9 (by omega)]; exact hN
  · unfold gt_end
    rcases h1 with ⟨a1, a2, a3, a4⟩ | ⟨a1, a2⟩
    · rw [if_pos ⟨a1, a2⟩]
      refine ⟨a3, ?_, hok, a4, by omega⟩
      obtain ⟨s1, s2, s3, s4, s5, s6, s7, s8⟩ := hst
      exact ⟨by rw [q 2 (by omega)]; exact s1, by rw [q 2 (by omega)]; exact s2, fun r p x y z => by rw [q (2 + r) (by omega)]; exact s3 r p x y z, by rw [q 8 (by omega)]; exact s4, fun i hi => by rw [q 9 (by omega)]; exact s5 i hi, by rw [q 8 (by omega)]; exact s6, by rw [q 8 (by omega)]; exact s7, by rw [h3 1 9 (by omega)]; exact s8⟩
    · rw [if_neg a1]
      exact ⟨a2, h2⟩
theorem gx_fail {I0 I1 I2 : Nat → Nat → Int} {f : Nat} (hfr : gx_fr I0 I1) (hB : gb_B I1 2) (hN : gp_N (I1 9)) (h2 : I2 1 6 = (f : Int)) (h3 : ∀ b i, ¬ (b = 1 ∧ 5 ≤ i ∧ i ≤ 8) → I2 b i = I1 b i) : gx_res I0 I2 n (.inl f) 0 := by
  have q : ∀ a, a ≠ 1 → I2 a = I1 a := fun a ha => funext fun i => h3 a i (by omega)
  refine ⟨gx_fr_tr hfr (gx_fr_nx h3), ?_, ?_, rfl, h2⟩
  · unfold gb_B at hB ⊢
    simp only [q (2 + 1) (by omega), q (2 + 2) (by omega), q (2 + 3) (by omega), q (2 + 4) (by omega), q (2 + 5) (by omega)]
    exact hB
  · rw [q 9 (by omega)]; exact hN
theorem gt_add_bw {st : gt_S} {k lo hi wt sp : Int} : gb_bw ((gt_add st k lo hi wt sp).2.1 1) (gt_add st k lo hi wt sp).1 = gb_bw (st.2.1 1) st.1 + (if k = 1 then 1 else 0) := by
  have h1 : (gt_add st k lo hi wt sp).1 = st.1 + 1 := rfl
  rw [h1]
  simp only [gb_bw]
  rw [gb_bw_congr (K := (gt_add st k lo hi wt sp).2.1 1) (L := st.2.1 1) (fun i hi => by unfold gt_add; dsimp only; rw [if_neg (by omega)])]
  unfold gt_add
  simp
end GX
