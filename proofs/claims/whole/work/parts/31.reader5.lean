/-! Reader: readItem, read, add -/
theorem gt_end_gt {T : Nat → Int} {n e0 e : Nat} {st st' : gt_S} (h : gt_end T n e0 st = .inr (e, st')) (he : e0 ≤ n) : e0 < e := by
  unfold gt_end at h
  split at h
  · have h1 := (Prod.mk.inj (Sum.inr.inj h)).1
    have := (gt_sk_in (T := T) he).1
    omega
  · cases h
theorem gt_num_gt {T : Nat → Int} {n a e : Nat} {lo hi v : Int} (h : gt_num T n lo hi a = some (e, v)) (ha : a ≤ n) : a < e ∧ e ≤ n := by
  have h1 := gt_num_in h ha
  have h2 := (gt_sk_in (T := T) ha).1
  omega
theorem gt_item_gt {T : Nat → Int} {n a e : Nat} {st st' : gt_S} (h : gt_item T n st a = .inr (e, st')) (ha : a < n) : a < e := by
  have pl : ∀ k, gt_player T n st k a = .inr (e, st') → a < e := by
    intro k h
    unfold gt_player at h
    split at h
    · cases h
    · split at h
      · cases h
      · rename_i e1 lo h1
        have g1 := gt_num_gt h1 (by omega)
        split at h
        · cases h
        · rename_i e2 hi h2
          have g2 := gt_num_gt h2 (by omega)
          split at h
          · cases h
          · rename_i e3 wt h3
            have g3 := gt_num_gt h3 (by omega)
            split at h
            · split at h
              · cases h
              · rename_i e4 sp h4
                have g4 := gt_num_gt h4 (by omega)
                have := gt_end_gt h (by omega)
                omega
            · have := gt_end_gt h (by omega)
              omega
  have ch : gt_chord T n st a = .inr (e, st') → a < e := by
    intro h
    unfold gt_chord at h
    split at h
    · cases h
    · split at h
      · cases h
      · rename_i e1 x h1
        have g1 := gt_num_gt h1 (by omega)
        have k1 := (gt_sk_in (T := T) (n := n) (a := e1) (by omega)).1
        split at h
        · have := (Prod.mk.inj (Sum.inr.inj h)).1; omega
        · split at h
          · cases h
          · rename_i e2 y h2
            have g2 := gt_num_gt h2 (by omega)
            have k2 := (gt_sk_in (T := T) (n := n) (a := e2) (by omega)).1
            split at h
            · have := (Prod.mk.inj (Sum.inr.inj h)).1; omega
            · split at h
              · cases h
              · rename_i e3 z h3
                have g3 := gt_num_gt h3 (by omega)
                have k3 := (gt_sk_in (T := T) (n := n) (a := e3) (by omega)).1
                split at h
                · have := (Prod.mk.inj (Sum.inr.inj h)).1; omega
                · cases h
  have ru : gt_rules T n st a = .inr (e, st') → a < e := by
    intro h
    unfold gt_rules at h
    split at h
    · cases h
    · split at h
      · cases h
      · rename_i e1 x h1
        have g1 := gt_num_gt h1 (by omega)
        split at h
        · cases h
        · rename_i e2 y h2
          have g2 := gt_num_gt h2 (by omega)
          have := gt_end_gt h (by omega)
          omega
  unfold gt_item at h
  split at h
  · exact pl _ h
  · split at h
    · exact pl _ h
    · split at h
      · exact pl _ h
      · split at h
        · exact ch h
        · split at h
          · exact ru h
          · cases h
section GX
variable {I : Nat → Nat → Int} {F : Nat → Nat → Option Nat} {n : Nat}
theorem c_readItem {a : Nat} {st : gt_S} (d : Nat) (hF : gx_K F) (hT : gx_T I n) (ha : a < n) (hat : I 1 5 = ((gx_pos (I 10) n a : Nat) : Int)) (hst6 : I 1 6 = (a : Int)) (hst7 : I 1 7 = gx_tok (I 10) n a) (hst : gx_st I st) (hok : gt_ok st) (hB : gb_B I 2) (hN : gp_N (I 9)) : gw_Met jX2_readItem (d + 5) [.inr (some 1)] (114, I, F) (gw_io F (fun r I' => gx_res I I' n (gt_item (I 10) n st a) r)) := by
  obtain ⟨hn, hn150, hle⟩ := id hT
  have hta := hle a ha
  have htk := gx_tok_in (n := n) (a := a) hle
  -- a letter's token and place
  have let_ : ∀ x : Int, gx_tok (I 10) n a = x → 60 ≤ x → I 10 a = x ∧ I 1 5 = ((a + 1 : Nat) : Int) := by
    intro x hx h60
    unfold gx_tok gx_ntok at hx
    rw [if_neg (by omega)] at hx
    by_cases hfg : gt_fig (I 10 a) = true
    · rw [if_pos hfg] at hx
      split at hx <;> omega
    · rw [if_neg hfg] at hx
      refine ⟨hx, ?_⟩
      rw [hat]
      unfold gx_pos
      rw [if_neg (by omega), if_neg hfg]
  have res01 : ∀ (o : Nat ⊕ (Nat × gt_S)) (r : Int) (I' : Nat → Nat → Int), gx_res I I' n o r → r = 0 ∨ r = 1 := by
    intro o r I' h
    obtain ⟨-, -, -, h⟩ := h
    cases o with
    | inl f => exact Or.inl h.1
    | inr q => exact Or.inr h.1
  refine gw_enter okX2_readItem rfl (Nat.le_of_ble_eq_true rfl) ?_
  refine gr_aload_n dX2_readItem_0 rfl ?_
  refine gr_getI dX2_readItem_1 fX2_42 (by first | assumption | rfl) (by omega) (by decide) rfl ?_
  rw [hst7]
  by_cases c1 : gx_tok (I 10) n a = 114
  · obtain ⟨l1, l2⟩ := let_ 114 c1 (by omega)
    rw [c1]
    refine gr_lookup 56 dX2_readItem_4 (by decide) (by unfold gw_in; omega) (off := 52) rfl (by decide) ?_
    refine gr_aload_n dX2_readItem_56 rfl ?_
    refine gr_iconst dX2_readItem_57 ?_
    refine gr_virt dX2_readItem_58 kX2_69 (as := [_]) rfl rfl (by first | assumption | rfl) (by omega) (Nat.le_of_ble_eq_true rfl) (gw_Rm_m (by omega) (by decide) (by decide)) (c_readPlayer (a := a) (st := st) d hF hT ha l2 hst6 (by omega) hst hok hB hN) ?_
    rintro _ _ ⟨r, I1, rfl, rfl, hr⟩
    refine gr_iret dX2_readItem_61 (Or.inr ⟨rfl, res01 _ _ _ hr⟩) (by decide) (by decide) ⟨r, I1, rfl, rfl, ?_⟩
    unfold gt_item
    rw [if_pos l1]
    exact hr
  · by_cases c2 : gx_tok (I 10) n a = 98
    · obtain ⟨l1, l2⟩ := let_ 98 c2 (by omega)
      rw [c2]
      refine gr_lookup 62 dX2_readItem_4 (by decide) (by unfold gw_in; omega) (off := 58) rfl (by decide) ?_
      refine gr_aload_n dX2_readItem_62 rfl ?_
      refine gr_iconst dX2_readItem_63 ?_
      refine gr_virt dX2_readItem_64 kX2_69 (as := [_]) rfl rfl (by first | assumption | rfl) (by omega) (Nat.le_of_ble_eq_true rfl) (gw_Rm_m (by omega) (by decide) (by decide)) (c_readPlayer (a := a) (st := st) d hF hT ha l2 hst6 (by omega) hst hok hB hN) ?_
      rintro _ _ ⟨r, I1, rfl, rfl, hr⟩
      refine gr_iret dX2_readItem_67 (Or.inr ⟨rfl, res01 _ _ _ hr⟩) (by decide) (by decide) ⟨r, I1, rfl, rfl, ?_⟩
      unfold gt_item
      rw [if_neg (by omega), if_pos l1]
      exact hr
    · by_cases c3 : gx_tok (I 10) n a = 103
      · obtain ⟨l1, l2⟩ := let_ 103 c3 (by omega)
        rw [c3]
        refine gr_lookup 68 dX2_readItem_4 (by decide) (by unfold gw_in; omega) (off := 64) rfl (by decide) ?_
        refine gr_aload_n dX2_readItem_68 rfl ?_
        refine gr_iconst dX2_readItem_69 ?_
        refine gr_virt dX2_readItem_70 kX2_69 (as := [_]) rfl rfl (by first | assumption | rfl) (by omega) (Nat.le_of_ble_eq_true rfl) (gw_Rm_m (by omega) (by decide) (by decide)) (c_readPlayer (a := a) (st := st) d hF hT ha l2 hst6 (by omega) hst hok hB hN) ?_
        rintro _ _ ⟨r, I1, rfl, rfl, hr⟩
        refine gr_iret dX2_readItem_73 (Or.inr ⟨rfl, res01 _ _ _ hr⟩) (by decide) (by decide) ⟨r, I1, rfl, rfl, ?_⟩
        unfold gt_item
        rw [if_neg (by omega), if_neg (by omega), if_pos l1]
        exact hr
      · by_cases c4 : gx_tok (I 10) n a = 110
        · obtain ⟨l1, l2⟩ := let_ 110 c4 (by omega)
          rw [c4]
          refine gr_lookup 74 dX2_readItem_4 (by decide) (by unfold gw_in; omega) (off := 70) rfl (by decide) ?_
          refine gr_aload_n dX2_readItem_74 rfl ?_
          refine gr_virt dX2_readItem_75 kX2_73 (as := []) rfl rfl (by first | assumption | rfl) (by omega) (Nat.le_of_ble_eq_true rfl) (gw_Rm_m (by omega) (by decide) (by decide)) (c_readChord (a := a) (st := st) d hF hT ha l2 hst6 hst hok hB hN) ?_
          rintro _ _ ⟨r, I1, rfl, rfl, hr⟩
          refine gr_iret dX2_readItem_78 (Or.inr ⟨rfl, res01 _ _ _ hr⟩) (by decide) (by decide) ⟨r, I1, rfl, rfl, ?_⟩
          unfold gt_item
          rw [if_neg (by omega), if_neg (by omega), if_neg (by omega), if_pos l1]
          exact hr
        · by_cases c5 : gx_tok (I 10) n a = 113
          · obtain ⟨l1, l2⟩ := let_ 113 c5 (by omega)
            rw [c5]
            refine gr_lookup 79 dX2_readItem_4 (by decide) (by unfold gw_in; omega) (off := 75) rfl (by decide) ?_
            refine gr_aload_n dX2_readItem_79 rfl ?_
            refine gr_virt dX2_readItem_80 kX2_76 (as := []) rfl rfl (by first | assumption | rfl) (by omega) (Nat.le_of_ble_eq_true rfl) (gw_Rm_m (by omega) (by decide) (by decide)) (c_readRules (a := a) (st := st) d hF hT ha l2 hst6 hst hok hB hN) ?_
            rintro _ _ ⟨r, I1, rfl, rfl, hr⟩
            refine gr_iret dX2_readItem_83 (Or.inr ⟨rfl, res01 _ _ _ hr⟩) (by decide) (by decide) ⟨r, I1, rfl, rfl, ?_⟩
            unfold gt_item
            rw [if_neg (by omega), if_neg (by omega), if_neg (by omega), if_neg (by omega), if_pos l1]
            exact hr
          · refine gr_lookup 84 dX2_readItem_4 (by decide) (by unfold gw_in; omega) (off := 80) (by simp only [Op.lookupswitch.offset_cons, Op.lookupswitch.offset_nil]; rw [if_neg (by omega), if_neg (by omega), if_neg (by omega), if_neg (by omega), if_neg (by omega)]) (by decide) ?_
            refine gr_iconst dX2_readItem_84 ?_
            refine gr_iret dX2_readItem_85 (Or.inr ⟨rfl, Or.inl rfl⟩) (by decide) (by decide) ⟨0, I, rfl, rfl, ?_⟩
            have key : ∀ x : Int, 60 ≤ x → gx_tok (I 10) n a ≠ x → I 10 a ≠ x := by
              intro x h60 hx he
              apply hx
              unfold gx_tok
              rw [if_neg (by omega), if_neg (by unfold gt_fig; simp only [decide_eq_true_eq]; omega)]
              exact he
            unfold gt_item
            rw [if_neg (key 114 (by omega) c1), if_neg (key 98 (by omega) c2), if_neg (key 103 (by omega) c3), if_neg (key 110 (by omega) c4), if_neg (key 113 (by omega) c5)]
            exact gx_fail gx_fr_rf hB hN hst6 (fun _ _ _ => rfl)
/-- the answer of read() -/
def gx_read (I I' : Nat → Nat → Int) (n : Nat) (r : Int) : Prop := gx_fr I I' ∧ gb_B I' 2 ∧ gp_N (I' 9) ∧ match gt_band (I 10) n with
  | .inl f => r = -10 - (f : Int)
  | .inr (items, st) => r = (items : Int) ∧ gx_st I' st ∧ gt_ok st ∧ I' 8 1 = 2 ^ st.1 - 1
theorem c_read (d : Nat) (hF : gx_K F) (hT : gx_T I n) (hB : gb_B I 2) (hN : gp_N (I 9)) : gw_Met jX2_read (d + 6) [.inr (some 1)] (114, I, F) (gw_io F (fun r I' => gx_read I I' n r)) := by
  have hF' := hF
  obtain ⟨f0, f1, f3, f4, fb, fp⟩ := hF
  obtain ⟨fp1, fp2, fp3, fp4⟩ := id fp
  obtain ⟨fb0, fb1, fb2, fb3, fb4, fb5, fbn, fg1, fg2, fg3, fg4, fg5⟩ := id fb
  obtain ⟨hn, hn150, hle⟩ := id hT
  refine gw_enter okX2_read rfl (Nat.le_of_ble_eq_true rfl) ?_
  refine gr_aload_n dX2_read_0 rfl ?_
  refine gr_iconst dX2_read_1 ?_
  refine gr_putI dX2_read_2 fX2_36 (by first | assumption | rfl) (by omega) (Or.inl rfl) rfl ?_
  refine gr_aload_n dX2_read_5 rfl ?_
  refine gr_iconst dX2_read_6 ?_
  refine gr_putI dX2_read_7 fX2_48 (by first | assumption | rfl) (by omega) (Or.inr ⟨rfl, (by omega)⟩) rfl ?_
  refine gr_aload_n dX2_read_10 rfl ?_
  refine gr_getR dX2_read_11 fX2_12 (by first | assumption | rfl) (by omega) (by decide) rfl (by assumption) ?_
  refine gr_virt dX2_read_14 kX2_52 (as := []) rfl rfl (by first | assumption | rfl) (by omega) (Nat.le_of_ble_eq_true rfl) (gw_Rm_m (by omega) (by decide) (by decide)) (c_bempty (d + 5) fb) ?_
  rintro _ _ ⟨rfl, I1, rfl, hI1⟩
  refine gr_aload_n dX2_read_17 rfl ?_
  refine gr_getR dX2_read_18 fX2_21 (by first | assumption | rfl) (by omega) (by decide) rfl (by assumption) ?_
  refine gr_virt dX2_read_21 kX2_55 (as := []) rfl rfl (by first | assumption | rfl) (by omega) (Nat.le_of_ble_eq_true rfl) (gw_Rm_m (by omega) (by decide) (by decide)) (c_pempty (d + 5) fp) ?_
  rintro _ _ ⟨rfl, I2, rfl, hI2⟩
  have v2 : ∀ b i, I2 b i = if b = 1 ∧ i = 5 then 0 else if b = 1 ∧ i = 9 then 0 else if b = 2 ∧ i = 0 then 0 else if b = 2 ∧ i = 1 then 0 else if b = 8 ∧ i = 0 then 0 else if b = 8 ∧ i = 1 then 0 else if b = 8 ∧ i = 2 then 5 else if b = 8 ∧ i = 3 then 9 else I b i := by
    intro b i
    rw [hI2, hI1]
    unfold gw_U
    grind
  have q2 : ∀ b, b ≠ 1 → b ≠ 2 → b ≠ 8 → I2 b = I b := fun b h1 h2 h3 => funext fun i => by
    rw [v2, if_neg (by omega), if_neg (by omega), if_neg (by omega), if_neg (by omega), if_neg (by omega), if_neg (by omega), if_neg (by omega), if_neg (by omega)]
  have fr2 : gx_fr I I2 := fun b i h1 h2 h3 => by
    rw [v2, if_neg (by omega), if_neg (by omega), if_neg (by omega), if_neg (by omega), if_neg (by omega), if_neg (by omega), if_neg (by omega), if_neg (by omega)]
  have T2 := gx_T_fr fr2 hT
  have st2 : gx_st I2 gt_S0 := by
    refine ⟨by rw [v2]; simp [gt_S0], by rw [v2]; simp [gt_S0, gb_bw], fun r p _ _ h => absurd h (by simp [gt_S0]), by rw [v2]; simp [gt_S0], fun i h => absurd h (by simp [gt_S0]), by rw [v2]; simp [gt_S0], by rw [v2]; simp [gt_S0], by rw [v2]; simp [gt_S0]⟩
  have ok2 : gt_ok gt_S0 := by
    refine ⟨by simp [gt_S0], by simp [gt_S0], by simp [gt_S0, gb_bw], fun p h => absurd h (by simp [gt_S0]), fun c h => absurd h (by simp [gt_S0]), by simp [gt_S0], by simp [gt_S0]⟩
  have B2 : gb_B I2 2 := by
    intro p hp
    rw [q2 (2 + 1) (by omega) (by omega) (by omega), q2 (2 + 2) (by omega) (by omega) (by omega), q2 (2 + 3) (by omega) (by omega) (by omega), q2 (2 + 4) (by omega) (by omega) (by omega), q2 (2 + 5) (by omega) (by omega) (by omega)]
    exact hB p hp
  have N2 : gp_N (I2 9) := by rw [q2 9 (by omega) (by omega) (by omega)]; exact hN
  generalize hQ : gw_io F (fun r I' => gx_read I I' n r) = Q
  -- one more token, and on
  have key : ∀ (m p items : Nat) (st : gt_S) (I3 : Nat → Nat → Int), m + items = 200 → items ≤ p → p ≤ n → gx_fr I I3 → I3 1 5 = (p : Int) → gx_st I3 st → gt_ok st → gb_B I3 2 → gp_N (I3 9) → gt_band (I 10) n = gt_loop (I 10) n m p items st → ∀ pc0 : Bool, gw_G (gw_Cm jX2_read (d + 6) Q) jX2_read (if pc0 then 26 else 63) [some (.inr (some 1)), some (.inl (items : Int))] [] (114, I3, F) 0 0 := by
    intro m
    induction m with
    | zero => intro p items st I3 h1 h2 h3; omega
    | succ m ih =>
      intro p items st I3 hm hip hpn fr3 p3 st3 ok3 B3 N3 hbd pc0
      have T3 := gx_T_fr fr3 hT
      have hsk := gt_sk_in (T := I 10) hpn
      have htk := gx_tok_in (n := n) (a := gt_sk (I 10) n p) hle
      -- behind next()
      have tl : ∀ I4 : Nat → Nat → Int, gx_nx I3 I4 n (gt_sk (I 10) n p) → gw_G (gw_Cm jX2_read (d + 6) Q) jX2_read 30 [some (.inr (some 1)), some (.inl (items : Int))] [] (114, I4, F) 0 0 := by
        intro I4 hI4
        unfold gx_nx at hI4
        rw [T3.2] at hI4
        have i7 : I4 1 7 = gx_tok (I 10) n (gt_sk (I 10) n p) := by rw [hI4]; simp
        have i5 : I4 1 5 = ((gx_pos (I 10) n (gt_sk (I 10) n p) : Nat) : Int) := by rw [hI4]; simp
        have i6 : I4 1 6 = ((gt_sk (I 10) n p : Nat) : Int) := by rw [hI4]; simp
        have q4 : ∀ b i, ¬ (b = 1 ∧ 5 ≤ i ∧ i ≤ 8) → I4 b i = I3 b i := fun b i h => by
          rw [hI4, if_neg (by omega), if_neg (by omega), if_neg (by omega), if_neg (by omega)]
        have r4 : ∀ b, b ≠ 1 → I4 b = I3 b := fun b hb => funext fun i => q4 b i (by omega)
        have fr4 : gx_fr I I4 := gx_fr_tr fr3 (gx_fr_nx q4)
        have T4 := gx_T_fr fr4 hT
        have st4 : gx_st I4 st := by
          obtain ⟨s1, s2, s3, s4, s5, s6, s7, s8⟩ := st3
          exact ⟨by rw [r4 2 (by omega)]; exact s1, by rw [r4 2 (by omega)]; exact s2, fun r p x y z => by rw [r4 (2 + r) (by omega)]; exact s3 r p x y z, by rw [r4 8 (by omega)]; exact s4, fun i hi => by rw [r4 9 (by omega)]; exact s5 i hi, by rw [r4 8 (by omega)]; exact s6, by rw [r4 8 (by omega)]; exact s7, by rw [q4 1 9 (by omega)]; exact s8⟩
        have B4 : gb_B I4 2 := by
          intro p hp
          rw [r4 (2 + 1) (by omega), r4 (2 + 2) (by omega), r4 (2 + 3) (by omega), r4 (2 + 4) (by omega), r4 (2 + 5) (by omega)]
          exact B3 p hp
        have N4 : gp_N (I4 9) := by rw [r4 9 (by omega)]; exact N3
        refine gr_aload_n dX2_read_30 rfl ?_
        refine gr_getI dX2_read_31 fX2_42 (by first | assumption | rfl) (by omega) (by decide) rfl ?_
        rw [i7]
        refine gr_iconst dX2_read_34 ?_
        have hend : gx_tok (I 10) n (gt_sk (I 10) n p) = -1 ↔ n ≤ gt_sk (I 10) n p := by
          unfold gx_tok gx_ntok
          split
          · omega
          · rename_i h
            have := hle (gt_sk (I 10) n p) (by omega)
            split
            · split <;> omega
            · omega
        refine gr_icmp_eq 70 dX2_read_35 (by decide) (by unfold gw_in; omega) (by unfold gw_in; omega) (fun h35 => ?_) (fun h35 => ?_)
        · have hge := hend.mp h35
          have hb2 : gt_band (I 10) n = .inr (items, st) := by
            rw [hbd]
            simp only [gt_loop]
            rw [if_pos hge]
          obtain ⟨s1, s2, s3, s4, s5, s6, s7, s8⟩ := id st4
          have hp4 : st.1 ≤ 4 := ok3.1
          have hpow : 2 ^ st.1 ≤ 16 := Nat.pow_le_pow_right (n := 2) (by omega) hp4
          refine gr_aload_n dX2_read_70 rfl ?_
          refine gr_getR dX2_read_71 fX2_21 (by first | assumption | rfl) (by omega) (by decide) rfl (by assumption) ?_
          refine gr_iconst dX2_read_74 ?_
          refine gr_aload_n dX2_read_75 rfl ?_
          refine gr_getR dX2_read_76 fX2_12 (by first | assumption | rfl) (by omega) (by decide) rfl (by assumption) ?_
          refine gr_getI dX2_read_79 fX2_63 (by first | assumption | rfl) (by omega) (by decide) rfl ?_
          rw [s1]
          refine gr_ishl (v := ((1 * 2 ^ st.1 : Nat) : Int)) dX2_read_82 (ga_shlN (a := 1) (by omega) (by omega)) ?_
          refine gr_iconst dX2_read_83 ?_
          refine gr_isub dX2_read_84 rfl ?_
          refine gr_putI dX2_read_85 fX2_66 (by first | assumption | rfl) (by omega) (Or.inl rfl) rfl ?_
          refine gr_iload_n dX2_read_88 rfl ?_
          refine gr_iret dX2_read_89 (Or.inl rfl) (by decide) (by decide) ?_
          rw [← hQ]
          refine ⟨_, _, rfl, rfl, fun b i h1 h2 h3 => by rw [gw_U_n (by omega)]; exact fr4 b i h1 h2 h3, ?_, ?_, ?_⟩
          · intro p hp
            rw [gw_U_n (by omega), gw_U_n (by omega), gw_U_n (by omega), gw_U_n (by omega), gw_U_n (by omega)]
            exact B4 p hp
          · intro i hi
            rw [gw_U_n (by omega)]
            exact N4 i hi
          · rw [hb2]
            refine ⟨rfl, ?_, ok3, ?_⟩
            · exact ⟨by rw [gw_U_n (by omega)]; exact s1, by rw [gw_U_n (by omega)]; exact s2, fun r p x y z => by rw [gw_U_n (by omega)]; exact s3 r p x y z, by rw [gw_U_n (by omega)]; exact s4, fun i hi => by rw [gw_U_n (by omega)]; exact s5 i hi, by rw [gw_U_n (by omega)]; exact s6, by rw [gw_U_n (by omega)]; exact s7, by rw [gw_U_n (by omega)]; exact s8⟩
            · rw [gw_U_s, Nat.one_mul]
              simp
        · have hlt : gt_sk (I 10) n p < n := by
            rcases Nat.lt_or_ge (gt_sk (I 10) n p) n with h | h
            · exact h
            · exact absurd (hend.mpr h) h35
          refine gr_iload_n dX2_read_38 rfl ?_
          refine gr_sipush dX2_read_39 (by decide) ?_
          refine gr_icmp_ge 70 dX2_read_42 (by decide) (by unfold gw_in; omega) (by unfold gw_in; omega) (fun h42 => ?_) (fun h42 => ?_)
          · omega
          · refine gr_aload_n dX2_read_45 rfl ?_
            refine gr_virt dX2_read_46 kX2_59 (as := []) rfl rfl (by first | assumption | rfl) (by omega) (Nat.le_of_ble_eq_true rfl) (gw_Rm_m (by omega) (by decide) (by decide)) (c_readItem (a := gt_sk (I 10) n p) (st := st) (n := n) d hF' T4.1 hlt (by rw [T4.2]; exact i5) i6 (by rw [T4.2]; exact i7) st4 ok3 B4 N4) ?_
            rintro _ _ ⟨r, I5, rfl, rfl, hr⟩
            rw [T4.2] at hr
            obtain ⟨fr5, B5, N5, hr⟩ := hr
            have fr5' := gx_fr_tr fr4 fr5
            cases ho : gt_item (I 10) n st (gt_sk (I 10) n p) with
            | inl f =>
              rw [ho] at hr
              dsimp only at hr
              obtain ⟨rfl, h6⟩ := hr
              refine gr_if_ne 60 dX2_read_49 (by decide) (by unfold gw_in; omega) (fun h49 => ?_) (fun h49 => ?_)
              · omega
              · refine gr_bipush dX2_read_52 (by decide) ?_
                refine gr_aload_n dX2_read_54 rfl ?_
                refine gr_getI dX2_read_55 fX2_39 (by first | assumption | rfl) (by omega) (by decide) rfl ?_
                rw [h6]
                refine gr_isub dX2_read_58 rfl ?_
                refine gr_iret dX2_read_59 (Or.inl rfl) (by decide) (by decide) ?_
                rw [← hQ]
                refine ⟨_, _, rfl, rfl, fr5', B5, N5, ?_⟩
                rw [hbd]
                simp only [gt_loop]
                rw [if_neg (by omega), ho]
            | inr q =>
              obtain ⟨e, st'⟩ := q
              rw [ho] at hr
              dsimp only at hr
              obtain ⟨rfl, s5, o5, p5, hen⟩ := hr
              have hgt := gt_item_gt ho hlt
              refine gr_if_ne 60 dX2_read_49 (by decide) (by unfold gw_in; omega) (fun h49 => ?_) (fun h49 => ?_)
              · refine gr_iinc (v := ((items + 1 : Nat) : Int)) dX2_read_60 (by decide) rfl (by omega) ?_
                exact ih e (items + 1) st' I5 (by omega) (by omega) hen fr5' p5 s5 o5 B5 N5 (by
                  rw [hbd]
                  conv => lhs; unfold gt_loop
                  rw [if_neg (by omega), ho]) false
              · omega
      cases pc0 with
      | true =>
        refine gr_aload_n dX2_read_26 rfl ?_
        refine gr_virt dX2_read_27 kX2_56 (as := []) rfl rfl (by first | assumption | rfl) (by omega) (Nat.le_of_ble_eq_true rfl) (gw_Rm_m (by omega) (by decide) (by decide)) (c_next (p := p) (d + 3) hF' T3.1 hpn p3) ?_
        rintro _ _ ⟨rfl, I4, rfl, hI4⟩
        rw [T3.2] at hI4
        exact tl I4 hI4
      | false =>
        refine gr_aload_n dX2_read_63 rfl ?_
        refine gr_virt dX2_read_64 kX2_56 (as := []) rfl rfl (by first | assumption | rfl) (by omega) (Nat.le_of_ble_eq_true rfl) (gw_Rm_m (by omega) (by decide) (by decide)) (c_next (p := p) (d + 3) hF' T3.1 hpn p3) ?_
        rintro _ _ ⟨rfl, I4, rfl, hI4⟩
        rw [T3.2] at hI4
        refine gr_goto 30 dX2_read_67 (by decide) ?_
        exact tl I4 hI4
  refine gr_iconst dX2_read_24 ?_
  refine gr_istore_n dX2_read_25 (by decide) ?_
  exact key 200 0 0 gt_S0 I2 (by omega) (by omega) (by omega) fr2 (by rw [v2]; simp) st2 ok2 B2 N2 rfl true
end GX
