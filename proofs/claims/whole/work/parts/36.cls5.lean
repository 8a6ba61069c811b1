/-! ChordSpreads: what is asked -/
/-- all but scratch is as it was -/
def gc_same (I I' : Nat → Nat → Int) : Prop := ∀ a i, a < 21 ∨ 70 ≤ a → ¬ (a = 12 ∧ i = 2) → ¬ (a = 0 ∧ i = 11) → I' a i = I a i
theorem gc_same_rf {I : Nat → Nat → Int} : gc_same I I := fun _ _ _ _ _ => rfl
theorem gc_same_tr {I I1 I2 : Nat → Nat → Int} (h1 : gc_same I I1) (h2 : gc_same I1 I2) : gc_same I I2 := fun a i x y z => (h2 a i x y z).trans (h1 a i x y z)
theorem gc_same_e {I I' : Nat → Nat → Int} (h : gc_same I I') {a : Nat} (h0 : a ≠ 0) (h12 : a ≠ 12) (ha : a < 21 ∨ 70 ≤ a) : I' a = I a := funext fun i => h a i ha (by omega) (by omega)
theorem gc_same_B {I I' : Nat → Nat → Int} (h : gc_same I I') : gc_B I' = gc_B I := gc_Bc fun a _ _ => gc_same_e h (by omega) (by omega) (by omega)
section GC
variable {I : Nat → Nat → Int} {F : Nat → Nat → Option Nat} {P n : Nat} {pp : Nat → Nat}
theorem gc_D_same {I' : Nat → Nat → Int} (hK : gc_K F pp) (hD : gc_D I P n pp) (h : gc_same I I') (hs : (I' 0 11 = 0 ∨ I' 0 11 = 1) ∧ (I' 0 11 = 1 → gc_sol I' P)) : gc_D I' P n pp :=
  gc_D_fr hK hD (fun a h0 h12 _ _ h2 => gc_same_e h h0 h12 h2) (fun i hi => h 0 i (by omega) (by omega) (by omega)) (gc_W_e (gc_same_e h (by omega) (by omega) (by omega)) (gc_same_e h (by omega) (by omega) (by omega)) hD.2.1.1) (by rw [gc_same_e h (by omega) (by omega) (by omega)]; exact hD.2.1.2) hs
/-- scratch alone, and the score stays -/
theorem gc_D_scr {I' : Nat → Nat → Int} (hK : gc_K F pp) (hD : gc_D I P n pp) (h : ∀ a, a < 21 ∨ 69 ≤ a → I' a = I a) : gc_same I I' ∧ gc_D I' P n pp := by
  have hs : gc_same I I' := fun a i ha _ _ => by rw [h a (by omega)]
  exact ⟨hs, gc_D_same hK hD hs (gc_so hD (by rw [h 0 (by omega)]) (fun a _ _ => h a (by omega)) (by rw [h 12 (by omega)]) (h 69 (by omega)))⟩
def ga_player (I : Nat → Nat → Int) (P : Nat) (x w : Int) : Int := if 0 ≤ x ∧ x < (P : Int) then (if w = 0 then I 14 x.toNat else if w = 1 then I 15 x.toNat else if w = 2 then I 16 x.toNat else if w = 3 then I 17 x.toNat else if w = 4 then (((I 19 1).toNat / 2 ^ x.toNat % 2 : Nat) : Int) else -1) else -1
theorem c_player {x w : Int} (d : Nat) (hK : gc_K F pp) (hD : gc_D I P n pp) (hx : gw_in x) (hw : gw_in w) : gw_Met jX4_player (d + 1) [.inr (some 0), .inl x, .inl w] (114, I, F) (gw_pu (ga_player I P x w) (114, I, F)) := by
  obtain ⟨k0, k1, k2, k3, k4, k6, k7, k8, k9, k70, k71, kx, kq, kp, kj, ki⟩ := id hK
  obtain ⟨b, w', -, pa, im, he, so⟩ := id hD
  obtain ⟨-, -, -, -, -, -, -, -, -, -, -, -, -, kb13, hq19⟩ := id kq
  obtain ⟨fb0, fb1, fb2, fb3, fb4, fb5, fbn, fg1, fg2, fg3, fg4, fg5⟩ := id kb13
  have hb4 := b.2.2.2.1
  have w2 := w'.1.2.1
  refine gw_enter okX4_player rfl (Nat.le_of_ble_eq_true rfl) ?_
  refine gr_aload_n dX4_player_0 rfl ?_
  refine gr_iload_n dX4_player_1 rfl ?_
  refine gr_virt dX4_player_2 kX4_89 (as := [_]) rfl rfl (by first | assumption | rfl) (by omega) (Nat.le_of_ble_eq_true rfl) (gw_Rm_m (by omega) (by decide) (by decide)) (c_isPlayer d hK b.1 hb4 hx) ?_
  rintro _ _ ⟨rfl, rfl⟩
  by_cases h1 : 0 ≤ x ∧ x < (P : Int)
  · rw [if_pos h1]
    refine gr_if_ne 10 dX4_player_5 (by decide) (by unfold gw_in; omega) (fun h5 => ?_) (fun h5 => ?_)
    · obtain ⟨c, rfl⟩ : ∃ c : Nat, x = (c : Int) := ⟨x.toNat, by omega⟩
      obtain ⟨m, hm⟩ : ∃ m : Nat, I 19 1 = (m : Int) := ⟨(I 19 1).toNat, by omega⟩
      unfold ga_player
      rw [if_pos h1, Int.toNat_natCast, hm, Int.toNat_natCast]
      refine gr_iload_n dX4_player_10 rfl ?_
      by_cases c0 : w = 0
      · subst c0
        refine gr_tableIn 44 dX4_player_11 hw (by omega) (by omega) rfl (by decide) ?_
        refine gr_aload_n dX4_player_44 rfl ?_
        refine gr_getR dX4_player_45 fX4_27 (by first | assumption | rfl) (by omega) (by decide) rfl (by assumption) ?_
        refine gr_getR dX4_player_48 fX4_93 (by first | assumption | rfl) (by omega) (by decide) rfl (by assumption) ?_
        refine gr_iload_n dX4_player_51 rfl ?_
        refine gr_iald (i := c) dX4_player_52 (by first | assumption | rfl) (by omega) (by omega) (by omega) (by decide) ?_
        refine gr_iret dX4_player_53 (by first | exact Or.inl rfl | exact Or.inr ⟨rfl, by omega⟩) (by decide) (by decide) (⟨by rw [if_pos rfl], rfl⟩)
      · by_cases c1 : w = 1
        · subst c1
          refine gr_tableIn 54 dX4_player_11 hw (by omega) (by omega) rfl (by decide) ?_
          refine gr_aload_n dX4_player_54 rfl ?_
          refine gr_getR dX4_player_55 fX4_27 (by first | assumption | rfl) (by omega) (by decide) rfl (by assumption) ?_
          refine gr_getR dX4_player_58 fX4_96 (by first | assumption | rfl) (by omega) (by decide) rfl (by assumption) ?_
          refine gr_iload_n dX4_player_61 rfl ?_
          refine gr_iald (i := c) dX4_player_62 (by first | assumption | rfl) (by omega) (by omega) (by omega) (by decide) ?_
          refine gr_iret dX4_player_63 (by first | exact Or.inl rfl | exact Or.inr ⟨rfl, by omega⟩) (by decide) (by decide) (⟨by rw [if_neg c0, if_pos rfl], rfl⟩)
        · by_cases c2 : w = 2
          · subst c2
            refine gr_tableIn 64 dX4_player_11 hw (by omega) (by omega) rfl (by decide) ?_
            refine gr_aload_n dX4_player_64 rfl ?_
            refine gr_getR dX4_player_65 fX4_27 (by first | assumption | rfl) (by omega) (by decide) rfl (by assumption) ?_
            refine gr_getR dX4_player_68 fX4_99 (by first | assumption | rfl) (by omega) (by decide) rfl (by assumption) ?_
            refine gr_iload_n dX4_player_71 rfl ?_
            refine gr_iald (i := c) dX4_player_72 (by first | assumption | rfl) (by omega) (by omega) (by omega) (by decide) ?_
            refine gr_iret dX4_player_73 (by first | exact Or.inl rfl | exact Or.inr ⟨rfl, by omega⟩) (by decide) (by decide) (⟨by rw [if_neg c0, if_neg c1, if_pos rfl], rfl⟩)
          · by_cases c3 : w = 3
            · subst c3
              refine gr_tableIn 74 dX4_player_11 hw (by omega) (by omega) rfl (by decide) ?_
              refine gr_aload_n dX4_player_74 rfl ?_
              refine gr_getR dX4_player_75 fX4_27 (by first | assumption | rfl) (by omega) (by decide) rfl (by assumption) ?_
              refine gr_getR dX4_player_78 fX4_102 (by first | assumption | rfl) (by omega) (by decide) rfl (by assumption) ?_
              refine gr_iload_n dX4_player_81 rfl ?_
              refine gr_iald (i := c) dX4_player_82 (by first | assumption | rfl) (by omega) (by omega) (by omega) (by decide) ?_
              refine gr_iret dX4_player_83 (by first | exact Or.inl rfl | exact Or.inr ⟨rfl, by omega⟩) (by decide) (by decide) (⟨by rw [if_neg c0, if_neg c1, if_neg c2, if_pos rfl], rfl⟩)
            · by_cases c4 : w = 4
              · subst c4
                refine gr_tableIn 84 dX4_player_11 hw (by omega) (by omega) rfl (by decide) ?_
                refine gr_aload_n dX4_player_84 rfl ?_
                refine gr_getR dX4_player_85 fX4_32 (by first | assumption | rfl) (by omega) (by decide) rfl (by assumption) ?_
                refine gr_getI dX4_player_88 fX4_105 (by first | assumption | rfl) (by omega) (by decide) rfl ?_
                rw [hm]
                refine gr_iload_n dX4_player_91 rfl ?_
                refine gr_ishr (v := ((m / 2 ^ c : Nat) : Int)) dX4_player_92 (ga_bit (by omega) (by omega)) ?_
                refine gr_iconst dX4_player_93 ?_
                refine gr_iand (v := ((m / 2 ^ c % 2 : Nat) : Int)) dX4_player_94 (ga_bit1 _) ?_
                refine gr_iret dX4_player_95 (by first | exact Or.inl rfl | exact Or.inr ⟨rfl, by omega⟩) (by decide) (by decide) (⟨by rw [if_neg c0, if_neg c1, if_neg c2, if_neg c3, if_pos rfl], rfl⟩)
              · refine gr_tableOut 96 dX4_player_11 hw (by omega) (by decide) ?_
                refine gr_iconst dX4_player_96 ?_
                refine gr_iret dX4_player_97 (by first | exact Or.inl rfl | exact Or.inr ⟨rfl, by omega⟩) (by decide) (by decide) (⟨by rw [if_neg c0, if_neg c1, if_neg c2, if_neg c3, if_neg c4], rfl⟩)
    · omega
  · rw [if_neg h1]
    refine gr_if_ne 10 dX4_player_5 (by decide) (by unfold gw_in; omega) (fun h5 => ?_) (fun h5 => ?_)
    · omega
    · refine gr_iconst dX4_player_8 ?_
      refine gr_iret dX4_player_9 (by first | exact Or.inl rfl | exact Or.inr ⟨rfl, by omega⟩) (by decide) (by decide) (⟨by unfold ga_player; rw [if_neg h1], rfl⟩)
def ga_span (I : Nat → Nat → Int) (P : Nat) (x : Int) : Int := if (0 ≤ x ∧ x < (P : Int)) ∧ I 14 x.toNat = 1 then I 18 x.toNat else -1
theorem c_span {x : Int} (d : Nat) (hK : gc_K F pp) (hD : gc_D I P n pp) (hx : gw_in x) : gw_Met jX4_span (d + 1) [.inr (some 0), .inl x] (114, I, F) (gw_pu (ga_span I P x) (114, I, F)) := by
  obtain ⟨k0, k1, k2, k3, k4, k6, k7, k8, k9, k70, k71, kx, kq, kp, kj, ki⟩ := id hK
  obtain ⟨b, w', -, pa, im, he, so⟩ := id hD
  obtain ⟨-, -, -, -, -, -, -, -, -, -, -, -, -, kb13, hq19⟩ := id kq
  obtain ⟨fb0, fb1, fb2, fb3, fb4, fb5, fbn, fg1, fg2, fg3, fg4, fg5⟩ := id kb13
  have hb4 := b.2.2.2.1
  refine gw_enter okX4_span rfl (Nat.le_of_ble_eq_true rfl) ?_
  refine gr_aload_n dX4_span_0 rfl ?_
  refine gr_iload_n dX4_span_1 rfl ?_
  refine gr_virt dX4_span_2 kX4_89 (as := [_]) rfl rfl (by first | assumption | rfl) (by omega) (Nat.le_of_ble_eq_true rfl) (gw_Rm_m (by omega) (by decide) (by decide)) (c_isPlayer d hK b.1 hb4 hx) ?_
  rintro _ _ ⟨rfl, rfl⟩
  by_cases h1 : 0 ≤ x ∧ x < (P : Int)
  · rw [if_pos h1]
    refine gr_if_eq 21 dX4_span_5 (by decide) (by unfold gw_in; omega) (fun h5 => ?_) (fun h5 => ?_)
    · omega
    · obtain ⟨c, rfl⟩ : ∃ c : Nat, x = (c : Int) := ⟨x.toNat, by omega⟩
      have hk := b.2.1 c (by omega)
      refine gr_aload_n dX4_span_8 rfl ?_
      refine gr_getR dX4_span_9 fX4_27 (by first | assumption | rfl) (by omega) (by decide) rfl (by assumption) ?_
      refine gr_getR dX4_span_12 fX4_93 (by first | assumption | rfl) (by omega) (by decide) rfl (by assumption) ?_
      refine gr_iload_n dX4_span_15 rfl ?_
      refine gr_iald (i := c) dX4_span_16 (by first | assumption | rfl) (by omega) (by omega) (by omega) (by decide) ?_
      refine gr_iconst dX4_span_17 ?_
      refine gr_icmp_eq 23 dX4_span_18 (by decide) (by unfold gw_in; omega) (by unfold gw_in; omega) (fun h18 => ?_) (fun h18 => ?_)
      · refine gr_aload_n dX4_span_23 rfl ?_
        refine gr_getR dX4_span_24 fX4_27 (by first | assumption | rfl) (by omega) (by decide) rfl (by assumption) ?_
        refine gr_getR dX4_span_27 fX4_108 (by first | assumption | rfl) (by omega) (by decide) rfl (by assumption) ?_
        refine gr_iload_n dX4_span_30 rfl ?_
        refine gr_iald (i := c) dX4_span_31 (by first | assumption | rfl) (by omega) (by omega) (by omega) (by decide) ?_
        refine gr_iret dX4_span_32 (by first | exact Or.inl rfl | exact Or.inr ⟨rfl, by omega⟩) (by decide) (by decide) (⟨by unfold ga_span; rw [if_pos ⟨h1, h18⟩]; rfl, rfl⟩)
      · refine gr_iconst dX4_span_21 ?_
        refine gr_iret dX4_span_22 (by first | exact Or.inl rfl | exact Or.inr ⟨rfl, by omega⟩) (by decide) (by decide) (⟨by unfold ga_span; rw [if_neg (fun h => h18 h.2)], rfl⟩)
  · rw [if_neg h1]
    refine gr_if_eq 21 dX4_span_5 (by decide) (by unfold gw_in; omega) (fun h5 => ?_) (fun h5 => ?_)
    · refine gr_iconst dX4_span_21 ?_
      refine gr_iret dX4_span_22 (by first | exact Or.inl rfl | exact Or.inr ⟨rfl, by omega⟩) (by decide) (by decide) (⟨by unfold ga_span; rw [if_neg (fun h => h1 h.1)], rfl⟩)
    · omega
def ga_chord (I : Nat → Nat → Int) (c i : Int) : Int := if (0 ≤ c ∧ c < I 19 0) ∧ -1 ≤ i then (if i = -1 then (gp_cnt (I 20) c.toNat : Int) else if i < (gp_cnt (I 20) c.toNat : Int) then I 20 (3 * c.toNat + i.toNat) else -9) else -1
theorem c_chord {x i : Int} (d : Nat) (hK : gc_K F pp) (hD : gc_D I P n pp) (hx : gw_in x) (hi : gw_in i) : gw_Met jX4_chord (d + 2) [.inr (some 0), .inl x, .inl i] (114, I, F) (gw_pu (ga_chord I x i) (114, I, F)) := by
  obtain ⟨k0, k1, k2, k3, k4, k6, k7, k8, k9, k70, k71, kx, kq, kp, kj, ki⟩ := id hK
  obtain ⟨b, w', -, pa, im, he, so⟩ := id hD
  obtain ⟨-, -, -, -, -, -, -, -, -, -, -, -, -, kb13, hq19⟩ := id kq
  have w1 := w'.1.1
  have hi' := hi
  unfold gw_in at hi'
  refine gw_enter okX4_chord rfl (Nat.le_of_ble_eq_true rfl) ?_
  refine gr_aload_n dX4_chord_0 rfl ?_
  refine gr_iload_n dX4_chord_1 rfl ?_
  refine gr_virt dX4_chord_2 kX4_111 (as := [_]) rfl rfl (by first | assumption | rfl) (by omega) (Nat.le_of_ble_eq_true rfl) (gw_Rm_m (by omega) (by decide) (by decide)) (c_isChord (d + 1) hK w1 hx) ?_
  rintro _ _ ⟨rfl, rfl⟩
  by_cases h1 : 0 ≤ x ∧ x < I 19 0
  · rw [if_pos h1]
    refine gr_if_eq 13 dX4_chord_5 (by decide) (by unfold gw_in; omega) (fun h5 => ?_) (fun h5 => ?_)
    · omega
    · refine gr_iload_n dX4_chord_8 rfl ?_
      refine gr_iconst dX4_chord_9 ?_
      refine gr_icmp_ge 15 dX4_chord_10 (by decide) (by unfold gw_in; omega) (by unfold gw_in; omega) (fun h10 => ?_) (fun h10 => ?_)
      · obtain ⟨c, rfl⟩ : ∃ c : Nat, x = (c : Int) := ⟨x.toNat, by omega⟩
        have hcnt := gp_cnt_le (I 20) c
        unfold ga_chord
        rw [if_pos ⟨h1, h10⟩, Int.toNat_natCast]
        refine gr_aload_n dX4_chord_15 rfl ?_
        refine gr_getR dX4_chord_16 fX4_32 (by first | assumption | rfl) (by omega) (by decide) rfl (by assumption) ?_
        refine gr_iload_n dX4_chord_19 rfl ?_
        refine gr_virt dX4_chord_20 kX4_114 (as := [_]) rfl rfl (by first | assumption | rfl) (by omega) (Nat.le_of_ble_eq_true rfl) (gw_Rm_m (by omega) (by decide) (by decide)) (c_notesOf (c := c) (k := 19) (d + 0) hq19 (by omega) w'.2) ?_
        rintro _ _ ⟨rfl, rfl⟩
        rw [show I (19 + 1) = I 20 from rfl]
        refine gr_istore_n dX4_chord_23 (by decide) ?_
        refine gr_iload_n dX4_chord_24 rfl ?_
        refine gr_iconst dX4_chord_25 ?_
        refine gr_icmp_ne 31 dX4_chord_26 (by decide) (by unfold gw_in; omega) (by unfold gw_in; omega) (fun h26 => ?_) (fun h26 => ?_)
        · refine gr_iload_n dX4_chord_31 rfl ?_
          refine gr_iload_n dX4_chord_32 rfl ?_
          refine gr_icmp_ge 48 dX4_chord_33 (by decide) (by unfold gw_in; omega) (by unfold gw_in; omega) (fun h33 => ?_) (fun h33 => ?_)
          · refine gr_bipush dX4_chord_48 (by decide) ?_
            refine gr_iret dX4_chord_50 (by first | exact Or.inl rfl | exact Or.inr ⟨rfl, by omega⟩) (by decide) (by decide) (⟨by rw [if_neg h26, if_neg (by omega)], rfl⟩)
          · obtain ⟨m, rfl⟩ : ∃ m : Nat, i = (m : Int) := ⟨i.toNat, by omega⟩
            refine gr_aload_n dX4_chord_36 rfl ?_
            refine gr_getR dX4_chord_37 fX4_32 (by first | assumption | rfl) (by omega) (by decide) rfl (by assumption) ?_
            refine gr_iload_n dX4_chord_40 rfl ?_
            refine gr_iload_n dX4_chord_41 rfl ?_
            refine gr_virt dX4_chord_42 kX4_118 (as := [_, _]) rfl rfl (by first | assumption | rfl) (by omega) (Nat.le_of_ble_eq_true rfl) (gw_Rm_m (by omega) (by decide) (by decide)) (c_noteAt (c := c) (i := m) (k := 19) (d + 0) hq19 (by omega) (by omega)) ?_
            rintro _ _ ⟨rfl, rfl⟩
            refine gr_goto 50 dX4_chord_45 (by decide) ?_
            refine gr_iret dX4_chord_50 (by first | exact Or.inl rfl | exact Or.inr ⟨rfl, by omega⟩) (by decide) (by decide) (⟨by rw [if_neg h26, if_pos (by omega)]; rfl, rfl⟩)
        · refine gr_iload_n dX4_chord_29 rfl ?_
          refine gr_iret dX4_chord_30 (by first | exact Or.inl rfl | exact Or.inr ⟨rfl, by omega⟩) (by decide) (by decide) (⟨by rw [if_pos h26], rfl⟩)
      · refine gr_iconst dX4_chord_13 ?_
        refine gr_iret dX4_chord_14 (by first | exact Or.inl rfl | exact Or.inr ⟨rfl, by omega⟩) (by decide) (by decide) (⟨by unfold ga_chord; rw [if_neg (by omega)], rfl⟩)
  · rw [if_neg h1]
    refine gr_if_eq 13 dX4_chord_5 (by decide) (by unfold gw_in; omega) (fun h5 => ?_) (fun h5 => ?_)
    · refine gr_iconst dX4_chord_13 ?_
      refine gr_iret dX4_chord_14 (by first | exact Or.inl rfl | exact Or.inr ⟨rfl, by omega⟩) (by decide) (by decide) (⟨by unfold ga_chord; rw [if_neg (fun h => h1 h.1)], rfl⟩)
    · omega
def ga_could (I : Nat → Nat → Int) (P : Nat) (p c h : Int) : Int := if (0 ≤ p ∧ p < (P : Int)) ∧ (0 ≤ c ∧ c < I 19 0) ∧ 0 ≤ h ∧ h < 2 ^ gp_cnt (I 20) c.toNat then (if gb_man (gc_B I) 0 (I 20) p.toNat c.toNat h.toNat = true then 1 else 0) else -1
theorem gc_man (I : Nat → Nat → Int) (N : Nat → Int) (p c h : Nat) : gb_man I 13 N p c h = gb_man (gc_B I) 0 N p c h := by
  unfold gb_man gc_B
  simp only [show 0 + 1 ≤ 5 by omega, show 0 + 2 ≤ 5 by omega, show 0 + 3 ≤ 5 by omega, show 0 + 5 ≤ 5 by omega, if_true, Nat.zero_add]
theorem c_could {x y z : Int} (d : Nat) (hK : gc_K F pp) (hD : gc_D I P n pp) (hx : gw_in x) (hy : gw_in y) (hz : gw_in z) : gw_Met jX4_could (d + 3) [.inr (some 0), .inl x, .inl y, .inl z] (114, I, F) (gw_pu (ga_could I P x y z) (114, I, F)) := by
  obtain ⟨k0, k1, k2, k3, k4, k6, k7, k8, k9, k70, k71, kx, kq, kp, kj, ki⟩ := id hK
  obtain ⟨b, w', -, pa, im, he, so⟩ := id hD
  obtain ⟨-, -, -, -, -, -, -, -, -, -, -, -, -, kb13, hq19⟩ := id kq
  have w1 := w'.1.1
  have hb4 := b.2.2.2.1
  have hz' := hz
  unfold gw_in at hz'
  have bad : ¬ ((0 ≤ x ∧ x < (P : Int)) ∧ (0 ≤ y ∧ y < I 19 0) ∧ 0 ≤ z ∧ z < 2 ^ gp_cnt (I 20) y.toNat) → gw_G (gw_Cm jX4_could (d + 3) (gw_pu (ga_could I P x y z) (114, I, F))) jX4_could 34 [some (.inr (some 0)), some (.inl x), some (.inl y), some (.inl z)] [] (114, I, F) 0 0 := by
    intro hb
    refine gr_iconst dX4_could_34 ?_
    refine gr_iret dX4_could_35 (by first | exact Or.inl rfl | exact Or.inr ⟨rfl, by omega⟩) (by decide) (by decide) (⟨by unfold ga_could; rw [if_neg hb], rfl⟩)
  refine gw_enter okX4_could rfl (Nat.le_of_ble_eq_true rfl) ?_
  refine gr_aload_n dX4_could_0 rfl ?_
  refine gr_iload_n dX4_could_1 rfl ?_
  refine gr_virt dX4_could_2 kX4_89 (as := [_]) rfl rfl (by first | assumption | rfl) (by omega) (Nat.le_of_ble_eq_true rfl) (gw_Rm_m (by omega) (by decide) (by decide)) (c_isPlayer (d + 2) hK b.1 hb4 hx) ?_
  rintro _ _ ⟨rfl, rfl⟩
  by_cases h1 : 0 ≤ x ∧ x < (P : Int)
  · rw [if_pos h1]
    refine gr_if_eq 34 dX4_could_5 (by decide) (by unfold gw_in; omega) (fun h5 => ?_) (fun h5 => ?_)
    · omega
    · refine gr_aload_n dX4_could_8 rfl ?_
      refine gr_iload_n dX4_could_9 rfl ?_
      refine gr_virt dX4_could_10 kX4_111 (as := [_]) rfl rfl (by first | assumption | rfl) (by omega) (Nat.le_of_ble_eq_true rfl) (gw_Rm_m (by omega) (by decide) (by decide)) (c_isChord (d + 2) hK w1 hy) ?_
      rintro _ _ ⟨rfl, rfl⟩
      by_cases h2 : 0 ≤ y ∧ y < I 19 0
      · rw [if_pos h2]
        refine gr_if_eq 34 dX4_could_13 (by decide) (by unfold gw_in; omega) (fun h13 => ?_) (fun h13 => ?_)
        · omega
        · refine gr_iload_n dX4_could_16 rfl ?_
          refine gr_if_lt 34 dX4_could_17 (by decide) (by unfold gw_in; omega) (fun h17 => ?_) (fun h17 => ?_)
          · exact bad (by omega)
          · obtain ⟨c, rfl⟩ : ∃ c : Nat, y = (c : Int) := ⟨y.toNat, by omega⟩
            obtain ⟨p, rfl⟩ : ∃ p : Nat, x = (p : Int) := ⟨x.toNat, by omega⟩
            obtain ⟨h, rfl⟩ : ∃ h : Nat, z = (h : Int) := ⟨z.toNat, by omega⟩
            have hcnt := gp_cnt_le (I 20) c
            have h2p : (2 : Int) ^ gp_cnt (I 20) c = ((2 ^ gp_cnt (I 20) c : Nat) : Int) := by rw [Int.natCast_pow]; rfl
            have h8 : 2 ^ gp_cnt (I 20) c ≤ 8 := Nat.pow_le_pow_right (by omega) (show gp_cnt (I 20) c ≤ 3 by omega)
            generalize hT : 2 ^ gp_cnt (I 20) c = T at h2p h8
            refine gr_iload_n dX4_could_20 rfl ?_
            refine gr_iconst dX4_could_21 ?_
            refine gr_aload_n dX4_could_22 rfl ?_
            refine gr_getR dX4_could_23 fX4_32 (by first | assumption | rfl) (by omega) (by decide) rfl (by assumption) ?_
            refine gr_iload_n dX4_could_26 rfl ?_
            refine gr_virt dX4_could_27 kX4_114 (as := [_]) rfl rfl (by first | assumption | rfl) (by omega) (Nat.le_of_ble_eq_true rfl) (gw_Rm_m (by omega) (by decide) (by decide)) (c_notesOf (c := c) (k := 19) (d + 1) hq19 (by omega) w'.2) ?_
            rintro _ _ ⟨rfl, rfl⟩
            rw [show I (19 + 1) = I 20 from rfl]
            refine gr_ishl (v := ((T : Nat) : Int)) dX4_could_30 (by have h := ga_shlN (a := 1) (y := gp_cnt (I 20) c) (by omega) (by omega); rw [Nat.one_mul, hT] at h; exact h) ?_
            refine gr_icmp_lt 36 dX4_could_31 (by decide) (by unfold gw_in; omega) (by unfold gw_in; omega) (fun h31 => ?_) (fun h31 => ?_)
            · refine gr_aload_n dX4_could_36 rfl ?_
              refine gr_getR dX4_could_37 fX4_27 (by first | assumption | rfl) (by omega) (by decide) rfl (by assumption) ?_
              refine gr_iload_n dX4_could_40 rfl ?_
              refine gr_aload_n dX4_could_41 rfl ?_
              refine gr_getR dX4_could_42 fX4_32 (by first | assumption | rfl) (by omega) (by decide) rfl (by assumption) ?_
              refine gr_iload_n dX4_could_45 rfl ?_
              refine gr_iload_n dX4_could_46 rfl ?_
              refine gr_virt dX4_could_47 kX4_152 (as := [_, _, _, _]) rfl rfl (by first | assumption | rfl) (by omega) (Nat.le_of_ble_eq_true rfl) (gw_Rm_m (by omega) (by decide) (by decide)) (c_manages (b := 13) (k := 19) (p := p) (c := c) (h := h) (d + 0) kb13 hq19 (by omega) (by omega) (by omega) b.2.1 w'.2) ?_
              rintro _ _ ⟨rfl, rfl⟩
              rw [gc_man]
              have ok : (0 ≤ (p : Int) ∧ (p : Int) < (P : Int)) ∧ (0 ≤ (c : Int) ∧ (c : Int) < I 19 0) ∧ 0 ≤ (h : Int) ∧ (h : Int) < 2 ^ gp_cnt (I 20) (c : Int).toNat := ⟨h1, h2, by omega, by rw [Int.toNat_natCast, h2p]; exact h31⟩
              unfold ga_could
              rw [if_pos ok, Int.toNat_natCast, Int.toNat_natCast, Int.toNat_natCast, show I (19 + 1) = I 20 from rfl]
              by_cases hm : gb_man (gc_B I) 0 (I 20) p c h = true
              · rw [if_pos hm]
                refine gr_if_eq 57 dX4_could_50 (by decide) (by unfold gw_in; omega) (fun h50 => ?_) (fun h50 => ?_)
                · omega
                · refine gr_iconst dX4_could_53 ?_
                  refine gr_goto 58 dX4_could_54 (by decide) ?_
                  refine gr_iret dX4_could_58 (by first | exact Or.inl rfl | exact Or.inr ⟨rfl, by omega⟩) (by decide) (by decide) (⟨rfl, rfl⟩)
              · rw [if_neg hm]
                refine gr_if_eq 57 dX4_could_50 (by decide) (by unfold gw_in; omega) (fun h50 => ?_) (fun h50 => ?_)
                · refine gr_iconst dX4_could_57 ?_
                  refine gr_iret dX4_could_58 (by first | exact Or.inl rfl | exact Or.inr ⟨rfl, by omega⟩) (by decide) (by decide) (⟨rfl, rfl⟩)
                · omega
            · exact bad (fun hh => by have := hh.2.2.2; rw [Int.toNat_natCast, h2p] at this; omega)
      · rw [if_neg h2]
        refine gr_if_eq 34 dX4_could_13 (by decide) (by unfold gw_in; omega) (fun h13 => ?_) (fun h13 => ?_)
        · exact bad (fun h => h2 h.2.1)
        · omega
  · rw [if_neg h1]
    refine gr_if_eq 34 dX4_could_5 (by decide) (by unfold gw_in; omega) (fun h5 => ?_) (fun h5 => ?_)
    · exact bad (fun h => h1 h.1)
    · omega
def ga_count (I : Nat → Nat → Int) (w : Int) : Int := if w = 0 then I 13 0 else if w = 1 then I 19 1 else if w = 2 then I 19 0 else if w = 3 then I 19 2 else if w = 4 then I 19 3 else if w = 5 then I 0 10 else if w = 6 then I 1 2 else if w = 7 then I 0 5 else -1
theorem c_count {w : Int} (d : Nat) (hK : gc_K F pp) (hw : gw_in w) : gw_Met jX4_count d [.inr (some 0), .inl w] (114, I, F) (gw_pu (ga_count I w) (114, I, F)) := by
  obtain ⟨k0, k1, k2, k3, k4, k6, k7, k8, k9, k70, k71, kx, kq, kp, kj, ki⟩ := id hK
  unfold ga_count
  refine gw_enter okX4_count rfl (Nat.le_of_ble_eq_true rfl) ?_
  refine gr_iload_n dX4_count_0 rfl ?_
  by_cases c0 : w = 0
  · subst c0
    refine gr_tableIn 48 dX4_count_1 hw (by omega) (by omega) rfl (by decide) ?_
    refine gr_aload_n dX4_count_48 rfl ?_
    refine gr_getR dX4_count_49 fX4_27 (by first | assumption | rfl) (by omega) (by decide) rfl (by assumption) ?_
    refine gr_getI dX4_count_52 fX4_179 (by first | assumption | rfl) (by omega) (by decide) rfl ?_
    refine gr_iret dX4_count_55 (by first | exact Or.inl rfl | exact Or.inr ⟨rfl, by omega⟩) (by decide) (by decide) (⟨by rw [if_pos rfl], rfl⟩)
  · rw [if_neg c0]
    by_cases c1 : w = 1
    · subst c1
      refine gr_tableIn 56 dX4_count_1 hw (by omega) (by omega) rfl (by decide) ?_
      refine gr_aload_n dX4_count_56 rfl ?_
      refine gr_getR dX4_count_57 fX4_32 (by first | assumption | rfl) (by omega) (by decide) rfl (by assumption) ?_
      refine gr_getI dX4_count_60 fX4_105 (by first | assumption | rfl) (by omega) (by decide) rfl ?_
      refine gr_iret dX4_count_63 (by first | exact Or.inl rfl | exact Or.inr ⟨rfl, by omega⟩) (by decide) (by decide) (⟨by rw [if_pos rfl], rfl⟩)
    · rw [if_neg c1]
      by_cases c2 : w = 2
      · subst c2
        refine gr_tableIn 64 dX4_count_1 hw (by omega) (by omega) rfl (by decide) ?_
        refine gr_aload_n dX4_count_64 rfl ?_
        refine gr_getR dX4_count_65 fX4_32 (by first | assumption | rfl) (by omega) (by decide) rfl (by assumption) ?_
        refine gr_getI dX4_count_68 fX4_122 (by first | assumption | rfl) (by omega) (by decide) rfl ?_
        refine gr_iret dX4_count_71 (by first | exact Or.inl rfl | exact Or.inr ⟨rfl, by omega⟩) (by decide) (by decide) (⟨by rw [if_pos rfl], rfl⟩)
      · rw [if_neg c2]
        by_cases c3 : w = 3
        · subst c3
          refine gr_tableIn 72 dX4_count_1 hw (by omega) (by omega) rfl (by decide) ?_
          refine gr_aload_n dX4_count_72 rfl ?_
          refine gr_getR dX4_count_73 fX4_32 (by first | assumption | rfl) (by omega) (by decide) rfl (by assumption) ?_
          refine gr_getI dX4_count_76 fX4_146 (by first | assumption | rfl) (by omega) (by decide) rfl ?_
          refine gr_iret dX4_count_79 (by first | exact Or.inl rfl | exact Or.inr ⟨rfl, by omega⟩) (by decide) (by decide) (⟨by rw [if_pos rfl], rfl⟩)
        · rw [if_neg c3]
          by_cases c4 : w = 4
          · subst c4
            refine gr_tableIn 80 dX4_count_1 hw (by omega) (by omega) rfl (by decide) ?_
            refine gr_aload_n dX4_count_80 rfl ?_
            refine gr_getR dX4_count_81 fX4_32 (by first | assumption | rfl) (by omega) (by decide) rfl (by assumption) ?_
            refine gr_getI dX4_count_84 fX4_149 (by first | assumption | rfl) (by omega) (by decide) rfl ?_
            refine gr_iret dX4_count_87 (by first | exact Or.inl rfl | exact Or.inr ⟨rfl, by omega⟩) (by decide) (by decide) (⟨by rw [if_pos rfl], rfl⟩)
          · rw [if_neg c4]
            by_cases c5 : w = 5
            · subst c5
              refine gr_tableIn 88 dX4_count_1 hw (by omega) (by omega) rfl (by decide) ?_
              refine gr_aload_n dX4_count_88 rfl ?_
              refine gr_getI dX4_count_89 fX4_59 (by first | assumption | rfl) (by omega) (by decide) rfl ?_
              refine gr_iret dX4_count_92 (by first | exact Or.inl rfl | exact Or.inr ⟨rfl, by omega⟩) (by decide) (by decide) (⟨by rw [if_pos rfl], rfl⟩)
            · rw [if_neg c5]
              by_cases c6 : w = 6
              · subst c6
                refine gr_tableIn 93 dX4_count_1 hw (by omega) (by omega) rfl (by decide) ?_
                refine gr_aload_n dX4_count_93 rfl ?_
                refine gr_getR dX4_count_94 fX4_10 (by first | assumption | rfl) (by omega) (by decide) rfl (by assumption) ?_
                refine gr_getI dX4_count_97 fX4_67 (by first | assumption | rfl) (by omega) (by decide) rfl ?_
                refine gr_iret dX4_count_100 (by first | exact Or.inl rfl | exact Or.inr ⟨rfl, by omega⟩) (by decide) (by decide) (⟨by rw [if_pos rfl], rfl⟩)
              · rw [if_neg c6]
                by_cases c7 : w = 7
                · subst c7
                  refine gr_tableIn 101 dX4_count_1 hw (by omega) (by omega) rfl (by decide) ?_
                  refine gr_aload_n dX4_count_101 rfl ?_
                  refine gr_getI dX4_count_102 fX4_41 (by first | assumption | rfl) (by omega) (by decide) rfl ?_
                  refine gr_iret dX4_count_105 (by first | exact Or.inl rfl | exact Or.inr ⟨rfl, by omega⟩) (by decide) (by decide) (⟨by rw [if_pos rfl], rfl⟩)
                · refine gr_tableOut 106 dX4_count_1 hw (by omega) (by decide) ?_
                  refine gr_iconst dX4_count_106 ?_
                  refine gr_iret dX4_count_107 (by first | exact Or.inl rfl | exact Or.inr ⟨rfl, by omega⟩) (by decide) (by decide) (⟨by rw [if_neg c7], rfl⟩)
/-- how many even spreads -/
abbrev gc_n (I : Nat → Nat → Int) (P set c : Nat) : Nat := ((gs_SP P (gc_B I) (I 20) set c).filter (gs_ev (gc_B I) (gp_cnt (I 20) c) (I 19 3))).length
theorem gc_n_q (I : Nat → Nat → Int) (P set c : Nat) : ((gs_SP P (gq_B I) (I 20) set c).filter (gs_ev (gq_B I) (gp_cnt (I 20) c) (I 19 3))).length = gc_n I P set c := by
  have hq : ∀ r, r ≤ 5 → gq_B I r = gc_B I r := gc_Bq fun _ _ _ => rfl
  rw [gs_Bc_SP hq, gs_Bc_ev hq]
def ga_spreads (I : Nat → Nat → Int) (P : Nat) (c : Int) : Int := if 0 ≤ c ∧ c < I 19 0 then (gc_n I P (I 19 1).toNat c.toNat : Int) else -1
theorem c_spreads {x : Int} (d : Nat) (hK : gc_K F pp) (hD : gc_D I P n pp) (hx : gw_in x) : gw_Met jX4_spreads (d + 5) [.inr (some 0), .inl x] (114, I, F) (gw_io F (fun r I' => r = ga_spreads I P x ∧ gc_same I I' ∧ gc_D I' P n pp)) := by
  obtain ⟨k0, k1, k2, k3, k4, k6, k7, k8, k9, k70, k71, kx, kq, kp, kj, ki⟩ := id hK
  obtain ⟨b, w', -, pa, im, he, so⟩ := id hD
  have w1 := w'.1.1
  have w2 := w'.1.2.1
  refine gw_enter okX4_spreads rfl (Nat.le_of_ble_eq_true rfl) ?_
  refine gr_aload_n dX4_spreads_0 rfl ?_
  refine gr_iload_n dX4_spreads_1 rfl ?_
  refine gr_virt dX4_spreads_2 kX4_111 (as := [_]) rfl rfl (by first | assumption | rfl) (by omega) (Nat.le_of_ble_eq_true rfl) (gw_Rm_m (by omega) (by decide) (by decide)) (c_isChord (d + 4) hK w1 hx) ?_
  rintro _ _ ⟨rfl, rfl⟩
  by_cases h1 : 0 ≤ x ∧ x < I 19 0
  · rw [if_pos h1]
    refine gr_if_eq 26 dX4_spreads_5 (by decide) (by unfold gw_in; omega) (fun h5 => ?_) (fun h5 => ?_)
    · omega
    · obtain ⟨c, rfl⟩ : ∃ c : Nat, x = (c : Int) := ⟨x.toNat, by omega⟩
      obtain ⟨m, hm⟩ : ∃ m : Nat, I 19 1 = (m : Int) := ⟨(I 19 1).toNat, by omega⟩
      refine gr_aload_n dX4_spreads_8 rfl ?_
      refine gr_getR dX4_spreads_9 fX4_19 (by first | assumption | rfl) (by omega) (by decide) rfl (by assumption) ?_
      refine gr_iload_n dX4_spreads_12 rfl ?_
      refine gr_aload_n dX4_spreads_13 rfl ?_
      refine gr_getR dX4_spreads_14 fX4_32 (by first | assumption | rfl) (by omega) (by decide) rfl (by assumption) ?_
      refine gr_getI dX4_spreads_17 fX4_105 (by first | assumption | rfl) (by omega) (by decide) rfl ?_
      rw [hm]
      refine gr_virt dX4_spreads_20 kX4_156 (as := [_, _]) rfl rfl (by first | assumption | rfl) (by omega) (Nat.le_of_ble_eq_true rfl) (gw_Rm_m (by omega) (by decide) (by decide)) (c_evenSpreads (c := c) (set := m) (P := P) (d + 0) kq (gc_M hD) (by omega) (by omega) b.1) ?_
      rintro _ _ ⟨_, I1, rfl, rfl, rfl, hI1⟩
      obtain ⟨s1, s2⟩ := gc_D_scr hK hD (fun a ha => hI1 a (by omega))
      refine gr_goto 27 dX4_spreads_23 (by decide) ?_
      refine gr_iret dX4_spreads_27 (by first | exact Or.inl rfl | exact Or.inr ⟨rfl, by omega⟩) (by decide) (by decide) (⟨_, _, rfl, rfl, by unfold ga_spreads; rw [if_pos h1, hm, gc_n_q]; rfl, s1, s2⟩)
  · rw [if_neg h1]
    refine gr_if_eq 26 dX4_spreads_5 (by decide) (by unfold gw_in; omega) (fun h5 => ?_) (fun h5 => ?_)
    · refine gr_iconst dX4_spreads_26 ?_
      refine gr_iret dX4_spreads_27 (by first | exact Or.inl rfl | exact Or.inr ⟨rfl, by omega⟩) (by decide) (by decide) (⟨_, _, rfl, rfl, by unfold ga_spreads; rw [if_neg h1], gc_same_rf, hD⟩)
    · omega
end GC
