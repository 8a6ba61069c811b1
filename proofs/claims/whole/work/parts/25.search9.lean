/-! Search: what is asked of the score that was found -/
def gs_sm (f : Nat → Nat) : Nat → Nat
  | 0 => 0
  | n + 1 => gs_sm f n + f n
/-- how many players play note i of a code -/
def gs_po (k i : Nat) : Nat := gs_sm (fun p => gs_hd k p / 2 ^ i % 2) 4
/-- how many hands of a code play -/
def gs_nz (k : Nat) : Nat := gs_sm (fun p => if gs_hd k p = 0 then 0 else 1) 4
/-- how many notes of a code are doubled -/
def gs_db (k : Nat) : Nat := gs_sm (fun i => if 2 ≤ gs_po k i then 1 else 0) 3
theorem gs_sm_le {f : Nat → Nat} {m : Nat} (h : ∀ i, f i ≤ m) : ∀ n, gs_sm f n ≤ m * n
  | 0 => by simp [gs_sm]
  | n + 1 => by
    have := gs_sm_le h n
    have := h n
    simp only [gs_sm, Nat.mul_add, Nat.mul_one]
    omega
theorem gs_hd_lt (k p : Nat) : gs_hd k p < 8 := Nat.mod_lt _ (by omega)
/-- the hands of the score lie in chosen -/
def gq_cho (I : Nat → Nat → Int) (K : Nat → Nat) (S : Nat) : Prop := ∀ c, c < S → ∀ p, p < 4 → I 69 (4 * c + p) = (gs_hd (K c) p : Nat)
/-- loudness of note i of a code without player w -/
def gs_lw (B : Nat → Nat → Int) (k i w : Nat) : Nat → Int
  | 0 => 0
  | p + 1 => gs_lw B k i w p + (if p ≠ w ∧ gs_hd k p / 2 ^ i % 2 = 1 then gb_str B 0 p (gs_hd k p) else 0)
theorem gs_lw_in {B : Nat → Nat → Int} {k i w : Nat} (hB : gs_B B) : ∀ p, p ≤ 4 → 0 ≤ gs_lw B k i w p ∧ gs_lw B k i w p ≤ 9 * p
  | 0, _ => by simp [gs_lw]
  | p + 1, hp => by
    have h1 := gs_lw_in (k := k) (i := i) (w := w) hB p (by omega)
    have h2 := gs_str_in (h := gs_hd k p) hB (show p < 4 by omega)
    simp only [gs_lw]
    split <;> omega
theorem gs_lw_ld {B : Nat → Nat → Int} {k i : Nat} (hk : k < 4096) : gs_lw B k i 4 4 = gs_ld B i 4 k := by
  have e0 : gs_hd k 0 = k / 8 / 8 / 8 % 8 := by unfold gs_hd; show k / 512 % 8 = _; omega
  have e1 : gs_hd k 1 = k / 8 / 8 % 8 := by unfold gs_hd; show k / 64 % 8 = _; omega
  have e2 : gs_hd k 2 = k / 8 % 8 := by unfold gs_hd; show k / 8 % 8 = _; omega
  have e3 : gs_hd k 3 = k % 8 := by unfold gs_hd; show k / 1 % 8 = _; omega
  simp only [gs_lw, gs_ld, e0, e1, e2, e3, ne_eq, show ¬ (0 = 4) by omega, show ¬ (1 = 4) by omega, show ¬ (2 = 4) by omega, show ¬ (3 = 4) by omega, not_false_eq_true, true_and]
theorem gs_gp_congr {l l' : Nat → Int} : ∀ n, (∀ i, i < n → l i = l' i) → gs_gp l n = gs_gp l' n := by
  intro n h
  have a : ∀ m, m ≤ n → gs_mx l m = gs_mx l' m ∧ gs_mi l m = gs_mi l' m := by
    intro m
    induction m with
    | zero => intro _; exact ⟨rfl, rfl⟩
    | succ m ih =>
      intro hm
      obtain ⟨h1, h2⟩ := ih (by omega)
      simp only [gs_mx, gs_mi]
      rw [h1, h2, h m (by omega)]
      exact ⟨rfl, rfl⟩
  obtain ⟨h1, h2⟩ := a n (Nat.le_refl _)
  unfold gs_gp
  rw [h1, h2]
section GQ
variable {I : Nat → Nat → Int} {F : Nat → Nat → Option Nat} {K : Nat → Nat} {S : Nat}
/-- hands that play, one place after the other -/
def gs_fl (K : Nat → Nat) : Nat → Nat
  | 0 => 0
  | n + 1 => gs_fl K n + (if gs_hd (K (n / 4)) (n % 4) = 0 then 0 else 1)
theorem gs_fl_sm (K : Nat → Nat) : ∀ S, gs_fl K (4 * S) = gs_sm (fun c => gs_nz (K c)) S
  | 0 => rfl
  | S + 1 => by
    have ih := gs_fl_sm K S
    rw [show gs_sm (fun c => gs_nz (K c)) (S + 1) = gs_sm (fun c => gs_nz (K c)) S + gs_nz (K S) from rfl, ← ih, show 4 * (S + 1) = 4 * S + 1 + 1 + 1 + 1 by omega]
    simp only [gs_fl, gs_nz, gs_sm]
    rw [show 4 * S / 4 = S by omega, show (4 * S + 1) / 4 = S by omega, show (4 * S + 1 + 1) / 4 = S by omega, show (4 * S + 1 + 1 + 1) / 4 = S by omega, show 4 * S % 4 = 0 by omega, show (4 * S + 1) % 4 = 1 by omega, show (4 * S + 1 + 1) % 4 = 2 by omega, show (4 * S + 1 + 1 + 1) % 4 = 3 by omega]
    omega
theorem c_handsThatPlay (d : Nat) (hF : gq_K F) (hS : I 19 0 = (S : Int)) (hS8 : S ≤ 8) (hch : gq_cho I K S) : gw_Met jX3_handsThatPlay d [.inr (some 12)] (114, I, F) (gw_pu ((gs_sm (fun c => gs_nz (K c)) S : Nat) : Int) (114, I, F)) := by
  obtain ⟨f0, f1, f3, f4, f5, f6, f7, f8, f9, f10, f11, f21, f55, fb, fp⟩ := hF
  obtain ⟨fp1, fp2, fp3, fp4⟩ := id fp
  refine gw_enter okX3_handsThatPlay rfl (Nat.le_of_ble_eq_true rfl) ?_
  refine gr_iconst dX3_handsThatPlay_0 ?_
  refine gr_istore_n dX3_handsThatPlay_1 (by decide) ?_
  refine gr_iconst dX3_handsThatPlay_2 ?_
  refine gr_istore_n dX3_handsThatPlay_3 (by decide) ?_
  have key : ∀ (n t : Nat), t + n = 4 * S → gw_G (gw_Cm jX3_handsThatPlay d (gw_pu ((gs_sm (fun c => gs_nz (K c)) S : Nat) : Int) (114, I, F))) jX3_handsThatPlay 4 [some (.inr (some 12)), some (.inl ((gs_fl K t : Nat) : Int)), some (.inl (t : Int))] [] (114, I, F) 0 0 := by
    intro n
    induction n with
    | zero =>
      intro t ht
      refine gr_iload_n dX3_handsThatPlay_4 rfl ?_
      refine gr_aload_n dX3_handsThatPlay_5 rfl ?_
      refine gr_getR dX3_handsThatPlay_6 fX3_21 (by first | assumption | rfl) (by omega) (by decide) rfl (by assumption) ?_
      refine gr_getI dX3_handsThatPlay_9 fX3_136 (by first | assumption | rfl) (by omega) (by decide) rfl ?_
      rw [hS]
      refine gr_iconst dX3_handsThatPlay_12 ?_
      refine gr_imul dX3_handsThatPlay_13 rfl ?_
      refine gr_icmp_ge 35 dX3_handsThatPlay_14 (by decide) (by unfold gw_in; omega) (by unfold gw_in; omega) (fun h14 => ?_) (fun h14 => ?_)
      · refine gr_iload_n dX3_handsThatPlay_35 rfl ?_
        refine gr_iret dX3_handsThatPlay_36 (by first | exact Or.inl rfl | exact Or.inr ⟨rfl, by omega⟩) (by decide) (by decide) (⟨by rw [← gs_fl_sm, show 4 * S = t by omega], rfl⟩)
      · omega
    | succ n ih =>
      intro t ht
      have e := hch (t / 4) (by omega) (t % 4) (by omega)
      rw [show 4 * (t / 4) + t % 4 = t by omega] at e
      have hl := gs_hd_lt (K (t / 4)) (t % 4)
      refine gr_iload_n dX3_handsThatPlay_4 rfl ?_
      refine gr_aload_n dX3_handsThatPlay_5 rfl ?_
      refine gr_getR dX3_handsThatPlay_6 fX3_21 (by first | assumption | rfl) (by omega) (by decide) rfl (by assumption) ?_
      refine gr_getI dX3_handsThatPlay_9 fX3_136 (by first | assumption | rfl) (by omega) (by decide) rfl ?_
      rw [hS]
      refine gr_iconst dX3_handsThatPlay_12 ?_
      refine gr_imul dX3_handsThatPlay_13 rfl ?_
      refine gr_icmp_ge 35 dX3_handsThatPlay_14 (by decide) (by unfold gw_in; omega) (by unfold gw_in; omega) (fun h14 => ?_) (fun h14 => ?_)
      · omega
      · refine gr_aload_n dX3_handsThatPlay_17 rfl ?_
        refine gr_getR dX3_handsThatPlay_18 fX3_56 (by first | assumption | rfl) (by omega) (by decide) rfl (by assumption) ?_
        refine gr_iload_n dX3_handsThatPlay_21 rfl ?_
        refine gr_iald (i := t) dX3_handsThatPlay_22 (by first | assumption | rfl) (by omega) (by omega) (by omega) (by decide) ?_
        rw [e]
        refine gr_if_eq 29 dX3_handsThatPlay_23 (by decide) (by unfold gw_in; omega) (fun h23 => ?_) (fun h23 => ?_)
        · refine gr_iinc (v := ((t + 1 : Nat) : Int)) dX3_handsThatPlay_29 (by decide) rfl (by omega) ?_
          refine gr_goto 4 dX3_handsThatPlay_32 (by decide) ?_
          have r := ih (t + 1) (by omega)
          simp only [gs_fl] at r
          rw [if_pos (by omega), Nat.add_zero] at r
          exact r
        · refine gr_iinc (v := ((gs_fl K (t + 1) : Nat) : Int)) dX3_handsThatPlay_26 (by decide) rfl (by simp only [gs_fl]; rw [if_neg (by omega)]; omega) ?_
          refine gr_iinc (v := ((t + 1 : Nat) : Int)) dX3_handsThatPlay_29 (by decide) rfl (by omega) ?_
          refine gr_goto 4 dX3_handsThatPlay_32 (by decide) ?_
          exact ih (t + 1) (by omega)
  exact key (4 * S) 0 (by omega)
theorem c_playersOf {c i : Nat} (d : Nat) (hF : gq_K F) (hS8 : S ≤ 8) (hch : gq_cho I K S) (hc : c < S) (hi : i < 3) : gw_Met jX3_playersOf (d + 1) [.inr (some 12), .inl (c : Int), .inl (i : Int)] (114, I, F) (gw_pu ((gs_po (K c) i : Nat) : Int) (114, I, F)) := by
  refine gw_enter okX3_playersOf rfl (Nat.le_of_ble_eq_true rfl) ?_
  refine gr_iconst dX3_playersOf_0 ?_
  refine gr_istore_n dX3_playersOf_1 (by decide) ?_
  refine gr_iconst dX3_playersOf_2 ?_
  refine gr_istore dX3_playersOf_3 (by decide) ?_
  have key : ∀ (n p : Nat), p + n = 4 → gw_G (gw_Cm jX3_playersOf (d + 1) (gw_pu ((gs_po (K c) i : Nat) : Int) (114, I, F))) jX3_playersOf 5 [some (.inr (some 12)), some (.inl (c : Int)), some (.inl (i : Int)), some (.inl ((gs_sm (fun p => gs_hd (K c) p / 2 ^ i % 2) p : Nat) : Int)), some (.inl (p : Int))] [] (114, I, F) 0 0 := by
    intro n
    induction n with
    | zero =>
      intro p hp
      refine gr_iload dX3_playersOf_5 rfl ?_
      refine gr_iconst dX3_playersOf_7 ?_
      refine gr_icmp_ge 31 dX3_playersOf_8 (by decide) (by unfold gw_in; omega) (by unfold gw_in; omega) (fun h8 => ?_) (fun h8 => ?_)
      · refine gr_iload_n dX3_playersOf_31 rfl ?_
        refine gr_iret dX3_playersOf_32 (by first | exact Or.inl rfl | exact Or.inr ⟨rfl, by omega⟩) (by decide) (by decide) (⟨by rw [show p = 4 by omega]; rfl, rfl⟩)
      · omega
    | succ n ih =>
      intro p hp
      have hl := gs_hd_lt (K c) p
      refine gr_iload dX3_playersOf_5 rfl ?_
      refine gr_iconst dX3_playersOf_7 ?_
      refine gr_icmp_ge 31 dX3_playersOf_8 (by decide) (by unfold gw_in; omega) (by unfold gw_in; omega) (fun h8 => ?_) (fun h8 => ?_)
      · omega
      · refine gr_iload_n dX3_playersOf_11 rfl ?_
        refine gr_aload_n dX3_playersOf_12 rfl ?_
        refine gr_iload_n dX3_playersOf_13 rfl ?_
        refine gr_iload dX3_playersOf_14 rfl ?_
        refine gr_virt dX3_playersOf_16 kX3_150 (as := [_, _]) rfl rfl (by first | assumption | rfl) (by omega) (Nat.le_of_ble_eq_true rfl) (gw_Rm_m (by omega) (by decide) (by decide)) (c_handIn (c := c) (p := p) d hF (by omega) (by omega)) ?_
        rintro _ _ ⟨rfl, rfl⟩
        rw [hch c hc p (by omega)]
        refine gr_iload_n dX3_playersOf_19 rfl ?_
        refine gr_ishr (v := ((gs_hd (K c) p / 2 ^ i : Nat) : Int)) dX3_playersOf_20 (ga_bit (by omega) (by omega)) ?_
        refine gr_iconst dX3_playersOf_21 ?_
        refine gr_iand (v := ((gs_hd (K c) p / 2 ^ i % 2 : Nat) : Int)) dX3_playersOf_22 (ga_bit1 _) ?_
        refine gr_iadd (v := ((gs_sm (fun p => gs_hd (K c) p / 2 ^ i % 2) (p + 1) : Nat) : Int)) dX3_playersOf_23 (by simp only [gs_sm]; omega) ?_
        refine gr_istore_n dX3_playersOf_24 (by decide) ?_
        refine gr_iinc (v := ((p + 1 : Nat) : Int)) dX3_playersOf_25 (by decide) rfl (by omega) ?_
        refine gr_goto 5 dX3_playersOf_28 (by decide) ?_
        exact ih (p + 1) (by omega)
  exact key 4 0 (by omega)
theorem gs_po_le (k i : Nat) : gs_po k i ≤ 4 := by
  have := gs_sm_le (f := fun p => gs_hd k p / 2 ^ i % 2) (m := 1) (fun p => by have : gs_hd k p / 2 ^ i % 2 < 2 := Nat.mod_lt _ (by omega); omega) 4
  unfold gs_po
  omega
theorem c_doubledNotes (d : Nat) (hF : gq_K F) (hS : I 19 0 = (S : Int)) (hS8 : S ≤ 8) (hch : gq_cho I K S) : gw_Met jX3_doubledNotes (d + 2) [.inr (some 12)] (114, I, F) (gw_pu ((gs_sm (fun c => gs_db (K c)) S : Nat) : Int) (114, I, F)) := by
  have hF' := hF
  obtain ⟨f0, f1, f3, f4, f5, f6, f7, f8, f9, f10, f11, f21, f55, fb, fp⟩ := hF
  obtain ⟨fp1, fp2, fp3, fp4⟩ := id fp
  refine gw_enter okX3_doubledNotes rfl (Nat.le_of_ble_eq_true rfl) ?_
  refine gr_iconst dX3_doubledNotes_0 ?_
  refine gr_istore_n dX3_doubledNotes_1 (by decide) ?_
  refine gr_iconst dX3_doubledNotes_2 ?_
  refine gr_istore_n dX3_doubledNotes_3 (by decide) ?_
  have key : ∀ (n c : Nat) (x3 : Option gw_V), c + n = S → gw_G (gw_Cm jX3_doubledNotes (d + 2) (gw_pu ((gs_sm (fun c => gs_db (K c)) S : Nat) : Int) (114, I, F))) jX3_doubledNotes 4 [some (.inr (some 12)), some (.inl ((gs_sm (fun c => gs_db (K c)) c : Nat) : Int)), some (.inl (c : Int)), x3] [] (114, I, F) 0 0 := by
    intro n
    induction n with
    | zero =>
      intro c x3 hc
      refine gr_iload_n dX3_doubledNotes_4 rfl ?_
      refine gr_aload_n dX3_doubledNotes_5 rfl ?_
      refine gr_getR dX3_doubledNotes_6 fX3_21 (by first | assumption | rfl) (by omega) (by decide) rfl (by assumption) ?_
      refine gr_getI dX3_doubledNotes_9 fX3_136 (by first | assumption | rfl) (by omega) (by decide) rfl ?_
      rw [hS]
      refine gr_icmp_ge 47 dX3_doubledNotes_12 (by decide) (by unfold gw_in; omega) (by unfold gw_in; omega) (fun h12 => ?_) (fun h12 => ?_)
      · refine gr_iload_n dX3_doubledNotes_47 rfl ?_
        refine gr_iret dX3_doubledNotes_48 (by first | exact Or.inl rfl | exact Or.inr ⟨rfl, by omega⟩) (by decide) (by decide) (⟨by rw [show c = S by omega], rfl⟩)
      · omega
    | succ n ih =>
      intro c x3 hc
      refine gr_iload_n dX3_doubledNotes_4 rfl ?_
      refine gr_aload_n dX3_doubledNotes_5 rfl ?_
      refine gr_getR dX3_doubledNotes_6 fX3_21 (by first | assumption | rfl) (by omega) (by decide) rfl (by assumption) ?_
      refine gr_getI dX3_doubledNotes_9 fX3_136 (by first | assumption | rfl) (by omega) (by decide) rfl ?_
      rw [hS]
      refine gr_icmp_ge 47 dX3_doubledNotes_12 (by decide) (by unfold gw_in; omega) (by unfold gw_in; omega) (fun h12 => ?_) (fun h12 => ?_)
      · omega
      · refine gr_iconst dX3_doubledNotes_15 ?_
        refine gr_istore_n dX3_doubledNotes_16 (by decide) ?_
        have inner : ∀ (m i : Nat), i + m = 3 → gw_G (gw_Cm jX3_doubledNotes (d + 2) (gw_pu ((gs_sm (fun c => gs_db (K c)) S : Nat) : Int) (114, I, F))) jX3_doubledNotes 17 [some (.inr (some 12)), some (.inl ((gs_sm (fun c => gs_db (K c)) c + gs_sm (fun i => if 2 ≤ gs_po (K c) i then 1 else 0) i : Nat) : Int)), some (.inl (c : Int)), some (.inl (i : Int))] [] (114, I, F) 0 0 := by
          intro m
          induction m with
          | zero =>
            intro i hi
            have hi : i = 3 := by omega
            subst hi
            refine gr_iload_n dX3_doubledNotes_17 rfl ?_
            refine gr_iconst dX3_doubledNotes_18 ?_
            refine gr_icmp_ge 41 dX3_doubledNotes_19 (by decide) (by unfold gw_in; omega) (by unfold gw_in; omega) (fun h19 => ?_) (fun h19 => ?_)
            · refine gr_iinc (v := ((c + 1 : Nat) : Int)) dX3_doubledNotes_41 (by decide) rfl (by omega) ?_
              refine gr_goto 4 dX3_doubledNotes_44 (by decide) ?_
              exact ih (c + 1) _ (by omega)
            · omega
          | succ m ihm =>
            intro i hi
            have hpo := gs_po_le (K c) i
            refine gr_iload_n dX3_doubledNotes_17 rfl ?_
            refine gr_iconst dX3_doubledNotes_18 ?_
            refine gr_icmp_ge 41 dX3_doubledNotes_19 (by decide) (by unfold gw_in; omega) (by unfold gw_in; omega) (fun h19 => ?_) (fun h19 => ?_)
            · omega
            · refine gr_aload_n dX3_doubledNotes_22 rfl ?_
              refine gr_iload_n dX3_doubledNotes_23 rfl ?_
              refine gr_iload_n dX3_doubledNotes_24 rfl ?_
              refine gr_virt dX3_doubledNotes_25 kX3_153 (as := [_, _]) rfl rfl (by first | assumption | rfl) (by omega) (Nat.le_of_ble_eq_true rfl) (gw_Rm_m (by omega) (by decide) (by decide)) (c_playersOf (c := c) (i := i) d hF' hS8 hch (by omega) (by omega)) ?_
              rintro _ _ ⟨rfl, rfl⟩
              refine gr_iconst dX3_doubledNotes_28 ?_
              refine gr_icmp_lt 35 dX3_doubledNotes_29 (by decide) (by unfold gw_in; omega) (by unfold gw_in; omega) (fun h29 => ?_) (fun h29 => ?_)
              · refine gr_iinc (v := ((i + 1 : Nat) : Int)) dX3_doubledNotes_35 (by decide) rfl (by omega) ?_
                refine gr_goto 17 dX3_doubledNotes_38 (by decide) ?_
                have r := ihm (i + 1) (by omega)
                simp only [gs_sm] at r ⊢
                rw [if_neg (by omega), Nat.add_zero] at r
                exact r
              · refine gr_iinc (v := ((gs_sm (fun c => gs_db (K c)) c + gs_sm (fun i => if 2 ≤ gs_po (K c) i then 1 else 0) (i + 1) : Nat) : Int)) dX3_doubledNotes_32 (by decide) rfl (by simp only [gs_sm]; rw [if_pos (show 2 ≤ gs_po (K c) i by omega)]; omega) ?_
                refine gr_iinc (v := ((i + 1 : Nat) : Int)) dX3_doubledNotes_35 (by decide) rfl (by omega) ?_
                refine gr_goto 17 dX3_doubledNotes_38 (by decide) ?_
                exact ihm (i + 1) (by omega)
        exact inner 3 0 (by omega)
  exact key S 0 _ (by omega)
theorem c_loudWithout {c i w : Nat} (d : Nat) (hF : gq_K F) (hB : gb_B I 13) (hS8 : S ≤ 8) (hch : gq_cho I K S) (hc : c < S) (hi : i < 3) (hw : w ≤ 4) : gw_Met jX3_loudWithout (d + 2) [.inr (some 12), .inl (c : Int), .inl (i : Int), .inl (w : Int)] (114, I, F) (gw_pu (gs_lw (gq_B I) (K c) i w 4) (114, I, F)) := by
  have hF' := hF
  obtain ⟨f0, f1, f3, f4, f5, f6, f7, f8, f9, f10, f11, f21, f55, fb, fp⟩ := hF
  refine gw_enter okX3_loudWithout rfl (Nat.le_of_ble_eq_true rfl) ?_
  refine gr_iconst dX3_loudWithout_0 ?_
  refine gr_istore dX3_loudWithout_1 (by decide) ?_
  refine gr_iconst dX3_loudWithout_3 ?_
  refine gr_istore dX3_loudWithout_4 (by decide) ?_
  have key : ∀ (n p : Nat) (x6 : Option gw_V), p + n = 4 → gw_G (gw_Cm jX3_loudWithout (d + 2) (gw_pu (gs_lw (gq_B I) (K c) i w 4) (114, I, F))) jX3_loudWithout 6 [some (.inr (some 12)), some (.inl (c : Int)), some (.inl (i : Int)), some (.inl (w : Int)), some (.inl (gs_lw (gq_B I) (K c) i w p)), some (.inl (p : Int)), x6] [] (114, I, F) 0 0 := by
    intro n
    induction n with
    | zero =>
      intro p x6 hp
      have hp : p = 4 := by omega
      subst hp
      refine gr_iload dX3_loudWithout_6 rfl ?_
      refine gr_iconst dX3_loudWithout_8 ?_
      refine gr_icmp_ge 59 dX3_loudWithout_9 (by decide) (by unfold gw_in; omega) (by unfold gw_in; omega) (fun h9 => ?_) (fun h9 => ?_)
      · refine gr_iload dX3_loudWithout_59 rfl ?_
        refine gr_iret dX3_loudWithout_61 (by first | exact Or.inl rfl | exact Or.inr ⟨rfl, by omega⟩) (by decide) (by decide) (⟨rfl, rfl⟩)
      · omega
    | succ n ih =>
      intro p x6 hp
      have hl := gs_hd_lt (K c) p
      have skip : ¬ (p ≠ w ∧ gs_hd (K c) p / 2 ^ i % 2 = 1) → gs_lw (gq_B I) (K c) i w (p + 1) = gs_lw (gq_B I) (K c) i w p := fun h => by
        simp only [gs_lw]
        rw [if_neg h, Int.add_zero]
      refine gr_iload dX3_loudWithout_6 rfl ?_
      refine gr_iconst dX3_loudWithout_8 ?_
      refine gr_icmp_ge 59 dX3_loudWithout_9 (by decide) (by unfold gw_in; omega) (by unfold gw_in; omega) (fun h9 => ?_) (fun h9 => ?_)
      · omega
      · refine gr_aload_n dX3_loudWithout_12 rfl ?_
        refine gr_iload_n dX3_loudWithout_13 rfl ?_
        refine gr_iload dX3_loudWithout_14 rfl ?_
        refine gr_virt dX3_loudWithout_16 kX3_150 (as := [_, _]) rfl rfl (by first | assumption | rfl) (by omega) (Nat.le_of_ble_eq_true rfl) (gw_Rm_m (by omega) (by decide) (by decide)) (c_handIn (c := c) (p := p) (d + 1) hF' (by omega) (by omega)) ?_
        rintro _ _ ⟨rfl, rfl⟩
        rw [hch c hc p (by omega)]
        refine gr_istore dX3_loudWithout_19 (by decide) ?_
        refine gr_iload dX3_loudWithout_21 rfl ?_
        refine gr_iload_n dX3_loudWithout_23 rfl ?_
        refine gr_icmp_eq 53 dX3_loudWithout_24 (by decide) (by unfold gw_in; omega) (by unfold gw_in; omega) (fun h24 => ?_) (fun h24 => ?_)
        · refine gr_iinc (v := ((p + 1 : Nat) : Int)) dX3_loudWithout_53 (by decide) rfl (by omega) ?_
          refine gr_goto 6 dX3_loudWithout_56 (by decide) ?_
          have r := ih (p + 1) (some (.inl (gs_hd (K c) p : Nat))) (by omega)
          rw [skip (fun h => h.1 (by omega))] at r
          exact r
        · refine gr_iload dX3_loudWithout_27 rfl ?_
          refine gr_iload_n dX3_loudWithout_29 rfl ?_
          refine gr_ishr (v := ((gs_hd (K c) p / 2 ^ i : Nat) : Int)) dX3_loudWithout_30 (ga_bit (by omega) (by omega)) ?_
          refine gr_iconst dX3_loudWithout_31 ?_
          refine gr_iand (v := ((gs_hd (K c) p / 2 ^ i % 2 : Nat) : Int)) dX3_loudWithout_32 (ga_bit1 _) ?_
          refine gr_iconst dX3_loudWithout_33 ?_
          refine gr_icmp_ne 53 dX3_loudWithout_34 (by decide) (by unfold gw_in; omega) (by unfold gw_in; omega) (fun h34 => ?_) (fun h34 => ?_)
          · refine gr_iinc (v := ((p + 1 : Nat) : Int)) dX3_loudWithout_53 (by decide) rfl (by omega) ?_
            refine gr_goto 6 dX3_loudWithout_56 (by decide) ?_
            have r := ih (p + 1) (some (.inl (gs_hd (K c) p : Nat))) (by omega)
            rw [skip (fun h => h34 (by omega))] at r
            exact r
          · refine gr_iload dX3_loudWithout_37 rfl ?_
            refine gr_aload_n dX3_loudWithout_39 rfl ?_
            refine gr_getR dX3_loudWithout_40 fX3_12 (by first | assumption | rfl) (by omega) (by decide) rfl (by assumption) ?_
            refine gr_iload dX3_loudWithout_43 rfl ?_
            refine gr_iload dX3_loudWithout_45 rfl ?_
            refine gr_virt dX3_loudWithout_47 kX3_96 (as := [_, _]) rfl rfl (by first | assumption | rfl) (by omega) (Nat.le_of_ble_eq_true rfl) (gw_Rm_m (by omega) (by decide) (by decide)) (c_strength (p := p) (h := gs_hd (K c) p) d fb (by omega) hl hB) ?_
            rintro _ _ ⟨rfl, rfl⟩
            rw [show gb_str I 13 p (gs_hd (K c) p) = gb_str (gq_B I) 0 p (gs_hd (K c) p) from rfl]
            refine gr_iadd (v := gs_lw (gq_B I) (K c) i w (p + 1)) dX3_loudWithout_50 (by simp only [gs_lw]; rw [if_pos (show p ≠ w ∧ gs_hd (K c) p / 2 ^ i % 2 = 1 from ⟨by omega, by omega⟩)]) ?_
            refine gr_istore dX3_loudWithout_51 (by decide) ?_
            refine gr_iinc (v := ((p + 1 : Nat) : Int)) dX3_loudWithout_53 (by decide) rfl (by omega) ?_
            refine gr_goto 6 dX3_loudWithout_56 (by decide) ?_
            exact ih (p + 1) _ (by omega)
  exact key 4 0 none (by omega)
theorem gs_or {a x i : Nat} (h : a < 2 ^ (8 * i)) : (a ||| x * 2 ^ (8 * i)) = a + x * 2 ^ (8 * i) := by
  have := Nat.two_pow_add_eq_or_of_lt h x
  rw [Nat.or_comm, Nat.mul_comm x, ← this, Nat.add_comm]
/-- louds of the first notes packed -/
def gs_pa (l : Nat → Nat) : Nat → Nat
  | 0 => 0
  | i + 1 => gs_pa l i + l i * 2 ^ (8 * i)
theorem c_isEvenWithout {c w : Nat} (d : Nat) (hF : gq_K F) (hM : gq_M I) (hS8 : S ≤ 8) (hch : gq_cho I K S) (hc : c < S) (hw : w ≤ 4) : gw_Met jX3_isEvenWithout (d + 3) [.inr (some 12), .inl (c : Int), .inl (w : Int)] (114, I, F) (gw_pu (if gs_gp (fun i => gs_lw (gq_B I) (K c) i w 4) (gp_cnt (I 20) c) ≤ I 19 3 then 1 else 0) (114, I, F)) := by
  have hF' := hF
  obtain ⟨f0, f1, f3, f4, f5, f6, f7, f8, f9, f10, f11, f21, f55, fb, fp⟩ := hF
  obtain ⟨hB, hN, ⟨hP0, hP4⟩, ⟨hS0, hS8'⟩, hrest, hbal, hbw⟩ := id hM
  obtain ⟨fp1, fp2, fp3, fp4⟩ := id fp
  have hcnt := gp_cnt_le (I 20) c
  have hlin := fun i => gs_lw_in (B := gq_B I) (k := K c) (i := i) (w := w) hB 4 (by omega)
  obtain ⟨l, hl⟩ : ∃ l : Nat → Nat, ∀ i, gs_lw (gq_B I) (K c) i w 4 = (l i : Int) := ⟨fun i => (gs_lw (gq_B I) (K c) i w 4).toNat, fun i => by have := hlin i; show _ = (((gs_lw (gq_B I) (K c) i w 4).toNat : Nat) : Int); omega⟩
  have hl36 : ∀ i, l i ≤ 36 := fun i => by have h1 := hlin i; have h2 := hl i; omega
  have hpa : ∀ i, i ≤ 3 → gs_pa l i < 2 ^ (8 * i) := by
    intro i hi
    have a0 := hl36 0
    have a1 := hl36 1
    have a2 := hl36 2
    rcases (show i = 0 ∨ i = 1 ∨ i = 2 ∨ i = 3 by omega) with rfl | rfl | rfl | rfl <;> simp only [gs_pa] <;> omega
  refine gw_enter okX3_isEvenWithout rfl (Nat.le_of_ble_eq_true rfl) ?_
  refine gr_aload_n dX3_isEvenWithout_0 rfl ?_
  refine gr_getR dX3_isEvenWithout_1 fX3_21 (by first | assumption | rfl) (by omega) (by decide) rfl (by assumption) ?_
  refine gr_iload_n dX3_isEvenWithout_4 rfl ?_
  refine gr_virt dX3_isEvenWithout_5 kX3_70 (as := [_]) rfl rfl (by first | assumption | rfl) (by omega) (Nat.le_of_ble_eq_true rfl) (gw_Rm_m (by omega) (by decide) (by decide)) (c_notesOf (c := c) (d + 1) fp (by omega) hN) ?_
  rintro _ _ ⟨rfl, rfl⟩
  rw [show I (19 + 1) = I 20 from rfl]
  refine gr_istore_n dX3_isEvenWithout_8 (by decide) ?_
  refine gr_iconst dX3_isEvenWithout_9 ?_
  refine gr_istore dX3_isEvenWithout_10 (by decide) ?_
  refine gr_iconst dX3_isEvenWithout_12 ?_
  refine gr_istore dX3_isEvenWithout_13 (by decide) ?_
  have key : ∀ (n i : Nat), i + n = gp_cnt (I 20) c → gw_G (gw_Cm jX3_isEvenWithout (d + 3) (gw_pu (if gs_gp (fun i => gs_lw (gq_B I) (K c) i w 4) (gp_cnt (I 20) c) ≤ I 19 3 then 1 else 0) (114, I, F))) jX3_isEvenWithout 15 [some (.inr (some 12)), some (.inl (c : Int)), some (.inl (w : Int)), some (.inl (gp_cnt (I 20) c : Nat)), some (.inl (gs_pa l i : Nat)), some (.inl (i : Int))] [] (114, I, F) 0 0 := by
    intro n
    induction n with
    | zero =>
      intro i hi
      refine gr_iload dX3_isEvenWithout_15 rfl ?_
      refine gr_iload_n dX3_isEvenWithout_17 rfl ?_
      refine gr_icmp_ge 46 dX3_isEvenWithout_18 (by decide) (by unfold gw_in; omega) (by unfold gw_in; omega) (fun h18 => ?_) (fun h18 => ?_)
      · have hi : i = gp_cnt (I 20) c := by omega
        have ep : gs_pa l i = (fun j => if j < i then l j else 0) 0 + 256 * (fun j => if j < i then l j else 0) 1 + 65536 * (fun j => if j < i then l j else 0) 2 := by
          rcases (show i = 0 ∨ i = 1 ∨ i = 2 ∨ i = 3 by omega) with h | h | h | h <;> rw [h] <;> simp [gs_pa] <;> omega
        refine gr_iload dX3_isEvenWithout_46 rfl ?_
        refine gr_iload_n dX3_isEvenWithout_48 rfl ?_
        rw [ep, ← hi]
        refine gr_stat dX3_isEvenWithout_49 kX3_93 (as := [_, _]) rfl rfl (Nat.le_of_ble_eq_true rfl) (gw_Rm_m (by omega) (by decide) (by decide)) (c_gapOf (n := i) (l := fun j => if j < i then l j else 0) (d + 1) (by omega) (fun j _ => by have := hl36 j; split <;> omega)) ?_
        rintro _ _ ⟨rfl, rfl⟩
        have eg : gs_gp (fun j => (((fun j => if j < i then l j else 0) j : Nat) : Int)) i = gs_gp (fun i => gs_lw (gq_B I) (K c) i w 4) i := gs_gp_congr i (fun j hj => by dsimp only; rw [if_pos hj, hl j])
        rw [eg]
        have hgi : -gs_NEVER ≤ gs_gp (fun i => gs_lw (gq_B I) (K c) i w 4) i ∧ gs_gp (fun i => gs_lw (gq_B I) (K c) i w 4) i ≤ gs_NEVER := by
          have b1 := gs_mx_in (l := fun i => gs_lw (gq_B I) (K c) i w 4) (n := i) (m := 36) (fun j _ => by have := hlin j; omega)
          have b2 := gs_mi_in (l := fun i => gs_lw (gq_B I) (K c) i w 4) (n := i) (m := 36) (fun j _ => by have := hlin j; omega)
          unfold gs_gp gs_NEVER
          unfold gs_NEVER at b2
          split <;> omega
        unfold gs_NEVER at hgi
        refine gr_aload_n dX3_isEvenWithout_52 rfl ?_
        refine gr_getR dX3_isEvenWithout_53 fX3_21 (by first | assumption | rfl) (by omega) (by decide) rfl (by assumption) ?_
        refine gr_getI dX3_isEvenWithout_56 fX3_67 (by first | assumption | rfl) (by omega) (by decide) rfl ?_
        refine gr_icmp_gt 66 dX3_isEvenWithout_59 (by decide) (by unfold gw_in; omega) (by unfold gw_in; omega) (fun h59 => ?_) (fun h59 => ?_)
        · refine gr_iconst dX3_isEvenWithout_66 ?_
          refine gr_iret dX3_isEvenWithout_67 (by first | exact Or.inl rfl | exact Or.inr ⟨rfl, by omega⟩) (by decide) (by decide) (⟨by rw [if_neg (by omega)], rfl⟩)
        · refine gr_iconst dX3_isEvenWithout_62 ?_
          refine gr_goto 67 dX3_isEvenWithout_63 (by decide) ?_
          refine gr_iret dX3_isEvenWithout_67 (by first | exact Or.inl rfl | exact Or.inr ⟨rfl, by omega⟩) (by decide) (by decide) (⟨by rw [if_pos h59], rfl⟩)
      · omega
    | succ n ih =>
      intro i hi
      have hli := hl36 i
      have hpi := hpa i (by omega)
      have hpw : 2 ^ (8 * i) ≤ 65536 := by
        rcases (show i = 0 ∨ i = 1 ∨ i = 2 by omega) with h | h | h <;> rw [h] <;> decide
      have hmul : l i * 2 ^ (8 * i) ≤ 36 * 65536 := Nat.mul_le_mul hli hpw
      refine gr_iload dX3_isEvenWithout_15 rfl ?_
      refine gr_iload_n dX3_isEvenWithout_17 rfl ?_
      refine gr_icmp_ge 46 dX3_isEvenWithout_18 (by decide) (by unfold gw_in; omega) (by unfold gw_in; omega) (fun h18 => ?_) (fun h18 => ?_)
      · omega
      · refine gr_iload dX3_isEvenWithout_21 rfl ?_
        refine gr_aload_n dX3_isEvenWithout_23 rfl ?_
        refine gr_iload_n dX3_isEvenWithout_24 rfl ?_
        refine gr_iload dX3_isEvenWithout_25 rfl ?_
        refine gr_iload_n dX3_isEvenWithout_27 rfl ?_
        refine gr_virt dX3_isEvenWithout_28 kX3_156 (as := [_, _, _]) rfl rfl (by first | assumption | rfl) (by omega) (Nat.le_of_ble_eq_true rfl) (gw_Rm_m (by omega) (by decide) (by decide)) (c_loudWithout (c := c) (i := i) (w := w) (d + 0) hF' hB hS8 hch hc (by omega) hw) ?_
        rintro _ _ ⟨rfl, rfl⟩
        rw [hl i]
        refine gr_iload dX3_isEvenWithout_31 rfl ?_
        refine gr_bipush dX3_isEvenWithout_33 (by decide) ?_
        refine gr_imul (v := ((8 * i : Nat) : Int)) dX3_isEvenWithout_35 (by omega) ?_
        refine gr_ishl (v := ((l i * 2 ^ (8 * i) : Nat) : Int)) dX3_isEvenWithout_36 (ga_shlN (by omega) (by omega)) ?_
        refine gr_ior (v := ((gs_pa l (i + 1) : Nat) : Int)) dX3_isEvenWithout_37 (by rw [ga_orN, gs_or hpi]; rfl) ?_
        refine gr_istore dX3_isEvenWithout_38 (by decide) ?_
        refine gr_iinc (v := ((i + 1 : Nat) : Int)) dX3_isEvenWithout_40 (by decide) rfl (by omega) ?_
        refine gr_goto 15 dX3_isEvenWithout_43 (by decide) ?_
        exact ih (i + 1) (by omega)
  exact key (gp_cnt (I 20) c) 0 (by omega)
end GQ
