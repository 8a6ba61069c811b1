/-! THE REFERENCE reads the text: here, reads, bows -/
/-- the text as it lies there -/
def gm_t (J : Nat → Nat → Int) (T : Nat → Int) (n : Nat) : Prop := J 99 13 = (n : Int) ∧ n ≤ 150 ∧ ∀ i, i < n → J 109 i = T i ∧ 0 ≤ T i ∧ T i ≤ 255
theorem gm_t_c {J J' : Nat → Nat → Int} {T : Nat → Int} {n : Nat} (h : gm_t J T n) (h13 : J' 99 13 = J 99 13) (h109 : J' 109 = J 109) : gm_t J' T n := by
  unfold gm_t
  rw [h13, h109]
  exact h
theorem gt_skf_st (T : Nat → Int) : ∀ m a, gt_skf T m a = a + m ∨ T (gt_skf T m a) ≠ 32
  | 0, a => Or.inl rfl
  | m + 1, a => by
    have ih := gt_skf_st T m (a + 1)
    simp only [gt_skf]
    by_cases h : T a = 32
    · rw [if_pos h]
      rcases ih with ih | ih
      · exact Or.inl (by omega)
      · exact Or.inr ih
    · rw [if_neg h]; exact Or.inr h
theorem gt_sk_sk {T : Nat → Int} {n a : Nat} : gt_sk T n (gt_sk T n a) = gt_sk T n a := by
  refine gt_sk_id ?_
  rcases gt_skf_st T (n - a) a with h | h
  · left
    unfold gt_sk
    omega
  · exact Or.inr h
theorem gt_num_sk {T : Nat → Int} {n a : Nat} {lo hi : Int} : gt_num T n lo hi (gt_sk T n a) = gt_num T n lo hi a := by
  unfold gt_num
  rw [gt_sk_sk]
theorem gt_end_sk {T : Nat → Int} {n a : Nat} {st : gt_S} : gt_end T n (gt_sk T n a) st = gt_end T n a st := by
  unfold gt_end
  rw [gt_sk_sk]
/-- the number as the reference makes it -/
def gm_rv (T : Nat → Int) (a : Nat) : Nat → Int
  | 0 => 0
  | i + 1 => if 99 < gm_rv T a i then gm_rv T a i else 10 * gm_rv T a i + T (a + i) - 48
theorem gm_rv_in {T : Nat → Int} {a : Nat} : ∀ m, (∀ i, i < m → gt_fig (T (a + i)) = true) → (0 ≤ gm_rv T a m ∧ gm_rv T a m ≤ 999) ∧ (m = 0 → gm_rv T a m = 0) ∧ (m ≤ 1 → gm_rv T a m ≤ 9) ∧ (m ≤ 2 → gm_rv T a m ≤ 99 ∧ gm_rv T a m = gt_val T a m) ∧ (T a ≠ 48 → (1 ≤ m → 1 ≤ gm_rv T a m) ∧ (2 ≤ m → 10 ≤ gm_rv T a m) ∧ (3 ≤ m → 100 ≤ gm_rv T a m))
  | 0, _ => by simp [gm_rv, gt_val]
  | m + 1, h => by
    obtain ⟨i1, i0, i2, i3, i4⟩ := gm_rv_in m (fun i hi => h i (by omega))
    have hm := h m (by omega)
    unfold gt_fig at hm
    have hm := of_decide_eq_true hm
    simp only [gm_rv, gt_val]
    generalize gm_rv T a m = v at *
    generalize gt_val T a m = w at *
    by_cases hv : 99 < v
    · rw [if_pos hv]
      refine ⟨by omega, fun h => by omega, fun h => ?_, fun h => ?_, fun h => ⟨fun h => by omega, fun h => by omega, fun h => by omega⟩⟩
      · have := i0 (by omega); omega
      · have := i2 (by omega); omega
    · rw [if_neg hv]
      refine ⟨by omega, fun h => by omega, fun h => ?_, fun h => ?_, fun h => ?_⟩
      · have := i0 (by omega); omega
      · have h1 := i2 (by omega)
        have h2 := i3 (by omega)
        rw [if_pos (by omega)]
        omega
      · by_cases hm0 : m = 0
        · subst hm0
          simp only [Nat.add_zero] at hm ⊢
          have := i0 rfl
          exact ⟨fun _ => by omega, fun h => by omega, fun h => by omega⟩
        · obtain ⟨j1, j2, j3⟩ := i4 h
          have := j1 (by omega)
          refine ⟨fun _ => by omega, fun h => by omega, fun h => ?_⟩
          have := j2 (by omega)
          omega
theorem gm_num {T : Nat → Int} {n a : Nat} {lo hi : Int} (ha : a ≤ n) (hhi : hi ≤ 60) : gt_num T n lo hi a = if gt_sk T n a < gt_fe T n (gt_sk T n a) ∧ ¬ (T (gt_sk T n a) = 48 ∧ gt_fe T n (gt_sk T n a) ≠ gt_sk T n a + 1) ∧ lo ≤ gm_rv T (gt_sk T n a) (gt_fe T n (gt_sk T n a) - gt_sk T n a) ∧ gm_rv T (gt_sk T n a) (gt_fe T n (gt_sk T n a) - gt_sk T n a) ≤ hi then some (gt_fe T n (gt_sk T n a), gm_rv T (gt_sk T n a) (gt_fe T n (gt_sk T n a) - gt_sk T n a)) else none := by
  unfold gt_num
  have h1 := gt_sk_in (T := T) ha
  have h2 := gt_fe_in (T := T) h1.2
  obtain ⟨i1, i0, i2, i3, i4⟩ := gm_rv_in (T := T) (a := gt_sk T n a) (gt_fe T n (gt_sk T n a) - gt_sk T n a) (fun i hi => h2.2.2 _ (by omega) (by omega))
  generalize gt_sk T n a = s at *
  generalize gt_fe T n s = e at *
  by_cases he : e ≤ s + 2
  · have i3 := (i3 (by omega)).2
    rw [← i3]
    by_cases hc : s < e ∧ ¬ (T s = 48 ∧ e ≠ s + 1) ∧ lo ≤ gm_rv T s (e - s) ∧ gm_rv T s (e - s) ≤ hi
    · rw [if_pos hc, if_pos (by omega)]
    · rw [if_neg hc, if_neg (by omega)]
  · rw [if_neg (by omega)]
    by_cases h48 : T s = 48
    · rw [if_neg (by omega)]
    · have := (i4 h48).2.2 (by omega)
      rw [if_neg (by omega)]
section GM
variable {J : Nat → Nat → Int} {F : Nat → Nat → Option Nat} {T : Nat → Int} {n : Nat}
theorem m_here {a : Nat} (d : Nat) (hK : gm_K F) (hT : gm_t J T n) (ha : J 99 15 = (a : Int)) (han : a ≤ n) : gw_Met jX5_here d [.inr (some 99)] (114, J, F) (gw_io F (fun r J' => r = (if gt_sk T n a < n then T (gt_sk T n a) else -1) ∧ ∀ x y, J' x y = if x = 99 ∧ y = 15 then ((gt_sk T n a : Nat) : Int) else J x y)) := by
  obtain ⟨g1, g2, g4, g5, g6, g8, g9, g11, g12, g14, g18, g19, g20, g21⟩ := id hK
  obtain ⟨t1, t2, t3⟩ := id hT
  generalize hQ : gw_io F (fun r J' => r = (if gt_sk T n a < n then T (gt_sk T n a) else -1) ∧ ∀ x y, J' x y = if x = 99 ∧ y = 15 then ((gt_sk T n a : Nat) : Int) else J x y) = Q
  refine gw_enter okX5_here rfl (Nat.le_of_ble_eq_true rfl) ?_
  have loop : ∀ (m b : Nat) (J2 : Nat → Nat → Int), b + m = n → gt_sk T n b = gt_sk T n a → (∀ x y, J2 x y = if x = 99 ∧ y = 15 then (b : Int) else J x y) → gw_G (gw_Cm jX5_here d Q) jX5_here 0 [some (.inr (some 99))] [] (114, J2, F) 0 0 := by
    intro m
    induction m with
    | zero =>
      intro b J2 hb hsk hJ2
      have y15 : J2 99 15 = (b : Int) := by rw [hJ2, if_pos (by omega)]
      have y13 : J2 99 13 = (n : Int) := by rw [hJ2, if_neg (by omega)]; exact t1
      have hs := gt_sk_id (T := T) (n := n) (a := b) (Or.inl (by omega))
      refine gr_aload_n dX5_here_0 rfl ?_
      refine gr_getI dX5_here_1 fX5_79 (by first | assumption | rfl) (by omega) (by decide) rfl ?_
      rw [y15]
      refine gr_aload_n dX5_here_4 rfl ?_
      refine gr_getI dX5_here_5 fX5_76 (by first | assumption | rfl) (by omega) (by decide) rfl ?_
      rw [y13]
      refine gr_icmp_ge 38 dX5_here_8 (by decide) (by unfold gw_in; omega) (by unfold gw_in; omega) (fun h8 => ?_) (fun h8 => ?_)
      · refine gr_aload_n dX5_here_38 rfl ?_
        refine gr_getI dX5_here_39 fX5_79 (by first | assumption | rfl) (by omega) (by decide) rfl ?_
        rw [y15]
        refine gr_aload_n dX5_here_42 rfl ?_
        refine gr_getI dX5_here_43 fX5_76 (by first | assumption | rfl) (by omega) (by decide) rfl ?_
        rw [y13]
        refine gr_icmp_ge 61 dX5_here_46 (by decide) (by unfold gw_in; omega) (by unfold gw_in; omega) (fun h46 => ?_) (fun h46 => ?_)
        · refine gr_iconst dX5_here_61 ?_
          refine gr_iret dX5_here_62 (by first | exact Or.inl rfl | exact Or.inr ⟨rfl, by omega⟩) (by decide) (by decide) ((hQ ▸ ⟨_, _, rfl, rfl, by rw [← hsk, hs, if_neg (by omega)], fun x y => by rw [hJ2, ← hsk, hs]⟩))
        · omega
      · omega
    | succ m ih =>
      intro b J2 hb hsk hJ2
      have y15 : J2 99 15 = (b : Int) := by rw [hJ2, if_pos (by omega)]
      have y13 : J2 99 13 = (n : Int) := by rw [hJ2, if_neg (by omega)]; exact t1
      obtain ⟨u1, u2, u3⟩ := t3 b (by omega)
      have yb : J2 109 b = T b := by rw [hJ2, if_neg (by omega)]; exact u1
      refine gr_aload_n dX5_here_0 rfl ?_
      refine gr_getI dX5_here_1 fX5_79 (by first | assumption | rfl) (by omega) (by decide) rfl ?_
      rw [y15]
      refine gr_aload_n dX5_here_4 rfl ?_
      refine gr_getI dX5_here_5 fX5_76 (by first | assumption | rfl) (by omega) (by decide) rfl ?_
      rw [y13]
      refine gr_icmp_ge 38 dX5_here_8 (by decide) (by unfold gw_in; omega) (by unfold gw_in; omega) (fun h8 => ?_) (fun h8 => ?_)
      · omega
      · refine gr_aload_n dX5_here_11 rfl ?_
        refine gr_getR dX5_here_12 fX5_38 (by first | assumption | rfl) (by omega) (by decide) rfl (by assumption) ?_
        refine gr_aload_n dX5_here_15 rfl ?_
        refine gr_getI dX5_here_16 fX5_79 (by first | assumption | rfl) (by omega) (by decide) rfl ?_
        rw [y15]
        refine gr_iald (i := b) dX5_here_19 (by first | assumption | rfl) (by omega) (by omega) (by omega) (by decide) ?_
        rw [yb]
        refine gr_bipush dX5_here_20 (by decide) ?_
        refine gr_icmp_ne 38 dX5_here_22 (by decide) (by unfold gw_in; omega) (by unfold gw_in; omega) (fun h22 => ?_) (fun h22 => ?_)
        · have hs := gt_sk_id (T := T) (n := n) (a := b) (Or.inr h22)
          refine gr_aload_n dX5_here_38 rfl ?_
          refine gr_getI dX5_here_39 fX5_79 (by first | assumption | rfl) (by omega) (by decide) rfl ?_
          rw [y15]
          refine gr_aload_n dX5_here_42 rfl ?_
          refine gr_getI dX5_here_43 fX5_76 (by first | assumption | rfl) (by omega) (by decide) rfl ?_
          rw [y13]
          refine gr_icmp_ge 61 dX5_here_46 (by decide) (by unfold gw_in; omega) (by unfold gw_in; omega) (fun h46 => ?_) (fun h46 => ?_)
          · omega
          · refine gr_aload_n dX5_here_49 rfl ?_
            refine gr_getR dX5_here_50 fX5_38 (by first | assumption | rfl) (by omega) (by decide) rfl (by assumption) ?_
            refine gr_aload_n dX5_here_53 rfl ?_
            refine gr_getI dX5_here_54 fX5_79 (by first | assumption | rfl) (by omega) (by decide) rfl ?_
            rw [y15]
            refine gr_iald (i := b) dX5_here_57 (by first | assumption | rfl) (by omega) (by omega) (by omega) (by decide) ?_
            rw [yb]
            refine gr_goto 62 dX5_here_58 (by decide) ?_
            refine gr_iret dX5_here_62 (by first | exact Or.inl rfl | exact Or.inr ⟨rfl, by omega⟩) (by decide) (by decide) ((hQ ▸ ⟨_, _, rfl, rfl, by rw [← hsk, hs, if_pos (by omega)], fun x y => by rw [hJ2, ← hsk, hs]⟩))
        · refine gr_aload_n dX5_here_25 rfl ?_
          refine gr_dup dX5_here_26 ?_
          refine gr_getI dX5_here_27 fX5_79 (by first | assumption | rfl) (by omega) (by decide) rfl ?_
          rw [y15]
          refine gr_iconst dX5_here_30 ?_
          refine gr_iadd (v := ((b + 1 : Nat) : Int)) dX5_here_31 (by omega) ?_
          refine gr_putI dX5_here_32 fX5_79 (by first | assumption | rfl) (by omega) (Or.inl rfl) rfl ?_
          refine gr_goto 0 dX5_here_35 (by decide) ?_
          exact ih (b + 1) _ (by omega) (by rw [← gt_sk_s (by omega) h22]; exact hsk) (fun x y => by
            unfold gw_U
            by_cases h : x = 99 ∧ y = 15
            · rw [if_pos h, if_pos h]
            · rw [if_neg h, if_neg h, hJ2, if_neg h])
  exact loop (n - a) a J (by omega) rfl (fun x y => by
    by_cases h : x = 99 ∧ y = 15
    · rw [if_pos h, h.1, h.2]; exact ha
    · rw [if_neg h])
/-- what reads() leaves -/
def gm_rd (J' : Nat → Nat → Int) (T : Nat → Int) (n : Nat) (lo hi : Int) (a : Nat) (r : Int) : Prop := match gt_num T n lo hi a with
  | none => r = 0 ∧ J' 99 15 = ((gt_sk T n a : Nat) : Int)
  | some q => r = 1 ∧ J' 99 15 = (q.1 : Int) ∧ J' 99 16 = q.2
theorem m_reads {a : Nat} {lo hi : Int} (d : Nat) (hK : gm_K F) (hT : gm_t J T n) (ha : J 99 15 = (a : Int)) (han : a ≤ n) (hlo : 0 ≤ lo ∧ lo ≤ 100) (hhi : 0 ≤ hi ∧ hi ≤ 60) : gw_Met jX5_reads (d + 1) [.inr (some 99), .inl lo, .inl hi] (114, J, F) (gw_io F (fun r J' => (r = 0 ∨ r = 1) ∧ (∀ x y, ¬ (x = 99 ∧ (y = 15 ∨ y = 16)) → J' x y = J x y) ∧ gm_rd J' T n lo hi a r)) := by
  obtain ⟨g1, g2, g4, g5, g6, g8, g9, g11, g12, g14, g18, g19, g20, g21⟩ := id hK
  obtain ⟨t1, t2, t3⟩ := id hT
  generalize hQ : gw_io F (fun r J' => (r = 0 ∨ r = 1) ∧ (∀ x y, ¬ (x = 99 ∧ (y = 15 ∨ y = 16)) → J' x y = J x y) ∧ gm_rd J' T n lo hi a r) = Q
  have hsk := gt_sk_in (T := T) han
  have hfe := gt_fe_in (T := T) hsk.2
  have hnum := gm_num (T := T) (lo := lo) (hi := hi) han hhi.2
  unfold gm_rd at hQ
  refine gw_enter okX5_reads rfl (Nat.le_of_ble_eq_true rfl) ?_
  refine gr_aload_n dX5_reads_0 rfl ?_
  refine gr_virt dX5_reads_1 kX5_82 (as := []) rfl rfl (by first | assumption | rfl) (by omega) (Nat.le_of_ble_eq_true rfl) (gw_Rm_m (by omega) (by decide) (by decide)) (m_here d hK hT ha han) ?_
  rintro _ _ ⟨_, J1, rfl, rfl, rfl, hJ1⟩
  generalize hs : gt_sk T n a = s at *
  have y15 : J1 99 15 = (s : Int) := by rw [hJ1, if_pos (by omega)]
  have y13 : J1 99 13 = (n : Int) := by rw [hJ1, if_neg (by omega)]; exact t1
  have yT : ∀ i, i < n → J1 109 i = T i := fun i hi => by rw [hJ1, if_neg (by omega)]; exact (t3 i hi).1
  have hJo : ∀ x y, ¬ (x = 99 ∧ y = 15) → J1 x y = J x y := fun x y h => by rw [hJ1, if_neg h]
  generalize hc : (if s < n then T s else -1) = c
  have hcin : -1 ≤ c ∧ c ≤ 255 := by
    rw [← hc]
    split
    · have := t3 s (by omega); omega
    · omega
  generalize he : gt_fe T n s = e at *
  have hrv := gm_rv_in (T := T) (a := s) (e - s) (fun i hi => hfe.2.2 _ (by omega) (by omega))
  -- the end
  have fin1 : (s < e ∧ ¬ (T s = 48 ∧ e ≠ s + 1) ∧ lo ≤ gm_rv T s (e - s) ∧ gm_rv T s (e - s) ≤ hi) → gw_G (gw_Cm jX5_reads (d + 1) Q) jX5_reads 117 [some (.inr (some 99)), some (.inl lo), some (.inl hi), some (.inl c), some (.inl (e : Int)), some (.inl (gm_rv T s (e - s))), none] [.inl 1] (114, J1, F) 0 0 := by
    intro hyes
    rw [if_pos hyes] at hnum
    refine gr_istore dX5_reads_117 (by decide) ?_
    refine gr_aload_n dX5_reads_119 rfl ?_
    refine gr_iload dX5_reads_120 rfl ?_
    refine gr_if_eq 130 dX5_reads_122 (by decide) (by unfold gw_in; omega) (fun h122 => ?_) (fun h122 => ?_)
    · omega
    · refine gr_iload dX5_reads_125 rfl ?_
      refine gr_goto 134 dX5_reads_127 (by decide) ?_
      refine gr_putI dX5_reads_134 fX5_79 (by first | assumption | rfl) (by omega) (Or.inl rfl) rfl ?_
      refine gr_aload_n dX5_reads_137 rfl ?_
      refine gr_iload dX5_reads_138 rfl ?_
      refine gr_putI dX5_reads_140 fX5_86 (by first | assumption | rfl) (by omega) (Or.inl rfl) rfl ?_
      refine gr_iload dX5_reads_143 rfl ?_
      refine gr_iret dX5_reads_145 (by first | exact Or.inl rfl | exact Or.inr ⟨rfl, by omega⟩) (by decide) (by decide) ?_
      rw [← hQ, hnum]
      refine ⟨_, _, rfl, rfl, Or.inr rfl, fun x y h => ?_, rfl, ?_, gw_U_s⟩
      · rw [gw_U_n (by omega), gw_U_n (by omega)]; exact hJo x y (by omega)
      · rw [gw_U_n (by omega), gw_U_s]
  have fin0 : ¬ (s < e ∧ ¬ (T s = 48 ∧ e ≠ s + 1) ∧ lo ≤ gm_rv T s (e - s) ∧ gm_rv T s (e - s) ≤ hi) → gw_G (gw_Cm jX5_reads (d + 1) Q) jX5_reads 117 [some (.inr (some 99)), some (.inl lo), some (.inl hi), some (.inl c), some (.inl (e : Int)), some (.inl (gm_rv T s (e - s))), none] [.inl 0] (114, J1, F) 0 0 := by
    intro hno
    rw [if_neg hno] at hnum
    refine gr_istore dX5_reads_117 (by decide) ?_
    refine gr_aload_n dX5_reads_119 rfl ?_
    refine gr_iload dX5_reads_120 rfl ?_
    refine gr_if_eq 130 dX5_reads_122 (by decide) (by unfold gw_in; omega) (fun h122 => ?_) (fun h122 => ?_)
    · refine gr_aload_n dX5_reads_130 rfl ?_
      refine gr_getI dX5_reads_131 fX5_79 (by first | assumption | rfl) (by omega) (by decide) rfl ?_
      rw [y15]
      refine gr_putI dX5_reads_134 fX5_79 (by first | assumption | rfl) (by omega) (Or.inl rfl) rfl ?_
      refine gr_aload_n dX5_reads_137 rfl ?_
      refine gr_iload dX5_reads_138 rfl ?_
      refine gr_putI dX5_reads_140 fX5_86 (by first | assumption | rfl) (by omega) (Or.inl rfl) rfl ?_
      refine gr_iload dX5_reads_143 rfl ?_
      refine gr_iret dX5_reads_145 (by first | exact Or.inl rfl | exact Or.inr ⟨rfl, by omega⟩) (by decide) (by decide) ?_
      rw [← hQ, hnum]
      refine ⟨_, _, rfl, rfl, Or.inl rfl, fun x y h => ?_, rfl, ?_⟩
      · rw [gw_U_n (by omega), gw_U_n (by omega)]; exact hJo x y (by omega)
      · rw [gw_U_n (by omega), gw_U_s]
    · omega
  have tail : gw_G (gw_Cm jX5_reads (d + 1) Q) jX5_reads 76 [some (.inr (some 99)), some (.inl lo), some (.inl hi), some (.inl c), some (.inl (e : Int)), some (.inl (gm_rv T s (e - s))), none] [] (114, J1, F) 0 0 := by
    have last : s < e ∧ ¬ (T s = 48 ∧ e ≠ s + 1) → gw_G (gw_Cm jX5_reads (d + 1) Q) jX5_reads 102 [some (.inr (some 99)), some (.inl lo), some (.inl hi), some (.inl c), some (.inl (e : Int)), some (.inl (gm_rv T s (e - s))), none] [] (114, J1, F) 0 0 := by
      intro hl
      refine gr_iload dX5_reads_102 rfl ?_
      refine gr_iload_n dX5_reads_104 rfl ?_
      refine gr_iload_n dX5_reads_105 rfl ?_
      refine gr_stat dX5_reads_106 kX5_72 (as := [_, _, _]) rfl rfl (Nat.le_of_ble_eq_true rfl) (gw_Rm_m (by omega) (by decide) (by decide)) (m_in d (by unfold gw_in; omega) (by unfold gw_in; omega) (by unfold gw_in; omega)) ?_
      rintro _ _ ⟨rfl, rfl⟩
      by_cases h1 : lo ≤ gm_rv T s (e - s) ∧ gm_rv T s (e - s) ≤ hi
      · rw [if_pos h1]
        refine gr_if_eq 116 dX5_reads_109 (by decide) (by unfold gw_in; omega) (fun h109 => ?_) (fun h109 => ?_)
        · omega
        · refine gr_iconst dX5_reads_112 ?_
          refine gr_goto 117 dX5_reads_113 (by decide) ?_
          exact fin1 ⟨hl.1, hl.2, h1⟩
      · rw [if_neg h1]
        refine gr_if_eq 116 dX5_reads_109 (by decide) (by unfold gw_in; omega) (fun h109 => ?_) (fun h109 => ?_)
        · refine gr_iconst dX5_reads_116 ?_
          exact fin0 (fun h => h1 h.2.2)
        · omega
    refine gr_iload dX5_reads_76 rfl ?_
    refine gr_aload_n dX5_reads_78 rfl ?_
    refine gr_getI dX5_reads_79 fX5_79 (by first | assumption | rfl) (by omega) (by decide) rfl ?_
    rw [y15]
    refine gr_icmp_le 116 dX5_reads_82 (by decide) (by unfold gw_in; omega) (by unfold gw_in; omega) (fun h82 => ?_) (fun h82 => ?_)
    · refine gr_iconst dX5_reads_116 ?_
      exact fin0 (fun h => by omega)
    · rw [if_pos (by omega)] at hc
      refine gr_iload_n dX5_reads_85 rfl ?_
      refine gr_bipush dX5_reads_86 (by decide) ?_
      refine gr_icmp_ne 102 dX5_reads_88 (by decide) (by unfold gw_in; omega) (by unfold gw_in; omega) (fun h88 => ?_) (fun h88 => ?_)
      · exact last ⟨by omega, fun h => h88 (by rw [← hc]; exact h.1)⟩
      · refine gr_iload dX5_reads_91 rfl ?_
        refine gr_aload_n dX5_reads_93 rfl ?_
        refine gr_getI dX5_reads_94 fX5_79 (by first | assumption | rfl) (by omega) (by decide) rfl ?_
        rw [y15]
        refine gr_iconst dX5_reads_97 ?_
        refine gr_iadd dX5_reads_98 rfl ?_
        refine gr_icmp_ne 116 dX5_reads_99 (by decide) (by unfold gw_in; omega) (by unfold gw_in; omega) (fun h99 => ?_) (fun h99 => ?_)
        · refine gr_iconst dX5_reads_116 ?_
          exact fin0 (fun h => h.2.1 ⟨by rw [hc]; exact h88, by omega⟩)
        · exact last ⟨by omega, fun h => by omega⟩
  have loop : ∀ (m k : Nat), k + m = n → s ≤ k → k ≤ e → gt_fe T n k = e → gw_G (gw_Cm jX5_reads (d + 1) Q) jX5_reads 14 [some (.inr (some 99)), some (.inl lo), some (.inl hi), some (.inl c), some (.inl (k : Int)), some (.inl (gm_rv T s (k - s))), none] [] (114, J1, F) 0 0 := by
    intro m
    induction m with
    | zero =>
      intro k hk hsk2 hke hfk
      have : k = e := by omega
      subst this
      refine gr_iload dX5_reads_14 rfl ?_
      refine gr_aload_n dX5_reads_16 rfl ?_
      refine gr_getI dX5_reads_17 fX5_76 (by first | assumption | rfl) (by omega) (by decide) rfl ?_
      rw [y13]
      refine gr_icmp_ge 76 dX5_reads_20 (by decide) (by unfold gw_in; omega) (by unfold gw_in; omega) (fun h20 => ?_) (fun h20 => ?_)
      · exact tail
      · omega
    | succ m ih =>
      intro k hk hsk2 hke hfk
      obtain ⟨u1, u2, u3⟩ := t3 k (by omega)
      refine gr_iload dX5_reads_14 rfl ?_
      refine gr_aload_n dX5_reads_16 rfl ?_
      refine gr_getI dX5_reads_17 fX5_76 (by first | assumption | rfl) (by omega) (by decide) rfl ?_
      rw [y13]
      refine gr_icmp_ge 76 dX5_reads_20 (by decide) (by unfold gw_in; omega) (by unfold gw_in; omega) (fun h20 => ?_) (fun h20 => ?_)
      · omega
      · refine gr_aload_n dX5_reads_23 rfl ?_
        refine gr_getR dX5_reads_24 fX5_38 (by first | assumption | rfl) (by omega) (by decide) rfl (by assumption) ?_
        refine gr_iload dX5_reads_27 rfl ?_
        refine gr_iald (i := k) dX5_reads_29 (by first | assumption | rfl) (by omega) (by omega) (by omega) (by decide) ?_
        rw [yT k (by omega)]
        refine gr_bipush dX5_reads_30 (by decide) ?_
        refine gr_bipush dX5_reads_32 (by decide) ?_
        refine gr_stat dX5_reads_34 kX5_72 (as := [_, _, _]) rfl rfl (Nat.le_of_ble_eq_true rfl) (gw_Rm_m (by omega) (by decide) (by decide)) (m_in d (by unfold gw_in; omega) (by unfold gw_in; omega) (by unfold gw_in; omega)) ?_
        rintro _ _ ⟨rfl, rfl⟩
        by_cases hf : 48 ≤ T k ∧ T k ≤ 57
        · have hfig : gt_fig (T k) = true := by unfold gt_fig; exact decide_eq_true hf
          have hfk2 : gt_fe T n (k + 1) = e := by rw [← gt_fe_s (by omega) hfig]; exact hfk
          have hke2 : k + 1 ≤ e := by
            have := (gt_fe_in (T := T) (n := n) (a := k + 1) (by omega)).1
            omega
          have rk := gm_rv_in (T := T) (a := s) (k - s) (fun i hi => hfe.2.2 _ (by omega) (by omega))
          have nxt := ih (k + 1) (by omega) (by omega) hke2 hfk2
          have hst : gm_rv T s (k + 1 - s) = if 99 < gm_rv T s (k - s) then gm_rv T s (k - s) else 10 * gm_rv T s (k - s) + T k - 48 := by
            rw [show k + 1 - s = (k - s) + 1 by omega]
            simp only [gm_rv]
            rw [show s + (k - s) = k by omega]
          rw [if_pos hf]
          refine gr_if_eq 76 dX5_reads_37 (by decide) (by unfold gw_in; omega) (fun h37 => ?_) (fun h37 => ?_)
          · omega
          · refine gr_iload dX5_reads_40 rfl ?_
            refine gr_bipush dX5_reads_42 (by decide) ?_
            refine gr_icmp_le 52 dX5_reads_44 (by decide) (by unfold gw_in; omega) (by unfold gw_in; omega) (fun h44 => ?_) (fun h44 => ?_)
            · rw [if_neg (by omega)] at hst
              refine gr_bipush dX5_reads_52 (by decide) ?_
              refine gr_iload dX5_reads_54 rfl ?_
              refine gr_imul dX5_reads_56 rfl ?_
              refine gr_aload_n dX5_reads_57 rfl ?_
              refine gr_getR dX5_reads_58 fX5_38 (by first | assumption | rfl) (by omega) (by decide) rfl (by assumption) ?_
              refine gr_iload dX5_reads_61 rfl ?_
              refine gr_iald (i := k) dX5_reads_63 (by first | assumption | rfl) (by omega) (by omega) (by omega) (by decide) ?_
              rw [yT k (by omega)]
              refine gr_iadd dX5_reads_64 rfl ?_
              refine gr_bipush dX5_reads_65 (by decide) ?_
              refine gr_isub (v := 10 * gm_rv T s (k - s) + T k - 48) dX5_reads_67 (by omega) ?_
              refine gr_istore dX5_reads_68 (by decide) ?_
              refine gr_iinc (v := ((k + 1 : Nat) : Int)) dX5_reads_70 (by decide) rfl (by omega) ?_
              refine gr_goto 14 dX5_reads_73 (by decide) ?_
              rw [← hst]
              exact nxt
            · rw [if_pos (by omega)] at hst
              refine gr_iload dX5_reads_47 rfl ?_
              refine gr_goto 68 dX5_reads_49 (by decide) ?_
              refine gr_istore dX5_reads_68 (by decide) ?_
              refine gr_iinc (v := ((k + 1 : Nat) : Int)) dX5_reads_70 (by decide) rfl (by omega) ?_
              refine gr_goto 14 dX5_reads_73 (by decide) ?_
              rw [← hst]
              exact nxt
        · have hfig : gt_fig (T k) = false := by unfold gt_fig; exact decide_eq_false hf
          have : k = e := by rw [← hfk, gt_fe_id (Or.inr hfig)]
          subst this
          rw [if_neg hf]
          refine gr_if_eq 76 dX5_reads_37 (by decide) (by unfold gw_in; omega) (fun h37 => ?_) (fun h37 => ?_)
          · exact tail
          · omega
  refine gr_istore_n dX5_reads_4 (by decide) ?_
  refine gr_aload_n dX5_reads_5 rfl ?_
  refine gr_getI dX5_reads_6 fX5_79 (by first | assumption | rfl) (by omega) (by decide) rfl ?_
  rw [y15]
  refine gr_istore dX5_reads_9 (by decide) ?_
  refine gr_iconst dX5_reads_11 ?_
  refine gr_istore dX5_reads_12 (by decide) ?_
  have l0 := loop (n - s) s (by omega) (by omega) hfe.1 he
  rw [Nat.sub_self] at l0
  exact l0
theorem m_bows {P : Nat} {K : Nat → Int} (d : Nat) (hK : gm_K F) (hP : J 99 10 = (P : Int)) (hP4 : P ≤ 4) (hk : ∀ p, p < P → J 107 (5 * p) = K p ∧ 0 ≤ K p ∧ K p ≤ 2) : gw_Met jX5_bows d [.inr (some 99)] (114, J, F) (gw_pu (gb_bw K P) (114, J, F)) := by
  obtain ⟨g1, g2, g4, g5, g6, g8, g9, g11, g12, g14, g18, g19, g20, g21⟩ := id hK
  generalize hQ : gw_pu (gb_bw K P) (114, J, F) = Q
  refine gw_enter okX5_bows rfl (Nat.le_of_ble_eq_true rfl) ?_
  have loop : ∀ (m p : Nat), p + m = P → gw_G (gw_Cm jX5_bows d Q) jX5_bows 4 [some (.inr (some 99)), some (.inl (gb_bw K p)), some (.inl (p : Int))] [] (114, J, F) 0 0 := by
    intro m
    induction m with
    | zero =>
      intro p hp
      have : p = P := by omega
      subst this
      refine gr_iload_n dX5_bows_4 rfl ?_
      refine gr_aload_n dX5_bows_5 rfl ?_
      refine gr_getI dX5_bows_6 fX5_59 (by first | assumption | rfl) (by omega) (by decide) rfl ?_
      rw [hP]
      refine gr_icmp_ge 38 dX5_bows_9 (by decide) (by unfold gw_in; omega) (by unfold gw_in; omega) (fun h9 => ?_) (fun h9 => ?_)
      · refine gr_iload_n dX5_bows_38 rfl ?_
        refine gr_iret dX5_bows_39 (by first | exact Or.inl rfl | exact Or.inr ⟨rfl, by omega⟩) (by decide) (by decide) ((hQ ▸ ⟨rfl, rfl⟩))
      · omega
    | succ m ih =>
      intro p hp
      obtain ⟨k1, k2, k3⟩ := hk p (by omega)
      have nxt := ih (p + 1) (by omega)
      simp only [gb_bw] at nxt
      refine gr_iload_n dX5_bows_4 rfl ?_
      refine gr_aload_n dX5_bows_5 rfl ?_
      refine gr_getI dX5_bows_6 fX5_59 (by first | assumption | rfl) (by omega) (by decide) rfl ?_
      rw [hP]
      refine gr_icmp_ge 38 dX5_bows_9 (by decide) (by unfold gw_in; omega) (by unfold gw_in; omega) (fun h9 => ?_) (fun h9 => ?_)
      · omega
      · refine gr_iload_n dX5_bows_12 rfl ?_
        refine gr_aload_n dX5_bows_13 rfl ?_
        refine gr_getR dX5_bows_14 fX5_32 (by first | assumption | rfl) (by omega) (by decide) rfl (by assumption) ?_
        refine gr_iconst dX5_bows_17 ?_
        refine gr_iload_n dX5_bows_18 rfl ?_
        refine gr_imul dX5_bows_19 rfl ?_
        refine gr_iald (i := 5 * p) dX5_bows_20 (by first | assumption | rfl) (by omega) (by omega) (by omega) (by decide) ?_
        rw [k1]
        refine gr_iconst dX5_bows_21 ?_
        refine gr_icmp_ne 29 dX5_bows_22 (by decide) (by unfold gw_in; omega) (by unfold gw_in; omega) (fun h22 => ?_) (fun h22 => ?_)
        · rw [if_neg h22] at nxt
          refine gr_iconst dX5_bows_29 ?_
          refine gr_iadd dX5_bows_30 rfl ?_
          refine gr_istore_n dX5_bows_31 (by decide) ?_
          refine gr_iinc (v := ((p + 1 : Nat) : Int)) dX5_bows_32 (by decide) rfl (by omega) ?_
          refine gr_goto 4 dX5_bows_35 (by decide) ?_
          exact nxt
        · rw [if_pos h22] at nxt
          refine gr_iconst dX5_bows_25 ?_
          refine gr_goto 30 dX5_bows_26 (by decide) ?_
          refine gr_iadd dX5_bows_30 rfl ?_
          refine gr_istore_n dX5_bows_31 (by decide) ?_
          refine gr_iinc (v := ((p + 1 : Nat) : Int)) dX5_bows_32 (by decide) rfl (by omega) ?_
          refine gr_goto 4 dX5_bows_35 (by decide) ?_
          exact nxt
  refine gr_iconst dX5_bows_0 ?_
  refine gr_istore_n dX5_bows_1 (by decide) ?_
  refine gr_iconst dX5_bows_2 ?_
  refine gr_istore_n dX5_bows_3 (by decide) ?_
  exact loop P 0 (by omega)
end GM
