/-! CONSTRUCTORS: Band, Piece, Reader -/
def gi_vo (n : Nat) (Q : (Nat → Nat → Int) → (Nat → Nat → Option Nat) → Prop) : Option gw_V → gw_M → Prop := fun v μ => v = none ∧ ∃ (I' : Nat → Nat → Int) (F' : Nat → Nat → Option Nat), μ = (n, I', F') ∧ Q I' F'
/-- the cells below b are as they were -/
def gi_old (I : Nat → Nat → Int) (F : Nat → Nat → Option Nat) (I' : Nat → Nat → Int) (F' : Nat → Nat → Option Nat) (b : Nat) : Prop := (∀ a, a < b → I' a = I a) ∧ ∀ a, a < b → F' a = F a
theorem gi_Rm {j : gw_J} {D : Nat} {Q : Option gw_V → gw_M → Prop} (h : 0 < D) : ∀ E R s args below Z, gw_Cm j D Q E R s args below Z → 1 ≤ R.frames ∧ 34 ≤ R.locals := by
  intro E R s args below Z hC
  obtain ⟨rfl, rfl⟩ := hC
  refine ⟨h, ?_⟩
  show 34 ≤ 34 * D
  omega
theorem gb_K_c {F F' : Nat → Nat → Option Nat} {b : Nat} (h : F' b = F b) (hK : gb_K F b) : gb_K F' b := by
  unfold gb_K at hK ⊢
  rw [h]
  exact hK
theorem gp_K_c {F F' : Nat → Nat → Option Nat} {k : Nat} (h : F' k = F k) (hK : gp_K F k) : gp_K F' k := by
  unfold gp_K at hK ⊢
  rw [h]
  exact hK
section GI
variable {I : Nat → Nat → Int} {F : Nat → Nat → Option Nat}
theorem i_X0 {b : Nat} (d : Nat) (hb : b + 5 < 114) (s0 : gw_sh b = (0, 7)) (s1 : gw_sh (b + 1) = (10, 4)) (s2 : gw_sh (b + 2) = (10, 4)) (s3 : gw_sh (b + 3) = (10, 4)) (s4 : gw_sh (b + 4) = (10, 4)) (s5 : gw_sh (b + 5) = (10, 4)) : gw_Met jX0_init (d + 1) [.inr (some b)] (b + 1, I, F) (gi_vo (b + 6) (fun I' F' => gi_old I F I' F' b ∧ gb_K F' b ∧ I' b 0 = 0 ∧ I' b 1 = 0 ∧ ∀ r, 1 ≤ r → r ≤ 5 → I' (b + r) = fun _ => 0)) := by
  refine gw_enter okX0_init rfl (Nat.le_of_ble_eq_true rfl) ?_
  refine gr_aload_n dX0_init_0 rfl ?_
  refine gr_obj dX0_init_1 oX0_3 oo_1 oo_2 (Nat.le_of_ble_eq_true rfl) (gi_Rm (by omega)) ?_
  refine gr_aload_n dX0_init_4 rfl ?_
  refine gr_iconst dX0_init_5 ?_
  refine gr_putI dX0_init_6 fX0_9 (by first | assumption | rfl) (by omega) (Or.inl rfl) rfl ?_
  refine gr_aload_n dX0_init_9 rfl ?_
  refine gr_iconst dX0_init_10 ?_
  refine gr_putI dX0_init_11 fX0_15 (by first | assumption | rfl) (by omega) (Or.inl rfl) rfl ?_
  refine gr_aload_n dX0_init_14 rfl ?_
  refine gr_iconst dX0_init_15 ?_
  refine gr_newI (N := 4) dX0_init_16 aa_i rfl (Nat.le_of_ble_eq_true rfl) (by first | assumption | rfl) (gw_Bd_m (Nat.le_of_ble_eq_true rfl) (Nat.le_of_ble_eq_true rfl)) ?_
  refine gr_putR dX0_init_18 fX0_18 (fun _ => ⟨rfl, rfl⟩) (by first | assumption | rfl) (by omega) rfl rfl ?_
  refine gr_aload_n dX0_init_21 rfl ?_
  refine gr_iconst dX0_init_22 ?_
  refine gr_newI (N := 4) dX0_init_23 aa_i rfl (Nat.le_of_ble_eq_true rfl) (by first | assumption | rfl) (gw_Bd_m (Nat.le_of_ble_eq_true rfl) (Nat.le_of_ble_eq_true rfl)) ?_
  refine gr_putR dX0_init_25 fX0_22 (fun _ => ⟨rfl, rfl⟩) (by first | assumption | rfl) (by omega) rfl rfl ?_
  refine gr_aload_n dX0_init_28 rfl ?_
  refine gr_iconst dX0_init_29 ?_
  refine gr_newI (N := 4) dX0_init_30 aa_i rfl (Nat.le_of_ble_eq_true rfl) (by first | assumption | rfl) (gw_Bd_m (Nat.le_of_ble_eq_true rfl) (Nat.le_of_ble_eq_true rfl)) ?_
  refine gr_putR dX0_init_32 fX0_25 (fun _ => ⟨rfl, rfl⟩) (by first | assumption | rfl) (by omega) rfl rfl ?_
  refine gr_aload_n dX0_init_35 rfl ?_
  refine gr_iconst dX0_init_36 ?_
  refine gr_newI (N := 4) dX0_init_37 aa_i rfl (Nat.le_of_ble_eq_true rfl) (by first | assumption | rfl) (gw_Bd_m (Nat.le_of_ble_eq_true rfl) (Nat.le_of_ble_eq_true rfl)) ?_
  refine gr_putR dX0_init_39 fX0_28 (fun _ => ⟨rfl, rfl⟩) (by first | assumption | rfl) (by omega) rfl rfl ?_
  refine gr_aload_n dX0_init_42 rfl ?_
  refine gr_iconst dX0_init_43 ?_
  refine gr_newI (N := 4) dX0_init_44 aa_i rfl (Nat.le_of_ble_eq_true rfl) (by first | assumption | rfl) (gw_Bd_m (Nat.le_of_ble_eq_true rfl) (Nat.le_of_ble_eq_true rfl)) ?_
  refine gr_putR dX0_init_46 fX0_31 (fun _ => ⟨rfl, rfl⟩) (by first | assumption | rfl) (by omega) rfl rfl ?_
  refine gr_vret dX0_init_49 rfl (by decide) (by decide) ?_
  refine ⟨rfl, _, _, rfl, ⟨fun a ha => ?_, fun a ha => ?_⟩, ⟨s0, s1, s2, s3, s4, s5, hb, ?_, ?_, ?_, ?_, ?_⟩, ?_, ?_, fun r h1 h5 => ?_⟩
  · simp (disch := omega) only [gw_U_r, gw_Z_r]
  · simp (disch := omega) only [gw_U_r, gw_Z_r]
  · simp (disch := omega) only [gw_U_s, gw_U_n, gw_Z_r]
  · simp (disch := omega) only [gw_U_s, gw_U_n, gw_Z_r]
  · simp (disch := omega) only [gw_U_s, gw_U_n, gw_Z_r]
  · simp (disch := omega) only [gw_U_s, gw_U_n, gw_Z_r]
  · simp (disch := omega) only [gw_U_s, gw_U_n, gw_Z_r]
  · simp (disch := omega) only [gw_U_s, gw_U_n, gw_Z_r]
  · simp (disch := omega) only [gw_U_s, gw_U_n, gw_Z_r]
  · rcases (show r = 1 ∨ r = 2 ∨ r = 3 ∨ r = 4 ∨ r = 5 by omega) with rfl | rfl | rfl | rfl | rfl <;> simp (disch := omega) only [gw_Z_s, gw_U_r, gw_Z_r]
theorem i_X1 {k : Nat} (d : Nat) (hk : k + 1 < 114) (s0 : gw_sh k = (1, 5)) (s1 : gw_sh (k + 1) = (10, 24)) : gw_Met jX1_init (d + 1) [.inr (some k)] (k + 1, I, F) (gi_vo (k + 2) (fun I' F' => gi_old I F I' F' k ∧ gp_K F' k ∧ I' k 0 = 0 ∧ I' k 1 = 0 ∧ I' k 2 = 5 ∧ I' k 3 = 9 ∧ I' (k + 1) = fun _ => 0)) := by
  refine gw_enter okX1_init rfl (Nat.le_of_ble_eq_true rfl) ?_
  refine gr_aload_n dX1_init_0 rfl ?_
  refine gr_obj dX1_init_1 oX1_3 oo_1 oo_2 (Nat.le_of_ble_eq_true rfl) (gi_Rm (by omega)) ?_
  refine gr_aload_n dX1_init_4 rfl ?_
  refine gr_iconst dX1_init_5 ?_
  refine gr_putI dX1_init_6 fX1_9 (by first | assumption | rfl) (by omega) (Or.inl rfl) rfl ?_
  refine gr_aload_n dX1_init_9 rfl ?_
  refine gr_iconst dX1_init_10 ?_
  refine gr_putI dX1_init_11 fX1_15 (by first | assumption | rfl) (by omega) (Or.inl rfl) rfl ?_
  refine gr_aload_n dX1_init_14 rfl ?_
  refine gr_iconst dX1_init_15 ?_
  refine gr_putI dX1_init_16 fX1_18 (by first | assumption | rfl) (by omega) (Or.inl rfl) rfl ?_
  refine gr_aload_n dX1_init_19 rfl ?_
  refine gr_bipush dX1_init_20 (by decide) ?_
  refine gr_putI dX1_init_22 fX1_21 (by first | assumption | rfl) (by omega) (Or.inl rfl) rfl ?_
  refine gr_aload_n dX1_init_25 rfl ?_
  refine gr_bipush dX1_init_26 (by decide) ?_
  refine gr_newI (N := 24) dX1_init_28 aa_i rfl (Nat.le_of_ble_eq_true rfl) (by first | assumption | rfl) (gw_Bd_m (Nat.le_of_ble_eq_true rfl) (Nat.le_of_ble_eq_true rfl)) ?_
  refine gr_putR dX1_init_30 fX1_24 (fun _ => ⟨rfl, rfl⟩) (by first | assumption | rfl) (by omega) rfl rfl ?_
  refine gr_vret dX1_init_33 rfl (by decide) (by decide) ?_
  refine ⟨rfl, _, _, rfl, ⟨fun a ha => ?_, fun a ha => ?_⟩, ⟨s0, s1, hk, ?_⟩, ?_, ?_, ?_, ?_, ?_⟩
  · simp (disch := omega) only [gw_U_r, gw_Z_r]
  · simp (disch := omega) only [gw_U_r, gw_Z_r]
  · simp (disch := omega) only [gw_U_s, gw_U_n, gw_Z_r]
  · simp (disch := omega) only [gw_U_s, gw_U_n, gw_Z_r]
  · simp (disch := omega) only [gw_U_s, gw_U_n, gw_Z_r]
  · simp (disch := omega) only [gw_U_s, gw_U_n, gw_Z_r]
  · simp (disch := omega) only [gw_U_s, gw_U_n, gw_Z_r]
  · simp (disch := omega) only [gw_Z_s, gw_U_r, gw_Z_r]
theorem i_X2 (d : Nat) : gw_Met jX2_init (d + 2) [.inr (some 1)] (2, I, F) (gi_vo 12 (fun I' F' => gi_old I F I' F' 1 ∧ gx_K F' ∧ I' 1 2 = 0 ∧ (∀ r, 1 ≤ r → r ≤ 5 → I' (2 + r) = fun _ => 0) ∧ I' 9 = fun _ => 0)) := by
  refine gw_enter okX2_init rfl (Nat.le_of_ble_eq_true rfl) ?_
  refine gr_aload_n dX2_init_0 rfl ?_
  refine gr_obj dX2_init_1 oX2_3 oo_1 oo_2 (Nat.le_of_ble_eq_true rfl) (gi_Rm (by omega)) ?_
  refine gr_aload_n dX2_init_4 rfl ?_
  refine gr_newO dX2_init_5 lX2_9 gcX0 gdX0 (by first | assumption | rfl) (gw_Bd_m (Nat.le_of_ble_eq_true rfl) (Nat.le_of_ble_eq_true rfl)) ?_
  refine gr_dup dX2_init_8 ?_
  refine gr_initN dX2_init_9 kX2_11 (as := []) rfl rfl (Nat.le_of_ble_eq_true rfl) (gw_Rm_m (by omega) (by decide) (by decide)) (i_X0 (b := 2) d (by omega) rfl rfl rfl rfl rfl rfl) ?_
  rintro _ _ ⟨rfl, I1, F1, rfl, ⟨o1, o2⟩, kb, -, -, z1⟩
  refine gr_putR dX2_init_12 fX2_12 (fun _ => ⟨rfl, rfl⟩) (by first | assumption | rfl) (by omega) rfl rfl ?_
  refine gr_aload_n dX2_init_15 rfl ?_
  refine gr_newO dX2_init_16 lX2_18 gcX1 gdX1 (by first | assumption | rfl) (gw_Bd_m (Nat.le_of_ble_eq_true rfl) (Nat.le_of_ble_eq_true rfl)) ?_
  refine gr_dup dX2_init_19 ?_
  refine gr_initN dX2_init_20 kX2_20 (as := []) rfl rfl (Nat.le_of_ble_eq_true rfl) (gw_Rm_m (by omega) (by decide) (by decide)) (i_X1 (k := 8) d (by omega) rfl rfl) ?_
  rintro _ _ ⟨rfl, I2, F2, rfl, ⟨p1, p2⟩, kp, -, -, -, -, z2⟩
  refine gr_putR dX2_init_23 fX2_21 (fun _ => ⟨rfl, rfl⟩) (by first | assumption | rfl) (by omega) rfl rfl ?_
  refine gr_aload_n dX2_init_26 rfl ?_
  refine gr_iconst dX2_init_27 ?_
  refine gr_putI dX2_init_28 fX2_25 (by first | assumption | rfl) (by omega) (Or.inl rfl) rfl ?_
  refine gr_aload_n dX2_init_31 rfl ?_
  refine gr_sipush dX2_init_32 (by decide) ?_
  refine gr_newI (N := 150) dX2_init_35 aa_i rfl (Nat.le_of_ble_eq_true rfl) (by first | assumption | rfl) (gw_Bd_m (Nat.le_of_ble_eq_true rfl) (Nat.le_of_ble_eq_true rfl)) ?_
  refine gr_putR dX2_init_37 fX2_29 (fun _ => ⟨rfl, rfl⟩) (by first | assumption | rfl) (by omega) rfl rfl ?_
  refine gr_aload_n dX2_init_40 rfl ?_
  refine gr_iconst dX2_init_41 ?_
  refine gr_newI (N := 3) dX2_init_42 aa_i rfl (Nat.le_of_ble_eq_true rfl) (by first | assumption | rfl) (gw_Bd_m (Nat.le_of_ble_eq_true rfl) (Nat.le_of_ble_eq_true rfl)) ?_
  refine gr_putR dX2_init_44 fX2_33 (fun _ => ⟨rfl, rfl⟩) (by first | assumption | rfl) (by omega) rfl rfl ?_
  refine gr_aload_n dX2_init_47 rfl ?_
  refine gr_iconst dX2_init_48 ?_
  refine gr_putI dX2_init_49 fX2_36 (by first | assumption | rfl) (by omega) (Or.inl rfl) rfl ?_
  refine gr_aload_n dX2_init_52 rfl ?_
  refine gr_iconst dX2_init_53 ?_
  refine gr_putI dX2_init_54 fX2_39 (by first | assumption | rfl) (by omega) (Or.inl rfl) rfl ?_
  refine gr_aload_n dX2_init_57 rfl ?_
  refine gr_iconst dX2_init_58 ?_
  refine gr_putI dX2_init_59 fX2_42 (by first | assumption | rfl) (by omega) (Or.inl rfl) rfl ?_
  refine gr_aload_n dX2_init_62 rfl ?_
  refine gr_iconst dX2_init_63 ?_
  refine gr_putI dX2_init_64 fX2_45 (by first | assumption | rfl) (by omega) (Or.inl rfl) rfl ?_
  refine gr_aload_n dX2_init_67 rfl ?_
  refine gr_iconst dX2_init_68 ?_
  refine gr_putI dX2_init_69 fX2_48 (by first | assumption | rfl) (by omega) (Or.inr ⟨rfl, (by omega)⟩) rfl ?_
  refine gr_vret dX2_init_72 rfl (by decide) (by decide) ?_
  refine ⟨rfl, _, _, rfl, ⟨fun a ha => ?_, fun a ha => ?_⟩, ⟨?_, ?_, ?_, ?_, gb_K_c (F := F1) ?_ kb, gp_K_c (F := F2) ?_ kp⟩, ?_, fun r h1 h5 => ?_, ?_⟩
  · simp (disch := omega) only [gw_U_r, gw_Z_r, p1, o1]
  · simp (disch := omega) only [gw_U_r, gw_Z_r, p2, o2]
  · simp (disch := omega) only [gw_U_s, gw_U_n, gw_Z_r, p2]
  · simp (disch := omega) only [gw_U_s, gw_U_n, gw_Z_r, p2]
  · simp (disch := omega) only [gw_U_s, gw_U_n, gw_Z_r, p2]
  · simp (disch := omega) only [gw_U_s, gw_U_n, gw_Z_r, p2]
  · simp (disch := omega) only [gw_U_r, gw_Z_r, p2]
  · simp (disch := omega) only [gw_U_r, gw_Z_r]
  · simp (disch := omega) only [gw_U_s, gw_U_n, gw_Z_r]
  · simp (disch := omega) only [gw_U_r, gw_Z_r, p1, z1]
  · simp (disch := omega) only [gw_U_r, gw_Z_r]
    exact z2
end GI
