/-! CONSTRUCTORS: Search -/
theorem gi_sh7 : ∀ i, i < 32 → gw_sh (22 + i) = (10, 7) := by decide
theorem gi_sh784 : ∀ i, i < 8 → gw_sh (56 + i) = (10, 784) := by decide
section GI
variable {I : Nat → Nat → Int} {F : Nat → Nat → Option Nat}
theorem i_X3 (d : Nat) : gw_Met jX3_init (d + 2) [.inr (some 12)] (13, I, F) (gi_vo 70 (fun I' F' => gi_old I F I' F' 12 ∧ gq_K F' ∧ I' 13 0 = 0 ∧ (∀ r, 1 ≤ r → r ≤ 5 → I' (13 + r) = fun _ => 0) ∧ I' 19 0 = 0 ∧ I' 19 1 = 0 ∧ I' 19 2 = 5 ∧ I' 19 3 = 9 ∧ I' 20 = fun _ => 0)) := by
  refine gw_enter okX3_init rfl (Nat.le_of_ble_eq_true rfl) ?_
  refine gr_aload_n dX3_init_0 rfl ?_
  refine gr_obj dX3_init_1 oX3_3 oo_1 oo_2 (Nat.le_of_ble_eq_true rfl) (gi_Rm (by omega)) ?_
  refine gr_aload_n dX3_init_4 rfl ?_
  refine gr_newO dX3_init_5 lX3_9 gcX0 gdX0 (by first | assumption | rfl) (gw_Bd_m (Nat.le_of_ble_eq_true rfl) (Nat.le_of_ble_eq_true rfl)) ?_
  refine gr_dup dX3_init_8 ?_
  refine gr_initN dX3_init_9 kX3_11 (as := []) rfl rfl (Nat.le_of_ble_eq_true rfl) (gw_Rm_m (by omega) (by decide) (by decide)) (i_X0 (b := 13) d (by omega) rfl rfl rfl rfl rfl rfl) ?_
  rintro _ _ ⟨rfl, I1, F1, rfl, ⟨o1, o2⟩, kb, y0, -, z1⟩
  refine gr_putR dX3_init_12 fX3_12 (fun _ => ⟨rfl, rfl⟩) (by first | assumption | rfl) (by omega) rfl rfl ?_
  refine gr_aload_n dX3_init_15 rfl ?_
  refine gr_newO dX3_init_16 lX3_18 gcX1 gdX1 (by first | assumption | rfl) (gw_Bd_m (Nat.le_of_ble_eq_true rfl) (Nat.le_of_ble_eq_true rfl)) ?_
  refine gr_dup dX3_init_19 ?_
  refine gr_initN dX3_init_20 kX3_20 (as := []) rfl rfl (Nat.le_of_ble_eq_true rfl) (gw_Rm_m (by omega) (by decide) (by decide)) (i_X1 (k := 19) d (by omega) rfl rfl) ?_
  rintro _ _ ⟨rfl, I2, F2, rfl, ⟨p1, p2⟩, kp, w0, w1, w2, w3, z2⟩
  refine gr_putR dX3_init_23 fX3_21 (fun _ => ⟨rfl, rfl⟩) (by first | assumption | rfl) (by omega) rfl rfl ?_
  refine gr_aload_n dX3_init_26 rfl ?_
  refine gr_iconst dX3_init_27 ?_
  refine gr_putI dX3_init_28 fX3_25 (by first | assumption | rfl) (by omega) (Or.inl rfl) rfl ?_
  refine gr_aload_n dX3_init_31 rfl ?_
  refine gr_bipush dX3_init_32 (by decide) ?_
  refine gr_bipush dX3_init_34 (by decide) ?_
  refine gr_newG (N := 32) (K := 7) dX3_init_36 lX3_29 aa_i rfl rfl (Nat.le_of_ble_eq_true rfl) (Nat.le_of_ble_eq_true rfl) (by first | assumption | rfl) gi_sh7 (gw_Bd_m (Nat.le_of_ble_eq_true rfl) (Nat.le_of_ble_eq_true rfl)) ?_
  intro I3 F3 a1 a2 a3 _
  have a3 : ∀ i, i < 32 → F3 21 i = some (22 + i) := a3
  refine gr_putR dX3_init_40 fX3_31 (fun _ => ⟨rfl, rfl⟩) (by first | assumption | rfl) (by omega) rfl rfl ?_
  refine gr_aload_n dX3_init_43 rfl ?_
  refine gr_bipush dX3_init_44 (by decide) ?_
  refine gr_newI (N := 32) dX3_init_46 aa_i rfl (Nat.le_of_ble_eq_true rfl) (by first | assumption | rfl) (gw_Bd_m (Nat.le_of_ble_eq_true rfl) (Nat.le_of_ble_eq_true rfl)) ?_
  refine gr_putR dX3_init_48 fX3_34 (fun _ => ⟨rfl, rfl⟩) (by first | assumption | rfl) (by omega) rfl rfl ?_
  refine gr_aload_n dX3_init_51 rfl ?_
  refine gr_bipush dX3_init_52 (by decide) ?_
  refine gr_sipush dX3_init_54 (by decide) ?_
  refine gr_newG (N := 8) (K := 784) dX3_init_57 lX3_29 aa_i rfl rfl (Nat.le_of_ble_eq_true rfl) (Nat.le_of_ble_eq_true rfl) (by first | assumption | rfl) gi_sh784 (gw_Bd_m (Nat.le_of_ble_eq_true rfl) (Nat.le_of_ble_eq_true rfl)) ?_
  intro I4 F4 b1 b2 b3 _
  have b3 : ∀ i, i < 8 → F4 55 i = some (56 + i) := b3
  refine gr_putR dX3_init_61 fX3_38 (fun _ => ⟨rfl, rfl⟩) (by first | assumption | rfl) (by omega) rfl rfl ?_
  refine gr_aload_n dX3_init_64 rfl ?_
  refine gr_sipush dX3_init_65 (by decide) ?_
  refine gr_newI (N := 784) dX3_init_68 aa_i rfl (Nat.le_of_ble_eq_true rfl) (by first | assumption | rfl) (gw_Bd_m (Nat.le_of_ble_eq_true rfl) (Nat.le_of_ble_eq_true rfl)) ?_
  refine gr_putR dX3_init_70 fX3_41 (fun _ => ⟨rfl, rfl⟩) (by first | assumption | rfl) (by omega) rfl rfl ?_
  refine gr_aload_n dX3_init_73 rfl ?_
  refine gr_bipush dX3_init_74 (by decide) ?_
  refine gr_newI (N := 7) dX3_init_76 aa_i rfl (Nat.le_of_ble_eq_true rfl) (by first | assumption | rfl) (gw_Bd_m (Nat.le_of_ble_eq_true rfl) (Nat.le_of_ble_eq_true rfl)) ?_
  refine gr_putR dX3_init_78 fX3_44 (fun _ => ⟨rfl, rfl⟩) (by first | assumption | rfl) (by omega) rfl rfl ?_
  refine gr_aload_n dX3_init_81 rfl ?_
  refine gr_sipush dX3_init_82 (by decide) ?_
  refine gr_newI (N := 784) dX3_init_85 aa_i rfl (Nat.le_of_ble_eq_true rfl) (by first | assumption | rfl) (gw_Bd_m (Nat.le_of_ble_eq_true rfl) (Nat.le_of_ble_eq_true rfl)) ?_
  refine gr_putR dX3_init_87 fX3_47 (fun h => by cases h) (by first | assumption | rfl) (by omega) rfl rfl ?_
  refine gr_aload_n dX3_init_90 rfl ?_
  refine gr_sipush dX3_init_91 (by decide) ?_
  refine gr_newI (N := 784) dX3_init_94 aa_i rfl (Nat.le_of_ble_eq_true rfl) (by first | assumption | rfl) (gw_Bd_m (Nat.le_of_ble_eq_true rfl) (Nat.le_of_ble_eq_true rfl)) ?_
  refine gr_putR dX3_init_96 fX3_50 (fun h => by cases h) (by first | assumption | rfl) (by omega) rfl rfl ?_
  refine gr_aload_n dX3_init_99 rfl ?_
  refine gr_bipush dX3_init_100 (by decide) ?_
  refine gr_newI (N := 9) dX3_init_102 aa_i rfl (Nat.le_of_ble_eq_true rfl) (by first | assumption | rfl) (gw_Bd_m (Nat.le_of_ble_eq_true rfl) (Nat.le_of_ble_eq_true rfl)) ?_
  refine gr_putR dX3_init_104 fX3_53 (fun _ => ⟨rfl, rfl⟩) (by first | assumption | rfl) (by omega) rfl rfl ?_
  refine gr_aload_n dX3_init_107 rfl ?_
  refine gr_bipush dX3_init_108 (by decide) ?_
  refine gr_newI (N := 32) dX3_init_110 aa_i rfl (Nat.le_of_ble_eq_true rfl) (by first | assumption | rfl) (gw_Bd_m (Nat.le_of_ble_eq_true rfl) (Nat.le_of_ble_eq_true rfl)) ?_
  refine gr_putR dX3_init_112 fX3_56 (fun _ => ⟨rfl, rfl⟩) (by first | assumption | rfl) (by omega) rfl rfl ?_
  refine gr_vret dX3_init_115 rfl (by decide) (by decide) ?_
  have kp : gp_K F2 19 := kp
  have z2 : I2 20 = fun _ => 0 := z2
  refine ⟨rfl, _, _, rfl, ⟨fun a ha => ?_, fun a ha => ?_⟩, ⟨?_, ?_, ?_, ?_, ?_, ?_, ?_, ?_, ?_, ?_, ?_, fun i hi => ?_, fun i hi => ?_, gb_K_c (F := F1) ?_ kb, gp_K_c (F := F2) ?_ kp⟩, ?_, fun r h1 h5 => ?_, ?_, ?_, ?_, ?_, ?_⟩
  · simp (disch := omega) only [gw_U_r, gw_Z_r, b1, a1, p1, o1]
  · simp (disch := omega) only [gw_U_r, gw_Z_r, b2, a2, p2, o2]
  · simp (disch := omega) only [gw_U_s, gw_U_n, gw_Z_r, b2, a2, p2]
  · simp (disch := omega) only [gw_U_s, gw_U_n, gw_Z_r, b2, a2, p2]
  · simp (disch := omega) only [gw_U_s, gw_U_n, gw_Z_r, b2, a2, p2]
  · simp (disch := omega) only [gw_U_s, gw_U_n, gw_Z_r, b2, a2, p2]
  · simp (disch := omega) only [gw_U_s, gw_U_n, gw_Z_r, b2, a2, p2]
  · simp (disch := omega) only [gw_U_s, gw_U_n, gw_Z_r, b2, a2, p2]
  · simp (disch := omega) only [gw_U_s, gw_U_n, gw_Z_r, b2, a2, p2]
  · simp (disch := omega) only [gw_U_s, gw_U_n, gw_Z_r, b2, a2, p2]
  · simp (disch := omega) only [gw_U_s, gw_U_n, gw_Z_r, b2, a2, p2]
  · simp (disch := omega) only [gw_U_s, gw_U_n, gw_Z_r, b2, a2, p2]
  · simp (disch := omega) only [gw_U_s, gw_U_n, gw_Z_r, b2, a2, p2]
  · simp (disch := omega) only [gw_U_n, gw_Z_r, b2, a3]
  · simp (disch := omega) only [gw_U_n, gw_Z_r, b3]
  · simp (disch := omega) only [gw_U_r, gw_Z_r, b2, a2, p2]
  · simp (disch := omega) only [gw_U_r, gw_Z_r, b2, a2]
  · simp (disch := omega) only [gw_U_n, gw_Z_r, b1, a1, p1, y0]
  · simp (disch := omega) only [gw_U_r, gw_Z_r, b1, a1, p1, z1]
  · simp (disch := omega) only [gw_U_n, gw_Z_r, b1, a1]
    exact w0
  · simp (disch := omega) only [gw_U_n, gw_Z_r, b1, a1]
    exact w1
  · simp (disch := omega) only [gw_U_n, gw_Z_r, b1, a1]
    exact w2
  · simp (disch := omega) only [gw_U_n, gw_Z_r, b1, a1]
    exact w3
  · simp (disch := omega) only [gw_U_r, gw_Z_r, b1, a1]
    exact z2
end GI
