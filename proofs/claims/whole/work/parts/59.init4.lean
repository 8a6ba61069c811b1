/-! CONSTRUCTORS: the reference -/
section GI
variable {I : Nat → Nat → Int} {F : Nat → Nat → Option Nat}
theorem i_X5 (d : Nat) (h13 : I 99 13 = 0) : gw_Met jX5_init (d + 1) [.inr (some 99)] (100, I, F) (gi_vo 114 (fun I' F' => gi_old I F I' F' 99 ∧ gm_K F' ∧ I' 99 0 = 0 ∧ I' 99 3 = 0 ∧ I' 99 7 = 0 ∧ I' 99 13 = 0 ∧ I' 101 0 = 0 ∧ I' 101 33 = 0 ∧ I' 101 34 = 5 ∧ I' 101 35 = 9 ∧ I' 103 0 = 0 ∧ I' 103 1 = 0)) := by
  generalize hQ : gi_vo 114 (fun I' F' => gi_old I F I' F' 99 ∧ gm_K F' ∧ I' 99 0 = 0 ∧ I' 99 3 = 0 ∧ I' 99 7 = 0 ∧ I' 99 13 = 0 ∧ I' 101 0 = 0 ∧ I' 101 33 = 0 ∧ I' 101 34 = 5 ∧ I' 101 35 = 9 ∧ I' 103 0 = 0 ∧ I' 103 1 = 0) = Q
  have key : ∀ (n u w : Nat) (J0 : Nat → Nat → Int) (F0 : Nat → Nat → Option Nat), n = 114 → u = 14 → w = 13268 → (∀ a, a < 99 → J0 a = I a) → (∀ a, a < 99 → F0 a = F a) → J0 99 13 = 0 → gm_K F0 → gw_G (gw_Cm jX5_init (d + 1) Q) jX5_init 120 [some (.inr (some 99))] [.inr (some 99)] (n, J0, F0) u w := by
    intro n u w J0 F0 hn hu hw hJ hF hz hK
    subst hn hu hw
    refine gr_virt dX5_init_120 kX5_53 (as := []) rfl rfl (by first | assumption | rfl) (by omega) (Nat.le_of_ble_eq_true rfl) (gw_Rm_m (by omega) (by decide) (by decide)) (m_begins d hK) ?_
    rintro _ _ ⟨rfl, J1, rfl, hJ1⟩
    refine gr_aload_n dX5_init_123 rfl ?_
    refine gr_virt dX5_init_124 kX5_56 (as := []) rfl rfl (by first | assumption | rfl) (by omega) (Nat.le_of_ble_eq_true rfl) (gw_Rm_m (by omega) (by decide) (by decide)) (m_becomes (P := 0) d hK (by rw [hJ1, if_pos (by omega)]; rfl) (by omega)) ?_
    rintro _ _ ⟨rfl, J2, rfl, hJ2⟩
    refine gr_vret dX5_init_127 rfl (by decide) (by decide) ?_
    rw [← hQ]
    refine ⟨rfl, J2, F0, rfl, ⟨fun a ha => ?_, hF⟩, hK, ?_, ?_, ?_, ?_, ?_, ?_, ?_, ?_, ?_, ?_⟩
    · funext y
      rw [hJ2, if_neg (by omega), if_neg (by omega), if_neg (by omega), if_neg (by omega), if_neg (by omega), if_neg (by omega), hJ1, if_neg (by omega), if_neg (by omega), hJ a ha]
    · rw [hJ2, if_pos (by omega)]; rfl
    · rw [hJ2, if_neg (by omega), if_pos (by omega)]
    · rw [hJ2, if_neg (by omega), if_pos (by omega)]
    · rw [hJ2, if_neg (by omega), if_neg (by omega), if_neg (by omega), if_neg (by omega), if_neg (by omega), if_neg (by omega), hJ1, if_neg (by omega), if_neg (by omega), hz]
    · rw [hJ2, if_neg (by omega), if_neg (by omega), if_neg (by omega), if_neg (by omega), if_pos (by omega), hJ1, if_neg (by omega), if_pos (by omega), if_neg (by omega), if_neg (by omega)]
    · rw [hJ2, if_neg (by omega), if_neg (by omega), if_neg (by omega), if_pos (by omega)]; rfl
    · rw [hJ2, if_neg (by omega), if_neg (by omega), if_neg (by omega), if_neg (by omega), if_pos (by omega), hJ1, if_neg (by omega), if_pos (by omega), if_pos (by omega)]
    · rw [hJ2, if_neg (by omega), if_neg (by omega), if_neg (by omega), if_neg (by omega), if_pos (by omega), hJ1, if_neg (by omega), if_pos (by omega), if_neg (by omega), if_pos (by omega)]
    · rw [hJ2, if_neg (by omega), if_neg (by omega), if_neg (by omega), if_neg (by omega), if_neg (by omega), if_pos (by omega)]
    · rw [hJ2, if_neg (by omega), if_neg (by omega), if_neg (by omega), if_neg (by omega), if_neg (by omega), if_pos (by omega)]
  refine gw_enter okX5_init rfl (Nat.le_of_ble_eq_true rfl) ?_
  refine gr_aload_n dX5_init_0 rfl ?_
  refine gr_obj dX5_init_1 oX5_1 oo_1 oo_2 (Nat.le_of_ble_eq_true rfl) (gi_Rm (by omega)) ?_
  refine gr_aload_n dX5_init_4 rfl ?_
  refine gr_bipush dX5_init_5 (by decide) ?_
  refine gr_newI (N := 20) dX5_init_7 aa_i rfl (Nat.le_of_ble_eq_true rfl) (by first | assumption | rfl) (gw_Bd_m (Nat.le_of_ble_eq_true rfl) (Nat.le_of_ble_eq_true rfl)) ?_
  refine gr_putR dX5_init_9 fX5_7 (fun _ => ⟨rfl, rfl⟩) (by first | assumption | rfl) (by omega) rfl rfl ?_
  refine gr_aload_n dX5_init_12 rfl ?_
  refine gr_bipush dX5_init_13 (by decide) ?_
  refine gr_newI (N := 36) dX5_init_15 aa_i rfl (Nat.le_of_ble_eq_true rfl) (by first | assumption | rfl) (gw_Bd_m (Nat.le_of_ble_eq_true rfl) (Nat.le_of_ble_eq_true rfl)) ?_
  refine gr_putR dX5_init_17 fX5_13 (fun _ => ⟨rfl, rfl⟩) (by first | assumption | rfl) (by omega) rfl rfl ?_
  refine gr_aload_n dX5_init_20 rfl ?_
  refine gr_sipush dX5_init_21 (by decide) ?_
  refine gr_newI (N := 360) dX5_init_24 aa_i rfl (Nat.le_of_ble_eq_true rfl) (by first | assumption | rfl) (gw_Bd_m (Nat.le_of_ble_eq_true rfl) (Nat.le_of_ble_eq_true rfl)) ?_
  refine gr_putR dX5_init_26 fX5_16 (fun _ => ⟨rfl, rfl⟩) (by first | assumption | rfl) (by omega) rfl rfl ?_
  refine gr_aload_n dX5_init_29 rfl ?_
  refine gr_iconst dX5_init_30 ?_
  refine gr_newZ (N := 2) dX5_init_31 aa_z rfl (Nat.le_of_ble_eq_true rfl) (by first | assumption | rfl) (gw_Bd_m (Nat.le_of_ble_eq_true rfl) (Nat.le_of_ble_eq_true rfl)) ?_
  refine gr_putR dX5_init_33 fX5_19 (fun _ => ⟨rfl, rfl⟩) (by first | assumption | rfl) (by omega) rfl rfl ?_
  refine gr_aload_n dX5_init_36 rfl ?_
  refine gr_bipush dX5_init_37 (by decide) ?_
  refine gr_newI (N := 72) dX5_init_39 aa_i rfl (Nat.le_of_ble_eq_true rfl) (by first | assumption | rfl) (gw_Bd_m (Nat.le_of_ble_eq_true rfl) (Nat.le_of_ble_eq_true rfl)) ?_
  refine gr_putR dX5_init_41 fX5_23 (fun _ => ⟨rfl, rfl⟩) (by first | assumption | rfl) (by omega) rfl rfl ?_
  refine gr_aload_n dX5_init_44 rfl ?_
  refine gr_bipush dX5_init_45 (by decide) ?_
  refine gr_newI (N := 6) dX5_init_47 aa_i rfl (Nat.le_of_ble_eq_true rfl) (by first | assumption | rfl) (gw_Bd_m (Nat.le_of_ble_eq_true rfl) (Nat.le_of_ble_eq_true rfl)) ?_
  refine gr_putR dX5_init_49 fX5_26 (fun _ => ⟨rfl, rfl⟩) (by first | assumption | rfl) (by omega) rfl rfl ?_
  refine gr_aload_n dX5_init_52 rfl ?_
  refine gr_bipush dX5_init_53 (by decide) ?_
  refine gr_newI (N := 6) dX5_init_55 aa_i rfl (Nat.le_of_ble_eq_true rfl) (by first | assumption | rfl) (gw_Bd_m (Nat.le_of_ble_eq_true rfl) (Nat.le_of_ble_eq_true rfl)) ?_
  refine gr_putR dX5_init_57 fX5_29 (fun _ => ⟨rfl, rfl⟩) (by first | assumption | rfl) (by omega) rfl rfl ?_
  refine gr_aload_n dX5_init_60 rfl ?_
  refine gr_bipush dX5_init_61 (by decide) ?_
  refine gr_newI (N := 20) dX5_init_63 aa_i rfl (Nat.le_of_ble_eq_true rfl) (by first | assumption | rfl) (gw_Bd_m (Nat.le_of_ble_eq_true rfl) (Nat.le_of_ble_eq_true rfl)) ?_
  refine gr_putR dX5_init_65 fX5_32 (fun _ => ⟨rfl, rfl⟩) (by first | assumption | rfl) (by omega) rfl rfl ?_
  refine gr_aload_n dX5_init_68 rfl ?_
  refine gr_bipush dX5_init_69 (by decide) ?_
  refine gr_newI (N := 36) dX5_init_71 aa_i rfl (Nat.le_of_ble_eq_true rfl) (by first | assumption | rfl) (gw_Bd_m (Nat.le_of_ble_eq_true rfl) (Nat.le_of_ble_eq_true rfl)) ?_
  refine gr_putR dX5_init_73 fX5_35 (fun _ => ⟨rfl, rfl⟩) (by first | assumption | rfl) (by omega) rfl rfl ?_
  refine gr_aload_n dX5_init_76 rfl ?_
  refine gr_sipush dX5_init_77 (by decide) ?_
  refine gr_newI (N := 150) dX5_init_80 aa_i rfl (Nat.le_of_ble_eq_true rfl) (by first | assumption | rfl) (gw_Bd_m (Nat.le_of_ble_eq_true rfl) (Nat.le_of_ble_eq_true rfl)) ?_
  refine gr_putR dX5_init_82 fX5_38 (fun _ => ⟨rfl, rfl⟩) (by first | assumption | rfl) (by omega) rfl rfl ?_
  refine gr_aload_n dX5_init_85 rfl ?_
  refine gr_sipush dX5_init_86 (by decide) ?_
  refine gr_newI (N := 6272) dX5_init_89 aa_i rfl (Nat.le_of_ble_eq_true rfl) (by first | assumption | rfl) (gw_Bd_m (Nat.le_of_ble_eq_true rfl) (Nat.le_of_ble_eq_true rfl)) ?_
  refine gr_putR dX5_init_91 fX5_41 (fun _ => ⟨rfl, rfl⟩) (by first | assumption | rfl) (by omega) rfl rfl ?_
  refine gr_aload_n dX5_init_94 rfl ?_
  refine gr_bipush dX5_init_95 (by decide) ?_
  refine gr_newI (N := 8) dX5_init_97 aa_i rfl (Nat.le_of_ble_eq_true rfl) (by first | assumption | rfl) (gw_Bd_m (Nat.le_of_ble_eq_true rfl) (Nat.le_of_ble_eq_true rfl)) ?_
  refine gr_putR dX5_init_99 fX5_44 (fun _ => ⟨rfl, rfl⟩) (by first | assumption | rfl) (by omega) rfl rfl ?_
  refine gr_aload_n dX5_init_102 rfl ?_
  refine gr_sipush dX5_init_103 (by decide) ?_
  refine gr_newI (N := 6272) dX5_init_106 aa_i rfl (Nat.le_of_ble_eq_true rfl) (by first | assumption | rfl) (gw_Bd_m (Nat.le_of_ble_eq_true rfl) (Nat.le_of_ble_eq_true rfl)) ?_
  refine gr_putR dX5_init_108 fX5_47 (fun _ => ⟨rfl, rfl⟩) (by first | assumption | rfl) (by omega) rfl rfl ?_
  refine gr_aload_n dX5_init_111 rfl ?_
  refine gr_bipush dX5_init_112 (by decide) ?_
  refine gr_newI (N := 8) dX5_init_114 aa_i rfl (Nat.le_of_ble_eq_true rfl) (by first | assumption | rfl) (gw_Bd_m (Nat.le_of_ble_eq_true rfl) (Nat.le_of_ble_eq_true rfl)) ?_
  refine gr_putR dX5_init_116 fX5_50 (fun _ => ⟨rfl, rfl⟩) (by first | assumption | rfl) (by omega) rfl rfl ?_
  refine gr_aload_n dX5_init_119 rfl ?_
  refine key _ _ _ _ _ rfl rfl rfl (fun a ha => ?_) (fun a ha => ?_) ?_ ⟨?_, ?_, ?_, ?_, ?_, ?_, ?_, ?_, ?_, ?_, ?_, ?_, ?_, ?_⟩
  · simp (disch := omega) only [gw_U_r, gw_Z_r]
  · simp (disch := omega) only [gw_U_r, gw_Z_r]
  · simp (disch := omega) only [gw_U_n, gw_Z_r, h13]
  · simp (disch := omega) only [gw_U_s, gw_U_n, gw_Z_r]
  · simp (disch := omega) only [gw_U_s, gw_U_n, gw_Z_r]
  · simp (disch := omega) only [gw_U_s, gw_U_n, gw_Z_r]
  · simp (disch := omega) only [gw_U_s, gw_U_n, gw_Z_r]
  · simp (disch := omega) only [gw_U_s, gw_U_n, gw_Z_r]
  · simp (disch := omega) only [gw_U_s, gw_U_n, gw_Z_r]
  · simp (disch := omega) only [gw_U_s, gw_U_n, gw_Z_r]
  · simp (disch := omega) only [gw_U_s, gw_U_n, gw_Z_r]
  · simp (disch := omega) only [gw_U_s, gw_U_n, gw_Z_r]
  · simp (disch := omega) only [gw_U_s, gw_U_n, gw_Z_r]
  · simp (disch := omega) only [gw_U_s, gw_U_n, gw_Z_r]
  · simp (disch := omega) only [gw_U_s, gw_U_n, gw_Z_r]
  · simp (disch := omega) only [gw_U_s, gw_U_n, gw_Z_r]
  · simp (disch := omega) only [gw_U_s, gw_U_n, gw_Z_r]
end GI
