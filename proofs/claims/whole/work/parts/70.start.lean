/-- THE LAW, from its entry -/
theorem whole_start {p : Program} {e : Env} {s : State} {m : MethodId} {below : List Frame} {meth : Method} {c : Code} (l : Launch) (hflags : l.flags = flags0) {b L : Nat} {xs : Nat → Int32} (hL : L ≤ 2560) (C0 : lw_At p s m meth c b L xs) : W p l e room_1 s m #[Value.ref b] below meth c s.heap [] 0 0 (lw_Z below #[Value.ref b] s) (entryFrame m ([Value.ref b] : List Value).toArray 4) := by
  obtain ⟨hx, hb, hr, hml, hown, hts, hX, hbl, hlocks, hgv⟩ := id C0
  obtain ⟨E, hE, hK⟩ := lw_E hts
  have hY : lw_Y E p s m meth c b L xs := ⟨hx, hb, hml, hown, fun w hw => hts w (List.mem_filter.mp hw).1, hK, hX, hbl, hE, hL, hr, hlocks⟩
  have hl := lv_entry ([.ref b]) (n := 4) (Nat.le_of_ble_eq_true rfl)
  rw [lg_entry_eq]
  generalize (lg_sl ([.ref b]) ++ List.replicate (4 - (lg_sl ([.ref b])).length) Slot.unset).toArray = ls at hl ⊢
  have hl : lv_has ls 4 [(0, .ref b)] := hl
  have hP : gw_P E (0, fun _ _ => 0, fun _ _ => none) s.heap := ⟨hE, fun k hk => absurd hk (Nat.not_lt_zero k)⟩
  refine lw_newO hY dL_law_0 lL_7 gcX4 gdX4 rfl (Nat.le_of_ble_eq_true rfl) (Nat.le_of_ble_eq_true rfl) hP va_S.rf (fun H1 hP hS => ?_)
  refine lv_dup hx hb dL_law_3 rfl ?_
  refine lw_init (st := [.inr (some 0)]) hY dL_law_4 kL_9 (Nat.le_of_ble_eq_true rfl) (Nat.le_of_ble_eq_true rfl) (Nat.le_of_ble_eq_true rfl) (i_X4 6) hP hS hl.1 (fun v μ' H2 locs hv hP hS => ?_)
  obtain ⟨rfl, I1, F1, rfl, hC, hD, h0⟩ := hv
  refine lv_astore_n (x := gw_a E + 0) (lv' := [(1, .ref (gw_a E + 0)), (0, .ref b)]) hx hb dL_law_7 rfl hl (by decide) rfl (fun ls hl => ?_)
  refine lw_newO hY dL_law_8 lL_10 gcX5 gdX5 rfl (Nat.le_of_ble_eq_true rfl) (Nat.le_of_ble_eq_true rfl) hP hS (fun H1 hP hS => ?_)
  refine lv_dup hx hb dL_law_11 rfl ?_
  refine lw_init (st := [.inr (some 99)]) hY dL_law_12 kL_12 (Nat.le_of_ble_eq_true rfl) (Nat.le_of_ble_eq_true rfl) (Nat.le_of_ble_eq_true rfl) (i_X5 8 (by rw [gw_Z_s])) hP hS hl.1 (fun v μ' H2 locs hv hP hS => ?_)
  obtain ⟨rfl, I2, F2, rfl, ⟨o1, o2⟩, hK2, h⟩ := hv
  refine lv_astore_n (x := gw_a E + 99) (lv' := [(2, .ref (gw_a E + 99)), (1, .ref (gw_a E + 0)), (0, .ref b)]) hx hb dL_law_15 rfl hl (by decide) rfl (fun ls hl => ?_)
  refine lv_iconst (v := Int32.ofInt ((0 : Nat) : Int)) hx hb dL_law_16 rfl ?_
  refine lv_istore_n (lv' := [(3, .int (Int32.ofInt ((0 : Nat) : Int))), (2, .ref (gw_a E + 99)), (1, .ref (gw_a E + 0)), (0, .ref b)]) hx hb dL_law_17 rfl hl (by decide) rfl (fun ls hl => ?_)
  refine W.widen (k := 600000) (n := 7302250) (Nat.le_of_ble_eq_true rfl) (Nat.le_of_ble_eq_true rfl) ?_
  have hI : gl_I I2 F2 := gl_start hC hD h0 ⟨fun a ha => (o1 a ha).trans (gw_Z_r (by omega)), fun a ha => (o2 a ha).trans (gw_Z_r (by omega))⟩ hK2 h
  exact lw_loop hY L 0 I2 F2 (by omega) (by omega) hI _ _ ls hP hS (lv_sub hl [3, 2, 1, 0] rfl)
