/-! THE LAW: its instructions -/
def lw_Y (E : gw_E) (p : Program) (s : State) (m : MethodId) (meth : Method) (c : Code) (b L : Nat) (xs : Nat → Int32) : Prop := p.tables.exec = Jvm.exec ∧ c.code = cL_law ∧ c.maxLocals = 4 ∧ s.vm.findClass RL = some m.cls ∧ (∀ w ∈ gw_Tb, w.before #[Value.ref b] s = true) ∧ gw_K E s ∧ va_X b L xs s s.heap ∧ b < s.heap.size ∧ s.heap.size = gw_a E ∧ L ≤ 2560 ∧ meth.sig.returnType = ret ∧ meth.locks = false
abbrev lw_ls (E : gw_E) (b i : Nat) : List (Nat × Value) := [(0, .ref b), (1, .ref (gw_a E + 0)), (2, .ref (gw_a E + 99)), (3, .int (Int32.ofInt (i : Int)))]
/-- the law at pc, its counter i, with stack st and memory μ, comes to its end with true -/
def lw_g (E : gw_E) (p : Program) (l : Launch) (e : Env) (s : State) (m : MethodId) (below : List Frame) (meth : Method) (c : Code) (b pc i : Nat) (st : List gw_V) (μ : gw_M) : Prop :=
  ∀ (H : Heap) (locs : List Loc) (lsA : Array Slot), gw_P E μ H → va_S (gw_A E) s.heap H locs → lv_has lsA 4 (lw_ls E b i) → W p l e room_1 s m #[Value.ref b] below meth c H locs 600000 7302250 (lw_Z below #[Value.ref b] s) (F0 m pc lsA (st.map (gw_val (gw_a E))))
section LW
variable {E : gw_E} {p : Program} {l : Launch} {e : Env} {s : State} {m : MethodId} {below : List Frame} {meth : Method} {c : Code} {b L : Nat} {xs : Nat → Int32} {pc i : Nat} {st : List gw_V} {μ : gw_M}
theorem lw_al1 (hY : lw_Y E p s m meth c b L xs) (hd : decode cL_law pc = .ok (.aload_n 1, 1)) (k : lw_g E p l e s m below meth c b (pc + 1) i (.inr (some 0) :: st) μ) : lw_g E p l e s m below meth c b pc i st μ := by
  intro H locs lsA hP hS hl
  exact lv_aload_n hY.1 hY.2.1 hd rfl (lv_at hl 1 rfl) (k H locs lsA hP hS hl)
theorem lw_al2 (hY : lw_Y E p s m meth c b L xs) (hd : decode cL_law pc = .ok (.aload_n 2, 1)) (k : lw_g E p l e s m below meth c b (pc + 1) i (.inr (some 99) :: st) μ) : lw_g E p l e s m below meth c b pc i st μ := by
  intro H locs lsA hP hS hl
  exact lv_aload_n hY.1 hY.2.1 hd rfl (lv_at hl 2 rfl) (k H locs lsA hP hS hl)
theorem lw_bA (hY : lw_Y E p s m meth c b L xs) : ¬ gw_A E b := by
  show ¬ gw_a E ≤ b
  have h1 := hY.2.2.2.2.2.2.2.1
  have h2 := hY.2.2.2.2.2.2.2.2.1
  omega
theorem lw_vl (x : Int32) (st : List gw_V) : (.inl x.toInt :: st : List gw_V).map (gw_val (gw_a E)) = .int x :: st.map (gw_val (gw_a E)) := by
  show Value.int (Int32.ofInt x.toInt) :: _ = _
  rw [gw_ofInt]
/-- script[i + n] -/
theorem lw_rd {n : Int} (k : Nat) (hY : lw_Y E p s m meth c b L xs) (h0 : decode cL_law pc = .ok (.aload_n 0, 1)) (h1 : decode cL_law (pc + 1) = .ok (.iload_n 3, 1)) (h2 : decode cL_law (pc + 2) = .ok (.iconst n, 1)) (h3 : decode cL_law (pc + 3) = .ok (.iadd, 1)) (h4 : decode cL_law (pc + 4) = .ok (.iaload, 1)) (hn : n = (k : Int)) (hk : i + k < L) (kk : lw_g E p l e s m below meth c b (pc + 5) i (.inl (xs (i + k)).toInt :: st) μ) : lw_g E p l e s m below meth c b pc i st μ := by
  intro H locs lsA hP hS hl
  have kk := kk H locs lsA hP hS hl
  rw [lw_vl] at kk
  have hL := hY.2.2.2.2.2.2.2.2.2.1
  refine lv_aload_n hY.1 hY.2.1 h0 rfl (lv_at hl 0 rfl) ?_
  refine lv_iload_n hY.1 hY.2.1 h1 rfl (lv_at hl 3 rfl) ?_
  refine lv_iconst (v := Int32.ofInt n) hY.1 hY.2.1 h2 rfl ?_
  refine lv_iadd hY.1 hY.2.1 h3 ?_
  rw [← Int32.ofInt_add]
  obtain ⟨q1, q2⟩ := gw_nat (x := (i : Int) + n) (i := i + k) (n := L) (by omega) hk (by omega)
  refine va_sld (A := gw_A E) hY.1 hY.2.1 hY.2.2.2.2.2.2.1 hY.2.2.2.2.2.2.2.1 (lw_bA hY) hS q1 h4 ?_
  rw [q2]
  exact kk
theorem lw_rd0 (hY : lw_Y E p s m meth c b L xs) (h0 : decode cL_law pc = .ok (.aload_n 0, 1)) (h1 : decode cL_law (pc + 1) = .ok (.iload_n 3, 1)) (h4 : decode cL_law (pc + 2) = .ok (.iaload, 1)) (hk : i < L) (kk : lw_g E p l e s m below meth c b (pc + 3) i (.inl (xs i).toInt :: st) μ) : lw_g E p l e s m below meth c b pc i st μ := by
  intro H locs lsA hP hS hl
  have kk := kk H locs lsA hP hS hl
  rw [lw_vl] at kk
  have hL := hY.2.2.2.2.2.2.2.2.2.1
  refine lv_aload_n hY.1 hY.2.1 h0 rfl (lv_at hl 0 rfl) ?_
  refine lv_iload_n hY.1 hY.2.1 h1 rfl (lv_at hl 3 rfl) ?_
  obtain ⟨q1, q2⟩ := gw_nat (x := (i : Int)) (i := i) (n := L) rfl hk (by omega)
  refine va_sld (A := gw_A E) hY.1 hY.2.1 hY.2.2.2.2.2.2.1 hY.2.2.2.2.2.2.2.1 (lw_bA hY) hS q1 h4 ?_
  rw [q2]
  exact kk
theorem lw_bi {n : Int} (hY : lw_Y E p s m meth c b L xs) (hd : decode cL_law pc = .ok (.bipush n, 2)) (hn : (Int8.ofInt n).toInt32 = Int32.ofInt n) (k : lw_g E p l e s m below meth c b (pc + 2) i (.inl n :: st) μ) : lw_g E p l e s m below meth c b pc i st μ := by
  intro H locs lsA hP hS hl
  exact lv_bipush hY.1 hY.2.1 hd hn (k H locs lsA hP hS hl)
theorem lw_an {x y v : Int} (hY : lw_Y E p s m meth c b L xs) (hd : decode cL_law pc = .ok (.iand, 1)) (hv : Int32.ofInt x &&& Int32.ofInt y = Int32.ofInt v) (k : lw_g E p l e s m below meth c b (pc + 1) i (.inl v :: st) μ) : lw_g E p l e s m below meth c b pc i (.inl y :: .inl x :: st) μ := by
  intro H locs lsA hP hS hl
  refine lv_iand hY.1 hY.2.1 hd ?_
  rw [hv]
  exact k H locs lsA hP hS hl
theorem lw_tabIn {dflt lo hi off x : Int} {offs : Array Int} {len : Nat} (tgt : Nat) (hY : lw_Y E p s m meth c b L xs) (hd : decode cL_law pc = .ok (.tableswitch dflt lo hi offs, len)) (hx : gw_in x) (h1 : lo ≤ x) (h2 : x ≤ hi) (ho : offs[(x - lo).toNat]? = some off) (ht : (pc : Int) + off = (tgt : Int)) (k : lw_g E p l e s m below meth c b tgt i st μ) : lw_g E p l e s m below meth c b pc i (.inl x :: st) μ := by
  intro H locs lsA hP hS hl
  exact lv_tableIn hY.1 hY.2.1 hd (by rw [gw_toInt hx]; omega) (by rw [gw_toInt hx]; omega) (by rw [gw_toInt hx]; exact ho) ht (k H locs lsA hP hS hl)
theorem lw_tabOut {dflt lo hi x : Int} {offs : Array Int} {len : Nat} (tgt : Nat) (hY : lw_Y E p s m meth c b L xs) (hd : decode cL_law pc = .ok (.tableswitch dflt lo hi offs, len)) (hx : gw_in x) (h : x < lo ∨ hi < x) (ht : (pc : Int) + dflt = (tgt : Int)) (k : lw_g E p l e s m below meth c b tgt i st μ) : lw_g E p l e s m below meth c b pc i (.inl x :: st) μ := by
  intro H locs lsA hP hS hl
  exact lv_tableOut hY.1 hY.2.1 hd (by rw [gw_toInt hx]; exact h) ht (k H locs lsA hP hS hl)
theorem lw_eq {r off : Int} (tgt : Nat) (hY : lw_Y E p s m meth c b L xs) (hd : decode cL_law pc = .ok (.if_icmp .eq off, 3)) (ht : (pc : Int) + off = (tgt : Int)) (k : lw_g E p l e s m below meth c b tgt i st μ) : lw_g E p l e s m below meth c b pc i (.inl r :: .inl r :: st) μ := by
  intro H locs lsA hP hS hl
  exact lv_icmp_eq hY.1 hY.2.1 hd ht (fun _ => k H locs lsA hP hS hl) (fun h => absurd rfl h)
/-- a call -/
theorem lw_call {idx n ci q N : Nat} {j' : gw_J} {as st0 : List gw_V} {Q' : Option gw_V → gw_M → Prop} (hY : lw_Y E p s m meth c b L xs) (hd : decode cL_law pc = .ok (.invokevirtual idx, 3)) (hc : gw_CV RL idx j' n ci) (h0 : j'.2.2.2.2 = (0, 0)) (hst : as.reverse ++ .inr (some q) :: st = st0) (has : as.length = n) (hq : gw_sh q = (ci, N)) (hqn : q < μ.1) (hlen : st.length ≤ 8) (hM : gw_Met j' 9 (.inr (some q) :: as) μ Q')
    (kk : ∀ v μ', Q' v μ' → lw_g E p l e s m below meth c b (pc + 3) i (v.toList ++ st) μ') : lw_g E p l e s m below meth c b pc i st0 μ := by
  intro H locs lsA hP hS hL
  subst hst
  obtain ⟨hok, hl, hi, hs, hn, hv, h6⟩ := hc
  have hts := hY.2.2.2.2.1
  have hK := hY.2.2.2.2.2.1
  have hat := hP.2 q hqn
  rw [hq] at hat
  rw [gw_cell_o h6] at hat
  obtain ⟨r, hr1, cell, g1, g2, g3, -⟩ := hat
  rw [hr1] at hv
  have hv : r.1 = j'.1.cls := Option.some.inj hv
  have hcl := (hK.1.1 ci r hr1).2.1
  rw [hv] at hcl
  have hpre := gw_pre (vs := .inr (some q) :: as) hP hK
  have z1 : j'.2.2.2.2.1 = 0 := by rw [h0]
  have z2 : j'.2.2.2.2.2 = 0 := by rw [h0]
  refine gw_go (va_runV (As := as.map (gw_val (gw_a E))) (rest := st.map (gw_val (gw_a E))) (b := gw_a E + q) (C := j'.1.cls) (nL := 4) (Ts := gw_Tb) ⟨hY.1, hY.2.1, hY.2.2.1, hY.2.2.2.1, hts⟩ (hM l E) ⟨gw_cb (E := E) hok hl hn hts (Nat.le_of_ble_eq_true rfl) (Nat.le_of_ble_eq_true rfl), hts _ hi, hts _ hs⟩ ⟨hpre.1, ⟨cell, g1, by rw [g3]; rfl, by rw [g2]; exact hcl⟩, hpre.2⟩ rfl (by simpa using has) hL.1 ?_ (gw_hW hlen) hd ⟨by rw [z1]; exact Nat.le_refl _, by rw [z2]; exact Nat.le_refl _⟩) hS fun v μ' H1 locs1 hq' hP1 hS1 => ?_
  · show (as.reverse ++ .inr (some q) :: st).map (gw_val (gw_a E)) = _
    rw [List.map_append, List.map_reverse]
    rfl
  · rw [gw_val_list, z1, z2]
    exact kk v μ' hq' H1 locs1 lsA hP1 hS1 hL
/-- the loop's head -/
theorem lw_head (hY : lw_Y E p s m meth c b L xs) (hi : i ≤ 3000) (hx : lw_g E p l e s m below meth c b 823 i [] μ) (hg : i + 5 ≤ L → lw_g E p l e s m below meth c b 26 i [] μ) : lw_g E p l e s m below meth c b 18 i [] μ := by
  intro H locs lsA hP hS hl
  have hL := hY.2.2.2.2.2.2.2.2.2.1
  refine lv_iload_n hY.1 hY.2.1 dL_law_18 rfl (lv_at hl 3 rfl) ?_
  refine lv_aload_n hY.1 hY.2.1 dL_law_19 rfl (lv_at hl 0 rfl) ?_
  refine va_slen (A := gw_A E) hY.1 hY.2.1 hY.2.2.2.2.2.2.1 hY.2.2.2.2.2.2.2.1 (lw_bA hY) hS dL_law_20 ?_
  refine lv_iconst (v := Int32.ofInt 5) hY.1 hY.2.1 dL_law_21 rfl ?_
  refine lv_isub hY.1 hY.2.1 dL_law_22 ?_
  have e : Int32.ofNat L - Int32.ofInt 5 = Int32.ofInt ((L : Int) - 5) := by
    rw [Int32.ofInt_sub, ga_n]
    rfl
  rw [e]
  have g1 : gw_in ((L : Int) - 5) := by unfold gw_in; omega
  have g2 : gw_in (i : Int) := by unfold gw_in; omega
  refine lv_icmp_gt (tgt := 823) hY.1 hY.2.1 dL_law_23 (by decide) (fun h => hx H locs lsA hP hS hl) (fun h => hg ?_ H locs lsA hP hS hl)
  have := Int.not_lt.mp fun q => h ((gw_lt g1 g2).mpr q)
  omega
theorem lw_end (hY : lw_Y E p s m meth c b L xs) : lw_g E p l e s m below meth c b 823 i [] μ := by
  intro H locs lsA hP hS hl
  refine lv_iconst (v := 1) hY.1 hY.2.1 dL_law_823 (by decide) ?_
  refine va_forget (fun q hq => ?_) ?_
  · rw [hY.2.2.2.2.2.2.2.2.1]
    exact hS.2.2 q hq
  · exact lw_ret hY.1 hY.2.1 hY.2.2.2.2.2.2.2.2.2.2.1 hY.2.2.2.2.2.2.2.2.2.2.2 dL_law_824
theorem lw_next (hY : lw_Y E p s m meth c b L xs) (k : lw_g E p l e s m below meth c b 18 (i + 5) [] μ) : lw_g E p l e s m below meth c b 817 i [] μ := by
  intro H locs lsA hP hS hl
  refine lv_iinc (v := Int32.ofInt ((i + 5 : Nat) : Int)) (lv' := [(3, .int (Int32.ofInt ((i + 5 : Nat) : Int))), (0, .ref b), (1, .ref (gw_a E + 0)), (2, .ref (gw_a E + 99))]) hY.1 hY.2.1 dL_law_817 hl (k := 3) rfl ?_ (by decide) rfl (fun ls hl => ?_)
  · rw [← Int32.ofInt_add]
    rfl
  · refine lv_goto (tgt := 18) hY.1 hY.2.1 dL_law_820 (by decide) ?_
    exact k H locs ls hP hS (lv_sub hl [1, 2, 3, 0] rfl)
/-- new -/
theorem lw_newO {idx ci N n u w : Nat} {Cn : String} {T : u_T} {I : Nat → Nat → Int} {F : Nat → Nat → Option Nat} {H : Heap} {locs : List Loc} {lsA : Array Slot} {rest : List Value} {Z : State → Prop} (hY : lw_Y E p s m meth c b L xs) (hd : decode cL_law pc = .ok (.new idx, 3)) (hw : Cond.classLink RL idx Cn ∈ gw_Tb) (hc : gw_Cl ci Cn T N) (hdt : ∀ k, k < N → defaultValue (gw_ty ci k) = (if gw_isR ci k = true then .null else .int 0)) (hsh : gw_sh n = (ci, N)) (b1 : u + 1 ≤ 600000) (b2 : w + N ≤ 7302250) (hP : gw_P E (n, I, F) H) (hS : va_S (gw_A E) s.heap H locs)
    (kk : ∀ H1, gw_P E (n + 1, gw_Z I n 0, gw_Z F n none) H1 → va_S (gw_A E) s.heap H1 locs → W p l e room_1 s m #[Value.ref b] below meth c H1 locs (u + 1) (w + N) Z (F0 m (pc + 3) lsA (.ref (gw_a E + n) :: rest))) : W p l e room_1 s m #[Value.ref b] below meth c H locs u w Z (F0 m pc lsA rest) := by
  obtain ⟨hv, h6, hws, hty, hnm, hins, hini⟩ := hc
  have hts := hY.2.2.2.2.1
  have hKn := hY.2.2.2.2.2.1.1.1 ci _ hv
  have h0 : H.size = gw_a E + n := hP.1
  refine W.newcK hY.1 hY.2.1 hY.2.2.2.1 (hts _ hw) (hts _ hins) (hts _ hini) rfl hd b1 b2 hKn.2.1 h0 fun H1 kC hkC e1 z1 o1 => ?_
  have o2 : ∀ q, q < H.size → H1[q]? = H[q]? := fun q hq => o1 q (by rw [← h0]; exact hq)
  refine kk H1 (gw_P_push hP (fun a h => gw_Z_r (by omega)) (fun a h => gw_Z_r (by omega)) (by rw [z1, h0]) o2 ?_) (gw_S_push hS (by omega) o2)
  rw [hsh, gw_cell_o h6]
  refine ⟨_, hv, (u_born (gw_ty ci) hts hws hKn hkC e1 hty).to fun k hk => ?_⟩
  rw [gw_fs_V hk, hdt k hk, gw_Z_s, gw_Z_s]
  rfl
/-- a constructor -/
theorem lw_init {idx q u w : Nat} {j' : gw_J} {Q' : Option gw_V → gw_M → Prop} {H : Heap} {locs : List Loc} {lsA : Array Slot} {Z : State → Prop} (hY : lw_Y E p s m meth c b L xs) (hd : decode cL_law pc = .ok (.invokespecial idx, 3)) (hc : gw_CI RL idx j' 0) (hlen : st.length ≤ 8) (r3 : u + j'.2.2.2.2.1 ≤ 600000) (r4 : w + j'.2.2.2.2.2 ≤ 7302250) (hM : gw_Met j' 9 [.inr (some q)] μ Q') (hP : gw_P E μ H) (hS : va_S (gw_A E) s.heap H locs) (hsz : lsA.size = 4)
    (kk : ∀ v μ' H1 locs1, Q' v μ' → gw_P E μ' H1 → va_S (gw_A E) s.heap H1 locs1 → W p l e room_1 s m #[Value.ref b] below meth c H1 locs1 (u + j'.2.2.2.2.1) (w + j'.2.2.2.2.2) Z (F0 m (pc + 3) lsA ((v.map (gw_val (gw_a E))).toList ++ st.map (gw_val (gw_a E))))) : W p l e room_1 s m #[Value.ref b] below meth c H locs u w Z (F0 m pc lsA (.ref (gw_a E + q) :: st.map (gw_val (gw_a E)))) := by
  obtain ⟨hok, hl, hi, hn, hy, hret⟩ := hc
  have hts := hY.2.2.2.2.1
  have hpre := gw_pre (vs := [.inr (some q)]) hP hY.2.2.2.2.2.1
  have hcb := gw_cb (d := 9) (R := room_1) (E := E) hok hl hn hts (Nat.le_of_ble_eq_true rfl) (Nat.le_of_ble_eq_true rfl)
  rw [hret] at hcb
  exact gw_go (va_runI (As := []) (rest := st.map (gw_val (gw_a E))) (b := gw_a E + q) (nL := 4) (Ts := gw_Tb) ⟨hY.1, hY.2.1, hY.2.2.1, hY.2.2.2.1, hts⟩ (hM l E) ⟨hcb, hy, hts _ hi⟩ hpre rfl rfl hsz rfl (gw_hW hlen) hd ⟨r3, r4⟩) hS kk
end LW
theorem lw_E {args : Array Value} {s : State} (hts : ∀ w ∈ lw_tbl, w.before args s = true) : ∃ E : gw_E, s.heap.size = gw_a E ∧ gw_K E s := by
  have ht : ∀ w ∈ gw_Tb, w.before args s = true := fun w hw => hts w (List.mem_filter.mp hw).1
  obtain ⟨c0, i0, k0⟩ := u_known (n := 7) ht gcX0.2.2.1 (ht _ gcX0.2.2.2.2.2.1)
  obtain ⟨c1, i1, k1⟩ := u_known (n := 5) ht gcX1.2.2.1 (ht _ gcX1.2.2.2.2.2.1)
  obtain ⟨c2, i2, k2⟩ := u_known (n := 10) ht gcX2.2.2.1 (ht _ gcX2.2.2.2.2.2.1)
  obtain ⟨c3, i3, k3⟩ := u_known (n := 12) ht gcX3.2.2.1 (ht _ gcX3.2.2.2.2.2.1)
  obtain ⟨c4, i4, k4⟩ := u_known (n := 12) ht gcX4.2.2.1 (ht _ gcX4.2.2.2.2.2.1)
  obtain ⟨c5, i5, k5⟩ := u_known (n := 23) ht gcX5.2.2.1 (ht _ gcX5.2.2.2.2.2.1)
  obtain ⟨cI, kI, pI, fI, gI, hI⟩ := Cond.arrayClass_spec (ht _ aa_i)
  obtain ⟨cZ, kZ, pZ, fZ, gZ, hZ⟩ := Cond.arrayClass_spec (ht _ aa_z)
  have aP : (Cond.arrayOver (.object RX1)).before args s = true := hts _ (List.mem_of_getElem? (i := 235) rfl)
  have aG : (Cond.arrayOver (.array .int)).before args s = true := hts _ (List.mem_of_getElem? (i := 193) rfl)
  obtain ⟨pP, cP, kP, f1, f2, f3, f4, f5⟩ := Cond.arrayOver_spec aP
  obtain ⟨pG, cG, kG, g1, g3, g4, g5⟩ := Jvm.Cond.arrayOver_specA aG
  refine ⟨((fun k => if k = 0 then c0 else if k = 1 then c1 else if k = 2 then c2 else if k = 3 then c3 else if k = 4 then c4 else c5, fun k => if k = 0 then i0 else if k = 1 then i1 else if k = 2 then i2 else if k = 3 then i3 else if k = 4 then i4 else i5), cI, cZ, cP, cG, s.heap.size), rfl, ⟨?_, ?_⟩, ?_, va_AO.of aP, aG⟩
  · intro k q hq
    match k, hq with
    | 0, hq => cases hq; exact k0
    | 1, hq => cases hq; exact k1
    | 2, hq => cases hq; exact k2
    | 3, hq => cases hq; exact k3
    | 4, hq => cases hq; exact k4
    | 5, hq => cases hq; exact k5
    | k + 6, hq => simp [vwCl] at hq
  · intro k q hq
    match k, hq with
    | 0, hq => cases hq; exact ⟨fun n z => ⟨fun k h => (by cases h), kI, gI, pI, hI⟩, fI⟩
    | 1, hq => cases hq; exact ⟨fun n z => ⟨fun k h => (by cases h), kZ, gZ, pZ, hZ⟩, fZ⟩
    | 2, hq => cases hq; exact ⟨fun n z => ⟨fun k h => (by cases h), kP, f3, pP, f4⟩, kP, pP, f3, f4, f1, f5⟩
    | 3, hq => cases hq; exact ⟨fun n z => ⟨fun k h => (by cases h), kG, g3, pG, g4⟩, g5⟩
    | k + 4, hq => simp [gw_tys] at hq
  · intro a i x h hm
    exact va_Nw.of rfl (hts _ (List.mem_append_right _ hm))
