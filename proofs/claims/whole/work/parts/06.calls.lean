/-! METHODS: contracts over the memory, entry, ends, calls -/
def gw_Room (d : Nat) (j : gw_J) : Room := { frames := d, cells := j.2.2.2.2.1, slots := j.2.2.2.2.2, locals := 34 * d }
def gw_Qc (E : gw_E) (Q : Option gw_V → gw_M → Prop) : Array Value → State → Outcome → State → Prop := fun _ st o t => ∃ (v : Option gw_V) (μ : gw_M), Q v μ ∧ o = .returned (v.map (gw_val (gw_a E))) ∧ gw_P E μ t.heap ∧ va_F (gw_A E) st t
def gw_ws (j : gw_J) : List Cond := Cond.code j.1 j.2.1 j.2.2.1 j.2.2.2.1 :: gw_Tb
/-- method j, at most d frames above it, called with vs in memory μ, returns so that Q -/
def gw_Met (j : gw_J) (d : Nat) (vs : List gw_V) (μ : gw_M) (Q : Option gw_V → gw_M → Prop) : Prop := ∀ (l : Launch) (E : gw_E), Met l j.1 (gw_ws j) (gw_Room d j) (va_Pc (vs.map (gw_val (gw_a E))) (fun U => gw_P E μ U.heap ∧ gw_K E U)) (gw_Qc E Q) j.2.2.2.2.1 j.2.2.2.2.2 (gw_A E)
/-- the context of a method's own body -/
def gw_Cm (j : gw_J) (d : Nat) (Q : Option gw_V → gw_M → Prop) : gw_C := fun E R s args below Z => R = gw_Room d j ∧ Z = MQ below (gw_Qc E Q) args s j.2.2.2.2.1 j.2.2.2.2.2 (gw_A E)
def gw_ok (j : gw_J) : Prop := plainName j.1.cls = true ∧ Cond.code j.1 j.2.1 j.2.2.1 j.2.2.2.1 ∈ gw_Tb ∧ Cond.initialized j.1.cls ∈ gw_Tb ∧ (j.1.cls ≠ "java/lang/invoke/MethodHandle" ∧ j.1.cls ≠ "java/lang/invoke/VarHandle") ∧ j.2.2.1 ≤ 15
theorem gw_Tb_in {w : Cond} {i : Nat} (h : lw_tbl[i]? = some w) (hg : goodWord w = true) : w ∈ gw_Tb := List.mem_filter.mpr ⟨List.mem_of_getElem? h, hg⟩
theorem gw_good {w : Cond} (h : w ∈ gw_Tb) : (w.onTables && w.keeps) = true ∨ ∃ ty, w = .arrayClass ty := good_of_word (List.mem_filter.mp h).2
theorem gw_goodIn {j : gw_J} (h : gw_ok j) : GoodIn gw_Tb (gw_ws j) := by
  intro w hw
  rcases List.mem_cons.mp hw with rfl | hw
  · exact ⟨h.2.1, gw_good h.2.1⟩
  · exact ⟨hw, gw_good hw⟩
theorem gw_AO.moved {u U : State} (hvm : u.vm.Alike U.vm) (h : gw_AO u) : gw_AO U := by
  unfold gw_AO Cond.before Cond.holds at h
  simp only [Cond.value, beq_iff_eq] at h
  cases hc : u.vm.findClass (FieldType.array FieldType.int).toString with
  | none => simp [hc] at h
  | some comp =>
    simp only [hc, Option.bind_some, Option.bind_eq_some_iff, Option.map_eq_some_iff] at h
    obtain ⟨c, hi, k, hk, hb⟩ := h
    obtain ⟨k', hk', he⟩ := hvm.2.2 _ _ hk
    have hb2 : U.vm.bare = u.vm.bare := by first | exact hvm.bare_eq | exact hvm.bare_eq.symm
    have a1 := va_idx_bare U.vm comp
    rw [hb2] at a1
    have hi2 := (a1.symm.trans (va_idx_bare u.vm comp)).trans hi
    have f1 : U.vm.findClass (FieldType.array FieldType.int).toString = some comp := by rw [hvm.findClass]; exact hc
    unfold gw_AO Cond.before Cond.holds
    simp only [Cond.value]
    rw [f1, Option.bind_some]
    refine (congrArg (fun o : Option Nat => (o.bind (fun c => (U.vm.classes[c]?).map fun (k : Class) => match k.kind with | .array _ ty => decide (ty = FieldType.array FieldType.int) && decide (U.vm.findClass ("[" ++ (FieldType.array FieldType.int).toString) = some c) | _ => false) == some true)) hi2).trans ?_
    have hkk : k'.kind = k.kind := by rw [he]
    simp only [Option.bind_some, hk', Option.map_some, hkk, hvm.findClass]
    exact (congrArg (fun b : Bool => (some b == some true)) hb).trans rfl
theorem gw_K.moved {E : gw_E} {s U : State} (hW : s.WarmedH U.vm) (h : gw_K E s) : gw_K E U :=
  ⟨va_K.moved hW.alike h.1, fun a i x h' hm => va_Nw.warmM hW (h.2.1 a i x h' hm), va_AO.moved hW.alike h.2.2.1, gw_AO.moved hW.alike h.2.2.2⟩
theorem gw_K.same {E : gw_E} {s U : State} (hv : s.vm = U.vm) (h : gw_K E s) : gw_K E U := by
  have hA : s.vm.Alike U.vm := by rw [hv]; exact Vm.Alike.refl _
  exact ⟨va_K.moved hA h.1, fun a i x h' hm => va_Nw.same rfl hv (h.2.1 a i x h' hm), va_AO.moved hA h.2.2.1, gw_AO.moved hA h.2.2.2⟩
/-- THE ENTRY of a method -/
theorem gw_enter {j : gw_J} {d : Nat} {vs : List gw_V} {μ : gw_M} {Q : Option gw_V → gw_M → Prop} {ls : List (Option gw_V)} (hj : gw_ok j) (hls : vs.map some ++ List.replicate (j.2.2.1 - vs.length) none = ls) (hlen : vs.length ≤ j.2.2.1) (h : gw_G (gw_Cm j d Q) j 0 ls [] μ 0 0) : gw_Met j d vs μ Q := by
  intro l E
  refine Met.ofW (cc := j.2.1) (maxL := j.2.2.1) (ret := j.2.2.2.1) hj.1 rfl ?_
  intro p e s m args below meth c s₁ B hml hv
  obtain ⟨rfl, hP, hK⟩ := hv
  have hts := atoms_spec (ws := gw_ws j) B.pre
  have hown : s.vm.findClass j.1.cls = some m.cls := findClass_of_methodNamed B.named
  have hnm : meth.name = j.1.name := (name_of_methodNamed B.named B.method).1
  have hsl : lg_sl (vs.map (gw_val (gw_a E))) = vs.map (fun v => Slot.val (gw_val (gw_a E) v)) := by
    have key : ∀ l : List gw_V, lg_sl (l.map (gw_val (gw_a E))) = l.map (fun v => Slot.val (gw_val (gw_a E) v)) := by
      intro l
      unfold lg_sl
      induction l with
      | nil => rfl
      | cons v t ih =>
        rw [List.map_cons, List.flatMap_cons, ih, if_neg (by rw [gw_cat]; decide)]
        rfl
    exact key vs
  have hl := lv_entry (vs.map (gw_val (gw_a E))) (n := j.2.2.1) (by rw [hsl]; simpa using hlen)
  rw [lg_entry_eq]
  refine h E p l e _ s m _ below meth c _ ⟨rfl, rfl⟩ ⟨B.exec, B.bytes, hml, hown, fun w hw => hts w (List.mem_cons_of_mem _ hw), B.notSynchronized, B.returns, hnm, hK⟩ s.heap [] _ hP va_S.rf ⟨hl.1, hl.2.1, fun i v hi => ?_⟩
  rw [← hls] at hi
  by_cases hiv : i < vs.length
  · rw [List.getElem?_append_left (by simpa using hiv), List.getElem?_map] at hi
    obtain ⟨x, hx, e9⟩ := Option.map_eq_some_iff.mp hi
    cases e9
    rw [hsl]
    rw [List.getElem?_toArray, List.getElem?_append_left (by simpa using hiv), List.getElem?_map, hx]
    rfl
  · rw [List.getElem?_append_right (by simpa using hiv)] at hi
    have h9 := List.mem_of_getElem? hi
    rw [List.mem_replicate] at h9
    cases h9.2
section GC
variable {C : gw_C} {j : gw_J} {pc : Nat} {ls : List (Option gw_V)} {st : List gw_V} {μ : gw_M} {u w d : Nat} {Q : Option gw_V → gw_M → Prop}
theorem gw_F_of {E : gw_E} {s t : State} {H : Heap} {locs : List Loc} (hS : va_S (gw_A E) s.heap H locs) (ht : t.heap = H) : va_F (gw_A E) s t := by
  refine ⟨by rw [ht]; exact hS.1, fun q h1 h2 => by rw [ht]; exact hS.2.1 q h1 h2⟩
theorem gr_iret {x : Int} (hd : decode j.2.1 pc = .ok (.ireturn, 1)) (hr : j.2.2.2.1 = some .int ∨ j.2.2.2.1 = some .boolean ∧ (x = 0 ∨ x = 1)) (hu : u ≤ j.2.2.2.2.1) (hw : w ≤ j.2.2.2.2.2) (hq : Q (some (.inl x)) μ) : gw_G (gw_Cm j d Q) j pc ls [.inl x] μ u w := by
  intro E p l e R s m args below meth c Z hC hX H locs lsA hP hS hL
  obtain ⟨rfl, rfl⟩ := hC
  refine W.widen hu hw ?_
  rcases hr with hr | ⟨hr, hx⟩
  · exact W.iret (v := Int32.ofInt x) hX.1 hX.2.1 (hX.2.2.2.2.2.2.1.trans hr) (fun t ht hW => ⟨some (.inl x), μ, hq, rfl, by rw [ht]; exact hP, gw_F_of hS ht⟩) hS.2.2 hd hX.2.2.2.2.2.1
  · exact W.zret (v := Int32.ofInt x) (ty := .boolean) hX.1 hX.2.1 (hX.2.2.2.2.2.2.1.trans hr) (by rcases hx with h | h <;> rw [h] <;> rfl) (fun t ht hW => ⟨some (.inl x), μ, hq, rfl, by rw [ht]; exact hP, gw_F_of hS ht⟩) hS.2.2 hd hX.2.2.2.2.2.1
theorem gr_vret (hd : decode j.2.1 pc = .ok (.return_, 1)) (hr : j.2.2.2.1 = none) (hu : u ≤ j.2.2.2.2.1) (hw : w ≤ j.2.2.2.2.2) (hq : Q none μ) : gw_G (gw_Cm j d Q) j pc ls [] μ u w := by
  intro E p l e R s m args below meth c Z hC hX H locs lsA hP hS hL
  obtain ⟨rfl, rfl⟩ := hC
  refine W.widen hu hw ?_
  exact W.vret hX.1 hX.2.1 (hX.2.2.2.2.2.2.1.trans hr) (fun t ht hW => ⟨none, μ, hq, rfl, by rw [ht]; exact hP, gw_F_of hS ht⟩) hS.2.2 hd hX.2.2.2.2.2.1
/-- the room of a call: callee's frames d, its cells and slots -/
def gw_Rm (C : gw_C) (d mc ms u w : Nat) : Prop := ∀ E R s args below Z, C E R s args below Z → d + 1 ≤ R.frames ∧ 34 * (d + 1) ≤ R.locals ∧ u + mc ≤ R.cells ∧ w + ms ≤ R.slots
theorem gw_Rm_m {d D mc ms u w : Nat} (h : d < D) (hu : u + mc ≤ j.2.2.2.2.1) (hw : w + ms ≤ j.2.2.2.2.2) : gw_Rm (gw_Cm j D Q) d mc ms u w := by
  intro E R s args below Z hC
  obtain ⟨rfl, rfl⟩ := hC
  refine ⟨h, ?_, hu, hw⟩
  show 34 * (d + 1) ≤ 34 * D
  omega
theorem gw_Rm_1 {D : Nat} (h : 0 < D) (hu : u ≤ j.2.2.2.2.1) (hw : w ≤ j.2.2.2.2.2) : ∀ E R s args below Z, gw_Cm j D Q E R s args below Z → 1 ≤ R.frames ∧ 34 ≤ R.locals ∧ u ≤ R.cells ∧ w ≤ R.slots := by
  intro E R s args below Z hC
  obtain ⟨rfl, rfl⟩ := hC
  refine ⟨h, ?_, hu, hw⟩
  show 34 ≤ 34 * D
  omega
def gw_np (y : MethodName) (n : Nat) : Prop := (parseMethodDescriptor y.desc).map (fun d => d.parameters.length) = some n
def gw_CV (own : String) (idx : Nat) (j : gw_J) (n ci : Nat) : Prop := gw_ok j ∧ Cond.methodLink own idx j.1 ∈ gw_Tb ∧ Cond.instanceMethod j.1 ∈ gw_Tb ∧ Cond.selects j.1.cls j.1 j.1 ∈ gw_Tb ∧ gw_np j.1 n ∧ vwCl[ci]?.map (fun r => r.1) = some j.1.cls ∧ ci < 6
def gw_CS (own : String) (idx : Nat) (j : gw_J) (n : Nat) : Prop := gw_ok j ∧ Cond.methodLink own idx j.1 ∈ gw_Tb ∧ Cond.static j.1 ∈ gw_Tb ∧ gw_np j.1 n
def gw_CSN (own : String) (idx : Nat) (j : gw_J) (n : Nat) : Prop := gw_ok j ∧ (∃ host, Cond.methodLinkNest own idx j.1 host ∈ tables_1) ∧ Cond.static j.1 ∈ gw_Tb ∧ gw_np j.1 n
def gw_CI (own : String) (idx : Nat) (j : gw_J) (n : Nat) : Prop := gw_ok j ∧ Cond.methodLink own idx j.1 ∈ gw_Tb ∧ Cond.instanceMethod j.1 ∈ gw_Tb ∧ gw_np j.1 n ∧ j.1.name = "<init>" ∧ j.2.2.2.1 = none
def gw_CIN (own : String) (idx : Nat) (j : gw_J) (n : Nat) : Prop := gw_ok j ∧ (∃ host, Cond.methodLinkNest own idx j.1 host ∈ tables_1) ∧ Cond.instanceMethod j.1 ∈ gw_Tb ∧ gw_np j.1 n ∧ j.1.name = "<init>" ∧ j.2.2.2.1 = none
theorem gw_npl {y : MethodName} {n : Nat} (h : gw_np y n) : ∀ sig, parseMethodDescriptor y.desc = some sig → n = sig.parameters.length := by
  intro sig hs
  unfold gw_np at h
  rw [hs] at h
  exact (Option.some.inj h).symm
/-- a call goes on -/
theorem gw_go {p : Program} {l : Launch} {e : Env} {R : Room} {s : State} {m : MethodId} {args : Array Value} {below : List Frame} {meth : Method} {c : Code} {H : Heap} {locs : List Loc} {Z : State → Prop} {E : gw_E} {mc ms : Nat} {lsA : Array Slot} {st0 rest : List Value} {a : Array Value}
    (hr : va_Run p l e R s m args below meth c H locs u w mc ms (F0 m pc lsA st0) rest (gw_Qc E Q a) (gw_A E)) (hS : va_S (gw_A E) s.heap H locs)
    (kk : ∀ (v : Option gw_V) (μ : gw_M) (H1 : Heap) (locs1 : List Loc), Q v μ → gw_P E μ H1 → va_S (gw_A E) s.heap H1 locs1 → W p l e R s m args below meth c H1 locs1 (u + mc) (w + ms) Z (F0 m (pc + 3) lsA ((v.map (gw_val (gw_a E))).toList ++ rest))) : W p l e R s m args below meth c H locs u w Z (F0 m pc lsA st0) := by
  intro T hT X
  obtain ⟨v, st₀, t, T', L, h0, X', hL, e1, e2, ⟨v', μ', hq, hv, hp, hz, hk⟩, st⟩ := hr T hT X
  cases hv
  rw [h0] at hz hk
  obtain ⟨t2, a1, b1⟩ := kk v' μ' T'.heap (locs ++ L) hq (by rw [e1]; exact hp) ⟨Nat.le_trans hS.1 (by rw [e1]; exact hz), fun q h1 h2 => by rw [e1, hk q (Nat.lt_of_lt_of_le h1 hS.1) h2]; exact hS.2.1 q h1 h2, fun q hq => by
      rcases List.mem_append.mp hq with h | h
      · exact hS.2.2 q h
      · exact hL q h⟩ T' rfl X'
  exact ⟨t2, st t2 a1, b1⟩
theorem gw_pre {E : gw_E} {s : State} {H : Heap} {vs : List gw_V} (hP : gw_P E μ H) (hK : gw_K E s) : PreS s H (va_Pc (vs.map (gw_val (gw_a E))) (fun U => gw_P E μ U.heap ∧ gw_K E U)) (vs.map (gw_val (gw_a E))) := by
  refine ⟨fun a U g mk q => ?_, fun U hU hW => ⟨rfl, by rw [hU]; exact hP, gw_K.moved hW hK⟩⟩
  obtain ⟨q0, q1, q2⟩ := q
  exact ⟨q0, q1, gw_K.same (s := U) (U := U.calling g mk a) rfl q2⟩
theorem gw_val_list (a0 : Nat) (v : Option gw_V) (st : List gw_V) : (v.map (gw_val a0)).toList ++ st.map (gw_val a0) = (v.toList ++ st).map (gw_val a0) := by
  cases v <;> rfl
theorem gw_cb {j' : gw_J} {own : String} {idx n : Nat} {E : gw_E} {R : Room} {s : State} {args : Array Value} (hok : gw_ok j') (hl : Cond.methodLink own idx j'.1 ∈ gw_Tb) (hn : gw_np j'.1 n) (hts : ∀ w ∈ gw_Tb, w.before args s = true) (r1 : d + 1 ≤ R.frames) (r2 : 34 * (d + 1) ≤ R.locals) : CallB R s args own idx j'.1 j'.2.1 j'.2.2.1 j'.2.2.2.1 (gw_ws j') (gw_Room d j') j'.2.2.2.2.1 j'.2.2.2.2.2 n := by
  obtain ⟨h1, h2, h3, h4, h5⟩ := id hok
  refine ⟨rfl, rfl, r1, ?_, pay_in hts (gw_goodIn hok), List.mem_cons_self, hts _ h2, hts _ h3, h4, gw_npl hn, hts _ hl⟩
  show 8 + (j'.2.2.1 + 11) + 34 * d ≤ R.locals
  omega
theorem gw_cn {j' : gw_J} {own host : String} {idx n : Nat} {E : gw_E} {R : Room} {s : State} {args : Array Value} (hok : gw_ok j') (hl : Cond.methodLinkNest own idx j'.1 host ∈ tables_1) (hn : gw_np j'.1 n) (hts : ∀ w ∈ gw_Tb, w.before args s = true) (hNw : gw_Nw s) (r1 : d + 1 ≤ R.frames) (r2 : 34 * (d + 1) ≤ R.locals) : va_CN R s args own idx j'.1 host j'.2.1 j'.2.2.1 j'.2.2.2.1 (gw_ws j') (gw_Room d j') j'.2.2.2.2.1 j'.2.2.2.2.2 n := by
  obtain ⟨h1, h2, h3, h4, h5⟩ := id hok
  refine va_cnB n hts (gw_goodIn hok) rfl rfl rfl (hNw _ _ _ _ hl) (hts _ h3) ⟨h4.1, h4.2, hn⟩ ⟨r1, ?_⟩
  show 8 + (j'.2.2.1 + 11) + 34 * d ≤ R.locals
  omega
theorem gw_hW {a0 : Nat} {m : MethodId} {lsA : Array Slot} {st0 : List Value} (h : st.length ≤ 8) : 2 * (F0 m pc lsA st0).monitorRoom + ((st.map (gw_val a0)).map fun v => v.category).sum ≤ 8 := by
  rw [gw_sum]
  show 2 * 0 + _ ≤ 8
  omega
/-- invokevirtual -/
theorem gr_virt {idx n ci q N : Nat} {j' : gw_J} {as st0 : List gw_V} {Q' : Option gw_V → gw_M → Prop} (hd : decode j.2.1 pc = .ok (.invokevirtual idx, 3)) (hc : gw_CV j.1.cls idx j' n ci) (hst : as.reverse ++ .inr (some q) :: st = st0) (has : as.length = n) (hq : gw_sh q = (ci, N)) (hqn : q < μ.1) (hlen : st.length ≤ 8) (hR : gw_Rm C d j'.2.2.2.2.1 j'.2.2.2.2.2 u w) (hM : gw_Met j' d (.inr (some q) :: as) μ Q')
    (kk : ∀ v μ', Q' v μ' → gw_G C j (pc + 3) ls (v.toList ++ st) μ' (u + j'.2.2.2.2.1) (w + j'.2.2.2.2.2)) : gw_G C j pc ls st0 μ u w := by
  intro E p l e R s m args below meth c Z hC hX H locs lsA hP hS hL
  subst hst
  obtain ⟨hok, hl, hi, hs, hn, hv, h6⟩ := hc
  obtain ⟨r1, r2, r3, r4⟩ := hR _ _ _ _ _ _ hC
  have hts := hX.2.2.2.2.1
  have hat := hP.2 q hqn
  rw [hq] at hat
  rw [gw_cell_o h6] at hat
  obtain ⟨r, hr1, cell, g1, g2, g3, -⟩ := hat
  rw [hr1] at hv
  have hv : r.1 = j'.1.cls := Option.some.inj hv
  have hcl := (hX.2.2.2.2.2.2.2.2.1.1 ci r hr1).2.1
  rw [hv] at hcl
  have hpre := gw_pre (vs := .inr (some q) :: as) hP hX.2.2.2.2.2.2.2.2
  refine gw_go (va_runV (As := as.map (gw_val (gw_a E))) (rest := st.map (gw_val (gw_a E))) (b := gw_a E + q) (C := j'.1.cls) (nL := j.2.2.1) (Ts := gw_Tb) ⟨hX.1, hX.2.1, hX.2.2.1, hX.2.2.2.1, hts⟩ (hM l E) ⟨gw_cb (E := E) hok hl hn hts r1 r2, hts _ hi, hts _ hs⟩ ⟨hpre.1, ⟨cell, g1, by rw [g3]; rfl, by rw [g2]; exact hcl⟩, hpre.2⟩ rfl (by simpa using has) hL.1 ?_ (gw_hW hlen) hd ⟨r3, r4⟩) hS fun v μ' H1 locs1 hq' hP1 hS1 => ?_
  · show (as.reverse ++ .inr (some q) :: st).map (gw_val (gw_a E)) = _
    rw [List.map_append, List.map_reverse]
    rfl
  · rw [gw_val_list]
    exact kk v μ' hq' E p l e R s m args below meth c Z hC hX H1 locs1 lsA hP1 hS1 hL
/-- invokestatic -/
theorem gr_stat {idx n : Nat} {j' : gw_J} {as st0 : List gw_V} {Q' : Option gw_V → gw_M → Prop} (hd : decode j.2.1 pc = .ok (.invokestatic idx, 3)) (hc : gw_CS j.1.cls idx j' n) (hst : as.reverse ++ st = st0) (has : as.length = n) (hlen : st.length ≤ 8) (hR : gw_Rm C d j'.2.2.2.2.1 j'.2.2.2.2.2 u w) (hM : gw_Met j' d as μ Q')
    (kk : ∀ v μ', Q' v μ' → gw_G C j (pc + 3) ls (v.toList ++ st) μ' (u + j'.2.2.2.2.1) (w + j'.2.2.2.2.2)) : gw_G C j pc ls st0 μ u w := by
  intro E p l e R s m args below meth c Z hC hX H locs lsA hP hS hL
  subst hst
  obtain ⟨hok, hl, hs, hn⟩ := hc
  obtain ⟨r1, r2, r3, r4⟩ := hR _ _ _ _ _ _ hC
  have hts := hX.2.2.2.2.1
  refine gw_go (va_runS (As := as.map (gw_val (gw_a E))) (rest := st.map (gw_val (gw_a E))) (nL := j.2.2.1) (Ts := gw_Tb) ⟨hX.1, hX.2.1, hX.2.2.1, hX.2.2.2.1, hts⟩ (hM l E) ⟨gw_cb (E := E) hok hl hn hts r1 r2, hts _ hs⟩ (gw_pre hP hX.2.2.2.2.2.2.2.2) rfl (by simpa using has) hL.1 ?_ (gw_hW hlen) hd ⟨r3, r4⟩) hS fun v μ' H1 locs1 hq' hP1 hS1 => ?_
  · show (as.reverse ++ st).map (gw_val (gw_a E)) = _
    rw [List.map_append, List.map_reverse]
  · rw [gw_val_list]
    exact kk v μ' hq' E p l e R s m args below meth c Z hC hX H1 locs1 lsA hP1 hS1 hL
theorem gr_statN {idx n : Nat} {j' : gw_J} {as st0 : List gw_V} {Q' : Option gw_V → gw_M → Prop} (hd : decode j.2.1 pc = .ok (.invokestatic idx, 3)) (hc : gw_CSN j.1.cls idx j' n) (hst : as.reverse ++ st = st0) (has : as.length = n) (hlen : st.length ≤ 8) (hR : gw_Rm C d j'.2.2.2.2.1 j'.2.2.2.2.2 u w) (hM : gw_Met j' d as μ Q')
    (kk : ∀ v μ', Q' v μ' → gw_G C j (pc + 3) ls (v.toList ++ st) μ' (u + j'.2.2.2.2.1) (w + j'.2.2.2.2.2)) : gw_G C j pc ls st0 μ u w := by
  intro E p l e R s m args below meth c Z hC hX H locs lsA hP hS hL
  subst hst
  obtain ⟨hok, ⟨host, hl⟩, hs, hn⟩ := hc
  obtain ⟨r1, r2, r3, r4⟩ := hR _ _ _ _ _ _ hC
  have hts := hX.2.2.2.2.1
  refine gw_go (va_runSN (As := as.map (gw_val (gw_a E))) (rest := st.map (gw_val (gw_a E))) (nL := j.2.2.1) (Ts := gw_Tb) ⟨hX.1, hX.2.1, hX.2.2.1, hX.2.2.2.1, hts⟩ (hM l E) ⟨gw_cn (E := E) hok hl hn hts hX.2.2.2.2.2.2.2.2.2.1 r1 r2, hts _ hs, trivial⟩ (gw_pre hP hX.2.2.2.2.2.2.2.2) rfl (by simpa using has) hL.1 ?_ (gw_hW hlen) hd ⟨r3, r4⟩) hS fun v μ' H1 locs1 hq' hP1 hS1 => ?_
  · show (as.reverse ++ st).map (gw_val (gw_a E)) = _
    rw [List.map_append, List.map_reverse]
  · rw [gw_val_list]
    exact kk v μ' hq' E p l e R s m args below meth c Z hC hX H1 locs1 lsA hP1 hS1 hL
/-- invokespecial of a constructor -/
theorem gr_init {idx n q : Nat} {j' : gw_J} {as st0 : List gw_V} {Q' : Option gw_V → gw_M → Prop} (hd : decode j.2.1 pc = .ok (.invokespecial idx, 3)) (hc : gw_CI j.1.cls idx j' n) (hst : as.reverse ++ .inr (some q) :: st = st0) (has : as.length = n) (hlen : st.length ≤ 8) (hR : gw_Rm C d j'.2.2.2.2.1 j'.2.2.2.2.2 u w) (hM : gw_Met j' d (.inr (some q) :: as) μ Q')
    (kk : ∀ v μ', Q' v μ' → gw_G C j (pc + 3) ls (v.toList ++ st) μ' (u + j'.2.2.2.2.1) (w + j'.2.2.2.2.2)) : gw_G C j pc ls st0 μ u w := by
  intro E p l e R s m args below meth c Z hC hX H locs lsA hP hS hL
  subst hst
  obtain ⟨hok, hl, hi, hn, hy, hret⟩ := hc
  obtain ⟨r1, r2, r3, r4⟩ := hR _ _ _ _ _ _ hC
  have hts := hX.2.2.2.2.1
  have hpre := gw_pre (vs := .inr (some q) :: as) hP hX.2.2.2.2.2.2.2.2
  have hcb := gw_cb (E := E) hok hl hn hts r1 r2
  rw [hret] at hcb
  refine gw_go (va_runI (As := as.map (gw_val (gw_a E))) (rest := st.map (gw_val (gw_a E))) (b := gw_a E + q) (nL := j.2.2.1) (Ts := gw_Tb) ⟨hX.1, hX.2.1, hX.2.2.1, hX.2.2.2.1, hts⟩ (hM l E) ⟨hcb, hy, hts _ hi⟩ hpre rfl (by simpa using has) hL.1 ?_ (gw_hW hlen) hd ⟨r3, r4⟩) hS fun v μ' H1 locs1 hq' hP1 hS1 => ?_
  · show (as.reverse ++ .inr (some q) :: st).map (gw_val (gw_a E)) = _
    rw [List.map_append, List.map_reverse]
    rfl
  · rw [gw_val_list]
    exact kk v μ' hq' E p l e R s m args below meth c Z hC hX H1 locs1 lsA hP1 hS1 hL
theorem gr_initN {idx n q : Nat} {j' : gw_J} {as st0 : List gw_V} {Q' : Option gw_V → gw_M → Prop} (hd : decode j.2.1 pc = .ok (.invokespecial idx, 3)) (hc : gw_CIN j.1.cls idx j' n) (hst : as.reverse ++ .inr (some q) :: st = st0) (has : as.length = n) (hlen : st.length ≤ 8) (hR : gw_Rm C d j'.2.2.2.2.1 j'.2.2.2.2.2 u w) (hM : gw_Met j' d (.inr (some q) :: as) μ Q')
    (kk : ∀ v μ', Q' v μ' → gw_G C j (pc + 3) ls (v.toList ++ st) μ' (u + j'.2.2.2.2.1) (w + j'.2.2.2.2.2)) : gw_G C j pc ls st0 μ u w := by
  intro E p l e R s m args below meth c Z hC hX H locs lsA hP hS hL
  subst hst
  obtain ⟨hok, ⟨host, hl⟩, hi, hn, hy, hret⟩ := hc
  obtain ⟨r1, r2, r3, r4⟩ := hR _ _ _ _ _ _ hC
  have hts := hX.2.2.2.2.1
  have hpre := gw_pre (vs := .inr (some q) :: as) hP hX.2.2.2.2.2.2.2.2
  have hcb := gw_cn (E := E) hok hl hn hts hX.2.2.2.2.2.2.2.2.2.1 r1 r2
  rw [hret] at hcb
  refine gw_go (va_runIN (As := as.map (gw_val (gw_a E))) (rest := st.map (gw_val (gw_a E))) (b := gw_a E + q) (nL := j.2.2.1) (Ts := gw_Tb) ⟨hX.1, hX.2.1, hX.2.2.1, hX.2.2.2.1, hts⟩ (hM l E) ⟨hcb, hy, hts _ hi⟩ hpre rfl (by simpa using has) hL.1 ?_ (gw_hW hlen) hd ⟨r3, r4⟩) hS fun v μ' H1 locs1 hq' hP1 hS1 => ?_
  · show (as.reverse ++ .inr (some q) :: st).map (gw_val (gw_a E)) = _
    rw [List.map_append, List.map_reverse]
    rfl
  · rw [gw_val_list]
    exact kk v μ' hq' E p l e R s m args below meth c Z hC hX H1 locs1 lsA hP1 hS1 hL
/-- Object's constructor -/
theorem gr_obj {idx q : Nat} (hd : decode j.2.1 pc = .ok (.invokespecial idx, 3)) (hw : Cond.methodLink j.1.cls idx Lib.objectInit ∈ gw_Tb) (hw2 : Cond.instanceMethod Lib.objectInit ∈ gw_Tb) (hw3 : Cond.code Lib.objectInit ⟨#[0xb1]⟩ 1 none ∈ gw_Tb) (hlen : st.length ≤ 8) (hR : ∀ E R s args below Z, C E R s args below Z → 1 ≤ R.frames ∧ 34 ≤ R.locals) (kk : gw_G C j (pc + 3) ls st μ u w) : gw_G C j pc ls (.inr (some q) :: st) μ u w := by
  intro E p l e R s m args below meth c Z hC hX H locs lsA hP hS hL
  obtain ⟨r1, r2⟩ := hR _ _ _ _ _ _ hC
  have hts := hX.2.2.2.2.1
  refine W.objInit hX.1 hX.2.1 hX.2.2.2.1 (hts _ hw) (hts _ hw2) (hts _ hw3) rfl (hL.1.trans hX.2.2.1.symm) rfl hd r1 ?_ (kk E p l e R s m args below meth c Z hC hX H locs lsA hP hS hL)
  rw [gw_sum]
  show 2 * 0 + _ + 12 ≤ _
  omega
end GC
