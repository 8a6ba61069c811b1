/-! THE GENERIC LAYER. A memory of places: the k-th cell that the law's run makes lies at the address a0 + k; its shape (kind, length) is known ahead (gw_SH). Kinds 0 .. 5: an object of that class of vwCl; 10 int[], 11 boolean[], 12 Piece[], 13 int[][]. Ints are held as Int, modulo 2^32. -/
/-- values by places: an int, or a reference (none: null) -/
abbrev gw_V : Type := Int ⊕ Option Nat
/-- how many cells there are, their ints, their references -/
abbrev gw_M : Type := Nat × (Nat → Nat → Int) × (Nat → Nat → Option Nat)
/-- the classes' numbers and slots; the array classes of int[], boolean[], Piece[], int[][]; the first address -/
abbrev gw_E : Type := va_G × ClassId × ClassId × ClassId × ClassId × Nat
abbrev gw_a (E : gw_E) : Nat := E.2.2.2.2.2
/-- a method: its name, code, locals, answer, cells and slots that it makes -/
abbrev gw_J : Type := MethodName × ByteArray × Nat × Option FieldType × Nat × Nat
def gw_val (a0 : Nat) (v : gw_V) : Value := match v with
  | .inl x => .int (Int32.ofInt x)
  | .inr r => va_rf (r.map (fun k => a0 + k))
def gw_ty (c : Nat) : Nat → FieldType := match c with
  | 0 => tyX0
  | 1 => tyX1
  | 2 => tyX2
  | 3 => tyX3
  | 4 => tyX4
  | _ => tyX5
def gw_isr (t : FieldType) : Bool := match t with
  | .object _ => true
  | .array _ => true
  | _ => false
abbrev gw_isR (c k : Nat) : Bool := gw_isr (gw_ty c k)
def gw_fs (a0 : Nat) (I : Nat → Int) (F : Nat → Option Nat) (c n : Nat) : List Value := (List.range n).map (fun k => if gw_isR c k = true then va_rf ((F k).map (fun k => a0 + k)) else .int (Int32.ofInt (I k)))
def gw_cell (E : gw_E) (sh : Nat × Nat) (I : Nat → Int) (F : Nat → Option Nat) : va_E := match sh.1 with
  | 10 => .inl (E.2.1, sh.2, .inl (fun i => Int32.ofInt (I i)))
  | 11 => .inl (E.2.2.1, sh.2, .inl (fun i => Int32.ofInt (I i)))
  | 12 => .inl (E.2.2.2.1, sh.2, .inr (.inr (.inr (.inr (fun i => (F i).map (fun k => gw_a E + k))))))
  | 13 => .inl (E.2.2.2.2.1, sh.2, .inr (.inr (.inr (.inr (fun i => (F i).map (fun k => gw_a E + k))))))
  | c => .inr (c, gw_fs (gw_a E) I F c sh.2)
def gw_SH : List (Nat × Nat) := [(4, 12), (2, 10), (0, 7), (10, 4), (10, 4), (10, 4), (10, 4), (10, 4), (1, 5), (10, 24), (10, 150), (10, 3), (3, 12), (0, 7), (10, 4), (10, 4), (10, 4), (10, 4), (10, 4), (1, 5), (10, 24), (13, 32), (10, 7), (10, 7), (10, 7), (10, 7), (10, 7), (10, 7), (10, 7), (10, 7), (10, 7), (10, 7), (10, 7), (10, 7), (10, 7), (10, 7), (10, 7), (10, 7), (10, 7), (10, 7), (10, 7), (10, 7), (10, 7), (10, 7), (10, 7), (10, 7), (10, 7), (10, 7), (10, 7), (10, 7), (10, 7), (10, 7), (10, 7), (10, 7), (10, 32), (13, 8), (10, 784), (10, 784), (10, 784), (10, 784), (10, 784), (10, 784), (10, 784), (10, 784), (10, 784), (10, 7), (10, 784), (10, 784), (10, 9), (10, 32), (12, 10), (12, 2), (11, 2), (10, 6), (10, 6), (1, 5), (10, 24), (1, 5), (10, 24), (1, 5), (10, 24), (1, 5), (10, 24), (1, 5), (10, 24), (1, 5), (10, 24), (1, 5), (10, 24), (1, 5), (10, 24), (1, 5), (10, 24), (1, 5), (10, 24), (1, 5), (10, 24), (1, 5), (10, 24), (5, 23), (10, 20), (10, 36), (10, 360), (11, 2), (10, 72), (10, 6), (10, 6), (10, 20), (10, 36), (10, 150), (10, 6272), (10, 8), (10, 6272), (10, 8)]
def gw_sh (k : Nat) : Nat × Nat := gw_SH.getD k (99, 0)
/-- the heap holds the memory, and nothing behind it -/
def gw_P (E : gw_E) (μ : gw_M) (H : Heap) : Prop := H.size = gw_a E + μ.1 ∧ ∀ k, k < μ.1 → va_at E.1 vwCl (gw_a E + k, gw_cell E (gw_sh k) (μ.2.1 k) (μ.2.2 k)) H
abbrev gw_tys (E : gw_E) : List (ClassId × FieldType) := [(E.2.1, .int), (E.2.2.1, .boolean), (E.2.2.2.1, .object RX1), (E.2.2.2.2.1, .array .int)]
def gw_Nw (s : State) : Prop := ∀ (a : String) (i : Nat) (x : MethodName) (h : String), Cond.methodLinkNest a i x h ∈ tables_1 → va_Nw (.methodLinkNest a i x h) s
def gw_AO (s : State) : Prop := (Cond.arrayOver (.array .int)).before #[] s = true
def gw_K (E : gw_E) (s : State) : Prop := va_K E.1 vwCl (gw_tys E) s ∧ gw_Nw s ∧ va_AO RX1 s ∧ gw_AO s
def gw_Tb : List Cond := lw_tbl.filter goodWord
/-- what holds of a method's frame -/
def gw_X (E : gw_E) (j : gw_J) (p : Program) (s : State) (m : MethodId) (args : Array Value) (meth : Method) (c : Code) : Prop := p.tables.exec = Jvm.exec ∧ c.code = j.2.1 ∧ c.maxLocals = j.2.2.1 ∧ s.vm.findClass j.1.cls = some m.cls ∧ (∀ w ∈ gw_Tb, w.before args s = true) ∧ meth.locks = false ∧ meth.sig.returnType = j.2.2.2.1 ∧ meth.name = j.1.name ∧ gw_K E s
/-- the locals -/
def gw_L (a0 nL : Nat) (lsA : Array Slot) (ls : List (Option gw_V)) : Prop := lsA.size = nL ∧ lv_wf lsA ∧ ∀ (i : Nat) (v : gw_V), ls[i]? = some (some v) → lsA[i]? = some (.val (gw_val a0 v))
abbrev gw_A (E : gw_E) : Nat → Prop := fun q => gw_a E ≤ q
abbrev gw_C : Type := gw_E → Room → State → Array Value → List Frame → (State → Prop) → Prop
/-- THE JUDGEMENT: method j, at pc, with locals ls, stack st and memory μ, u cells and w slots made so far, comes to an end that the context C asks for -/
def gw_G (C : gw_C) (j : gw_J) (pc : Nat) (ls : List (Option gw_V)) (st : List gw_V) (μ : gw_M) (u w : Nat) : Prop :=
  ∀ (E : gw_E) (p : Program) (l : Launch) (e : Env) (R : Room) (s : State) (m : MethodId) (args : Array Value) (below : List Frame) (meth : Method) (c : Code) (Z : State → Prop), C E R s args below Z → gw_X E j p s m args meth c →
  ∀ (H : Heap) (locs : List Loc) (lsA : Array Slot), gw_P E μ H → va_S (gw_A E) s.heap H locs → gw_L (gw_a E) j.2.2.1 lsA ls → W p l e R s m args below meth c H locs u w Z (F0 m pc lsA (st.map (gw_val (gw_a E))))
/-- an Int that an int holds as it is -/
def gw_in (x : Int) : Prop := -2147483648 ≤ x ∧ x ≤ 2147483647
theorem gw_toInt {x : Int} (h : gw_in x) : (Int32.ofInt x).toInt = x := by
  obtain ⟨h1, h2⟩ := h
  have hs : Int32.size = 4294967296 := rfl
  rw [Int32.toInt_ofInt, hs]
  exact Int.bmod_eq_of_le (by omega) (by omega)
theorem gw_ofInt (x : Int32) : Int32.ofInt x.toInt = x := Int32.ofInt_toInt x
theorem gw_inI (x : Int32) : gw_in x.toInt := ⟨x.minValue_le_toInt, x.toInt_le⟩
theorem gw_lt {x y : Int} (hx : gw_in x) (hy : gw_in y) : Int32.ofInt x < Int32.ofInt y ↔ x < y := by
  rw [Int32.lt_iff_toInt_lt, gw_toInt hx, gw_toInt hy]
theorem gw_le {x y : Int} (hx : gw_in x) (hy : gw_in y) : Int32.ofInt x ≤ Int32.ofInt y ↔ x ≤ y := by
  rw [Int32.le_iff_toInt_le, gw_toInt hx, gw_toInt hy]
theorem gw_eq {x y : Int} (hx : gw_in x) (hy : gw_in y) : Int32.ofInt x = Int32.ofInt y ↔ x = y := by
  constructor
  · intro h
    have h := congrArg Int32.toInt h
    rwa [gw_toInt hx, gw_toInt hy] at h
  · intro h; rw [h]
theorem gw_0 : Int32.ofInt 0 = 0 := by decide
theorem gw_in0 : gw_in 0 := by unfold gw_in; omega
theorem gw_nat {i n : Nat} {x : Int} (hx : x = (i : Int)) (hi : i < n) (hn : n < 2147483648) : vp_in (Int32.ofInt x) n ∧ (Int32.ofInt x).toNatClampNeg = i := by
  have hg : gw_in x := by unfold gw_in; omega
  have h := gw_toInt hg
  have h2 : (Int32.ofInt x).toNatClampNeg = i := by
    rw [Int32.toNatClampNeg, h, hx]
    rfl
  refine ⟨?_, h2⟩
  unfold vp_in
  rw [h2]
  rintro (h3 | h3)
  · rw [Int32.lt_iff_toInt_lt, h, Int32.toInt_zero] at h3
    omega
  · omega
theorem gw_cat (a0 : Nat) (v : gw_V) : (gw_val a0 v).category = 1 := by
  rcases v with x | (_ | k) <;> rfl
theorem gw_sum (a0 : Nat) (st : List gw_V) : ((st.map (gw_val a0)).map fun v => v.category).sum = st.length := by
  induction st with
  | nil => rfl
  | cons v t ih => simp only [List.map_cons, List.sum_cons, List.length_cons, ih, gw_cat]; omega
section GW
variable {C : gw_C} {j : gw_J} {pc : Nat} {ls : List (Option gw_V)} {st : List gw_V} {μ : gw_M} {u w : Nat}
theorem gr_iconst {n : Int} (hd : decode j.2.1 pc = .ok (.iconst n, 1)) (k : gw_G C j (pc + 1) ls (.inl n :: st) μ u w) : gw_G C j pc ls st μ u w := by
  intro E p l e R s m args below meth c Z hC hX H locs lsA hP hS hL
  exact lv_iconst hX.1 hX.2.1 hd rfl (k E p l e R s m args below meth c Z hC hX H locs lsA hP hS hL)
theorem gr_bipush {n : Int} (hd : decode j.2.1 pc = .ok (.bipush n, 2)) (hn : (Int8.ofInt n).toInt32 = Int32.ofInt n) (k : gw_G C j (pc + 2) ls (.inl n :: st) μ u w) : gw_G C j pc ls st μ u w := by
  intro E p l e R s m args below meth c Z hC hX H locs lsA hP hS hL
  exact lv_bipush hX.1 hX.2.1 hd hn (k E p l e R s m args below meth c Z hC hX H locs lsA hP hS hL)
theorem gr_sipush {n : Int} (hd : decode j.2.1 pc = .ok (.sipush n, 3)) (hn : (Int16.ofInt n).toInt32 = Int32.ofInt n) (k : gw_G C j (pc + 3) ls (.inl n :: st) μ u w) : gw_G C j pc ls st μ u w := by
  intro E p l e R s m args below meth c Z hC hX H locs lsA hP hS hL
  exact lv_sipush hX.1 hX.2.1 hd hn (k E p l e R s m args below meth c Z hC hX H locs lsA hP hS hL)
theorem gr_ldc {i : Nat} {v : Int} (hd : decode j.2.1 pc = .ok (.ldc i, 2)) (hw : Cond.constant j.1.cls i (Int32.ofInt v) ∈ gw_Tb) (k : gw_G C j (pc + 2) ls (.inl v :: st) μ u w) : gw_G C j pc ls st μ u w := by
  intro E p l e R s m args below meth c Z hC hX H locs lsA hP hS hL
  exact lv_ldc hX.1 hX.2.1 hX.2.2.2.1 (hX.2.2.2.2.1 _ hw) hd (k E p l e R s m args below meth c Z hC hX H locs lsA hP hS hL)
theorem gr_ldcw {i : Nat} {v : Int} (hd : decode j.2.1 pc = .ok (.ldc_w i, 3)) (hw : Cond.constant j.1.cls i (Int32.ofInt v) ∈ gw_Tb) (k : gw_G C j (pc + 3) ls (.inl v :: st) μ u w) : gw_G C j pc ls st μ u w := by
  intro E p l e R s m args below meth c Z hC hX H locs lsA hP hS hL
  exact lv_ldcw hX.1 hX.2.1 hX.2.2.2.1 (hX.2.2.2.2.1 _ hw) hd (k E p l e R s m args below meth c Z hC hX H locs lsA hP hS hL)
theorem gr_iload_n {k : Fin 4} {x : Int} (hd : decode j.2.1 pc = .ok (.iload_n k, 1)) (hl : ls[(k : Nat)]? = some (some (.inl x))) (kk : gw_G C j (pc + 1) ls (.inl x :: st) μ u w) : gw_G C j pc ls st μ u w := by
  intro E p l e R s m args below meth c Z hC hX H locs lsA hP hS hL
  exact lv_iload_n hX.1 hX.2.1 hd rfl (hL.2.2 _ _ hl) (kk E p l e R s m args below meth c Z hC hX H locs lsA hP hS hL)
theorem gr_iload {k : Nat} {x : Int} (hd : decode j.2.1 pc = .ok (.iload k, 2)) (hl : ls[k]? = some (some (.inl x))) (kk : gw_G C j (pc + 2) ls (.inl x :: st) μ u w) : gw_G C j pc ls st μ u w := by
  intro E p l e R s m args below meth c Z hC hX H locs lsA hP hS hL
  exact lv_iload hX.1 hX.2.1 hd (hL.2.2 _ _ hl) (kk E p l e R s m args below meth c Z hC hX H locs lsA hP hS hL)
theorem gr_aload_n {k : Fin 4} {q : Nat} (hd : decode j.2.1 pc = .ok (.aload_n k, 1)) (hl : ls[(k : Nat)]? = some (some (.inr (some q)))) (kk : gw_G C j (pc + 1) ls (.inr (some q) :: st) μ u w) : gw_G C j pc ls st μ u w := by
  intro E p l e R s m args below meth c Z hC hX H locs lsA hP hS hL
  exact lv_aload_n hX.1 hX.2.1 hd rfl (hL.2.2 _ _ hl) (kk E p l e R s m args below meth c Z hC hX H locs lsA hP hS hL)
theorem gr_aload {k q : Nat} (hd : decode j.2.1 pc = .ok (.aload k, 2)) (hl : ls[k]? = some (some (.inr (some q)))) (kk : gw_G C j (pc + 2) ls (.inr (some q) :: st) μ u w) : gw_G C j pc ls st μ u w := by
  intro E p l e R s m args below meth c Z hC hX H locs lsA hP hS hL
  exact lv_aload hX.1 hX.2.1 hd (hL.2.2 _ _ hl) (kk E p l e R s m args below meth c Z hC hX H locs lsA hP hS hL)
def gw_lv (a0 : Nat) (ls : List (Option gw_V)) : List (Nat × Value) := (List.range ls.length).filterMap (fun i => (ls[i]?.join).map (fun v => (i, gw_val a0 v)))
theorem gw_lv_in {a0 : Nat} {ls : List (Option gw_V)} {i : Nat} {v : gw_V} (h : ls[i]? = some (some v)) : (i, gw_val a0 v) ∈ gw_lv a0 ls := by
  unfold gw_lv
  refine List.mem_filterMap.mpr ⟨i, List.mem_range.mpr (List.getElem?_eq_some_iff.mp h).1, ?_⟩
  rw [h]
  rfl
theorem gw_lv_has {a0 nL : Nat} {lsA : Array Slot} {ls : List (Option gw_V)} (h : gw_L a0 nL lsA ls) : lv_has lsA nL (gw_lv a0 ls) := by
  refine ⟨h.1, h.2.1, fun q hq => ?_⟩
  obtain ⟨i, -, hi⟩ := List.mem_filterMap.mp hq
  obtain ⟨v, hv, rfl⟩ := Option.map_eq_some_iff.mp hi
  exact h.2.2 i v (by
    cases hz : ls[i]? with
    | none => rw [hz] at hv; cases hv
    | some z => rw [hz] at hv; exact congrArg some hv)
theorem gw_lv_set {a0 nL i : Nat} {lsA : Array Slot} {ls : List (Option gw_V)} {v : gw_V} (h : lv_has lsA nL ((i, gw_val a0 v) :: (gw_lv a0 ls).filter (fun q => !(q.1 == i) && !(q.1 + 1 == i && q.2.category == 2)))) : gw_L a0 nL lsA (ls.set i (some v)) := by
  refine ⟨h.1, h.2.1, fun k x hk => ?_⟩
  by_cases hki : k = i
  · subst hki
    have hlt : k < ls.length := by
      have := (List.getElem?_eq_some_iff.mp hk).1
      simpa using this
    rw [List.getElem?_set_self hlt] at hk
    cases hk
    exact h.2.2 _ List.mem_cons_self
  · rw [List.getElem?_set_ne (fun q => hki q.symm)] at hk
    refine h.2.2 (k, gw_val a0 x) (List.mem_cons_of_mem _ (List.mem_filter.mpr ⟨gw_lv_in hk, ?_⟩))
    simp [hki, gw_cat]
theorem gr_istore_n {k : Fin 4} {x : Int} (hd : decode j.2.1 pc = .ok (.istore_n k, 1)) (hn : (k : Nat) < j.2.2.1) (kk : gw_G C j (pc + 1) (ls.set (k : Nat) (some (.inl x))) st μ u w) : gw_G C j pc ls (.inl x :: st) μ u w := by
  intro E p l e R s m args below meth c Z hC hX H locs lsA hP hS hL
  exact lv_istore_n hX.1 hX.2.1 hd rfl (gw_lv_has hL) hn rfl (fun ls' h' => kk E p l e R s m args below meth c Z hC hX H locs ls' hP hS (gw_lv_set (v := .inl x) h'))
theorem gr_istore {k : Nat} {x : Int} (hd : decode j.2.1 pc = .ok (.istore k, 2)) (hn : k < j.2.2.1) (kk : gw_G C j (pc + 2) (ls.set k (some (.inl x))) st μ u w) : gw_G C j pc ls (.inl x :: st) μ u w := by
  intro E p l e R s m args below meth c Z hC hX H locs lsA hP hS hL
  exact lv_istore hX.1 hX.2.1 hd (gw_lv_has hL) hn rfl (fun ls' h' => kk E p l e R s m args below meth c Z hC hX H locs ls' hP hS (gw_lv_set (v := .inl x) h'))
theorem gr_astore_n {k : Fin 4} {q : Nat} (hd : decode j.2.1 pc = .ok (.astore_n k, 1)) (hn : (k : Nat) < j.2.2.1) (kk : gw_G C j (pc + 1) (ls.set (k : Nat) (some (.inr (some q)))) st μ u w) : gw_G C j pc ls (.inr (some q) :: st) μ u w := by
  intro E p l e R s m args below meth c Z hC hX H locs lsA hP hS hL
  exact lv_astore_n hX.1 hX.2.1 hd rfl (gw_lv_has hL) hn rfl (fun ls' h' => kk E p l e R s m args below meth c Z hC hX H locs ls' hP hS (gw_lv_set (v := .inr (some q)) h'))
theorem gr_astore {k : Nat} {q : Nat} (hd : decode j.2.1 pc = .ok (.astore k, 2)) (hn : k < j.2.2.1) (kk : gw_G C j (pc + 2) (ls.set k (some (.inr (some q)))) st μ u w) : gw_G C j pc ls (.inr (some q) :: st) μ u w := by
  intro E p l e R s m args below meth c Z hC hX H locs lsA hP hS hL
  exact lv_astore hX.1 hX.2.1 hd (gw_lv_has hL) hn rfl (fun ls' h' => kk E p l e R s m args below meth c Z hC hX H locs ls' hP hS (gw_lv_set (v := .inr (some q)) h'))
theorem gr_iinc {i : Nat} {n x v : Int} (hd : decode j.2.1 pc = .ok (.iinc i n, 3)) (hn : i < j.2.2.1) (hl : ls[i]? = some (some (.inl x))) (hv : x + n = v) (kk : gw_G C j (pc + 3) (ls.set i (some (.inl v))) st μ u w) : gw_G C j pc ls st μ u w := by
  intro E p l e R s m args below meth c Z hC hX H locs lsA hP hS hL
  obtain ⟨k, hk⟩ := List.getElem?_of_mem (gw_lv_in (a0 := gw_a E) hl)
  exact lv_iinc (v := Int32.ofInt v) hX.1 hX.2.1 hd (gw_lv_has hL) hk (by rw [← hv, Int32.ofInt_add]) hn rfl (fun ls' h' => kk E p l e R s m args below meth c Z hC hX H locs ls' hP hS (gw_lv_set (v := .inl v) h'))
theorem gr_iadd {x y v : Int} (hd : decode j.2.1 pc = .ok (.iadd, 1)) (hv : x + y = v) (k : gw_G C j (pc + 1) ls (.inl v :: st) μ u w) : gw_G C j pc ls (.inl y :: .inl x :: st) μ u w := by
  intro E p l e R s m args below meth c Z hC hX H locs lsA hP hS hL
  have k := k E p l e R s m args below meth c Z hC hX H locs lsA hP hS hL
  rw [← hv] at k
  refine lv_iadd hX.1 hX.2.1 hd ?_
  rw [← Int32.ofInt_add]
  exact k
theorem gr_isub {x y v : Int} (hd : decode j.2.1 pc = .ok (.isub, 1)) (hv : x - y = v) (k : gw_G C j (pc + 1) ls (.inl v :: st) μ u w) : gw_G C j pc ls (.inl y :: .inl x :: st) μ u w := by
  intro E p l e R s m args below meth c Z hC hX H locs lsA hP hS hL
  have k := k E p l e R s m args below meth c Z hC hX H locs lsA hP hS hL
  rw [← hv] at k
  refine lv_isub hX.1 hX.2.1 hd ?_
  rw [← Int32.ofInt_sub]
  exact k
theorem gr_imul {x y v : Int} (hd : decode j.2.1 pc = .ok (.imul, 1)) (hv : x * y = v) (k : gw_G C j (pc + 1) ls (.inl v :: st) μ u w) : gw_G C j pc ls (.inl y :: .inl x :: st) μ u w := by
  intro E p l e R s m args below meth c Z hC hX H locs lsA hP hS hL
  have k := k E p l e R s m args below meth c Z hC hX H locs lsA hP hS hL
  rw [← hv] at k
  refine lv_imul hX.1 hX.2.1 hd ?_
  rw [← Int32.ofInt_mul]
  exact k
theorem gr_iand {x y v : Int} (hd : decode j.2.1 pc = .ok (.iand, 1)) (hv : Int32.ofInt x &&& Int32.ofInt y = Int32.ofInt v) (k : gw_G C j (pc + 1) ls (.inl v :: st) μ u w) : gw_G C j pc ls (.inl y :: .inl x :: st) μ u w := by
  intro E p l e R s m args below meth c Z hC hX H locs lsA hP hS hL
  refine lv_iand hX.1 hX.2.1 hd ?_
  rw [hv]
  exact k E p l e R s m args below meth c Z hC hX H locs lsA hP hS hL
theorem gr_ior {x y v : Int} (hd : decode j.2.1 pc = .ok (.ior, 1)) (hv : Int32.ofInt x ||| Int32.ofInt y = Int32.ofInt v) (k : gw_G C j (pc + 1) ls (.inl v :: st) μ u w) : gw_G C j pc ls (.inl y :: .inl x :: st) μ u w := by
  intro E p l e R s m args below meth c Z hC hX H locs lsA hP hS hL
  refine lv_ior hX.1 hX.2.1 hd ?_
  rw [hv]
  exact k E p l e R s m args below meth c Z hC hX H locs lsA hP hS hL
theorem gr_ixor {x y v : Int} (hd : decode j.2.1 pc = .ok (.ixor, 1)) (hv : Int32.ofInt x ^^^ Int32.ofInt y = Int32.ofInt v) (k : gw_G C j (pc + 1) ls (.inl v :: st) μ u w) : gw_G C j pc ls (.inl y :: .inl x :: st) μ u w := by
  intro E p l e R s m args below meth c Z hC hX H locs lsA hP hS hL
  refine lv_ixor hX.1 hX.2.1 hd ?_
  rw [hv]
  exact k E p l e R s m args below meth c Z hC hX H locs lsA hP hS hL
theorem gr_ishl {x y v : Int} (hd : decode j.2.1 pc = .ok (.ishl, 1)) (hv : Int32.ofInt x <<< (Int32.ofInt y &&& 31) = Int32.ofInt v) (k : gw_G C j (pc + 1) ls (.inl v :: st) μ u w) : gw_G C j pc ls (.inl y :: .inl x :: st) μ u w := by
  intro E p l e R s m args below meth c Z hC hX H locs lsA hP hS hL
  refine lv_ishl hX.1 hX.2.1 hd ?_
  rw [hv]
  exact k E p l e R s m args below meth c Z hC hX H locs lsA hP hS hL
theorem gr_ishr {x y v : Int} (hd : decode j.2.1 pc = .ok (.ishr, 1)) (hv : Int32.ofInt x >>> (Int32.ofInt y &&& 31) = Int32.ofInt v) (k : gw_G C j (pc + 1) ls (.inl v :: st) μ u w) : gw_G C j pc ls (.inl y :: .inl x :: st) μ u w := by
  intro E p l e R s m args below meth c Z hC hX H locs lsA hP hS hL
  refine lv_ishr hX.1 hX.2.1 hd ?_
  rw [hv]
  exact k E p l e R s m args below meth c Z hC hX H locs lsA hP hS hL
theorem gr_iushr {x y v : Int} (hd : decode j.2.1 pc = .ok (.iushr, 1)) (hv : ((Int32.ofInt x).toUInt32 >>> ((Int32.ofInt y).toUInt32 &&& Int32.toUInt32 31)).toInt32 = Int32.ofInt v) (k : gw_G C j (pc + 1) ls (.inl v :: st) μ u w) : gw_G C j pc ls (.inl y :: .inl x :: st) μ u w := by
  intro E p l e R s m args below meth c Z hC hX H locs lsA hP hS hL
  exact lv_iushr hX.1 hX.2.1 hd hv (k E p l e R s m args below meth c Z hC hX H locs lsA hP hS hL)
theorem gr_idiv {x y v : Int} (hd : decode j.2.1 pc = .ok (.idiv, 1)) (hy : ¬ Int32.ofInt y = 0) (hv : Int32.ofInt x / Int32.ofInt y = Int32.ofInt v) (k : gw_G C j (pc + 1) ls (.inl v :: st) μ u w) : gw_G C j pc ls (.inl y :: .inl x :: st) μ u w := by
  intro E p l e R s m args below meth c Z hC hX H locs lsA hP hS hL
  refine lv_idiv hX.1 hX.2.1 hd hy ?_
  rw [hv]
  exact k E p l e R s m args below meth c Z hC hX H locs lsA hP hS hL
theorem gr_irem {x y v : Int} (hd : decode j.2.1 pc = .ok (.irem, 1)) (hy : ¬ Int32.ofInt y = 0) (hv : Int32.ofInt x - Int32.ofInt x / Int32.ofInt y * Int32.ofInt y = Int32.ofInt v) (k : gw_G C j (pc + 1) ls (.inl v :: st) μ u w) : gw_G C j pc ls (.inl y :: .inl x :: st) μ u w := by
  intro E p l e R s m args below meth c Z hC hX H locs lsA hP hS hL
  refine lv_irem hX.1 hX.2.1 hd hy ?_
  rw [hv]
  exact k E p l e R s m args below meth c Z hC hX H locs lsA hP hS hL
theorem gr_ineg {x v : Int} (hd : decode j.2.1 pc = .ok (.ineg, 1)) (hv : -x = v) (k : gw_G C j (pc + 1) ls (.inl v :: st) μ u w) : gw_G C j pc ls (.inl x :: st) μ u w := by
  intro E p l e R s m args below meth c Z hC hX H locs lsA hP hS hL
  have k := k E p l e R s m args below meth c Z hC hX H locs lsA hP hS hL
  rw [← hv] at k
  refine lv_ineg hX.1 hX.2.1 hd ?_
  rw [← Int32.ofInt_neg]
  exact k
theorem gr_dup {v : gw_V} (hd : decode j.2.1 pc = .ok (.dup, 1)) (k : gw_G C j (pc + 1) ls (v :: v :: st) μ u w) : gw_G C j pc ls (v :: st) μ u w := by
  intro E p l e R s m args below meth c Z hC hX H locs lsA hP hS hL
  exact lv_dup hX.1 hX.2.1 hd (gw_cat _ _) (k E p l e R s m args below meth c Z hC hX H locs lsA hP hS hL)
theorem gr_dup2 {v v' : gw_V} (hd : decode j.2.1 pc = .ok (.dup2, 1)) (k : gw_G C j (pc + 1) ls (v :: v' :: v :: v' :: st) μ u w) : gw_G C j pc ls (v :: v' :: st) μ u w := by
  intro E p l e R s m args below meth c Z hC hX H locs lsA hP hS hL
  exact lv_dup2_11 hX.1 hX.2.1 hd (gw_cat _ _) (gw_cat _ _) (k E p l e R s m args below meth c Z hC hX H locs lsA hP hS hL)
theorem gr_goto {off : Int} (tgt : Nat) (hd : decode j.2.1 pc = .ok (.goto off, 3)) (ht : (pc : Int) + off = (tgt : Int)) (k : gw_G C j tgt ls st μ u w) : gw_G C j pc ls st μ u w := by
  intro E p l e R s m args below meth c Z hC hX H locs lsA hP hS hL
  exact lv_goto hX.1 hX.2.1 hd ht (k E p l e R s m args below meth c Z hC hX H locs lsA hP hS hL)
theorem gr_icmp_eq {x y off : Int} (tgt : Nat) (hd : decode j.2.1 pc = .ok (.if_icmp .eq off, 3)) (ht : (pc : Int) + off = (tgt : Int)) (hx : gw_in x) (hy : gw_in y) (kt : x = y → gw_G C j tgt ls st μ u w) (kf : x ≠ y → gw_G C j (pc + 3) ls st μ u w) : gw_G C j pc ls (.inl y :: .inl x :: st) μ u w := by
  intro E p l e R s m args below meth c Z hC hX H locs lsA hP hS hL
  exact lv_icmp_eq hX.1 hX.2.1 hd ht (fun h => kt ((gw_eq hx hy).mp h) E p l e R s m args below meth c Z hC hX H locs lsA hP hS hL) (fun h => kf (fun q => h ((gw_eq hx hy).mpr q)) E p l e R s m args below meth c Z hC hX H locs lsA hP hS hL)
theorem gr_if_eq {x off : Int} (tgt : Nat) (hd : decode j.2.1 pc = .ok (.ifCond .eq off, 3)) (ht : (pc : Int) + off = (tgt : Int)) (hx : gw_in x) (kt : x = 0 → gw_G C j tgt ls st μ u w) (kf : x ≠ 0 → gw_G C j (pc + 3) ls st μ u w) : gw_G C j pc ls (.inl x :: st) μ u w := by
  intro E p l e R s m args below meth c Z hC hX H locs lsA hP hS hL
  have hy := gw_in0
  exact lv_if_eq hX.1 hX.2.1 hd ht (fun h => by rw [← gw_0] at h; exact kt ((gw_eq hx hy).mp h) E p l e R s m args below meth c Z hC hX H locs lsA hP hS hL) (fun h => by rw [← gw_0] at h; exact kf (fun q => h ((gw_eq hx hy).mpr q)) E p l e R s m args below meth c Z hC hX H locs lsA hP hS hL)
theorem gr_icmp_ne {x y off : Int} (tgt : Nat) (hd : decode j.2.1 pc = .ok (.if_icmp .ne off, 3)) (ht : (pc : Int) + off = (tgt : Int)) (hx : gw_in x) (hy : gw_in y) (kt : x ≠ y → gw_G C j tgt ls st μ u w) (kf : x = y → gw_G C j (pc + 3) ls st μ u w) : gw_G C j pc ls (.inl y :: .inl x :: st) μ u w := by
  intro E p l e R s m args below meth c Z hC hX H locs lsA hP hS hL
  exact lv_icmp_ne hX.1 hX.2.1 hd ht (fun h => kt (fun q => h ((gw_eq hx hy).mpr q)) E p l e R s m args below meth c Z hC hX H locs lsA hP hS hL) (fun h => kf ((gw_eq hx hy).mp h) E p l e R s m args below meth c Z hC hX H locs lsA hP hS hL)
theorem gr_if_ne {x off : Int} (tgt : Nat) (hd : decode j.2.1 pc = .ok (.ifCond .ne off, 3)) (ht : (pc : Int) + off = (tgt : Int)) (hx : gw_in x) (kt : x ≠ 0 → gw_G C j tgt ls st μ u w) (kf : x = 0 → gw_G C j (pc + 3) ls st μ u w) : gw_G C j pc ls (.inl x :: st) μ u w := by
  intro E p l e R s m args below meth c Z hC hX H locs lsA hP hS hL
  have hy := gw_in0
  exact lv_if_ne hX.1 hX.2.1 hd ht (fun h => by rw [← gw_0] at h; exact kt (fun q => h ((gw_eq hx hy).mpr q)) E p l e R s m args below meth c Z hC hX H locs lsA hP hS hL) (fun h => by rw [← gw_0] at h; exact kf ((gw_eq hx hy).mp h) E p l e R s m args below meth c Z hC hX H locs lsA hP hS hL)
theorem gr_icmp_lt {x y off : Int} (tgt : Nat) (hd : decode j.2.1 pc = .ok (.if_icmp .lt off, 3)) (ht : (pc : Int) + off = (tgt : Int)) (hx : gw_in x) (hy : gw_in y) (kt : x < y → gw_G C j tgt ls st μ u w) (kf : y ≤ x → gw_G C j (pc + 3) ls st μ u w) : gw_G C j pc ls (.inl y :: .inl x :: st) μ u w := by
  intro E p l e R s m args below meth c Z hC hX H locs lsA hP hS hL
  exact lv_icmp_lt hX.1 hX.2.1 hd ht (fun h => kt ((gw_lt hx hy).mp h) E p l e R s m args below meth c Z hC hX H locs lsA hP hS hL) (fun h => kf (Int.not_lt.mp fun q => h ((gw_lt hx hy).mpr q)) E p l e R s m args below meth c Z hC hX H locs lsA hP hS hL)
theorem gr_if_lt {x off : Int} (tgt : Nat) (hd : decode j.2.1 pc = .ok (.ifCond .lt off, 3)) (ht : (pc : Int) + off = (tgt : Int)) (hx : gw_in x) (kt : x < 0 → gw_G C j tgt ls st μ u w) (kf : 0 ≤ x → gw_G C j (pc + 3) ls st μ u w) : gw_G C j pc ls (.inl x :: st) μ u w := by
  intro E p l e R s m args below meth c Z hC hX H locs lsA hP hS hL
  have hy := gw_in0
  exact lv_if_lt hX.1 hX.2.1 hd ht (fun h => by rw [← gw_0] at h; exact kt ((gw_lt hx hy).mp h) E p l e R s m args below meth c Z hC hX H locs lsA hP hS hL) (fun h => by rw [← gw_0] at h; exact kf (Int.not_lt.mp fun q => h ((gw_lt hx hy).mpr q)) E p l e R s m args below meth c Z hC hX H locs lsA hP hS hL)
theorem gr_icmp_ge {x y off : Int} (tgt : Nat) (hd : decode j.2.1 pc = .ok (.if_icmp .ge off, 3)) (ht : (pc : Int) + off = (tgt : Int)) (hx : gw_in x) (hy : gw_in y) (kt : y ≤ x → gw_G C j tgt ls st μ u w) (kf : x < y → gw_G C j (pc + 3) ls st μ u w) : gw_G C j pc ls (.inl y :: .inl x :: st) μ u w := by
  intro E p l e R s m args below meth c Z hC hX H locs lsA hP hS hL
  exact lv_icmp_ge hX.1 hX.2.1 hd ht (fun h => kt ((gw_le hy hx).mp h) E p l e R s m args below meth c Z hC hX H locs lsA hP hS hL) (fun h => kf (Int.not_le.mp fun q => h ((gw_le hy hx).mpr q)) E p l e R s m args below meth c Z hC hX H locs lsA hP hS hL)
theorem gr_if_ge {x off : Int} (tgt : Nat) (hd : decode j.2.1 pc = .ok (.ifCond .ge off, 3)) (ht : (pc : Int) + off = (tgt : Int)) (hx : gw_in x) (kt : 0 ≤ x → gw_G C j tgt ls st μ u w) (kf : x < 0 → gw_G C j (pc + 3) ls st μ u w) : gw_G C j pc ls (.inl x :: st) μ u w := by
  intro E p l e R s m args below meth c Z hC hX H locs lsA hP hS hL
  have hy := gw_in0
  exact lv_if_ge hX.1 hX.2.1 hd ht (fun h => by rw [← gw_0] at h; exact kt ((gw_le hy hx).mp h) E p l e R s m args below meth c Z hC hX H locs lsA hP hS hL) (fun h => by rw [← gw_0] at h; exact kf (Int.not_le.mp fun q => h ((gw_le hy hx).mpr q)) E p l e R s m args below meth c Z hC hX H locs lsA hP hS hL)
theorem gr_icmp_gt {x y off : Int} (tgt : Nat) (hd : decode j.2.1 pc = .ok (.if_icmp .gt off, 3)) (ht : (pc : Int) + off = (tgt : Int)) (hx : gw_in x) (hy : gw_in y) (kt : y < x → gw_G C j tgt ls st μ u w) (kf : x ≤ y → gw_G C j (pc + 3) ls st μ u w) : gw_G C j pc ls (.inl y :: .inl x :: st) μ u w := by
  intro E p l e R s m args below meth c Z hC hX H locs lsA hP hS hL
  exact lv_icmp_gt hX.1 hX.2.1 hd ht (fun h => kt ((gw_lt hy hx).mp h) E p l e R s m args below meth c Z hC hX H locs lsA hP hS hL) (fun h => kf (Int.not_lt.mp fun q => h ((gw_lt hy hx).mpr q)) E p l e R s m args below meth c Z hC hX H locs lsA hP hS hL)
theorem gr_if_gt {x off : Int} (tgt : Nat) (hd : decode j.2.1 pc = .ok (.ifCond .gt off, 3)) (ht : (pc : Int) + off = (tgt : Int)) (hx : gw_in x) (kt : 0 < x → gw_G C j tgt ls st μ u w) (kf : x ≤ 0 → gw_G C j (pc + 3) ls st μ u w) : gw_G C j pc ls (.inl x :: st) μ u w := by
  intro E p l e R s m args below meth c Z hC hX H locs lsA hP hS hL
  have hy := gw_in0
  exact lv_if_gt hX.1 hX.2.1 hd ht (fun h => by rw [← gw_0] at h; exact kt ((gw_lt hy hx).mp h) E p l e R s m args below meth c Z hC hX H locs lsA hP hS hL) (fun h => by rw [← gw_0] at h; exact kf (Int.not_lt.mp fun q => h ((gw_lt hy hx).mpr q)) E p l e R s m args below meth c Z hC hX H locs lsA hP hS hL)
theorem gr_icmp_le {x y off : Int} (tgt : Nat) (hd : decode j.2.1 pc = .ok (.if_icmp .le off, 3)) (ht : (pc : Int) + off = (tgt : Int)) (hx : gw_in x) (hy : gw_in y) (kt : x ≤ y → gw_G C j tgt ls st μ u w) (kf : y < x → gw_G C j (pc + 3) ls st μ u w) : gw_G C j pc ls (.inl y :: .inl x :: st) μ u w := by
  intro E p l e R s m args below meth c Z hC hX H locs lsA hP hS hL
  exact lv_icmp_le hX.1 hX.2.1 hd ht (fun h => kt ((gw_le hx hy).mp h) E p l e R s m args below meth c Z hC hX H locs lsA hP hS hL) (fun h => kf (Int.not_le.mp fun q => h ((gw_le hx hy).mpr q)) E p l e R s m args below meth c Z hC hX H locs lsA hP hS hL)
theorem gr_if_le {x off : Int} (tgt : Nat) (hd : decode j.2.1 pc = .ok (.ifCond .le off, 3)) (ht : (pc : Int) + off = (tgt : Int)) (hx : gw_in x) (kt : x ≤ 0 → gw_G C j tgt ls st μ u w) (kf : 0 < x → gw_G C j (pc + 3) ls st μ u w) : gw_G C j pc ls (.inl x :: st) μ u w := by
  intro E p l e R s m args below meth c Z hC hX H locs lsA hP hS hL
  have hy := gw_in0
  exact lv_if_le hX.1 hX.2.1 hd ht (fun h => by rw [← gw_0] at h; exact kt ((gw_le hx hy).mp h) E p l e R s m args below meth c Z hC hX H locs lsA hP hS hL) (fun h => by rw [← gw_0] at h; exact kf (Int.not_le.mp fun q => h ((gw_le hx hy).mpr q)) E p l e R s m args below meth c Z hC hX H locs lsA hP hS hL)
theorem gr_tableIn {dflt lo hi off x : Int} {offs : Array Int} {len : Nat} (tgt : Nat) (hd : decode j.2.1 pc = .ok (.tableswitch dflt lo hi offs, len)) (hx : gw_in x) (h1 : lo ≤ x) (h2 : x ≤ hi) (ho : offs[(x - lo).toNat]? = some off) (ht : (pc : Int) + off = (tgt : Int)) (k : gw_G C j tgt ls st μ u w) : gw_G C j pc ls (.inl x :: st) μ u w := by
  intro E p l e R s m args below meth c Z hC hX H locs lsA hP hS hL
  exact lv_tableIn hX.1 hX.2.1 hd (by rw [gw_toInt hx]; omega) (by rw [gw_toInt hx]; omega) (by rw [gw_toInt hx]; exact ho) ht (k E p l e R s m args below meth c Z hC hX H locs lsA hP hS hL)
theorem gr_tableOut {dflt lo hi x : Int} {offs : Array Int} {len : Nat} (tgt : Nat) (hd : decode j.2.1 pc = .ok (.tableswitch dflt lo hi offs, len)) (hx : gw_in x) (h : x < lo ∨ hi < x) (ht : (pc : Int) + dflt = (tgt : Int)) (k : gw_G C j tgt ls st μ u w) : gw_G C j pc ls (.inl x :: st) μ u w := by
  intro E p l e R s m args below meth c Z hC hX H locs lsA hP hS hL
  exact lv_tableOut hX.1 hX.2.1 hd (by rw [gw_toInt hx]; exact h) ht (k E p l e R s m args below meth c Z hC hX H locs lsA hP hS hL)
theorem gr_lookup {dflt off x : Int} {ps : Array (Int × Int)} {len : Nat} (tgt : Nat) (hd : decode j.2.1 pc = .ok (.lookupswitch dflt ps, len)) (hp : (ps.toList.zip (ps.toList.drop 1)).all (fun (a, next) => a.1 < next.1) = true) (hx : gw_in x) (ho : Op.lookupswitch.offset ps.toList dflt x = off) (ht : (pc : Int) + off = (tgt : Int)) (k : gw_G C j tgt ls st μ u w) : gw_G C j pc ls (.inl x :: st) μ u w := by
  intro E p l e R s m args below meth c Z hC hX H locs lsA hP hS hL
  exact lv_lookup hX.1 hX.2.1 hd hp (by rw [gw_toInt hx]; exact ho) ht (k E p l e R s m args below meth c Z hC hX H locs lsA hP hS hL)
theorem gr_mmax {i : Nat} {x y : Int} (hd : decode j.2.1 pc = .ok (.invokestatic i, 3)) (hw : Cond.methodLink j.1.cls i Lib.Math.max.name ∈ gw_Tb) (hw2 : Cond.static Lib.Math.max.name ∈ gw_Tb) (hw3 : Cond.initialized "java/lang/Math" ∈ gw_Tb) (hw4 : Cond.code Lib.Math.max.name Lib.Math.max.code 2 (some .int) ∈ gw_Tb) (hR : ∀ E R s args below Z, C E R s args below Z → 1 ≤ R.frames ∧ 34 ≤ R.locals ∧ u ≤ R.cells ∧ w ≤ R.slots) (hx : gw_in x) (hy : gw_in y) (hst : st.length ≤ 8) (k : gw_G C j (pc + 3) ls (.inl (if x < y then y else x) :: st) μ u w) : gw_G C j pc ls (.inl y :: .inl x :: st) μ u w := by
  intro E p l e R s m args below meth c Z hC hX H locs lsA hP hS hL
  have k := k E p l e R s m args below meth c Z hC hX H locs lsA hP hS hL
  obtain ⟨r1, r2, r3, r4⟩ := hR _ _ _ _ _ _ hC
  refine va_mmax hX.1 hX.2.1 (hX.2.2.1.trans hL.1.symm) hX.2.2.2.1 (hX.2.2.2.2.1 _ hw) (hX.2.2.2.2.1 _ hw2) (hX.2.2.2.2.1 _ hw3) (hX.2.2.2.2.1 _ hw4) r1 (by rw [gw_sum]; omega) r3 r4 hd ?_
  have e : (if Int32.ofInt x < Int32.ofInt y then Int32.ofInt y else Int32.ofInt x) = Int32.ofInt (if x < y then y else x) := by
    simp only [gw_lt hx hy]
    split <;> rfl
  rw [e]
  exact k
theorem gr_mmin {i : Nat} {x y : Int} (hd : decode j.2.1 pc = .ok (.invokestatic i, 3)) (hw : Cond.methodLink j.1.cls i Lib.Math.min.name ∈ gw_Tb) (hw2 : Cond.static Lib.Math.min.name ∈ gw_Tb) (hw3 : Cond.initialized "java/lang/Math" ∈ gw_Tb) (hw4 : Cond.code Lib.Math.min.name Lib.Math.min.code 2 (some .int) ∈ gw_Tb) (hR : ∀ E R s args below Z, C E R s args below Z → 1 ≤ R.frames ∧ 34 ≤ R.locals ∧ u ≤ R.cells ∧ w ≤ R.slots) (hx : gw_in x) (hy : gw_in y) (hst : st.length ≤ 8) (k : gw_G C j (pc + 3) ls (.inl (if y < x then y else x) :: st) μ u w) : gw_G C j pc ls (.inl y :: .inl x :: st) μ u w := by
  intro E p l e R s m args below meth c Z hC hX H locs lsA hP hS hL
  have k := k E p l e R s m args below meth c Z hC hX H locs lsA hP hS hL
  obtain ⟨r1, r2, r3, r4⟩ := hR _ _ _ _ _ _ hC
  refine va_mmin hX.1 hX.2.1 (hX.2.2.1.trans hL.1.symm) hX.2.2.2.1 (hX.2.2.2.2.1 _ hw) (hX.2.2.2.2.1 _ hw2) (hX.2.2.2.2.1 _ hw3) (hX.2.2.2.2.1 _ hw4) r1 (by rw [gw_sum]; omega) r3 r4 hd ?_
  have e : (if Int32.ofInt y < Int32.ofInt x then Int32.ofInt y else Int32.ofInt x) = Int32.ofInt (if y < x then y else x) := by
    simp only [gw_lt hy hx]
    split <;> rfl
  rw [e]
  exact k
theorem gr_mabs {i : Nat} {x : Int} (hd : decode j.2.1 pc = .ok (.invokestatic i, 3)) (hw : Cond.methodLink j.1.cls i Lib.Math.abs.name ∈ gw_Tb) (hw2 : Cond.static Lib.Math.abs.name ∈ gw_Tb) (hw3 : Cond.initialized "java/lang/Math" ∈ gw_Tb) (hw4 : Cond.code Lib.Math.abs.name Lib.Math.abs.code 1 (some .int) ∈ gw_Tb) (hR : ∀ E R s args below Z, C E R s args below Z → 1 ≤ R.frames ∧ 34 ≤ R.locals ∧ u ≤ R.cells ∧ w ≤ R.slots) (hx : gw_in x) (hst : st.length ≤ 8) (k : gw_G C j (pc + 3) ls (.inl (if 0 ≤ x then x else 0 - x) :: st) μ u w) : gw_G C j pc ls (.inl x :: st) μ u w := by
  intro E p l e R s m args below meth c Z hC hX H locs lsA hP hS hL
  have k := k E p l e R s m args below meth c Z hC hX H locs lsA hP hS hL
  obtain ⟨r1, r2, r3, r4⟩ := hR _ _ _ _ _ _ hC
  refine va_mabs hX.1 hX.2.1 (hX.2.2.1.trans hL.1.symm) hX.2.2.2.1 (hX.2.2.2.2.1 _ hw) (hX.2.2.2.2.1 _ hw2) (hX.2.2.2.2.1 _ hw3) (hX.2.2.2.2.1 _ hw4) r1 (by rw [gw_sum]; omega) r3 r4 hd ?_
  have e : (if 0 ≤ Int32.ofInt x then Int32.ofInt x else 0 - Int32.ofInt x) = Int32.ofInt (if 0 ≤ x then x else 0 - x) := by
    have h : (0 ≤ Int32.ofInt x) ↔ 0 ≤ x := by
      have h := gw_le gw_in0 hx
      rwa [gw_0] at h
    simp only [h]
    split
    · rfl
    · rw [Int32.ofInt_sub, gw_0]
  rw [e]
  exact k
end GW
