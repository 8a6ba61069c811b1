/-! NEW CELLS -/
def gw_Z {α : Type} (I : Nat → Nat → α) (n : Nat) (v : α) : Nat → Nat → α := fun a b => if a = n then v else I a b
theorem gw_Z_s {α : Type} {I : Nat → Nat → α} {n : Nat} {v : α} : gw_Z I n v n = fun _ => v := funext fun _ => if_pos rfl
theorem gw_Z_r {α : Type} {I : Nat → Nat → α} {n a : Nat} {v : α} (h : a ≠ n) : gw_Z I n v a = I a := funext fun _ => if_neg h
theorem gw_P_push {E : gw_E} {n : Nat} {I I' : Nat → Nat → Int} {F F' : Nat → Nat → Option Nat} {H H1 : Heap} (h : gw_P E (n, I, F) H) (hI : ∀ a, a < n → I' a = I a) (hF : ∀ a, a < n → F' a = F a) (hz : H1.size = H.size + 1) (ho : ∀ q, q < H.size → H1[q]? = H[q]?) (hat : va_at E.1 vwCl (gw_a E + n, gw_cell E (gw_sh n) (I' n) (F' n)) H1) : gw_P E (n + 1, I', F') H1 := by
  have h0 : H.size = gw_a E + n := h.1
  refine ⟨by rw [hz, h0]; rfl, fun a ha => ?_⟩
  by_cases hak : a = n
  · subst hak
    exact hat
  · have ha : a < n + 1 := ha
    have h1 := h.2 a (show a < n by omega)
    dsimp only at h1 ⊢
    rw [hI a (by omega), hF a (by omega)]
    exact h1.kept (ho _ (by dsimp only; omega))
theorem gw_S_push {E : gw_E} {s : State} {H H1 : Heap} {locs : List Loc} (hS : va_S (gw_A E) s.heap H locs) (hz : H.size ≤ H1.size) (ho : ∀ q, q < H.size → H1[q]? = H[q]?) : va_S (gw_A E) s.heap H1 locs :=
  ⟨Nat.le_trans hS.1 hz, fun q h1 h2 => (ho q (Nat.lt_of_lt_of_le h1 hS.1)).trans (hS.2.1 q h1 h2), hS.2.2⟩
section GA
variable {C : gw_C} {j : gw_J} {pc : Nat} {ls : List (Option gw_V)} {st : List gw_V} {n : Nat} {I : Nat → Nat → Int} {F : Nat → Nat → Option Nat} {u w : Nat}
def gw_Bd (C : gw_C) (u w : Nat) : Prop := ∀ E R s args below Z, C E R s args below Z → u ≤ R.cells ∧ w ≤ R.slots
theorem gw_Bd_m {d u w : Nat} {Q : Option gw_V → gw_M → Prop} (hu : u ≤ j.2.2.2.2.1) (hw : w ≤ j.2.2.2.2.2) : gw_Bd (gw_Cm j d Q) u w := by
  intro E R s args below Z hC
  obtain ⟨rfl, rfl⟩ := hC
  exact ⟨hu, hw⟩
theorem gr_newO {idx ci N : Nat} {Cn : String} {T : u_T} (hd : decode j.2.1 pc = .ok (.new idx, 3)) (hw : Cond.classLink j.1.cls idx Cn ∈ gw_Tb) (hc : gw_Cl ci Cn T N) (hdt : ∀ k, k < N → defaultValue (gw_ty ci k) = (if gw_isR ci k = true then .null else .int 0)) (hsh : gw_sh n = (ci, N)) (hb : gw_Bd C (u + 1) (w + N)) (kk : gw_G C j (pc + 3) ls (.inr (some n) :: st) (n + 1, gw_Z I n 0, gw_Z F n none) (u + 1) (w + N)) : gw_G C j pc ls st (n, I, F) u w := by
  intro E p l e R s m args below meth c Z hC hX H locs lsA hP hS hL
  obtain ⟨hv, h6, hws, hty, hnm, hins, hini⟩ := hc
  have hts := hX.2.2.2.2.1
  have hKn := hX.2.2.2.2.2.2.2.2.1.1 ci _ hv
  obtain ⟨b1, b2⟩ := hb _ _ _ _ _ _ hC
  have h0 : H.size = gw_a E + n := hP.1
  refine W.newcK hX.1 hX.2.1 hX.2.2.2.1 (hts _ hw) (hts _ hins) (hts _ hini) rfl hd b1 b2 hKn.2.1 h0 fun H1 kC hkC e1 z1 o1 => ?_
  have o2 : ∀ q, q < H.size → H1[q]? = H[q]? := fun q hq => o1 q (by rw [← h0]; exact hq)
  refine kk E p l e R s m args below meth c Z hC hX H1 locs lsA (gw_P_push hP (fun a h => gw_Z_r (by omega)) (fun a h => gw_Z_r (by omega)) (by rw [z1, h0]) o2 ?_) (gw_S_push hS (by omega) o2) hL
  rw [hsh, gw_cell_o h6]
  refine ⟨_, hv, (u_born (gw_ty ci) hts hws hKn hkC e1 hty).to fun k hk => ?_⟩
  rw [gw_fs_V hk, hdt k hk, gw_Z_s, gw_Z_s]
  rfl
theorem gr_newI {N : Nat} {x : Int} (hd : decode j.2.1 pc = .ok (.newarray .int, 2)) (hw : Cond.arrayClass .int ∈ gw_Tb) (hx : x = (N : Int)) (hN : N < 100000000) (hsh : gw_sh n = (10, N)) (hb : gw_Bd C (u + 1) (w + N)) (kk : gw_G C j (pc + 2) ls (.inr (some n) :: st) (n + 1, gw_Z I n 0, gw_Z F n none) (u + 1) (w + N)) : gw_G C j pc ls (.inl x :: st) (n, I, F) u w := by
  intro E p l e R s m args below meth c Z hC hX H locs lsA hP hS hL
  have hts := hX.2.2.2.2.1
  have hK := hX.2.2.2.2.2.2.2.2.1
  obtain ⟨b1, b2⟩ := hb _ _ _ _ _ _ hC
  have h0 : H.size = gw_a E + n := hP.1
  obtain ⟨h1, h2⟩ := gw_nat (n := N + 1) hx (by omega) (by omega)
  refine va_newaK (atype := .int) hX.1 hX.2.1 (hts _ hw) rfl hd rfl (fun q => h1 (Or.inl q)) h2 (by show N * 4 ≤ _; omega) b1 b2 h0 fun H1 cA e1 z1 o1 hAr hNm => ?_
  have o2 : ∀ q, q < H.size → H1[q]? = H[q]? := fun q hq => o1 q (by rw [← h0]; exact hq)
  have hcA : cA = E.2.1 := Option.some.inj (hNm.symm.trans (hK.2 0 _ rfl).2)
  subst hcA
  refine kk E p l e R s m args below meth c Z hC hX H1 locs lsA (gw_P_push hP (fun a h => gw_Z_r (by omega)) (fun a h => gw_Z_r (by omega)) (by rw [z1, h0]) o2 ?_) (gw_S_push hS (by omega) o2) hL
  rw [hsh, gw_Z_s, gw_Z_s]
  exact e1
theorem gr_newZ {N : Nat} {x : Int} (hd : decode j.2.1 pc = .ok (.newarray .boolean, 2)) (hw : Cond.arrayClass .boolean ∈ gw_Tb) (hx : x = (N : Int)) (hN : N < 100000000) (hsh : gw_sh n = (11, N)) (hb : gw_Bd C (u + 1) (w + N)) (kk : gw_G C j (pc + 2) ls (.inr (some n) :: st) (n + 1, gw_Z I n 0, gw_Z F n none) (u + 1) (w + N)) : gw_G C j pc ls (.inl x :: st) (n, I, F) u w := by
  intro E p l e R s m args below meth c Z hC hX H locs lsA hP hS hL
  have hts := hX.2.2.2.2.1
  have hK := hX.2.2.2.2.2.2.2.2.1
  obtain ⟨b1, b2⟩ := hb _ _ _ _ _ _ hC
  have h0 : H.size = gw_a E + n := hP.1
  obtain ⟨h1, h2⟩ := gw_nat (n := N + 1) hx (by omega) (by omega)
  refine va_newaK (atype := .boolean) hX.1 hX.2.1 (hts _ hw) rfl hd rfl (fun q => h1 (Or.inl q)) h2 (by show N * 1 ≤ _; omega) b1 b2 h0 fun H1 cA e1 z1 o1 hAr hNm => ?_
  have o2 : ∀ q, q < H.size → H1[q]? = H[q]? := fun q hq => o1 q (by rw [← h0]; exact hq)
  have hcA : cA = E.2.2.1 := Option.some.inj (hNm.symm.trans (hK.2 1 _ rfl).2)
  subst hcA
  refine kk E p l e R s m args below meth c Z hC hX H1 locs lsA (gw_P_push hP (fun a h => gw_Z_r (by omega)) (fun a h => gw_Z_r (by omega)) (by rw [z1, h0]) o2 ?_) (gw_S_push hS (by omega) o2) hL
  rw [hsh, gw_Z_s, gw_Z_s]
  exact e1
theorem gr_newP {N idx : Nat} {x : Int} (hd : decode j.2.1 pc = .ok (.anewarray idx, 3)) (hw : Cond.classLink j.1.cls idx RX1 ∈ gw_Tb) (hx : x = (N : Int)) (hN : N < 100000000) (hsh : gw_sh n = (12, N)) (hb : gw_Bd C (u + 1) (w + N)) (kk : gw_G C j (pc + 3) ls (.inr (some n) :: st) (n + 1, gw_Z I n 0, gw_Z F n none) (u + 1) (w + N)) : gw_G C j pc ls (.inl x :: st) (n, I, F) u w := by
  intro E p l e R s m args below meth c Z hC hX H locs lsA hP hS hL
  have hts := hX.2.2.2.2.1
  have hK := hX.2.2.2.2.2.2.2.2.1
  obtain ⟨b1, b2⟩ := hb _ _ _ _ _ _ hC
  have h0 : H.size = gw_a E + n := hP.1
  obtain ⟨h1, h2⟩ := gw_nat (n := N + 1) hx (by omega) (by omega)
  have kk2 : ∀ H1 : Heap, H1[gw_a E + n]? = some (arrV E.2.2.2.1 N (fun _ => .null)) → H1.size = H.size + 1 → (∀ q, q < H.size → H1[q]? = H[q]?) → W p l e R s m args below meth c H1 locs (u + 1) (w + N) Z (F0 m (pc + 3) lsA (.ref (gw_a E + n) :: st.map (gw_val (gw_a E)))) := by
    intro H1 e1 z1 o2
    refine kk E p l e R s m args below meth c Z hC hX H1 locs lsA (gw_P_push hP (fun a h => gw_Z_r (by omega)) (fun a h => gw_Z_r (by omega)) z1 o2 ?_) (gw_S_push hS (by omega) o2) hL
    rw [hsh, gw_Z_s, gw_Z_s]
    exact e1
  refine W.anew hX.1 hX.2.1 hX.2.2.2.1 (hts _ hw) (va_AO.use hX.2.2.2.2.2.2.2.2.2.2.1) rfl hd rfl (fun q => h1 (Or.inl q)) (by rw [h2]; omega) b1 (by rw [h2]; exact b2) fun cA kA comp f1 f2 f3 f4 => ?_
  obtain ⟨kA', comp', k1, k2, k3, k4⟩ := (hK.2 2 _ rfl).2
  have hcA : cA = E.2.2.2.1 := Option.some.inj (f1.symm.trans k4)
  subst hcA
  rw [h2, h0]
  refine kk2 _ ?_ ?_ ?_
  · rw [← h0, Array.getElem?_push_size, ← arrV_new]
  · rw [Array.size_push]
  · intro q hq
    rw [Array.getElem?_push, if_neg (Nat.ne_of_lt hq)]
/-- new int[N][K] -/
theorem gr_newG {N K idx : Nat} {x y : Int} (hd : decode j.2.1 pc = .ok (.multianewarray idx 2, 4)) (hw : Cond.classLink j.1.cls idx "[[I" ∈ gw_Tb) (hw2 : Cond.arrayClass .int ∈ gw_Tb) (hx : x = (N : Int)) (hy : y = (K : Int)) (hN : N < 100000000) (hK' : K < 100000000) (hsh : gw_sh n = (13, N)) (hsh2 : ∀ i, i < N → gw_sh (n + 1 + i) = (10, K)) (hb : gw_Bd C (u + 1 + N) (w + N + N * K)) (kk : ∀ (I' : Nat → Nat → Int) (F' : Nat → Nat → Option Nat), (∀ a, a < n → I' a = I a) → (∀ a, a < n → F' a = F a) → (∀ i, i < N → F' n i = some (n + 1 + i)) → (∀ i, i < N → ∀ k, I' (n + 1 + i) k = 0) → gw_G C j (pc + 4) ls (.inr (some n) :: st) (n + 1 + N, I', F') (u + 1 + N) (w + N + N * K)) : gw_G C j pc ls (.inl y :: .inl x :: st) (n, I, F) u w := by
  intro E p l e R s m args below meth c Z hC hX H locs lsA hP hS hL
  have hts := hX.2.2.2.2.1
  have hK := hX.2.2.2.2.2.2.2.2.1
  obtain ⟨b1, b2⟩ := hb _ _ _ _ _ _ hC
  have h0 : H.size = gw_a E + n := hP.1
  obtain ⟨h1, h2⟩ := gw_nat (n := N + 1) hx (by omega) (by omega)
  obtain ⟨h3, h4⟩ := gw_nat (n := K + 1) hy (by omega) (by omega)
  have hAO : (Cond.arrayOver (.array .int)).before args s = true := hX.2.2.2.2.2.2.2.2.2.2.2
  intro T hT Xs
  obtain ⟨vm₁, cA, comp, -, fA, fC, hO, -, X', step⟩ := Jvm.Stand.multianewarray2F Xs hX.1 (own := j.1.cls) (index := idx) (ty := .int) hX.2.2.2.1 (hts _ hw) hAO (hts _ hw2) (g := F0 m pc lsA ((.inl y :: .inl x :: st : List gw_V).map (gw_val (gw_a E)))) rfl (by rw [hX.2.1]; exact hd) rfl (fun q => h1 (Or.inl q)) (fun q => h3 (Or.inl q)) (by rw [h2]; omega) (by rw [h4]; show K * 4 ≤ _; omega) (by rw [h4]; omega) rfl rfl (by rw [h2]; omega) (by rw [h2, h4]; omega)
  have hcA : cA = E.2.2.2.2.1 := Option.some.inj (fA.symm.trans (hK.2 3 _ rfl).2)
  have hcC : comp = E.2.1 := Option.some.inj (fC.symm.trans (hK.2 0 _ rfl).2)
  subst hcA
  subst hcC
  rw [h2, h4] at X' step
  generalize hFl : Jvm.Free.Multi.fill (T.setVm vm₁) E.2.2.2.2.1 E.2.1 N K (defaultValue .int) N = Fl at X' step
  have hTh : (T.setVm vm₁).heap = H := hT
  obtain ⟨f1, f2, -, -⟩ := Jvm.Free.Multi.fill_facts (T.setVm vm₁) E.2.2.2.2.1 E.2.1 N K (defaultValue .int) N
  rw [hFl, hTh] at f1 f2
  have hold : ∀ a : Nat, a < H.size → Fl.heap[a]? = H[a]? := fun a ha => by
    have := Jvm.Free.Multi.fill_old (T.setVm vm₁) E.2.2.2.2.1 E.2.1 N K (defaultValue .int) (a := a) (by rw [hTh]; exact ha) N
    rw [hFl, hTh] at this
    exact this
  have hrow : ∀ i : Nat, i < N → Fl.heap[H.size + 1 + i]? = some (Jvm.Free.Multi.innerC E.2.1 K (defaultValue .int)) := fun i hi => by
    have := Jvm.Free.Multi.fill_inner (T.setVm vm₁) E.2.2.2.2.1 E.2.1 N K (defaultValue .int) N i hi
    rw [hFl, hTh] at this
    exact this
  have houter : ∀ i : Nat, Jvm.Free.Multi.outerC E.2.2.2.2.1 N H.size i = arrV E.2.2.2.2.1 N (fun k => va_rf (if k < i then some (H.size + 1 + k) else none)) := by
    intro i
    induction i with
    | zero =>
      show ({ cls := E.2.2.2.2.1, slots := Array.replicate N .null, vm := .none } : Cell) = _
      rw [arrV_new]
      refine congrArg (arrV E.2.2.2.2.1 N) (funext fun k => ?_)
      simp [va_rf]
    | succ i ih =>
      show (Jvm.Free.Multi.outerC E.2.2.2.2.1 N H.size i).setSlot i (.ref (H.size + 1 + i)) = _
      rw [ih, arrV_store]
      refine congrArg (arrV E.2.2.2.2.1 N) (funext fun k => ?_)
      by_cases e : k = i
      · subst e
        simp [updV, va_rf]
      · by_cases h : k < i
        · simp [updV, e, h, Nat.lt_succ_of_lt h]
        · simp [updV, e, h, show ¬ k < i + 1 by omega]
  have hinner : Jvm.Free.Multi.innerC E.2.1 K (defaultValue .int) = arrV E.2.1 K (fun _ => .int 0) := by
    show ({ cls := E.2.1, slots := Array.replicate K (.int 0), vm := .none } : Cell) = _
    rw [arrV_new]
  have hP2 : gw_P E (n + 1 + N, fun a b => if a < n then I a b else 0, fun a b => if a < n then F a b else if b < N then some (n + 1 + b) else none) Fl.heap := by
    refine ⟨by rw [f1, h0]; show _ = gw_a E + (n + 1 + N); omega, fun a ha => ?_⟩
    have ha : a < n + 1 + N := ha
    dsimp only
    by_cases han : a < n
    · have h9 := hP.2 a han
      dsimp only at h9
      simp only [if_pos han]
      exact h9.kept (hold _ (by dsimp only; omega))
    · simp only [if_neg han]
      by_cases hae : a = n
      · subst hae
        rw [hsh]
        show Fl.heap[gw_a E + a]? = some (arrV E.2.2.2.2.1 N (fun k => va_rf ((if k < N then some (a + 1 + k) else none).map (fun k => gw_a E + k))))
        rw [← h0, f2, houter]
        congr 2
        funext k
        by_cases hkN : k < N
        · simp only [if_pos hkN, Option.map_some, h0]
          rw [show gw_a E + a + 1 + k = gw_a E + (a + 1 + k) by omega]
        · simp only [if_neg hkN, Option.map_none]
      · obtain ⟨i, hi⟩ : ∃ i, a = n + 1 + i := ⟨a - (n + 1), by omega⟩
        subst hi
        rw [hsh2 i (by omega)]
        show Fl.heap[gw_a E + (n + 1 + i)]? = some (arrV E.2.1 K (fun _ => .int 0))
        rw [show gw_a E + (n + 1 + i) = H.size + 1 + i by omega, hrow i (by omega), hinner]
  have hS2 : va_S (gw_A E) s.heap Fl.heap locs := gw_S_push hS (by rw [f1]; omega) hold
  obtain ⟨t, a1, b1⟩ := kk (fun a b => if a < n then I a b else 0) (fun a b => if a < n then F a b else if b < N then some (n + 1 + b) else none) (fun a ha => by funext b; simp only [if_pos ha]) (fun a ha => by funext b; simp only [if_pos ha]) (fun i hi => by simp only [if_neg (Nat.lt_irrefl n), if_pos hi]) (fun i hi k => by simp only [if_neg (show ¬ n + 1 + i < n by omega)]) E p l e R s m args below meth c Z hC hX Fl.heap locs lsA hP2 hS2 hL Fl rfl X'
  refine ⟨t, step t ?_, b1⟩
  have e9 : T.heap.size = gw_a E + n := by rw [hT]; exact h0
  rw [e9]
  exact a1
end GA
