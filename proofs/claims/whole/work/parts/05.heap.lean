/-! THE HEAP: fields, arrays; one cell of the memory changes -/
/-- the classes' rows: class ci of vwCl, its name, fields, their number, and the tables' words on them -/
def gw_Cl (ci : Nat) (Cn : String) (T : u_T) (N : Nat) : Prop := vwCl[ci]? = some (Cn, T, N) ∧ ci < 6 ∧ (∀ w ∈ u_ws Cn T N, w ∈ gw_Tb) ∧ (∀ k, k < N → parseFieldDescriptor (T k).2.2.1 = some (gw_ty ci k)) ∧ (∀ a, a < N → ∀ b, b < N → a ≠ b → (T a).2.1 ≠ (T b).2.1) ∧ Cond.instantiable Cn N ∈ gw_Tb ∧ Cond.initialized Cn ∈ gw_Tb
/-- entry idx of own's pool is field k of class ci; fin: it is final -/
def gw_F (own : String) (idx ci k : Nat) (fin : Bool) : Prop := ∃ (Cn : String) (T : u_T) (N : Nat), gw_Cl ci Cn T N ∧ k < N ∧ Cond.fieldLink own idx (T k).1 (T k).2.1 (T k).2.2.1 ∈ gw_Tb ∧ (T k).1 = Cn ∧ (T k).2.2.2 = fin
theorem gw_cell_o {E : gw_E} {c n : Nat} {I : Nat → Int} {F : Nat → Option Nat} (h : c < 6) : gw_cell E (c, n) I F = .inr (c, gw_fs (gw_a E) I F c n) := by
  match c, h with
  | 0, _ => rfl
  | 1, _ => rfl
  | 2, _ => rfl
  | 3, _ => rfl
  | 4, _ => rfl
  | 5, _ => rfl
theorem gw_fs_at {a0 : Nat} {I : Nat → Int} {F : Nat → Option Nat} {c n k : Nat} (h : k < n) : (gw_fs a0 I F c n)[k]? = some (if gw_isR c k = true then va_rf ((F k).map (fun k => a0 + k)) else .int (Int32.ofInt (I k))) := by
  unfold gw_fs
  rw [List.getElem?_map, List.getElem?_range h]
  rfl
theorem gw_fs_V {a0 : Nat} {I : Nat → Int} {F : Nat → Option Nat} {c n k : Nat} (h : k < n) : vp_V (gw_fs a0 I F c n) k = (if gw_isR c k = true then va_rf ((F k).map (fun k => a0 + k)) else .int (Int32.ofInt (I k))) := by
  unfold vp_V
  rw [List.getD_eq_getElem?_getD, gw_fs_at h]
  rfl
/-- one int of one cell changes -/
def gw_U {α : Type} (I : Nat → Nat → α) (k i : Nat) (v : α) : Nat → Nat → α := fun a b => if a = k ∧ b = i then v else I a b
theorem gw_U_s {α : Type} {I : Nat → Nat → α} {k i : Nat} {v : α} : gw_U I k i v k i = v := if_pos ⟨rfl, rfl⟩
theorem gw_U_n {α : Type} {I : Nat → Nat → α} {k i a b : Nat} {v : α} (h : ¬ (a = k ∧ b = i)) : gw_U I k i v a b = I a b := if_neg h
theorem gw_U_r {α : Type} {I : Nat → Nat → α} {k i a : Nat} {v : α} (h : a ≠ k) : gw_U I k i v a = I a := funext fun b => if_neg fun q => h q.1
theorem gw_P_set {E : gw_E} {n : Nat} {I I' : Nat → Nat → Int} {F F' : Nat → Nat → Option Nat} {H H1 : Heap} {k : Nat} (h : gw_P E (n, I, F) H) (hI : ∀ a, a ≠ k → I' a = I a) (hF : ∀ a, a ≠ k → F' a = F a) (hz : H1.size = H.size) (ho : ∀ q, q ≠ gw_a E + k → H1[q]? = H[q]?) (hat : va_at E.1 vwCl (gw_a E + k, gw_cell E (gw_sh k) (I' k) (F' k)) H1) : gw_P E (n, I', F') H1 := by
  refine ⟨hz.trans h.1, fun a ha => ?_⟩
  by_cases hak : a = k
  · subst hak
    exact hat
  · have h1 := h.2 a ha
    dsimp only at h1 ⊢
    rw [hI a hak, hF a hak]
    exact h1.kept (ho _ (by dsimp only; omega))
theorem gw_S_put {E : gw_E} {s : State} {H H1 : Heap} {locs : List Loc} {k i : Nat} (hS : va_S (gw_A E) s.heap H locs) (hz : H1.size = H.size) (ho : ∀ q, q ≠ gw_a E + k → H1[q]? = H[q]?) : va_S (gw_A E) s.heap H1 (locs ++ [⟨gw_a E + k, i⟩]) := by
  refine ⟨by rw [hz]; exact hS.1, fun q h1 h2 => ?_, t_lc hS.2.2 (Nat.le_add_right _ _)⟩
  rw [ho q (fun e => h2 (by rw [e]; exact Nat.le_add_right _ _))]
  exact hS.2.1 q h1 h2
theorem gw_narrow {t : FieldType} {a0 : Nat} {r : Option Nat} (h : gw_isr t = true) : narrow t (va_rf (r.map (fun k => a0 + k))) = va_rf (r.map (fun k => a0 + k)) ∧ fits t (va_rf (r.map (fun k => a0 + k))) = true := by
  cases t with
  | object c => cases r <;> exact ⟨rfl, rfl⟩
  | array c => cases r <;> exact ⟨rfl, rfl⟩
  | _ => cases h
section GH
variable {C : gw_C} {j : gw_J} {pc : Nat} {ls : List (Option gw_V)} {st : List gw_V} {n : Nat} {I : Nat → Nat → Int} {F : Nat → Nat → Option Nat} {u w : Nat}
theorem gr_get {idx ci k q N : Nat} {fin : Bool} (hd : decode j.2.1 pc = .ok (.getfield idx, 3)) (hf : gw_F j.1.cls idx ci k fin) (hq : gw_sh q = (ci, N)) (hn : q < n) (hk : k < N) (kk : gw_G C j (pc + 3) ls ((if gw_isR ci k = true then .inr (F q k) else .inl (I q k)) :: st) (n, I, F) u w) : gw_G C j pc ls (.inr (some q) :: st) (n, I, F) u w := by
  intro E p l e R s m args below meth c Z hC hX H locs lsA hP hS hL
  have kk := kk E p l e R s m args below meth c Z hC hX H locs lsA hP hS hL
  obtain ⟨Cn, T, N', ⟨hv, h6, hws, -⟩, hk', hl, hCn, -⟩ := hf
  have hat := hP.2 q hn
  rw [hq] at hat
  dsimp only at hat
  rw [gw_cell_o h6] at hat
  have hP1 : va_P E.1 vwCl [(gw_a E + q, .inr (ci, gw_fs (gw_a E) (I q) (F q) ci N))] H := fun k x hx => by
    have h0 : k < 1 := (List.getElem?_eq_some_iff.mp hx).1
    rw [show k = 0 by omega] at hx
    cases hx
    exact hat
  refine va_get (ci := ci) (C := Cn) (T := T) (N := N') (ref := (T k).1) hX.1 hX.2.1 hX.2.2.2.2.1 hws hX.2.2.2.1 hX.2.2.2.2.2.2.2.2.1 hP1 0 rfl hv k hk' (hX.2.2.2.2.1 _ hl) (fun _ h => h) (gw_fs_at hk) hd ?_
  by_cases hr : gw_isR ci k = true
  · rw [if_pos hr] at kk ⊢
    exact kk
  · rw [if_neg hr] at kk ⊢
    exact kk
theorem gr_getI {idx ci k q N : Nat} {fin : Bool} (hd : decode j.2.1 pc = .ok (.getfield idx, 3)) (hf : gw_F j.1.cls idx ci k fin) (hq : gw_sh q = (ci, N)) (hn : q < n) (hk : k < N) (hr : gw_isR ci k = false) (kk : gw_G C j (pc + 3) ls (.inl (I q k) :: st) (n, I, F) u w) : gw_G C j pc ls (.inr (some q) :: st) (n, I, F) u w :=
  gr_get hd hf hq hn hk (by rw [if_neg (by rw [hr]; decide)]; exact kk)
theorem gr_getR {idx ci k q N r : Nat} {fin : Bool} (hd : decode j.2.1 pc = .ok (.getfield idx, 3)) (hf : gw_F j.1.cls idx ci k fin) (hq : gw_sh q = (ci, N)) (hn : q < n) (hk : k < N) (hr : gw_isR ci k = true) (hF : F q k = some r) (kk : gw_G C j (pc + 3) ls (.inr (some r) :: st) (n, I, F) u w) : gw_G C j pc ls (.inr (some q) :: st) (n, I, F) u w :=
  gr_get hd hf hq hn hk (by rw [if_pos hr, hF]; exact kk)
/-- what a put does to its cell -/
theorem gw_put_at {E : gw_E} {ci k N q : Nat} {I I' : Nat → Int} {F F' : Nat → Option Nat} {Cn : String} {T : u_T} {N' : Nat} {cell : Cell} {H1 : Heap} {v : Value} (h6 : ci < 6) (hv : vwCl[ci]? = some (Cn, T, N')) (hN : N' ≤ N) (q2 : cell.cls = E.1.1 ci) (q3 : cell.vm = .none) (q4 : ∀ i, i < N' → cell.slots[E.1.2 ci i]? = some (vp_V (gw_fs (gw_a E) I F ci N) i)) (hap : ∀ a b, a < N' → b < N' → a ≠ b → E.1.2 ci a ≠ E.1.2 ci b) (hk : k < N') (e1 : H1[gw_a E + q]? = some (cell.setSlot (E.1.2 ci k) v)) (hsh : gw_sh q = (ci, N)) (hnew : ∀ i, i < N' → updV (vp_V (gw_fs (gw_a E) I F ci N)) k v i = vp_V (gw_fs (gw_a E) I' F' ci N) i) : va_at E.1 vwCl (gw_a E + q, gw_cell E (gw_sh q) I' F') H1 := by
  rw [hsh, gw_cell_o h6]
  exact ⟨_, hv, t_OB.to (V := updV (vp_V (gw_fs (gw_a E) I F ci N)) k v) ⟨_, e1, q2, q3, t_set q4 hap hk v⟩ hnew⟩
theorem gr_putI {idx ci k q N : Nat} {v : Int} (hd : decode j.2.1 pc = .ok (.putfield idx, 3)) (hf : gw_F j.1.cls idx ci k false) (hq : gw_sh q = (ci, N)) (hn : q < n) (hr : gw_ty ci k = .int ∨ gw_ty ci k = .boolean ∧ (v = 0 ∨ v = 1)) (hN : vwCl[ci]?.map (fun r => r.2.2) = some N) (kk : gw_G C j (pc + 3) ls st (n, gw_U I q k v, F) u w) : gw_G C j pc ls (.inl v :: .inr (some q) :: st) (n, I, F) u w := by
  intro E p l e R s m args below meth c Z hC hX H locs lsA hP hS hL
  obtain ⟨Cn, T, N', ⟨hv, h6, hws, hty, hnm, -⟩, hk', hl, hCn, hfin⟩ := hf
  have hNN : N' = N := by rw [hv] at hN; exact Option.some.inj hN
  subst hNN
  have hat := hP.2 q hn
  rw [hq] at hat
  dsimp only at hat
  rw [gw_cell_o h6] at hat
  have hK := hX.2.2.2.2.2.2.2.2.1
  have hts := hX.2.2.2.2.1
  have hap := va_apart (own := j.1.cls) hts hws (gw_ty ci) hty hnm hK hv
  obtain ⟨r, h1, cell, q1, q2, q3, q4⟩ := hat
  have hr' : r = (Cn, T, N') := Option.some.inj (h1.symm.trans hv)
  subst hr'
  obtain ⟨hS', hfc, kC, hkC, hkind⟩ := hK.1 ci _ hv
  obtain ⟨cf, kf, fi, f, hi, hsl⟩ := hS' k hk'
  have hlay := hts _ (hws _ (u_in_lay hk'))
  unfold u_lay at hlay
  rw [if_neg (by rw [hfin]; decide)] at hlay
  have hst := (u_facts hfc hkC (u_lays hts hws hk') hi).1
  have hisr : gw_isR ci k = false := by
    rcases hr with h | ⟨h, -⟩ <;> (show gw_isr (gw_ty ci k) = false; rw [h]; rfl)
  have h6' := u_store (v := .int (Int32.ofInt v)) hfc hkC hkind hlay hi (hty k hk') (by rcases hr with h | ⟨h, h2 | h2⟩ <;> rw [h] <;> first | rfl | (rw [h2]; rfl)) (by rcases hr with h | ⟨h, h2 | h2⟩ <;> rw [h] <;> first | rfl | (rw [h2]; rfl))
  refine W.putK hX.1 hX.2.1 (f := f) ⟨hX.2.2.2.1, hts _ hl, ⟨_, _, _, hi⟩, hst⟩ (by rw [q2]; exact h6') q1 q3 (by rw [hsl]; exact k2_hasslot (q4 k hk')) rfl rfl hd fun H' e1 e2 e3 => ?_
  rw [hsl] at e1 ⊢
  refine kk E p l e R s m args below meth c Z hC hX H' _ lsA (gw_P_set hP (fun a h => gw_U_r h) (fun _ _ => rfl) e2 e3 (gw_put_at h6 hv (Nat.le_refl _) q2 q3 q4 hap hk' e1 hq (fun i hi2 => ?_))) (gw_S_put hS e2 e3) hL
  rw [gw_fs_V hi2]
  by_cases hik : i = k
  · subst hik
    rw [if_neg (by rw [hisr]; decide), gw_U_s]
    simp [updV, gw_val]
  · rw [gw_U_n (fun h => hik h.2)]
    simp only [updV, if_neg hik]
    exact gw_fs_V hi2
theorem gr_putR {idx ci k q N : Nat} {v : Option Nat} {fin : Bool} (hd : decode j.2.1 pc = .ok (.putfield idx, 3)) (hf : gw_F j.1.cls idx ci k fin) (hfi : fin = true → j.1.name = "<init>" ∧ vwCl[ci]?.map (fun r => r.1) = some j.1.cls) (hq : gw_sh q = (ci, N)) (hn : q < n) (hr : gw_isR ci k = true) (hN : vwCl[ci]?.map (fun r => r.2.2) = some N) (kk : gw_G C j (pc + 3) ls st (n, I, gw_U F q k v) u w) : gw_G C j pc ls (.inr v :: .inr (some q) :: st) (n, I, F) u w := by
  intro E p l e R s m args below meth c Z hC hX H locs lsA hP hS hL
  obtain ⟨Cn, T, N', ⟨hv, h6, hws, hty, hnm, -⟩, hk', hl, hCn, hfin⟩ := hf
  have hNN : N' = N := by rw [hv] at hN; exact Option.some.inj hN
  subst hNN
  have hat := hP.2 q hn
  rw [hq] at hat
  dsimp only at hat
  rw [gw_cell_o h6] at hat
  have hK := hX.2.2.2.2.2.2.2.2.1
  have hts := hX.2.2.2.2.1
  have hap := va_apart (own := j.1.cls) hts hws (gw_ty ci) hty hnm hK hv
  obtain ⟨r, h1, cell, q1, q2, q3, q4⟩ := hat
  have hr' : r = (Cn, T, N') := Option.some.inj (h1.symm.trans hv)
  subst hr'
  obtain ⟨hS', hfc, kC, hkC, hkind⟩ := hK.1 ci _ hv
  obtain ⟨cf, kf, fi, f, hi, hsl⟩ := hS' k hk'
  have hlay := hts _ (hws _ (u_in_lay hk'))
  unfold u_lay at hlay
  have hst := (u_facts hfc hkC (u_lays hts hws hk') hi).1
  have hnf := gw_narrow (a0 := gw_a E) (r := v) hr
  have fin_ : ∀ H' : Heap, H'[gw_a E + q]? = some (cell.setSlot (E.1.2 ci k) (va_rf (v.map (fun k => gw_a E + k)))) → H'.size = H.size → (∀ x, x ≠ gw_a E + q → H'[x]? = H[x]?) → W p l e R s m args below meth c H' (locs ++ [⟨gw_a E + q, E.1.2 ci k⟩]) u w Z (F0 m (pc + 3) lsA (st.map (gw_val (gw_a E)))) := by
    intro H' e1 e2 e3
    refine kk E p l e R s m args below meth c Z hC hX H' _ lsA (gw_P_set hP (fun _ _ => rfl) (fun a h => gw_U_r h) e2 e3 (gw_put_at h6 hv (Nat.le_refl _) q2 q3 q4 hap hk' e1 hq (fun i hi2 => ?_))) (gw_S_put hS e2 e3) hL
    rw [gw_fs_V hi2]
    by_cases hik : i = k
    · subst hik
      rw [if_pos hr, gw_U_s]
      simp [updV]
    · rw [gw_U_n (fun h => hik h.2)]
      simp only [updV, if_neg hik]
      exact gw_fs_V hi2
  cases fin with
  | false =>
    rw [if_neg (by rw [hfin]; decide)] at hlay
    have h6' := u_store hfc hkC hkind hlay hi (hty k hk') hnf.1 hnf.2
    refine W.putK hX.1 hX.2.1 (f := f) ⟨hX.2.2.2.1, hts _ hl, ⟨_, _, _, hi⟩, hst⟩ (by rw [q2]; exact h6') q1 q3 (by rw [hsl]; exact k2_hasslot (q4 k hk')) rfl rfl hd fun H' e1 e2 e3 => ?_
    rw [hsl] at e1 ⊢
    exact fin_ H' e1 e2 e3
  | true =>
    rw [if_pos hfin] at hlay
    obtain ⟨hin2, hdecl⟩ := hfi rfl
    rw [hv] at hdecl
    have hdecl : Cn = j.1.cls := Option.some.inj hdecl
    have hcf : m.cls = cf := by
      obtain ⟨_, _, c', _, _, _, -, -, hf', -, -, -, hown2, -⟩ := Cond.laysFinal_spec hlay
      have e1 : c' = cf := by have := hi.symm.trans hf'; simp at this; exact this.1.symm
      rw [hCn, hdecl] at hown2
      rw [← e1]; exact Option.some.inj (hX.2.2.2.1.symm.trans hown2)
    have h6' := u_fits hfc hkC hkind (Or.inr hlay) hi (hty k hk') hnf.1 hnf.2
    refine W.putFinK hX.1 hX.2.1 hX.2.2.2.1 (hts _ hl) hi hst hcf (hX.2.2.2.2.2.2.2.1.trans hin2) (by rw [q2]; exact h6') q1 q3 (by rw [hsl]; exact k2_hasslot (q4 k hk')) rfl rfl hd fun H' e1 e2 e3 => ?_
    rw [hsl] at e1 ⊢
    exact fin_ H' e1 e2 e3
/-- iaload -/
theorem gr_iald {q i N : Nat} {x : Int} (hd : decode j.2.1 pc = .ok (.iaload, 1)) (hq : gw_sh q = (10, N)) (hn : q < n) (hx : x = (i : Int)) (hi : i < N) (hN : N < 2147483648) (kk : gw_G C j (pc + 1) ls (.inl (I q i) :: st) (n, I, F) u w) : gw_G C j pc ls (.inl x :: .inr (some q) :: st) (n, I, F) u w := by
  intro E p l e R s m args below meth c Z hC hX H locs lsA hP hS hL
  have kk := kk E p l e R s m args below meth c Z hC hX H locs lsA hP hS hL
  have hat := hP.2 q hn
  rw [hq] at hat
  obtain ⟨h1, h2⟩ := gw_nat hx hi hN
  have hP1 : va_P E.1 vwCl [(gw_a E + q, .inl (E.2.1, N, .inl (fun i => Int32.ofInt (I q i))))] H := fun k x hx => by
    have h0 : k < 1 := (List.getElem?_eq_some_iff.mp hx).1
    rw [show k = 0 by omega] at hx
    cases hx
    exact hat
  refine va_iald hX.1 hX.2.1 hX.2.2.2.2.2.2.2.2.1 hP1 0 0 rfl rfl h1 hd ?_
  rw [h2]
  exact kk
theorem gr_zald {q i N : Nat} {x : Int} (hd : decode j.2.1 pc = .ok (.baload, 1)) (hq : gw_sh q = (11, N)) (hn : q < n) (hx : x = (i : Int)) (hi : i < N) (hN : N < 2147483648) (kk : gw_G C j (pc + 1) ls (.inl (I q i) :: st) (n, I, F) u w) : gw_G C j pc ls (.inl x :: .inr (some q) :: st) (n, I, F) u w := by
  intro E p l e R s m args below meth c Z hC hX H locs lsA hP hS hL
  have kk := kk E p l e R s m args below meth c Z hC hX H locs lsA hP hS hL
  have hat := hP.2 q hn
  rw [hq] at hat
  obtain ⟨h1, h2⟩ := gw_nat hx hi hN
  have hP1 : va_P E.1 vwCl [(gw_a E + q, .inl (E.2.2.1, N, .inl (fun i => Int32.ofInt (I q i))))] H := fun k x hx => by
    have h0 : k < 1 := (List.getElem?_eq_some_iff.mp hx).1
    rw [show k = 0 by omega] at hx
    cases hx
    exact hat
  refine va_zald hX.1 hX.2.1 hX.2.2.2.2.2.2.2.2.1 hP1 0 1 rfl rfl h1 hd ?_
  rw [h2]
  exact kk
/-- aaload of a Piece[] -/
theorem gr_pald {q i N r : Nat} {x : Int} (hd : decode j.2.1 pc = .ok (.aaload, 1)) (hq : gw_sh q = (12, N)) (hn : q < n) (hx : x = (i : Int)) (hi : i < N) (hN : N < 2147483648) (hF : F q i = some r) (kk : gw_G C j (pc + 1) ls (.inr (some r) :: st) (n, I, F) u w) : gw_G C j pc ls (.inl x :: .inr (some q) :: st) (n, I, F) u w := by
  intro E p l e R s m args below meth c Z hC hX H locs lsA hP hS hL
  have kk := kk E p l e R s m args below meth c Z hC hX H locs lsA hP hS hL
  have hat := hP.2 q hn
  rw [hq] at hat
  obtain ⟨h1, h2⟩ := gw_nat hx hi hN
  have hP1 : va_P E.1 vwCl [(gw_a E + q, .inl (E.2.2.2.1, N, .inr (.inr (.inr (.inr (fun i => (F q i).map (fun k => gw_a E + k)))))))] H := fun k x hx => by
    have h0 : k < 1 := (List.getElem?_eq_some_iff.mp hx).1
    rw [show k = 0 by omega] at hx
    cases hx
    exact hat
  refine va_aldq hX.1 hX.2.1 hX.2.2.2.2.2.2.2.2.1 hP1 0 2 rfl rfl h1 hd ?_
  rw [h2, hF]
  exact kk
/-- aaload of an int[][] -/
theorem gr_rald {q i N r : Nat} {x : Int} (hd : decode j.2.1 pc = .ok (.aaload, 1)) (hq : gw_sh q = (13, N)) (hn : q < n) (hx : x = (i : Int)) (hi : i < N) (hN : N < 2147483648) (hF : F q i = some r) (kk : gw_G C j (pc + 1) ls (.inr (some r) :: st) (n, I, F) u w) : gw_G C j pc ls (.inl x :: .inr (some q) :: st) (n, I, F) u w := by
  intro E p l e R s m args below meth c Z hC hX H locs lsA hP hS hL
  have kk := kk E p l e R s m args below meth c Z hC hX H locs lsA hP hS hL
  have hat := hP.2 q hn
  rw [hq] at hat
  obtain ⟨h1, h2⟩ := gw_nat hx hi hN
  have hat : H[gw_a E + q]? = some (vp_cell E.2.2.2.2.1 (N, .inr (.inr (.inr (.inr (fun i => (F q i).map (fun k => gw_a E + k))))))) := hat
  have hK := hX.2.2.2.2.2.2.2.2.1
  have hlt : (Int32.ofInt x).toNatClampNeg < N := by rw [h2]; exact hi
  refine W.aald (v := va_rf (some (gw_a E + r))) (ty := .array .int) hX.1 hX.2.1 hat ((hK.2 3 _ rfl).1 N (fun i => va_rf ((F q i).map (fun k => gw_a E + k)))) rfl (fun q => by cases q) (by show ¬ (Int32.ofInt x < 0 ∨ (arrV _ _ _).slots.size ≤ _); rw [arrV_size]; exact h1) (by show (arrV _ _ _).slots[_]? = _; rw [arrV_read _ _ hlt, h2]; dsimp only; rw [hF]; rfl) rfl rfl hd ?_
  exact kk
/-- iastore -/
theorem gr_iast {q i N : Nat} {x v : Int} (hd : decode j.2.1 pc = .ok (.iastore, 1)) (hq : gw_sh q = (10, N)) (hn : q < n) (hx : x = (i : Int)) (hi : i < N) (hN : N < 2147483648) (kk : gw_G C j (pc + 1) ls st (n, gw_U I q i v, F) u w) : gw_G C j pc ls (.inl v :: .inl x :: .inr (some q) :: st) (n, I, F) u w := by
  intro E p l e R s m args below meth c Z hC hX H locs lsA hP hS hL
  have hat := hP.2 q hn
  rw [hq] at hat
  obtain ⟨h1, h2⟩ := gw_nat hx hi hN
  have hat : H[gw_a E + q]? = some (vp_cell E.2.1 (N, .inl (fun i => Int32.ofInt (I q i)))) := hat
  have hK := hX.2.2.2.2.2.2.2.2.1
  refine W.iast hX.1 hX.2.1 hat ((hK.2 0 _ rfl).1 N (fun i => .int (Int32.ofInt (I q i)))) (fun q => by cases q) (by show ¬ (Int32.ofInt x < 0 ∨ (arrV _ _ _).slots.size ≤ _); rw [arrV_size]; exact h1) rfl rfl hd fun H1 e1 z oq => ?_
  refine kk E p l e R s m args below meth c Z hC hX H1 _ lsA (gw_P_set hP (fun a h => gw_U_r h) (fun _ _ => rfl) z oq ?_) (gw_S_put hS z oq) hL
  rw [hq]
  show H1[gw_a E + q]? = some (vp_cell E.2.1 (N, .inl (fun k => Int32.ofInt (gw_U I q i v q k))))
  rw [e1, vp_cell_i, vp_cell_i, arrV_store, h2]
  congr 2
  funext k
  by_cases hk : k = i
  · subst hk
    rw [gw_U_s]
    simp [updV]
  · rw [gw_U_n (fun h => hk h.2)]
    simp [updV, hk]
theorem gr_zast {q i N : Nat} {x v : Int} (hd : decode j.2.1 pc = .ok (.bastore, 1)) (hq : gw_sh q = (11, N)) (hn : q < n) (hx : x = (i : Int)) (hi : i < N) (hN : N < 2147483648) (hv : v = 0 ∨ v = 1) (kk : gw_G C j (pc + 1) ls st (n, gw_U I q i v, F) u w) : gw_G C j pc ls (.inl v :: .inl x :: .inr (some q) :: st) (n, I, F) u w := by
  intro E p l e R s m args below meth c Z hC hX H locs lsA hP hS hL
  have hat := hP.2 q hn
  rw [hq] at hat
  obtain ⟨h1, h2⟩ := gw_nat hx hi hN
  have hat : H[gw_a E + q]? = some (vp_cell E.2.2.1 (N, .inl (fun i => Int32.ofInt (I q i)))) := hat
  have hK := hX.2.2.2.2.2.2.2.2.1
  have hnv : narrow .boolean (.int (Int32.ofInt v)) = .int (Int32.ofInt v) := by rcases hv with h | h <;> rw [h] <;> rfl
  refine W.zast hX.1 hX.2.1 hat ((hK.2 1 _ rfl).1 N (fun i => .int (Int32.ofInt (I q i)))) (fun q => by cases q) (by show ¬ (Int32.ofInt x < 0 ∨ (arrV _ _ _).slots.size ≤ _); rw [arrV_size]; exact h1) rfl rfl hd fun H1 e1 z oq => ?_
  refine kk E p l e R s m args below meth c Z hC hX H1 _ lsA (gw_P_set hP (fun a h => gw_U_r h) (fun _ _ => rfl) z oq ?_) (gw_S_put hS z oq) hL
  rw [hq]
  show H1[gw_a E + q]? = some (vp_cell E.2.2.1 (N, .inl (fun k => Int32.ofInt (gw_U I q i v q k))))
  rw [e1, vp_cell_i, vp_cell_i, arrV_store, h2, hnv]
  congr 2
  funext k
  by_cases hk : k = i
  · subst hk
    rw [gw_U_s]
    simp [updV]
  · rw [gw_U_n (fun h => hk h.2)]
    simp [updV, hk]
/-- aastore of a Piece -/
theorem gr_past {q i N r M : Nat} {x : Int} (hd : decode j.2.1 pc = .ok (.aastore, 1)) (hq : gw_sh q = (12, N)) (hn : q < n) (hx : x = (i : Int)) (hi : i < N) (hN : N < 2147483648) (hr : gw_sh r = (1, M)) (hrn : r < n) (kk : gw_G C j (pc + 1) ls st (n, I, gw_U F q i (some r)) u w) : gw_G C j pc ls (.inr (some r) :: .inl x :: .inr (some q) :: st) (n, I, F) u w := by
  intro E p l e R s m args below meth c Z hC hX H locs lsA hP hS hL
  have hat := hP.2 q hn
  rw [hq] at hat
  obtain ⟨h1, h2⟩ := gw_nat hx hi hN
  have hat : H[gw_a E + q]? = some (vp_cell E.2.2.2.1 (N, .inr (.inr (.inr (.inr (fun i => (F q i).map (fun k => gw_a E + k))))))) := hat
  have hK := hX.2.2.2.2.2.2.2.2.1
  have hat2 := hP.2 r hrn
  rw [hr] at hat2
  dsimp only at hat2
  rw [gw_cell_o (by omega)] at hat2
  have h0 : ¬ Int32.ofInt x < 0 := fun q => h1 (Or.inl q)
  obtain ⟨r', hr', cellV, g1, g2, g3, -⟩ := hat2
  have hcls := (hK.1 1 _ rfl).2
  obtain ⟨kA, comp, k1, k2, k3, -⟩ := (hK.2 2 _ rfl).2
  have hcomp : comp = E.1.1 1 := Option.some.inj (k3.symm.trans hcls.1)
  subst hcomp
  obtain ⟨kC, hkC, -⟩ := hcls.2
  refine W.aast hX.1 hX.2.1 hat (fun q h => by cases h) (fun h => by cases h) k1 k2 rfl hkC ⟨h0, by show _ < (arrV _ _ _).slots.size; rw [arrV_size, h2]; exact hi⟩ g1 (fun q h => by rw [g3] at h; cases h) (by rw [g2]; exact hkC) (by rw [g2]; exact va_assign hcls) rfl rfl hd fun H1 e1 z oq => ?_
  refine kk E p l e R s m args below meth c Z hC hX H1 _ lsA (gw_P_set hP (fun _ _ => rfl) (fun a h => gw_U_r h) z oq ?_) (gw_S_put hS z oq) hL
  rw [hq]
  show H1[gw_a E + q]? = some (vp_cell E.2.2.2.1 (N, .inr (.inr (.inr (.inr (fun k => (gw_U F q i (some r) q k).map (fun k => gw_a E + k)))))))
  rw [e1, vp_cell_q, vp_cell_q, arrV_store, h2]
  congr 2
  funext k
  by_cases hk : k = i
  · subst hk
    rw [gw_U_s]
    simp [updV, va_rf]
  · rw [gw_U_n (fun h => hk h.2)]
    simp [updV, hk]
end GH
