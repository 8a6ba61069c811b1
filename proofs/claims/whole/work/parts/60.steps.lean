/-! ONE STEP: the class and the reference answer alike, and go on side by side -/
/-- the class and the reference stand in one memory -/
def gl_I (I : Nat → Nat → Int) (F : Nat → Nat → Option Nat) : Prop := ∃ (P n : Nat) (pp : Nat → Nat), gc_K F pp ∧ gm_K F ∧ gc_D I P n pp ∧ gm_R I pp I
/-- a call of the class and the same call of the reference -/
def gl_S (jc jm : gw_J) (as : List gw_V) : Prop := ∀ (I : Nat → Nat → Int) (F : Nat → Nat → Option Nat), gl_I I F → ∃ Qc, gw_Met jc 9 (.inr (some 0) :: as) (114, I, F) Qc ∧ ∀ v μ, Qc v μ → ∃ (r : Int) (I1 : Nat → Nat → Int) (F1 : Nat → Nat → Option Nat), v = some (.inl r) ∧ μ = (114, I1, F1) ∧ ∃ Qm, gw_Met jm 9 (.inr (some 99) :: as) (114, I1, F1) Qm ∧ ∀ v' μ', Qm v' μ' → v' = some (.inl r) ∧ ∃ I2 : Nat → Nat → Int, μ' = (114, I2, F1) ∧ gl_I I2 F1
section GL
variable {I I1 J : Nat → Nat → Int} {F F1 : Nat → Nat → Option Nat} {P n : Nat} {pp pp' : Nat → Nat}
theorem gl_D99 (hC : gc_K F pp) (h : gm_fr I J) (hD : gc_D I P n pp) : gc_D J P n pp := by
  have e : ∀ a, a < 99 → J a = I a := h
  refine gc_D_gen hC hD (fun a _ _ => e a (by omega)) (gc_W_e (e _ (by omega)) (e _ (by omega)) hD.2.1.1) (by rw [e 20 (by omega)]; exact hD.2.1.2) ?_ (fun a _ _ => e a (by omega)) (e 9 (by omega)) ?_ (fun a _ _ => e a (by omega)) (gc_im hD (e 72 (by omega)) (fun a _ _ => e a (by omega))) (gc_he hD (by rw [e 0 (by omega)]) (e 73 (by omega)) (e 74 (by omega))) (gc_so hD (by rw [e 0 (by omega)]) (fun a _ _ => e a (by omega)) (by rw [e 12 (by omega)]) (e 69 (by omega)))
  · obtain ⟨t1, t2, t3⟩ := hD.2.2.1.1
    exact ⟨by rw [e 1 (by omega)]; exact t1, t2, by rw [e 10 (by omega)]; exact t3⟩
  · rw [e 0 (by omega)]
    exact ⟨hD.2.2.2.1.1.1, Int.le_refl _⟩
theorem gl_new (hC : gc_K F pp) (hK : gm_K F) (hD : gc_D I1 P n pp) (h : gm_fr I1 J) (hR : gm_R I1 pp J) : gl_I J F := by
  have e : ∀ a, a < 99 → J a = I1 a := h
  exact ⟨P, n, pp, hC, hK, gl_D99 hC h hD, gm_R_c hC hD (fun a _ _ => e a (by omega)) (by rw [e 0 (by omega)]) (by rw [e 0 (by omega)]) (fun a _ _ => e a (by omega)) (by rw [e 1 (by omega)]) (e 10 (by omega)) hR⟩
theorem gl_R1 (h : ∀ a, 99 ≤ a → I1 a = I a) (hR : gm_R I pp I) : gm_R I pp I1 := gm_R_J (fun a h1 h2 => h a (by omega)) ⟨by rw [h 99 (by omega)], by rw [h 99 (by omega)], by rw [h 99 (by omega)], by rw [h 99 (by omega)]⟩ hR
theorem gl_same (h : gc_same I I1) : ∀ a, 99 ≤ a → I1 a = I a := fun a ha => gc_same_e h (by omega) (by omega) (by omega)
theorem gl_fr (h : gm_sa I J) : gm_fr I J := fun a ha => gm_sa_e h (Or.inl (by omega)) (by omega)
theorem gl_sa (hC : gc_K F pp) (hK : gm_K F) (hD : gc_D I P n pp) (hD1 : gc_D I1 P n pp) (hs : gc_same I I1) (hsa : gm_sa I1 J) (hR : gm_R I pp I) : gl_I J F := gl_new hC hK hD1 (gl_fr hsa) (gm_R_same hC hD hs (gm_R_sa hsa (gl_R1 (gl_same hs) hR)))
theorem gl_mK (h : ∀ a, a ≠ 70 → F1 a = F a) (hK : gm_K F) : gm_K F1 := by
  unfold gm_K at hK ⊢
  rw [h 99 (by omega)]
  exact hK
theorem gl_type {x : Int} (hu : gu_type I I1 n x) : ∀ a, 99 ≤ a → I1 a = I a := by
  intro a ha
  unfold gu_type at hu
  split at hu
  · funext b
    rw [hu, if_neg (by omega), if_neg (by omega)]
  · rw [hu]
theorem gl_hears {c x : Int} (hu : gu_hears I I1 c x) : ∀ a, 99 ≤ a → I1 a = I a := by
  intro a ha
  unfold gu_hears at hu
  split at hu
  · funext b
    rw [hu, if_neg (by omega), if_neg (by omega), if_neg (by omega)]
  · rw [hu]
theorem gl_bk {k : Nat} {u : Int} (hu : gu_bk I I1 k u) : ∀ a, 99 ≤ a → I1 a = I a := by
  intro a ha
  funext b
  rw [hu, if_neg (by omega), if_neg (by omega), if_neg (by omega), if_neg (by omega)]
theorem gl_undo (hu : gu_undo I I1 pp) : ∀ a, 99 ≤ a → I1 a = I a := by
  unfold gu_undo at hu
  split at hu
  · exact gl_bk hu
  · intro a _
    rw [hu]
theorem gl_back {i : Int} (hu : gu_back I I1 i) : ∀ a, 99 ≤ a → I1 a = I a := by
  unfold gu_back at hu
  split at hu
  · exact gl_bk hu
  · intro a _
    rw [hu]
theorem gl_keep {i : Int} (hu : gu_keep I I1 i) : ∀ a, 99 ≤ a → I1 a = I a := by
  intro a ha
  unfold gu_keep at hu
  split at hu
  · funext b
    rw [hu, if_neg (by omega), if_neg (by omega), if_neg (by omega)]
  · rw [hu]
theorem gl_puts {k x y z : Int} (hC : gc_K F pp) (hC1 : gc_K F1 pp') (hD : gc_D I P n pp) (hu : gu_puts I I1 pp pp' k x y z) : ∀ a, 99 ≤ a → I1 a = I a := by
  intro a ha
  unfold gu_puts at hu
  split at hu
  · obtain ⟨I2, h1, h2⟩ := hu
    rw [← (gc_D_rem hC hC1 hD h1).2.2.2.2 a (by omega)]
    funext b
    rw [h2, if_neg (by omega), if_neg (by omega), if_neg (by omega), if_neg (by omega)]
  · rw [hu.1]
theorem gl_takes {k : Int} (hC : gc_K F pp) (hC1 : gc_K F1 pp') (hD : gc_D I P n pp) (hu : gu_takes I I1 pp pp' k) : ∀ a, 99 ≤ a → I1 a = I a := by
  intro a ha
  unfold gu_takes at hu
  split at hu
  · obtain ⟨I2, h1, h2⟩ := hu
    rw [← (gc_D_rem hC hC1 hD h1).2.2.2.2 a (by omega)]
    funext b
    rw [h2, if_neg (by omega), if_neg (by omega)]
  · rw [hu.1]
theorem gl_calls {p : Int} (hC : gc_K F pp) (hC1 : gc_K F1 pp') (hD : gc_D I P n pp) (hu : gu_calls I I1 P pp pp' p) : ∀ a, 99 ≤ a → I1 a = I a := by
  intro a ha
  unfold gu_calls at hu
  split at hu
  · obtain ⟨I2, h1, h2⟩ := hu
    rw [← (gc_D_rem hC hC1 hD h1).2.2.2.2 a (by omega), h2, gw_U_r (by omega)]
  · rw [hu.1]
theorem gl_tells {x y : Int} (hC : gc_K F pp) (hC1 : gc_K F1 pp') (hD : gc_D I P n pp) (hu : gu_tells I I1 pp pp' x y) : ∀ a, 99 ≤ a → I1 a = I a := by
  intro a ha
  unfold gu_tells at hu
  split at hu
  · obtain ⟨I2, h1, h2⟩ := hu
    rw [← (gc_D_rem hC hC1 hD h1).2.2.2.2 a (by omega), h2, gw_U_r (by omega), gw_U_r (by omega)]
  · rw [hu.1]
end GL
theorem st_player {x y : Int} (hx : gw_in x) (hy : gw_in y) : gl_S jX4_player jX5_player [.inl x, .inl y] := by
  rintro I F ⟨P, n, pp, hC, hK, hD, hR⟩
  refine ⟨_, c_player 8 hC hD hx hy, ?_⟩
  rintro v μ ⟨rfl, rfl⟩
  refine ⟨_, I, F, rfl, rfl, _, m_player 7 hK hR hD hx hy, ?_⟩
  rintro v' μ' ⟨rfl, rfl⟩
  exact ⟨rfl, I, rfl, P, n, pp, hC, hK, hD, hR⟩
theorem st_span {x : Int} (hx : gw_in x) : gl_S jX4_span jX5_span [.inl x] := by
  rintro I F ⟨P, n, pp, hC, hK, hD, hR⟩
  refine ⟨_, c_span 8 hC hD hx, ?_⟩
  rintro v μ ⟨rfl, rfl⟩
  refine ⟨_, I, F, rfl, rfl, _, m_span 7 hK hR hD hx, ?_⟩
  rintro v' μ' ⟨rfl, rfl⟩
  exact ⟨rfl, I, rfl, P, n, pp, hC, hK, hD, hR⟩
theorem st_chord {x y : Int} (hx : gw_in x) (hy : gw_in y) : gl_S jX4_chord jX5_chord [.inl x, .inl y] := by
  rintro I F ⟨P, n, pp, hC, hK, hD, hR⟩
  refine ⟨_, c_chord 7 hC hD hx hy, ?_⟩
  rintro v μ ⟨rfl, rfl⟩
  refine ⟨_, I, F, rfl, rfl, _, m_chord 7 hK hR hD hx hy, ?_⟩
  rintro v' μ' ⟨rfl, rfl⟩
  exact ⟨rfl, I, rfl, P, n, pp, hC, hK, hD, hR⟩
theorem st_could {x y z : Int} (hx : gw_in x) (hy : gw_in y) (hz : gw_in z) : gl_S jX4_could jX5_could [.inl x, .inl y, .inl z] := by
  rintro I F ⟨P, n, pp, hC, hK, hD, hR⟩
  refine ⟨_, c_could 6 hC hD hx hy hz, ?_⟩
  rintro v μ ⟨rfl, rfl⟩
  refine ⟨_, I, F, rfl, rfl, _, m_could 7 hK hR hD hx hy hz, ?_⟩
  rintro v' μ' ⟨rfl, rfl⟩
  exact ⟨rfl, I, rfl, P, n, pp, hC, hK, hD, hR⟩
theorem st_count {x : Int} (hx : gw_in x) : gl_S jX4_count jX5_count [.inl x] := by
  rintro I F ⟨P, n, pp, hC, hK, hD, hR⟩
  refine ⟨_, c_count 9 hC hx, ?_⟩
  rintro v μ ⟨rfl, rfl⟩
  refine ⟨_, I, F, rfl, rfl, _, m_count 9 hK hR hx, ?_⟩
  rintro v' μ' ⟨rfl, rfl⟩
  exact ⟨rfl, I, rfl, P, n, pp, hC, hK, hD, hR⟩
theorem st_spreads {x : Int} (hx : gw_in x) : gl_S jX4_spreads jX5_spreads [.inl x] := by
  rintro I F ⟨P, n, pp, hC, hK, hD, hR⟩
  refine ⟨_, c_spreads 4 hC hD hx, ?_⟩
  rintro v μ ⟨r, I1, rfl, rfl, hr, hs, hD1⟩
  refine ⟨r, I1, F, rfl, rfl, _, m_spreads 4 hK (gl_R1 (gl_same hs) hR) hD hx, ?_⟩
  rintro v' μ' ⟨r', J, rfl, rfl, hr', hsa⟩
  exact ⟨by rw [hr', hr], J, rfl, gl_sa hC hK hD hD1 hs hsa hR⟩
theorem st_score {x : Int} (hx : gw_in x) : gl_S jX4_score jX5_score [.inl x] := by
  rintro I F ⟨P, n, pp, hC, hK, hD, hR⟩
  refine ⟨_, c_score 1 hC hD hx, ?_⟩
  rintro v μ ⟨r, I1, rfl, rfl, hr, hs, hD1⟩
  refine ⟨r, I1, F, rfl, rfl, _, m_score 2 hK (gl_R1 (gl_same hs) hR) hD hx, ?_⟩
  rintro v' μ' ⟨r', J, rfl, rfl, hr', hsa⟩
  exact ⟨by rw [hr', hr], J, rfl, gl_sa hC hK hD hD1 hs hsa hR⟩
theorem st_hand {x y : Int} (hx : gw_in x) (hy : gw_in y) : gl_S jX4_hand jX5_hand [.inl x, .inl y] := by
  rintro I F ⟨P, n, pp, hC, hK, hD, hR⟩
  refine ⟨_, c_hand 1 hC hD hx hy, ?_⟩
  rintro v μ ⟨r, I1, rfl, rfl, hr, hs, hD1⟩
  refine ⟨r, I1, F, rfl, rfl, _, m_hand 2 hK (gl_R1 (gl_same hs) hR) hD hx hy, ?_⟩
  rintro v' μ' ⟨r', J, rfl, rfl, hr', hsa⟩
  exact ⟨by rw [hr', hr], J, rfl, gl_sa hC hK hD hD1 hs hsa hR⟩
theorem st_loud {x y : Int} (hx : gw_in x) (hy : gw_in y) : gl_S jX4_loud jX5_loud [.inl x, .inl y] := by
  rintro I F ⟨P, n, pp, hC, hK, hD, hR⟩
  refine ⟨_, c_loud 1 hC hD hx hy, ?_⟩
  rintro v μ ⟨r, I1, rfl, rfl, hr, hs, hD1⟩
  refine ⟨r, I1, F, rfl, rfl, _, m_loud 2 hK (gl_R1 (gl_same hs) hR) hD hx hy, ?_⟩
  rintro v' μ' ⟨r', J, rfl, rfl, hr', hsa⟩
  exact ⟨by rw [hr', hr], J, rfl, gl_sa hC hK hD hD1 hs hsa hR⟩
theorem st_couldRest {x : Int} (hx : gw_in x) : gl_S jX4_couldRest jX5_couldRest [.inl x] := by
  rintro I F ⟨P, n, pp, hC, hK, hD, hR⟩
  refine ⟨_, c_couldRest 1 hC hD hx, ?_⟩
  rintro v μ ⟨r, I1, rfl, rfl, hr, hs, hD1⟩
  refine ⟨r, I1, F, rfl, rfl, _, m_couldRest 2 hK (gl_R1 (gl_same hs) hR) hD hx, ?_⟩
  rintro v' μ' ⟨r', J, rfl, rfl, hr', hsa⟩
  exact ⟨by rw [hr', hr], J, rfl, gl_sa hC hK hD hD1 hs hsa hR⟩
theorem st_move {x y : Int} (hx : gw_in x) (hy : gw_in y) : gl_S jX4_move jX5_move [.inl x, .inl y] := by
  rintro I F ⟨P, n, pp, hC, hK, hD, hR⟩
  refine ⟨_, c_move 1 hC hD hx hy, ?_⟩
  rintro v μ ⟨r, I1, rfl, rfl, hr, hs, hD1⟩
  refine ⟨r, I1, F, rfl, rfl, _, m_move 2 hK (gl_R1 (gl_same hs) hR) hD hx hy, ?_⟩
  rintro v' μ' ⟨r', J, rfl, rfl, hr', hsa⟩
  exact ⟨by rw [hr', hr], J, rfl, gl_sa hC hK hD hD1 hs hsa hR⟩
theorem st_reach : gl_S jX4_reach jX5_reach [] := by
  rintro I F ⟨P, n, pp, hC, hK, hD, hR⟩
  refine ⟨_, c_reach 3 hC hD, ?_⟩
  rintro v μ ⟨r, I1, rfl, rfl, hr, hs, hD1⟩
  refine ⟨r, I1, F, rfl, rfl, _, m_reach 3 hK (gl_R1 (gl_same hs) hR) hD, ?_⟩
  rintro v' μ' ⟨r', J, rfl, rfl, hr', hsa⟩
  exact ⟨by rw [hr', hr], J, rfl, gl_sa hC hK hD hD1 hs hsa hR⟩
theorem st_fewest : gl_S jX4_fewest jX5_fewest [] := by
  rintro I F ⟨P, n, pp, hC, hK, hD, hR⟩
  refine ⟨_, c_fewest 2 hC hD, ?_⟩
  rintro v μ ⟨r, I1, rfl, rfl, hr, hs, hD1⟩
  refine ⟨r, I1, F, rfl, rfl, _, m_fewest 3 hK (gl_R1 (gl_same hs) hR) hD, ?_⟩
  rintro v' μ' ⟨r', J, rfl, rfl, hr', hsa⟩
  exact ⟨by rw [hr', hr], J, rfl, gl_sa hC hK hD hD1 hs hsa hR⟩
theorem st_bear : gl_S jX4_bear jX5_bear [] := by
  rintro I F ⟨P, n, pp, hC, hK, hD, hR⟩
  refine ⟨_, c_bear 3 hC hD, ?_⟩
  rintro v μ ⟨r, I1, rfl, rfl, hr, hs, hD1⟩
  refine ⟨r, I1, F, rfl, rfl, _, m_bear 3 hK (gl_R1 (gl_same hs) hR) hD, ?_⟩
  rintro v' μ' ⟨r', J, rfl, rfl, hr', hsa⟩
  exact ⟨by rw [hr', hr], J, rfl, gl_sa hC hK hD hD1 hs hsa hR⟩
theorem st_ill : gl_S jX4_ill jX5_ill [] := by
  rintro I F ⟨P, n, pp, hC, hK, hD, hR⟩
  refine ⟨_, c_ill 3 hC hD, ?_⟩
  rintro v μ ⟨r, I1, rfl, rfl, hr, hs, hD1⟩
  refine ⟨r, I1, F, rfl, rfl, _, m_ill 4 hK (gl_R1 (gl_same hs) hR) hD, ?_⟩
  rintro v' μ' ⟨r', J, rfl, rfl, hr', hsa⟩
  exact ⟨by rw [hr', hr], J, rfl, gl_sa hC hK hD hD1 hs hsa hR⟩
theorem st_puts {x y z t : Int} (hx : gw_in x) (hy : gw_in y) (hz : gw_in z) (ht : gw_in t) : gl_S jX4_puts jX5_puts [.inl x, .inl y, .inl z, .inl t] := by
  rintro I F ⟨P, n, pp, hC, hK, hD, hR⟩
  refine ⟨_, c_puts 7 hC hD hx hy hz ht, ?_⟩
  rintro v μ ⟨r, I1, F1, rfl, rfl, pp', hr, hu, hC1, hF, hD1⟩
  refine ⟨r, I1, F1, rfl, rfl, _, m_puts 7 hC hC1 (gl_mK hF hK) (gl_R1 (gl_puts hC hC1 hD hu) hR) hD hx hy hz ht hu, ?_⟩
  rintro v' μ' ⟨r', J, rfl, rfl, hr', hfr, hR'⟩
  exact ⟨by rw [hr', hr], J, rfl, gl_new hC1 (gl_mK hF hK) hD1 hfr hR'⟩
theorem st_takes {x : Int} (hx : gw_in x) : gl_S jX4_takes jX5_takes [.inl x] := by
  rintro I F ⟨P, n, pp, hC, hK, hD, hR⟩
  refine ⟨_, c_takes 7 hC hD hx, ?_⟩
  rintro v μ ⟨r, I1, F1, rfl, rfl, pp', hr, hu, hC1, hF, hD1⟩
  refine ⟨r, I1, F1, rfl, rfl, _, m_takes 7 hC hC1 (gl_mK hF hK) (gl_R1 (gl_takes hC hC1 hD hu) hR) hD hx hu, ?_⟩
  rintro v' μ' ⟨r', J, rfl, rfl, hr', hfr, hR'⟩
  exact ⟨by rw [hr', hr], J, rfl, gl_new hC1 (gl_mK hF hK) hD1 hfr hR'⟩
theorem st_calls {x : Int} (hx : gw_in x) : gl_S jX4_calls jX5_calls [.inl x] := by
  rintro I F ⟨P, n, pp, hC, hK, hD, hR⟩
  refine ⟨_, c_calls 7 hC hD hx, ?_⟩
  rintro v μ ⟨r, I1, F1, rfl, rfl, pp', hr, hu, hC1, hF, hD1⟩
  refine ⟨r, I1, F1, rfl, rfl, _, m_calls 7 hC hC1 (gl_mK hF hK) (gl_R1 (gl_calls hC hC1 hD hu) hR) hD hx hu, ?_⟩
  rintro v' μ' ⟨r', J, rfl, rfl, hr', hfr, hR'⟩
  exact ⟨by rw [hr', hr], J, rfl, gl_new hC1 (gl_mK hF hK) hD1 hfr hR'⟩
theorem st_tells {x y : Int} (hx : gw_in x) (hy : gw_in y) : gl_S jX4_tells jX5_tells [.inl x, .inl y] := by
  rintro I F ⟨P, n, pp, hC, hK, hD, hR⟩
  refine ⟨_, c_tells 7 hC hD hx hy, ?_⟩
  rintro v μ ⟨r, I1, F1, rfl, rfl, pp', hr, hu, hC1, hF, hD1⟩
  refine ⟨r, I1, F1, rfl, rfl, _, m_tells 7 hC hC1 (gl_mK hF hK) (gl_R1 (gl_tells hC hC1 hD hu) hR) hD hx hy hu, ?_⟩
  rintro v' μ' ⟨r', J, rfl, rfl, hr', hfr, hR'⟩
  exact ⟨by rw [hr', hr], J, rfl, gl_new hC1 (gl_mK hF hK) hD1 hfr hR'⟩
theorem st_undo : gl_S jX4_undo jX5_undo [] := by
  rintro I F ⟨P, n, pp, hC, hK, hD, hR⟩
  refine ⟨_, c_undo 8 hC hD, ?_⟩
  rintro v μ ⟨r, I1, rfl, rfl, hr, hu, hD1⟩
  refine ⟨r, I1, F, rfl, rfl, _, m_undo 9 hC hK (gl_R1 (gl_undo hu) hR) hD hu, ?_⟩
  rintro v' μ' ⟨r', J, rfl, rfl, hr', hfr, hR'⟩
  exact ⟨by rw [hr', hr], J, rfl, gl_new hC hK hD1 hfr hR'⟩
theorem st_hears {x y : Int} (hx : gw_in x) (hy : gw_in y) : gl_S jX4_hears jX5_hears [.inl x, .inl y] := by
  rintro I F ⟨P, n, pp, hC, hK, hD, hR⟩
  refine ⟨_, c_hears 8 hC hD hx hy, ?_⟩
  rintro v μ ⟨r, I1, rfl, rfl, hr, hu, hD1⟩
  refine ⟨r, I1, F, rfl, rfl, _, m_hears 7 hC hK (gl_R1 (gl_hears hu) hR) hD hx hy hu, ?_⟩
  rintro v' μ' ⟨r', J, rfl, rfl, hr', hfr, hR'⟩
  exact ⟨by rw [hr', hr], J, rfl, gl_new hC hK hD1 hfr hR'⟩
theorem st_keep {x : Int} (hx : gw_in x) : gl_S jX4_keep jX5_keep [.inl x] := by
  rintro I F ⟨P, n, pp, hC, hK, hD, hR⟩
  refine ⟨_, c_keep 8 hC hD hx, ?_⟩
  rintro v μ ⟨r, I1, rfl, rfl, hr, hu, hD1⟩
  refine ⟨r, I1, F, rfl, rfl, _, m_keep 8 hC hK (gl_R1 (gl_keep hu) hR) hD hx hu, ?_⟩
  rintro v' μ' ⟨r', J, rfl, rfl, hr', hfr, hR'⟩
  exact ⟨by rw [hr', hr], J, rfl, gl_new hC hK hD1 hfr hR'⟩
theorem st_back {x : Int} (hx : gw_in x) : gl_S jX4_back jX5_back [.inl x] := by
  rintro I F ⟨P, n, pp, hC, hK, hD, hR⟩
  refine ⟨_, c_back 8 hC hD hx, ?_⟩
  rintro v μ ⟨r, I1, rfl, rfl, hr, hu, hD1⟩
  refine ⟨r, I1, F, rfl, rfl, _, m_back 8 hC hK (gl_R1 (gl_back hu) hR) hD hx hu, ?_⟩
  rintro v' μ' ⟨r', J, rfl, rfl, hr', hfr, hR'⟩
  exact ⟨by rw [hr', hr], J, rfl, gl_new hC hK hD1 hfr hR'⟩
theorem st_type {x : Int} (hx : gw_in x) : gl_S jX4_type jX5_type [.inl x] := by
  rintro I F ⟨P, n, pp, hC, hK, hD, hR⟩
  refine ⟨_, c_type 8 hC hD hx, ?_⟩
  rintro v μ ⟨r, I1, rfl, rfl, hr, hu⟩
  obtain ⟨n', hD1⟩ := gc_D_type hC hD hu
  refine ⟨r, I1, F, rfl, rfl, _, m_type 8 hC hK (gl_R1 (gl_type hu) hR) hD hx hu, ?_⟩
  rintro v' μ' ⟨r', J, rfl, rfl, hr', hfr, hR'⟩
  exact ⟨by rw [hr', hr], J, rfl, gl_new hC hK hD1 hfr hR'⟩
theorem st_clear : gl_S jX4_clear jX5_clear [] := by
  rintro I F ⟨P, n, pp, hC, hK, hD, hR⟩
  refine ⟨_, c_clear 9 hC hD, ?_⟩
  rintro v μ ⟨r, I1, rfl, rfl, hr, hu, hD1⟩
  refine ⟨r, I1, F, rfl, rfl, _, m_clear 9 hC (gl_R1 (fun a ha => by rw [hu, gw_U_r (by omega)]) hR) hD hu, ?_⟩
  rintro v' μ' ⟨r', J, rfl, rfl, hr', hfr, hR'⟩
  exact ⟨by rw [hr', hr], J, rfl, gl_new hC hK hD1 hfr hR'⟩
theorem st_forget : gl_S jX4_forget jX5_forget [] := by
  rintro I F ⟨P, n, pp, hC, hK, hD, hR⟩
  refine ⟨_, c_forget 9 hC hD, ?_⟩
  rintro v μ ⟨r, I1, rfl, rfl, hr, hu, hD1⟩
  refine ⟨r, I1, F, rfl, rfl, _, m_forget 9 hC (gl_R1 (fun a ha => by rw [hu, gw_U_r (by omega)]) hR) hD hu, ?_⟩
  rintro v' μ' ⟨r', J, rfl, rfl, hr', hfr, hR'⟩
  exact ⟨by rw [hr', hr], J, rfl, gl_new hC hK hD1 hfr hR'⟩
theorem st_band : gl_S jX4_band jX5_band [] := by
  rintro I F ⟨P, n, pp, hC, hK, hD, hR⟩
  refine ⟨_, c_band 2 hC hD, ?_⟩
  rintro v μ ⟨r, I1, rfl, rfl, hu, P', n', hD1⟩
  refine ⟨r, I1, F, rfl, rfl, _, m_band 5 hC hK (gl_R1 hu.1 hR) hD hu, ?_⟩
  rintro v' μ' ⟨r', J, rfl, rfl, hr', hfr, hR'⟩
  exact ⟨by rw [hr'], J, rfl, gl_new hC hK hD1 hfr hR'⟩
/-- both are new -/
theorem gl_start {I J : Nat → Nat → Int} {F G : Nat → Nat → Option Nat} (hC : gc_K F gi_pp) (hD : gc_D I 0 0 gi_pp) (h0 : gi_c0 I) (ho : gi_old I F J G 99) (hK : gm_K G) (h : J 99 0 = 0 ∧ J 99 3 = 0 ∧ J 99 7 = 0 ∧ J 99 13 = 0 ∧ J 101 0 = 0 ∧ J 101 33 = 0 ∧ J 101 34 = 5 ∧ J 101 35 = 9 ∧ J 103 0 = 0 ∧ J 103 1 = 0) : gl_I J G := by
  obtain ⟨o1, o2⟩ := ho
  have hC' : gc_K G gi_pp := by
    obtain ⟨k0, k1, k2, k3, k4, k6, k7, k8, k9, k70, k71, kx, kq, kp, kj, ki⟩ := hC
    have e := o2 0 (by omega)
    exact ⟨by rw [e]; exact k0, by rw [e]; exact k1, by rw [e]; exact k2, by rw [e]; exact k3, by rw [e]; exact k4, by rw [e]; exact k6, by rw [e]; exact k7, by rw [e]; exact k8, by rw [e]; exact k9, by rw [o2 70 (by omega)]; exact k70, by rw [o2 71 (by omega)]; exact k71, gx_K_c (fun a ha => o2 a (by omega)) kx, gq_K_c (fun a ha => o2 a (by omega)) kq, fun i hi => by rw [o2 _ (by omega)]; exact kp i hi, kj, ki⟩
  have hD' : gc_D J 0 0 gi_pp := gl_D99 hC' o1 hD
  refine ⟨0, 0, gi_pp, hC', hK, hD', ?_⟩
  obtain ⟨c1, c2, c3, c4, c5, c6, c7, c8, c9, c10⟩ := h0
  obtain ⟨j1, j2, j3, j4, j5, j6, j7, j8, j9, j10⟩ := h
  have e := fun a (ha : a < 99) => o1 a ha
  refine ⟨⟨by rw [e 13 (by omega), c1]; exact j1, fun p hp => by rw [e 13 (by omega), c1] at hp; omega⟩, ⟨by rw [e 19 (by omega), c2]; exact j5, by rw [e 19 (by omega), c3]; exact j6, by rw [e 19 (by omega), c4]; exact j7, by rw [e 19 (by omega), c5]; exact j8, fun c hc => by rw [e 19 (by omega), c2] at hc; omega⟩, ⟨by rw [e 0 (by omega), c6]; exact j2, fun j hj => by rw [e 0 (by omega), c6] at hj; omega⟩, fun i hi => ?_, ⟨by rw [e 0 (by omega), c9]; exact j3, fun h hh => by rw [e 0 (by omega), c9] at hh; omega⟩, by rw [e 1 (by omega), c10]; exact j4, fun i hi => by rw [e 1 (by omega), c10] at hi; omega⟩
  have e72 : J 72 i = 0 := by
    rw [e 72 (by omega)]
    rcases (show i = 0 ∨ i = 1 by omega) with rfl | rfl
    · exact c7
    · exact c8
  refine ⟨?_, fun q => by rw [e72] at q; omega⟩
  rw [e72]
  rcases (show i = 0 ∨ i = 1 by omega) with rfl | rfl
  · exact j9
  · exact j10
