theorem law_sim {F G : ST → Option (Int32 × ST)} (h : SIM F G) {σ : ST} (hI : INV σ σ) {k : ST → Option Int32} (hk : ∀ σ', INV σ' σ' → k σ' = some 1) : (bI (F σ) fun a σ1 => bI (G σ1) fun b σ2 => if a = b then k σ2 else some 0) = some 1 := by
  obtain ⟨a, σ1, σ2, e1, e2, hJ⟩ := h.go hI
  rw [e1, bI_t, e2, bI_t, if_pos rfl]; exact hk σ2 hJ
theorem law_simr {F : ST → Option Int32} {G : ST → Option (Int32 × ST)} (h : SIMr F G) {σ : ST} (hI : INV σ σ) {k : ST → Option Int32} (hk : ∀ σ', INV σ' σ' → k σ' = some 1) : (bR (F σ) fun a => bI (G σ) fun b σ2 => if a = b then k σ2 else some 0) = some 1 := by
  obtain ⟨a, σ2, e1, e2, hJ⟩ := h.go hI
  rw [e1, bR_t, e2, bI_t, if_pos rfl]; exact hk σ2 hJ
theorem start_inv : INV σI σI := by
  refine ⟨⟨⟨rfl, rfl⟩, ⟨rfl, rfl⟩, ⟨rfl, rfl⟩, ⟨rfl, rfl⟩, ⟨rfl, rfl⟩, ⟨rfl, rfl⟩, ⟨rfl, rfl⟩⟩, ⟨0, 0, 0, by omega, by omega, by omega, rfl, rfl, rfl, rfl, rfl, rfl, rfl, rfl, rfl, ⟨by decide, by decide⟩, ⟨by decide, by decide⟩, fun s h => by omega, fun s h => by omega, fun s h => by omega, fun s h => by omega, fun s h => by omega, fun s h => by omega, fun s h => by omega, fun s h => by omega, fun s hs r hr => ?_⟩, rfl, Or.inl rfl, fun d hd => ?_⟩
  · show (if 8 * s + r < 64 then (-1 : Int32) else 0) = -1
    rw [if_pos (by omega)]
  · have h0 : σI.1 (20 + 2 * d) 0 = 0 := (show ∀ d, d < 8 → σI.1 (20 + 2 * d) 0 = 0 by decide) d hd
    refine ⟨h0.symm, Or.inl h0, fun e => ?_, fun e => ?_⟩
    · rw [h0] at e; exact absurd e (by decide)
    · rw [h0] at e; exact absurd e (by decide)
section LAW
variable {xs : Nat → Int32} {L i : Nat} {kt : Int32 → ST → Option Int32} {σ : ST}
theorem law_ix (hi : i + 6 ≤ L) (hL : L ≤ 3072) : inb (nI i) L = true ∧ inb (nI i + 1) L = true ∧ inb (nI i + 2) L = true ∧ inb (nI i + 3) L = true ∧ inb (nI i + 4) L = true ∧ inb (nI i + 5) L = true := by
  refine ⟨inb_t (by omega) (by omega), ?_, ?_, ?_, ?_, ?_⟩
  · rw [nI_1]; exact inb_t (by omega) (by omega)
  · rw [show nI i + 2 = nI (i + 2) from nI_add i 2]; exact inb_t (by omega) (by omega)
  · rw [show nI i + 3 = nI (i + 3) from nI_add i 3]; exact inb_t (by omega) (by omega)
  · rw [show nI i + 4 = nI (i + 4) from nI_add i 4]; exact inb_t (by omega) (by omega)
  · rw [show nI i + 5 = nI (i + 5) from nI_add i 5]; exact inb_t (by omega) (by omega)
theorem law_croom (hi : i + 6 ≤ L) (hL : L ≤ 3072) (hI : INV σ σ) (hk : ∀ σ', INV σ' σ' → kt (nI i + 6) σ' = some 1) : fL_law_188 xs L kt (nI i) σ = some 1 := by
  obtain ⟨j0, j1, j2, j3, j4, j5⟩ := law_ix hi hL
  unfold fL_law_188 fL_law_1483
  simp only [j1, j2, j3, j4, j5, gd_t]
  exact law_sim (sim_room _) hI hk
theorem law_csender (hi : i + 6 ≤ L) (hL : L ≤ 3072) (hI : INV σ σ) (hk : ∀ σ', INV σ' σ' → kt (nI i + 6) σ' = some 1) : fL_law_213 xs L kt (nI i) σ = some 1 := by
  obtain ⟨j0, j1, j2, j3, j4, j5⟩ := law_ix hi hL
  unfold fL_law_213 fL_law_1483
  simp only [j1, j2, j3, j4, j5, gd_t]
  exact law_simr (sim_sender _ _) hI hk
theorem law_creturner (hi : i + 6 ≤ L) (hL : L ≤ 3072) (hI : INV σ σ) (hk : ∀ σ', INV σ' σ' → kt (nI i + 6) σ' = some 1) : fL_law_250 xs L kt (nI i) σ = some 1 := by
  obtain ⟨j0, j1, j2, j3, j4, j5⟩ := law_ix hi hL
  unfold fL_law_250 fL_law_1483
  simp only [j1, j2, j3, j4, j5, gd_t]
  exact law_sim (sim_returner _ _).sim hI hk
theorem law_cset (hi : i + 6 ≤ L) (hL : L ≤ 3072) (hI : INV σ σ) (hk : ∀ σ', INV σ' σ' → kt (nI i + 6) σ' = some 1) : fL_law_287 xs L kt (nI i) σ = some 1 := by
  obtain ⟨j0, j1, j2, j3, j4, j5⟩ := law_ix hi hL
  unfold fL_law_287 fL_law_1483
  simp only [j1, j2, j3, j4, j5, gd_t]
  exact law_sim (sim_set _ _) hI hk
theorem law_cholds (hi : i + 6 ≤ L) (hL : L ≤ 3072) (hI : INV σ σ) (hk : ∀ σ', INV σ' σ' → kt (nI i + 6) σ' = some 1) : fL_law_324 xs L kt (nI i) σ = some 1 := by
  obtain ⟨j0, j1, j2, j3, j4, j5⟩ := law_ix hi hL
  unfold fL_law_324 fL_law_1483
  simp only [j1, j2, j3, j4, j5, gd_t]
  exact law_sim (sim_holds _ _) hI hk
theorem law_cpair (hi : i + 6 ≤ L) (hL : L ≤ 3072) (hI : INV σ σ) (hk : ∀ σ', INV σ' σ' → kt (nI i + 6) σ' = some 1) : fL_law_361 xs L kt (nI i) σ = some 1 := by
  obtain ⟨j0, j1, j2, j3, j4, j5⟩ := law_ix hi hL
  unfold fL_law_361 fL_law_388 fL_law_418 fL_law_1483
  simp only [j1, j2, j3, gd_t]
  by_cases h : xs (nI i + 3).toNatClampNeg = 0
  · simp only [if_pos h]
    exact law_sim (sim_pair _ _ 0 (Or.inl rfl)) hI hk
  · simp only [if_neg h]
    exact law_sim (sim_pair _ _ 1 (Or.inr rfl)) hI hk
theorem law_call (hi : i + 6 ≤ L) (hL : L ≤ 3072) (hI : INV σ σ) (hk : ∀ σ', INV σ' σ' → kt (nI i + 6) σ' = some 1) : fL_law_426 xs L kt (nI i) σ = some 1 := by
  obtain ⟨j0, j1, j2, j3, j4, j5⟩ := law_ix hi hL
  unfold fL_law_426 fL_law_1483
  exact law_sim (sim_all) hI hk
theorem law_cof (hi : i + 6 ≤ L) (hL : L ≤ 3072) (hI : INV σ σ) (hk : ∀ σ', INV σ' σ' → kt (nI i + 6) σ' = some 1) : fL_law_439 xs L kt (nI i) σ = some 1 := by
  obtain ⟨j0, j1, j2, j3, j4, j5⟩ := law_ix hi hL
  unfold fL_law_439 fL_law_1483
  simp only [j1, j2, j3, j4, j5, gd_t]
  exact law_simr (sim_of _ _) hI hk
theorem law_csumSent (hi : i + 6 ≤ L) (hL : L ≤ 3072) (hI : INV σ σ) (hk : ∀ σ', INV σ' σ' → kt (nI i + 6) σ' = some 1) : fL_law_476 xs L kt (nI i) σ = some 1 := by
  obtain ⟨j0, j1, j2, j3, j4, j5⟩ := law_ix hi hL
  unfold fL_law_476 fL_law_1483
  simp only [j1, j2, j3, j4, j5, gd_t]
  exact law_simr (sim_sumSent _ _) hI hk
theorem law_csumCame (hi : i + 6 ≤ L) (hL : L ≤ 3072) (hI : INV σ σ) (hk : ∀ σ', INV σ' σ' → kt (nI i + 6) σ' = some 1) : fL_law_513 xs L kt (nI i) σ = some 1 := by
  obtain ⟨j0, j1, j2, j3, j4, j5⟩ := law_ix hi hL
  unfold fL_law_513 fL_law_1483
  simp only [j1, j2, j3, j4, j5, gd_t]
  exact law_simr (sim_sumCame _ _) hI hk
theorem law_cjudge (hi : i + 6 ≤ L) (hL : L ≤ 3072) (hI : INV σ σ) (hk : ∀ σ', INV σ' σ' → kt (nI i + 6) σ' = some 1) : fL_law_550 xs L kt (nI i) σ = some 1 := by
  obtain ⟨j0, j1, j2, j3, j4, j5⟩ := law_ix hi hL
  unfold fL_law_550 fL_law_1483
  simp only [j1, j2, j3, j4, j5, gd_t]
  exact law_simr (sim_judge _) hI hk
theorem law_csends (hi : i + 6 ≤ L) (hL : L ≤ 3072) (hI : INV σ σ) (hk : ∀ σ', INV σ' σ' → kt (nI i + 6) σ' = some 1) : fL_law_575 xs L kt (nI i) σ = some 1 := by
  obtain ⟨j0, j1, j2, j3, j4, j5⟩ := law_ix hi hL
  unfold fL_law_575 fL_law_1483
  simp only [j1, j2, j3, j4, j5, gd_t]
  exact law_sim (sim_sends _ _).sim hI hk
theorem law_cback (hi : i + 6 ≤ L) (hL : L ≤ 3072) (hI : INV σ σ) (hk : ∀ σ', INV σ' σ' → kt (nI i + 6) σ' = some 1) : fL_law_612 xs L kt (nI i) σ = some 1 := by
  obtain ⟨j0, j1, j2, j3, j4, j5⟩ := law_ix hi hL
  unfold fL_law_612 fL_law_639 fL_law_669 fL_law_1483
  simp only [j1, j2, j3, gd_t]
  by_cases h : xs (nI i + 3).toNatClampNeg = 0
  · simp only [if_pos h]
    exact law_sim ((sim_back _ _ 0).sim) hI hk
  · simp only [if_neg h]
    exact law_sim ((sim_back _ _ 1).sim) hI hk
theorem law_cheld (hi : i + 6 ≤ L) (hL : L ≤ 3072) (hI : INV σ σ) (hk : ∀ σ', INV σ' σ' → kt (nI i + 6) σ' = some 1) : fL_law_677 xs L kt (nI i) σ = some 1 := by
  obtain ⟨j0, j1, j2, j3, j4, j5⟩ := law_ix hi hL
  unfold fL_law_677 fL_law_1483
  simp only [j1, j2, j3, j4, j5, gd_t]
  exact law_sim (sim_held _ _).sim hI hk
theorem law_ctrust (hi : i + 6 ≤ L) (hL : L ≤ 3072) (hI : INV σ σ) (hk : ∀ σ', INV σ' σ' → kt (nI i + 6) σ' = some 1) : fL_law_714 xs L kt (nI i) σ = some 1 := by
  obtain ⟨j0, j1, j2, j3, j4, j5⟩ := law_ix hi hL
  unfold fL_law_714 fL_law_1483
  simp only [j1, j2, j3, j4, j5, gd_t]
  exact law_sim (sim_trust _ _).sim hI hk
theorem law_cgiving (hi : i + 6 ≤ L) (hL : L ≤ 3072) (hI : INV σ σ) (hk : ∀ σ', INV σ' σ' → kt (nI i + 6) σ' = some 1) : fL_law_751 xs L kt (nI i) σ = some 1 := by
  obtain ⟨j0, j1, j2, j3, j4, j5⟩ := law_ix hi hL
  unfold fL_law_751 fL_law_1483
  simp only [j1, j2, j3, j4, j5, gd_t]
  exact law_sim (sim_giving _).sim hI hk
theorem law_cbest (hi : i + 6 ≤ L) (hL : L ≤ 3072) (hI : INV σ σ) (hk : ∀ σ', INV σ' σ' → kt (nI i + 6) σ' = some 1) : fL_law_776 xs L kt (nI i) σ = some 1 := by
  obtain ⟨j0, j1, j2, j3, j4, j5⟩ := law_ix hi hL
  unfold fL_law_776 fL_law_1483
  simp only [j1, j2, j3, j4, j5, gd_t]
  exact law_sim (sim_best _ _).sim hI hk
theorem law_cworth (hi : i + 6 ≤ L) (hL : L ≤ 3072) (hI : INV σ σ) (hk : ∀ σ', INV σ' σ' → kt (nI i + 6) σ' = some 1) : fL_law_813 xs L kt (nI i) σ = some 1 := by
  obtain ⟨j0, j1, j2, j3, j4, j5⟩ := law_ix hi hL
  unfold fL_law_813 fL_law_1483
  simp only [j1, j2, j3, j4, j5, gd_t]
  exact law_sim (sim_worth _ _ _).sim hI hk
theorem law_cpromise (hi : i + 6 ≤ L) (hL : L ≤ 3072) (hI : INV σ σ) (hk : ∀ σ', INV σ' σ' → kt (nI i + 6) σ' = some 1) : fL_law_862 xs L kt (nI i) σ = some 1 := by
  obtain ⟨j0, j1, j2, j3, j4, j5⟩ := law_ix hi hL
  unfold fL_law_862 fL_law_1483
  simp only [j1, j2, j3, j4, j5, gd_t]
  exact law_sim (sim_promise _ _ _).sim hI hk
theorem law_clastTurn (hi : i + 6 ≤ L) (hL : L ≤ 3072) (hI : INV σ σ) (hk : ∀ σ', INV σ' σ' → kt (nI i + 6) σ' = some 1) : fL_law_911 xs L kt (nI i) σ = some 1 := by
  obtain ⟨j0, j1, j2, j3, j4, j5⟩ := law_ix hi hL
  unfold fL_law_911 fL_law_1483
  simp only [j1, j2, j3, j4, j5, gd_t]
  exact law_simr (sim_lastTurn _ _ _) hI hk
theorem law_clands (hi : i + 6 ≤ L) (hL : L ≤ 3072) (hI : INV σ σ) (hk : ∀ σ', INV σ' σ' → kt (nI i + 6) σ' = some 1) : fL_law_960 xs L kt (nI i) σ = some 1 := by
  obtain ⟨j0, j1, j2, j3, j4, j5⟩ := law_ix hi hL
  unfold fL_law_960 fL_law_1483
  simp only [j1, j2, j3, j4, j5, gd_t]
  exact law_simr (sim_lands _ _) hI hk
theorem law_cwords (hi : i + 6 ≤ L) (hL : L ≤ 3072) (hI : INV σ σ) (hk : ∀ σ', INV σ' σ' → kt (nI i + 6) σ' = some 1) : fL_law_997 xs L kt (nI i) σ = some 1 := by
  obtain ⟨j0, j1, j2, j3, j4, j5⟩ := law_ix hi hL
  unfold fL_law_997 fL_law_1483
  simp only [j1, j2, j3, j4, j5, gd_t]
  exact law_simr (sim_words _ _) hI hk
theorem law_cparts (hi : i + 6 ≤ L) (hL : L ≤ 3072) (hI : INV σ σ) (hk : ∀ σ', INV σ' σ' → kt (nI i + 6) σ' = some 1) : fL_law_1034 xs L kt (nI i) σ = some 1 := by
  obtain ⟨j0, j1, j2, j3, j4, j5⟩ := law_ix hi hL
  unfold fL_law_1034 fL_law_1483
  simp only [j1, j2, j3, j4, j5, gd_t]
  exact law_sim (sim_parts _ _ _ _).sim hI hk
theorem law_cimage (hi : i + 6 ≤ L) (hL : L ≤ 3072) (hI : INV σ σ) (hk : ∀ σ', INV σ' σ' → kt (nI i + 6) σ' = some 1) : fL_law_1095 xs L kt (nI i) σ = some 1 := by
  obtain ⟨j0, j1, j2, j3, j4, j5⟩ := law_ix hi hL
  unfold fL_law_1095 fL_law_1483
  exact law_sim (sim_image) hI hk
theorem law_crestore (hi : i + 6 ≤ L) (hL : L ≤ 3072) (hI : INV σ σ) (hk : ∀ σ', INV σ' σ' → kt (nI i + 6) σ' = some 1) : fL_law_1108 xs L kt (nI i) σ = some 1 := by
  obtain ⟨j0, j1, j2, j3, j4, j5⟩ := law_ix hi hL
  unfold fL_law_1108 fL_law_1483
  exact law_sim (sim_restore) hI hk
theorem law_ccount (hi : i + 6 ≤ L) (hL : L ≤ 3072) (hI : INV σ σ) (hk : ∀ σ', INV σ' σ' → kt (nI i + 6) σ' = some 1) : fL_law_1121 xs L kt (nI i) σ = some 1 := by
  obtain ⟨j0, j1, j2, j3, j4, j5⟩ := law_ix hi hL
  unfold fL_law_1121 fL_law_1483
  simp only [j1, j2, j3, j4, j5, gd_t]
  exact law_simr (sim_count _) hI hk
theorem law_ckeep (hi : i + 6 ≤ L) (hL : L ≤ 3072) (hI : INV σ σ) (hk : ∀ σ', INV σ' σ' → kt (nI i + 6) σ' = some 1) : fL_law_1146 xs L kt (nI i) σ = some 1 := by
  obtain ⟨j0, j1, j2, j3, j4, j5⟩ := law_ix hi hL
  unfold fL_law_1146 fL_law_1483
  simp only [j1, j2, j3, j4, j5, gd_t]
  exact law_sim (sim_keep _ _ _) hI hk
theorem law_crow (hi : i + 6 ≤ L) (hL : L ≤ 3072) (hI : INV σ σ) (hk : ∀ σ', INV σ' σ' → kt (nI i + 6) σ' = some 1) : fL_law_1195 xs L kt (nI i) σ = some 1 := by
  obtain ⟨j0, j1, j2, j3, j4, j5⟩ := law_ix hi hL
  unfold fL_law_1195 fL_law_1483
  simp only [j1, j2, j3, j4, j5, gd_t]
  exact law_sim (sim_row _ _ _) hI hk
theorem law_cput (hi : i + 6 ≤ L) (hL : L ≤ 3072) (hI : INV σ σ) (hk : ∀ σ', INV σ' σ' → kt (nI i + 6) σ' = some 1) : fL_law_1244 xs L kt (nI i) σ = some 1 := by
  obtain ⟨j0, j1, j2, j3, j4, j5⟩ := law_ix hi hL
  unfold fL_law_1244 fL_law_1483
  simp only [j1, j2, j3, j4, j5, gd_t]
  exact law_sim (sim_put _ _ _) hI hk
theorem law_ccopy (hi : i + 6 ≤ L) (hL : L ≤ 3072) (hI : INV σ σ) (hk : ∀ σ', INV σ' σ' → kt (nI i + 6) σ' = some 1) : fL_law_1360 xs L kt (nI i) σ = some 1 := by
  obtain ⟨j0, j1, j2, j3, j4, j5⟩ := law_ix hi hL
  unfold fL_law_1360 fL_law_1483
  simp only [j1, j2, j3, j4, j5, gd_t]
  exact law_sim (sim_copy _ _ _ _ _) hI hk
theorem law_cfaith (hi : i + 6 ≤ L) (hL : L ≤ 3072) (hI : INV σ σ) (hk : ∀ σ', INV σ' σ' → kt (nI i + 6) σ' = some 1) : fL_law_1433 xs L kt (nI i) σ = some 1 := by
  obtain ⟨j0, j1, j2, j3, j4, j5⟩ := law_ix hi hL
  unfold fL_law_1433 fL_law_1483
  simp only [j1, j2, j3, j4, j5, gd_t]
  exact law_simr (sim_faith _) hI hk
theorem law_ctoss (hi : i + 6 ≤ L) (hL : L ≤ 3072) (hI : INV σ σ) (hk : ∀ σ', INV σ' σ' → kt (nI i + 6) σ' = some 1) : fL_law_1458 xs L kt (nI i) σ = some 1 := by
  obtain ⟨j0, j1, j2, j3, j4, j5⟩ := law_ix hi hL
  unfold fL_law_1458 fL_law_1483
  simp only [j1, j2, j3, j4, j5, gd_t]
  exact law_simr (sim_toss _) hI hk
theorem law_celement (hi : i + 6 ≤ L) (hL : L ≤ 3072) (hI : INV σ σ) (hk : ∀ σ', INV σ' σ' → kt (nI i + 6) σ' = some 1) : fL_law_1293 xs L kt (nI i) σ = some 1 := by
  obtain ⟨j0, j1, j2, j3, j4, j5⟩ := law_ix hi hL
  unfold fL_law_1293 fL_law_1357 fL_law_1483
  simp only [j1, j2, gd_t]
  generalize xs (nI i + 1).toNatClampNeg = x1
  generalize xs (nI i + 2).toNatClampNeg = x2
  obtain ⟨a, v, τ0, e1, -, -⟩ := el_c x1 x2 hI
  have h6 : ag6 σ (if a = 0 then setL σ 67 0 v else σ) := by
    by_cases h : a = 0
    · rw [if_pos h]; exact ⟨fun _ _ _ _ => rfl, fun j => by rw [lg, if_neg (by omega)]⟩
    · rw [if_neg h]; exact ag6.rfl
  obtain ⟨a', v', τ', e2, e3, e4⟩ := el_c x1 x2 (hI.f ag5.rfl h6)
  rw [e1] at e2
  obtain ⟨ha, hs⟩ := Prod.mk.inj (Option.some.inj e2)
  subst ha
  have hJ : INV τ' τ' := by
    rw [e4]
    refine hI.f (fun k j hk _ => ?_) ⟨fun k j hk hs => ?_, fun j => ?_⟩
    · rw [sg, if_neg (by omega)]
      by_cases h : a = 0
      · rw [if_pos h]; rfl
      · rw [if_neg h]
    · rw [sg, if_neg (fun e => hs (by unfold sc6; omega))]
      by_cases h : a = 0
      · rw [if_pos h]; rfl
      · rw [if_neg h]
    · exact h6.2 j
  have ht : τ'.1 36 23 = a := by rw [e4, sg, if_pos ⟨rfl, rfl⟩]
  have ht2 : τ'.2 = (if a = 0 then setL σ 67 0 v else σ).2 := by rw [e4]; rfl
  rw [e1, bI_t, e3, bJ_t]
  unfold fX6_thrown
  rw [bR_t, ht, if_pos rfl]
  by_cases h : a = 0
  · rw [if_pos h, if_pos h] at hs
    have hv : v = v' := by
      have := congrArg (fun s : ST => s.2 67 0) hs
      simpa [lg] using this
    have hq : τ'.2 67 0 = v := by rw [ht2, if_pos h, lg, if_pos ⟨rfl, rfl⟩]
    rw [if_pos h, if_pos h, al_67, show inb 0 1 = true by decide, gd_t, show (0 : Int32).toNatClampNeg = 0 by decide, hq, if_pos ((lc_eq _ _).mpr hv)]
    exact hk τ' hJ
  · rw [if_neg h]; exact hk τ' hJ
theorem law_loop (hL : L ≤ 3072) : ∀ (m i f : Nat) (σ : ST), L ≤ i + m → i ≤ 3078 → m < f → INV σ σ → fL_law_23 xs L f (nI i) σ = some 1
  | m, i, f + 1, σ, hm, hi, hf, hI => by
    have s6 : (Int32.ofNat L - 6 : Int32).toInt = (L : Int) - 6 := by
      have := pk_sub_toInt (a := L) (b := 6) (by omega) (by omega)
      exact this
    rw [fL_law_23]
    by_cases c : L < i + 6
    · rw [if_pos (by rw [Int32.lt_iff_toInt_lt, s6, nI_toInt (by omega)]; omega)]
    · have hi6 : i + 6 ≤ L := by omega
      obtain ⟨j0, -⟩ := law_ix hi6 hL
      have hk : ∀ σ', INV σ' σ' → fL_law_23 xs L f (nI i + 6) σ' = some 1 := fun σ' hJ => by
        rw [show nI i + 6 = nI (i + 6) from nI_add i 6]
        exact law_loop hL (m - 1) (i + 6) f σ' (by omega) (by omega) (by omega) hJ
      rw [if_neg (by rw [Int32.lt_iff_toInt_lt, s6, nI_toInt (by omega)]; omega), j0, gd_t]
      generalize xs (nI i).toNatClampNeg &&& 63 = op
      by_cases c0 : op = 0
      · rw [if_pos c0]; exact law_croom hi6 hL hI hk
      rw [if_neg c0]
      by_cases c1 : op = 1
      · rw [if_pos c1]; exact law_csender hi6 hL hI hk
      rw [if_neg c1]
      by_cases c2 : op = 2
      · rw [if_pos c2]; exact law_creturner hi6 hL hI hk
      rw [if_neg c2]
      by_cases c3 : op = 3
      · rw [if_pos c3]; exact law_cset hi6 hL hI hk
      rw [if_neg c3]
      by_cases c4 : op = 4
      · rw [if_pos c4]; exact law_cholds hi6 hL hI hk
      rw [if_neg c4]
      by_cases c5 : op = 5
      · rw [if_pos c5]; exact law_cpair hi6 hL hI hk
      rw [if_neg c5]
      by_cases c6 : op = 6
      · rw [if_pos c6]; exact law_call hi6 hL hI hk
      rw [if_neg c6]
      by_cases c7 : op = 7
      · rw [if_pos c7]; exact law_cof hi6 hL hI hk
      rw [if_neg c7]
      by_cases c8 : op = 8
      · rw [if_pos c8]; exact law_csumSent hi6 hL hI hk
      rw [if_neg c8]
      by_cases c9 : op = 9
      · rw [if_pos c9]; exact law_csumCame hi6 hL hI hk
      rw [if_neg c9]
      by_cases c10 : op = 10
      · rw [if_pos c10]; exact law_cjudge hi6 hL hI hk
      rw [if_neg c10]
      by_cases c11 : op = 11
      · rw [if_pos c11]; exact law_csends hi6 hL hI hk
      rw [if_neg c11]
      by_cases c12 : op = 12
      · rw [if_pos c12]; exact law_cback hi6 hL hI hk
      rw [if_neg c12]
      by_cases c13 : op = 13
      · rw [if_pos c13]; exact law_cheld hi6 hL hI hk
      rw [if_neg c13]
      by_cases c14 : op = 14
      · rw [if_pos c14]; exact law_ctrust hi6 hL hI hk
      rw [if_neg c14]
      by_cases c15 : op = 15
      · rw [if_pos c15]; exact law_cgiving hi6 hL hI hk
      rw [if_neg c15]
      by_cases c16 : op = 16
      · rw [if_pos c16]; exact law_cbest hi6 hL hI hk
      rw [if_neg c16]
      by_cases c17 : op = 17
      · rw [if_pos c17]; exact law_cworth hi6 hL hI hk
      rw [if_neg c17]
      by_cases c18 : op = 18
      · rw [if_pos c18]; exact law_cpromise hi6 hL hI hk
      rw [if_neg c18]
      by_cases c19 : op = 19
      · rw [if_pos c19]; exact law_clastTurn hi6 hL hI hk
      rw [if_neg c19]
      by_cases c20 : op = 20
      · rw [if_pos c20]; exact law_clands hi6 hL hI hk
      rw [if_neg c20]
      by_cases c21 : op = 21
      · rw [if_pos c21]; exact law_cwords hi6 hL hI hk
      rw [if_neg c21]
      by_cases c22 : op = 22
      · rw [if_pos c22]; exact law_cparts hi6 hL hI hk
      rw [if_neg c22]
      by_cases c23 : op = 23
      · rw [if_pos c23]; exact law_cimage hi6 hL hI hk
      rw [if_neg c23]
      by_cases c24 : op = 24
      · rw [if_pos c24]; exact law_crestore hi6 hL hI hk
      rw [if_neg c24]
      by_cases c25 : op = 25
      · rw [if_pos c25]; exact law_ccount hi6 hL hI hk
      rw [if_neg c25]
      by_cases c26 : op = 26
      · rw [if_pos c26]; exact law_ckeep hi6 hL hI hk
      rw [if_neg c26]
      by_cases c27 : op = 27
      · rw [if_pos c27]; exact law_crow hi6 hL hI hk
      rw [if_neg c27]
      by_cases c28 : op = 28
      · rw [if_pos c28]; exact law_cput hi6 hL hI hk
      rw [if_neg c28]
      by_cases c29 : op = 29
      · rw [if_pos c29]; exact law_celement hi6 hL hI hk
      rw [if_neg c29]
      by_cases c30 : op = 30
      · rw [if_pos c30]; exact law_ccopy hi6 hL hI hk
      rw [if_neg c30]
      by_cases c31 : op = 31
      · rw [if_pos c31]; exact law_cfaith hi6 hL hI hk
      rw [if_neg c31]
      by_cases c32 : op = 32
      · rw [if_pos c32]; exact law_ctoss hi6 hL hI hk
      rw [if_neg c32]
      exact hk σ hI
/-- every script is answered by 1 -/
theorem law_pure (xs : Nat → Int32) (L : Nat) (hL : L ≤ 3072) : fL_law_23 xs L FU 0 σI = some 1 := law_loop hL L 0 FU σI (by omega) (by omega) (by unfold FU; omega) start_inv
end LAW
