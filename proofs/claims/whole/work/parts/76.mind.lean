theorem X_sm3 {σ σ' : ST} (h : sm3 σ σ') : X 1 σ' = X 1 σ := by
  funext k j
  unfold X
  split <;> exact h.1 _ _ (by omega)
theorem sim_back (x1 x2 x3 : Int32) : SIMs (fX5_back x1 x2 x3) (fX6_back x1 x2 x3) := by
  intro σ τ h0
  have hI := h0.r
  have hT := scr6.r (τ := τ)
  unfold fX5_back fX6_back fX6_back_27 fX5_back_29
  generalize setI τ 36 23 0 = T at *
  obtain ⟨ns, nr, np, R⟩ := hI.g
  have hr8 := R.hr
  rcases isR2 R x1 with ⟨h1, h2⟩ | ⟨r, hr, rfl, h1, h2⟩
  · exact ⟨-1, σ, T, by rw [h1]; rfl, by rw [h2]; rfl, scr5.rfl, hT⟩
  · have e3 : fX6_in x2.toInt64 0 (T.1 36 0).toInt64 T = some (if 0 ≤ x2 ∧ x2 ≤ T.1 36 0 then 1 else 0) := in_i x2 0 (T.1 36 0) T
    have hc : T.1 36 0 = σ.1 1 0 := R.c0
    by_cases h4 : x2 < 0
    · rw [if_neg (fun h => absurd h4 (Int32.not_lt.mpr h.1))] at e3
      exact ⟨-1, σ, T, by rw [h1, bR_t, if_neg (by decide), if_pos h4], by rw [h2, bR_t, if_neg (by decide), e3, bR_t, if_pos rfl], scr5.rfl, hT⟩
    by_cases h5 : x2 ≤ σ.1 1 0
    · rw [if_pos ⟨Int32.not_lt.mp h4, hc ▸ h5⟩] at e3
      obtain ⟨σ1, b1, m1, ⟨a1, a2, a3⟩, ⟨d1, d2, d3, d4, d5⟩, o⟩ := bringR hI.c R.xr R.hr hr
      obtain ⟨u1, u2, u3, u4, u5⟩ := R.r r hr
      obtain ⟨v1, v2, v3, v4, v5⟩ := R.rr r hr
      refine ⟨bkV (σ1.1 3 2) (σ1.1 3 6) (σ1.1 3 7) (σ1.1 3 8) (σ1.1 3 9) (x2 * σ1.1 3 1) x3, setI σ1 3 2 (bkZ (σ1.1 3 2) (σ1.1 3 6) (σ1.1 3 8) (x2 * σ1.1 3 1)), T, ?_, ?_, m1.set.scr, hT⟩
      · rw [h1, bR_t, if_neg (by decide), if_neg h4, if_pos h5, b1, bR_t, back5, bI_t]
      · have i8 : inb (nI r) 8 = true := inb_t (by omega) (by decide)
        have w2 : T.1 41 r = σ1.1 3 7 := u2.trans d2.symm
        have w1 : T.1 40 r = σ1.1 3 6 := u1.trans d1.symm
        have w3 : T.1 42 r = σ1.1 3 8 := u3.trans d3.symm
        have w4 : T.1 43 r = σ1.1 3 9 := u4.trans d4.symm
        have y1 : T.1 36 1 = σ1.1 3 1 := (show T.1 36 1 = σ.1 1 1 from R.c1).trans a2.symm
        have y2 : T.1 36 2 = σ1.1 3 2 := (show T.1 36 2 = σ.1 1 2 from R.c2).trans a3.symm
        rw [h2, bR_t, if_neg (by decide), e3, bR_t, if_neg (by decide), al_41, i8, gd_t, nI_clamp (by omega), back6 (by omega) (show T.1 41 r ≤ 100 by rw [show T.1 41 r = X 1 σ 5 (5 * r + 1) from u2]; exact v2.2), bI_t, set_back, w1, w2, w3, w4, y1, y2]
    · rw [if_neg (fun h => h5 (hc ▸ h.2))] at e3
      exact ⟨-1, σ, T, by rw [h1, bR_t, if_neg (by decide), if_neg h4, if_neg h5], by rw [h2, bR_t, if_neg (by decide), e3, bR_t, if_pos rfl], scr5.rfl, hT⟩
theorem sim_giving (x1 : Int32) : SIMs (fX5_giving x1) (fX6_giving x1) := by
  intro σ τ h0
  have hI := h0.r
  have hT := scr6.r (τ := τ)
  unfold fX5_giving fX6_giving
  generalize setI τ 36 23 0 = T at *
  obtain ⟨ns, nr, np, R⟩ := hI.g
  have hs8 := R.hs
  rcases isS2 R x1 with ⟨h1, h2⟩ | ⟨s, hs, rfl, h1, h2⟩
  · exact ⟨-1, σ, T, by rw [h1]; rfl, by rw [h2]; rfl, scr5.rfl, hT⟩
  · obtain ⟨σ1, b1, m1, ⟨a1, a2, a3⟩, ⟨d1, d2, d3⟩, o⟩ := bringS hI.c R.xs R.hs hs
    obtain ⟨u1, u2, u3⟩ := R.s s hs
    have w1 : T.1 37 s = σ1.1 3 3 := u1.trans d1.symm
    have w2 : T.1 38 s = σ1.1 3 4 := u2.trans d2.symm
    have w3 : T.1 39 s = σ1.1 3 5 := u3.trans d3.symm
    have y0 : T.1 36 0 = σ1.1 3 0 := (show T.1 36 0 = σ.1 1 0 from R.c0).trans a1.symm
    have y1 : T.1 36 1 = σ1.1 3 1 := (show T.1 36 1 = σ.1 1 1 from R.c1).trans a2.symm
    have y2 : T.1 36 2 = σ1.1 3 2 := (show T.1 36 2 = σ.1 1 2 from R.c2).trans a3.symm
    refine ⟨svV (σ1.1 3 0) (σ1.1 3 1) (σ1.1 3 2) (σ1.1 3 3) (σ1.1 3 4) (σ1.1 3 5) 0 0 0 (-1), setI (setI (setI (setI (setI σ1 3 6 0) 3 10 0) 3 11 1) 3 12 0) 3 13 (-1), T, ?_, ?_, m1.set.set.set.set.set.scr, hT⟩
    · rw [h1, bR_t, if_neg (by decide), b1, bR_t]
      unfold fX1_faceOneWhoKeepsAll
      rw [bR_t, wouldSend5, bI_t]
      show some (svV (σ1.1 3 0) (σ1.1 3 1) (σ1.1 3 2) (σ1.1 3 3) (σ1.1 3 4) (σ1.1 3 5) 0 0 (h4x 1 0 (σ1.1 3 5)) (-1), _) = _
      have : h4x 1 0 (σ1.1 3 5) = 0 := by
        unfold h4x
        rw [if_neg (by decide)]; decide
      rw [this]
    · rw [h2, bR_t, if_neg (by decide), send6 (by omega) (Or.inl rfl) (by rw [show T.1 36 0 = X 1 σ 0 0 from R.c0]; exact R.rc) (Or.inl rfl), bI_t, set_back, if_pos (by decide), w1, w2, w3, y0, y1, y2]
theorem MT.times {s r C G : Nat} {sh : Int32} {σ τ : ST} (h : MT s r C G sh σ τ) {t : Int32} (ht : rg t 1 5) : MT s r C G sh (setI σ 3 1 t) (setI τ 36 1 t) := by
  obtain ⟨⟨hs, hr⟩, ⟨c1, c2, c3⟩, ⟨c4, c5, c6⟩, ⟨d1, d2, d3, d4, d5⟩, ⟨e1, e2, e3, e4, e5⟩, ⟨l1, l2⟩, ⟨r1, r2⟩, r3, r4, r5, r6⟩ := h
  exact ⟨⟨hs, hr⟩, ⟨c1, rfl, c3⟩, ⟨c4, c5, c6⟩, ⟨d1, d2, d3, d4, d5⟩, ⟨e1, e2, e3, e4, e5⟩, ⟨l1, l2⟩, ⟨r1, ht⟩, r3, r4, r5, r6⟩
theorem MT.share {s r C G : Nat} {sh : Int32} {σ τ : ST} (h : MT s r C G sh σ τ) : MT s r C G 0 (setI σ 3 7 0) τ := by
  obtain ⟨⟨hs, hr⟩, ⟨c1, c2, c3⟩, ⟨c4, c5, c6⟩, ⟨d1, d2, d3, d4, d5⟩, ⟨e1, e2, e3, e4, e5⟩, ⟨l1, l2⟩, ⟨r1, r2⟩, r3, r4, r5, r6⟩ := h
  exact ⟨⟨hs, hr⟩, ⟨c1, c2, c3⟩, ⟨c4, c5, c6⟩, ⟨d1, rfl, d3, d4, d5⟩, ⟨e1, e2, e3, e4, e5⟩, ⟨l1, l2⟩, ⟨r1, r2⟩, r3, r4, ⟨by decide, by decide⟩, r6⟩
theorem kept_loop {s r n : Nat} {sh z c g l : Int32} (hn : n ≤ 20) : ∀ d i f f' C G acc σ τ, i + d = n → d < f → d < f' → C ≤ 10000 + 100 * i → MT s r C G sh σ τ → ∃ v σ' τ', fX1_keptOver_4 f (nI n) acc (nI i) σ = some (v, σ') ∧ sm3 σ σ' ∧ fX6_hasWith_41 f' (nI s) (nI r) (nI n) sh z c g l acc (nI i) τ = some (v, setI (setI (setI (setI τ' 36 2 z) 45 r c) 46 r g) 47 (8 * s + r) l) ∧ smP s r τ τ' := by
  intro d
  induction d with
  | zero =>
    intro i f f' C G acc σ τ hi hf hf' hC M
    match f, f', hf, hf' with
    | f + 1, f' + 1, _, _ =>
      have : i = n := by omega
      subst this
      have hr8 := M.1.2
      have i8 : inb (nI r) 8 = true := inb_t M.1.2 (by decide)
      obtain ⟨i64, ix⟩ := ix64 M.1.1 M.1.2
      refine ⟨acc, σ, τ, ?_, sm3.rfl, ?_, ⟨fun _ _ _ _ _ _ => rfl, rfl⟩⟩
      · rw [fX1_keptOver_4, if_pos (nI_le (Nat.le_refl _) (by omega))]
      · rw [fX6_hasWith_41, if_pos (nI_le (Nat.le_refl _) (by omega)), al_45, al_46, al_47, i8, i64, gd_t, gd_t, gd_t, ix, nI_clamp (by omega)]
  | succ d ih =>
    intro i f f' C G acc σ τ hi hf hf' hC M
    match f, f', hf, hf' with
    | f + 1, f' + 1, hf, hf' =>
      obtain ⟨a, A, B, σ1, τ1, ha, hA, hB, p1, p2, M1, k1, k2, k3, k4, k5, k6, m1, g1⟩ := MT.play M (by omega) 0
      obtain ⟨v, σ2, τ2, q1, m2, q2, g2⟩ := ih (i + 1) f f' (C + A) (G + B) (acc + (nI A - nI B)) σ1 τ1 (by omega) (by omega) (by omega) (by omega) M1
      refine ⟨v, σ2, τ2, ?_, m1.tr m2, ?_, ⟨fun k j h1 h2 h3 h4 => (g2.1 k j h1 h2 h3 h4).trans (g1.1 k j h1 h2 h3 h4), g2.2.trans g1.2⟩⟩
      · rw [fX1_keptOver_4, if_neg (nI_ge (by omega) (by omega)), p1, bR_t, k2, k3, nI_1]
        exact q1
      · rw [fX6_hasWith_41, if_neg (nI_ge (by omega) (by omega)), p2, bR_t, k4, k5, k6, nI_1]
        exact q2
theorem has_with {s r n C G : Nat} {sh : Int32} {σ T : ST} (hn : n ≤ 20) (hC : C ≤ 10000) (M : MT s r C G sh σ T) : ∃ v σ' T', fX1_keptOver (nI n) σ = some (v, σ') ∧ sm3 σ σ' ∧ fX6_hasWith (nI s) (nI r) (nI n) sh T = some (v, T') ∧ scr6 T T' := by
  have hr8 := M.1.2
  have i8 : inb (nI r) 8 = true := inb_t M.1.2 (by decide)
  obtain ⟨i64, ix⟩ := ix64 M.1.1 M.1.2
  obtain ⟨v, σ', τ', q1, m1, q2, g⟩ := kept_loop (z := T.1 36 2) (c := T.1 45 r) (g := T.1 46 r) (l := T.1 47 (8 * s + r)) hn n 0 FU FU C G 0 σ T (by omega) (by unfold FU; omega) (by unfold FU; omega) (by omega) M
  refine ⟨v, σ', setI (setI (setI (setI τ' 36 2 (T.1 36 2)) 45 r (T.1 45 r)) 46 r (T.1 46 r)) 47 (8 * s + r) (T.1 47 (8 * s + r)), q1, m1, ?_, ⟨fun k j hk => ?_, fun j => ?_⟩⟩
  · unfold fX6_hasWith
    rw [al_45, al_46, al_47, i8, i64, gd_t, gd_t, gd_t, ix, nI_clamp (by omega)]
    exact q2
  · rw [sg, sg, sg, sg]
    split
    · rename_i e; rw [e.1, e.2]
    split
    · rename_i e; rw [e.1, e.2]
    split
    · rename_i e; rw [e.1, e.2]
    split
    · rename_i e; rw [e.1, e.2]
    · rename_i e1 e2 e3 e4
      refine g.1 k j (fun e => ?_) e3 e2 e1
      unfold sc6 at hk
      omega
  · show τ'.2 65 j = _
    rw [g.2]
theorem sim_worth (x1 x2 x3 : Int32) : SIMs (fX5_worth x1 x2 x3) (fX6_worth x1 x2 x3) := by
  intro σ τ h0
  have hI := h0.r
  have hT := scr6.r (τ := τ)
  unfold fX5_worth fX6_worth fX6_worth_33 fX5_worth_20
  generalize setI τ 36 23 0 = T at *
  obtain ⟨ns, nr, np, R⟩ := hI.g
  have hr8 := R.hr
  rcases there R x1 x2 with ⟨h1, h2 | ⟨h2, h3⟩⟩ | ⟨s, r, hs, hr, rfl, rfl, h1, h2, h3⟩
  · exact ⟨-1000000001, σ, T, by rw [h1]; rfl, by rw [h2]; rfl, scr5.rfl, hT⟩
  · exact ⟨-1000000001, σ, T, by rw [h1]; rfl, by rw [h2, bR_t, if_neg (by decide), h3]; rfl, scr5.rfl, hT⟩
  · have e3 : fX6_in x3.toInt64 1 20 T = some (if 1 ≤ x3 ∧ x3 ≤ 20 then 1 else 0) := in_i x3 1 20 T
    by_cases h4 : x3 < 1
    · rw [if_neg (fun h => absurd h4 (Int32.not_lt.mpr h.1))] at e3
      exact ⟨-1000000001, σ, T, by rw [h1, bR_t, if_neg (by decide), if_pos h4], by rw [h2, bR_t, if_neg (by decide), h3, bR_t, if_neg (by decide), e3, bR_t, if_pos rfl]; rfl, scr5.rfl, hT⟩
    by_cases h5 : x3 ≤ 20
    · rw [if_pos ⟨Int32.not_lt.mp h4, h5⟩] at e3
      have e6 := e3
      obtain ⟨n, hn1, hn, rfl⟩ := rg1 (x := x3) (n := 20) (by decide) ⟨Int32.not_lt.mp h4, h5⟩
      obtain ⟨C, G, σ1, hC, b1, m1, M⟩ := bring hI.c R hs hr
      obtain ⟨v, σ2, T2, q1, m2, q2, g2⟩ := has_with hn hC M
      have m12 := m1.tr m2
      have hI2 : INV σ2 T2 := hI.f m12.ag g2.ag6
      obtain ⟨ns', nr', np', R'⟩ := hI2.g
      have es : nI ns' = nI ns := (show nI ns' = σ2.1 6 3 from R'.xs.symm).trans ((m12.1 6 3 (by omega)).trans R.xs)
      have er : nI nr' = nI nr := (show nI nr' = σ2.1 8 3 from R'.xr.symm).trans ((m12.1 8 3 (by omega)).trans R.xr)
      have es' := (nI_eq (by have := R'.hs; omega) (by have := R.hs; omega)).mp es
      have er' := (nI_eq (by have := R'.hr; omega) (by have := R.hr; omega)).mp er
      obtain ⟨C', G', σ3, hC', b3, m3, M3⟩ := bring hI2.c R' (show s < ns' by omega) (show r < nr' by omega)
      obtain ⟨v', σ4, T4, q3, m4, q4, g4⟩ := has_with hn hC' (MT.share M3)
      have i8 : inb (nI r) 8 = true := inb_t (by omega) (by decide)
      refine ⟨v - v', σ4, T4, ?_, ?_, (m12.tr (m3.tr (sm3.rfl.set.tr m4))).scr, hT.tr (g2.tr g4)⟩
      · rw [h1, bR_t, if_neg (by decide), if_neg h4, if_pos h5, b1, bR_t, q1, bI_t, b3, bR_t, q3, bI_t]
      · rw [h2, bR_t, if_neg (by decide), h3, bR_t, if_neg (by decide), e6, bR_t, if_neg (by decide), al_41, i8, gd_t, nI_clamp (by omega), q2, bI_t, q4, bI_t]
    · rw [if_neg (fun h => h5 h.2)] at e3
      exact ⟨-1000000001, σ, T, by rw [h1, bR_t, if_neg (by decide), if_neg h4, if_neg h5], by rw [h2, bR_t, if_neg (by decide), h3, bR_t, if_neg (by decide), e3, bR_t, if_pos rfl]; rfl, scr5.rfl, hT⟩
