theorem there {σ τ : ST} {ns nr np : Nat} (R : REL ns nr np (X 1 σ) (Ml τ)) (x1 x2 : Int32) : (fX5_areThere x1 x2 σ = some 0 ∧ (fX6_isSender x1 τ = some 0 ∨ fX6_isSender x1 τ = some 1 ∧ fX6_isReturner x2 τ = some 0)) ∨ ∃ s r, s < ns ∧ r < nr ∧ x1 = nI s ∧ x2 = nI r ∧ fX5_areThere x1 x2 σ = some 1 ∧ fX6_isSender x1 τ = some 1 ∧ fX6_isReturner x2 τ = some 1 := by
  have h8s := R.hs
  have h8r := R.hr
  unfold fX5_areThere
  rcases has_c (k := 6) (show σ.1 6 3 = nI ns from R.xs) (by omega) x1 with ⟨h1, h2⟩ | ⟨s, hs, rfl, h1⟩
  · refine Or.inl ⟨by rw [h1]; rfl, Or.inl ?_⟩
    rcases isS_c (show τ.1 36 3 = nI ns from R.ms) R.hs x1 with ⟨g, -⟩ | ⟨s, hs, e, -⟩
    · exact g
    · exact absurd e (h2 s hs)
  · have g1 : fX6_isSender (nI s) τ = some 1 := by
      rcases isS_c (show τ.1 36 3 = nI ns from R.ms) R.hs (nI s) with ⟨-, g⟩ | ⟨s', hs', e, g⟩
      · exact absurd rfl (g s hs)
      · exact g
    rcases has_c (k := 8) (show σ.1 8 3 = nI nr from R.xr) (by omega) x2 with ⟨h3, h4⟩ | ⟨r, hr, rfl, h3⟩
    · refine Or.inl ⟨by rw [h1, bR_t, if_neg (by decide), h3]; rfl, Or.inr ⟨g1, ?_⟩⟩
      rcases isR_c (show τ.1 36 7 = nI nr from R.mr) R.hr x2 with ⟨g, -⟩ | ⟨s, hs, e, -⟩
      · exact g
      · exact absurd e (h4 s hs)
    · refine Or.inr ⟨s, r, hs, hr, rfl, rfl, by rw [h1, bR_t, if_neg (by decide), h3]; rfl, g1, ?_⟩
      rcases isR_c (show τ.1 36 7 = nI nr from R.mr) R.hr (nI r) with ⟨-, g⟩ | ⟨s', hs', e, g⟩
      · exact absurd rfl (g r hr)
      · exact g
theorem isS2 {σ τ : ST} {ns nr np : Nat} (R : REL ns nr np (X 1 σ) (Ml τ)) (x1 : Int32) : (fX4_has 6 x1 σ = some 0 ∧ fX6_isSender x1 τ = some 0) ∨ ∃ s, s < ns ∧ x1 = nI s ∧ fX4_has 6 x1 σ = some 1 ∧ fX6_isSender x1 τ = some 1 := by
  have h8s := R.hs
  rcases has_c (k := 6) (show σ.1 6 3 = nI ns from R.xs) (by omega) x1 with ⟨h1, h2⟩ | ⟨s, hs, rfl, h1⟩
  · refine Or.inl ⟨h1, ?_⟩
    rcases isS_c (show τ.1 36 3 = nI ns from R.ms) R.hs x1 with ⟨g, -⟩ | ⟨s, hs, e, -⟩
    · exact g
    · exact absurd e (h2 s hs)
  · refine Or.inr ⟨s, hs, rfl, h1, ?_⟩
    rcases isS_c (show τ.1 36 3 = nI ns from R.ms) R.hs (nI s) with ⟨-, g⟩ | ⟨s', hs', e, g⟩
    · exact absurd rfl (g s hs)
    · exact g
theorem isR2 {σ τ : ST} {ns nr np : Nat} (R : REL ns nr np (X 1 σ) (Ml τ)) (x1 : Int32) : (fX4_has 8 x1 σ = some 0 ∧ fX6_isReturner x1 τ = some 0) ∨ ∃ s, s < nr ∧ x1 = nI s ∧ fX4_has 8 x1 σ = some 1 ∧ fX6_isReturner x1 τ = some 1 := by
  have h8s := R.hr
  rcases has_c (k := 8) (show σ.1 8 3 = nI nr from R.xr) (by omega) x1 with ⟨h1, h2⟩ | ⟨s, hs, rfl, h1⟩
  · refine Or.inl ⟨h1, ?_⟩
    rcases isR_c (show τ.1 36 7 = nI nr from R.mr) R.hr x1 with ⟨g, -⟩ | ⟨s, hs, e, -⟩
    · exact g
    · exact absurd e (h2 s hs)
  · refine Or.inr ⟨s, hs, rfl, h1, ?_⟩
    rcases isR_c (show τ.1 36 7 = nI nr from R.mr) R.hr (nI s) with ⟨-, g⟩ | ⟨s', hs', e, g⟩
    · exact absurd rfl (g s hs)
    · exact g
theorem INV.r {σ τ : ST} (h : INV σ τ) : INV σ (setI τ 36 23 0) := h.f ag5.rfl scr6.r.ag6
theorem set_back (τ : ST) (k j : Nat) (z : Int32) : setI (setI τ k j z) k j (τ.1 k j) = τ := by rw [set_set, set_self]
theorem MT.would {s r C G : Nat} {sh : Int32} {σ τ : ST} (h : MT s r C G sh σ τ) (hC : C ≤ 100000) : ∃ a z, a ≤ 20 ∧ fX1_wouldSend σ = some (nI a, σ) ∧ fX6_sendingTo (nI s) (nI r) τ = some (nI a, setI τ 36 2 z) := by
  obtain ⟨a, z, ha, q1, q2⟩ := MT.sendTo h hC
  refine ⟨a, z, ha, ?_, q2⟩
  unfold fX1_wouldSend
  rw [q1, bI_t, set_back]
theorem sim_sends (x1 x2 : Int32) : SIMs (fX5_sends x1 x2) (fX6_sends x1 x2) := by
  intro σ τ h0
  have hI := h0.r
  have hT := scr6.r (τ := τ)
  unfold fX5_sends fX6_sends fX6_sends_21
  generalize setI τ 36 23 0 = T at *
  obtain ⟨ns, nr, np, R⟩ := hI.g
  rcases there R x1 x2 with ⟨h1, h2 | ⟨h2, h3⟩⟩ | ⟨s, r, hs, hr, rfl, rfl, h1, h2, h3⟩
  · exact ⟨-1, σ, T, by rw [h1]; rfl, by rw [h2]; rfl, scr5.rfl, hT⟩
  · exact ⟨-1, σ, T, by rw [h1]; rfl, by rw [h2, bR_t, if_neg (by decide), h3]; rfl, scr5.rfl, hT⟩
  · obtain ⟨C, G, σ1, hC, b1, m1, M⟩ := bring hI.c R hs hr
    obtain ⟨a, z, ha, q1, q2⟩ := MT.would M (by omega)
    refine ⟨nI a, σ1, T, ?_, ?_, m1.scr, hT⟩
    · rw [h1, bR_t, if_neg (by decide), b1, bR_t, q1, bI_t]
    · rw [h2, bR_t, if_neg (by decide), h3, bR_t, if_neg (by decide), q2, bI_t, set_back]
theorem sim_held (x1 x2 : Int32) : SIMs (fX5_held x1 x2) (fX6_held x1 x2) := by
  intro σ τ h0
  have hI := h0.r
  have hT := scr6.r (τ := τ)
  unfold fX5_held fX6_held fX6_held_21
  generalize setI τ 36 23 0 = T at *
  obtain ⟨ns, nr, np, R⟩ := hI.g
  rcases there R x1 x2 with ⟨h1, h2 | ⟨h2, h3⟩⟩ | ⟨s, r, hs, hr, rfl, rfl, h1, h2, h3⟩
  · exact ⟨-1000000001, σ, T, by rw [h1]; rfl, by rw [h2]; rfl, scr5.rfl, hT⟩
  · exact ⟨-1000000001, σ, T, by rw [h1]; rfl, by rw [h2, bR_t, if_neg (by decide), h3]; rfl, scr5.rfl, hT⟩
  · obtain ⟨C, G, σ1, hC, b1, m1, ⟨⟨hs8, hr8⟩, -, ⟨c4, c5, c6⟩, -, ⟨e1, e2, e3, e4, e5⟩, -⟩⟩ := bring hI.c R hs hr
    have i8 : inb (nI s) 8 = true := inb_t hs8 (by decide)
    have k1 := name5_eq e1 e3 (show C ≤ 100000 by omega) e5
    have k2 := name6 hr8 e2 e4 e5 (show C ≤ 100000 by omega)
    by_cases hc : C = 0
    · rw [if_pos hc] at k1 k2
      refine ⟨-1000000003, σ1, T, ?_, ?_, m1.scr, hT⟩
      · rw [h1, bR_t, if_neg (by decide), b1, bR_t, k1, bR_t, if_pos rfl]; rfl
      · rw [h2, bR_t, if_neg (by decide), h3, bR_t, if_neg (by decide), k2, bR_t, if_neg (by decide)]; rfl
    · rw [if_neg hc] at k1 k2
      have hb : 100 * G / C ≤ 100 * G := Nat.div_le_self _ _
      refine ⟨σ1.1 3 5 - nI (100 * G / C), σ1, T, ?_, ?_, m1.scr, hT⟩
      · rw [h1, bR_t, if_neg (by decide), b1, bR_t, k1, bR_t, if_neg (fun e => by have := nI_pos (n := 100 * G / C) (by omega); rw [e] at this; exact this (by decide))]; rfl
      · rw [h2, bR_t, if_neg (by decide), h3, bR_t, if_neg (by decide), k2, bR_t, if_pos (nI_pos' (by omega)), al_39, i8, gd_t, bR_t, nI_clamp (by omega), c6]; rfl
/-- what the model's sender sends with a box or none and with a word -/
theorem MT.snd {s r C G : Nat} {sh : Int32} {σ τ : ST} (h : MT s r C G sh σ τ) (hC : C ≤ 100000) (bx wd : Int32) (hb : bx = 0 ∨ bx = 1) : ∃ z, fX6_sending (nI s) bx (if C = 0 then -1 else nI (100 * G / C)) wd (τ.1 47 (8 * s + r)) τ = some (svV (σ.1 3 0) (σ.1 3 1) (σ.1 3 2) (σ.1 3 3) (σ.1 3 4) (σ.1 3 5) bx wd (h4x (σ.1 3 11) (σ.1 3 12) (σ.1 3 5)) (σ.1 3 13), setI τ 36 2 z) := by
  obtain ⟨⟨hs, hr⟩, ⟨c1, c2, c3⟩, ⟨c4, c5, c6⟩, ⟨d1, d2, d3, d4, d5⟩, ⟨e1, e2, e3, e4, e5⟩, ⟨l1, l2⟩, ⟨r1, r2⟩, r3, r4, r5, r6⟩ := h
  refine ⟨svZ (τ.1 36 2) (τ.1 37 s), ?_⟩
  rw [send6 hs hb (by rw [← c1]; exact r1) (by rw [← l1]; exact l2), ← h4_eq (τ.1 39 s) hC e5, c1, c2, c3, c4, c5, c6, e1, e3, l1]
theorem ix64 {s r : Nat} (hs : s < 8) (hr : r < 8) : inb (8 * nI s + nI r) 64 = true ∧ (8 * nI s + nI r).toNatClampNeg = 8 * s + r := by
  rw [show (8 : Int32) = nI 8 from rfl, pk_mul, nI_add, nI_clamp (by omega)]
  exact ⟨inb_t (by omega) (by decide), rfl⟩
theorem sim_trust (x1 x2 : Int32) : SIMs (fX5_trust x1 x2) (fX6_trust x1 x2) := by
  intro σ τ h0
  have hI := h0.r
  have hT := scr6.r (τ := τ)
  unfold fX5_trust fX6_trust fX6_trust_21
  generalize setI τ 36 23 0 = T at *
  obtain ⟨ns, nr, np, R⟩ := hI.g
  rcases there R x1 x2 with ⟨h1, h2 | ⟨h2, h3⟩⟩ | ⟨s, r, hs, hr, rfl, rfl, h1, h2, h3⟩
  · exact ⟨-1000000001, σ, T, by rw [h1]; rfl, by rw [h2]; rfl, scr5.rfl, hT⟩
  · exact ⟨-1000000001, σ, T, by rw [h1]; rfl, by rw [h2, bR_t, if_neg (by decide), h3]; rfl, scr5.rfl, hT⟩
  · obtain ⟨C, G, σ1, hC, b1, m1, M⟩ := bring hI.c R hs hr
    obtain ⟨z0, q0⟩ := MT.snd M (by omega) 0 (σ1.1 3 10) (Or.inl rfl)
    obtain ⟨z1, q1⟩ := MT.snd M (by omega) 1 (σ1.1 3 10) (Or.inr rfl)
    obtain ⟨⟨hs8, hr8⟩, -, -, ⟨-, -, -, -, d5⟩, ⟨e1, e2, e3, e4, e5⟩, -⟩ := M
    have i8 : inb (nI r) 8 = true := inb_t hr8 (by decide)
    obtain ⟨i64, ix⟩ := ix64 hs8 hr8
    refine ⟨svV (σ1.1 3 0) (σ1.1 3 1) (σ1.1 3 2) (σ1.1 3 3) (σ1.1 3 4) (σ1.1 3 5) 0 (σ1.1 3 10) (h4x (σ1.1 3 11) (σ1.1 3 12) (σ1.1 3 5)) (σ1.1 3 13) - svV (σ1.1 3 0) (σ1.1 3 1) (σ1.1 3 2) (σ1.1 3 3) (σ1.1 3 4) (σ1.1 3 5) 1 (σ1.1 3 10) (h4x (σ1.1 3 11) (σ1.1 3 12) (σ1.1 3 5)) (σ1.1 3 13), setI (setI σ1 3 6 0) 3 6 1, T, ?_, ?_, m1.set.set.scr, hT⟩
    · rw [h1, bR_t, if_neg (by decide), b1, bR_t, wouldSend5, bI_t, wouldSend5, bI_t]
      rfl
    · rw [h2, bR_t, if_neg (by decide), h3, bR_t, if_neg (by decide), name6 hr8 e2 e4 e5 (by omega), bR_t, al_44, i8, gd_t, al_47, i64, gd_t, ix, nI_clamp (show r < 2 ^ 31 by omega), ← d5, q0, bI_t, set_back, name6 hr8 e2 e4 e5 (by omega), bR_t, gd_t, gd_t, ← d5, q1, bI_t, set_back]
theorem sim_promise (x1 x2 x3 : Int32) : SIMs (fX5_promise x1 x2 x3) (fX6_promise x1 x2 x3) := by
  intro σ τ h0
  have hI := h0.r
  have hT := scr6.r (τ := τ)
  unfold fX5_promise fX6_promise fX6_promise_33 fX5_promise_19
  generalize setI τ 36 23 0 = T at *
  obtain ⟨ns, nr, np, R⟩ := hI.g
  rcases there R x1 x2 with ⟨h1, h2 | ⟨h2, h3⟩⟩ | ⟨s, r, hs, hr, rfl, rfl, h1, h2, h3⟩
  · exact ⟨-1000000001, σ, T, by rw [h1]; rfl, by rw [h2]; rfl, scr5.rfl, hT⟩
  · exact ⟨-1000000001, σ, T, by rw [h1]; rfl, by rw [h2, bR_t, if_neg (by decide), h3]; rfl, scr5.rfl, hT⟩
  · have e3 : fX6_in x3.toInt64 0 100 T = some (if 0 ≤ x3 ∧ x3 ≤ 100 then 1 else 0) := in_i x3 0 100 T
    by_cases h4 : x3 < 0
    · rw [if_neg (fun h => absurd h4 (Int32.not_lt.mpr h.1))] at e3
      exact ⟨-1000000001, σ, T, by rw [h1, bR_t, if_neg (by decide), if_pos h4], by rw [h2, bR_t, if_neg (by decide), h3, bR_t, if_neg (by decide), e3, bR_t, if_pos rfl]; rfl, scr5.rfl, hT⟩
    by_cases h5 : x3 ≤ 100
    · rw [if_pos ⟨Int32.not_lt.mp h4, h5⟩] at e3
      have e6 := e3
      obtain ⟨C, G, σ1, hC, b1, m1, M⟩ := bring hI.c R hs hr
      have hbx : σ1.1 3 6 = 0 ∨ σ1.1 3 6 = 1 := by
        obtain ⟨-, -, -, -, -, -, -, -, r4, -, -⟩ := M
        obtain ⟨b, hb, eb⟩ := rg_n (n := 1) (by decide) r4
        match b, hb with
        | 0, _ => exact Or.inl eb
        | 1, _ => exact Or.inr eb
      obtain ⟨z0, q0⟩ := MT.snd M (by omega) (σ1.1 3 6) x3 hbx
      obtain ⟨z1, q1⟩ := MT.snd M (by omega) (σ1.1 3 6) 0 hbx
      obtain ⟨⟨hs8, hr8⟩, -, -, ⟨d1, -, -, -, d5⟩, ⟨e1, e2, e3, e4, e5⟩, -⟩ := M
      have i8 : inb (nI r) 8 = true := inb_t hr8 (by decide)
      obtain ⟨i64, ix⟩ := ix64 hs8 hr8
      have hgo : fX6_promise_61 (nI s) (nI r) x3 (T.1 36 2) (nI s) (σ1.1 3 6) T = some (svV (σ1.1 3 0) (σ1.1 3 1) (σ1.1 3 2) (σ1.1 3 3) (σ1.1 3 4) (σ1.1 3 5) (σ1.1 3 6) x3 (h4x (σ1.1 3 11) (σ1.1 3 12) (σ1.1 3 5)) (σ1.1 3 13) - svV (σ1.1 3 0) (σ1.1 3 1) (σ1.1 3 2) (σ1.1 3 3) (σ1.1 3 4) (σ1.1 3 5) (σ1.1 3 6) 0 (h4x (σ1.1 3 11) (σ1.1 3 12) (σ1.1 3 5)) (σ1.1 3 13), T) := by
        unfold fX6_promise_61
        rw [name6 hr8 e2 e4 e5 (by omega), bR_t, al_47, i64, gd_t, ix, q0, bI_t, al_40, i8, gd_t, nI_clamp (show r < 2 ^ 31 by omega), set_back, ← d1]
        have h106 : ∀ x5, fX6_promise_106 (nI s) (nI r) (T.1 36 2) x5 (nI s) (σ1.1 3 6) T = some (x5 - svV (σ1.1 3 0) (σ1.1 3 1) (σ1.1 3 2) (σ1.1 3 3) (σ1.1 3 4) (σ1.1 3 5) (σ1.1 3 6) 0 (h4x (σ1.1 3 11) (σ1.1 3 12) (σ1.1 3 5)) (σ1.1 3 13), T) := fun x5 => by
          unfold fX6_promise_106
          rw [name6 hr8 e2 e4 e5 (by omega), bR_t, al_47, i64, gd_t, ix, q1, bI_t, set_back]
        rcases hbx with hb | hb
        · rw [if_neg (by rw [hb]; decide), ← h106, hb]
        · rw [if_pos hb, ← h106, hb]
      refine ⟨svV (σ1.1 3 0) (σ1.1 3 1) (σ1.1 3 2) (σ1.1 3 3) (σ1.1 3 4) (σ1.1 3 5) (σ1.1 3 6) x3 (h4x (σ1.1 3 11) (σ1.1 3 12) (σ1.1 3 5)) (σ1.1 3 13) - svV (σ1.1 3 0) (σ1.1 3 1) (σ1.1 3 2) (σ1.1 3 3) (σ1.1 3 4) (σ1.1 3 5) (σ1.1 3 6) 0 (h4x (σ1.1 3 11) (σ1.1 3 12) (σ1.1 3 5)) (σ1.1 3 13), setI (setI σ1 3 10 x3) 3 10 0, T, ?_, ?_, m1.set.set.scr, hT⟩
      · rw [h1, bR_t, if_neg (by decide), if_neg h4, if_pos h5, b1, bR_t, wouldSend5, bI_t, wouldSend5, bI_t]
        rfl
      · rw [h2, bR_t, if_neg (by decide), h3, bR_t, if_neg (by decide), e6, bR_t, if_neg (by decide), al_40, i8, gd_t, nI_clamp (show r < 2 ^ 31 by omega), ← d1]
        rcases hbx with hb | hb
        · rw [if_neg (by rw [hb]; decide)]
          have := hgo
          rw [hb] at this
          rw [hb]
          exact this
        · rw [if_pos hb]
          have := hgo
          rw [hb] at this
          rw [hb]
          exact this
    · rw [if_neg (fun h => h5 h.2)] at e3
      exact ⟨-1000000001, σ, T, by rw [h1, bR_t, if_neg (by decide), if_neg h4, if_neg h5], by rw [h2, bR_t, if_neg (by decide), h3, bR_t, if_neg (by decide), e3, bR_t, if_pos rfl]; rfl, scr5.rfl, hT⟩
