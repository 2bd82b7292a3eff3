theorem lt_loop {σ T : ST} {n : Nat} (hn : n ≤ 12) (k wh : Int32) (h0 : T.1 36 0 = σ.1 1 0) (h1 : T.1 36 1 = σ.1 1 1) :
    ∀ m t f f' tu ha, t + m = n + 1 → m < f → m < f' → ∃ v, fX5_lastTurn_62 σ f k wh ((σ.1 1 0 * σ.1 1 1) / 2) tu ha (nI m - 1) = some v ∧ fX6_lastTurn_50 f' (nI n) k wh tu ha (nI t) T = some (v, T) := by
  intro m
  induction m with
  | zero =>
    intro t f f' tu ha ht hf hf'
    match f, f', hf, hf' with
    | f + 1, f' + 1, _, _ =>
      have hm : nI 0 - 1 < 0 := by decide
      rw [fX5_lastTurn_62, fX6_lastTurn_50, if_pos hm, if_pos (nI_lt (show n < t by omega) (by omega))]
      by_cases h : wh = 0
      · rw [if_pos h, if_pos h]; exact ⟨tu, rfl, rfl⟩
      · rw [if_neg h, if_neg h]; exact ⟨ha, rfl, rfl⟩
  | succ m ih =>
    intro t f f' tu ha ht hf hf'
    match f, f', hf, hf' with
    | f + 1, f' + 1, hf, hf' =>
      rw [fX5_lastTurn_62, fX6_lastTurn_50, nI_pred, if_neg (nI_pos (by omega)), if_neg (nI_nlt (show t ≤ n by omega) (by omega)), pk_sub (show t ≤ n by omega), show n - t = m by omega]
      have go : ∀ b, ∃ v, fX5_lastTurn_79 (fX5_lastTurn_62 σ f) k wh ((σ.1 1 0 * σ.1 1 1) / 2) tu ha (nI m) b σ = some v ∧ fX6_lastTurn_79 (fX6_lastTurn_50 f') (nI n) k wh tu ha (nI t) b T = some (v, T) := by
        intro b
        unfold fX5_lastTurn_79 fX5_lastTurn_118 fX6_lastTurn_79 fX6_lastTurn_97 fX6_lastTurn_120
        rw [h0, nI_1]
        have ih' := fun tu ha => ih (t + 1) f f' tu ha (by omega) (by omega) (by omega)
        rw [Int32.sub_eq_add_neg] at ih'
        by_cases hb : b ≤ σ.1 1 0
        · rw [if_pos hb, if_pos hb, if_pos hb, Int32.add_zero]; exact ih' _ _
        · rw [if_neg hb, if_neg hb, if_neg hb]; exact ih' _ _
      by_cases hk : nI m < k
      · rw [if_pos hk, if_pos hk]; exact go 0
      · rw [if_neg hk, if_neg hk, h0, h1]
        have g := go ((σ.1 1 0 * σ.1 1 1) / 2)
        exact g
theorem sim_lastTurn (x1 x2 x3 : Int32) : SIMr (fX5_lastTurn x1 x2 x3) (fX6_lastTurn x1 x2 x3) := by
  intro σ τ h0
  have hI := h0.r
  have hT := scr6.r (τ := τ)
  unfold fX5_lastTurn fX6_lastTurn fX6_lastTurn_39 fX5_lastTurn_30
  generalize setI τ 36 23 0 = T at *
  obtain ⟨ns, nr, np, R⟩ := hI.g
  have no : ∃ a τ', (some (-1) : Option Int32) = some a ∧ (some (-1, T) : Option (Int32 × ST)) = some (a, τ') ∧ scr6 τ τ' := ⟨-1, T, rfl, rfl, hT⟩
  have e1 : fX6_in x1.toInt64 1 12 T = some (if 1 ≤ x1 ∧ x1 ≤ 12 then 1 else 0) := in_i x1 1 12 T
  have e2 : fX6_in x2.toInt64 0 12 T = some (if 0 ≤ x2 ∧ x2 ≤ 12 then 1 else 0) := in_i x2 0 12 T
  have e3 : fX6_in x3.toInt64 0 1 T = some (if 0 ≤ x3 ∧ x3 ≤ 1 then 1 else 0) := in_i x3 0 1 T
  by_cases a1 : x1 < 1
  · rw [if_neg (fun h => absurd a1 (Int32.not_lt.mpr h.1))] at e1
    rw [if_pos a1, e1, bR_t, if_pos rfl]; exact no
  by_cases a2 : 12 < x1
  · rw [if_neg (fun h => absurd a2 (Int32.not_lt.mpr h.2))] at e1
    rw [if_neg a1, if_pos a2, e1, bR_t, if_pos rfl]; exact no
  rw [if_pos ⟨Int32.not_lt.mp a1, Int32.not_lt.mp a2⟩] at e1
  rw [if_neg a1, if_neg a2, e1, bR_t, if_neg h10]
  by_cases b1 : x2 < 0
  · rw [if_neg (fun h => absurd b1 (Int32.not_lt.mpr h.1))] at e2
    rw [if_pos b1, e2, bR_t, if_pos rfl]; exact no
  by_cases b2 : 12 < x2
  · rw [if_neg (fun h => absurd b2 (Int32.not_lt.mpr h.2))] at e2
    rw [if_neg b1, if_pos b2, e2, bR_t, if_pos rfl]; exact no
  rw [if_pos ⟨Int32.not_lt.mp b1, Int32.not_lt.mp b2⟩] at e2
  rw [if_neg b1, if_neg b2, e2, bR_t, if_neg h10]
  by_cases c1 : x3 < 0
  · rw [if_neg (fun h => absurd c1 (Int32.not_lt.mpr h.1))] at e3
    rw [if_pos c1, e3, bR_t, if_pos rfl]; exact no
  by_cases c2 : x3 ≤ 1
  · rw [if_pos ⟨Int32.not_lt.mp c1, c2⟩] at e3
    rw [if_neg c1, if_pos c2, e3, bR_t, if_neg h10]
    obtain ⟨n, n1, n2, rfl⟩ := rg1 (x := x1) (n := 12) (by decide) ⟨Int32.not_lt.mp a1, Int32.not_lt.mp a2⟩
    obtain ⟨v, g1, g2⟩ := lt_loop (σ := σ) (T := T) n2 x2 x3 R.c0 R.c1 n 1 FU FU 0 0 (by omega) (by unfold FU; omega) (by unfold FU; omega)
    exact ⟨v, T, g1, g2, hT⟩
  · rw [if_neg (fun h => c2 h.2)] at e3
    rw [if_neg c1, if_neg c2, e3, bR_t, if_pos rfl]; exact no
theorem REL.hold {ns nr np s : Nat} {X M X' M' : Nat → Nat → Int32} {v : Int32} (R : REL ns nr np X M) (hs : s < ns) (hv : rg v 0 100) (hX : ∀ k j, ¬ (k = 4 ∧ j = 3 * s + 2) → X' k j = X k j) (hX4 : X' 4 (3 * s + 2) = v) (hM : ∀ k j, k ≤ 20 → ¬ (k = 6 ∧ j = s) → M' k j = M k j) (hM6 : M' 6 s = v) : REL ns nr np X' M' := by
  have e : ∀ k, k ≠ 4 → X' k = X k := fun k h => funext fun j => hX k j (fun e => h e.1)
  have m : ∀ k, k ≤ 20 → k ≠ 6 → M' k = M k := fun k h h' => funext fun j => hM k j h (fun e => h' e.1)
  obtain ⟨hs', hr, hp, xs, xr, xp, ms, mr, mp, c0, c1, c2, rc, rt, s', sr, r, rr, p, pr, cm, gv, la⟩ := R
  refine ⟨hs', hr, hp, ?_, ?_, ?_, ?_, ?_, ?_, ?_, ?_, ?_, ?_, ?_, fun i hi => ?_, fun i hi => ?_, ?_, ?_, ?_, ?_, ?_, ?_, ?_⟩
  · rw [e 1 (by decide)]; exact xs
  · rw [e 2 (by decide)]; exact xr
  · rw [e 3 (by decide)]; exact xp
  · rw [m 1 (by decide) (by decide)]; exact ms
  · rw [m 2 (by decide) (by decide)]; exact mr
  · rw [m 3 (by decide) (by decide)]; exact mp
  · rw [m 0 (by decide) (by decide), e 0 (by decide)]; exact c0
  · rw [m 0 (by decide) (by decide), e 0 (by decide)]; exact c1
  · rw [m 0 (by decide) (by decide), e 0 (by decide)]; exact c2
  · rw [e 0 (by decide)]; exact rc
  · rw [e 0 (by decide)]; exact rt
  · obtain ⟨s1, s2, s3⟩ := s' i hi
    rw [m 4 (by decide) (by decide), m 5 (by decide) (by decide), hX 4 (3 * i) (by omega), hX 4 (3 * i + 1) (by omega)]
    refine ⟨s1, s2, ?_⟩
    by_cases h : i = s
    · subst h; rw [hM6, hX4]
    · rw [hM 6 i (by decide) (by omega), hX 4 (3 * i + 2) (by omega)]; exact s3
  · obtain ⟨s1, s2, s3⟩ := sr i hi
    rw [hX 4 (3 * i) (by omega), hX 4 (3 * i + 1) (by omega)]
    refine ⟨s1, s2, ?_⟩
    by_cases h : i = s
    · subst h; rw [hX4]; exact hv
    · rw [hX 4 (3 * i + 2) (by omega)]; exact s3
  · rw [e 5 (by decide), m 7 (by decide) (by decide), m 8 (by decide) (by decide), m 9 (by decide) (by decide), m 10 (by decide) (by decide), m 11 (by decide) (by decide)]; exact r
  · rw [e 5 (by decide)]; exact rr
  · rw [e 6 (by decide), m 15 (by decide) (by decide), m 16 (by decide) (by decide), m 17 (by decide) (by decide), m 18 (by decide) (by decide), m 19 (by decide) (by decide), m 20 (by decide) (by decide)]; exact p
  · rw [e 6 (by decide)]; exact pr
  · rw [e 6 (by decide), m 12 (by decide) (by decide)]; exact cm
  · rw [e 6 (by decide), m 13 (by decide) (by decide)]; exact gv
  · rw [e 6 (by decide), m 14 (by decide) (by decide)]; exact la
theorem sim_holds (x1 x2 : Int32) : SIM (fX5_holds x1 x2) (fX6_holds x1 x2) := by
  intro σ τ h0
  have hI := h0.r
  have hT := (scr6.r (τ := τ)).fr6
  unfold fX5_holds fX6_holds fX6_holds_25 fX5_holds_24
  generalize setI τ 36 23 0 = T at *
  obtain ⟨ns, nr, np, R⟩ := hI.g
  have hs8 := R.hs
  have no : ∀ v, ∃ a σ' τ', (some (v, σ) : Option (Int32 × ST)) = some (a, σ') ∧ (some (v, T) : Option (Int32 × ST)) = some (a, τ') ∧ INV σ' τ' ∧ fr5 σ σ' ∧ fr6 τ τ' := fun v => ⟨v, σ, T, rfl, rfl, hI, fr5.rfl, hT⟩
  have e3 : fX6_in x2.toInt64 0 100 T = some (if 0 ≤ x2 ∧ x2 ≤ 100 then 1 else 0) := in_i x2 0 100 T
  rcases isS2 R x1 with ⟨a1, a2⟩ | ⟨s, hs, rfl, a1, a2⟩
  · rw [a1, bR_t, if_pos rfl, a2, bR_t, if_pos rfl]; exact no (-1)
  rw [a1, bR_t, if_neg h10, a2, bR_t, if_neg h10]
  by_cases h4 : x2 < 0
  · rw [if_neg (fun h => absurd h4 (Int32.not_lt.mpr h.1))] at e3
    rw [if_pos h4, e3, bR_t, if_pos rfl]; exact no (-1)
  by_cases h5 : x2 ≤ 100
  · rw [if_pos ⟨Int32.not_lt.mp h4, h5⟩] at e3
    have i8 : inb (nI s) 8 = true := inb_t (by omega) (by decide)
    rw [if_neg h4, if_pos h5, e3, bR_t, if_neg h10, show fX4_read 6 (nI s) 2 σ = some (σ.1 7 (3 * s + 2)) from rdS (c := 2) hI.c R.xs R.hs hs (by omega) rfl, bR_t,
      show fX4_write 6 (nI s) 2 x2 σ = some (setI σ 7 (3 * s + 2) x2) from wr (w := 3) (c := 2) R.xs hI.c.a0.2 hs (by omega) (by rw [al_7]; omega) (by omega) (by omega) (by rw [al_7]; omega) rfl rfl, bR_t, al_39, i8, gd_t, gd_t, nI_clamp (by omega)]
    refine ⟨σ.1 7 (3 * s + 2), setI σ 7 (3 * s + 2) x2, setI T 39 s x2, rfl, congrArg (fun x => some (x, setI T 39 s x2)) (R.s s hs).2.2, ?_, fr5.rfl.set (by omega), hT.set (by omega)⟩
    refine INV.game hI (fun k i h1 h2 h3 h4 => by rw [sg, if_neg (by omega)]) ⟨fun k i hk => by rw [sg, if_neg (by omega)], by rw [sg, if_neg (by omega)], fun i => rfl⟩ ⟨ns, nr, np, REL.hold R hs ⟨Int32.not_lt.mp h4, h5⟩ ?_ ?_ ?_ ?_⟩
    · intro k i hk
      match k, hk with
      | 0, _ => rfl
      | 1, _ => rfl
      | 2, _ => rfl
      | 3, _ => rfl
      | 4, hk => show (setI σ 7 (3 * s + 2) x2).1 7 i = σ.1 7 i; rw [sg, if_neg (by omega)]
      | 5, _ => rfl
      | k + 6, _ => rfl
    · show (setI σ 7 (3 * s + 2) x2).1 7 (3 * s + 2) = x2
      rw [sg, if_pos ⟨rfl, rfl⟩]
    · intro k i hk hk2
      match k, hk2 with
      | 0, _ => rfl
      | 1, _ => rfl
      | 2, _ => rfl
      | 3, _ => rfl
      | k + 4, hk2 => show (setI T 39 s x2).1 (33 + (k + 4)) i = T.1 (33 + (k + 4)) i; rw [sg, if_neg (by omega)]
    · show (setI T 39 s x2).1 39 s = x2
      rw [sg, if_pos ⟨rfl, rfl⟩]
  · rw [if_neg (fun h => h5 h.2)] at e3
    rw [if_neg h4, if_neg h5, e3, bR_t, if_pos rfl]; exact no (-1)
