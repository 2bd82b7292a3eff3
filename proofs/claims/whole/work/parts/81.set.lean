theorem INV.game {σ τ σ' τ' : ST} (h : INV σ τ) (h5 : ∀ k j, k < 36 → k ≠ 1 → ¬ ((k = 6 ∨ k = 8 ∨ k = 10) ∧ j = 3 ∨ k = 7 ∨ k = 9 ∨ k = 11) → ¬ sc5 k j → σ'.1 k j = σ.1 k j)
    (h6 : (∀ k j, 57 ≤ k → τ'.1 k j = τ.1 k j) ∧ τ'.1 36 34 = τ.1 36 34 ∧ ∀ j, τ'.2 65 j = τ.2 65 j) (R : ∃ ns nr np, REL ns nr np (X 1 σ') (Ml τ')) : INV σ' τ' := by
  obtain ⟨h6, h36, h65⟩ := h6
  have hX : X 2 σ' = X 2 σ := by
    funext k j
    unfold X
    split <;> exact h5 _ _ (by omega) (by omega) (by omega) (by unfold sc5; omega)
  have hI : Mi τ' = Mi τ := by
    funext k j
    unfold Mi
    split
    case h_6 => split <;> exact h6 _ _ (by omega)
    all_goals exact h6 _ _ (by omega)
  have h02 : σ'.1 0 2 = σ.1 0 2 := h5 _ _ (by omega) (by omega) (by omega) (by unfold sc5; omega)
  refine ⟨?_, R, ?_, ?_, fun d hd => ?_⟩
  · obtain ⟨a0, a1, a2, a3, a4, a5, a6⟩ := h.c
    refine ⟨?_, ?_, ?_, ?_, ?_, ?_, ?_⟩ <;> (rw [h5 _ _ (by omega) (by omega) (by omega) (by unfold sc5; omega), h5 _ _ (by omega) (by omega) (by omega) (by unfold sc5; omega)]; assumption)
  · rw [h36, h02]; exact h.ph
  · rw [h02, hX, hI]; exact h.pi
  · have e5 : ∀ j, σ'.1 (20 + 2 * d) j = σ.1 (20 + 2 * d) j := fun j => h5 _ _ (by omega) (by omega) (by omega) (by unfold sc5; omega)
    have e5' : ∀ j, σ'.1 (21 + 2 * d) j = σ.1 (21 + 2 * d) j := fun j => h5 _ _ (by omega) (by omega) (by omega) (by unfold sc5; omega)
    obtain ⟨a, b, c, e⟩ := h.sh d hd
    refine ⟨?_, ?_, ?_, ?_⟩
    · rw [e5, h6 58 d (by omega)]; exact a
    · rw [e5]; exact b
    · simp only [e5, h6 59 d (by omega), h6 60 d (by omega), h6 61 d (by omega), h6 62 d (by omega)]; exact c
    · simp only [e5, e5', h6 63 d (by omega), h6 64 d (by omega), h65]; exact e
theorem REL.c {ns nr np : Nat} {X M X' M' : Nat → Nat → Int32} (R : REL ns nr np X M) (hX : ∀ k j, k ≠ 0 → X' k j = X k j) (hM : ∀ k j, k ≠ 0 → k ≤ 20 → M' k j = M k j) (h0 : M' 0 0 = X' 0 0) (h1 : M' 0 1 = X' 0 1) (h2 : M' 0 2 = X' 0 2) (rc : rg (X' 0 0) 1 20) (rt : rg (X' 0 1) 1 5) : REL ns nr np X' M' := by
  have e : ∀ k, k ≠ 0 → X' k = X k := fun k h => funext fun j => hX k j h
  have m : ∀ k, k ≠ 0 → k ≤ 20 → M' k = M k := fun k h h' => funext fun j => hM k j h h'
  obtain ⟨hs, hr, hp, xs, xr, xp, ms, mr, mp, -, -, -, -, -, s, sr, r, rr, p, pr, cm, gv, la⟩ := R
  refine ⟨hs, hr, hp, ?_, ?_, ?_, ?_, ?_, ?_, h0, h1, h2, rc, rt, ?_, ?_, ?_, ?_, ?_, ?_, ?_, ?_, ?_⟩
  · rw [e 1 (by decide)]; exact xs
  · rw [e 2 (by decide)]; exact xr
  · rw [e 3 (by decide)]; exact xp
  · rw [m 1 (by decide) (by decide)]; exact ms
  · rw [m 2 (by decide) (by decide)]; exact mr
  · rw [m 3 (by decide) (by decide)]; exact mp
  · rw [e 4 (by decide), m 4 (by decide) (by decide), m 5 (by decide) (by decide), m 6 (by decide) (by decide)]; exact s
  · rw [e 4 (by decide)]; exact sr
  · rw [e 5 (by decide), m 7 (by decide) (by decide), m 8 (by decide) (by decide), m 9 (by decide) (by decide), m 10 (by decide) (by decide), m 11 (by decide) (by decide)]; exact r
  · rw [e 5 (by decide)]; exact rr
  · rw [e 6 (by decide), m 15 (by decide) (by decide), m 16 (by decide) (by decide), m 17 (by decide) (by decide), m 18 (by decide) (by decide), m 19 (by decide) (by decide), m 20 (by decide) (by decide)]; exact p
  · rw [e 6 (by decide)]; exact pr
  · rw [e 6 (by decide), m 12 (by decide) (by decide)]; exact cm
  · rw [e 6 (by decide), m 13 (by decide) (by decide)]; exact gv
  · rw [e 6 (by decide), m 14 (by decide) (by decide)]; exact la
/-- one of the three settings is set -/
theorem INV.setg {σ τ : ST} (h : INV σ τ) (j : Nat) (v : Int32) (hj : j = 0 ∧ rg v 1 20 ∨ j = 1 ∧ rg v 1 5 ∨ j = 2) : INV (setI σ 1 j v) (setI τ 36 j v) := by
  obtain ⟨ns, nr, np, R⟩ := h.g
  refine INV.game h (fun k i h1 h2 h3 h4 => by rw [sg, if_neg (by omega)]) ⟨fun k i hk => by rw [sg, if_neg (by omega)], by rw [sg, if_neg (by omega)], fun i => rfl⟩ ⟨ns, nr, np, REL.c R ?_ ?_ ?_ ?_ ?_ ?_ ?_⟩
  · intro k i hk
    match k, hk with
    | 1, _ => rfl
    | 2, _ => rfl
    | 3, _ => rfl
    | 4, _ => rfl
    | 5, _ => rfl
    | k + 6, _ => rfl
  · intro k i hk hk2
    match k, hk with
    | 1, _ => show (setI τ 36 j v).1 36 3 = τ.1 36 3; rw [sg, if_neg (by omega)]
    | 2, _ => show (setI τ 36 j v).1 36 7 = τ.1 36 7; rw [sg, if_neg (by omega)]
    | 3, _ => show (setI τ 36 j v).1 36 16 = τ.1 36 16; rw [sg, if_neg (by omega)]
    | k + 4, _ => show (setI τ 36 j v).1 (33 + (k + 4)) i = τ.1 (33 + (k + 4)) i; rw [sg, if_neg (by omega)]
  all_goals rcases hj with ⟨rfl, hv⟩ | ⟨rfl, hv⟩ | rfl
  all_goals first | exact rfl | exact hv | exact R.c0 | exact R.c1 | exact R.c2 | exact R.rc | exact R.rt
theorem set3 {x : Int32} (h : ¬ x < 0) (h2 : x ≤ 2) : x = 0 ∨ x = 1 ∨ x = 2 := by grind
theorem sim_set (x1 x2 : Int32) : SIM (fX5_set x1 x2) (fX6_set x1 x2) := by
  intro σ τ h0
  have hI := h0.r
  have hT := (scr6.r (τ := τ)).fr6
  unfold fX5_set fX6_set fX6_set_44
  generalize setI τ 36 23 0 = T at *
  obtain ⟨ns, nr, np, R⟩ := hI.g
  have hp := R.hp
  have hx : σ.1 10 3 = nI np := R.xp
  have hm : T.1 36 16 = nI np := R.mp
  have no : ∀ v, ∃ a σ' τ', (some (v, σ) : Option (Int32 × ST)) = some (a, σ') ∧ (some (v, T) : Option (Int32 × ST)) = some (a, τ') ∧ INV σ' τ' ∧ fr5 σ σ' ∧ fr6 τ τ' := fun v => ⟨v, σ, T, rfl, rfl, hI, fr5.rfl, hT⟩
  have e3 : fX6_in x1.toInt64 0 2 T = some (if 0 ≤ x1 ∧ x1 ≤ 2 then 1 else 0) := in_i x1 0 2 T
  by_cases h4 : x1 < 0
  · rw [if_neg (fun h => absurd h4 (Int32.not_lt.mpr h.1))] at e3
    rw [e3, bR_t, if_pos rfl, if_neg (ne_neg h4 (by decide)), if_neg (ne_neg h4 (by decide))]
    unfold fX5_set_33
    rw [if_pos h4]
    exact no (-1)
  by_cases h5 : x1 ≤ 2
  · rw [if_pos ⟨Int32.not_lt.mp h4, h5⟩] at e3
    rw [e3, bR_t, if_neg h10]
    rcases set3 h4 h5 with rfl | rfl | rfl
    · rw [if_neg (show ¬ (0 : Int32) = 2 by decide), if_pos rfl, if_neg (show ¬ (2 : Int32) ≤ 0 by decide), if_pos rfl]
      unfold fX5_set_33 fX6_set_38 fX6_set_44 fX6_set_46
      have e4 : fX6_in x2.toInt64 1 20 T = some (if 1 ≤ x2 ∧ x2 ≤ 20 then 1 else 0) := in_i x2 1 20 T
      rw [if_neg (show ¬ (0 : Int32) < 0 by decide), if_neg (show ¬ (1 : Int32) < 0 by decide), if_neg (show ¬ (2 : Int32) ≤ 0 by decide), hx, hm]
      by_cases h6 : x2 < 1
      · rw [if_neg (fun h => absurd h6 (Int32.not_lt.mpr h.1))] at e4
        rw [if_pos h6, e4, bR_t, if_pos rfl]; exact no (-1)
      by_cases h7 : x2 ≤ 20
      · rw [if_pos ⟨Int32.not_lt.mp h6, h7⟩] at e4
        rw [if_neg h6, if_pos h7, e4, bR_t, if_neg h10]
        by_cases h8 : nI np ≤ 0
        · rw [if_pos h8, if_pos h8]
          refine ⟨σ.1 1 0, setI σ 1 0 x2, setI T 36 0 x2, rfl, ?_, INV.setg hI 0 x2 (Or.inl ⟨rfl, Int32.not_lt.mp h6, h7⟩), fr5.rfl.set (by omega), hT.set (by omega)⟩
          show some (T.1 36 0, setI (setI (setI T 36 0 x2) 36 1 ((setI T 36 0 x2).1 36 1)) 36 2 ((setI (setI T 36 0 x2) 36 1 ((setI T 36 0 x2).1 36 1)).1 36 2)) = _
          rw [set_self, set_self, show T.1 36 0 = σ.1 1 0 from R.c0]
        · rw [if_neg h8, if_neg h8]; exact no (-3)
      · rw [if_neg (fun h => h7 h.2)] at e4
        rw [if_neg h6, if_neg h7, e4, bR_t, if_pos rfl]; exact no (-1)
    · rw [if_neg (show ¬ (1 : Int32) = 2 by decide), if_neg h10, if_neg (show ¬ (2 : Int32) ≤ 1 by decide), if_neg h10]
      unfold fX5_set_33 fX6_set_38 fX6_set_44 fX6_set_46
      have e4 : fX6_in x2.toInt64 1 5 T = some (if 1 ≤ x2 ∧ x2 ≤ 5 then 1 else 0) := in_i x2 1 5 T
      rw [if_neg (show ¬ (1 : Int32) < 0 by decide), if_neg (show ¬ (1 : Int32) < 1 by decide), if_neg (show ¬ (2 : Int32) ≤ 1 by decide), hx, hm]
      by_cases h6 : x2 < 1
      · rw [if_neg (fun h => absurd h6 (Int32.not_lt.mpr h.1))] at e4
        rw [if_pos h6, e4, bR_t, if_pos rfl]; exact no (-1)
      by_cases h7 : x2 ≤ 5
      · rw [if_pos ⟨Int32.not_lt.mp h6, h7⟩] at e4
        rw [if_neg h6, if_pos h7, e4, bR_t, if_neg h10]
        by_cases h8 : nI np ≤ 0
        · rw [if_pos h8, if_pos h8]
          refine ⟨σ.1 1 1, setI σ 1 1 x2, setI T 36 1 x2, rfl, ?_, INV.setg hI 1 x2 (Or.inr (Or.inl ⟨rfl, Int32.not_lt.mp h6, h7⟩)), fr5.rfl.set (by omega), hT.set (by omega)⟩
          show some (T.1 36 1, setI (setI (setI T 36 0 (T.1 36 0)) 36 1 x2) 36 2 ((setI (setI T 36 0 (T.1 36 0)) 36 1 x2).1 36 2)) = _
          rw [set_self, set_self, show T.1 36 1 = σ.1 1 1 from R.c1]
        · rw [if_neg h8, if_neg h8]; exact no (-3)
      · rw [if_neg (fun h => h7 h.2)] at e4
        rw [if_neg h6, if_neg h7, e4, bR_t, if_pos rfl]; exact no (-1)
    · rw [if_pos rfl, if_pos (show (2 : Int32) ≤ 2 by decide)]
      refine ⟨σ.1 1 2, setI σ 1 2 x2, setI T 36 2 x2, rfl, ?_, INV.setg hI 2 x2 (Or.inr (Or.inr rfl)), fr5.rfl.set (by omega), hT.set (by omega)⟩
      show some (T.1 36 2, setI (setI (setI T 36 0 (T.1 36 0)) 36 1 ((setI T 36 0 (T.1 36 0)).1 36 1)) 36 2 x2) = _
      rw [set_self, set_self, show T.1 36 2 = σ.1 1 2 from R.c2]
  · rw [if_neg (fun h => h5 h.2)] at e3
    have hb : ∀ y : Int32, y ≤ 2 → ¬ x1 = y := fun y hy e => h5 (by rw [e]; exact hy)
    rw [e3, bR_t, if_pos rfl, if_neg (hb 2 (by decide)), if_neg (hb 0 (by decide))]
    unfold fX5_set_33
    rw [if_neg h4, if_pos (Int32.lt_of_lt_of_le (show (1 : Int32) < 2 by decide) (Int32.le_of_lt (Int32.not_le.mp h5)))]
    exact no (-1)
