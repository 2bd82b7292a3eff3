theorem h10 : ¬ (1 : Int32) = 0 := by decide
theorem c2 {x : Int32} (h : ¬ x < 0) (h2 : x ≤ 1) : x = 0 ∨ x = 1 := by grind
theorem c3 {x : Int32} (h : ¬ x < 0) (h2 : x < 3) : x = 0 ∨ x = 1 ∨ x = 2 := by grind
theorem c6 {x : Int32} (h : ¬ x < 0) (h2 : x < 6) : x = 0 ∨ x = 1 ∨ x = 2 ∨ x = 3 ∨ x = 4 ∨ x = 5 := by grind
theorem lt3 {x : Int32} : x < 3 ↔ x ≤ 2 := by grind
theorem lt6 {x : Int32} : x < 6 ↔ x ≤ 5 := by grind
theorem ne_neg {x y : Int32} (h : x < 0) (hy : 0 ≤ y) : ¬ x = y := fun e => by rw [e] at h; exact absurd hy (Int32.not_le.mpr h)
theorem ne_big {x y : Int32} (h : ¬ x ≤ 5) (hy : y ≤ 5) : ¬ x = y := fun e => h (by rw [e]; exact hy)
theorem sim_sender (x1 x2 : Int32) : SIMr (fX5_sender x1 x2) (fX6_sender x1 x2) := by
  intro σ τ h0
  have hI := h0.r
  have hT := scr6.r (τ := τ)
  unfold fX5_sender fX6_sender fX6_sender_25 fX5_sender_23
  generalize setI τ 36 23 0 = T at *
  obtain ⟨ns, nr, np, R⟩ := hI.g
  have hs8 := R.hs
  have e3 : fX6_in x2.toInt64 0 2 T = some (if 0 ≤ x2 ∧ x2 ≤ 2 then 1 else 0) := in_i x2 0 2 T
  rcases isS2 R x1 with ⟨a1, a2⟩ | ⟨s, hs, rfl, a1, a2⟩
  · exact ⟨-1, T, by rw [a1]; rfl, by rw [a2]; rfl, hT⟩
  rw [a1, bR_t, if_neg h10, a2, bR_t, if_neg h10]
  have i8 : inb (nI s) 8 = true := inb_t (by omega) (by decide)
  obtain ⟨u1, u2, u3⟩ := R.s s hs
  by_cases h4 : x2 < 0
  · rw [if_neg (fun h => absurd h4 (Int32.not_lt.mpr h.1))] at e3
    rw [if_pos h4, e3, bR_t, if_pos rfl]; exact ⟨-1, T, rfl, rfl, hT⟩
  by_cases h5 : x2 < 3
  · rw [if_pos ⟨Int32.not_lt.mp h4, lt3.mp h5⟩] at e3
    rw [if_neg h4, if_pos h5, e3, bR_t, if_neg h10]
    have hc := c3 h4 h5
    rcases hc with rfl | rfl | rfl
    · rw [show fX4_read 6 (nI s) 0 σ = some (σ.1 7 (3 * s)) from rdS (c := 0) hI.c R.xs R.hs hs (by omega) rfl, if_pos rfl, al_37, i8, gd_t, nI_clamp (by omega)]
      exact ⟨_, T, rfl, congrArg (fun x => some (x, T)) u1, hT⟩
    · rw [show fX4_read 6 (nI s) 1 σ = some (σ.1 7 (3 * s + 1)) from rdS (c := 1) hI.c R.xs R.hs hs (by omega) rfl, if_neg h10, if_pos rfl, al_38, i8, gd_t, nI_clamp (by omega)]
      exact ⟨_, T, rfl, congrArg (fun x => some (x, T)) u2, hT⟩
    · rw [show fX4_read 6 (nI s) 2 σ = some (σ.1 7 (3 * s + 2)) from rdS (c := 2) hI.c R.xs R.hs hs (by omega) rfl, if_neg (show ¬ (2 : Int32) = 0 by decide), if_neg (show ¬ (2 : Int32) = 1 by decide), al_39, i8, gd_t, nI_clamp (by omega)]
      exact ⟨_, T, rfl, congrArg (fun x => some (x, T)) u3, hT⟩
  · rw [if_neg (fun h => h5 (lt3.mpr h.2))] at e3
    rw [if_neg h4, if_neg h5, e3, bR_t, if_pos rfl]; exact ⟨-1, T, rfl, rfl, hT⟩
theorem sim_returner (x1 x2 : Int32) : SIMs (fX5_returner x1 x2) (fX6_returner x1 x2) := by
  intro σ τ h0
  have hI := h0.r
  have hT := scr6.r (τ := τ)
  unfold fX5_returner fX6_returner fX5_returner_23
  generalize setI τ 36 23 0 = T at *
  obtain ⟨ns, nr, np, R⟩ := hI.g
  have hs8 := R.hr
  rcases isR2 R x1 with ⟨a1, a2⟩ | ⟨s, hs, rfl, a1, a2⟩
  · exact ⟨-1, σ, T, by rw [a1]; rfl, by rw [a2]; rfl, scr5.rfl, hT⟩
  rw [a1, bR_t, if_neg h10, a2, bR_t, if_neg h10]
  have i8 : inb (nI s) 8 = true := inb_t (by omega) (by decide)
  obtain ⟨u1, u2, u3, u4, u5⟩ := R.r s hs
  by_cases h4 : x2 < 0
  · rw [if_pos h4, if_neg (ne_neg h4 (show (0 : Int32) ≤ 0 by decide)), if_neg (ne_neg h4 (show (0 : Int32) ≤ 1 by decide)), if_neg (ne_neg h4 (show (0 : Int32) ≤ 2 by decide)), if_neg (ne_neg h4 (show (0 : Int32) ≤ 3 by decide)), if_neg (ne_neg h4 (show (0 : Int32) ≤ 4 by decide)), if_neg (ne_neg h4 (show (0 : Int32) ≤ 5 by decide))]
    exact ⟨-1, σ, T, rfl, rfl, scr5.rfl, hT⟩
  by_cases h5 : x2 ≤ 5
  · have hc := c6 h4 (lt6.mpr h5)
    rw [if_neg h4, if_pos h5]
    rcases hc with rfl | rfl | rfl | rfl | rfl | rfl
    · rw [show fX4_read 8 (nI s) 0 σ = some (σ.1 9 (5 * s)) from rdR (c := 0) hI.c R.xr R.hr hs (by omega) rfl, if_pos rfl, al_40, i8, gd_t, nI_clamp (by omega)]
      exact ⟨_, σ, T, rfl, congrArg (fun x => some (x, T)) u1, scr5.rfl, hT⟩
    · rw [show fX4_read 8 (nI s) 1 σ = some (σ.1 9 (5 * s + 1)) from rdR (c := 1) hI.c R.xr R.hr hs (by omega) rfl, if_neg h10, if_pos rfl, al_41, i8, gd_t, nI_clamp (by omega)]
      exact ⟨_, σ, T, rfl, congrArg (fun x => some (x, T)) u2, scr5.rfl, hT⟩
    · rw [show fX4_read 8 (nI s) 2 σ = some (σ.1 9 (5 * s + 2)) from rdR (c := 2) hI.c R.xr R.hr hs (by omega) rfl, al_42, i8, gd_t, nI_clamp (by omega)]
      exact ⟨_, σ, T, rfl, congrArg (fun x => some (x, T)) u3, scr5.rfl, hT⟩
    · rw [show fX4_read 8 (nI s) 3 σ = some (σ.1 9 (5 * s + 3)) from rdR (c := 3) hI.c R.xr R.hr hs (by omega) rfl, al_43, i8, gd_t, nI_clamp (by omega)]
      exact ⟨_, σ, T, rfl, congrArg (fun x => some (x, T)) u4, scr5.rfl, hT⟩
    · rw [show fX4_read 8 (nI s) 4 σ = some (σ.1 9 (5 * s + 4)) from rdR (c := 4) hI.c R.xr R.hr hs (by omega) rfl, al_44, i8, gd_t, nI_clamp (by omega)]
      exact ⟨_, σ, T, rfl, congrArg (fun x => some (x, T)) u5, scr5.rfl, hT⟩
    · obtain ⟨σ1, p1, m1, b1, b2, -⟩ := bringP (v := nI s) hI.c R.xp R.hp
      obtain ⟨C, G, k1, k2, k3, k4⟩ := R.sums s hs
      have n5 := name5_eq (σ := σ1) (b1.trans k3) (b2.trans k4) (show C ≤ 100000 by omega) k1
      have n6 := name6 (τ := T) (show s < 8 by omega) ((R.cm s hs).trans k3) ((R.gv s hs).trans k4) k1 (show C ≤ 100000 by omega)
      rw [p1, bR_t, n5, bR_t, n6, bR_t]
      by_cases hc : C = 0
      · rw [if_pos hc]
        exact ⟨-4, σ1, T, rfl, rfl, m1.scr, hT⟩
      · have hb : 100 * G / C ≤ 100 * G := Nat.div_le_self _ _
        rw [if_neg hc]
        have hn : ¬ nI (100 * G / C) = -1 := fun e => by have := nI_pos (n := 100 * G / C) (by omega); rw [e] at this; exact this (by decide)
        refine ⟨nI (100 * G / C), σ1, T, ?_, ?_, m1.scr, hT⟩
        · rw [if_pos (show (5 : Int32) ≤ 5 by decide), if_neg hn]; rfl
        · rw [if_neg (show ¬ (5 : Int32) = 0 by decide), if_neg (show ¬ (5 : Int32) = 1 by decide), if_neg (show ¬ (5 : Int32) = 2 by decide), if_neg (show ¬ (5 : Int32) = 3 by decide), if_neg (show ¬ (5 : Int32) = 4 by decide), if_pos rfl, if_pos (nI_pos' (by omega)), bR_t]; rfl
  · rw [if_neg h4, if_neg h5, if_neg (ne_big h5 (show (0 : Int32) ≤ 5 by decide)), if_neg (ne_big h5 (show (1 : Int32) ≤ 5 by decide)), if_neg (ne_big h5 (show (2 : Int32) ≤ 5 by decide)), if_neg (ne_big h5 (show (3 : Int32) ≤ 5 by decide)), if_neg (ne_big h5 (show (4 : Int32) ≤ 5 by decide)), if_neg (ne_big h5 (show (5 : Int32) ≤ 5 by decide))]
    exact ⟨-1, σ, T, rfl, rfl, scr5.rfl, hT⟩
theorem sim_of (x1 x2 : Int32) : SIMr (fX5_of x1 x2) (fX6_of x1 x2) := by
  intro σ τ h0
  have hI := h0.r
  have hT := scr6.r (τ := τ)
  unfold fX5_of fX6_of fX6_of_21 fX5_of_14
  generalize setI τ 36 23 0 = T at *
  obtain ⟨ns, nr, np, R⟩ := hI.g
  have hp := R.hp
  have e3 : fX6_in x2.toInt64 0 5 T = some (if 0 ≤ x2 ∧ x2 ≤ 5 then 1 else 0) := in_i x2 0 5 T
  have hx : σ.1 10 3 = nI np := R.xp
  have hm : T.1 36 16 = nI np := R.mp
  rw [hx, hm]
  by_cases h1 : x1 < 0
  · rw [if_pos h1, if_pos h1]; exact ⟨-1, T, rfl, rfl, hT⟩
  rw [if_neg h1, if_neg h1]
  by_cases h4 : x2 < 0
  · rw [if_neg (fun h => absurd h4 (Int32.not_lt.mpr h.1))] at e3
    rw [if_pos h4, e3, bR_t, if_pos rfl]; exact ⟨-1, T, rfl, rfl, hT⟩
  by_cases h5 : x2 < 6
  · rw [if_pos ⟨Int32.not_lt.mp h4, lt6.mp h5⟩] at e3
    rw [if_neg h4, if_pos h5, e3, bR_t, if_neg h10]
    rcases pk_ix x1 (show np < 2 ^ 31 by omega) with h | h | ⟨i, hi, rfl⟩
    · exact absurd h h1
    · rw [if_neg (Int32.not_lt.mpr h), if_neg (Int32.not_lt.mpr h)]; exact ⟨-4, T, rfl, rfl, hT⟩
    · rw [if_pos (nI_lt hi (by omega)), if_pos (nI_lt hi (by omega))]
      have i8 : inb (nI i) 100 = true := inb_t (by omega) (by decide)
      obtain ⟨u1, u2, u3, u4, u5, u6⟩ := R.p i hi
      have hc := c6 h4 h5
      rcases hc with rfl | rfl | rfl | rfl | rfl | rfl
      · rw [show fX4_read 10 (nI i) 0 σ = some (σ.1 11 (6 * i)) from rdP (c := 0) hI.c R.xp R.hp hi (by omega) rfl, if_pos rfl, al_48, i8, gd_t, nI_clamp (by omega)]
        exact ⟨_, T, rfl, congrArg (fun x => some (x, T)) u1, hT⟩
      · rw [show fX4_read 10 (nI i) 1 σ = some (σ.1 11 (6 * i + 1)) from rdP (c := 1) hI.c R.xp R.hp hi (by omega) rfl, al_49, i8, gd_t, nI_clamp (by omega)]
        exact ⟨_, T, rfl, congrArg (fun x => some (x, T)) u2, hT⟩
      · rw [show fX4_read 10 (nI i) 2 σ = some (σ.1 11 (6 * i + 2)) from rdP (c := 2) hI.c R.xp R.hp hi (by omega) rfl, al_50, i8, gd_t, nI_clamp (by omega)]
        exact ⟨_, T, rfl, congrArg (fun x => some (x, T)) u3, hT⟩
      · rw [show fX4_read 10 (nI i) 3 σ = some (σ.1 11 (6 * i + 3)) from rdP (c := 3) hI.c R.xp R.hp hi (by omega) rfl, al_51, i8, gd_t, nI_clamp (by omega)]
        exact ⟨_, T, rfl, congrArg (fun x => some (x, T)) u4, hT⟩
      · rw [show fX4_read 10 (nI i) 4 σ = some (σ.1 11 (6 * i + 4)) from rdP (c := 4) hI.c R.xp R.hp hi (by omega) rfl, al_52, i8, gd_t, nI_clamp (by omega)]
        exact ⟨_, T, rfl, congrArg (fun x => some (x, T)) u5, hT⟩
      · rw [show fX4_read 10 (nI i) 5 σ = some (σ.1 11 (6 * i + 5)) from rdP (c := 5) hI.c R.xp R.hp hi (by omega) rfl, al_53, i8, gd_t, nI_clamp (by omega)]
        obtain ⟨b, hb, eb⟩ := rg_n (n := 1) (by decide) (R.pr i hi).2.2.2.2.2
        have e2 : T.1 53 i = nI b := u6.trans eb
        have e1 : σ.1 11 (6 * i + 5) = nI b := eb
        rw [e1, e2]
        match b, hb with
        | 0, _ => exact ⟨0, T, rfl, rfl, hT⟩
        | 1, _ => exact ⟨1, T, rfl, rfl, hT⟩
  · rw [if_neg (fun h => h5 (lt6.mpr h.2))] at e3
    rw [if_neg h4, if_neg h5, e3, bR_t, if_pos rfl]; exact ⟨-1, T, rfl, rfl, hT⟩
