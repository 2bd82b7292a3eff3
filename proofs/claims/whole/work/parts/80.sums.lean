theorem loopC {x1 : Int32} {T : ST} {np : Nat} (hm : T.1 36 16 = nI np) (hp : np ≤ 100) (x2 : Int32) (v : Nat → Int32)
    (hv : ∀ i, i < np → (x2 = 0 → v i = T.1 51 i) ∧ (¬ x2 = 0 → x2 = 1 → v i = T.1 52 i) ∧ (¬ x2 = 0 → ¬ x2 = 1 → v i = T.1 51 i - T.1 52 i)) :
    ∀ d i f, i + d = np → d < f → fX6_sumCame_32 f x1 x2 (fs (fun p => if T.1 49 p = x1 then v p else 0) i) (nI i) T = some (fs (fun p => if T.1 49 p = x1 then v p else 0) np, T) := by
  intro d
  induction d with
  | zero =>
    intro i f hi hf
    match f, hf with
    | f + 1, _ =>
      have : i = np := by omega
      subst this
      rw [fX6_sumCame_32, hm, if_pos (nI_le (Nat.le_refl _) (by omega))]
  | succ d ih =>
    intro i f hi hf
    match f, hf with
    | f + 1, hf =>
      have i1 : inb (nI i) 100 = true := inb_t (by omega) (by decide)
      have h := ih (i + 1) f (by omega) (by omega)
      rw [fs] at h
      obtain ⟨v1, v2, v3⟩ := hv i (by omega)
      rw [fX6_sumCame_32, hm, if_neg (nI_ge (show i < np by omega) (by omega)), al_51, al_52, i1, gd_t, nI_clamp (by omega)]
      unfold fX6_sumCame_85 fX6_sumCame_105
      rw [al_49, i1, gd_t, nI_clamp (by omega), nI_1]
      by_cases c : T.1 49 i = x1
      · rw [if_pos c] at h
        rw [if_pos c, if_pos c, if_pos c]
        by_cases a : x2 = 0
        · rw [if_pos a, ← v1 a]; exact h
        · rw [if_neg a]
          by_cases b : x2 = 1
          · rw [if_pos b, ← v2 a b]; exact h
          · rw [if_neg b, gd_t, gd_t, ← v3 a b]; exact h
      · rw [if_neg c] at h
        rw [if_neg c, if_neg c, if_neg c]
        by_cases a : x2 = 0
        · rw [if_pos a]; exact h
        · rw [if_neg a]
          by_cases b : x2 = 1
          · rw [if_pos b]; exact h
          · rw [if_neg b, gd_t, gd_t]; exact h
theorem fs_sub {c : Nat → Prop} [∀ p, Decidable (c p)] (f g : Nat → Int32) : ∀ n, fs (fun p => if c p then f p - g p else 0) n = fs (fun p => if c p then f p else 0) n - fs (fun p => if c p then g p else 0) n
  | 0 => by rw [fs, fs, fs]; grind
  | n + 1 => by
    rw [fs, fs, fs, fs_sub f g n]
    by_cases h : c n
    · rw [if_pos h, if_pos h, if_pos h]; grind
    · rw [if_neg h, if_neg h, if_neg h]; grind
theorem sim_sumCame (x1 x2 : Int32) : SIMr (fX5_sumCame x1 x2) (fX6_sumCame x1 x2) := by
  intro σ τ h0
  have hI := h0.r
  have hT := scr6.r (τ := τ)
  unfold fX5_sumCame fX6_sumCame fX6_sumCame_25 fX5_sumCame_23
  generalize setI τ 36 23 0 = T at *
  obtain ⟨ns, nr, np, R⟩ := hI.g
  have hp := R.hp
  have e3 : fX6_in x2.toInt64 0 2 T = some (if 0 ≤ x2 ∧ x2 ≤ 2 then 1 else 0) := in_i x2 0 2 T
  have hx : σ.1 10 3 = nI np := R.xp
  have hm : T.1 36 16 = nI np := R.mp
  rcases isR2 R x1 with ⟨a1, a2⟩ | ⟨s, hs, e, a1, a2⟩
  · exact ⟨-1, T, by rw [a1]; rfl, by rw [a2]; rfl, hT⟩
  rw [a1, bR_t, if_neg h10, a2, bR_t, if_neg h10]
  by_cases h4 : x2 < 0
  · rw [if_neg (fun h => absurd h4 (Int32.not_lt.mpr h.1))] at e3
    rw [if_pos h4, e3, bR_t, if_pos rfl]; exact ⟨-1, T, rfl, rfl, hT⟩
  by_cases h5 : x2 ≤ 2
  · rw [if_pos ⟨Int32.not_lt.mp h4, h5⟩] at e3
    rw [if_neg h4, if_pos h5, e3, bR_t, if_neg h10]
    have s1 : fX4_sumWhere 10 1 x1 3 σ = some (fs (fun p => if σ.1 11 (6 * p + 1) = x1 then σ.1 11 (6 * p + 3) else 0) np) := swh (w := 6) (c := 1) (d := 3) hx hI.c.a2.2 (by omega) (by omega) (by rw [al_11]; omega) (by omega) (by omega) (by rw [al_11]; omega) rfl rfl
    have s2 : fX4_sumWhere 10 1 x1 4 σ = some (fs (fun p => if σ.1 11 (6 * p + 1) = x1 then σ.1 11 (6 * p + 4) else 0) np) := swh (w := 6) (c := 1) (d := 4) hx hI.c.a2.2 (by omega) (by omega) (by rw [al_11]; omega) (by omega) (by omega) (by rw [al_11]; omega) rfl rfl
    have q : ∀ p, p < np → T.1 49 p = σ.1 11 (6 * p + 1) ∧ T.1 51 p = σ.1 11 (6 * p + 3) ∧ T.1 52 p = σ.1 11 (6 * p + 4) := fun p hp => ⟨(R.p p hp).2.1, (R.p p hp).2.2.2.1, (R.p p hp).2.2.2.2.1⟩
    have hc : T.1 36 0 = σ.1 1 0 := R.c0
    rw [s1, bR_t, s2, bR_t]
    have go : ∀ v : Nat → Int32, (∀ i, i < np → (x2 = 0 → v i = T.1 51 i) ∧ (¬ x2 = 0 → x2 = 1 → v i = T.1 52 i) ∧ (¬ x2 = 0 → ¬ x2 = 1 → v i = T.1 51 i - T.1 52 i)) → fX6_sumCame_32 FU x1 x2 0 0 T = some (fs (fun p => if T.1 49 p = x1 then v p else 0) np, T) := fun v hv => loopC hm hp x2 v hv np 0 FU (by omega) (by unfold FU; omega)
    have hF : ∀ v w : Nat → Int32, (∀ p, p < np → v p = w p) → fs (fun p => if T.1 49 p = x1 then v p else 0) np = fs (fun p => if σ.1 11 (6 * p + 1) = x1 then w p else 0) np := fun v w h => fs_ext np (fun p hp => by show (if T.1 49 p = x1 then _ else _) = _; rw [(q p hp).1, h p hp])
    by_cases a : x2 = 0
    · rw [if_pos a, go (fun p => T.1 51 p) (fun i hi => ⟨fun _ => rfl, fun h => absurd a h, fun h => absurd a h⟩)]
      exact ⟨_, T, rfl, congrArg (fun x => some (x, T)) (hF _ _ (fun p hp => (q p hp).2.1)), hT⟩
    rw [if_neg a]
    by_cases b : x2 = 1
    · rw [if_pos b, go (fun p => T.1 52 p) (fun i hi => ⟨fun h => absurd h a, fun _ _ => rfl, fun _ h => absurd b h⟩)]
      exact ⟨_, T, rfl, congrArg (fun x => some (x, T)) (hF _ _ (fun p hp => (q p hp).2.2)), hT⟩
    · rw [if_neg b, go (fun p => T.1 51 p - T.1 52 p) (fun i hi => ⟨fun h => absurd h a, fun _ h => absurd h b, fun _ _ => rfl⟩)]
      refine ⟨_, T, rfl, congrArg (fun x => some (x, T)) ?_, hT⟩
      rw [hF _ (fun p => σ.1 11 (6 * p + 3) - σ.1 11 (6 * p + 4)) (fun p hp => by show T.1 51 p - T.1 52 p = _; rw [(q p hp).2.1, (q p hp).2.2])]
      exact fs_sub (c := fun p => σ.1 11 (6 * p + 1) = x1) (fun p => σ.1 11 (6 * p + 3)) (fun p => σ.1 11 (6 * p + 4)) np
  · rw [if_neg (fun h => h5 h.2)] at e3
    rw [if_neg h4, if_neg h5, e3, bR_t, if_pos rfl]; exact ⟨-1, T, rfl, rfl, hT⟩
theorem cnt_loop {x1 : Int32} {T : ST} {np : Nat} (hm : T.1 36 16 = nI np) (hp : np ≤ 100) (v : Int32)
    (hv : (if x1 = 0 then T.1 36 3 else if x1 = 1 then T.1 36 7 else if x1 = 2 then T.1 36 16 else if x1 = 3 then fs (fun p => T.1 50 p) np else if x1 = 4 then fs (fun p => T.1 52 p) np else if x1 = 5 then T.1 36 0 else if x1 = 6 then T.1 36 1 else -1) = v) :
    ∀ d i f, i + d = np → d < f → fX6_count_12 f x1 (fs (fun p => T.1 50 p) i) (fs (fun p => T.1 52 p) i) (nI i) T = some (v, T) := by
  intro d
  induction d with
  | zero =>
    intro i f hi hf
    match f, hf with
    | f + 1, _ =>
      have : i = np := by omega
      subst this
      rw [fX6_count_12, hm, if_pos (nI_le (Nat.le_refl _) (by omega)), ← hv, hm]
      repeat' split
      all_goals rfl
  | succ d ih =>
    intro i f hi hf
    match f, hf with
    | f + 1, hf =>
      have i1 : inb (nI i) 100 = true := inb_t (by omega) (by decide)
      have h := ih (i + 1) f (by omega) (by omega)
      rw [fX6_count_12, hm, if_neg (nI_ge (show i < np by omega) (by omega)), al_50, al_52, i1, gd_t, gd_t, nI_clamp (by omega), nI_1]
      exact h
theorem sim_count (x1 : Int32) : SIMr (fX5_count x1) (fX6_count x1) := by
  intro σ τ h0
  have hI := h0.r
  have hT := scr6.r (τ := τ)
  unfold fX5_count fX6_count
  generalize setI τ 36 23 0 = T at *
  obtain ⟨ns, nr, np, R⟩ := hI.g
  have hp := R.hp
  have hx : σ.1 10 3 = nI np := R.xp
  have hm : T.1 36 16 = nI np := R.mp
  have s1 : fX4_sum 10 2 σ = some (fs (fun p => σ.1 11 (6 * p + 2)) np) := sum_t (w := 6) (d := 2) hx hI.c.a2.2 (by omega) (by rw [al_11]; omega) (by omega) (by omega) (by rw [al_11]; omega) rfl
  have s2 : fX4_sum 10 4 σ = some (fs (fun p => σ.1 11 (6 * p + 4)) np) := sum_t (w := 6) (d := 4) hx hI.c.a2.2 (by omega) (by rw [al_11]; omega) (by omega) (by omega) (by rw [al_11]; omega) rfl
  have t1 : fs (fun p => T.1 50 p) np = fs (fun p => σ.1 11 (6 * p + 2)) np := fs_ext np (fun p hp => (R.p p hp).2.2.1)
  have t2 : fs (fun p => T.1 52 p) np = fs (fun p => σ.1 11 (6 * p + 4)) np := fs_ext np (fun p hp => (R.p p hp).2.2.2.2.1)
  have go := cnt_loop hm hp _ (rfl : _ = (if x1 = 0 then T.1 36 3 else if x1 = 1 then T.1 36 7 else if x1 = 2 then T.1 36 16 else if x1 = 3 then fs (fun p => T.1 50 p) np else if x1 = 4 then fs (fun p => T.1 52 p) np else if x1 = 5 then T.1 36 0 else if x1 = 6 then T.1 36 1 else -1)) np 0 FU (by omega) (by unfold FU; omega)
  refine ⟨_, T, ?_, go, hT⟩
  rw [t1, t2, s1, s2, bR_t, bR_t, show T.1 36 3 = σ.1 6 3 from (show T.1 36 3 = nI ns from R.ms).trans R.xs.symm, show T.1 36 7 = σ.1 8 3 from (show T.1 36 7 = nI nr from R.mr).trans R.xr.symm, hm, hx, show T.1 36 0 = σ.1 1 0 from R.c0, show T.1 36 1 = σ.1 1 1 from R.c1]
  repeat' split
  all_goals rfl
