theorem row5_loop {d : Nat} (hd : d < 8) : ∀ m i f (σ : ST), i + m = 100 → m < f → (∀ j, j < i → σ.1 (21 + 2 * d) j = 0) → ∃ σ', fX3_becomeRow_17 f (20 + 2 * d) (nI i) σ = some σ' ∧ (∀ k j, k ≠ 21 + 2 * d → σ'.1 k j = σ.1 k j) ∧ σ'.2 = σ.2 ∧ ∀ j, j < 100 → σ'.1 (21 + 2 * d) j = 0
  | 0, i, f + 1, σ, hi, _, hz => by
    have : i = 100 := by omega
    subst this
    refine ⟨σ, ?_, fun _ _ _ => rfl, rfl, hz⟩
    rw [fX3_becomeRow_17, al_el hd, if_pos (show Int32.ofNat 100 ≤ nI 100 by decide)]
  | m + 1, i, f + 1, σ, hi, hf, hz => by
    obtain ⟨σ', h1, h2, h3, h4⟩ := row5_loop hd m (i + 1) f (setI σ (21 + 2 * d) i 0) (by omega) (by omega) (fun j hj => by
      rw [sg]
      by_cases h : j = i
      · rw [if_pos ⟨rfl, h⟩]
      · rw [if_neg (fun e => h e.2)]; exact hz j (by omega))
    refine ⟨σ', ?_, fun k j hk => (h2 k j hk).trans (by rw [sg, if_neg (fun e => hk e.1)]), h3, h4⟩
    rw [fX3_becomeRow_17, al_el hd, if_neg (show ¬ Int32.ofNat 100 ≤ nI i from nI_ge (show i < 100 by omega) (by decide)), inb_t (show i < 100 by omega) (by decide), gd_t, nI_clamp (by omega), nI_1, show 20 + 2 * d + 1 = 21 + 2 * d by omega]
    exact h1
theorem row6_loop {d : Nat} (hd : d < 8) : ∀ m i f (τ : ST), i + m = 100 → m < f → (∀ j, j < i → τ.2 65 (100 * d + j) = 0) → ∃ τ', fX6_row_68 f (nI d) (nI i) τ = some (0, τ') ∧ τ'.1 = τ.1 ∧ (∀ j, ¬ (100 * d ≤ j ∧ j < 100 * d + 100) → τ'.2 65 j = τ.2 65 j) ∧ ∀ j, j < 100 → τ'.2 65 (100 * d + j) = 0
  | 0, i, f + 1, τ, hi, _, hz => by
    have : i = 100 := by omega
    subst this
    refine ⟨τ, ?_, rfl, fun _ _ => rfl, hz⟩
    rw [fX6_row_68, if_pos (show (100 : Int32) ≤ nI 100 by decide)]
  | m + 1, i, f + 1, τ, hi, hf, hz => by
    obtain ⟨j1, j2⟩ := ix800 hd (show i < 100 by omega)
    obtain ⟨τ', h1, h2, h3, h4⟩ := row6_loop hd m (i + 1) f (setL τ 65 (100 * d + i) 0) (by omega) (by omega) (fun j hj => by
      rw [lg]
      by_cases h : j = i
      · rw [if_pos ⟨rfl, by omega⟩]
      · rw [if_neg (by omega)]; exact hz j (by omega))
    refine ⟨τ', ?_, h2, fun j hj => (h3 j hj).trans (by rw [lg, if_neg (by omega)]), h4⟩
    rw [fX6_row_68, if_neg (show ¬ (100 : Int32) ≤ nI i from nI_ge (b := 100) (show i < 100 by omega) (by decide)), al_65, j1, gd_t, j2, nI_1]
    exact h1
theorem sim_row (x1 x2 x3 : Int32) : SIM (fX5_row x1 x2 x3) (fX6_row x1 x2 x3) := by
  intro σ τ h0
  have hI := h0.r
  have hT := (scr6.r (τ := τ)).fr6
  unfold fX5_row fX6_row fX6_row_35 fX5_row_27
  generalize setI τ 36 23 0 = T at *
  have no : ∀ v, ∃ a σ' τ', (some (v, σ) : Option (Int32 × ST)) = some (a, σ') ∧ (some (v, T) : Option (Int32 × ST)) = some (a, τ') ∧ INV σ' τ' ∧ fr5 σ σ' ∧ fr6 τ τ' := fun v => ⟨v, σ, T, rfl, rfl, hI, fr5.rfl, hT⟩
  have e3 : fX6_in x2.toInt64 0 2 T = some (if 0 ≤ x2 ∧ x2 ≤ 2 then 1 else 0) := in_i x2 0 2 T
  rcases shelf_c x1 σ T with ⟨a1, a2⟩ | ⟨d, hd, rfl, a1, a2⟩
  · rw [a1, a2, bR_t, bR_t, if_pos rfl]; exact no (-1)
  have i8 : inb (nI d) 8 = true := inb_t hd (by decide)
  rw [a1, bR_t, a2, bR_t, if_neg h10]
  show ∃ a σ' τ', (if x2 < 0 then some (-1, σ) else if 2 < x2 then some (-1, σ) else if x3 ≤ 100 then if 0 ≤ x3 then bR (fX3_becomeRow (20 + 2 * d) x2 x3 σ) fun σ2 => some (0, σ2) else some (-14, σ) else some (-1, σ)) = some (a, σ') ∧ _
  by_cases h4 : x2 < 0
  · rw [if_neg (fun h => absurd h4 (Int32.not_lt.mpr h.1))] at e3
    rw [if_pos h4, e3, bR_t, if_pos rfl]; exact no (-1)
  by_cases h5 : 2 < x2
  · rw [if_neg (fun h => absurd h5 (Int32.not_lt.mpr h.2))] at e3
    rw [if_neg h4, if_pos h5, e3, bR_t, if_pos rfl]; exact no (-1)
  rw [if_pos ⟨Int32.not_lt.mp h4, Int32.not_lt.mp h5⟩] at e3
  rw [if_neg h4, if_neg h5, e3, bR_t, if_neg h10]
  by_cases h6 : x3 ≤ 100
  · rw [if_pos h6, if_pos h6]
    by_cases h7 : 0 ≤ x3
    · rw [if_pos h7, if_pos h7, al_58, al_63, al_64, i8, gd_t, gd_t, gd_t, nI_clamp (by omega)]
      let σ1 := setI (setI (setI σ (20 + 2 * d) 0 2) (20 + 2 * d) 5 x2) (20 + 2 * d) 6 x3
      let T1 := setI (setI (setI T 58 d 2) 63 d x2) 64 d x3
      obtain ⟨σ', q1, q2, q3, q4⟩ := row5_loop hd 100 0 FU σ1 (by omega) (by unfold FU; omega) (fun j hj => absurd hj (by omega))
      obtain ⟨τ', p1, p2, p3, p4⟩ := row6_loop hd 100 0 FU T1 (by omega) (by unfold FU; omega) (fun j hj => absurd hj (by omega))
      have g : ∀ i, σ'.1 (20 + 2 * d) i = if i = 6 then x3 else if i = 5 then x2 else if i = 0 then 2 else σ.1 (20 + 2 * d) i := fun i => by
        rw [q2 _ _ (by omega)]
        show (setI (setI (setI σ (20 + 2 * d) 0 2) (20 + 2 * d) 5 x2) (20 + 2 * d) 6 x3).1 _ _ = _
        rw [sg, sg, sg]; simp
      have o : ∀ x j, ¬ ((x = 58 ∨ x = 63 ∨ x = 64) ∧ j = d) → τ'.1 x j = T.1 x j := fun x j h => by
        rw [p2]
        show (setI (setI (setI T 58 d 2) 63 d x2) 64 d x3).1 _ _ = _
        rw [sg, sg, sg, if_neg (by omega), if_neg (by omega), if_neg (by omega)]
      have t58 : τ'.1 58 d = 2 := by rw [p2]; show (setI (setI (setI T 58 d 2) 63 d x2) 64 d x3).1 _ _ = _; rw [sg, sg, sg]; simp
      have t63 : τ'.1 63 d = x2 := by rw [p2]; show (setI (setI (setI T 58 d 2) 63 d x2) 64 d x3).1 _ _ = _; rw [sg, sg, sg]; simp
      have t64 : τ'.1 64 d = x3 := by rw [p2]; show (setI (setI (setI T 58 d 2) 63 d x2) 64 d x3).1 _ _ = _; rw [sg, sg, sg]; simp
      have g0 : σ'.1 (20 + 2 * d) 0 = 2 := by rw [g]; simp
      have g5 : σ'.1 (20 + 2 * d) 5 = x2 := by rw [g]; simp
      have g6 : σ'.1 (20 + 2 * d) 6 = x3 := by rw [g]; simp
      have s1 : ∀ k j, k ≠ 20 + 2 * d → σ1.1 k j = σ.1 k j := fun k j hk => by
        show (setI (setI (setI σ (20 + 2 * d) 0 2) (20 + 2 * d) 5 x2) (20 + 2 * d) 6 x3).1 _ _ = _
        rw [sg, sg, sg, if_neg (fun e => hk e.1), if_neg (fun e => hk e.1), if_neg (fun e => hk e.1)]
      refine ⟨0, σ', τ', ?_, p1, ?_, ⟨fun k j hk => (q2 k j (by omega)).trans (s1 k j (by omega)), q3⟩, fun k j hk => (o k j (by omega)).trans (hT k j hk)⟩
      · unfold fX3_becomeRow
        rw [show fX3_becomeRow_17 FU (20 + 2 * d) 0 (setI (setI (setI σ (20 + 2 * d) 0 2) (20 + 2 * d) 5 x2) (20 + 2 * d) 6 x3) = some σ' from q1]
        rfl
      · refine INV.shelf hI hd (fun k j h1 h2 h3 => (q2 k j h3).trans (s1 k j h2)) ⟨fun k j h1 h2 => o k j (by omega), fun e i h1 h2 h3 => p3 _ (by omega)⟩ ⟨t58.trans g0.symm, Or.inr (Or.inr g0), fun h => ?_, fun _ => ⟨t63.trans g5.symm, ?_, t64.trans g6.symm, ?_, fun i hi => ?_, fun _ i hi => ?_⟩⟩
        · rw [g0] at h; exact absurd h (by decide)
        · rw [g5]; exact ⟨Int32.not_lt.mp h4, Int32.not_lt.mp h5⟩
        · rw [g6]; exact ⟨h7, h6⟩
        · rw [p4 i hi, q4 i hi]; rfl
        · rw [q4 i hi]; exact ⟨by decide, by decide⟩
    · rw [if_neg h7, if_neg h7]; exact no (-14)
  · rw [if_neg h6, if_neg h6]; exact no (-1)
