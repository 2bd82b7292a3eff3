theorem hasRun_neg {k : Nat} {x y : Int32} (σ : ST) (h : x < 0 ∨ y < 0) : fX3_hasRun k x y σ = some 0 := by
  unfold fX3_hasRun
  by_cases hx : x < 0
  · rw [if_pos hx]; rfl
  · rw [if_neg hx, if_pos (h.resolve_left hx)]; rfl
theorem copy_inv {σ T T' : ST} {d e i j n : Nat} (hI : INV σ T) (hd : d < 8) (he : e < 8) (h2 : σ.1 (20 + 2 * d) 0 = 2) (h2' : σ.1 (20 + 2 * e) 0 = 2) (hs : σ.1 (20 + 2 * d) 5 = σ.1 (20 + 2 * e) 5) (hi : i + n ≤ 100) (hj : j + n ≤ 100) (g1 : T'.1 = T.1) (g2 : ∀ x, T'.2 65 x = if 100 * e + j ≤ x ∧ x < 100 * e + j + n then T.2 65 (100 * d + i + (x - (100 * e + j))) else T.2 65 x) : INV (cpyI σ (21 + 2 * d) (21 + 2 * e) i j n) T' := by
  have hE := hI.sh e he
  obtain ⟨r1, r2, r3, r4, r5, r6⟩ := (hI.sh d hd).r h2
  obtain ⟨q1, q2, q3, q4, q5, q6⟩ := hE.r h2'
  have o : ∀ k b, k ≠ 21 + 2 * e → (cpyI σ (21 + 2 * d) (21 + 2 * e) i j n).1 k b = σ.1 k b := fun k b hk => if_neg hk
  have el : ∀ b, (cpyI σ (21 + 2 * d) (21 + 2 * e) i j n).1 (21 + 2 * e) b = if j ≤ b ∧ b < j + n then σ.1 (21 + 2 * d) (i + (b - j)) else σ.1 (21 + 2 * e) b := fun b => by
    show (if 21 + 2 * e = 21 + 2 * e then va_cpy (σ.1 (21 + 2 * d)) (σ.1 (21 + 2 * e)) i j n b else _) = _
    rw [if_pos rfl]; rfl
  have t : ∀ k b, T'.1 k b = T.1 k b := fun k b => by rw [g1]
  refine INV.shelf hI he (fun k b _ _ h3 => o k b h3) ⟨fun k b _ _ => t k b, fun f b hf hfe hb => by rw [g2, if_neg (by omega)]⟩ ⟨by rw [t, o _ _ (by omega)]; exact hE.h, by rw [o _ _ (by omega)]; exact hE.hr, fun h => ?_, fun _ => ⟨by rw [t, o _ _ (by omega)]; exact q1, by rw [o _ _ (by omega)]; exact q2, by rw [t, o _ _ (by omega)]; exact q3, by rw [o _ _ (by omega)]; exact q4, fun b hb => ?_, fun h0 b hb => ?_⟩⟩
  · rw [o _ _ (by omega), h2'] at h; exact absurd h (by decide)
  · rw [el, g2]
    by_cases h : j ≤ b ∧ b < j + n
    · rw [if_pos (by omega), if_pos h, ← r5 _ (by omega), show 100 * d + i + (100 * e + b - (100 * e + j)) = 100 * d + (i + (b - j)) by omega]
    · rw [if_neg (by omega), if_neg h]; exact q5 b hb
  · rw [o _ _ (by omega)] at h0
    rw [el]
    by_cases h : j ≤ b ∧ b < j + n
    · rw [if_pos h]; exact r6 (hs.trans h0) _ (by omega)
    · rw [if_neg h]; exact q6 h0 b hb
theorem sim_copy (x1 x2 x3 x4 x5 : Int32) : SIM (fX5_copy x1 x2 x3 x4 x5) (fX6_copy x1 x2 x3 x4 x5) := by
  intro σ τ h0
  have hI := h0.r
  have hT := (scr6.r (τ := τ)).fr6
  unfold fX5_copy fX6_copy
  generalize setI τ 36 23 0 = T at *
  have no : ∀ v, ∃ a σ' τ', (some (v, σ) : Option (Int32 × ST)) = some (a, σ') ∧ (some (v, T) : Option (Int32 × ST)) = some (a, τ') ∧ INV σ' τ' ∧ fr5 σ σ' ∧ fr6 τ τ' := fun v => ⟨v, σ, T, rfl, rfl, hI, fr5.rfl, hT⟩
  rcases shelf_c x1 σ T with ⟨a1, a2⟩ | ⟨d, hd, rfl, a1, a2⟩
  · rw [a1, bR_t, a2, bR_t, if_pos rfl]
    rcases shelf_c x3 σ T with ⟨b1, b2⟩ | ⟨e, he, rfl, b1, b2⟩
    · dsimp only
      rw [b1, bR_t]; exact no (-1)
    · dsimp only
      rw [b1, bR_t]; exact no (-1)
  rcases shelf_c x3 σ T with ⟨b1, b2⟩ | ⟨e, he, rfl, b1, b2⟩
  · rw [a1, bR_t, a2, bR_t, if_neg h10, b2, bR_t, if_pos rfl]
    dsimp only
    rw [b1, bR_t]; exact no (-1)
  have hS := hI.sh d hd
  have hE := hI.sh e he
  have id8 : inb (nI d) 8 = true := inb_t hd (by decide)
  have ie8 : inb (nI e) 8 = true := inb_t he (by decide)
  rw [a1, bR_t, a2, bR_t, if_neg h10, b2, bR_t, if_neg h10]
  dsimp only
  rw [b1, bR_t]
  dsimp only
  rw [al_58, al_63, al_64, id8, ie8, nI_clamp (show d < 2 ^ 31 by omega), nI_clamp (show e < 2 ^ 31 by omega), hS.h, hE.h, show 20 + 2 * d + 1 = 21 + 2 * d by omega, show 20 + 2 * e + 1 = 21 + 2 * e by omega]
  simp only [gd_t]
  have z1 : ∀ {x : Int32}, x = 1 → ¬ x = 0 := fun h => by rw [h]; decide
  have z2 : ∀ {x : Int32}, x = 2 → ¬ x = 0 := fun h => by rw [h]; decide
  have z3 : ∀ {x : Int32}, x = 1 → ¬ x = 2 := fun h => by rw [h]; decide
  have m11 : ¬ (-11 : Int32) = 0 := by decide
  have m12 : ¬ (-12 : Int32) = 0 := by decide
  by_cases c1 : σ.1 (20 + 2 * d) 0 = 0
  · have w : fX5_refusalAsRows (20 + 2 * d) (20 + 2 * e) σ = some (-11) := by unfold fX5_refusalAsRows; rw [if_pos c1]; rfl
    rw [w, bR_t, if_neg m11, if_pos c1]; exact no (-11)
  by_cases c2 : σ.1 (20 + 2 * e) 0 = 0
  · have w : fX5_refusalAsRows (20 + 2 * d) (20 + 2 * e) σ = some (-11) := by unfold fX5_refusalAsRows; rw [if_neg c1, if_pos c2]; rfl
    rw [w, bR_t, if_neg m11, if_neg c1, if_pos c2]; exact no (-11)
  by_cases h2 : σ.1 (20 + 2 * d) 0 = 2
  rotate_left
  · have w : fX5_refusalAsRows (20 + 2 * d) (20 + 2 * e) σ = some (-12) := by unfold fX5_refusalAsRows; rw [if_neg c1, if_neg c2, if_neg h2]; rfl
    rw [w, bR_t, if_neg m12, if_neg c1, if_neg c2, if_neg h2]; exact no (-12)
  by_cases h2' : σ.1 (20 + 2 * e) 0 = 2
  rotate_left
  · have w : fX5_refusalAsRows (20 + 2 * d) (20 + 2 * e) σ = some (-12) := by unfold fX5_refusalAsRows; rw [if_neg c1, if_neg c2, if_pos h2, if_neg h2']; rfl
    rw [w, bR_t, if_neg m12, if_neg c1, if_neg c2, if_pos h2, if_neg h2']; exact no (-12)
  have w : fX5_refusalAsRows (20 + 2 * d) (20 + 2 * e) σ = some 0 := by unfold fX5_refusalAsRows; rw [if_neg c1, if_neg c2, if_pos h2, if_pos h2']; rfl
  obtain ⟨r1, r2, r3, r4, r5, r6⟩ := hS.r h2
  obtain ⟨q1, q2, q3, q4, q5, q6⟩ := hE.r h2'
  obtain ⟨s, hs, es⟩ := rg_n (n := 100) (by decide) r4
  obtain ⟨s', hs', es'⟩ := rg_n (n := 100) (by decide) q4
  rw [w, bR_t, if_pos rfl, if_neg c1, if_neg c2, if_pos h2, if_pos h2', r1, q1, r3, q3, es, es']
  by_cases hso : σ.1 (20 + 2 * d) 5 = σ.1 (20 + 2 * e) 5
  rotate_left
  · rw [if_neg hso, if_neg hso]; exact no (-12)
  rw [if_pos hso, if_pos hso]
  by_cases n5 : x5 < 0
  · rw [hasRun_neg σ (Or.inr n5), bR_t, if_pos rfl, if_pos n5]; exact no (-13)
  by_cases n2 : x2 < 0
  · rw [hasRun_neg σ (Or.inl n2), bR_t, if_pos rfl, if_neg n5, if_pos n2]; exact no (-13)
  obtain ⟨n, hn, rfl⟩ := nI_of n5
  obtain ⟨i, hi, rfl⟩ := nI_of n2
  rw [hasRun_t hd hs es hi hn, bR_t, if_neg n5, if_neg n2]
  by_cases l1 : i + n ≤ s
  rotate_left
  · rw [if_neg l1, if_pos rfl]
    by_cases n4 : x4 < 0
    · rw [if_pos n4]; exact no (-13)
    · rw [if_neg n4, if_pos ((run_lt hs hn hi).mpr (by omega))]; exact no (-13)
  rw [if_pos l1, if_neg h10]
  by_cases n4 : x4 < 0
  · rw [hasRun_neg σ (Or.inl n4), bR_t, if_pos rfl, if_pos n4]; exact no (-13)
  obtain ⟨j, hj, rfl⟩ := nI_of n4
  have w1 : ¬ nI s - nI n < nI i := fun q => by have := (run_lt hs hn hi).mp q; omega
  rw [hasRun_t he hs' es' hj hn, bR_t, if_neg n4, if_neg w1]
  by_cases l2 : j + n ≤ s'
  rotate_left
  · have w2 : ¬ nI j ≤ nI s' - nI n := fun q => l2 (by have := (run_le hs' hn hj).mp q; omega)
    rw [if_neg l2, if_pos rfl, if_neg w2]; exact no (-13)
  rw [if_pos l2, if_neg h10, if_pos ((run_le hs' hn hj).mpr (by omega))]
  have ad : alen (21 + 2 * d) = 100 := by rw [show 21 + 2 * d = 20 + 2 * d + 1 by omega]; exact al_el hd
  have ae : alen (21 + 2 * e) = 100 := by rw [show 21 + 2 * e = 20 + 2 * e + 1 by omega]; exact al_el he
  have ok : okCpy (nI i) (nI j) (nI n) 100 100 = true := by
    unfold okCpy
    rw [nI_clamp hi, nI_clamp hj, nI_clamp hn]
    simp only [Bool.and_eq_true, decide_eq_true_eq]
    exact ⟨nI_pos' hi, nI_pos' hj, nI_pos' hn, by omega, by omega⟩
  obtain ⟨T', g1, g2, g3⟩ := cp1 hd he (show i + n ≤ 100 by omega) (show j + n ≤ 100 by omega) T n 0 FU T (by omega) (by unfold FU; omega) rfl (fun c hc => by omega) (fun x => rfl)
  rw [ad, ae, ok, gd_t, nI_clamp hi, nI_clamp hj, nI_clamp hn]
  refine ⟨nI n, cpyI σ (21 + 2 * d) (21 + 2 * e) i j n, T', rfl, g1, copy_inv hI hd he h2 h2' hso (by omega) (by omega) g2 g3, ⟨fun k b hk => if_neg (by omega), rfl⟩, fun k b hk => ?_⟩
  rw [g2]; exact hT k b hk
