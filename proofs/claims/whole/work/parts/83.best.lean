/-- what the sender has by n coins -/
def hsV (co ti bx sh le n : Int32) : Int32 := if bx = 0 then (co - n) + (if n * ti = 0 then 0 else if le ≤ n * ti then (n * ti * sh) / 100 else 0) else 100 * (co - n) + (if le ≤ n * ti then sh * (n * ti) else 0)
theorem hs5 (n : Int32) (σ : ST) (hb : σ.1 3 6 = 0 ∨ σ.1 3 6 = 1) : fX1_senderHasBy n σ = some (hsV (σ.1 3 0) (σ.1 3 1) (σ.1 3 6) (σ.1 3 7) (σ.1 3 8) n, σ) := by
  unfold fX1_senderHasBy hsV
  rcases hb with hb | hb
  · rw [if_pos hb, if_pos hb, back5, bI_t]
    have e : bkZ (σ.1 3 2) (σ.1 3 6) (σ.1 3 8) (n * σ.1 3 1) = σ.1 3 2 := by
      unfold bkZ
      rw [hb, if_neg (show ¬ (0 : Int32) = 1 by decide), ite_self, ite_self]
    rw [e, set_self]
    unfold bkV
    rw [hb, if_neg (show ¬ (0 : Int32) = 1 by decide), if_pos rfl]
  · have hb' : ¬ σ.1 3 6 = 0 := by rw [hb]; decide
    rw [if_neg hb', if_neg hb']
    by_cases h : σ.1 3 8 ≤ n * σ.1 3 1
    · rw [if_pos h, if_pos h]; rfl
    · rw [if_neg h, if_neg h]; rfl
theorem hs6 {T : ST} {r n t : Nat} {x2 bst mst : Int32} {f : Nat} (hr : r < 8) (hn : n ≤ 20) (ht : t ≤ 5) (hc : nI n ≤ T.1 36 0) (ht1 : T.1 36 1 = nI t) (hb : T.1 40 r = 0 ∨ T.1 40 r = 1) :
    fX6_best_33 (f + 1) (nI r) x2 bst mst (nI n) T = (if hsV (T.1 36 0) (T.1 36 1) (T.1 40 r) (T.1 41 r) (T.1 42 r) (nI n) ≤ mst then fX6_best_33 f (nI r) x2 bst mst (nI (n + 1)) T else fX6_best_33 f (nI r) x2 (nI n) (hsV (T.1 36 0) (T.1 36 1) (T.1 40 r) (T.1 41 r) (T.1 42 r) (nI n)) (nI (n + 1)) T) := by
  have i8 : inb (nI r) 8 = true := inb_t hr (by decide)
  have hA : n * t ≤ 100 := Nat.le_trans (Nat.mul_le_mul hn ht) (by omega)
  have fin : ∀ has, fX6_best_121 (fX6_best_33 f) (nI r) x2 bst mst (nI n) has T = (if has ≤ mst then fX6_best_33 f (nI r) x2 bst mst (nI (n + 1)) T else fX6_best_33 f (nI r) x2 (nI n) has (nI (n + 1)) T) := fun has => by
    unfold fX6_best_121 fX6_best_136 fX6_best_151
    rw [nI_1]
    by_cases h : has ≤ mst
    · rw [if_pos h, if_pos h, if_pos h]
    · rw [if_neg h, if_neg h, if_neg h]
  have go : ∀ mean, (T.1 40 r = 0 → (T.1 36 0 - nI n) + mean / 100 = hsV (T.1 36 0) (T.1 36 1) (T.1 40 r) (T.1 41 r) (T.1 42 r) (nI n)) → (T.1 40 r = 1 → 100 * (T.1 36 0 - nI n) + mean = hsV (T.1 36 0) (T.1 36 1) (T.1 40 r) (T.1 41 r) (T.1 42 r) (nI n)) → fX6_best_80 (fX6_best_33 f) (nI r) x2 bst mst (nI n) mean T = (if hsV (T.1 36 0) (T.1 36 1) (T.1 40 r) (T.1 41 r) (T.1 42 r) (nI n) ≤ mst then fX6_best_33 f (nI r) x2 bst mst (nI (n + 1)) T else fX6_best_33 f (nI r) x2 (nI n) (hsV (T.1 36 0) (T.1 36 1) (T.1 40 r) (T.1 41 r) (T.1 42 r) (nI n)) (nI (n + 1)) T) := fun mean g0 g1 => by
    unfold fX6_best_80
    rw [al_40, i8, gd_t, nI_clamp (by omega)]
    rcases hb with hb | hb
    · rw [if_neg (by rw [hb]; decide), fin, g0 hb]
    · rw [if_pos hb, fin, g1 hb]
  rw [fX6_best_33, if_neg (Int32.not_lt.mpr hc)]
  unfold fX6_best_79
  have eA : nI n * T.1 36 1 = nI (n * t) := by rw [ht1, pk_mul]
  rw [eA]
  by_cases h0 : n * t = 0
  · rw [h0, if_pos (show nI 0 ≤ 0 by decide)]
    refine go 0 (fun h => ?_) (fun h => ?_)
    · unfold hsV
      rw [if_pos h, eA, h0, if_pos nI_0]; rfl
    · unfold hsV
      rw [if_neg (by rw [h]; decide), eA, h0, show nI 0 = 0 from rfl, Int32.mul_zero, ite_self]
  · rw [if_neg (nI_nle (by omega) (by omega)), al_42, i8, gd_t, nI_clamp (by omega)]
    by_cases h1 : nI (n * t) < T.1 42 r
    · rw [if_pos h1]
      refine go 0 (fun h => ?_) (fun h => ?_)
      · unfold hsV
        rw [if_pos h, eA, if_neg (nI_ne0 (by omega) (by omega)), if_neg (Int32.not_le.mpr h1)]; rfl
      · unfold hsV
        rw [if_neg (by rw [h]; decide), eA, if_neg (Int32.not_le.mpr h1)]
    · rw [if_neg h1, al_41, i8, gd_t]
      refine go _ (fun h => ?_) (fun h => ?_)
      · unfold hsV
        rw [if_pos h, eA, if_neg (nI_ne0 (by omega) (by omega)), if_pos (Int32.not_lt.mp h1), Int32.mul_comm]
      · unfold hsV
        rw [if_neg (by rw [h]; decide), eA, if_pos (Int32.not_lt.mp h1)]
theorem best_loop {σ1 T : ST} {r c t : Nat} {x2 : Int32} (hr : r < 8) (hc : c ≤ 20) (ht : t ≤ 5) (e0 : T.1 36 0 = nI c) (e1 : T.1 36 1 = nI t) (hb : T.1 40 r = 0 ∨ T.1 40 r = 1)
    (k0 : σ1.1 3 0 = T.1 36 0) (k00 : σ1.1 1 0 = T.1 36 0) (k1 : σ1.1 3 1 = T.1 36 1) (k6 : σ1.1 3 6 = T.1 40 r) (k7 : σ1.1 3 7 = T.1 41 r) (k8 : σ1.1 3 8 = T.1 42 r) :
    ∀ d n f f' bst mst, n + d = c + 1 → d < f → d < f' → ∃ v, fX5_best_45 f x2 bst mst (nI n) σ1 = some (v, σ1) ∧ fX6_best_33 f' (nI r) x2 bst mst (nI n) T = some (v, T) := by
  intro d
  induction d with
  | zero =>
    intro n f f' bst mst hn hf hf'
    match f, f', hf, hf' with
    | f + 1, f' + 1, _, _ =>
      rw [fX5_best_45, fX6_best_33, k00, e0, if_pos (nI_lt (show c < n by omega) (by omega)), if_pos (nI_lt (show c < n by omega) (by omega))]
      by_cases h : x2 = 0
      · rw [if_pos h, if_pos h]; exact ⟨bst, rfl, rfl⟩
      · rw [if_neg h, if_neg h]; exact ⟨mst, rfl, rfl⟩
  | succ d ih =>
    intro n f f' bst mst hn hf hf'
    match f, f', hf, hf' with
    | f + 1, f' + 1, hf, hf' =>
      have hle : nI n ≤ T.1 36 0 := by rw [e0]; exact nI_le (by omega) (by omega)
      rw [fX5_best_45, k00, if_neg (Int32.not_lt.mpr hle), hs5 _ _ (by rw [k6]; exact hb), bI_t, k0, k1, k6, k7, k8, hs6 hr (by omega) ht hle e1 hb]
      unfold fX5_best_82
      rw [nI_1]
      by_cases h : hsV (T.1 36 0) (T.1 36 1) (T.1 40 r) (T.1 41 r) (T.1 42 r) (nI n) ≤ mst
      · rw [if_pos h, if_pos h]; exact ih (n + 1) f f' _ _ (by omega) (by omega) (by omega)
      · rw [if_neg h, if_neg h]; exact ih (n + 1) f f' _ _ (by omega) (by omega) (by omega)
theorem hs_0 {c : Nat} (hc : c ≤ 20) {ti bx sh le : Int32} : ¬ hsV (nI c) ti bx sh le 0 ≤ -1 := by
  unfold hsV
  rw [Int32.zero_mul, Int32.mul_zero, ite_self, if_pos rfl, Int32.add_zero, Int32.add_zero]
  split
  · exact (show ∀ c, c ≤ 20 → ¬ nI c - 0 ≤ -1 by decide +kernel) c hc
  · exact (show ∀ c, c ≤ 20 → ¬ 100 * (nI c - 0) ≤ -1 by decide +kernel) c hc
theorem sim_best (x1 x2 : Int32) : SIMs (fX5_best x1 x2) (fX6_best x1 x2) := by
  intro σ τ h0
  have hI := h0.r
  have hT := scr6.r (τ := τ)
  unfold fX5_best fX6_best fX6_best_23 fX5_best_23
  generalize setI τ 36 23 0 = T at *
  obtain ⟨ns, nr, np, R⟩ := hI.g
  have hr8 := R.hr
  have no : ∃ a σ' τ', (some (-1, σ) : Option (Int32 × ST)) = some (a, σ') ∧ (some (-1, T) : Option (Int32 × ST)) = some (a, τ') ∧ scr5 σ σ' ∧ scr6 τ τ' := ⟨-1, σ, T, rfl, rfl, scr5.rfl, hT⟩
  have e3 : fX6_in x2.toInt64 0 1 T = some (if 0 ≤ x2 ∧ x2 ≤ 1 then 1 else 0) := in_i x2 0 1 T
  rcases isR2 R x1 with ⟨a1, a2⟩ | ⟨r, hr, rfl, a1, a2⟩
  · rw [a1, bR_t, if_pos rfl, a2, bR_t, if_pos rfl]; exact no
  rw [a1, bR_t, if_neg h10, a2, bR_t, if_neg h10]
  by_cases h4 : x2 < 0
  · rw [if_neg (fun h => absurd h4 (Int32.not_lt.mpr h.1))] at e3
    rw [if_pos h4, e3, bR_t, if_pos rfl]; exact no
  by_cases h5 : x2 ≤ 1
  · rw [if_pos ⟨Int32.not_lt.mp h4, h5⟩] at e3
    rw [if_neg h4, if_pos h5, e3, bR_t, if_neg h10]
    obtain ⟨σ1, b1, m1, ⟨q1, q2, q3⟩, ⟨d1, d2, d3, d4, d5⟩, o⟩ := bringR hI.c R.xr R.hr hr
    obtain ⟨u1, u2, u3, u4, u5⟩ := R.r r hr
    obtain ⟨v1, v2, v3, v4, v5⟩ := R.rr r hr
    obtain ⟨c, hc1, hc, ec⟩ := rg1 (n := 20) (by decide) R.rc
    obtain ⟨t, ht1, ht, et⟩ := rg1 (n := 5) (by decide) R.rt
    have w1 : T.1 40 r = σ1.1 3 6 := u1.trans d1.symm
    have w2 : T.1 41 r = σ1.1 3 7 := u2.trans d2.symm
    have w3 : T.1 42 r = σ1.1 3 8 := u3.trans d3.symm
    have y0 : T.1 36 0 = σ1.1 3 0 := (show T.1 36 0 = σ.1 1 0 from R.c0).trans q1.symm
    have y1 : T.1 36 1 = σ1.1 3 1 := (show T.1 36 1 = σ.1 1 1 from R.c1).trans q2.symm
    have z0 : T.1 36 0 = nI c := (show T.1 36 0 = σ.1 1 0 from R.c0).trans ec
    have z1 : T.1 36 1 = nI t := (show T.1 36 1 = σ.1 1 1 from R.c1).trans et
    have z2 : σ1.1 1 0 = T.1 36 0 := (m1.1 1 0 (by omega)).trans (show T.1 36 0 = σ.1 1 0 from R.c0).symm
    have hb : T.1 40 r = 0 ∨ T.1 40 r = 1 := by
      obtain ⟨b, hb, eb⟩ := rg_n (n := 1) (by decide) v1
      have eb' : T.1 40 r = nI b := u1.trans eb
      match b, hb with
      | 0, _ => exact Or.inl eb'
      | 1, _ => exact Or.inr eb'
    obtain ⟨v, g1, g2⟩ := best_loop (x2 := x2) (show r < 8 by omega) hc ht z0 z1 hb y0.symm z2 y1.symm w1.symm w2.symm w3.symm c 1 FU 3999 0 (hsV (T.1 36 0) (T.1 36 1) (T.1 40 r) (T.1 41 r) (T.1 42 r) 0) (by omega) (by unfold FU; omega) (by omega)
    refine ⟨v, σ1, T, ?_, ?_, m1.scr, hT⟩
    · rw [b1, bR_t, hs5 _ _ (by rw [← w1]; exact hb), bI_t, ← y0, ← y1, ← w1, ← w2, ← w3]
      exact g1
    · have hle : nI 0 ≤ T.1 36 0 := by rw [z0]; exact nI_le (by omega) (by omega)
      rw [show FU = 3999 + 1 from rfl]
      have := hs6 (f := 3999) (x2 := x2) (bst := 0) (mst := -1) (n := 0) (show r < 8 by omega) (by omega) ht hle z1 hb
      refine Eq.trans this ?_
      have hn : ¬ hsV (T.1 36 0) (T.1 36 1) (T.1 40 r) (T.1 41 r) (T.1 42 r) (nI 0) ≤ -1 := by rw [z0]; exact hs_0 hc
      rw [if_neg hn]
      exact g2
  · rw [if_neg (fun h => h5 h.2)] at e3
    rw [if_neg h4, if_neg h5, e3, bR_t, if_pos rfl]; exact no
