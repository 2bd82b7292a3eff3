theorem sub_t {s a : Nat} (hs : s ≤ 100) (ha : a < 2 ^ 31) : (nI s - nI a).toInt = (s : Int) - a := by
  rw [Int32.toInt_sub, nI_toInt (by omega), nI_toInt ha]
  exact Int.bmod_eq_of_le (by omega) (by omega)
theorem run_lt {s a b : Nat} (hs : s ≤ 100) (ha : a < 2 ^ 31) (hb : b < 2 ^ 31) : nI s - nI a < nI b ↔ s < a + b := by
  rw [Int32.lt_iff_toInt_lt, sub_t hs ha, nI_toInt hb]; omega
theorem run_le {s a b : Nat} (hs : s ≤ 100) (ha : a < 2 ^ 31) (hb : b < 2 ^ 31) : nI b ≤ nI s - nI a ↔ a + b ≤ s := by
  rw [Int32.le_iff_toInt_le, sub_t hs ha, nI_toInt hb]; omega
theorem hasRun_t {d s a b : Nat} {σ : ST} (hd : d < 8) (hs : s ≤ 100) (e : σ.1 (20 + 2 * d) 6 = nI s) (ha : a < 2 ^ 31) (hb : b < 2 ^ 31) : fX3_hasRun (20 + 2 * d) (nI a) (nI b) σ = some (if a + b ≤ s then 1 else 0) := by
  unfold fX3_hasRun fX3_hasRun_33
  rw [e, al_el hd, if_neg (nI_pos ha), if_neg (nI_pos hb)]
  by_cases h : s < a + b
  · rw [if_pos ((run_lt hs ha hb).mpr h), if_neg (by omega)]; rfl
  · rw [if_neg (fun q => h ((run_lt hs ha hb).mp q)), if_neg (show ¬ Int32.ofNat 100 - nI a < nI b from fun q => by have := (run_lt (s := 100) (by omega) ha hb).mp q; omega), if_pos (by omega)]; rfl
theorem cp2 {e j n : Nat} (he : e < 8) (hj : j + n ≤ 100) (T : ST) : ∀ m k f (τ : ST), k + m = n → m < f → τ.1 = T.1 → (∀ c, c < n → τ.2 66 c = T.2 66 c) → (∀ x, τ.2 65 x = if 100 * e + j ≤ x ∧ x < 100 * e + j + k then T.2 66 (x - (100 * e + j)) else T.2 65 x) → ∃ τ', fX6_copy_174 f (nI e) (nI j) (nI n) (nI k) τ = some (nI n, τ') ∧ τ'.1 = T.1 ∧ ∀ x, τ'.2 65 x = if 100 * e + j ≤ x ∧ x < 100 * e + j + n then T.2 66 (x - (100 * e + j)) else T.2 65 x
  | 0, k, f + 1, τ, hk, _, h1, h2, h3 => by
    have : k = n := by omega
    subst this
    exact ⟨τ, by rw [fX6_copy_174, if_pos (nI_le (Nat.le_refl _) (by omega))], h1, h3⟩
  | m + 1, k, f + 1, τ, hk, hf, h1, h2, h3 => by
    have ix : 100 * nI e + nI j + nI k = nI (100 * e + j + k) := by rw [show (100 : Int32) = nI 100 from rfl, pk_mul, nI_add, nI_add]
    obtain ⟨τ', g1, g2, g3⟩ := cp2 he hj T m (k + 1) f (setL τ 65 (100 * e + j + k) (τ.2 66 k)) (by omega) (by omega) h1 (fun c hc => by rw [lg, if_neg (by omega)]; exact h2 c hc) (fun x => by
      rw [lg]
      by_cases q : x = 100 * e + j + k
      · rw [if_pos ⟨rfl, q⟩, if_pos (by omega), h2 k (by omega), show x - (100 * e + j) = k by omega]
      · rw [if_neg (fun w => q w.2), h3]
        by_cases q2 : 100 * e + j ≤ x ∧ x < 100 * e + j + k
        · rw [if_pos q2, if_pos (by omega)]
        · rw [if_neg q2, if_neg (by omega)])
    refine ⟨τ', ?_, g2, g3⟩
    rw [fX6_copy_174, if_neg (nI_ge (show k < n by omega) (by omega)), al_66, inb_t (show k < 100 by omega) (by decide), gd_t, al_65, ix, inb_t (show 100 * e + j + k < 800 by omega) (by decide), gd_t, nI_clamp (by omega), nI_clamp (by omega), nI_1]
    exact g1
theorem cp1 {d e i j n : Nat} (hd : d < 8) (he : e < 8) (hi : i + n ≤ 100) (hj : j + n ≤ 100) (T : ST) : ∀ m k f (τ : ST), k + m = n → m < f → τ.1 = T.1 → (∀ c, c < k → τ.2 66 c = T.2 65 (100 * d + i + c)) → (∀ x, τ.2 65 x = T.2 65 x) → ∃ τ', fX6_copy_137 f (nI d) (nI i) (nI e) (nI j) (nI n) (nI k) τ = some (nI n, τ') ∧ τ'.1 = T.1 ∧ ∀ x, τ'.2 65 x = if 100 * e + j ≤ x ∧ x < 100 * e + j + n then T.2 65 (100 * d + i + (x - (100 * e + j))) else T.2 65 x
  | 0, k, f + 1, τ, hk, _, h1, h2, h3 => by
    have : k = n := by omega
    subst this
    obtain ⟨τ', g1, g2, g3⟩ := cp2 he hj τ k 0 FU τ (by omega) (by unfold FU; omega) rfl (fun _ _ => rfl) (fun x => by rw [if_neg (by omega)])
    refine ⟨τ', by rw [fX6_copy_137, if_pos (nI_le (Nat.le_refl _) (by omega))]; exact g1, g2.trans h1, fun x => ?_⟩
    rw [g3]
    by_cases q : 100 * e + j ≤ x ∧ x < 100 * e + j + k
    · rw [if_pos q, if_pos q, h2 _ (by omega)]
    · rw [if_neg q, if_neg q, h3]
  | m + 1, k, f + 1, τ, hk, hf, h1, h2, h3 => by
    have ix : 100 * nI d + nI i + nI k = nI (100 * d + i + k) := by rw [show (100 : Int32) = nI 100 from rfl, pk_mul, nI_add, nI_add]
    obtain ⟨τ', g1, g2, g3⟩ := cp1 hd he hi hj T m (k + 1) f (setL τ 66 k (τ.2 65 (100 * d + i + k))) (by omega) (by omega) h1 (fun c hc => by
      rw [lg]
      by_cases q : c = k
      · rw [if_pos ⟨rfl, q⟩, h3, q]
      · rw [if_neg (fun w => q w.2)]; exact h2 c (by omega)) (fun x => by rw [lg, if_neg (by omega)]; exact h3 x)
    refine ⟨τ', ?_, g2, g3⟩
    rw [fX6_copy_137, if_neg (nI_ge (show k < n by omega) (by omega)), al_65, ix, inb_t (show 100 * d + i + k < 800 by omega) (by decide), gd_t, al_66, inb_t (show k < 100 by omega) (by decide), gd_t, nI_clamp (by omega), nI_clamp (by omega), nI_1]
    exact g1
