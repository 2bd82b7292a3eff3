theorem bytes_and : ∀ k, k < 256 → ((nI k - 128) &&& 255 = nI k - 128 ∧ 0 ≤ nI k - 128) ∨ (nI k - 128 < 0 ∧ 127 < (nI k - 128) &&& 255) := by decide +kernel
theorem byte_and {v : Int32} (h : rg v (-128) 127) : (v &&& 255 = v ∧ 0 ≤ v) ∨ (v < 0 ∧ 127 < v &&& 255) := by
  have h1 := Int32.le_iff_toInt_le.mp h.1
  have h2 := Int32.le_iff_toInt_le.mp h.2
  rw [show (-128 : Int32).toInt = -128 from rfl] at h1
  rw [show (127 : Int32).toInt = 127 from rfl] at h2
  have e : v = nI (v.toInt + 128).toNat - 128 := by
    apply Int32.toInt_inj.mp
    have hn : ((v.toInt + 128).toNat : Int) = v.toInt + 128 := Int.toNat_of_nonneg (by omega)
    rw [Int32.toInt_sub, nI_toInt (by omega), hn, show (128 : Int32).toInt = 128 from rfl, Int.bmod_eq_of_le (by omega) (by omega)]
    omega
  rw [e]
  exact bytes_and _ (by omega)
/-- the byte at c, as the class reads it, and as the model does -/
def b5 (d n : Nat) (σ : ST) (c : Nat) : Int32 := if c < n then σ.1 (21 + 2 * d) c else 0
def b6 (d n : Nat) (σ : ST) (c : Nat) : Int32 := if c < n then σ.1 (21 + 2 * d) c &&& 255 else -1
/-- both read at c, nothing bad so far -/
abbrev RD (d n c : Nat) (σ τ : ST) : Prop := d < 8 ∧ n ≤ 100 ∧ c ≤ n ∧ σ.1 4 1 = nI c ∧ τ.1 36 26 = nI c ∧ τ.1 36 27 = 0 ∧ τ.1 36 24 = nI (100 * d) ∧ τ.1 36 25 = nI n ∧ σ.1 (20 + 2 * d) 6 = nI n ∧ (∀ i, i < 100 → τ.2 65 (100 * d + i) = (σ.1 (21 + 2 * d) i).toInt64) ∧ (∀ i, i < 100 → rg (σ.1 (21 + 2 * d) i) (-128) 127)
theorem RD.mv {d n c c' : Nat} {σ τ σ' τ' : ST} (h : RD d n c σ τ) (hc : c' ≤ n) (e5 : σ'.1 4 1 = nI c') (e6 : τ'.1 36 26 = nI c') (h5 : ∀ k j, 20 ≤ k → σ'.1 k j = σ.1 k j) (h6 : ∀ j, j = 24 ∨ j = 25 ∨ j = 27 → τ'.1 36 j = τ.1 36 j) (h65 : τ'.2 = τ.2) : RD d n c' σ' τ' := by
  obtain ⟨hd, hn, -, -, -, hb, hba, hen, hs, hr, hg⟩ := h
  exact ⟨hd, hn, hc, e5, e6, (h6 27 (by omega)).trans hb, (h6 24 (by omega)).trans hba, (h6 25 (by omega)).trans hen, (h5 _ _ (by omega)).trans hs, fun i hi => by rw [h65, h5 _ _ (by omega)]; exact hr i hi, fun i hi => by rw [h5 _ _ (by omega)]; exact hg i hi⟩
theorem RD.here5 {d n c : Nat} {σ τ : ST} (h : RD d n c σ τ) : fX3_read (20 + 2 * d) (σ.1 4 1) σ = some (b5 d n σ c) := by
  obtain ⟨hd, hn, hc, e5, -, -, -, -, hs, -, -⟩ := h
  rw [e5]
  unfold b5
  by_cases q : c < n
  · rw [if_pos q]; exact read_el hd hn hs q
  · rw [if_neg q]
    unfold fX3_read
    rcases has_el σ hd hn hs (nI c) with ⟨g, -⟩ | ⟨i, hi, e, -⟩
    · rw [g, bR_t, if_pos rfl]; rfl
    · exact absurd ((nI_eq (by omega) (by omega)).mp e) (by omega)
theorem RD.here6 {d n c : Nat} {σ τ : ST} (h : RD d n c σ τ) : fX6_here τ = some (b6 d n σ c) := by
  obtain ⟨hd, hn, hc, -, e6, -, hba, hen, -, hr, -⟩ := h
  unfold fX6_here fX6_here_34 b6
  rw [e6, hen, hba, nI_add]
  by_cases q : c < n
  · rw [if_pos (nI_lt q (by omega)), if_pos q, al_65, inb_t (show 100 * d + c < 800 by omega) (by decide), gd_t, nI_clamp (by omega), hr c (by omega), Int32.toInt32_toInt64]
  · rw [if_neg (nI_nlt (by omega) (by omega)), if_neg q]
theorem RD.chr {d n c : Nat} {σ τ : ST} (h : RD d n c σ τ) {x : Int32} (h1 : 0 < x) (h2 : x ≤ 127) : (b5 d n σ c = x ∧ b6 d n σ c = x ∧ c < n) ∨ (¬ b5 d n σ c = x ∧ ¬ b6 d n σ c = x) := by
  have hn := h.2.1
  have hg := h.2.2.2.2.2.2.2.2.2.2
  unfold b5 b6
  by_cases q : c < n
  · rw [if_pos q, if_pos q]
    rcases byte_and (hg c (by omega)) with ⟨e, e'⟩ | ⟨e, e'⟩
    · rw [e]
      by_cases w : σ.1 (21 + 2 * d) c = x
      · exact Or.inl ⟨w, w, q⟩
      · exact Or.inr ⟨w, w⟩
    · refine Or.inr ⟨fun w => ?_, fun w => ?_⟩
      · rw [w] at e; exact absurd (Int32.lt_trans e h1) (Int32.lt_irrefl)
      · rw [w] at e'; exact absurd h2 (Int32.not_le.mpr e')
  · rw [if_neg q, if_neg q]
    exact Or.inr ⟨fun w => by rw [← w] at h1; exact absurd h1 (by decide), fun w => by rw [← w] at h1; exact absurd h1 (by decide)⟩
theorem dig_n {v : Int32} (h1 : ¬ v < 48) (h2 : ¬ 57 < v) : ∃ a, a ≤ 9 ∧ v = nI (48 + a) := by
  have h1 := Int32.le_iff_toInt_le.mp (Int32.not_lt.mp h1)
  have h2 := Int32.le_iff_toInt_le.mp (Int32.not_lt.mp h2)
  rw [show (48 : Int32).toInt = 48 from rfl] at h1
  rw [show (57 : Int32).toInt = 57 from rfl] at h2
  refine ⟨(v.toInt - 48).toNat, by omega, Int32.toInt_inj.mp ?_⟩
  rw [nI_toInt (by omega)]
  omega
theorem RD.dig {d n c : Nat} {σ τ : ST} (h : RD d n c σ τ) : (∃ a, a ≤ 9 ∧ b5 d n σ c = nI (48 + a) ∧ b6 d n σ c = nI (48 + a) ∧ c < n ∧ σ.1 (21 + 2 * d) c = nI (48 + a)) ∨ (fX2_digitOf (b5 d n σ c) σ = some (-1) ∧ ¬ (48 ≤ b6 d n σ c ∧ b6 d n σ c ≤ 57)) := by
  have hn := h.2.1
  have hg := h.2.2.2.2.2.2.2.2.2.2
  have no : ∀ v : Int32, (v < 48 ∨ 57 < v) → fX2_digitOf v σ = some (-1) := fun v hv => by
    unfold fX2_digitOf fX2_digitOf_19 fX2_digitOf_20
    by_cases w : v < 48
    · rw [if_pos w]
    · rw [if_neg w, if_pos (hv.resolve_left w)]
  by_cases q : c < n
  · have f5 : b5 d n σ c = σ.1 (21 + 2 * d) c := if_pos q
    have f6 : b6 d n σ c = σ.1 (21 + 2 * d) c &&& 255 := if_pos q
    rw [f5, f6]
    rcases byte_and (hg c (by omega)) with ⟨e, e'⟩ | ⟨e, e'⟩
    · rw [e]
      by_cases w1 : σ.1 (21 + 2 * d) c < 48
      · exact Or.inr ⟨no _ (Or.inl w1), fun w => absurd w.1 (Int32.not_le.mpr w1)⟩
      by_cases w2 : 57 < σ.1 (21 + 2 * d) c
      · exact Or.inr ⟨no _ (Or.inr w2), fun w => absurd w.2 (Int32.not_le.mpr w2)⟩
      obtain ⟨a, ha, ea⟩ := dig_n w1 w2
      exact Or.inl ⟨a, ha, ea, ea, q, ea⟩
    · refine Or.inr ⟨no _ (Or.inl (Int32.lt_trans e (by decide))), fun w => ?_⟩
      exact absurd (Int32.le_trans w.2 (show (57 : Int32) ≤ 127 by decide)) (Int32.not_le.mpr e')
  · have f5 : b5 d n σ c = 0 := if_neg q
    have f6 : b6 d n σ c = -1 := if_neg q
    rw [f5, f6]
    exact Or.inr ⟨no _ (Or.inl (by decide)), by decide⟩
theorem dig5 {a : Nat} (h : a ≤ 9) (σ : ST) : fX2_digitOf (nI (48 + a)) σ = some (nI a) := by
  unfold fX2_digitOf fX2_digitOf_20
  rw [if_neg (show ¬ nI (48 + a) < 48 from nI_nlt (b := 48) (by omega) (by omega)), if_neg (show ¬ 57 < nI (48 + a) from nI_nlt (a := 57) (by omega) (by omega)), show (48 : Int32) = nI 48 from rfl, pk_sub (by omega), show 48 + a - 48 = a by omega]
theorem dig6 {a : Nat} (h : a ≤ 9) (τ : ST) : fX6_in (nI (48 + a)).toInt64 48 57 τ = some 1 := by
  have := in_i (nI (48 + a)) 48 57 τ
  rw [if_pos ⟨nI_le (a := 48) (by omega) (by omega), nI_le (b := 57) (by omega) (by omega)⟩] at this
  exact this
theorem ndig6 {v : Int32} (h : ¬ (48 ≤ v ∧ v ≤ 57)) (τ : ST) : fX6_in v.toInt64 48 57 τ = some 0 := by
  have := in_i v 48 57 τ
  rw [if_neg h] at this
  exact this
/-- where the text goes bad, nothing more is read -/
theorem bad_take {τ : ST} (h : τ.1 36 27 = 1) (x : Int32) : fX6_take x τ = some τ := by
  unfold fX6_take fX6_take_16 fX6_take_21 fX6_take_41
  rw [h, if_neg h10]
  have e : setI τ 36 27 1 = τ := by rw [← h, set_self]
  rw [e, h, if_neg h10, Int32.add_zero, set_self]; rfl
theorem bad_digit {τ : ST} (h : τ.1 36 27 = 1) : fX6_readDigit τ = some (0, τ) := by
  unfold fX6_readDigit fX6_readDigit_25 fX6_readDigit_30
  rw [h, if_neg h10]
  have e : setI τ 36 27 1 = τ := by rw [← h, set_self]
  rw [e, h, if_neg h10]; rfl
theorem bad_number {τ : ST} (h : τ.1 36 27 = 1) : fX6_readNumber τ = some (0, τ) := by
  unfold fX6_readNumber
  rw [bad_digit h, bI_t, show FU = 3999 + 1 from rfl, fX6_readNumber_7, if_neg (by decide), if_pos (by decide)]; rfl
theorem bad_after {τ : ST} (h : τ.1 36 27 = 1) (x : Int32) : fX6_readAfter x τ = some (0, τ) := by
  unfold fX6_readAfter
  rw [h, if_neg h10]; rfl
theorem RD.take {d n c : Nat} {σ τ : ST} (h : RD d n c σ τ) {x : Int32} (h1 : 0 < x) (h2 : x ≤ 127) : (c < n ∧ fX2_takes (20 + 2 * d) x σ = some (1, setI σ 4 1 (nI (c + 1))) ∧ fX6_take x τ = some (setI τ 36 26 (nI (c + 1)))) ∨ (fX2_takes (20 + 2 * d) x σ = some (0, σ) ∧ fX6_take x τ = some (setI τ 36 27 1)) := by
  have hh5 := h.here5
  have hh6 := h.here6
  have e5 : σ.1 4 1 = nI c := h.2.2.2.1
  have e6 : τ.1 36 26 = nI c := h.2.2.2.2.1
  have eb : τ.1 36 27 = 0 := h.2.2.2.2.2.1
  unfold fX2_takes fX6_take
  rw [hh5, bR_t, eb, if_pos rfl, hh6, bR_t]
  rcases h.chr h1 h2 with ⟨w5, w6, hc⟩ | ⟨w5, w6⟩
  · refine Or.inl ⟨hc, by rw [if_pos w5, e5, nI_1], ?_⟩
    rw [if_pos w6]
    unfold fX6_take_21 fX6_take_41
    have e : setI τ 36 27 0 = τ := by rw [← eb, set_self]
    rw [e, eb, if_pos rfl, e6, nI_1]; rfl
  · refine Or.inr ⟨by rw [if_neg w5], ?_⟩
    rw [if_neg w6]
    unfold fX6_take_16 fX6_take_21 fX6_take_41
    have e : (setI τ 36 27 1).1 36 27 = 1 := by rw [sg, if_pos ⟨rfl, rfl⟩]
    rw [e, if_neg h10, Int32.add_zero, set_self]; rfl
theorem RD.digit6 {d n c : Nat} {σ τ : ST} (h : RD d n c σ τ) : (∃ a, a ≤ 9 ∧ c < n ∧ fX3_read (20 + 2 * d) (σ.1 4 1) σ = some (nI (48 + a)) ∧ fX6_readDigit τ = some (nI a, setI τ 36 26 (nI (c + 1)))) ∨ (fX3_read (20 + 2 * d) (σ.1 4 1) σ = some (b5 d n σ c) ∧ fX2_digitOf (b5 d n σ c) σ = some (-1) ∧ fX6_readDigit τ = some (0, setI τ 36 27 1)) := by
  have hh5 := h.here5
  have hh6 := h.here6
  have hD := h.dig
  obtain ⟨hd, hn, hc, e5, e6, eb, hba, hen, hs, hr, hg⟩ := h
  unfold fX6_readDigit
  rw [eb, if_pos rfl, hh6, bR_t, hh5]
  rcases hD with ⟨a, ha, w5, w6, hc', w⟩ | ⟨w5, w6⟩
  · refine Or.inl ⟨a, ha, hc', by rw [w5], ?_⟩
    rw [w6, dig6 ha, bR_t, if_neg h10]
    unfold fX6_readDigit_30
    have e : setI τ 36 27 0 = τ := by rw [← eb, set_self]
    have g24 : (setI τ 36 26 (nI (c + 1))).1 36 24 = nI (100 * d) := by rw [sg, if_neg (by omega)]; exact hba
    have g26 : (setI τ 36 26 (nI (c + 1))).1 36 26 = nI (c + 1) := by rw [sg, if_pos ⟨rfl, rfl⟩]
    rw [e, eb, if_pos rfl, e6, nI_1, g24, g26, nI_add, show 100 * d + (c + 1) = 100 * d + c + 1 by omega, nI_pred, al_65, inb_t (show 100 * d + c < 800 by omega) (by decide), nI_clamp (by omega), s2, hr c (by omega), Int32.toInt32_toInt64, w, show (48 : Int32) = nI 48 from rfl, pk_sub (by omega), show 48 + a - 48 = a by omega]
    rfl
  · refine Or.inr ⟨rfl, w5, ?_⟩
    rw [ndig6 w6, bR_t, if_pos rfl]
    unfold fX6_readDigit_25 fX6_readDigit_30
    have e : (setI τ 36 27 1).1 36 27 = 1 := by rw [sg, if_pos ⟨rfl, rfl⟩]
    rw [e, if_neg h10]; rfl
