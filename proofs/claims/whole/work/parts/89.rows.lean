/-- a row of n numbers on shelf d, on both sides -/
abbrev RW (d n : Nat) (σ τ : ST) : Prop := d < 8 ∧ n ≤ 100 ∧ σ.1 (20 + 2 * d) 6 = nI n ∧ τ.1 64 d = nI n ∧ ∀ i, i < 100 → τ.2 65 (100 * d + i) = (σ.1 (21 + 2 * d) i).toInt64
theorem SH.rw {d : Nat} {σ τ : ST} (h : SH d σ τ) (hd : d < 8) (h2 : σ.1 (20 + 2 * d) 0 = 2) : ∃ n, RW d n σ τ := by
  obtain ⟨r1, r2, r3, r4, r5, r6⟩ := h.r h2
  obtain ⟨n, hn, en⟩ := rg_n (n := 100) (by decide) r4
  exact ⟨n, hd, hn, en, r3.trans en, r5⟩
theorem are_0 {d n : Nat} {σ T : ST} (h : RW d n σ T) : ∀ m i f, i + m = n → m < f → fX6_areSendings_17 T f (nI d) 0 (nI i) = some 0
  | 0, i, f + 1, hi, _ => by
    obtain ⟨hd, hn, h1, h2, h3⟩ := h
    rw [fX6_areSendings_17, al_64, inb_t hd (by decide), gd_t, nI_clamp (by omega), h2, if_pos (nI_le (by omega) (by omega))]
    rfl
  | m + 1, i, f + 1, hi, hf => by
    have ih := are_0 h m (i + 1) f (by omega) (by omega)
    obtain ⟨hd, hn, h1, h2, h3⟩ := h
    rw [fX6_areSendings_17, al_64, inb_t hd (by decide), gd_t, nI_clamp (by omega), h2, if_neg (nI_ge (by omega) (by omega)), if_pos rfl]
    unfold fX6_areSendings_58 fX6_areSendings_59
    rw [nI_1]; exact ih
theorem are_1 {d n : Nat} {σ T : ST} (h : RW d n σ T) (h0 : 0 < n) : ∀ m i f f', i + m = n → m < f → m < f' → ∃ v, fX3_isOfSendings_2 σ f (20 + 2 * d) (T.1 36 0) (nI i) = some v ∧ fX6_areSendings_17 T f' (nI d) 1 (nI i) = some v
  | 0, i, f + 1, f' + 1, hi, _, _ => by
    obtain ⟨hd, hn, h1, h2, h3⟩ := h
    refine ⟨1, ?_, ?_⟩
    · rw [fX3_isOfSendings_2, h1, if_pos (nI_le (by omega) (by omega)), if_neg (nI_nle h0 (by omega))]; rfl
    · rw [fX6_areSendings_17, al_64, inb_t hd (by decide), gd_t, nI_clamp (by omega), h2, if_pos (nI_le (by omega) (by omega))]
      rfl
  | m + 1, i, f + 1, f' + 1, hi, hf, hf' => by
    obtain ⟨v, g1, g2⟩ := are_1 h h0 m (i + 1) f f' (by omega) (by omega) (by omega)
    have z := are_0 h m (i + 1) f' (by omega) (by omega)
    obtain ⟨hd, hn, h1, h2, h3⟩ := h
    obtain ⟨j1, j2⟩ := ix800 hd (show i < 100 by omega)
    have e3 : fX6_in (σ.1 (21 + 2 * d) i).toInt64 0 (T.1 36 0).toInt64 T = some (if 0 ≤ σ.1 (21 + 2 * d) i ∧ σ.1 (21 + 2 * d) i ≤ T.1 36 0 then 1 else 0) := in_i _ 0 (T.1 36 0) T
    rw [fX3_isOfSendings_2, h1, if_neg (nI_ge (show i < n by omega) (by omega)), read_el hd hn h1 (by omega), bR_t, fX6_areSendings_17, al_64, inb_t hd (by decide), gd_t, nI_clamp (by omega), h2, if_neg (nI_ge (show i < n by omega) (by omega)), if_neg h10, al_65, j1, gd_t, j2, h3 i (by omega)]
    unfold fX6_areSendings_58 fX6_areSendings_59 fX3_isOfSendings_25
    rw [nI_1]
    by_cases a : σ.1 (21 + 2 * d) i < 0
    · rw [if_neg (fun hh => absurd a (Int32.not_lt.mpr hh.1))] at e3
      exact ⟨0, by rw [if_pos a], by rw [e3, bR_t, if_pos rfl]; exact z⟩
    by_cases b : σ.1 (21 + 2 * d) i ≤ T.1 36 0
    · rw [if_pos ⟨Int32.not_lt.mp a, b⟩] at e3
      exact ⟨v, by rw [if_neg a, if_pos b]; exact g1, by rw [e3, bR_t, if_neg h10]; exact g2⟩
    · rw [if_neg (fun hh => b hh.2)] at e3
      exact ⟨0, by rw [if_neg a, if_neg b], by rw [e3, bR_t, if_pos rfl]; exact z⟩
theorem are_c {d n : Nat} {σ T : ST} (h : RW d n σ T) : ∃ v, fX3_isOfSendings (20 + 2 * d) (T.1 36 0) σ = some v ∧ fX6_areSendings (nI d) T = some v := by
  have hd := h.1
  have hn := h.2.1
  unfold fX3_isOfSendings fX6_areSendings fX6_areSendings_14
  rw [al_64, inb_t hd (by decide), gd_t, nI_clamp (by omega), h.2.2.2.1]
  by_cases h0 : 0 < n
  · rw [if_neg (nI_nle h0 (by omega))]
    exact are_1 h h0 n 0 FU FU (by omega) (by unfold FU; omega) (by unfold FU; omega)
  · have : n = 0 := by omega
    subst this
    refine ⟨0, ?_, ?_⟩
    · rw [show FU = 3999 + 1 from rfl, fX3_isOfSendings_2, h.2.2.1, if_pos (show nI 0 ≤ 0 by decide), if_pos (show nI 0 ≤ 0 by decide)]; rfl
    · rw [if_pos (show nI 0 ≤ 0 by decide)]
      exact are_0 h 0 0 FU (by omega) (by unfold FU; omega)
theorem sum_loop {d n : Nat} {σ T : ST} (h : RW d n σ T) : ∀ m i f f' acc, i + m = n → m < f → m < f' → ∃ v, fX3_sum_4 σ f (20 + 2 * d) acc (nI i) = some v ∧ fX6_sumOf_4 T f' (nI d) acc (nI i) = some v
  | 0, i, f + 1, f' + 1, acc, hi, _, _ => by
    obtain ⟨hd, hn, h1, h2, h3⟩ := h
    refine ⟨acc, ?_, ?_⟩
    · rw [fX3_sum_4, h1, if_pos (nI_le (by omega) (by omega))]
    · rw [fX6_sumOf_4, al_64, inb_t hd (by decide), gd_t, nI_clamp (by omega), h2, if_pos (nI_le (by omega) (by omega))]
  | m + 1, i, f + 1, f' + 1, acc, hi, hf, hf' => by
    obtain ⟨v, g1, g2⟩ := sum_loop h m (i + 1) f f' (acc + σ.1 (21 + 2 * d) i) (by omega) (by omega) (by omega)
    obtain ⟨hd, hn, h1, h2, h3⟩ := h
    obtain ⟨j1, j2⟩ := ix800 hd (show i < 100 by omega)
    refine ⟨v, ?_, ?_⟩
    · rw [fX3_sum_4, h1, if_neg (nI_ge (show i < n by omega) (by omega)), read_el hd hn h1 (by omega), bR_t, nI_1]; exact g1
    · rw [fX6_sumOf_4, al_64, inb_t hd (by decide), gd_t, nI_clamp (by omega), h2, if_neg (nI_ge (show i < n by omega) (by omega)), al_65, j1, gd_t, j2, h3 i (by omega), Int32.toInt32_toInt64, nI_1]; exact g2
/-- the refusals of two rows -/
theorem two_c (x1 x2 : Int32) {σ T : ST} (hI : INV σ T) : (∃ o1 o2, fX5_shelfAt x1 σ = some o1 ∧ fX5_shelfAt x2 σ = some o2 ∧ (o1 = none ∨ o2 = none) ∧ fX6_wrongTwo x1 x2 T = some (-1)) ∨ ∃ d e, d < 8 ∧ e < 8 ∧ x1 = nI d ∧ x2 = nI e ∧ fX5_shelfAt x1 σ = some (some (20 + 2 * d)) ∧ fX5_shelfAt x2 σ = some (some (20 + 2 * e)) ∧
    ((∃ v, (v = -11 ∨ v = -12) ∧ fX5_refusalAsRows (20 + 2 * d) (20 + 2 * e) σ = some v ∧ fX6_wrongTwo x1 x2 T = some v) ∨ (σ.1 (20 + 2 * d) 0 = 2 ∧ σ.1 (20 + 2 * e) 0 = 2 ∧ fX5_refusalAsRows (20 + 2 * d) (20 + 2 * e) σ = some 0 ∧ fX6_wrongTwo x1 x2 T = some 0)) := by
  unfold fX6_wrongTwo fX6_wrongTwo_24
  rcases shelf_c x1 σ T with ⟨a1, a2⟩ | ⟨d, hd, rfl, a1, a2⟩
  · rcases shelf_c x2 σ T with ⟨b1, b2⟩ | ⟨e, he, rfl, b1, b2⟩
    · exact Or.inl ⟨_, _, a1, b1, Or.inl rfl, by rw [a2]; rfl⟩
    · exact Or.inl ⟨_, _, a1, b1, Or.inl rfl, by rw [a2]; rfl⟩
  rcases shelf_c x2 σ T with ⟨b1, b2⟩ | ⟨e, he, rfl, b1, b2⟩
  · exact Or.inl ⟨_, _, a1, b1, Or.inr rfl, by rw [a2, bR_t, if_neg h10, b2]; rfl⟩
  refine Or.inr ⟨d, e, hd, he, rfl, rfl, a1, b1, ?_⟩
  have hS := hI.sh d hd
  have hS2 := hI.sh e he
  unfold fX5_refusalAsRows
  rw [a2, bR_t, if_neg h10, b2, bR_t, if_neg h10, al_58, inb_t hd (by decide), inb_t he (by decide), gd_t, gd_t, gd_t, gd_t, nI_clamp (by omega), nI_clamp (by omega), hS.h, hS2.h]
  have n02 : ¬ (2 : Int32) = 0 := by decide
  have n12 : ¬ (1 : Int32) = 2 := by decide
  rcases hS.hr with h | h | h
  · exact Or.inl ⟨-11, Or.inl rfl, by rw [if_pos h]; rfl, by rw [if_pos h]; rfl⟩
  · rcases hS2.hr with g | g | g
    · exact Or.inl ⟨-11, Or.inl rfl, by rw [h, if_neg h10, if_pos g]; rfl, by rw [h, if_neg h10, if_pos g]; rfl⟩
    · exact Or.inl ⟨-12, Or.inr rfl, by rw [h, g, if_neg h10, if_neg h10, if_neg n12]; rfl, by rw [h, g, if_neg h10, if_neg h10, if_neg n12]; rfl⟩
    · exact Or.inl ⟨-12, Or.inr rfl, by rw [h, g, if_neg h10, if_neg n02, if_neg n12]; rfl, by rw [h, g, if_neg h10, if_neg n02, if_neg n12]; rfl⟩
  · rcases hS2.hr with g | g | g
    · exact Or.inl ⟨-11, Or.inl rfl, by rw [h, if_neg n02, if_pos g]; rfl, by rw [h, if_neg n02, if_pos g]; rfl⟩
    · exact Or.inl ⟨-12, Or.inr rfl, by rw [h, g, if_neg n02, if_neg h10, if_pos rfl, if_neg n12]; rfl, by rw [h, g, if_neg n02, if_neg h10, if_pos rfl, if_neg n12]; rfl⟩
    · exact Or.inr ⟨h, g, by rw [h, g, if_neg n02, if_neg n02, if_pos rfl, if_pos rfl]; rfl, by rw [h, g, if_neg n02, if_neg n02, if_pos rfl, if_pos rfl]; rfl⟩
