theorem num_loop {d n : Nat} (q col : Int32) : ∀ (m t v c f f' : Nat) (σ τ : ST), t + m = 3 → 1 ≤ t → v < 10 ^ t → RD d n c σ τ → m < f → m < f' → ∃ c' v' t', c ≤ c' ∧ c' ≤ n ∧ v' < 1000 ∧ 1 ≤ t' ∧ t' ≤ 3 ∧ fX2_takesNumber_6 f (20 + 2 * d) q col (nI v) (nI t) σ = fX2_takesNumber_71 q col (nI v') (nI t') (setI σ 4 1 (nI c')) ∧ fX6_readNumber_7 f' (nI v) (nI t) τ = some (nI v', setI τ 36 26 (nI c'))
  | m, t, v, c, f + 1, f' + 1, σ, τ, ht, h1, hv, h, hf, hf' => by
    have e5 : σ.1 4 1 = nI c := h.2.2.2.1
    have e6 : τ.1 36 26 = nI c := h.2.2.2.2.1
    have eb : τ.1 36 27 = 0 := h.2.2.2.2.2.1
    have hcn : c ≤ n := h.2.2.1
    have hn : n ≤ 100 := h.2.1
    have s5 : setI σ 4 1 (nI c) = σ := by rw [← e5, set_self]
    have s6 : setI τ 36 26 (nI c) = τ := by rw [← e6, set_self]
    have hle : 10 ^ t ≤ 1000 := Nat.pow_le_pow_right (n := 10) (by omega) (show t ≤ 3 by omega)
    have hv3 : v < 1000 := by omega
    have stop : fX6_readNumber_69 (nI v) τ = some (nI v, setI τ 36 26 (nI c)) := by rw [s6]; rfl
    rw [fX2_takesNumber_6, fX6_readNumber_7]
    by_cases t3 : t = 3
    · subst t3
      rw [if_pos (show 3 ≤ nI 3 by decide), if_pos (show 3 ≤ nI 3 by decide)]
      exact ⟨c, v, 3, Nat.le_refl _, hcn, hv3, h1, by omega, by rw [s5], stop⟩
    have nt : ¬ 3 ≤ nI t := nI_ge (b := 3) (by omega) (by decide)
    rw [if_neg nt, if_neg nt, h.here5, bR_t]
    rcases h.dig with ⟨a, ha, w5, w6, hc', -⟩ | ⟨w5, w6⟩
    · rw [w5, dig5 ha, bR_t, if_neg (nI_pos (by omega)), if_neg (nI_ne0 (show 0 < t by omega) (by omega))]
      by_cases v0 : v = 0
      · subst v0
        rw [if_pos (show nI 0 ≤ 0 by decide), if_pos (show nI 0 ≤ 0 by decide)]
        exact ⟨c, 0, t, Nat.le_refl _, hcn, hv3, h1, by omega, by rw [s5], stop⟩
      · have nv : ¬ nI v ≤ 0 := nI_nle (by omega) (by omega)
        have hv' : 10 * v + a < 10 ^ (t + 1) := by rw [Nat.pow_succ]; omega
        rw [if_neg nv, if_neg nv, eb, if_pos rfl, h.here6, bR_t, w6, dig6 ha, bR_t, if_neg h10, bR_t]
        unfold fX2_takesNumber_36
        rw [h.here5, bR_t, w5, dig5 ha, bR_t, e5, e6, nI_1, nI_1, show (10 : Int32) = nI 10 from rfl, pk_mul, nI_add, nI_add, show (48 : Int32) = nI 48 from rfl, pk_sub (by omega), show 10 * v + (48 + a) - 48 = 10 * v + a by omega]
        have h' : RD d n (c + 1) (setI σ 4 1 (nI (c + 1))) (setI τ 36 26 (nI (c + 1))) := h.mv hc' (by rw [sg, if_pos ⟨rfl, rfl⟩]) (by rw [sg, if_pos ⟨rfl, rfl⟩]) (fun k j hk => by rw [sg, if_neg (by omega)]) (fun j hj => by rw [sg, if_neg (by omega)]) rfl
        rcases m with _ | m
        · omega
        obtain ⟨c', v', t', g1, g2, g3, g4, g5, g6, g7⟩ := num_loop q col m (t + 1) (10 * v + a) (c + 1) f f' _ _ (by omega) (by omega) hv' h' (by omega) (by omega)
        refine ⟨c', v', t', by omega, g2, g3, g4, g5, ?_, ?_⟩
        · rw [g6, set_set]
        · rw [g7, set_set]
    · rw [w5, bR_t, if_pos (show (-1 : Int32) < 0 by decide)]
      by_cases v0 : v = 0
      · subst v0
        rw [if_pos (show nI 0 ≤ 0 by decide)]
        exact ⟨c, 0, t, Nat.le_refl _, hcn, hv3, h1, by omega, by rw [s5], stop⟩
      · rw [if_neg (nI_nle (by omega) (by omega)), eb, if_pos rfl, h.here6, bR_t, ndig6 w6, bR_t, if_pos rfl]
        exact ⟨c, v, t, Nat.le_refl _, hcn, hv3, h1, by omega, by rw [s5], stop⟩
theorem num_t {d n c : Nat} {σ τ : ST} (q col : Int32) (h : RD d n c σ τ) : (∃ c' v, c < c' ∧ c' ≤ n ∧ v < 1000 ∧ fX2_takesNumber (20 + 2 * d) q col σ = (bR (fX4_write 18 q col (nI v) (setI σ 4 1 (nI c'))) fun σ1 => some (1, σ1)) ∧ fX6_readNumber τ = some (nI v, setI τ 36 26 (nI c'))) ∨
    (fX2_takesNumber (20 + 2 * d) q col σ = (bR (fX4_write 18 q col 0 σ) fun σ1 => some (0, σ1)) ∧ fX6_readNumber τ = some (0, setI τ 36 27 1)) := by
  have e5 : σ.1 4 1 = nI c := h.2.2.2.1
  unfold fX2_takesNumber fX6_readNumber
  rw [show FU = 3999 + 1 from rfl, fX2_takesNumber_6, if_neg (show ¬ (3 : Int32) ≤ 0 by decide)]
  rcases h.digit6 with ⟨a, ha, hc, g1, g2⟩ | ⟨g1, g2, g3⟩
  · rw [g1, bR_t, dig5 ha, bR_t, if_neg (nI_pos (by omega)), if_pos rfl, g2, bI_t]
    unfold fX2_takesNumber_36
    rw [g1, bR_t, dig5 ha, bR_t, e5, nI_1, show 10 * 0 + nI a = nI a from Int32.zero_add _]
    have h' : RD d n (c + 1) (setI σ 4 1 (nI (c + 1))) (setI τ 36 26 (nI (c + 1))) := h.mv hc (by rw [sg, if_pos ⟨rfl, rfl⟩]) (by rw [sg, if_pos ⟨rfl, rfl⟩]) (fun k j hk => by rw [sg, if_neg (by omega)]) (fun j hj => by rw [sg, if_neg (by omega)]) rfl
    obtain ⟨c', v', t', k1, k2, k3, k4, k5, k6, k7⟩ := num_loop q col 2 1 a (c + 1) 3999 (3999 + 1) _ _ rfl (by omega) (by omega) h' (by omega) (by omega)
    refine Or.inl ⟨c', v', by omega, k2, k3, ?_, ?_⟩
    · show fX2_takesNumber_6 3999 (20 + 2 * d) q col (nI a) (nI 1) _ = _
      rw [k6, set_set]
      unfold fX2_takesNumber_71 fX2_takesNumber_92
      simp only [if_neg (nI_nle k4 (show t' < 2 ^ 31 by omega))]; rfl
    · show fX6_readNumber_7 (3999 + 1) (nI a) (nI 1) _ = _
      rw [k7, set_set]
  · rw [g1, bR_t, g2, bR_t, if_pos (show (-1 : Int32) < 0 by decide), g3, bI_t]
    refine Or.inr ⟨?_, ?_⟩
    · unfold fX2_takesNumber_71 fX2_takesNumber_92
      simp only [if_pos (show (0 : Int32) ≤ 0 by decide)]; rfl
    · rw [fX6_readNumber_7, if_neg (show ¬ (3 : Int32) ≤ 1 by decide), if_pos (show (0 : Int32) ≤ 0 by decide)]; rfl
theorem wrS {σ : ST} {q Q c : Nat} {x2 v : Int32} (h3 : σ.1 18 3 = nI Q) (h1 : σ.1 18 1 = 6) (hq : q < Q) (hQ : Q ≤ 34) (hc : c < 6) (e : x2 = nI c) : fX4_write 18 (nI q) x2 v σ = some (setI σ 19 (6 * q + c) v) :=
  wr (w := 6) h3 h1 hq hc (by rw [al_19]; omega) (by omega) (by omega) (by rw [al_19]; omega) rfl e
abbrev S5 (q : Nat) (σ σ' : ST) : Prop := (∀ k j, k ≠ 4 → ¬ (k = 19 ∧ 6 * q ≤ j) → ¬ (k = 18 ∧ j = 3) → σ'.1 k j = σ.1 k j) ∧ σ'.2 = σ.2
abbrev S6 (q : Nat) (τ τ' : ST) : Prop := (∀ k j, ¬ (k = 36 ∧ 26 ≤ j ∧ j ≤ 28) → ¬ ((k = 54 ∨ k = 55) ∧ q ≤ j) → ¬ (k = 56 ∧ 4 * q ≤ j) → τ'.1 k j = τ.1 k j) ∧ τ'.2 = τ.2
theorem S5.set {q : Nat} {σ σ' : ST} (h : S5 q σ σ') {k j : Nat} {v : Int32} (hk : k = 4 ∨ k = 19 ∧ 6 * q ≤ j ∨ k = 18 ∧ j = 3) : S5 q σ (setI σ' k j v) := ⟨fun a b h1 h2 h3 => by rw [sg, if_neg (by omega)]; exact h.1 a b h1 h2 h3, h.2⟩
theorem S6.set {q : Nat} {τ τ' : ST} (h : S6 q τ τ') {k j : Nat} {v : Int32} (hk : k = 36 ∧ 26 ≤ j ∧ j ≤ 28 ∨ (k = 54 ∨ k = 55) ∧ q ≤ j ∨ k = 56 ∧ 4 * q ≤ j) : S6 q τ (setI τ' k j v) := ⟨fun a b h1 h2 h3 => by rw [sg, if_neg (by omega)]; exact h.1 a b h1 h2 h3, h.2⟩
/-- the text has gone bad in statement q -/
abbrev FL (q : Nat) (σ0 τ0 σ τ : ST) : Prop := S5 q σ0 σ ∧ S6 q τ0 τ ∧ τ.1 36 27 = 1 ∧ ∃ c, c ≤ 100 ∧ σ.1 4 1 = nI c ∧ τ.1 36 26 = nI c
theorem FL.s56 {q j : Nat} {σ0 τ0 σ τ : ST} (h : FL q σ0 τ0 σ τ) (hj : 4 * q ≤ j) (v : Int32) : FL q σ0 τ0 σ (setI τ 56 j v) := by
  obtain ⟨h5, h6, hb, c, hc, e5, e6⟩ := h
  exact ⟨h5, h6.set (by omega), by rw [sg, if_neg (by omega)]; exact hb, c, hc, e5, by rw [sg, if_neg (by omega)]; exact e6⟩
/-- statement q under way: m of its numbers are read -/
abbrev PR (d n q c0 : Nat) (l : Int32) (σ0 τ0 : ST) (m c : Nat) (σ τ : ST) : Prop := RD d n c σ τ ∧ (q < 34 ∧ σ.1 18 3 = nI (q + 1) ∧ σ.1 18 1 = 6 ∧ τ.1 36 28 = nI q) ∧ S5 q σ0 σ ∧ S6 q τ0 τ ∧ (σ.1 19 (6 * q) = nI c0 ∧ τ.1 54 q = nI c0 ∧ σ.1 19 (6 * q + 1) = l ∧ τ.1 55 q = l) ∧
  (∀ i, i < m → ∃ v, v < 1000 ∧ σ.1 19 (6 * q + 2 + i) = nI v ∧ τ.1 56 (4 * q + i) = nI v) ∧ ∀ i, m ≤ i → i < 4 → σ.1 19 (6 * q + 2 + i) = 0
section PRS
variable {d n q c0 m c : Nat} {l : Int32} {σ0 τ0 σ τ : ST}
theorem PR.move (h : PR d n q c0 l σ0 τ0 m c σ τ) {c' : Nat} (hc : c' ≤ n) : PR d n q c0 l σ0 τ0 m c' (setI σ 4 1 (nI c')) (setI τ 36 26 (nI c')) := by
  obtain ⟨hR, ⟨hq, k1, k2, k3⟩, h5, h6, ⟨r1, r2, r3, r4⟩, hv, hz⟩ := h
  refine ⟨hR.mv hc (by rw [sg, if_pos ⟨rfl, rfl⟩]) (by rw [sg, if_pos ⟨rfl, rfl⟩]) (fun k j hk => by rw [sg, if_neg (by omega)]) (fun j hj => by rw [sg, if_neg (by omega)]) rfl, ⟨hq, ?_, ?_, ?_⟩, h5.set (by omega), h6.set (by omega), ⟨?_, ?_, ?_, ?_⟩, fun i hi => ?_, fun i hi hi' => ?_⟩
  · rw [sg, if_neg (by omega)]; exact k1
  · rw [sg, if_neg (by omega)]; exact k2
  · rw [sg, if_neg (by omega)]; exact k3
  · rw [sg, if_neg (by omega)]; exact r1
  · rw [sg, if_neg (by omega)]; exact r2
  · rw [sg, if_neg (by omega)]; exact r3
  · rw [sg, if_neg (by omega)]; exact r4
  · obtain ⟨v, w1, w2, w3⟩ := hv i hi
    exact ⟨v, w1, by rw [sg, if_neg (by omega)]; exact w2, by rw [sg, if_neg (by omega)]; exact w3⟩
  · rw [sg, if_neg (by omega)]; exact hz i hi hi'
/-- the next number is written, on both sides -/
theorem PR.put (h : PR d n q c0 l σ0 τ0 m c σ τ) {v : Nat} (hv : v < 1000) (hm : m < 4) : PR d n q c0 l σ0 τ0 (m + 1) c (setI σ 19 (6 * q + (2 + m)) (nI v)) (setI τ 56 (4 * q + m) (nI v)) := by
  obtain ⟨hR, ⟨hq, k1, k2, k3⟩, h5, h6, ⟨r1, r2, r3, r4⟩, hvs, hz⟩ := h
  refine ⟨hR.mv hR.2.2.1 (by rw [sg, if_neg (by omega)]; exact hR.2.2.2.1) (by rw [sg, if_neg (by omega)]; exact hR.2.2.2.2.1) (fun k j hk => by rw [sg, if_neg (by omega)]) (fun j hj => by rw [sg, if_neg (by omega)]) rfl, ⟨hq, ?_, ?_, ?_⟩, h5.set (by omega), h6.set (by omega), ⟨?_, ?_, ?_, ?_⟩, fun i hi => ?_, fun i hi hi' => ?_⟩
  · rw [sg, if_neg (by omega)]; exact k1
  · rw [sg, if_neg (by omega)]; exact k2
  · rw [sg, if_neg (by omega)]; exact k3
  · rw [sg, if_neg (by omega)]; exact r1
  · rw [sg, if_neg (by omega)]; exact r2
  · rw [sg, if_neg (by omega)]; exact r3
  · rw [sg, if_neg (by omega)]; exact r4
  · by_cases e : i = m
    · subst e
      exact ⟨v, hv, by rw [sg, if_pos (by omega)], by rw [sg, if_pos (by omega)]⟩
    · obtain ⟨v', w1, w2, w3⟩ := hvs i (by omega)
      exact ⟨v', w1, by rw [sg, if_neg (by omega)]; exact w2, by rw [sg, if_neg (by omega)]; exact w3⟩
  · rw [sg, if_neg (by omega)]; exact hz i (by omega) hi'
/-- nothing is written in the class, where its number is 0 anyhow -/
theorem PR.put0 (h : PR d n q c0 l σ0 τ0 m c σ τ) (hm : m < 4) : PR d n q c0 l σ0 τ0 (m + 1) c σ (setI τ 56 (4 * q + m) 0) := by
  have e : setI σ 19 (6 * q + (2 + m)) (nI 0) = σ := by
    have hz := h.2.2.2.2.2.2 m (Nat.le_refl _) hm
    rw [show (nI 0 : Int32) = 0 from rfl, ← hz, show 6 * q + 2 + m = 6 * q + (2 + m) by omega, set_self]
  have := h.put (v := 0) (by omega) hm
  rw [e] at this
  exact this
theorem PR.fail (h : PR d n q c0 l σ0 τ0 m c σ τ) : FL q σ0 τ0 σ (setI τ 36 27 1) := by
  obtain ⟨hR, -, h5, h6, -⟩ := h
  have hn := hR.2.1
  have hc := hR.2.2.1
  exact ⟨h5, h6.set (by omega), by rw [sg, if_pos ⟨rfl, rfl⟩], c, by omega, hR.2.2.2.1, by rw [sg, if_neg (by omega)]; exact hR.2.2.2.2.1⟩
theorem PR.take (h : PR d n q c0 l σ0 τ0 m c σ τ) {x : Int32} (h1 : 0 < x) (h2 : x ≤ 127) : (∃ σ' τ', fX2_takes (20 + 2 * d) x σ = some (1, σ') ∧ fX6_take x τ = some τ' ∧ PR d n q c0 l σ0 τ0 m (c + 1) σ' τ') ∨ ∃ τ', fX2_takes (20 + 2 * d) x σ = some (0, σ) ∧ fX6_take x τ = some τ' ∧ FL q σ0 τ0 σ τ' := by
  rcases h.1.take h1 h2 with ⟨hc, g1, g2⟩ | ⟨g1, g2⟩
  · exact Or.inl ⟨_, _, g1, g2, h.move hc⟩
  · exact Or.inr ⟨_, g1, g2, h.fail⟩
theorem PR.num (h : PR d n q c0 l σ0 τ0 m c σ τ) (hm : m < 4) {col : Int32} (e : col = nI (2 + m)) : (∃ c' v σ' τ', c < c' ∧ fX2_takesNumber (20 + 2 * d) (nI q) col σ = some (1, σ') ∧ fX6_readNumber τ = some (v, τ') ∧ PR d n q c0 l σ0 τ0 (m + 1) c' σ' (setI τ' 56 (4 * q + m) v)) ∨
    ∃ σ' τ', fX2_takesNumber (20 + 2 * d) (nI q) col σ = some (0, σ') ∧ fX6_readNumber τ = some (0, τ') ∧ FL q σ0 τ0 σ' τ' := by
  rcases num_t (nI q) col h.1 with ⟨c', v, hc, hc', hv, g1, g2⟩ | ⟨g1, g2⟩
  · have h' := h.move hc'
    refine Or.inl ⟨c', nI v, _, _, hc, ?_, g2, h'.put hv hm⟩
    rw [g1, wrS h'.2.1.2.1 h'.2.1.2.2.1 (by omega) (by have := h.2.1.1; omega) (show 2 + m < 6 by omega) e, bR_t]
  · refine Or.inr ⟨_, _, by rw [g1, wrS h.2.1.2.1 h.2.1.2.2.1 (by omega) (by have := h.2.1.1; omega) (show 2 + m < 6 by omega) e, bR_t], g2, ?_⟩
    obtain ⟨f5, f6, fb, k, hk, e5, e6⟩ := h.fail
    exact ⟨f5.set (by omega), f6, fb, k, hk, by rw [sg, if_neg (by omega)]; exact e5, e6⟩
theorem PR.digit (h : PR d n q c0 l σ0 τ0 0 c σ τ) : (∃ v σ' τ', fX2_takesDigit (20 + 2 * d) (nI q) σ = some (1, σ') ∧ fX6_readDigit τ = some (v, τ') ∧ PR d n q c0 l σ0 τ0 1 (c + 1) σ' (setI τ' 56 (4 * q) v)) ∨
    ∃ τ', fX2_takesDigit (20 + 2 * d) (nI q) σ = some (0, σ) ∧ fX6_readDigit τ = some (0, τ') ∧ FL q σ0 τ0 σ τ' := by
  unfold fX2_takesDigit
  rcases h.1.digit6 with ⟨a, ha, hc, g1, g2⟩ | ⟨g1, g2, g3⟩
  · have h' := h.move (c' := c + 1) hc
    refine Or.inl ⟨nI a, _, _, ?_, g2, h'.put (v := a) (by omega) (by omega)⟩
    rw [g1, bR_t, dig5 ha, bR_t, if_pos (nI_pos' (by omega)), h.1.2.2.2.1, nI_1, wrS (q := q) (x2 := 2) h'.2.1.2.1 h'.2.1.2.2.1 (by omega) (by have := h.2.1.1; omega) (show 2 + 0 < 6 by omega) rfl, bR_t]
  · refine Or.inr ⟨_, ?_, g3, h.fail⟩
    rw [g1, bR_t, g2, bR_t, if_neg (show ¬ (0 : Int32) ≤ -1 by decide)]
theorem PR.after (h : PR d n q c0 l σ0 τ0 m c σ τ) (hm : m < 4) {x col : Int32} (h1 : 0 < x) (h2 : x ≤ 127) (e : col = nI (2 + m)) : (∃ c' v σ' τ', c ≤ c' ∧ fX2_takesPart (20 + 2 * d) (nI q) x col σ = some (1, σ') ∧ fX6_readAfter x τ = some (v, τ') ∧ PR d n q c0 l σ0 τ0 (m + 1) c' σ' (setI τ' 56 (4 * q + m) v)) ∨
    ∃ σ' τ', fX2_takesPart (20 + 2 * d) (nI q) x col σ = some (0, σ') ∧ fX6_readAfter x τ = some (0, τ') ∧ FL q σ0 τ0 σ' τ' := by
  have hh5 := h.1.here5
  have hh6 := h.1.here6
  have e5 : σ.1 4 1 = nI c := h.1.2.2.2.1
  have e6 : τ.1 36 26 = nI c := h.1.2.2.2.2.1
  have eb : τ.1 36 27 = 0 := h.1.2.2.2.2.2.1
  unfold fX2_takesPart fX2_takesPart_20 fX2_takesPart_25 fX2_takes fX6_readAfter fX6_readAfter_15
  rw [hh5, bR_t, eb, if_pos rfl, hh6, bR_t]
  rcases h.1.chr h1 h2 with ⟨w5, w6, hc⟩ | ⟨w5, w6⟩
  · rw [if_pos w5, if_pos w6, bI_t, if_neg h10, e5, e6, nI_1]
    have h' := h.move hc
    rcases h'.num hm e with ⟨c', v, σ', τ', k1, k2, k3, k4⟩ | ⟨σ', τ', k2, k3, k4⟩
    · rw [k2, bI_t, if_neg h10, k3, bI_t]
      exact Or.inl ⟨c', v, σ', τ', by omega, rfl, rfl, k4⟩
    · rw [k2, bI_t, if_pos rfl, k3, bI_t]
      exact Or.inr ⟨σ', τ', rfl, rfl, k4⟩
  · rw [if_neg w5, if_neg w6, bI_t, if_pos rfl]
    exact Or.inl ⟨c, 0, σ, τ, Nat.le_refl _, rfl, rfl, h.put0 hm⟩
end PRS
