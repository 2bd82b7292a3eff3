theorem X_f5 {σ σ' : ST} (h : ag5 σ σ') : X 1 σ' = X 1 σ := by
  funext k j
  unfold X
  split <;> exact h _ _ (by omega) (by unfold sc5; omega)
theorem iabs_nn {p q : Nat} (hp : p ≤ 20) (hq : q ≤ 20) : 0 ≤ iabs (nI p - nI q) := by
  unfold iabs
  split
  · assumption
  · rename_i h
    have e := pk_sub_toInt (a := p) (b := q) (by omega) (by omega)
    have e2 := pk_sub_toInt (a := q) (b := p) (by omega) (by omega)
    rw [Int32.le_iff_toInt_le, e] at h
    rw [show (0 : Int32) - (nI p - nI q) = nI q - nI p by grind, Int32.le_iff_toInt_le, e2]
    have : (0 : Int32).toInt = 0 := rfl
    omega
theorem unlike {σ σ' T : ST} {ns nr np a b r : Nat} (hC : CST σ) (R : REL ns nr np (X 1 σ) (Ml T)) (ha : a < ns) (hb : b < ns) (hr : r < nr) (hm : sm3 σ σ') {t : Int32} (ht : rg t 1 5) :
    ∃ p q z1 z2 σ'', p ≤ 20 ∧ q ≤ 20 ∧ fX5_howUnlike (nI a) (nI b) (nI r) t σ' = some (iabs (nI p - nI q), σ'') ∧ sm3 σ σ'' ∧ fX6_sendingTo (nI a) (nI r) (setI T 36 1 t) = some (nI p, setI (setI T 36 1 t) 36 2 z1) ∧ fX6_sendingTo (nI b) (nI r) (setI T 36 1 t) = some (nI q, setI (setI T 36 1 t) 36 2 z2) := by
  have R1 : REL ns nr np (X 1 σ') (Ml T) := by rw [X_sm3 hm]; exact R
  obtain ⟨C, G, σ1, hC1, b1, m1, M1⟩ := bring (hC.f hm.ag) R1 ha hr
  obtain ⟨p, z1, hp, q1, q2⟩ := MT.would (MT.times M1 ht) (by omega)
  have hm1 : sm3 σ (setI σ1 3 1 t) := (hm.tr m1).set
  have R2 : REL ns nr np (X 1 (setI σ1 3 1 t)) (Ml T) := by rw [X_sm3 hm1]; exact R
  obtain ⟨C', G', σ2, hC2, b2, m2, M2⟩ := bring (hC.f hm1.ag) R2 hb hr
  obtain ⟨q, z2, hq, q3, q4⟩ := MT.would (MT.times M2 ht) (by omega)
  refine ⟨p, q, z1, z2, setI σ2 3 1 t, hp, hq, ?_, (hm1.tr m2).set, q2, q4⟩
  unfold fX5_howUnlike
  rw [b1, bR_t, q1, bI_t, b2, bR_t, q3, bI_t]
theorem parts_loop {σ T : ST} {ns nr np a b r : Nat} (hC : CST σ) (R : REL ns nr np (X 1 σ) (Ml T)) (ha : a < ns) (hb : b < ns) (hr : r < nr) (x4 : Int32) :
    ∀ d t f f' best most σ' w, t + d = 6 → 1 ≤ t → d < f → d < f' → sm3 σ σ' → ∃ v σ'', fX5_parts_52 f (nI a) (nI b) (nI r) x4 best most (nI t) σ' = some (v, σ'') ∧ sm3 σ σ'' ∧ fX6_parts_68 f' (nI a) (nI b) (nI r) x4 (T.1 36 2) (T.1 36 1) best most (nI t) (setI T 36 1 w) = some (v, T) := by
  intro d
  induction d with
  | zero =>
    intro t f f' best most σ' w ht h1 hf hf' hm
    match f, f', hf, hf' with
    | f + 1, f' + 1, _, _ =>
      have : t = 6 := by omega
      subst this
      have h56 : (5 : Int32) < nI 6 := by decide
      rw [fX5_parts_52, if_pos h56, fX6_parts_68, if_pos h56, set_back]
      by_cases h : x4 = 0
      · rw [if_pos h, if_pos h]; exact ⟨best, σ', rfl, hm, rfl⟩
      · rw [if_neg h, if_neg h]; exact ⟨most, σ', rfl, hm, rfl⟩
  | succ d ih =>
    intro t f f' best most σ' w ht h1 hf hf' hm
    match f, f', hf, hf' with
    | f + 1, f' + 1, hf, hf' =>
      obtain ⟨p, q, z1, z2, σ'', hp, hq, k1, k2, k3, k4⟩ := unlike hC R ha hb hr hm (t := nI t) ⟨nI_le (a := 1) h1 (by omega), nI_le (b := 5) (by omega) (by decide)⟩
      have hng : ¬ (5 : Int32) < nI t := nI_nlt (a := 5) (show t ≤ 5 by omega) (by omega)
      rw [fX5_parts_52, if_neg hng, k1, bI_t, fX6_parts_68, if_neg hng, set_set, k3, bI_t]
      have eb : ∀ z, setI (setI (setI T 36 1 (nI t)) 36 2 z) 36 2 (T.1 36 2) = setI T 36 1 (nI t) := fun z => set_back (setI T 36 1 (nI t)) 36 2 z
      rw [eb, k4, bI_t, eb]
      have hu : (if 0 ≤ nI p - nI q then fX6_parts_124 (fX6_parts_68 f') (nI a) (nI b) (nI r) x4 (T.1 36 2) (T.1 36 1) best most (nI t) (nI p - nI q) (setI T 36 1 (nI t)) else fX6_parts_124 (fX6_parts_68 f') (nI a) (nI b) (nI r) x4 (T.1 36 2) (T.1 36 1) best most (nI t) (-(nI p - nI q)) (setI T 36 1 (nI t))) = fX6_parts_124 (fX6_parts_68 f') (nI a) (nI b) (nI r) x4 (T.1 36 2) (T.1 36 1) best most (nI t) (iabs (nI p - nI q)) (setI T 36 1 (nI t)) := by
        unfold iabs
        by_cases h : 0 ≤ nI p - nI q
        · rw [if_pos h, if_pos h]
        · rw [if_neg h, if_neg h, Int32.zero_sub]
      rw [hu]
      generalize iabs (nI p - nI q) = u
      unfold fX6_parts_124 fX6_parts_140 fX6_parts_156 fX5_parts_84
      rw [nI_1]
      by_cases h : u ≤ most
      · rw [if_pos h, if_pos h, if_pos h]
        exact ih (t + 1) f f' best most σ'' (nI t) (by omega) (by omega) (by omega) (by omega) k2
      · rw [if_neg h, if_neg h, if_neg h]
        exact ih (t + 1) f f' (nI t) u σ'' (nI t) (by omega) (by omega) (by omega) (by omega) k2
theorem sim_parts (x1 x2 x3 x4 : Int32) : SIMs (fX5_parts x1 x2 x3 x4) (fX6_parts x1 x2 x3 x4) := by
  intro σ τ h0
  have h10 : ¬ (1 : Int32) = 0 := by decide
  have hI := h0.r
  have hT := scr6.r (τ := τ)
  unfold fX5_parts fX6_parts fX6_parts_45 fX5_parts_34
  generalize setI τ 36 23 0 = T at *
  obtain ⟨ns, nr, np, R⟩ := hI.g
  have hr8 := R.hr
  have e3 : fX6_in x4.toInt64 0 1 T = some (if 0 ≤ x4 ∧ x4 ≤ 1 then 1 else 0) := in_i x4 0 1 T
  have no : ∀ o5 : Option (Int32 × ST), o5 = some (-1, σ) → ∀ o6 : Option (Int32 × ST), o6 = some (-1, T) → ∃ a σ' τ', o5 = some (a, σ') ∧ o6 = some (a, τ') ∧ scr5 σ σ' ∧ scr6 τ τ' := fun o5 h5 o6 h6 => ⟨-1, σ, T, h5, h6, scr5.rfl, hT⟩
  rcases isS2 R x1 with ⟨a1, a2⟩ | ⟨a, ha, rfl, a1, a2⟩
  · refine no _ ?_ _ ?_
    · rw [show fX5_areThere x1 x3 σ = some 0 by unfold fX5_areThere; rw [a1]; rfl, bR_t, if_pos rfl]
    · rw [a2]; rfl
  rcases isR2 R x3 with ⟨c1, c2⟩ | ⟨r, hr, rfl, c1, c2⟩
  · refine no _ ?_ _ ?_
    · rw [show fX5_areThere (nI a) x3 σ = some 0 by unfold fX5_areThere; rw [a1, bR_t, if_neg h10, c1]; rfl, bR_t, if_pos rfl]
    · rw [a2, bR_t, if_neg h10]
      rcases isS2 R x2 with ⟨b1, b2⟩ | ⟨b, hb, rfl, b1, b2⟩
      · rw [b2]; rfl
      · rw [b2, bR_t, if_neg h10, c2]
        by_cases h : nI a = nI b
        · rw [if_pos h]
        · rw [if_neg h]; rfl
  have t1 : fX5_areThere (nI a) (nI r) σ = some 1 := by unfold fX5_areThere; rw [a1, bR_t, if_neg h10, c1]; rfl
  rcases isS2 R x2 with ⟨b1, b2⟩ | ⟨b, hb, rfl, b1, b2⟩
  · refine no _ ?_ _ ?_
    · rw [t1, bR_t, if_neg h10, show fX5_areThere x2 (nI r) σ = some 0 by unfold fX5_areThere; rw [b1]; rfl, bR_t, if_pos rfl]
    · rw [a2, bR_t, if_neg h10, b2]; rfl
  have t2 : fX5_areThere (nI b) (nI r) σ = some 1 := by unfold fX5_areThere; rw [b1, bR_t, if_neg h10, c1]; rfl
  rw [t1, bR_t, if_neg h10, t2, bR_t, if_neg h10, a2, bR_t, if_neg h10, b2, bR_t, if_neg h10, c2, bR_t, if_neg h10]
  by_cases hab : nI a = nI b
  · rw [if_pos hab, if_pos hab]; exact no _ rfl _ rfl
  rw [if_neg hab, if_neg hab]
  by_cases h4 : x4 < 0
  · rw [if_neg (fun h => absurd h4 (Int32.not_lt.mpr h.1))] at e3
    rw [if_pos h4, e3, bR_t, if_pos rfl]; exact no _ rfl _ rfl
  by_cases h5 : x4 ≤ 1
  · rw [if_pos ⟨Int32.not_lt.mp h4, h5⟩] at e3
    rw [if_neg h4, if_pos h5, e3, bR_t, if_neg h10]
    obtain ⟨p, q, z1, z2, σ'', hp, hq, k1, k2, k3, k4⟩ := unlike hI.c R ha hb hr sm3.rfl (t := 1) ⟨by decide, by decide⟩
    obtain ⟨v, σ3, g1, g2, g3⟩ := parts_loop hI.c R ha hb hr x4 4 2 FU 3999 1 (iabs (nI p - nI q)) σ'' 1 (by omega) (by omega) (by unfold FU; omega) (by omega) k2
    refine ⟨v, σ3, T, ?_, ?_, g2.scr, hT⟩
    · rw [k1, bI_t]; exact g1
    · have eb : ∀ z, setI (setI (setI T 36 1 1) 36 2 z) 36 2 (T.1 36 2) = setI T 36 1 1 := fun z => set_back (setI T 36 1 1) 36 2 z
      rw [show FU = 3999 + 1 from rfl, fX6_parts_68, if_neg (show ¬ (5 : Int32) < 1 by decide), k3, bI_t, eb, k4, bI_t, eb]
      have hu : (if 0 ≤ nI p - nI q then fX6_parts_124 (fX6_parts_68 3999) (nI a) (nI b) (nI r) x4 (T.1 36 2) (T.1 36 1) 0 (-1) 1 (nI p - nI q) (setI T 36 1 1) else fX6_parts_124 (fX6_parts_68 3999) (nI a) (nI b) (nI r) x4 (T.1 36 2) (T.1 36 1) 0 (-1) 1 (-(nI p - nI q)) (setI T 36 1 1)) = fX6_parts_124 (fX6_parts_68 3999) (nI a) (nI b) (nI r) x4 (T.1 36 2) (T.1 36 1) 0 (-1) 1 (iabs (nI p - nI q)) (setI T 36 1 1) := by
        unfold iabs
        by_cases h : 0 ≤ nI p - nI q
        · rw [if_pos h, if_pos h]
        · rw [if_neg h, if_neg h, Int32.zero_sub]
      rw [hu]
      have hn := iabs_nn hp hq
      generalize iabs (nI p - nI q) = u at *
      have hn' : ¬ u ≤ -1 := by grind
      unfold fX6_parts_124 fX6_parts_140 fX6_parts_156
      rw [if_neg hn', if_neg hn']
      exact g3
  · rw [if_neg (fun h => h5 h.2)] at e3
    rw [if_neg h4, if_neg h5, e3, bR_t, if_pos rfl]; exact no _ rfl _ rfl
