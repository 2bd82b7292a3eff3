/-- what statement q, from c0 on, comes to: told, with m numbers, or bad -/
abbrev OUT (d n q c0 : Nat) (l : Int32) (σ0 τ0 : ST) (m : Nat) (ok : Int32) (σ τ : ST) : Prop := (ok = 1 ∧ ∃ c, c0 + 3 ≤ c ∧ RD d n c σ τ ∧ σ.1 18 3 = nI (q + 1) ∧ τ.1 36 28 = nI (q + 1) ∧ S5 q σ0 σ ∧ S6 q τ0 τ ∧ (σ.1 19 (6 * q) = nI c0 ∧ τ.1 54 q = nI c0 ∧ σ.1 19 (6 * q + 1) = l ∧ τ.1 55 q = l) ∧ ∀ i, i < m → ∃ v, v < 1000 ∧ σ.1 19 (6 * q + 2 + i) = nI v ∧ τ.1 56 (4 * q + i) = nI v) ∨ (ok = 0 ∧ FL q σ0 τ0 σ τ)
theorem t149 (k : Nat) (σ : ST) : fX2_takesStatement_149 k σ = some (0, σ) := rfl
theorem t150 (k : Nat) (σ : ST) : fX2_takesStatement_150 k 1 σ = fX2_takesStatement_237 k 1 σ := rfl
theorem t221 (k : Nat) (σ : ST) : fX2_takesStatement_221 k σ = some (0, σ) := rfl
theorem t222 (k : Nat) (σ : ST) : fX2_takesStatement_222 k 1 σ = fX2_takesStatement_237 k 1 σ := rfl
theorem t237 (k : Nat) (σ : ST) : fX2_takesStatement_237 k 0 σ = some (0, σ) := rfl
section STS
variable {d n q c0 m c : Nat} {l : Int32} {σ0 τ0 σ τ : ST}
theorem FL.e250 (h : FL q σ0 τ0 σ τ) : ∃ τ', fX6_readStatement_250 τ = some τ' ∧ FL q σ0 τ0 σ τ' := by
  obtain ⟨h5, h6, hb, c, hc, e5, e6⟩ := h
  unfold fX6_readStatement_250
  rw [bad_take hb, bR_t]
  exact ⟨_, rfl, h5, h6.set (by omega), by rw [sg, if_neg (by omega)]; exact hb, c, hc, e5, by rw [sg, if_neg (by omega)]; exact e6⟩
theorem FL.e189 (h : FL q σ0 τ0 σ τ) (x y : Int32) : ∃ τ', fX6_readStatement_189 x y τ = some τ' ∧ FL q σ0 τ0 σ τ' := by
  unfold fX6_readStatement_189
  rw [h.2.2.1, if_neg h10]
  exact h.e250
theorem ixn {q i : Nat} (hq : q < 34) (hi : i < 4) : inb (nI (4 * q + i)) 200 = true ∧ (nI (4 * q + i)).toNatClampNeg = 4 * q + i := ⟨inb_t (by omega) (by decide), nI_clamp (by omega)⟩
theorem FL.e188 (h : FL q σ0 τ0 σ τ) (hq : q < 34) (x y v : Int32) {i : Nat} (hi : i < 4) : ∃ τ', fX6_readStatement_188 x y (nI (4 * q + i)) v τ = some τ' ∧ FL q σ0 τ0 σ τ' := by
  unfold fX6_readStatement_188
  rw [al_56, (ixn hq hi).1, gd_t, (ixn hq hi).2]
  exact (h.s56 (by omega) v).e189 x y
theorem FL.e128 (h : FL q σ0 τ0 σ τ) (hq : q < 34) (x v : Int32) : ∃ τ', fX6_readStatement_128 x (nI (4 * q)) (nI (4 * q)) v τ = some τ' ∧ FL q σ0 τ0 σ τ' := by
  unfold fX6_readStatement_128
  have h' := h.s56 (j := 4 * q) (by omega) v
  have i0 : inb (nI (4 * q)) 200 = true := inb_t (by omega) (by decide)
  rw [al_56, i0, gd_t, nI_clamp (show 4 * q < 2 ^ 31 by omega), h'.2.2.1, if_neg h10]
  exact h'.e189 x _
theorem PR.bad (h : PR d n q c0 l σ0 τ0 m c σ τ) : τ.1 36 27 = 0 := h.1.2.2.2.2.2.1
theorem PR.fin (h : PR d n q c0 l σ0 τ0 m c σ τ) (hc : c0 + 2 ≤ c) : ∃ ok σ' τ', fX2_takesStatement_237 (20 + 2 * d) 1 σ = some (ok, σ') ∧ fX6_readStatement_250 τ = some τ' ∧ OUT d n q c0 l σ0 τ0 m ok σ' τ' := by
  unfold fX2_takesStatement_237 fX2_takesStatement_256 fX2_takesStatement_257 fX6_readStatement_250
  rw [if_neg h10]
  rcases h.take (x := 59) (by decide) (by decide) with ⟨σ', τ', g1, g2, g3⟩ | ⟨τ', g1, g2, g3⟩
  · rw [g1, bI_t, if_neg h10, g2, bR_t]
    obtain ⟨hR, ⟨hq, k1, k2, k3⟩, h5, h6, ⟨r1, r2, r3, r4⟩, hv, -⟩ := g3
    refine ⟨1, σ', _, rfl, rfl, Or.inl ⟨rfl, c + 1, by omega, hR.mv hR.2.2.1 hR.2.2.2.1 ?_ (fun _ _ _ => rfl) (fun j hj => ?_) rfl, k1, ?_, h5, h6.set (by omega), ⟨r1, ?_, r3, ?_⟩, fun i hi => ?_⟩⟩
    · rw [sg, if_neg (by omega)]; exact hR.2.2.2.2.1
    · rw [sg, if_neg (by omega)]
    · rw [sg, if_pos ⟨rfl, rfl⟩, k3, nI_1]
    · rw [sg, if_neg (by omega)]; exact r2
    · rw [sg, if_neg (by omega)]; exact r4
    · obtain ⟨v, w1, w2, w3⟩ := hv i hi
      exact ⟨v, w1, w2, by rw [sg, if_neg (by omega)]; exact w3⟩
  · rw [g1, bI_t, if_pos rfl, g2, bR_t]
    obtain ⟨h5, h6, hb, k, hk, e5, e6⟩ := g3
    exact ⟨0, σ, _, rfl, rfl, Or.inr ⟨rfl, h5, h6.set (by omega), by rw [sg, if_neg (by omega)]; exact hb, k, hk, e5, by rw [sg, if_neg (by omega)]; exact e6⟩⟩
theorem FL.out (σ' : ST) {F : Option ST} (h : ∃ τ', F = some τ' ∧ FL q σ0 τ0 σ' τ') : ∃ (ok : Int32) (σ1 : ST) (τ' : ST), (some (0, σ') : Option (Int32 × ST)) = some (ok, σ1) ∧ F = some τ' ∧ OUT d n q c0 l σ0 τ0 m ok σ1 τ' := by
  obtain ⟨τ', g1, g2⟩ := h
  exact ⟨0, σ', τ', rfl, g1, Or.inr ⟨rfl, g2⟩⟩
/-- c or t -/
theorem PR.setting (h : PR d n q c0 l σ0 τ0 0 (c0 + 1) σ τ) (h1 : ¬ l = 115) (h2 : ¬ l = 109) (h3 : ¬ l = 120) : ∃ ok σ' τ', (bI (fX2_takesNumber (20 + 2 * d) (nI q) 2 σ) fun a4 σ4 => fX2_takesStatement_237 (20 + 2 * d) a4 σ4) = some (ok, σ') ∧ (bI (fX6_readNumber τ) fun a1 σ1 => fX6_readStatement_128 l (nI (4 * q)) (nI (4 * q)) a1 σ1) = some τ' ∧ OUT d n q c0 l σ0 τ0 1 ok σ' τ' := by
  have hq := h.2.1.1
  have i0 : inb (nI (4 * q)) 200 = true := inb_t (by omega) (by decide)
  rcases h.num (by omega) (col := 2) rfl with ⟨c', v, σ', τ', g1, g2, g3, g4⟩ | ⟨σ', τ', g2, g3, g4⟩
  · rw [g2, bI_t, g3, bI_t]
    unfold fX6_readStatement_128 fX6_readStatement_189
    rw [al_56, i0, gd_t, nI_clamp (show 4 * q < 2 ^ 31 by omega)]
    have g4 : PR d n q c0 l σ0 τ0 1 c' σ' (setI τ' 56 (4 * q) v) := g4
    generalize setI τ' 56 (4 * q) v = T at g4 ⊢
    rw [g4.bad, if_pos rfl, if_neg h1, if_pos rfl, if_neg h2, if_neg h3]
    exact g4.fin (by omega)
  · rw [g2, bI_t, g3, bI_t, t237]
    exact FL.out σ' (g4.e128 hq l 0)
/-- m or x -/
theorem PR.returner (h : PR d n q c0 l σ0 τ0 0 (c0 + 1) σ τ) (h1 : ¬ l = 115) (h2 : l = 109 ∨ l = 120) : ∃ ok σ' τ', fX2_takesStatement_167 (20 + 2 * d) (nI q) σ = some (ok, σ') ∧ (bI (fX6_readNumber τ) fun a1 σ1 => fX6_readStatement_128 l (nI (4 * q)) (nI (4 * q)) a1 σ1) = some τ' ∧ OUT d n q c0 l σ0 τ0 4 ok σ' τ' := by
  have hq := h.2.1.1
  have i0 : inb (nI (4 * q)) 200 = true := inb_t (by omega) (by decide)
  have p1 : nI (4 * q) + 1 = nI (4 * q + 1) := nI_1 _
  have p2 : nI (4 * q) + 2 = nI (4 * q + 2) := nI_add (4 * q) 2
  have p3 : nI (4 * q) + 3 = nI (4 * q + 3) := nI_add (4 * q) 3
  unfold fX2_takesStatement_167
  rcases h.num (by omega) (col := 2) rfl with ⟨c', v, σ', τ', g1, g2, g3, g4⟩ | ⟨σ', τ', g2, g3, g4⟩
  rotate_left
  · rw [g2, bI_t, g3, bI_t, if_pos rfl, t221]
    exact FL.out σ' (g4.e128 hq l 0)
  rw [g2, bI_t, g3, bI_t, if_neg h10]
  have hg : ∀ T : ST, T.1 36 27 = 0 → fX6_readStatement_189 l (nI (4 * q)) T = fX6_readStatement_208 (nI (4 * q)) T := fun T hT => by
    unfold fX6_readStatement_189
    rw [hT, if_pos rfl]
    rcases h2 with e | e
    · rw [if_pos e]
    · by_cases e' : l = 109
      · rw [if_pos e']
      · rw [if_neg e', if_pos e]
  unfold fX6_readStatement_128
  rw [al_56, i0, gd_t, nI_clamp (show 4 * q < 2 ^ 31 by omega)]
  have g4 : PR d n q c0 l σ0 τ0 1 c' σ' (setI τ' 56 (4 * q) v) := g4
  generalize setI τ' 56 (4 * q) v = T at g4 ⊢
  rw [g4.bad, if_pos rfl, if_neg h1, hg T g4.bad]
  unfold fX6_readStatement_208
  rw [al_56, p1, p2, p3, (ixn hq (show 1 < 4 by omega)).1, (ixn hq (show 1 < 4 by omega)).2, (ixn hq (show 2 < 4 by omega)).1, (ixn hq (show 2 < 4 by omega)).2, (ixn hq (show 3 < 4 by omega)).1, (ixn hq (show 3 < 4 by omega)).2]
  simp only [gd_t]
  rcases g4.after (by omega) (x := 108) (col := 3) (by decide) (by decide) rfl with ⟨c1, v1, σ1, τ1, k1, k2, k3, k4⟩ | ⟨σ1, τ1, k2, k3, k4⟩
  rotate_left
  · rw [k2, bI_t, if_pos rfl, t221, k3, bI_t]
    have f1 := k4.s56 (j := 4 * q + 1) (by omega) 0
    rw [bad_after f1.2.2.1, bI_t]
    have f2 := f1.s56 (j := 4 * q + 2) (by omega) 0
    rw [bad_after f2.2.2.1, bI_t]
    exact FL.out σ1 (f2.s56 (j := 4 * q + 3) (by omega) 0).e250
  rw [k2, bI_t, if_neg h10, k3, bI_t]
  generalize setI τ1 56 (4 * q + 1) v1 = T1 at k4 ⊢
  rcases k4.after (by omega) (x := 118) (col := 4) (by decide) (by decide) rfl with ⟨c2, v2, σ2, τ2, j1, j2, j3, j4⟩ | ⟨σ2, τ2, j2, j3, j4⟩
  rotate_left
  · rw [j2, bI_t, if_pos rfl, t221, j3, bI_t]
    have f2 := j4.s56 (j := 4 * q + 2) (by omega) 0
    rw [bad_after f2.2.2.1, bI_t]
    exact FL.out σ2 (f2.s56 (j := 4 * q + 3) (by omega) 0).e250
  rw [j2, bI_t, if_neg h10, j3, bI_t]
  generalize setI τ2 56 (4 * q + 2) v2 = T2 at j4 ⊢
  rcases j4.after (by omega) (x := 119) (col := 5) (by decide) (by decide) rfl with ⟨c3, v3, σ3, τ3, i1, i2, i3, i4⟩ | ⟨σ3, τ3, i2, i3, i4⟩
  rotate_left
  · rw [i2, bI_t, if_pos rfl, t221, i3, bI_t]
    exact FL.out σ3 (i4.s56 (j := 4 * q + 3) (by omega) 0).e250
  rw [i2, bI_t, if_neg h10, i3, bI_t, t222]
  exact i4.fin (by omega)
/-- s -/
theorem PR.sender (h : PR d n q c0 115 σ0 τ0 0 (c0 + 1) σ τ) : ∃ ok σ' τ', (bI (fX2_takesDigit (20 + 2 * d) (nI q) σ) fun a7 σ7 => if a7 = 0 then fX2_takesStatement_149 (20 + 2 * d) σ7 else bI (fX2_takes (20 + 2 * d) 32 σ7) fun a8 σ8 => if a8 = 0 then fX2_takesStatement_149 (20 + 2 * d) σ8 else bI (fX2_takesNumber (20 + 2 * d) (nI q) 3 σ8) fun a9 σ9 => if a9 = 0 then fX2_takesStatement_149 (20 + 2 * d) σ9 else bI (fX2_takes (20 + 2 * d) 32 σ9) fun a10 σ10 => if a10 = 0 then fX2_takesStatement_149 (20 + 2 * d) σ10 else bI (fX2_takesNumber (20 + 2 * d) (nI q) 4 σ10) fun a11 σ11 => if a11 = 0 then fX2_takesStatement_149 (20 + 2 * d) σ11 else fX2_takesStatement_150 (20 + 2 * d) 1 σ11) = some (ok, σ') ∧
    (bI (fX6_readDigit τ) fun a2 σ2 => fX6_readStatement_128 115 (nI (4 * q)) (nI (4 * q)) a2 σ2) = some τ' ∧ OUT d n q c0 115 σ0 τ0 3 ok σ' τ' := by
  have hq := h.2.1.1
  have i0 : inb (nI (4 * q)) 200 = true := inb_t (by omega) (by decide)
  have p1 : nI (4 * q) + 1 = nI (4 * q + 1) := nI_1 _
  have p2 : nI (4 * q) + 2 = nI (4 * q + 2) := nI_add (4 * q) 2
  rcases h.digit with ⟨v, σ', τ', g2, g3, g4⟩ | ⟨τ', g2, g3, g4⟩
  rotate_left
  · rw [g2, bI_t, g3, bI_t, if_pos rfl, t149]
    exact FL.out σ (g4.e128 hq 115 0)
  rw [g2, bI_t, g3, bI_t, if_neg h10]
  unfold fX6_readStatement_128
  rw [al_56, p1, p2, i0, gd_t, nI_clamp (show 4 * q < 2 ^ 31 by omega), (ixn hq (show 1 < 4 by omega)).1, (ixn hq (show 1 < 4 by omega)).2]
  simp only [gd_t]
  generalize setI τ' 56 (4 * q) v = T at g4 ⊢
  rw [g4.bad, if_pos rfl, if_pos trivial]
  rcases g4.take (x := 32) (by decide) (by decide) with ⟨σ1, τ1, k2, k3, k4⟩ | ⟨τ1, k2, k3, k4⟩
  rotate_left
  · rw [k2, bI_t, if_pos rfl, t149, k3, bR_t, bad_number k4.2.2.1, bI_t]
    have f1 := k4.s56 (j := 4 * q + 1) (by omega) 0
    rw [bad_take f1.2.2.1, bR_t, f1.2.2.1, if_neg h10]
    exact FL.out σ' (f1.e188 hq _ _ 0 (by omega))
  rw [k2, bI_t, if_neg h10, k3, bR_t]
  rcases k4.num (by omega) (col := 3) rfl with ⟨c2, v2, σ2, τ2, j1, j2, j3, j4⟩ | ⟨σ2, τ2, j2, j3, j4⟩
  rotate_left
  · rw [j2, bI_t, if_pos rfl, t149, j3, bI_t]
    have f1 := j4.s56 (j := 4 * q + 1) (by omega) 0
    rw [bad_take f1.2.2.1, bR_t, f1.2.2.1, if_neg h10]
    exact FL.out σ2 (f1.e188 hq _ _ 0 (by omega))
  rw [j2, bI_t, if_neg h10, j3, bI_t]
  generalize setI τ2 56 (4 * q + 1) v2 = T2 at j4 ⊢
  rcases j4.take (x := 32) (by decide) (by decide) with ⟨σ3, τ3, i2, i3, i4⟩ | ⟨τ3, i2, i3, i4⟩
  rotate_left
  · rw [i2, bI_t, if_pos rfl, t149, i3, bR_t, i4.2.2.1, if_neg h10]
    exact FL.out σ2 (i4.e188 hq _ _ 0 (by omega))
  rw [i2, bI_t, if_neg h10, i3, bR_t, i4.bad, if_pos rfl]
  rcases i4.num (by omega) (col := 4) rfl with ⟨c4, v4, σ4, τ4, e1, e2, e3, e4⟩ | ⟨σ4, τ4, e2, e3, e4⟩
  rotate_left
  · rw [e2, bI_t, if_pos rfl, t149, e3, bI_t]
    exact FL.out σ4 (e4.e188 hq _ _ 0 (by omega))
  rw [e2, bI_t, if_neg h10, e3, bI_t, t150]
  unfold fX6_readStatement_188 fX6_readStatement_189
  rw [al_56, (ixn hq (show 2 < 4 by omega)).1, gd_t, (ixn hq (show 2 < 4 by omega)).2]
  generalize setI τ4 56 (4 * q + 2) v4 = T4 at e4 ⊢
  rw [e4.bad, if_pos rfl, if_neg (show ¬ (115 : Int32) = 109 by decide), if_neg (show ¬ (115 : Int32) = 120 by decide)]
  exact e4.fin (by omega)
end STS
