theorem INV.shelf {σ τ σ' τ' : ST} {d : Nat} (h : INV σ τ) (hd : d < 8) (h5 : ∀ k j, k < 36 → k ≠ 20 + 2 * d → k ≠ 21 + 2 * d → σ'.1 k j = σ.1 k j)
    (h6 : (∀ k j, 36 ≤ k → ¬ (58 ≤ k ∧ k ≤ 64 ∧ j = d) → τ'.1 k j = τ.1 k j) ∧ (∀ e i, e < 8 → e ≠ d → i < 100 → τ'.2 65 (100 * e + i) = τ.2 65 (100 * e + i))) (hS : SH d σ' τ') : INV σ' τ' := by
  obtain ⟨h6, h65⟩ := h6
  have hX : ∀ g, g = 1 ∨ g = 2 → X g σ' = X g σ := by
    intro g hg
    funext k j
    unfold X
    rcases hg with rfl | rfl <;> split <;> exact h5 _ _ (by omega) (by omega) (by omega)
  have hM : Ml τ' = Ml τ ∨ True := Or.inr trivial
  have hI : Mi τ' = Mi τ := by
    funext k j
    unfold Mi
    split
    case h_6 => split <;> exact h6 _ _ (by omega) (by omega)
    all_goals exact h6 _ _ (by omega) (by omega)
  have h36 : ∀ j, τ'.1 36 j = τ.1 36 j := fun j => h6 _ _ (by omega) (by omega)
  have hm : ∀ k j, k ≤ 20 → Ml τ' k j = Ml τ k j := by
    intro k j hk
    match k, hk with
    | 0, _ => exact h36 j
    | 1, _ => exact h36 3
    | 2, _ => exact h36 7
    | 3, _ => exact h36 16
    | k + 4, hk => exact h6 (33 + (k + 4)) j (by omega) (by omega)
  refine ⟨?_, ?_, ?_, ?_, fun e he => ?_⟩
  · obtain ⟨a0, a1, a2, a3, a4, a5, a6⟩ := h.c
    refine ⟨?_, ?_, ?_, ?_, ?_, ?_, ?_⟩ <;> (rw [h5 _ _ (by omega) (by omega) (by omega), h5 _ _ (by omega) (by omega) (by omega)]; assumption)
  · obtain ⟨ns, nr, np, R⟩ := h.g
    refine ⟨ns, nr, np, ?_⟩
    rw [hX 1 (Or.inl rfl)]
    exact REL.c R (fun _ _ _ => rfl) (fun k j _ hk => hm k j hk) ((hm 0 0 (by decide)).trans R.c0) ((hm 0 1 (by decide)).trans R.c1) ((hm 0 2 (by decide)).trans R.c2) R.rc R.rt
  · rw [h36, h5 0 2 (by omega) (by omega) (by omega)]; exact h.ph
  · rw [h5 0 2 (by omega) (by omega) (by omega), hX 2 (Or.inr rfl), hI]; exact h.pi
  · by_cases hed : e = d
    · subst hed; exact hS
    · have e5 : ∀ j, σ'.1 (20 + 2 * e) j = σ.1 (20 + 2 * e) j := fun j => h5 _ _ (by omega) (by omega) (by omega)
      have e5' : ∀ j, σ'.1 (21 + 2 * e) j = σ.1 (21 + 2 * e) j := fun j => h5 _ _ (by omega) (by omega) (by omega)
      have e6 : ∀ k, 57 < k → τ'.1 k e = τ.1 k e := fun k hk => h6 _ _ (by omega) (by omega)
      obtain ⟨a, b, c, r⟩ := h.sh e he
      refine ⟨?_, ?_, ?_, ?_⟩
      · rw [e5, e6 58 (by omega)]; exact a
      · rw [e5]; exact b
      · simp only [e5, e6 59 (by omega), e6 60 (by omega), e6 61 (by omega), e6 62 (by omega)]; exact c
      · simp only [e5, e5', e6 63 (by omega), e6 64 (by omega)]
        intro hh
        obtain ⟨r1, r2, r3, r4, r5, r6⟩ := r hh
        exact ⟨r1, r2, r3, r4, fun i hi => by rw [h65 e i he hed hi]; exact r5 i hi, r6⟩
theorem sim_keep (x1 x2 x3 : Int32) : SIM (fX5_keep x1 x2 x3) (fX6_keep x1 x2 x3) := by
  intro σ τ h0
  have hI := h0.r
  have hT := (scr6.r (τ := τ)).fr6
  unfold fX5_keep fX6_keep fX6_keep_40 fX5_keep_21
  generalize setI τ 36 23 0 = T at *
  obtain ⟨ns, nr, np, R⟩ := hI.g
  have hs8 := R.hs
  have no : ∀ v, ∃ a σ' τ', (some (v, σ) : Option (Int32 × ST)) = some (a, σ') ∧ (some (v, T) : Option (Int32 × ST)) = some (a, τ') ∧ INV σ' τ' ∧ fr5 σ σ' ∧ fr6 τ τ' := fun v => ⟨v, σ, T, rfl, rfl, hI, fr5.rfl, hT⟩
  have e3 : fX6_in x2.toInt64 0 1 T = some (if 0 ≤ x2 ∧ x2 ≤ 1 then 1 else 0) := in_i x2 0 1 T
  rcases shelf_c x1 σ T with ⟨a1, a2⟩ | ⟨d, hd, rfl, a1, a2⟩
  · rw [a1, a2, bR_t, bR_t, if_pos rfl]; exact no (-1)
  rw [a2, bR_t, if_neg h10, a1, bR_t]
  have i8 : inb (nI d) 8 = true := inb_t hd (by decide)
  by_cases h4 : x2 < 0
  · rw [if_neg (fun h => absurd h4 (Int32.not_lt.mpr h.1))] at e3
    rw [e3, bR_t, if_pos rfl]
    show ∃ a σ' τ', (if x2 < 0 then some (-1, σ) else _) = some (a, σ') ∧ _
    rw [if_pos h4]; exact no (-1)
  by_cases h5 : x2 ≤ 1
  · rw [if_pos ⟨Int32.not_lt.mp h4, h5⟩] at e3
    rw [e3, bR_t, if_neg h10]
    show ∃ a σ' τ', (if x2 < 0 then some (-1, σ) else if x2 ≤ 1 then if x2 = 0 then some (0, setI σ (20 + 2 * d) 0 0) else bR (fX4_has 6 x3 σ) fun a2 => if a2 = 0 then some (-1, σ) else bR (fX4_read 6 x3 0 (setI (setI σ (20 + 2 * d) 0 1) (20 + 2 * d) 1 x3)) fun a3 => bR (fX4_read 6 x3 1 (setI (setI (setI σ (20 + 2 * d) 0 1) (20 + 2 * d) 1 x3) (20 + 2 * d) 2 a3)) fun a4 => bR (fX4_read 6 x3 2 (setI (setI (setI (setI σ (20 + 2 * d) 0 1) (20 + 2 * d) 1 x3) (20 + 2 * d) 2 a3) (20 + 2 * d) 3 a4)) fun a5 => some (0, setI (setI (setI (setI (setI σ (20 + 2 * d) 0 1) (20 + 2 * d) 1 x3) (20 + 2 * d) 2 a3) (20 + 2 * d) 3 a4) (20 + 2 * d) 4 a5) else some (-1, σ)) = some (a, σ') ∧ _
    rw [if_neg h4, if_pos h5]
    rcases c2 h4 h5 with rfl | rfl
    · rw [if_pos rfl, if_neg (show ¬ (0 : Int32) = 1 by decide)]
      unfold fX6_keep_42 fX6_keep_97
      rw [al_58, i8, gd_t, if_neg (show ¬ (0 : Int32) = 1 by decide), nI_clamp (by omega)]
      refine ⟨0, setI σ (20 + 2 * d) 0 0, setI T 58 d 0, rfl, rfl, ?_, fr5.rfl.set (by omega), hT.set (by omega)⟩
      have f0 : (setI σ (20 + 2 * d) 0 0).1 (20 + 2 * d) 0 = 0 := by rw [sg, if_pos ⟨rfl, rfl⟩]
      have f6 : (setI T 58 d 0).1 58 d = 0 := by rw [sg, if_pos ⟨rfl, rfl⟩]
      refine INV.shelf hI hd (fun k j h1 h2 h3 => by rw [sg, if_neg (by omega)]) ⟨fun k j h1 h2 => by rw [sg, if_neg (by omega)], fun e i h1 h2 h3 => rfl⟩ ⟨by rw [f0, f6], Or.inl f0, fun h => ?_, fun h => ?_⟩
      · rw [f0] at h; exact absurd h (by decide)
      · rw [f0] at h; exact absurd h (by decide)
    · rw [if_neg h10, if_pos rfl]
      rcases isS2 R x3 with ⟨b1, b2⟩ | ⟨s, hs, rfl, b1, b2⟩
      · rw [b1, bR_t, if_pos rfl, b2, bR_t, if_pos rfl]; exact no (-1)
      rw [b1, bR_t, if_neg h10, b2, bR_t, if_neg h10]
      have i8s : inb (nI s) 8 = true := inb_t (by omega) (by decide)
      let k := 20 + 2 * d
      let σ1 := setI (setI σ k 0 1) k 1 (nI s)
      let σ2 := setI σ1 k 2 (σ.1 7 (3 * s))
      let σ3 := setI σ2 k 3 (σ.1 7 (3 * s + 1))
      have rdK : ∀ (τ : ST) (c : Nat) (x : Int32), (∀ j, τ.1 6 j = σ.1 6 j) → (∀ j, τ.1 7 j = σ.1 7 j) → c < 3 → x = nI c → fX4_read 6 (nI s) x τ = some (σ.1 7 (3 * s + c)) := fun τ c x g6 g7 hc e => by
        rw [← g7]
        exact rd (w := 3) ((g6 3).trans R.xs) ((g6 1).trans hI.c.a0.2) hs hc (by rw [al_7]; omega) (by omega) (by omega) (by rw [al_7]; omega) rfl e
      have o : ∀ (τ : ST) (i : Nat) (v : Int32) (q j : Nat), q < 20 → (setI τ k i v).1 q j = τ.1 q j := fun τ i v q j hq => by rw [sg, if_neg (show ¬ (q = 20 + 2 * d ∧ j = i) by omega)]
      have r1 : fX4_read 6 (nI s) 0 σ1 = some (σ.1 7 (3 * s)) := rdK σ1 0 0 (fun j => by rw [o _ _ _ _ _ (by omega), o _ _ _ _ _ (by omega)]) (fun j => by rw [o _ _ _ _ _ (by omega), o _ _ _ _ _ (by omega)]) (by omega) rfl
      have r2 : fX4_read 6 (nI s) 1 σ2 = some (σ.1 7 (3 * s + 1)) := rdK σ2 1 1 (fun j => by rw [o _ _ _ _ _ (by omega), o _ _ _ _ _ (by omega), o _ _ _ _ _ (by omega)]) (fun j => by rw [o _ _ _ _ _ (by omega), o _ _ _ _ _ (by omega), o _ _ _ _ _ (by omega)]) (by omega) rfl
      have r3 : fX4_read 6 (nI s) 2 σ3 = some (σ.1 7 (3 * s + 2)) := rdK σ3 2 2 (fun j => by rw [o _ _ _ _ _ (by omega), o _ _ _ _ _ (by omega), o _ _ _ _ _ (by omega), o _ _ _ _ _ (by omega)]) (fun j => by rw [o _ _ _ _ _ (by omega), o _ _ _ _ _ (by omega), o _ _ _ _ _ (by omega), o _ _ _ _ _ (by omega)]) (by omega) rfl
      let σ4 := setI σ3 k 4 (σ.1 7 (3 * s + 2))
      let T4 := setI (setI (setI (setI (setI T 58 d 1) 59 d (nI s)) 60 d (T.1 37 s)) 61 d (T.1 38 s)) 62 d (T.1 39 s)
      refine ⟨0, σ4, T4, ?_, ?_, ?_, ((((fr5.rfl.set (by omega)).set (by omega)).set (by omega)).set (by omega)).set (by omega), ((((hT.set (by omega)).set (by omega)).set (by omega)).set (by omega)).set (by omega)⟩
      · show bR (fX4_read 6 (nI s) 0 σ1) _ = _
        rw [r1, bR_t]
        show bR (fX4_read 6 (nI s) 1 σ2) _ = _
        rw [r2, bR_t]
        show bR (fX4_read 6 (nI s) 2 σ3) _ = _
        rw [r3, bR_t]
      · unfold fX6_keep_42 fX6_keep_97
        rw [al_58, al_59, al_60, al_61, al_62, al_37, al_38, al_39, i8, i8s, gd_t, if_pos rfl, gd_t, gd_t, gd_t, gd_t, gd_t, gd_t, gd_t, nI_clamp (show d < 2 ^ 31 by omega), nI_clamp (show s < 2 ^ 31 by omega)]
        rfl
      · have gq : ∀ i, σ4.1 k i = if k = k ∧ i = 4 then σ.1 7 (3 * s + 2) else if k = k ∧ i = 3 then σ.1 7 (3 * s + 1) else if k = k ∧ i = 2 then σ.1 7 (3 * s) else if k = k ∧ i = 1 then nI s else if k = k ∧ i = 0 then 1 else σ.1 k i := fun i => rfl
        have tq : ∀ x, T4.1 x d = if x = 62 ∧ d = d then T.1 39 s else if x = 61 ∧ d = d then T.1 38 s else if x = 60 ∧ d = d then T.1 37 s else if x = 59 ∧ d = d then nI s else if x = 58 ∧ d = d then 1 else T.1 x d := fun x => rfl
        have g0 : σ4.1 k 0 = 1 := by rw [gq]; simp
        have g1 : σ4.1 k 1 = nI s := by rw [gq]; simp
        have g2 : σ4.1 k 2 = σ.1 7 (3 * s) := by rw [gq]; simp
        have g3 : σ4.1 k 3 = σ.1 7 (3 * s + 1) := by rw [gq]; simp
        have g4 : σ4.1 k 4 = σ.1 7 (3 * s + 2) := by rw [gq]; simp
        have q : ∀ x j, ¬ (58 ≤ x ∧ x ≤ 62 ∧ j = d) → T4.1 x j = T.1 x j := fun x j hx => by
          show (if x = 62 ∧ j = d then _ else if x = 61 ∧ j = d then _ else if x = 60 ∧ j = d then _ else if x = 59 ∧ j = d then _ else if x = 58 ∧ j = d then _ else T.1 x j) = _
          rw [if_neg (by omega), if_neg (by omega), if_neg (by omega), if_neg (by omega), if_neg (by omega)]
        have t0 : T4.1 58 d = 1 := by rw [tq]; simp
        have t1 : T4.1 59 d = nI s := by rw [tq]; simp
        have t2 : T4.1 60 d = T.1 37 s := by rw [tq]; simp
        have t3 : T4.1 61 d = T.1 38 s := by rw [tq]; simp
        have t4 : T4.1 62 d = T.1 39 s := by rw [tq]; simp
        obtain ⟨u1, u2, u3⟩ := R.s s hs
        obtain ⟨w1, w2, w3⟩ := R.sr s hs
        refine INV.shelf hI hd (fun x j h1 h2 h3 => ?_) ⟨fun x j h1 h2 => q x j (by omega), fun e i h1 h2 h3 => rfl⟩ ⟨t0.trans g0.symm, Or.inr (Or.inl g0), fun _ => ⟨t1.trans g1.symm, (t2.trans u1).trans g2.symm, (t3.trans u2).trans g3.symm, (t4.trans u3).trans g4.symm, ?_, ?_, ?_, ?_⟩, fun h => ?_⟩
        · show (if x = k ∧ j = 4 then _ else if x = k ∧ j = 3 then _ else if x = k ∧ j = 2 then _ else if x = k ∧ j = 1 then _ else if x = k ∧ j = 0 then _ else σ.1 x j) = _
          rw [if_neg (fun e => h2 e.1), if_neg (fun e => h2 e.1), if_neg (fun e => h2 e.1), if_neg (fun e => h2 e.1), if_neg (fun e => h2 e.1)]
        · show rg (σ4.1 k 1) 0 7
          rw [g1]; exact n_rg (n := 7) (by decide) (by omega)
        · show rg (σ4.1 k 2) 0 7
          rw [g2]; exact w1
        · show rg (σ4.1 k 3) 0 20
          rw [g3]; exact w2
        · show rg (σ4.1 k 4) 0 100
          rw [g4]; exact w3
        · rw [show σ4.1 (20 + 2 * d) 0 = 1 from g0] at h; exact absurd h (by decide)
  · rw [if_neg (fun h => h5 h.2)] at e3
    rw [e3, bR_t, if_pos rfl]
    show ∃ a σ' τ', (if x2 < 0 then some (-1, σ) else if x2 ≤ 1 then _ else some (-1, σ)) = some (a, σ') ∧ _
    rw [if_neg h4, if_neg h5]; exact no (-1)
