/-- a sender more -/
theorem REL.addS {ns nr np : Nat} {X M X' M' : Nat → Nat → Int32} (R : REL ns nr np X M) (h8 : ns < 8) {v0 v1 v2 : Nat} (b0 : v0 ≤ 7) (b1 : v1 ≤ 20) (b2 : v2 ≤ 100) (x0 : ∀ j, X' 0 j = X 0 j) (x1 : X' 1 0 = nI (ns + 1)) (x2 : X' 2 0 = X 2 0) (x3 : X' 3 0 = X 3 0) (x4 : ∀ j, j < 3 * ns → X' 4 j = X 4 j) (xv : X' 4 (3 * ns) = nI v0 ∧ X' 4 (3 * ns + 1) = nI v1 ∧ X' 4 (3 * ns + 2) = nI v2) (x5 : X' 5 = X 5) (x6 : X' 6 = X 6)
    (m0 : ∀ j, j < 3 → M' 0 j = M 0 j) (m1 : M' 1 0 = nI (ns + 1)) (m2 : M' 2 0 = M 2 0) (m3 : M' 3 0 = M 3 0) (m4 : ∀ k j, 4 ≤ k → k ≤ 6 → j < ns → M' k j = M k j) (mv : M' 4 ns = nI v0 ∧ M' 5 ns = nI v1 ∧ M' 6 ns = nI v2) (m7 : ∀ k, 7 ≤ k → k ≤ 20 → M' k = M k) : REL (ns + 1) nr np X' M' := by
  refine ⟨by omega, R.hr, R.hp, x1, x2.trans R.xr, x3.trans R.xp, m1, m2.trans R.mr, m3.trans R.mp, by rw [m0 0 (by omega), x0]; exact R.c0, by rw [m0 1 (by omega), x0]; exact R.c1, by rw [m0 2 (by omega), x0]; exact R.c2, by rw [x0]; exact R.rc, by rw [x0]; exact R.rt, fun s h => ?_, fun s h => ?_, ?_, ?_, ?_, fun p h => ?_, ?_, ?_, ?_⟩
  · by_cases e : s = ns
    · subst e
      exact ⟨mv.1.trans xv.1.symm, mv.2.1.trans xv.2.1.symm, mv.2.2.trans xv.2.2.symm⟩
    · rw [m4 4 s (by omega) (by omega) (by omega), m4 5 s (by omega) (by omega) (by omega), m4 6 s (by omega) (by omega) (by omega), x4 _ (by omega), x4 _ (by omega), x4 _ (by omega)]; exact R.s s (by omega)
  · by_cases e : s = ns
    · subst e
      rw [xv.1, xv.2.1, xv.2.2]
      exact ⟨n_rg (n := 7) (by decide) b0, n_rg (n := 20) (by decide) b1, n_rg (n := 100) (by decide) b2⟩
    · rw [x4 _ (by omega), x4 _ (by omega), x4 _ (by omega)]; exact R.sr s (by omega)
  · rw [x5, m7 7 (by omega) (by omega), m7 8 (by omega) (by omega), m7 9 (by omega) (by omega), m7 10 (by omega) (by omega), m7 11 (by omega) (by omega)]; exact R.r
  · rw [x5]; exact R.rr
  · rw [x6, m7 15 (by omega) (by omega), m7 16 (by omega) (by omega), m7 17 (by omega) (by omega), m7 18 (by omega) (by omega), m7 19 (by omega) (by omega), m7 20 (by omega) (by omega)]; exact R.p
  · rw [x6]
    obtain ⟨⟨s, hs, es⟩, q⟩ := R.pr p h
    exact ⟨⟨s, by omega, es⟩, q⟩
  · rw [x6, m7 12 (by omega) (by omega)]; exact R.cm
  · rw [x6, m7 13 (by omega) (by omega)]; exact R.gv
  · rw [x6, m7 14 (by omega) (by omega)]; exact R.la
/-- a returner more -/
theorem REL.addR {ns nr np : Nat} {X M X' M' : Nat → Nat → Int32} (R : REL ns nr np X M) (h8 : nr < 8) {bx v0 v1 v2 v3 : Nat} (bb : bx ≤ 1) (b0 : v0 ≤ 100) (b1 : v1 ≤ 100) (b2 : v2 ≤ 100) (b3 : v3 ≤ 100) (x0 : ∀ j, X' 0 j = X 0 j) (x1 : X' 1 0 = X 1 0) (x2 : X' 2 0 = nI (nr + 1)) (x3 : X' 3 0 = X 3 0) (x5 : ∀ j, j < 5 * nr → X' 5 j = X 5 j) (xv : X' 5 (5 * nr) = nI bx ∧ X' 5 (5 * nr + 1) = nI v0 ∧ X' 5 (5 * nr + 2) = nI v1 ∧ X' 5 (5 * nr + 3) = nI v2 ∧ X' 5 (5 * nr + 4) = nI v3) (x4 : X' 4 = X 4) (x6 : X' 6 = X 6)
    (m0 : ∀ j, j < 3 → M' 0 j = M 0 j) (m1 : M' 1 0 = M 1 0) (m2 : M' 2 0 = nI (nr + 1)) (m3 : M' 3 0 = M 3 0) (m4 : ∀ k j, 7 ≤ k → k ≤ 13 → j < nr → M' k j = M k j) (mv : M' 7 nr = nI bx ∧ M' 8 nr = nI v0 ∧ M' 9 nr = nI v1 ∧ M' 10 nr = nI v2 ∧ M' 11 nr = nI v3 ∧ M' 12 nr = 0 ∧ M' 13 nr = 0) (m7 : ∀ k, 4 ≤ k → k ≤ 20 → ¬ (7 ≤ k ∧ k ≤ 13) → M' k = M k) : REL ns (nr + 1) np X' M' := by
  have no : ∀ (f : Nat → Int32) (p : Nat), p < np → (if X 6 (6 * p + 1) = nI nr then f p else 0) = 0 := fun f p h => by
    obtain ⟨-, ⟨r, hr, er⟩, -⟩ := R.pr p h
    rw [er, if_neg (fun e => by have := (nI_eq (by omega) (by omega)).mp e; omega)]
  refine ⟨R.hs, by omega, R.hp, x1.trans R.xs, x2, x3.trans R.xp, m1.trans R.ms, m2, m3.trans R.mp, by rw [m0 0 (by omega), x0]; exact R.c0, by rw [m0 1 (by omega), x0]; exact R.c1, by rw [m0 2 (by omega), x0]; exact R.c2, by rw [x0]; exact R.rc, by rw [x0]; exact R.rt, ?_, ?_, fun r h => ?_, fun r h => ?_, ?_, fun p h => ?_, fun r h => ?_, fun r h => ?_, ?_⟩
  · rw [x4, m7 4 (by omega) (by omega) (by omega), m7 5 (by omega) (by omega) (by omega), m7 6 (by omega) (by omega) (by omega)]; exact R.s
  · rw [x4]; exact R.sr
  · by_cases e : r = nr
    · subst e
      exact ⟨mv.1.trans xv.1.symm, mv.2.1.trans xv.2.1.symm, mv.2.2.1.trans xv.2.2.1.symm, mv.2.2.2.1.trans xv.2.2.2.1.symm, mv.2.2.2.2.1.trans xv.2.2.2.2.symm⟩
    · rw [m4 7 r (by omega) (by omega) (by omega), m4 8 r (by omega) (by omega) (by omega), m4 9 r (by omega) (by omega) (by omega), m4 10 r (by omega) (by omega) (by omega), m4 11 r (by omega) (by omega) (by omega), x5 _ (by omega), x5 _ (by omega), x5 _ (by omega), x5 _ (by omega), x5 _ (by omega)]; exact R.r r (by omega)
  · by_cases e : r = nr
    · subst e
      rw [xv.1, xv.2.1, xv.2.2.1, xv.2.2.2.1, xv.2.2.2.2]
      exact ⟨n_rg (n := 1) (by decide) bb, n_rg (n := 100) (by decide) b0, n_rg (n := 100) (by decide) b1, n_rg (n := 100) (by decide) b2, n_rg (n := 100) (by decide) b3⟩
    · rw [x5 _ (by omega), x5 _ (by omega), x5 _ (by omega), x5 _ (by omega), x5 _ (by omega)]; exact R.rr r (by omega)
  · rw [x6, m7 15 (by omega) (by omega) (by omega), m7 16 (by omega) (by omega) (by omega), m7 17 (by omega) (by omega) (by omega), m7 18 (by omega) (by omega) (by omega), m7 19 (by omega) (by omega) (by omega), m7 20 (by omega) (by omega) (by omega)]; exact R.p
  · rw [x6]
    obtain ⟨q0, ⟨r, hr, er⟩, q⟩ := R.pr p h
    exact ⟨q0, ⟨r, by omega, er⟩, q⟩
  · rw [x6]
    by_cases e : r = nr
    · subst e
      rw [mv.2.2.2.2.2.1]
      exact (fs_z np (no _)).symm
    · rw [m4 12 r (by omega) (by omega) (by omega)]; exact R.cm r (by omega)
  · rw [x6]
    by_cases e : r = nr
    · subst e
      rw [mv.2.2.2.2.2.2]
      exact (fs_z np (no _)).symm
    · rw [m4 13 r (by omega) (by omega) (by omega)]; exact R.gv r (by omega)
  · rw [x6, m7 14 (by omega) (by omega) (by omega)]; exact R.la
/-- what carrying out changes -/
abbrev K5 (σ σ' : ST) : Prop := (∀ k j, k ≠ 1 → ¬ ((k = 6 ∨ k = 8) ∧ j = 3) → k ≠ 7 → k ≠ 9 → σ'.1 k j = σ.1 k j) ∧ σ'.2 = σ.2
abbrev K6 (ns nr : Nat) (T T' : ST) : Prop := (∀ k j, ¬ (k = 36 ∧ (j = 0 ∨ j = 1 ∨ j = 3 ∨ j = 7)) → ¬ (37 ≤ k ∧ k ≤ 39 ∧ ns ≤ j) → ¬ (40 ≤ k ∧ k ≤ 46 ∧ nr ≤ j) → T'.1 k j = T.1 k j) ∧ T'.2 = T.2
theorem K5.tr {σ σ' σ'' : ST} (h : K5 σ σ') (h' : K5 σ' σ'') : K5 σ σ'' := ⟨fun k j a b c d => (h'.1 k j a b c d).trans (h.1 k j a b c d), h'.2.trans h.2⟩
theorem K6.tr {ns nr ns' nr' : Nat} {T T' T'' : ST} (h : K6 ns nr T T') (h' : K6 ns' nr' T' T'') (e : ns ≤ ns') (e' : nr ≤ nr') : K6 ns nr T T'' := ⟨fun k j a b c => (h'.1 k j a (by omega) (by omega)).trans (h.1 k j a b c), h'.2.trans h.2⟩
theorem K5.cst {σ σ' : ST} (h : K5 σ σ') (hC : CST σ) : CST σ' := by
  obtain ⟨a0, a1, a2, a3, a4, a5, a6⟩ := hC
  refine ⟨?_, ?_, ?_, ?_, ?_, ?_, ?_⟩ <;> (rw [h.1 _ _ (by omega) (by omega) (by omega) (by omega), h.1 _ _ (by omega) (by omega) (by omega) (by omega)]; assumption)
/-- statement i in the table -/
abbrev RI (Q i : Nat) (σ : ST) : Prop := i < Q ∧ Q ≤ 34 ∧ σ.1 18 3 = nI Q ∧ σ.1 18 1 = 6
theorem RI.rs {Q i c : Nat} {σ σ' : ST} {x : Int32} (h : RI Q i σ) (hk : ∀ j, σ'.1 18 j = σ.1 18 j ∧ σ'.1 19 j = σ.1 19 j) (hc : c < 6) (e : x = nI c) : fX4_read 18 (nI i) x σ' = some (σ.1 19 (6 * i + c)) := by
  rw [← (hk (6 * i + c)).2]
  have hi := h.1
  have hQ := h.2.1
  exact rd (w := 6) (n := Q) ((hk 3).1.trans h.2.2.1) ((hk 1).1.trans h.2.2.2) hi hc (by rw [al_19]; omega) (by omega) (by omega) (by rw [al_19]; omega) rfl e
theorem RI.r0 {Q i c : Nat} {σ : ST} {x : Int32} (h : RI Q i σ) (hc : c < 6) (e : x = nI c) : fX4_read 18 (nI i) x σ = some (σ.1 19 (6 * i + c)) := h.rs (fun _ => ⟨rfl, rfl⟩) hc e
