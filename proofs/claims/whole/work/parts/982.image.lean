/-- the relation sees only what is there -/
theorem REL.congr {ns nr np : Nat} {X M X' M' : Nat → Nat → Int32} (R : REL ns nr np X M) (x0 : ∀ j, j < 3 → X' 0 j = X 0 j) (x1 : X' 1 0 = X 1 0) (x2 : X' 2 0 = X 2 0) (x3 : X' 3 0 = X 3 0) (x4 : ∀ j, j < 24 → X' 4 j = X 4 j) (x5 : ∀ j, j < 40 → X' 5 j = X 5 j) (x6 : ∀ j, j < 600 → X' 6 j = X 6 j)
    (m0 : ∀ j, j < 3 → M' 0 j = M 0 j) (m1 : M' 1 0 = M 1 0) (m2 : M' 2 0 = M 2 0) (m3 : M' 3 0 = M 3 0) (m4 : ∀ k j, 4 ≤ k → k ≤ 13 → j < 8 → (k ≤ 6 → j < ns) → (7 ≤ k → j < nr) → M' k j = M k j) (m14 : ∀ j, j < 64 → M' 14 j = M 14 j) (m15 : ∀ k p, 15 ≤ k → k ≤ 20 → p < np → M' k p = M k p) : REL ns nr np X' M' := by
  have hs := R.hs
  have hr := R.hr
  have hp := R.hp
  refine ⟨hs, hr, hp, x1.trans R.xs, x2.trans R.xr, x3.trans R.xp, m1.trans R.ms, m2.trans R.mr, m3.trans R.mp, by rw [m0 0 (by omega), x0 0 (by omega)]; exact R.c0, by rw [m0 1 (by omega), x0 1 (by omega)]; exact R.c1, by rw [m0 2 (by omega), x0 2 (by omega)]; exact R.c2, by rw [x0 0 (by omega)]; exact R.rc, by rw [x0 1 (by omega)]; exact R.rt, ?_, ?_, ?_, ?_, ?_, ?_, ?_, ?_, ?_⟩
  · intro s h
    rw [m4 4 s (by omega) (by omega) (by omega) (by omega) (by omega), m4 5 s (by omega) (by omega) (by omega) (by omega) (by omega), m4 6 s (by omega) (by omega) (by omega) (by omega) (by omega), x4 _ (by omega), x4 _ (by omega), x4 _ (by omega)]; exact R.s s h
  · intro s h
    rw [x4 _ (by omega), x4 _ (by omega), x4 _ (by omega)]; exact R.sr s h
  · intro s h
    rw [m4 7 s (by omega) (by omega) (by omega) (by omega) (by omega), m4 8 s (by omega) (by omega) (by omega) (by omega) (by omega), m4 9 s (by omega) (by omega) (by omega) (by omega) (by omega), m4 10 s (by omega) (by omega) (by omega) (by omega) (by omega), m4 11 s (by omega) (by omega) (by omega) (by omega) (by omega), x5 _ (by omega), x5 _ (by omega), x5 _ (by omega), x5 _ (by omega), x5 _ (by omega)]; exact R.r s h
  · intro s h
    rw [x5 _ (by omega), x5 _ (by omega), x5 _ (by omega), x5 _ (by omega), x5 _ (by omega)]; exact R.rr s h
  · intro p h
    rw [m15 15 p (by omega) (by omega) h, m15 16 p (by omega) (by omega) h, m15 17 p (by omega) (by omega) h, m15 18 p (by omega) (by omega) h, m15 19 p (by omega) (by omega) h, m15 20 p (by omega) (by omega) h, x6 _ (by omega), x6 _ (by omega), x6 _ (by omega), x6 _ (by omega), x6 _ (by omega), x6 _ (by omega)]; exact R.p p h
  · intro p h
    rw [x6 _ (by omega), x6 _ (by omega), x6 _ (by omega), x6 _ (by omega), x6 _ (by omega), x6 _ (by omega)]; exact R.pr p h
  · intro r h
    rw [m4 12 r (by omega) (by omega) (by omega) (by omega) (by omega), R.cm r h]
    exact fs_ext np (fun p hpp => by rw [x6 _ (by omega), x6 _ (by omega)])
  · intro r h
    rw [m4 13 r (by omega) (by omega) (by omega) (by omega) (by omega), R.gv r h]
    exact fs_ext np (fun p hpp => by rw [x6 _ (by omega), x6 _ (by omega)])
  · intro s h r h'
    rw [m14 _ (by omega), R.la s h r h']
    exact lst_ext np (fun j hj => (x6 j (by omega)).symm)
/-- one table becomes as another -/
theorem become_t {k0 k1 L : Nat} (h0 : alen (k0 + 1) = L) (h1 : alen (k1 + 1) = L) (hL : L < 2 ^ 31) (σ : ST) : fX4_become k0 k1 σ = some (cpyI (setI σ k0 3 (σ.1 k1 3)) (k1 + 1) (k0 + 1) 0 0 L) := by
  unfold fX4_become
  rw [h0, h1]
  have e : imin (Int32.ofNat L) (Int32.ofNat L) = nI L := by
    show imin (nI L) (nI L) = nI L
    rw [imin_n hL hL, Nat.min_self]
  have z : (0 : Int32).toNatClampNeg = 0 := by decide
  have ok : okCpy 0 0 (nI L) L L = true := by
    unfold okCpy
    rw [z, nI_clamp hL]
    simp only [Bool.and_eq_true, decide_eq_true_eq]
    exact ⟨by decide, by decide, nI_pos' hL, by omega, by omega⟩
  rw [e, ok, gd_t, z, nI_clamp hL]
theorem cpg (σ : ST) (a0 a1 L k j : Nat) : (cpyI σ a0 a1 0 0 L).1 k j = if k = a1 then (if j < L then σ.1 a0 j else σ.1 a1 j) else σ.1 k j := by
  show (if k = a1 then va_cpy (σ.1 a0) (σ.1 a1) 0 0 L j else σ.1 k j) = _
  by_cases h : k = a1
  · rw [if_pos h, if_pos h]
    by_cases h2 : j < L
    · rw [if_pos h2, pk_cpy_in (by omega) (by omega), Nat.zero_add, Nat.sub_zero]
    · rw [if_neg h2, pk_cpy_out (by omega)]
  · rw [if_neg h, if_neg h]
/-- a game becomes as another -/
theorem become_g {a b : Nat} (h : a = 1 ∧ b = 2 ∨ a = 2 ∧ b = 1) (σ : ST) : ∃ σ', fX0_become a b σ = some σ' ∧ σ'.2 = σ.2 ∧ (∀ k j, ¬ (k = a ∧ j < 3) → ¬ ((k = 6 * a ∨ k = 6 * a + 2 ∨ k = 6 * a + 4) ∧ j = 3) → k ≠ 6 * a + 1 → k ≠ 6 * a + 3 → k ≠ 6 * a + 5 → σ'.1 k j = σ.1 k j) ∧
    (∀ j, j < 3 → σ'.1 a j = σ.1 b j) ∧ σ'.1 (6 * a) 3 = σ.1 (6 * b) 3 ∧ σ'.1 (6 * a + 2) 3 = σ.1 (6 * b + 2) 3 ∧ σ'.1 (6 * a + 4) 3 = σ.1 (6 * b + 4) 3 ∧ (∀ j, j < 24 → σ'.1 (6 * a + 1) j = σ.1 (6 * b + 1) j) ∧ (∀ j, j < 40 → σ'.1 (6 * a + 3) j = σ.1 (6 * b + 3) j) ∧ (∀ j, j < 600 → σ'.1 (6 * a + 5) j = σ.1 (6 * b + 5) j) := by
  have l1 : alen (6 * a + 1) = 24 ∧ alen (6 * b + 1) = 24 ∧ alen (6 * a + 2 + 1) = 40 ∧ alen (6 * b + 2 + 1) = 40 ∧ alen (6 * a + 4 + 1) = 600 ∧ alen (6 * b + 4 + 1) = 600 := by
    rcases h with ⟨rfl, rfl⟩ | ⟨rfl, rfl⟩ <;> exact ⟨rfl, rfl, rfl, rfl, rfl, rfl⟩
  obtain ⟨l1, l2, l3, l4, l5, l6⟩ := l1
  unfold fX0_become
  have hb : ¬ b = a := by omega
  have v1 : (setI σ a 0 (σ.1 b 0)).1 b 1 = σ.1 b 1 := by rw [sg, if_neg (fun e => hb e.1)]
  have v2 : (setI (setI σ a 0 (σ.1 b 0)) a 1 (σ.1 b 1)).1 b 2 = σ.1 b 2 := by rw [sg, if_neg (fun e => hb e.1), sg, if_neg (fun e => hb e.1)]
  rw [v1, v2]
  have e0 : ∀ k j, (setI (setI (setI σ a 0 (σ.1 b 0)) a 1 (σ.1 b 1)) a 2 (σ.1 b 2)).1 k j = if k = a ∧ j < 3 then σ.1 b j else σ.1 k j := fun k j => by
    rw [sg, sg, sg]
    by_cases q : k = a ∧ j < 3
    · rw [if_pos q]
      by_cases q2 : j = 2
      · rw [if_pos ⟨q.1, q2⟩, q2]
      · rw [if_neg (fun e => q2 e.2)]
        by_cases q1 : j = 1
        · rw [if_pos ⟨q.1, q1⟩, q1]
        · rw [if_neg (fun e => q1 e.2), if_pos ⟨q.1, by omega⟩, show j = 0 by omega]
    · rw [if_neg (by omega), if_neg (by omega), if_neg (by omega), if_neg q]
  have e2 : (setI (setI (setI σ a 0 (σ.1 b 0)) a 1 (σ.1 b 1)) a 2 (σ.1 b 2)).2 = σ.2 := rfl
  generalize setI (setI (setI σ a 0 (σ.1 b 0)) a 1 (σ.1 b 1)) a 2 (σ.1 b 2) = s0 at e0 e2 ⊢
  rw [become_t l1 l2 (by omega), bR_t, become_t l3 l4 (by omega), bR_t, become_t l5 l6 (by omega), bR_t]
  refine ⟨_, rfl, e2, fun k j h1 h2 h3 h4 h5 => ?_, fun j hj => ?_, ?_, ?_, ?_, fun j hj => ?_, fun j hj => ?_, fun j hj => ?_⟩
  all_goals simp only [cpg, sg, e0]
  · rw [if_neg (by omega), if_neg (by omega), if_neg (by omega), if_neg (by omega), if_neg (by omega), if_neg (by omega), if_neg (by omega)]
  · rw [if_neg (by omega), if_neg (by omega), if_neg (by omega), if_neg (by omega), if_neg (by omega), if_neg (by omega), if_pos ⟨trivial, hj⟩]
  · rcases h with ⟨rfl, rfl⟩ | ⟨rfl, rfl⟩ <;> simp
  · rcases h with ⟨rfl, rfl⟩ | ⟨rfl, rfl⟩ <;> simp
  · rcases h with ⟨rfl, rfl⟩ | ⟨rfl, rfl⟩ <;> simp
  · rcases h with ⟨rfl, rfl⟩ | ⟨rfl, rfl⟩ <;> simp [hj]
  · rcases h with ⟨rfl, rfl⟩ | ⟨rfl, rfl⟩ <;> simp [hj]
  · rcases h with ⟨rfl, rfl⟩ | ⟨rfl, rfl⟩ <;> simp [hj]
theorem INV.img {σ τ σ' τ' : ST} (h : INV σ τ) (h5 : ∀ k j, 18 ≤ k → k < 36 → σ'.1 k j = σ.1 k j) (hc : ∀ k j, 6 ≤ k → k ≤ 18 → k % 2 = 0 → j ≠ 3 → σ'.1 k j = σ.1 k j) (h6 : ∀ k j, 58 ≤ k → τ'.1 k j = τ.1 k j) (h65 : τ'.2 = τ.2) (R : ∃ ns nr np, REL ns nr np (X 1 σ') (Ml τ')) (hph : τ'.1 36 34 = σ'.1 0 2) (hpi : σ'.1 0 2 = 0 ∨ σ'.1 0 2 = 1 ∧ ∃ ns nr np, REL ns nr np (X 2 σ') (Mi τ')) : INV σ' τ' := by
  refine ⟨?_, R, hph, hpi, fun d hd => ?_⟩
  · obtain ⟨a0, a1, a2, a3, a4, a5, a6⟩ := h.c
    refine ⟨?_, ?_, ?_, ?_, ?_, ?_, ?_⟩ <;> (rw [hc _ _ (by omega) (by omega) (by omega) (by omega), hc _ _ (by omega) (by omega) (by omega) (by omega)]; assumption)
  · have e5 : ∀ j, σ'.1 (20 + 2 * d) j = σ.1 (20 + 2 * d) j := fun j => h5 _ _ (by omega) (by omega)
    have e5' : ∀ j, σ'.1 (21 + 2 * d) j = σ.1 (21 + 2 * d) j := fun j => h5 _ _ (by omega) (by omega)
    obtain ⟨a, b, c, e⟩ := h.sh d hd
    refine ⟨?_, ?_, ?_, ?_⟩
    · rw [e5, h6 58 d (by omega)]; exact a
    · rw [e5]; exact b
    · simp only [e5, h6 59 d (by omega), h6 60 d (by omega), h6 61 d (by omega), h6 62 d (by omega)]; exact c
    · simp only [e5, e5', h6 63 d (by omega), h6 64 d (by omega), h65]; exact e
/-- where the model's picture holds a cell of the game -/
theorem Mi_pos (τ : ST) {k : Nat} (h : 4 ≤ k) (h2 : k ≤ 20) (j : Nat) : Mi τ k j = τ.1 57 (pos (33 + k) j) := by
  unfold Mi
  split
  · omega
  · omega
  · omega
  · omega
  · rw [show 33 + 14 = 47 from rfl, pos_b]
  · split
    · rw [pos_a (by omega) (by omega), show 33 + k - 37 = k - 4 by omega]
    · have h14 : k ≠ 14 := by assumption
      rw [pos_c (by omega), show 33 + k - 48 = k - 15 by omega]
theorem Ml_c (τ : ST) {k : Nat} (h : 4 ≤ k) (j : Nat) : Ml τ k j = τ.1 (33 + k) j := by
  match k, h with
  | k + 4, _ => rfl
theorem dom_m {k j : Nat} (h : 4 ≤ k) (h2 : k ≤ 13) (hj : j < 8) : dom (33 + k) j := by unfold dom; omega
theorem dom_p {k j : Nat} (h : 15 ≤ k) (h2 : k ≤ 20) (hj : j < 100) : dom (33 + k) j := by unfold dom; omega
theorem pos_lt {k j : Nat} (h : dom k j) : pos k j < 750 := by
  unfold dom at h
  unfold pos
  repeat' split
  all_goals omega
theorem cv_n {k : Nat} (h : k ≠ 53) (v : Int32) : cv k v = v := by unfold cv; rw [if_neg h]
theorem dv_n {k : Nat} (h : k ≠ 53) (v : Int32) : dv k v = v := by unfold dv; rw [if_neg h]
theorem rg01 {v : Int32} (h : rg v 0 1) : v = 0 ∨ v = 1 := c2 (Int32.not_lt.mpr h.1) h.2
theorem cv_b {k : Nat} {v : Int32} (h : k = 53 → rg v 0 1) : cv k v = v := by
  by_cases hk : k = 53
  · rcases rg01 (h hk) with rfl | rfl <;> (unfold cv; rw [if_pos hk]; rfl)
  · exact cv_n hk v
theorem dv_b {k : Nat} {v : Int32} (h : k = 53 → rg v 0 1) : dv k v = v := by
  by_cases hk : k = 53
  · rcases rg01 (h hk) with rfl | rfl <;> (unfold dv; rw [if_pos hk]; rfl)
  · exact dv_n hk v
theorem sim_image : SIM fX5_image fX6_image := by
  intro σ τ hI
  unfold fX5_image fX6_image
  obtain ⟨ns, nr, np, R⟩ := hI.g
  have hp := R.hp
  have hT : ∀ k j, ¬ (k = 36 ∧ (j = 23 ∨ j = 34 ∨ j = 37)) → (setI (setI (setI τ 36 23 0) 36 34 1) 36 37 1).1 k j = τ.1 k j := fun k j h => by
    rw [sg, if_neg (by omega), sg, if_neg (by omega), sg, if_neg (by omega)]
  have h34 : (setI (setI (setI τ 36 23 0) 36 34 1) 36 37 1).1 36 34 = 1 := by rw [sg, if_neg (by omega), sg, if_pos ⟨rfl, rfl⟩]
  have h37 : (setI (setI (setI τ 36 23 0) 36 34 1) 36 37 1).1 36 37 = 1 := by rw [sg, if_pos ⟨rfl, rfl⟩]
  have hT2 : (setI (setI (setI τ 36 23 0) 36 34 1) 36 37 1).2 = τ.2 := rfl
  generalize setI (setI (setI τ 36 23 0) 36 34 1) 36 37 1 = T at hT h34 h37 hT2 ⊢
  obtain ⟨τ', e6, ⟨c2, -, -, co, -, c1, -⟩⟩ := carryAll_t (Or.inr rfl) h37
  have c1 : ∀ k j, dom k j → τ'.1 57 (pos k j) = cv k (T.1 k j) ∧ τ'.1 k j = cv k (T.1 k j) := fun k j h => c1 rfl k j h (pos_lt h)
  obtain ⟨σ', e5, s2, so, sa, s6, s8, s10, s7, s9, s11⟩ := become_g (a := 2) (b := 1) (Or.inr ⟨rfl, rfl⟩) σ
  have hm : ∀ j, (j < 4 ∨ j = 7 ∨ j = 16) → τ'.1 36 j = τ.1 36 j ∧ τ'.1 57 (pos 36 j) = τ.1 36 j := fun j hj => by
    obtain ⟨g1, g2⟩ := c1 36 j (by unfold dom; omega)
    rw [cv_n (by omega), hT 36 j (by omega)] at g1 g2
    exact ⟨g2, g1⟩
  have hk : ∀ k j, 4 ≤ k → k ≤ 13 → j < 8 → Ml τ' k j = Ml τ k j ∧ Mi τ' k j = Ml τ k j := fun k j h1 h2 h3 => by
    obtain ⟨g1, g2⟩ := c1 (33 + k) j (dom_m h1 h2 h3)
    rw [cv_n (by omega), hT _ _ (by omega)] at g1 g2
    rw [Ml_c _ h1, Ml_c _ h1, Mi_pos _ h1 (by omega)]
    exact ⟨g2, g1⟩
  have hl : ∀ j, j < 64 → Ml τ' 14 j = Ml τ 14 j ∧ Mi τ' 14 j = Ml τ 14 j := fun j hj => by
    obtain ⟨g1, g2⟩ := c1 47 j (by unfold dom; omega)
    rw [cv_n (by omega), hT _ _ (by omega)] at g1 g2
    rw [Mi_pos _ (by omega) (by omega)]
    exact ⟨g2, g1⟩
  have hq : ∀ k p, 15 ≤ k → k ≤ 20 → p < np → Ml τ' k p = Ml τ k p ∧ Mi τ' k p = Ml τ k p := fun k p h1 h2 h3 => by
    obtain ⟨g1, g2⟩ := c1 (33 + k) p (dom_p h1 h2 (by omega))
    have hb : 33 + k = 53 → rg (T.1 (33 + k) p) 0 1 := fun e => by
      have hk20 : k = 20 := by omega
      subst hk20
      rw [hT _ _ (by omega)]
      have := (R.p p h3).2.2.2.2.2
      rw [show τ.1 (33 + 20) p = Ml τ 20 p from rfl, this]
      exact (R.pr p h3).2.2.2.2.2
    rw [cv_b hb, hT _ _ (by omega)] at g1 g2
    rw [Ml_c _ (by omega), Ml_c _ (by omega), Mi_pos _ (by omega) h2]
    exact ⟨g2, g1⟩
  have b02 : (setI σ' 0 2 1).1 0 2 = 1 := by rw [sg, if_pos ⟨rfl, rfl⟩]
  have b0 : ∀ k j, k ≠ 0 → (setI σ' 0 2 1).1 k j = σ'.1 k j := fun k j h => by rw [sg, if_neg (fun e => h e.1)]
  rw [e5, bR_t, e6, bR_t]
  have f16 : τ'.1 36 16 = nI np := (hm 16 (by omega)).1.trans R.mp
  have f10 : (setI σ' 0 2 1).1 10 3 = nI np := by rw [b0 _ _ (by omega), so _ _ (by omega) (by omega) (by omega) (by omega) (by omega)]; exact R.xp
  rw [f16, f10]
  refine ⟨_, _, _, rfl, rfl, ?_, ⟨fun k j hk => by rw [b0 _ _ (by omega)]; exact so _ _ (by omega) (by omega) (by omega) (by omega) (by omega), s2⟩, fun k j hk => (co k j (by unfold dom; omega) (by omega) (by omega)).trans (hT k j (by omega))⟩
  refine INV.img hI (fun k j h1 h2 => by rw [b0 _ _ (by omega)]; exact so _ _ (by omega) (by omega) (by omega) (by omega) (by omega)) (fun k j h1 h2 h3 h4 => by rw [b0 _ _ (by omega)]; exact so _ _ (by omega) (by omega) (by omega) (by omega) (by omega)) (fun k j hk => (co k j (by unfold dom; omega) (by omega) (by omega)).trans (hT k j (by omega))) (c2.trans hT2) ⟨ns, nr, np, ?_⟩ ?_ (Or.inr ⟨b02, ns, nr, np, ?_⟩)
  · refine REL.congr R (fun j hj => ?_) ?_ ?_ ?_ (fun j hj => ?_) (fun j hj => ?_) (fun j hj => ?_) (fun j hj => (hm j (by omega)).1) (hm 3 (by omega)).1 (hm 7 (by omega)).1 (hm 16 (by omega)).1 (fun k j h1 h2 h3 _ _ => (hk k j h1 h2 h3).1) (fun j hj => (hl j hj).1) (fun k p h1 h2 h3 => (hq k p h1 h2 h3).1)
    all_goals exact (b0 _ _ (by omega)).trans (so _ _ (by omega) (by omega) (by omega) (by omega) (by omega))
  · rw [b02, co 36 34 (by unfold dom; omega) (by omega) (by omega)]; exact h34
  · refine REL.congr R (fun j hj => ?_) ?_ ?_ ?_ (fun j hj => ?_) (fun j hj => ?_) (fun j hj => ?_) (fun j hj => ?_) ?_ ?_ ?_ (fun k j h1 h2 h3 _ _ => (hk k j h1 h2 h3).2) (fun j hj => (hl j hj).2) (fun k p h1 h2 h3 => (hq k p h1 h2 h3).2)
    · exact (b0 2 j (by omega)).trans (sa j hj)
    · exact (b0 12 3 (by omega)).trans s6
    · exact (b0 14 3 (by omega)).trans s8
    · exact (b0 16 3 (by omega)).trans s10
    · exact (b0 13 j (by omega)).trans (s7 j hj)
    · exact (b0 15 j (by omega)).trans (s9 j hj)
    · exact (b0 17 j (by omega)).trans (s11 j hj)
    · have := (hm j (by omega)).2
      rw [show pos 36 j = j by unfold pos; rw [if_pos rfl, if_pos (by omega)]] at this
      exact this
    · exact (hm 3 (by omega)).2
    · exact (hm 7 (by omega)).2
    · exact (hm 16 (by omega)).2
theorem sim_restore : SIM fX5_restore fX6_restore := by
  intro σ τ h0
  have hI := h0.r
  have hT := (scr6.r (τ := τ)).fr6
  unfold fX5_restore fX6_restore
  generalize setI τ 36 23 0 = T0 at *
  rw [hI.ph]
  rcases hI.pi with h | ⟨h, ns, nr, np, R⟩
  · rw [if_pos h, if_pos h]; exact ⟨-3, σ, T0, rfl, rfl, hI, fr5.rfl, hT⟩
  have hne : ¬ σ.1 0 2 = 0 := by rw [h]; decide
  rw [if_neg hne, if_neg hne]
  have hp := R.hp
  have hT1 : ∀ k j, ¬ (k = 36 ∧ j = 37) → (setI T0 36 37 0).1 k j = T0.1 k j := fun k j h => by rw [sg, if_neg h]
  have h37 : (setI T0 36 37 0).1 36 37 = 0 := by rw [sg, if_pos ⟨rfl, rfl⟩]
  have hT2 : (setI T0 36 37 0).2 = T0.2 := rfl
  generalize setI T0 36 37 0 = T at hT1 h37 hT2 ⊢
  obtain ⟨τ', e6, ⟨c2, -, -, co, -, -, c0⟩⟩ := carryAll_t (Or.inl rfl) h37
  obtain ⟨c57, c0⟩ := c0 rfl
  have c57 : ∀ i, τ'.1 57 i = T0.1 57 i := fun i => (c57 i).trans (hT1 57 i (by omega))
  have c1 : ∀ k j, dom k j → τ'.1 k j = dv k (T0.1 57 (pos k j)) := fun k j h => by rw [c0 k j h (pos_lt h), hT1 _ _ (by omega)]
  have hMi : Mi τ' = Mi T0 := by
    funext k j
    unfold Mi
    split
    case h_6 => split <;> exact c57 _
    all_goals exact c57 _
  obtain ⟨σ', e5, s2, so, sa, s6, s8, s10, s7, s9, s11⟩ := become_g (a := 1) (b := 2) (Or.inl ⟨rfl, rfl⟩) σ
  have hm : ∀ j, (j < 4 ∨ j = 7 ∨ j = 16) → τ'.1 36 j = T0.1 57 (pos 36 j) := fun j hj => by
    have g1 := c1 36 j (by unfold dom; omega)
    rw [dv_n (by omega)] at g1
    exact g1
  have hk : ∀ k j, 4 ≤ k → k ≤ 13 → j < 8 → Ml τ' k j = Mi T0 k j := fun k j h1 h2 h3 => by
    have g1 := c1 (33 + k) j (dom_m h1 h2 h3)
    rw [dv_n (by omega)] at g1
    rw [Ml_c _ h1, Mi_pos _ h1 (by omega)]
    exact g1
  have hl : ∀ j, j < 64 → Ml τ' 14 j = Mi T0 14 j := fun j hj => by
    have g1 := c1 47 j (by unfold dom; omega)
    rw [dv_n (by omega)] at g1
    rw [Mi_pos _ (by omega) (by omega)]
    exact g1
  have hq : ∀ k p, 15 ≤ k → k ≤ 20 → p < np → Ml τ' k p = Mi T0 k p := fun k p h1 h2 h3 => by
    have g1 := c1 (33 + k) p (dom_p h1 h2 (by omega))
    have hb : 33 + k = 53 → rg (T0.1 57 (pos (33 + k) p)) 0 1 := fun e => by
      rw [← Mi_pos T0 (by omega) h2]
      have hk20 : k = 20 := by omega
      subst hk20
      rw [(R.p p h3).2.2.2.2.2]
      exact (R.pr p h3).2.2.2.2.2
    rw [dv_b hb] at g1
    rw [Ml_c _ (by omega), Mi_pos _ (by omega) h2]
    exact g1
  rw [e5, bR_t, e6, bR_t]
  have f16 : τ'.1 36 16 = nI np := (hm 16 (by omega)).trans R.mp
  have f10 : σ'.1 10 3 = nI np := s10.trans R.xp
  rw [f16, f10]
  refine ⟨_, _, _, rfl, rfl, ?_, ⟨fun k j hk => so _ _ (by omega) (by omega) (by omega) (by omega) (by omega), s2⟩, fun k j hk => ((co k j (by unfold dom; omega) (by omega) (by omega)).trans (hT1 k j (by omega))).trans (hT k j hk)⟩
  have o02 : σ'.1 0 2 = σ.1 0 2 := so _ _ (by omega) (by omega) (by omega) (by omega) (by omega)
  refine INV.img hI (fun k j h1 h2 => so _ _ (by omega) (by omega) (by omega) (by omega) (by omega)) (fun k j h1 h2 h3 h4 => so _ _ (by omega) (by omega) (by omega) (by omega) (by omega)) (fun k j hk => (co k j (by unfold dom; omega) (by omega) (by omega)).trans (hT1 k j (by omega))) (c2.trans hT2) ⟨ns, nr, np, ?_⟩ ?_ (Or.inr ⟨o02.trans h, ns, nr, np, ?_⟩)
  · refine REL.congr R (fun j hj => sa j hj) s6 s8 s10 (fun j hj => s7 j hj) (fun j hj => s9 j hj) (fun j hj => s11 j hj) (fun j hj => ?_) (hm 3 (by omega)) (hm 7 (by omega)) (hm 16 (by omega)) (fun k j h1 h2 h3 _ _ => hk k j h1 h2 h3) hl hq
    have := hm j (by omega)
    rw [show pos 36 j = j by unfold pos; rw [if_pos rfl, if_pos (by omega)]] at this
    match j, hj with
    | 0, _ => exact this
    | 1, _ => exact this
    | 2, _ => exact this
  · rw [o02, co 36 34 (by unfold dom; omega) (by omega) (by omega), hT1 _ _ (by omega)]; exact hI.ph
  · rw [hMi, show X 2 σ' = X 2 σ from funext fun k => funext fun j => by unfold X; split <;> exact so _ _ (by omega) (by omega) (by omega) (by omega) (by omega)]; exact R
