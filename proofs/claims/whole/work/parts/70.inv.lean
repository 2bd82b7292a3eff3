/-! THE PURE LEVEL: what the class's places and the model's have in common. -/
theorem sg (σ : ST) (k j : Nat) (x : Int32) (k' j' : Nat) : (setI σ k j x).1 k' j' = if k' = k ∧ j' = j then x else σ.1 k' j' := rfl
theorem s2 (σ : ST) (k j : Nat) (x : Int32) : (setI σ k j x).2 = σ.2 := rfl
theorem l1 (σ : ST) (k j : Nat) (x : Int64) : (setL σ k j x).1 = σ.1 := rfl
theorem lg (σ : ST) (k j : Nat) (x : Int64) (k' j' : Nat) : (setL σ k j x).2 k' j' = if k' = k ∧ j' = j then x else σ.2 k' j' := rfl
theorem inb_t {n N : Nat} (h : n < N) (hN : N < 2 ^ 31) : inb (nI n) N = true := by
  simp only [inb, Bool.and_eq_true, decide_eq_true_eq, nI_clamp (show n < 2 ^ 31 by omega)]
  exact ⟨nI_pos' (by omega), h⟩
def fs (f : Nat → Int32) : Nat → Int32
  | 0 => 0
  | n + 1 => fs f n + f n
/-- the last BACK of a pair of these two, of the first n -/
def lst (P : Nat → Int32) (s r : Int32) : Nat → Int32
  | 0 => -1
  | n + 1 => if P (6 * n) = s ∧ P (6 * n + 1) = r then P (6 * n + 4) else lst P s r n
def X (g : Nat) (σ : ST) (k j : Nat) : Int32 := match k with
  | 0 => σ.1 g j
  | 1 => σ.1 (6 * g) 3
  | 2 => σ.1 (6 * g + 2) 3
  | 3 => σ.1 (6 * g + 4) 3
  | 4 => σ.1 (6 * g + 1) j
  | 5 => σ.1 (6 * g + 3) j
  | _ => σ.1 (6 * g + 5) j
def Ml (τ : ST) (k j : Nat) : Int32 := match k with
  | 0 => τ.1 36 j
  | 1 => τ.1 36 3
  | 2 => τ.1 36 7
  | 3 => τ.1 36 16
  | k => τ.1 (33 + k) j
def Mi (τ : ST) (k j : Nat) : Int32 := match k with
  | 0 => τ.1 57 j
  | 1 => τ.1 57 3
  | 2 => τ.1 57 4
  | 3 => τ.1 57 5
  | 14 => τ.1 57 (86 + j)
  | k => if k < 14 then τ.1 57 (6 + 10 * j + (k - 4)) else τ.1 57 (150 + 6 * j + (k - 15))
def rg (x lo hi : Int32) : Prop := lo ≤ x ∧ x ≤ hi
abbrev REL (ns nr np : Nat) (X M : Nat → Nat → Int32) : Prop := (ns ≤ 8) ∧ (nr ≤ 8) ∧ (np ≤ 100) ∧ (X 1 0 = nI ns) ∧ (X 2 0 = nI nr) ∧ (X 3 0 = nI np) ∧ (M 1 0 = nI ns) ∧ (M 2 0 = nI nr) ∧ (M 3 0 = nI np) ∧ (M 0 0 = X 0 0) ∧ (M 0 1 = X 0 1) ∧ (M 0 2 = X 0 2) ∧ (rg (X 0 0) 1 20) ∧ (rg (X 0 1) 1 5) ∧ (∀ s, s < ns → M 4 s = X 4 (3 * s) ∧ M 5 s = X 4 (3 * s + 1) ∧ M 6 s = X 4 (3 * s + 2)) ∧ (∀ s, s < ns → rg (X 4 (3 * s)) 0 7 ∧ rg (X 4 (3 * s + 1)) 0 20 ∧ rg (X 4 (3 * s + 2)) 0 100) ∧ (∀ r, r < nr → M 7 r = X 5 (5 * r) ∧ M 8 r = X 5 (5 * r + 1) ∧ M 9 r = X 5 (5 * r + 2) ∧ M 10 r = X 5 (5 * r + 3) ∧ M 11 r = X 5 (5 * r + 4)) ∧ (∀ r, r < nr → rg (X 5 (5 * r)) 0 1 ∧ rg (X 5 (5 * r + 1)) 0 100 ∧ rg (X 5 (5 * r + 2)) 0 100 ∧ rg (X 5 (5 * r + 3)) 0 100 ∧ rg (X 5 (5 * r + 4)) 0 100) ∧ (∀ p, p < np → M 15 p = X 6 (6 * p) ∧ M 16 p = X 6 (6 * p + 1) ∧ M 17 p = X 6 (6 * p + 2) ∧ M 18 p = X 6 (6 * p + 3) ∧ M 19 p = X 6 (6 * p + 4) ∧ M 20 p = X 6 (6 * p + 5)) ∧ (∀ p, p < np → (∃ s, s < ns ∧ X 6 (6 * p) = nI s) ∧ (∃ r, r < nr ∧ X 6 (6 * p + 1) = nI r) ∧ rg (X 6 (6 * p + 2)) 0 20 ∧ rg (X 6 (6 * p + 3)) 0 100 ∧ rg (X 6 (6 * p + 4)) 0 (X 6 (6 * p + 3)) ∧ rg (X 6 (6 * p + 5)) 0 1) ∧ (∀ r, r < nr → M 12 r = fs (fun p => if X 6 (6 * p + 1) = nI r then X 6 (6 * p + 3) else 0) np) ∧ (∀ r, r < nr → M 13 r = fs (fun p => if X 6 (6 * p + 1) = nI r then X 6 (6 * p + 4) else 0) np) ∧ (∀ s, s < 8 → ∀ r, r < 8 → M 14 (8 * s + r) = lst (X 6) (nI s) (nI r) np)
theorem REL.hs {ns nr np : Nat} {X M : Nat → Nat → Int32} (h : REL ns nr np X M) : ns ≤ 8 := h.1
theorem REL.hr {ns nr np : Nat} {X M : Nat → Nat → Int32} (h : REL ns nr np X M) : nr ≤ 8 := h.2.1
theorem REL.hp {ns nr np : Nat} {X M : Nat → Nat → Int32} (h : REL ns nr np X M) : np ≤ 100 := h.2.2.1
theorem REL.xs {ns nr np : Nat} {X M : Nat → Nat → Int32} (h : REL ns nr np X M) : X 1 0 = nI ns := h.2.2.2.1
theorem REL.xr {ns nr np : Nat} {X M : Nat → Nat → Int32} (h : REL ns nr np X M) : X 2 0 = nI nr := h.2.2.2.2.1
theorem REL.xp {ns nr np : Nat} {X M : Nat → Nat → Int32} (h : REL ns nr np X M) : X 3 0 = nI np := h.2.2.2.2.2.1
theorem REL.ms {ns nr np : Nat} {X M : Nat → Nat → Int32} (h : REL ns nr np X M) : M 1 0 = nI ns := h.2.2.2.2.2.2.1
theorem REL.mr {ns nr np : Nat} {X M : Nat → Nat → Int32} (h : REL ns nr np X M) : M 2 0 = nI nr := h.2.2.2.2.2.2.2.1
theorem REL.mp {ns nr np : Nat} {X M : Nat → Nat → Int32} (h : REL ns nr np X M) : M 3 0 = nI np := h.2.2.2.2.2.2.2.2.1
theorem REL.c0 {ns nr np : Nat} {X M : Nat → Nat → Int32} (h : REL ns nr np X M) : M 0 0 = X 0 0 := h.2.2.2.2.2.2.2.2.2.1
theorem REL.c1 {ns nr np : Nat} {X M : Nat → Nat → Int32} (h : REL ns nr np X M) : M 0 1 = X 0 1 := h.2.2.2.2.2.2.2.2.2.2.1
theorem REL.c2 {ns nr np : Nat} {X M : Nat → Nat → Int32} (h : REL ns nr np X M) : M 0 2 = X 0 2 := h.2.2.2.2.2.2.2.2.2.2.2.1
theorem REL.rc {ns nr np : Nat} {X M : Nat → Nat → Int32} (h : REL ns nr np X M) : rg (X 0 0) 1 20 := h.2.2.2.2.2.2.2.2.2.2.2.2.1
theorem REL.rt {ns nr np : Nat} {X M : Nat → Nat → Int32} (h : REL ns nr np X M) : rg (X 0 1) 1 5 := h.2.2.2.2.2.2.2.2.2.2.2.2.2.1
theorem REL.s {ns nr np : Nat} {X M : Nat → Nat → Int32} (h : REL ns nr np X M) : ∀ s, s < ns → M 4 s = X 4 (3 * s) ∧ M 5 s = X 4 (3 * s + 1) ∧ M 6 s = X 4 (3 * s + 2) := h.2.2.2.2.2.2.2.2.2.2.2.2.2.2.1
theorem REL.sr {ns nr np : Nat} {X M : Nat → Nat → Int32} (h : REL ns nr np X M) : ∀ s, s < ns → rg (X 4 (3 * s)) 0 7 ∧ rg (X 4 (3 * s + 1)) 0 20 ∧ rg (X 4 (3 * s + 2)) 0 100 := h.2.2.2.2.2.2.2.2.2.2.2.2.2.2.2.1
theorem REL.r {ns nr np : Nat} {X M : Nat → Nat → Int32} (h : REL ns nr np X M) : ∀ r, r < nr → M 7 r = X 5 (5 * r) ∧ M 8 r = X 5 (5 * r + 1) ∧ M 9 r = X 5 (5 * r + 2) ∧ M 10 r = X 5 (5 * r + 3) ∧ M 11 r = X 5 (5 * r + 4) := h.2.2.2.2.2.2.2.2.2.2.2.2.2.2.2.2.1
theorem REL.rr {ns nr np : Nat} {X M : Nat → Nat → Int32} (h : REL ns nr np X M) : ∀ r, r < nr → rg (X 5 (5 * r)) 0 1 ∧ rg (X 5 (5 * r + 1)) 0 100 ∧ rg (X 5 (5 * r + 2)) 0 100 ∧ rg (X 5 (5 * r + 3)) 0 100 ∧ rg (X 5 (5 * r + 4)) 0 100 := h.2.2.2.2.2.2.2.2.2.2.2.2.2.2.2.2.2.1
theorem REL.p {ns nr np : Nat} {X M : Nat → Nat → Int32} (h : REL ns nr np X M) : ∀ p, p < np → M 15 p = X 6 (6 * p) ∧ M 16 p = X 6 (6 * p + 1) ∧ M 17 p = X 6 (6 * p + 2) ∧ M 18 p = X 6 (6 * p + 3) ∧ M 19 p = X 6 (6 * p + 4) ∧ M 20 p = X 6 (6 * p + 5) := h.2.2.2.2.2.2.2.2.2.2.2.2.2.2.2.2.2.2.1
theorem REL.pr {ns nr np : Nat} {X M : Nat → Nat → Int32} (h : REL ns nr np X M) : ∀ p, p < np → (∃ s, s < ns ∧ X 6 (6 * p) = nI s) ∧ (∃ r, r < nr ∧ X 6 (6 * p + 1) = nI r) ∧ rg (X 6 (6 * p + 2)) 0 20 ∧ rg (X 6 (6 * p + 3)) 0 100 ∧ rg (X 6 (6 * p + 4)) 0 (X 6 (6 * p + 3)) ∧ rg (X 6 (6 * p + 5)) 0 1 := h.2.2.2.2.2.2.2.2.2.2.2.2.2.2.2.2.2.2.2.1
theorem REL.cm {ns nr np : Nat} {X M : Nat → Nat → Int32} (h : REL ns nr np X M) : ∀ r, r < nr → M 12 r = fs (fun p => if X 6 (6 * p + 1) = nI r then X 6 (6 * p + 3) else 0) np := h.2.2.2.2.2.2.2.2.2.2.2.2.2.2.2.2.2.2.2.2.1
theorem REL.gv {ns nr np : Nat} {X M : Nat → Nat → Int32} (h : REL ns nr np X M) : ∀ r, r < nr → M 13 r = fs (fun p => if X 6 (6 * p + 1) = nI r then X 6 (6 * p + 4) else 0) np := h.2.2.2.2.2.2.2.2.2.2.2.2.2.2.2.2.2.2.2.2.2.1
theorem REL.la {ns nr np : Nat} {X M : Nat → Nat → Int32} (h : REL ns nr np X M) : ∀ s, s < 8 → ∀ r, r < 8 → M 14 (8 * s + r) = lst (X 6) (nI s) (nI r) np := h.2.2.2.2.2.2.2.2.2.2.2.2.2.2.2.2.2.2.2.2.2.2
abbrev CST (σ : ST) : Prop := (σ.1 6 0 = 8 ∧ σ.1 6 1 = 3) ∧ (σ.1 8 0 = 8 ∧ σ.1 8 1 = 5) ∧ (σ.1 10 0 = 100 ∧ σ.1 10 1 = 6) ∧ (σ.1 12 0 = 8 ∧ σ.1 12 1 = 3) ∧ (σ.1 14 0 = 8 ∧ σ.1 14 1 = 5) ∧ (σ.1 16 0 = 100 ∧ σ.1 16 1 = 6) ∧ (σ.1 18 0 = 34 ∧ σ.1 18 1 = 6)
theorem CST.a0 {σ : ST} (h : CST σ) : σ.1 6 0 = 8 ∧ σ.1 6 1 = 3 := h.1
theorem CST.a1 {σ : ST} (h : CST σ) : σ.1 8 0 = 8 ∧ σ.1 8 1 = 5 := h.2.1
theorem CST.a2 {σ : ST} (h : CST σ) : σ.1 10 0 = 100 ∧ σ.1 10 1 = 6 := h.2.2.1
theorem CST.a3 {σ : ST} (h : CST σ) : σ.1 12 0 = 8 ∧ σ.1 12 1 = 3 := h.2.2.2.1
theorem CST.a4 {σ : ST} (h : CST σ) : σ.1 14 0 = 8 ∧ σ.1 14 1 = 5 := h.2.2.2.2.1
theorem CST.a5 {σ : ST} (h : CST σ) : σ.1 16 0 = 100 ∧ σ.1 16 1 = 6 := h.2.2.2.2.2.1
theorem CST.a6 {σ : ST} (h : CST σ) : σ.1 18 0 = 34 ∧ σ.1 18 1 = 6 := h.2.2.2.2.2.2
abbrev SH (d : Nat) (σ τ : ST) : Prop := (τ.1 58 d = σ.1 (20 + 2 * d) 0) ∧ (σ.1 (20 + 2 * d) 0 = 0 ∨ σ.1 (20 + 2 * d) 0 = 1 ∨ σ.1 (20 + 2 * d) 0 = 2) ∧ (σ.1 (20 + 2 * d) 0 = 1 → τ.1 59 d = σ.1 (20 + 2 * d) 1 ∧ τ.1 60 d = σ.1 (20 + 2 * d) 2 ∧ τ.1 61 d = σ.1 (20 + 2 * d) 3 ∧ τ.1 62 d = σ.1 (20 + 2 * d) 4 ∧ rg (σ.1 (20 + 2 * d) 1) 0 7 ∧ rg (σ.1 (20 + 2 * d) 2) 0 7 ∧ rg (σ.1 (20 + 2 * d) 3) 0 20 ∧ rg (σ.1 (20 + 2 * d) 4) 0 100) ∧ (σ.1 (20 + 2 * d) 0 = 2 → τ.1 63 d = σ.1 (20 + 2 * d) 5 ∧ rg (σ.1 (20 + 2 * d) 5) 0 2 ∧ τ.1 64 d = σ.1 (20 + 2 * d) 6 ∧ rg (σ.1 (20 + 2 * d) 6) 0 100 ∧ (∀ i, i < 100 → τ.2 65 (100 * d + i) = (σ.1 (21 + 2 * d) i).toInt64) ∧ (σ.1 (20 + 2 * d) 5 = 0 → ∀ i, i < 100 → rg (σ.1 (21 + 2 * d) i) (-128) 127))
theorem SH.h {d : Nat} {σ τ : ST} (h : SH d σ τ) : τ.1 58 d = σ.1 (20 + 2 * d) 0 := h.1
theorem SH.hr {d : Nat} {σ τ : ST} (h : SH d σ τ) : σ.1 (20 + 2 * d) 0 = 0 ∨ σ.1 (20 + 2 * d) 0 = 1 ∨ σ.1 (20 + 2 * d) 0 = 2 := h.2.1
theorem SH.s {d : Nat} {σ τ : ST} (h : SH d σ τ) : σ.1 (20 + 2 * d) 0 = 1 → τ.1 59 d = σ.1 (20 + 2 * d) 1 ∧ τ.1 60 d = σ.1 (20 + 2 * d) 2 ∧ τ.1 61 d = σ.1 (20 + 2 * d) 3 ∧ τ.1 62 d = σ.1 (20 + 2 * d) 4 ∧ rg (σ.1 (20 + 2 * d) 1) 0 7 ∧ rg (σ.1 (20 + 2 * d) 2) 0 7 ∧ rg (σ.1 (20 + 2 * d) 3) 0 20 ∧ rg (σ.1 (20 + 2 * d) 4) 0 100 := h.2.2.1
theorem SH.r {d : Nat} {σ τ : ST} (h : SH d σ τ) : σ.1 (20 + 2 * d) 0 = 2 → τ.1 63 d = σ.1 (20 + 2 * d) 5 ∧ rg (σ.1 (20 + 2 * d) 5) 0 2 ∧ τ.1 64 d = σ.1 (20 + 2 * d) 6 ∧ rg (σ.1 (20 + 2 * d) 6) 0 100 ∧ (∀ i, i < 100 → τ.2 65 (100 * d + i) = (σ.1 (21 + 2 * d) i).toInt64) ∧ (σ.1 (20 + 2 * d) 5 = 0 → ∀ i, i < 100 → rg (σ.1 (21 + 2 * d) i) (-128) 127) := h.2.2.2
abbrev INV (σ τ : ST) : Prop := (CST σ) ∧ (∃ ns nr np, REL ns nr np (X 1 σ) (Ml τ)) ∧ (τ.1 36 34 = σ.1 0 2) ∧ (σ.1 0 2 = 0 ∨ σ.1 0 2 = 1 ∧ ∃ ns nr np, REL ns nr np (X 2 σ) (Mi τ)) ∧ (∀ d, d < 8 → SH d σ τ)
theorem INV.c {σ τ : ST} (h : INV σ τ) : CST σ := h.1
theorem INV.g {σ τ : ST} (h : INV σ τ) : ∃ ns nr np, REL ns nr np (X 1 σ) (Ml τ) := h.2.1
theorem INV.ph {σ τ : ST} (h : INV σ τ) : τ.1 36 34 = σ.1 0 2 := h.2.2.1
theorem INV.pi {σ τ : ST} (h : INV σ τ) : σ.1 0 2 = 0 ∨ σ.1 0 2 = 1 ∧ ∃ ns nr np, REL ns nr np (X 2 σ) (Mi τ) := h.2.2.2.1
theorem INV.sh {σ τ : ST} (h : INV σ τ) : ∀ d, d < 8 → SH d σ τ := h.2.2.2.2
def sc5 (k j : Nat) : Prop := k = 3 ∨ k = 4 ∨ k = 18 ∧ j = 3 ∨ k = 19
def sc6 (k j : Nat) : Prop := k = 36 ∧ (23 ≤ j ∧ j ≤ 28 ∨ j = 32 ∨ j = 33 ∨ j = 36 ∨ j = 37) ∨ k = 54 ∨ k = 55 ∨ k = 56
def ag5 (σ σ' : ST) : Prop := ∀ k j, k < 36 → ¬ sc5 k j → σ'.1 k j = σ.1 k j
def ag6 (τ τ' : ST) : Prop := (∀ k j, 36 ≤ k → ¬ sc6 k j → τ'.1 k j = τ.1 k j) ∧ ∀ j, τ'.2 65 j = τ.2 65 j
def fr5 (σ σ' : ST) : Prop := (∀ k j, 36 ≤ k → σ'.1 k j = σ.1 k j) ∧ σ'.2 = σ.2
def fr6 (τ τ' : ST) : Prop := ∀ k j, k < 36 → τ'.1 k j = τ.1 k j
def scr5 (σ σ' : ST) : Prop := (∀ k j, ¬ sc5 k j → σ'.1 k j = σ.1 k j) ∧ σ'.2 = σ.2
def scr6 (τ τ' : ST) : Prop := (∀ k j, ¬ sc6 k j → τ'.1 k j = τ.1 k j) ∧ ∀ j, τ'.2 65 j = τ.2 65 j
theorem INV.f {σ τ σ' τ' : ST} (h : INV σ τ) (h5 : ag5 σ σ') (h6 : ag6 τ τ') : INV σ' τ' := by
  have hX : ∀ g, g = 1 ∨ g = 2 → X g σ' = X g σ := by
    intro g hg
    funext k j
    unfold X
    rcases hg with rfl | rfl <;> split <;> exact h5 _ _ (by omega) (by unfold sc5; omega)
  have hM : ∀ k j, (k = 0 → j ≤ 2) → (k ≤ 20) → Ml τ' k j = Ml τ k j := by
    intro k j hj hk
    match k, hj, hk with
    | 0, hj, _ =>
      have := hj rfl
      exact h6.1 36 j (by omega) (by unfold sc6; omega)
    | 1, _, _ => exact h6.1 36 3 (by omega) (by unfold sc6; omega)
    | 2, _, _ => exact h6.1 36 7 (by omega) (by unfold sc6; omega)
    | 3, _, _ => exact h6.1 36 16 (by omega) (by unfold sc6; omega)
    | k + 4, _, hk => exact h6.1 (33 + (k + 4)) j (by omega) (by unfold sc6; omega)
  have hI : ∀ k j, Mi τ' k j = Mi τ k j := by
    intro k j
    unfold Mi
    split
    case h_6 => split <;> exact h6.1 _ _ (by omega) (by unfold sc6; omega)
    all_goals exact h6.1 _ _ (by omega) (by unfold sc6; omega)
  have h36 : τ'.1 36 34 = τ.1 36 34 := h6.1 _ _ (by omega) (by unfold sc6; omega)
  have h02 : σ'.1 0 2 = σ.1 0 2 := h5 _ _ (by omega) (by unfold sc5; omega)
  refine ⟨?_, ?_, ?_, ?_, fun d hd => ?_⟩
  · obtain ⟨a0, a1, a2, a3, a4, a5, a6⟩ := h.c
    refine ⟨?_, ?_, ?_, ?_, ?_, ?_, ?_⟩ <;> (rw [h5 _ _ (by omega) (by unfold sc5; omega), h5 _ _ (by omega) (by unfold sc5; omega)]; assumption)
  · obtain ⟨ns, nr, np, R⟩ := h.g
    refine ⟨ns, nr, np, ?_⟩
    rw [hX 1 (Or.inl rfl)]
    obtain ⟨hs, hr, hp, xs, xr, xp, ms, mr, mp, c0, c1, c2, rc, rt, s, sr, r, rr, p, pr, cm, gv, la⟩ := R
    exact ⟨hs, hr, hp, xs, xr, xp, by rw [hM _ _ (by omega) (by omega)]; exact ms, by rw [hM _ _ (by omega) (by omega)]; exact mr, by rw [hM _ _ (by omega) (by omega)]; exact mp,
      by rw [hM _ _ (by omega) (by omega)]; exact c0, by rw [hM _ _ (by omega) (by omega)]; exact c1, by rw [hM _ _ (by omega) (by omega)]; exact c2, rc, rt,
      fun i hi => by rw [hM 4 _ (by omega) (by omega), hM 5 _ (by omega) (by omega), hM 6 _ (by omega) (by omega)]; exact s i hi, sr,
      fun i hi => by rw [hM 7 _ (by omega) (by omega), hM 8 _ (by omega) (by omega), hM 9 _ (by omega) (by omega), hM 10 _ (by omega) (by omega), hM 11 _ (by omega) (by omega)]; exact r i hi, rr,
      fun i hi => by rw [hM 15 _ (by omega) (by omega), hM 16 _ (by omega) (by omega), hM 17 _ (by omega) (by omega), hM 18 _ (by omega) (by omega), hM 19 _ (by omega) (by omega), hM 20 _ (by omega) (by omega)]; exact p i hi, pr,
      fun i hi => by rw [hM _ _ (by omega) (by omega)]; exact cm i hi, fun i hi => by rw [hM _ _ (by omega) (by omega)]; exact gv i hi, fun i hi j hj => by rw [hM _ _ (by omega) (by omega)]; exact la i hi j hj⟩
  · rw [h36, h02]; exact h.ph
  · rw [h02, hX 2 (Or.inr rfl), show Mi τ' = Mi τ from funext fun k => funext fun j => hI k j]; exact h.pi
  · have e5 : ∀ j, σ'.1 (20 + 2 * d) j = σ.1 (20 + 2 * d) j := fun j => h5 _ _ (by omega) (by unfold sc5; omega)
    have e5' : ∀ j, σ'.1 (21 + 2 * d) j = σ.1 (21 + 2 * d) j := fun j => h5 _ _ (by omega) (by unfold sc5; omega)
    have e6 : ∀ k, 57 < k → τ'.1 k d = τ.1 k d := fun k hk => h6.1 _ _ (by omega) (by unfold sc6; omega)
    obtain ⟨a, b, c, e⟩ := h.sh d hd
    refine ⟨?_, ?_, ?_, ?_⟩
    · rw [e5, e6 58 (by omega)]; exact a
    · rw [e5]; exact b
    · simp only [e5, e6 59 (by omega), e6 60 (by omega), e6 61 (by omega), e6 62 (by omega)]; exact c
    · simp only [e5, e5', e6 63 (by omega), e6 64 (by omega), h6.2]; exact e
theorem scr5.ag5 {σ σ' : ST} (h : scr5 σ σ') : ag5 σ σ' := fun k j _ hs => h.1 k j hs
theorem scr5.fr5 {σ σ' : ST} (h : scr5 σ σ') : fr5 σ σ' := ⟨fun k j hk => h.1 k j (by unfold sc5; omega), h.2⟩
theorem scr6.ag6 {σ σ' : ST} (h : scr6 σ σ') : ag6 σ σ' := ⟨fun k j _ hs => h.1 k j hs, h.2⟩
theorem scr6.fr6 {σ σ' : ST} (h : scr6 σ σ') : fr6 σ σ' := fun k j hk => h.1 k j (by unfold sc6; omega)
theorem fr5.ag6 {σ σ' : ST} (h : fr5 σ σ') : ag6 σ σ' := ⟨fun k j hk _ => h.1 k j hk, fun j => by rw [h.2]⟩
theorem fr6.ag5 {σ σ' : ST} (h : fr6 σ σ') : ag5 σ σ' := fun k j hk _ => h k j hk
theorem ag5.rfl {σ : ST} : ag5 σ σ := fun _ _ _ _ => Eq.refl _
theorem ag6.rfl {σ : ST} : ag6 σ σ := ⟨fun _ _ _ _ => Eq.refl _, fun _ => Eq.refl _⟩
theorem fr5.rfl {σ : ST} : fr5 σ σ := ⟨fun _ _ _ => Eq.refl _, Eq.refl _⟩
theorem fr6.rfl {σ : ST} : fr6 σ σ := fun _ _ _ => Eq.refl _
theorem scr5.rfl {σ : ST} : scr5 σ σ := ⟨fun _ _ _ => Eq.refl _, Eq.refl _⟩
theorem scr6.rfl {σ : ST} : scr6 σ σ := ⟨fun _ _ _ => Eq.refl _, fun _ => Eq.refl _⟩
theorem fr5.tr {σ σ' σ'' : ST} (h : fr5 σ σ') (h' : fr5 σ' σ'') : fr5 σ σ'' := ⟨fun k j hk => (h'.1 k j hk).trans (h.1 k j hk), h'.2.trans h.2⟩
theorem fr6.tr {σ σ' σ'' : ST} (h : fr6 σ σ') (h' : fr6 σ' σ'') : fr6 σ σ'' := fun k j hk => (h' k j hk).trans (h k j hk)
theorem scr5.tr {σ σ' σ'' : ST} (h : scr5 σ σ') (h' : scr5 σ' σ'') : scr5 σ σ'' := ⟨fun k j hk => (h'.1 k j hk).trans (h.1 k j hk), h'.2.trans h.2⟩
theorem scr6.tr {σ σ' σ'' : ST} (h : scr6 σ σ') (h' : scr6 σ' σ'') : scr6 σ σ'' := ⟨fun k j hk => (h'.1 k j hk).trans (h.1 k j hk), fun j => (h'.2 j).trans (h.2 j)⟩
theorem scr5.set {σ σ' : ST} (h : scr5 σ σ') {k j : Nat} {x : Int32} (hk : sc5 k j) : scr5 σ (setI σ' k j x) := ⟨fun a b hs => by
  rw [sg, if_neg (fun e => hs (by rw [e.1, e.2]; exact hk))]; exact h.1 a b hs, h.2⟩
theorem scr6.set {σ σ' : ST} (h : scr6 σ σ') {k j : Nat} {x : Int32} (hk : sc6 k j) : scr6 σ (setI σ' k j x) := ⟨fun a b hs => by
  rw [sg, if_neg (fun e => hs (by rw [e.1, e.2]; exact hk))]; exact h.1 a b hs, h.2⟩
theorem scr6.r {τ : ST} : scr6 τ (setI τ 36 23 0) := scr6.rfl.set (by unfold sc6; omega)
theorem fr5.set {σ σ' : ST} (h : fr5 σ σ') {k j : Nat} {x : Int32} (hk : k < 36) : fr5 σ (setI σ' k j x) := ⟨fun a b hs => by
  rw [sg, if_neg (fun e => by omega)]; exact h.1 a b hs, h.2⟩
theorem fr6.set {σ σ' : ST} (h : fr6 σ σ') {k j : Nat} {x : Int32} (hk : 36 ≤ k) : fr6 σ (setI σ' k j x) := fun a b hs => by
  rw [sg, if_neg (fun e => by omega)]; exact h a b hs
theorem fr6.setL {σ σ' : ST} (h : fr6 σ σ') {k j : Nat} {x : Int64} : fr6 σ (setL σ' k j x) := h
/-- the two functions of a call go on alike -/
def SIM (F G : ST → Option (Int32 × ST)) : Prop := ∀ σ τ, INV σ τ → ∃ a σ' τ', F σ = some (a, σ') ∧ G τ = some (a, τ') ∧ INV σ' τ' ∧ fr5 σ σ' ∧ fr6 τ τ'
def SIMr (F : ST → Option Int32) (G : ST → Option (Int32 × ST)) : Prop := ∀ σ τ, INV σ τ → ∃ a τ', F σ = some a ∧ G τ = some (a, τ') ∧ scr6 τ τ'
def SIMs (F : ST → Option (Int32 × ST)) (G : ST → Option (Int32 × ST)) : Prop := ∀ σ τ, INV σ τ → ∃ a σ' τ', F σ = some (a, σ') ∧ G τ = some (a, τ') ∧ scr5 σ σ' ∧ scr6 τ τ'
theorem SIMs.sim {F G : ST → Option (Int32 × ST)} (h : SIMs F G) : SIM F G := fun σ τ hI => by
  obtain ⟨a, σ', τ', e1, e2, h5, h6⟩ := h σ τ hI
  exact ⟨a, σ', τ', e1, e2, hI.f h5.ag5 h6.ag6, h5.fr5, h6.fr6⟩
theorem SIM.go {F G : ST → Option (Int32 × ST)} (h : SIM F G) {σ : ST} (hI : INV σ σ) : ∃ a σ1 σ2, F σ = some (a, σ1) ∧ G σ1 = some (a, σ2) ∧ INV σ2 σ2 := by
  obtain ⟨a, σ1, τ1, e1, -, -, h5, -⟩ := h σ σ hI
  obtain ⟨b, σ3, τ2, e3, e4, hJ, h5', h6'⟩ := h σ σ1 (hI.f ag5.rfl h5.ag6)
  rw [e1] at e3
  cases e3
  refine ⟨a, σ1, τ2, e1, e4, hJ.f h6'.ag5 ag6.rfl⟩
theorem SIMr.go {F : ST → Option Int32} {G : ST → Option (Int32 × ST)} (h : SIMr F G) {σ : ST} (hI : INV σ σ) : ∃ a σ2, F σ = some a ∧ G σ = some (a, σ2) ∧ INV σ2 σ2 := by
  obtain ⟨a, σ2, e1, e2, h6⟩ := h σ σ hI
  exact ⟨a, σ2, e1, e2, hI.f h6.fr6.ag5 h6.ag6⟩
