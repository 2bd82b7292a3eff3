/-- the cells that the model's picture holds, and where -/
def dom (k j : Nat) : Prop := k = 36 ∧ (j < 4 ∨ j = 7 ∨ j = 16) ∨ 37 ≤ k ∧ k ≤ 46 ∧ j < 8 ∨ k = 47 ∧ j < 64 ∨ 48 ≤ k ∧ k ≤ 53 ∧ j < 100
def pos (k j : Nat) : Nat := if k = 36 then (if j < 4 then j else if j = 7 then 4 else 5) else if k < 47 then 6 + 10 * j + (k - 37) else if k = 47 then 86 + j else 150 + 6 * j + (k - 48)
def cv (k : Nat) (v : Int32) : Int32 := if k = 53 then (if v = 0 then 0 else 1) else v
def dv (k : Nat) (v : Int32) : Int32 := if k = 53 then (if v = 1 then 1 else 0) else v
theorem dv_cv (k : Nat) (v : Int32) : dv k (cv k v) = cv k v := by
  unfold dv cv
  by_cases h : k = 53
  · rw [if_pos h, if_pos h]
    by_cases h2 : v = 0
    · rw [if_pos h2, if_neg (by decide)]
    · rw [if_neg h2, if_pos rfl]
  · rw [if_neg h, if_neg h]
theorem pos_inj {k j k' j' : Nat} (h : dom k j) (h' : dom k' j') (e : pos k j = pos k' j') : k = k' ∧ j = j' := by
  unfold dom at h h'
  unfold pos at e
  repeat' split at e
  all_goals omega
theorem pos_a {k j : Nat} (h : 37 ≤ k) (h2 : k < 47) : pos k j = 6 + 10 * j + (k - 37) := by
  unfold pos; rw [if_neg (by omega), if_pos h2]
theorem pos_b {j : Nat} : pos 47 j = 86 + j := by
  unfold pos; rw [if_neg (by omega), if_neg (by omega), if_pos rfl]
theorem pos_c {k j : Nat} (h : 47 < k) : pos k j = 150 + 6 * j + (k - 48) := by
  unfold pos; rw [if_neg (by omega), if_neg (by omega), if_neg (by omega)]
/-- the carrying in mood m, n carried -/
abbrev CY (m : Int32) (T : ST) (n : Nat) (τ : ST) : Prop := τ.2 = T.2 ∧ τ.1 36 37 = m ∧ τ.1 36 36 = nI n ∧ (∀ k j, ¬ dom k j → k ≠ 57 → ¬ (k = 36 ∧ j = 36) → τ.1 k j = T.1 k j) ∧ (∀ k j, dom k j → n ≤ pos k j → τ.1 k j = T.1 k j) ∧
  (m = 1 → ∀ k j, dom k j → pos k j < n → τ.1 57 (pos k j) = cv k (T.1 k j) ∧ τ.1 k j = cv k (T.1 k j)) ∧ (m = 0 → (∀ i, τ.1 57 i = T.1 57 i) ∧ ∀ k j, dom k j → pos k j < n → τ.1 k j = dv k (T.1 57 (pos k j)))
theorem CY.step {m : Int32} {T τ : ST} {n k j : Nat} (h : CY m T n τ) (hm : m = 0 ∨ m = 1) (hk : dom k j) (hp : pos k j = n) (hn : n < 780) : ∃ a τ1, fX6_carry (cv k (τ.1 k j)) τ = some (a, τ1) ∧ τ1.1 36 37 = m ∧ CY m T (n + 1) (setI τ1 k j (dv k a)) := by
  obtain ⟨h2, h37, h36, ho, hd, h1, h0⟩ := h
  have i1 : inb (nI n) 780 = true := inb_t hn (by decide)
  have ne : ¬ (k = 36 ∧ j = 36) ∧ k ≠ 57 ∧ ¬ (k = 36 ∧ j = 37) := by unfold dom at hk; omega
  have eT : τ.1 k j = T.1 k j := hd k j hk (by omega)
  rcases hm with rfl | rfl
  · refine ⟨τ.1 57 n, setI τ 36 36 (nI (n + 1)), ?_, ?_, ?_⟩
    · unfold fX6_carry fX6_carry_17
      have e : (setI τ 36 36 (nI n + 1)).1 36 36 - 1 = nI n := by rw [sg, if_pos ⟨rfl, rfl⟩, nI_1, nI_pred]
      rw [h37, if_pos rfl, h36, e, al_57, i1, gd_t, nI_clamp (by omega), nI_1]
      rfl
    · rw [sg, if_neg (by omega)]; exact h37
    · obtain ⟨h00, h01⟩ := h0 rfl
      have g : ∀ a b, ¬ (a = 36 ∧ b = 36) → ¬ (a = k ∧ b = j) → (setI (setI τ 36 36 (nI (n + 1))) k j (dv k (τ.1 57 n))).1 a b = τ.1 a b := fun a b q1 q2 => by rw [sg, if_neg q2, sg, if_neg q1]
      refine ⟨h2, ?_, ?_, fun a b q1 q2 q3 => ?_, fun a b q1 q2 => ?_, fun e => absurd e (by decide), fun _ => ⟨fun i => ?_, fun a b q1 q2 => ?_⟩⟩
      · rw [g _ _ (by omega) (by omega)]; exact h37
      · rw [sg, if_neg (by omega), sg, if_pos ⟨rfl, rfl⟩]
      · rw [g _ _ q3 (fun e => q1 (by rw [e.1, e.2]; exact hk))]; exact ho a b q1 q2 q3
      · have q3 : ¬ (a = 36 ∧ b = 36) := by unfold dom at q1; omega
        rw [g _ _ q3 (fun e => by rw [e.1, e.2] at q2; omega)]; exact hd a b q1 (by omega)
      · rw [g _ _ (by omega) (by omega)]; exact h00 i
      · have q3 : ¬ (a = 36 ∧ b = 36) := by unfold dom at q1; omega
        by_cases e : a = k ∧ b = j
        · obtain ⟨rfl, rfl⟩ := e
          rw [sg, if_pos ⟨rfl, rfl⟩, h00, hp]
        · have : pos a b ≠ n := fun e' => e (pos_inj q1 hk (e'.trans hp.symm))
          rw [g _ _ q3 e]; exact h01 a b q1 (by omega)
  · refine ⟨cv k (τ.1 k j), setI (setI τ 57 n (cv k (τ.1 k j))) 36 36 (nI (n + 1)), ?_, ?_, ?_⟩
    · unfold fX6_carry fX6_carry_17
      rw [h37, if_neg h10, h36, al_57, i1, gd_t, nI_clamp (by omega)]
      have e0 : (setI τ 57 n (cv k (τ.1 k j))).1 36 36 = nI n := by rw [sg, if_neg (by omega)]; exact h36
      rw [e0, nI_1]
      have e : (setI (setI τ 57 n (cv k (τ.1 k j))) 36 36 (nI (n + 1))).1 36 36 - 1 = nI n := by rw [sg, if_pos ⟨rfl, rfl⟩, nI_pred]
      rw [e, i1, gd_t, nI_clamp (by omega), sg, if_neg (by omega), sg, if_pos ⟨rfl, rfl⟩]
    · rw [sg, if_neg (by omega), sg, if_neg (by omega)]; exact h37
    · have h11 := h1 rfl
      rw [dv_cv, eT]
      have g : ∀ a b, ¬ (a = 36 ∧ b = 36) → ¬ (a = k ∧ b = j) → ¬ (a = 57 ∧ b = n) → (setI (setI (setI τ 57 n (cv k (T.1 k j))) 36 36 (nI (n + 1))) k j (cv k (T.1 k j))).1 a b = τ.1 a b := fun a b q1 q2 q3 => by rw [sg, if_neg q2, sg, if_neg q1, sg, if_neg q3]
      refine ⟨h2, ?_, ?_, fun a b q1 q2 q3 => ?_, fun a b q1 q2 => ?_, fun _ a b q1 q2 => ?_, fun e => absurd e (by decide)⟩
      · rw [g _ _ (by omega) (by omega) (by omega)]; exact h37
      · rw [sg, if_neg (by omega), sg, if_pos ⟨rfl, rfl⟩]
      · rw [g _ _ q3 (fun e => q1 (by rw [e.1, e.2]; exact hk)) (fun e => q2 e.1)]; exact ho a b q1 q2 q3
      · have q3 : ¬ (a = 36 ∧ b = 36) ∧ a ≠ 57 := by unfold dom at q1; omega
        rw [g _ _ q3.1 (fun e => by rw [e.1, e.2] at q2; omega) (fun e => q3.2 e.1)]; exact hd a b q1 (by omega)
      · have q3 : ¬ (a = 36 ∧ b = 36) ∧ a ≠ 57 := by unfold dom at q1; omega
        by_cases e : a = k ∧ b = j
        · obtain ⟨rfl, rfl⟩ := e
          refine ⟨?_, by rw [sg, if_pos ⟨rfl, rfl⟩]⟩
          rw [hp, sg, if_neg (by omega), sg, if_neg (by omega), sg, if_pos ⟨rfl, rfl⟩]
        · have : pos a b ≠ n := fun e' => e (pos_inj q1 hk (e'.trans hp.symm))
          obtain ⟨w1, w2⟩ := h11 a b q1 (by omega)
          refine ⟨?_, ?_⟩
          · rw [g 57 _ (by omega) (by omega) (by omega)]; exact w1
          · rw [g _ _ q3.1 e (fun e => q3.2 e.1)]; exact w2
/-- one cell carried, not a boolean one -/
theorem CY.st {m : Int32} {T τ : ST} {n : Nat} (k j : Nat) (h : CY m T n τ) (hm : m = 0 ∨ m = 1) (hk : dom k j) (h53 : k ≠ 53) (hp : pos k j = n) (hn : n < 780) : ∃ a τ1, fX6_carry (τ.1 k j) τ = some (a, τ1) ∧ CY m T (n + 1) (setI τ1 k j a) := by
  obtain ⟨a, τ1, e, -, h'⟩ := h.step hm hk hp hn
  unfold cv at e
  unfold dv at h'
  rw [if_neg h53] at e h'
  exact ⟨a, τ1, e, h'⟩
