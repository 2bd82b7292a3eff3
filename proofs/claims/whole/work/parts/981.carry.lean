theorem cy283 {m : Int32} {T : ST} (hm : m = 0 ∨ m = 1) : ∀ (c x f : Nat) (τ : ST), CY m T (150 + 6 * x) τ → x + c = 100 → c < f → ∃ τ', fX6_carryAll_283 f (nI x) τ = some τ' ∧ CY m T 750 τ'
  | 0, x, f + 1, τ, h, hx, _ => by
    rw [fX6_carryAll_283, if_pos (show 100 ≤ nI x from nI_le (a := 100) (by omega) (by omega))]
    exact ⟨τ, rfl, by rw [show 750 = 150 + 6 * x by omega]; exact h⟩
  | c + 1, x, f + 1, τ, h, hx, hf => by
    have i1 : inb (nI x) 100 = true := inb_t (by omega) (by decide)
    rw [fX6_carryAll_283, if_neg (show ¬ 100 ≤ nI x from nI_ge (b := 100) (by omega) (by decide)), al_48, al_49, al_50, al_51, al_52, al_53, i1, nI_clamp (show x < 2 ^ 31 by omega)]
    simp only [gd_t]
    obtain ⟨a0, t0, e0, h0⟩ := CY.st 48 x h hm (by unfold dom; omega) (by omega) (by rw [pos_c (by omega)] <;> omega) (by omega)
    rw [e0, bI_t]
    generalize setI t0 48 x a0 = s0 at h0 ⊢
    obtain ⟨a1, t1, e1, h1⟩ := CY.st 49 x h0 hm (by unfold dom; omega) (by omega) (by rw [pos_c (by omega)] <;> omega) (by omega)
    rw [e1, bI_t]
    generalize setI t1 49 x a1 = s1 at h1 ⊢
    obtain ⟨a2, t2, e2, h2⟩ := CY.st 50 x h1 hm (by unfold dom; omega) (by omega) (by rw [pos_c (by omega)] <;> omega) (by omega)
    rw [e2, bI_t]
    generalize setI t2 50 x a2 = s2 at h2 ⊢
    obtain ⟨a3, t3, e3, h3⟩ := CY.st 51 x h2 hm (by unfold dom; omega) (by omega) (by rw [pos_c (by omega)] <;> omega) (by omega)
    rw [e3, bI_t]
    generalize setI t3 51 x a3 = s3 at h3 ⊢
    obtain ⟨a4, t4, e4, h4⟩ := CY.st 52 x h3 hm (by unfold dom; omega) (by omega) (by rw [pos_c (by omega)] <;> omega) (by omega)
    rw [e4, bI_t]
    generalize setI t4 52 x a4 = s4 at h4 ⊢
    obtain ⟨a, t, e, -, h'⟩ := CY.step (k := 53) (j := x) h4 hm (by unfold dom; omega) (by rw [pos_c (by omega)] <;> omega) (by omega)
    have go : ∀ v, dv 53 a = v → (v = 0 ∨ v = 1) → ∃ τ', fX6_carryAll_401 (fX6_carryAll_283 f) (nI x) (nI x) v t = some τ' ∧ CY m T 750 τ' := fun v hv hb => by
      unfold fX6_carryAll_401
      rw [al_53, i1, gd_t, show isb v = true from by rcases hb with rfl | rfl <;> rfl, gd_t, nI_clamp (show x < 2 ^ 31 by omega), nI_1]
      rw [hv] at h'
      exact cy283 hm c (x + 1) f _ (by rw [show 150 + 6 * (x + 1) = 150 + 6 * x + 1 + 1 + 1 + 1 + 1 + 1 by omega]; exact h') (by omega) (by omega)
    have fin : ∀ v, cv 53 (s4.1 53 x) = v → ∃ τ', fX6_carryAll_389 (fX6_carryAll_283 f) (nI x) (nI x) v s4 = some τ' ∧ CY m T 750 τ' := fun v hv => by
      unfold fX6_carryAll_389
      rw [hv] at e
      rw [e, bI_t]
      by_cases c1 : a = 1
      · rw [if_pos c1]; exact go 1 (by unfold dv; rw [if_pos rfl, if_pos c1]) (Or.inr rfl)
      · rw [if_neg c1]; exact go 0 (by unfold dv; rw [if_pos rfl, if_neg c1]) (Or.inl rfl)
    by_cases c0 : s4.1 53 x = 0
    · rw [if_pos c0]; exact fin 0 (by unfold cv; rw [if_pos rfl, if_pos c0])
    · rw [if_neg c0]; exact fin 1 (by unfold cv; rw [if_pos rfl, if_neg c0])
theorem cy253 {m : Int32} {T : ST} (hm : m = 0 ∨ m = 1) : ∀ (c x f : Nat) (τ : ST), CY m T (86 + x) τ → x + c = 64 → c < f → ∃ τ', fX6_carryAll_253 f (nI x) τ = some τ' ∧ CY m T 750 τ'
  | 0, x, f + 1, τ, h, hx, _ => by
    rw [fX6_carryAll_253, if_pos (show 64 ≤ nI x from nI_le (a := 64) (by omega) (by omega))]
    exact cy283 hm 100 0 FU τ (by rw [show 150 + 6 * 0 = 86 + x by omega]; exact h) (by omega) (by unfold FU; omega)
  | c + 1, x, f + 1, τ, h, hx, hf => by
    have i1 : inb (nI x) 64 = true := inb_t (by omega) (by decide)
    rw [fX6_carryAll_253, if_neg (show ¬ 64 ≤ nI x from nI_ge (b := 64) (by omega) (by decide)), al_47, i1, nI_clamp (show x < 2 ^ 31 by omega)]
    simp only [gd_t]
    obtain ⟨a, t, e, h'⟩ := CY.st 47 x h hm (by unfold dom; omega) (by omega) pos_b (by omega)
    rw [e, bI_t, nI_1]
    exact cy253 hm c (x + 1) f _ h' (by omega) (by omega)
theorem cy79 {m : Int32} {T : ST} (hm : m = 0 ∨ m = 1) : ∀ (c x f : Nat) (τ : ST), CY m T (6 + 10 * x) τ → x + c = 8 → c < f → ∃ τ', fX6_carryAll_79 f (nI x) τ = some τ' ∧ CY m T 750 τ'
  | 0, x, f + 1, τ, h, hx, _ => by
    rw [fX6_carryAll_79, if_pos (show 8 ≤ nI x from nI_le (a := 8) (by omega) (by omega))]
    exact cy253 hm 64 0 FU τ (by rw [show 86 + 0 = 6 + 10 * x by omega]; exact h) (by omega) (by unfold FU; omega)
  | c + 1, x, f + 1, τ, h, hx, hf => by
    have i1 : inb (nI x) 8 = true := inb_t (by omega) (by decide)
    rw [fX6_carryAll_79, if_neg (show ¬ 8 ≤ nI x from nI_ge (b := 8) (by omega) (by decide)), al_37, al_38, al_39, al_40, al_41, al_42, al_43, al_44, al_45, al_46, i1, nI_clamp (show x < 2 ^ 31 by omega)]
    simp only [gd_t]
    obtain ⟨a0, t0, e0, h0⟩ := CY.st 37 x h hm (by unfold dom; omega) (by omega) (by rw [pos_a (by omega) (by omega)] <;> omega) (by omega)
    rw [e0, bI_t]
    generalize setI t0 37 x a0 = s0 at h0 ⊢
    obtain ⟨a1, t1, e1, h1⟩ := CY.st 38 x h0 hm (by unfold dom; omega) (by omega) (by rw [pos_a (by omega) (by omega)] <;> omega) (by omega)
    rw [e1, bI_t]
    generalize setI t1 38 x a1 = s1 at h1 ⊢
    obtain ⟨a2, t2, e2, h2⟩ := CY.st 39 x h1 hm (by unfold dom; omega) (by omega) (by rw [pos_a (by omega) (by omega)] <;> omega) (by omega)
    rw [e2, bI_t]
    generalize setI t2 39 x a2 = s2 at h2 ⊢
    obtain ⟨a3, t3, e3, h3⟩ := CY.st 40 x h2 hm (by unfold dom; omega) (by omega) (by rw [pos_a (by omega) (by omega)] <;> omega) (by omega)
    rw [e3, bI_t]
    generalize setI t3 40 x a3 = s3 at h3 ⊢
    obtain ⟨a4, t4, e4, h4⟩ := CY.st 41 x h3 hm (by unfold dom; omega) (by omega) (by rw [pos_a (by omega) (by omega)] <;> omega) (by omega)
    rw [e4, bI_t]
    generalize setI t4 41 x a4 = s4 at h4 ⊢
    obtain ⟨a5, t5, e5, h5⟩ := CY.st 42 x h4 hm (by unfold dom; omega) (by omega) (by rw [pos_a (by omega) (by omega)] <;> omega) (by omega)
    rw [e5, bI_t]
    generalize setI t5 42 x a5 = s5 at h5 ⊢
    obtain ⟨a6, t6, e6, h6⟩ := CY.st 43 x h5 hm (by unfold dom; omega) (by omega) (by rw [pos_a (by omega) (by omega)] <;> omega) (by omega)
    rw [e6, bI_t]
    generalize setI t6 43 x a6 = s6 at h6 ⊢
    obtain ⟨a7, t7, e7, h7⟩ := CY.st 44 x h6 hm (by unfold dom; omega) (by omega) (by rw [pos_a (by omega) (by omega)] <;> omega) (by omega)
    rw [e7, bI_t]
    generalize setI t7 44 x a7 = s7 at h7 ⊢
    obtain ⟨a8, t8, e8, h8⟩ := CY.st 45 x h7 hm (by unfold dom; omega) (by omega) (by rw [pos_a (by omega) (by omega)] <;> omega) (by omega)
    rw [e8, bI_t]
    generalize setI t8 45 x a8 = s8 at h8 ⊢
    obtain ⟨a9, t9, e9, h9⟩ := CY.st 46 x h8 hm (by unfold dom; omega) (by omega) (by rw [pos_a (by omega) (by omega)] <;> omega) (by omega)
    rw [e9, bI_t]
    generalize setI t9 46 x a9 = s9 at h9 ⊢
    rw [nI_1]
    exact cy79 hm c (x + 1) f _ (by rw [show 6 + 10 * (x + 1) = 6 + 10 * x + 1 + 1 + 1 + 1 + 1 + 1 + 1 + 1 + 1 + 1 by omega]; exact h9) (by omega) (by omega)
theorem carryAll_t {m : Int32} {T : ST} (hm : m = 0 ∨ m = 1) (h37 : T.1 36 37 = m) : ∃ τ', fX6_carryAll T = some τ' ∧ CY m T 750 τ' := by
  have h : CY m T 0 (setI T 36 36 0) := by
    refine ⟨rfl, by rw [sg, if_neg (by omega)]; exact h37, by rw [sg, if_pos ⟨rfl, rfl⟩]; rfl, fun k j _ _ q => by rw [sg, if_neg q], fun k j hd _ => ?_, fun _ k j _ q => by omega, fun _ => ⟨fun i => by rw [sg, if_neg (by omega)], fun k j _ q => by omega⟩⟩
    rw [sg, if_neg (by unfold dom at hd; omega)]
  unfold fX6_carryAll
  generalize setI T 36 36 0 = s at h ⊢
  obtain ⟨a0, t0, e0, h0⟩ := CY.st 36 0 h hm (by unfold dom; omega) (by omega) rfl (by omega)
  rw [e0, bI_t]
  generalize setI t0 36 0 a0 = s0 at h0 ⊢
  obtain ⟨a1, t1, e1, h1⟩ := CY.st 36 1 h0 hm (by unfold dom; omega) (by omega) rfl (by omega)
  rw [e1, bI_t]
  generalize setI t1 36 1 a1 = s1 at h1 ⊢
  obtain ⟨a2, t2, e2, h2⟩ := CY.st 36 2 h1 hm (by unfold dom; omega) (by omega) rfl (by omega)
  rw [e2, bI_t]
  generalize setI t2 36 2 a2 = s2 at h2 ⊢
  obtain ⟨a3, t3, e3, h3⟩ := CY.st 36 3 h2 hm (by unfold dom; omega) (by omega) rfl (by omega)
  rw [e3, bI_t]
  generalize setI t3 36 3 a3 = s3 at h3 ⊢
  obtain ⟨a4, t4, e4, h4⟩ := CY.st 36 7 h3 hm (by unfold dom; omega) (by omega) rfl (by omega)
  rw [e4, bI_t]
  generalize setI t4 36 7 a4 = s4 at h4 ⊢
  obtain ⟨a5, t5, e5, h5⟩ := CY.st 36 16 h4 hm (by unfold dom; omega) (by omega) rfl (by omega)
  rw [e5, bI_t]
  generalize setI t5 36 16 a5 = s5 at h5 ⊢
  exact cy79 hm 8 0 FU _ h5 (by omega) (by unfold FU; omega)
