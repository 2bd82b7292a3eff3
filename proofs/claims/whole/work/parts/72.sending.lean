theorem set_self (σ : ST) (k j : Nat) : setI σ k j (σ.1 k j) = σ := by
  refine Prod.ext (funext fun a => funext fun b => ?_) rfl
  rw [sg]
  by_cases h : a = k ∧ b = j
  · rw [if_pos h, h.1, h.2]
  · rw [if_neg h]
theorem set_set (σ : ST) (k j : Nat) (x y : Int32) : setI (setI σ k j x) k j y = setI σ k j y := by
  refine Prod.ext (funext fun a => funext fun b => ?_) rfl
  rw [sg, sg, sg]
  by_cases h : a = k ∧ b = j
  · rw [if_pos h, if_pos h]
  · rw [if_neg h, if_neg h, if_neg h]
def snz (z : Int32) : Int32 := z * 1103515245 + 12345
def drw (z : Int32) : Int32 := ((snz z &&& 2147483647) / 65536) - ((snz z &&& 2147483647) / 65536) / 100 * 100
def rk (ti co h : Int32) : Int32 := if ti * h ≤ 100 then 0 else co
def lot (z fi co : Int32) : Int32 := if 5 * fi ≤ drw z then 0 else co
/-- what is sent: h4 the hundredths of a NAMED one -/
def svV (co ti z ki fi ho bx wd h4 lb : Int32) : Int32 :=
  if ki = 1 then rk ti co ho
  else if ki = 2 then imin (fi / 2) co
  else if ki = 3 then (if lb = -1 then 1 else imin lb co)
  else if ki = 4 then rk ti co h4
  else if ki = 5 then lot z fi co
  else if ki = 6 then rk ti co ((ho + wd) / 2)
  else if ki = 7 then (if bx = 1 then lot z fi co else imin (lot z fi co) (co / 2))
  else imin fi co
def svZ (z ki : Int32) : Int32 := if ki = 5 ∨ ki = 7 then snz z else z
def bkV (z bx sh le se arr seen : Int32) : Int32 :=
  if arr = 0 then 0 else if le ≤ arr then (if bx = 1 then (if sh ≤ drw z then 0 else arr) else (arr * (if seen = 0 then sh else imin (sh + se) 100)) / 100) else 0
def bkZ (z bx le arr : Int32) : Int32 := if arr = 0 then z else if le ≤ arr then (if bx = 1 then snz z else z) else z
def h4x (ec eb ho : Int32) : Int32 := if ec ≤ 0 then ho else (100 * eb) / ec
theorem draw5 (σ : ST) : fX1_draw σ = some (drw (σ.1 3 2), setI σ 3 2 (snz (σ.1 3 2))) := rfl
theorem draw6 (σ : ST) : fX6_draw σ = some (drw (σ.1 36 2), setI σ 36 2 (snz (σ.1 36 2))) := rfl
theorem held5 (x : Int32) (σ : ST) : fX1_allIfHeld x σ = some (rk (σ.1 3 1) (σ.1 3 0) x) := by
  unfold fX1_allIfHeld rk
  split <;> rfl
theorem held6 (x : Int32) (σ : ST) : fX6_reckoned x σ = some (rk (σ.1 36 1) (σ.1 36 0) x) := by
  unfold fX6_reckoned rk
  split <;> rfl
theorem lot5 (σ : ST) : fX1_allByLot σ = some (lot (σ.1 3 2) (σ.1 3 4) (σ.1 3 0), setI σ 3 2 (snz (σ.1 3 2))) := by
  unfold fX1_allByLot lot
  rw [draw5, bI_t]
  simp only [sg]
  simp only [show ¬ (4 = 2) by decide, show ¬ (0 = 2) by decide, and_false, if_false]
  split <;> rfl
theorem name5 (σ : ST) : fX1_nameOfReturner σ = some (if σ.1 3 11 ≤ 0 then -1 else (100 * (σ.1 3 12)) / (σ.1 3 11)) := by
  unfold fX1_nameOfReturner
  by_cases h : σ.1 3 11 ≤ 0
  · rw [if_pos h, if_pos h]; rfl
  · have h0 : ¬ σ.1 3 11 = 0 := fun e => h (by rw [e]; decide)
    have hd : decide (¬ σ.1 3 11 = 0) = true := by rw [decide_eq_true_eq]; exact h0
    rw [if_neg h, if_neg h, hd]; rfl
theorem send5 (σ : ST) : fX1_sendNow σ = some (svV (σ.1 3 0) (σ.1 3 1) (σ.1 3 2) (σ.1 3 3) (σ.1 3 4) (σ.1 3 5) (σ.1 3 6) (σ.1 3 10) (h4x (σ.1 3 11) (σ.1 3 12) (σ.1 3 5)) (σ.1 3 13), setI σ 3 2 (svZ (σ.1 3 2) (σ.1 3 3))) := by
  unfold fX1_sendNow svV svZ
  simp only [held5, lot5, bI_t, bR_t, name5]
  by_cases h0 : σ.1 3 3 = 0
  · simp [h0, set_self]
  by_cases h1 : σ.1 3 3 = 1
  · simp [h1, set_self]
  by_cases h2 : σ.1 3 3 = 2
  · simp [h2, set_self]
  by_cases h3 : σ.1 3 3 = 3
  · by_cases hl : σ.1 3 13 = -1
    · simp [h3, set_self, hl, fX1_sendNow_98]
    · simp [h3, set_self, hl, fX1_sendNow_98]
  by_cases h4 : σ.1 3 3 = 4
  · by_cases hl : σ.1 3 11 ≤ 0
    · simp [h4, set_self, hl, fX1_sendNow_118, held5, bR_t, h4x]
    · simp [h4, set_self, hl, fX1_sendNow_118, held5, bR_t, h4x]
  by_cases h5 : σ.1 3 3 = 5
  · simp [h5]
  by_cases h6 : σ.1 3 3 = 6
  · simp [h6, set_self]
  by_cases h7 : σ.1 3 3 = 7
  · by_cases hl : σ.1 3 6 = 1
    · simp [h7, hl, fX1_sendNow_171]
    · simp [h7, hl, fX1_sendNow_171, sg]
  · simp [h0, h1, h2, h3, h4, h5, h6, h7, set_self]
theorem back5 (n seen : Int32) (σ : ST) : fX1_sendBackOf n seen σ = some (bkV (σ.1 3 2) (σ.1 3 6) (σ.1 3 7) (σ.1 3 8) (σ.1 3 9) (n * σ.1 3 1) seen, setI σ 3 2 (bkZ (σ.1 3 2) (σ.1 3 6) (σ.1 3 8) (n * σ.1 3 1))) := by
  unfold fX1_sendBackOf bkV bkZ
  generalize n * σ.1 3 1 = A
  by_cases h0 : A = 0
  · rw [if_pos h0, if_pos h0, if_pos h0, set_self]; rfl
  rw [if_neg h0, if_neg h0, if_neg h0]
  by_cases h1 : σ.1 3 8 ≤ A
  · rw [if_pos h1, if_pos h1, if_pos h1]
    by_cases h2 : σ.1 3 6 = 1
    · rw [if_pos h2, if_pos h2, if_pos h2, draw5, bI_t]
      have e : (setI σ 3 2 (snz (σ.1 3 2))).1 3 7 = σ.1 3 7 := by rw [sg, if_neg (by decide)]
      rw [e]
      by_cases h3 : σ.1 3 7 ≤ drw (σ.1 3 2)
      · rw [if_pos h3, if_pos h3]; rfl
      · rw [if_neg h3, if_neg h3]; rfl
    · rw [if_neg h2, if_neg h2, if_neg h2, set_self]
      by_cases h3 : seen = 0
      · rw [if_pos h3, if_pos h3]; rfl
      · rw [if_neg h3, if_neg h3]; rfl
  · rw [if_neg h1, if_neg h1, if_neg h1, set_self]; rfl
theorem wouldSend5 (σ : ST) : fX1_wouldSend σ = some (svV (σ.1 3 0) (σ.1 3 1) (σ.1 3 2) (σ.1 3 3) (σ.1 3 4) (σ.1 3 5) (σ.1 3 6) (σ.1 3 10) (h4x (σ.1 3 11) (σ.1 3 12) (σ.1 3 5)) (σ.1 3 13), σ) := by
  unfold fX1_wouldSend
  rw [send5, bI_t, set_set, set_self]
theorem atMost6 (x : Int32) (σ : ST) : fX6_atMost x σ = some (imin x (σ.1 36 0)) := by
  unfold fX6_atMost imin
  by_cases h : σ.1 36 0 ≤ x
  · rw [if_pos h]
    by_cases h2 : σ.1 36 0 < x
    · rw [if_pos h2]; rfl
    · rw [if_neg h2, Int32.le_antisymm (Int32.not_lt.mp h2) h]; rfl
  · rw [if_neg h, if_neg (fun h2 => h (Int32.le_of_lt h2))]; rfl
theorem half_c {co : Int32} (h : rg co 1 20) : imin co (co / 2) = co / 2 ∧ imin 0 (co / 2) = 0 := by
  obtain ⟨j, hj, rfl⟩ := nI_of (x := co) (by have := h.1; grind)
  have h2 : nI j ≤ nI 20 := h.2
  have hj2 : j ≤ 20 := (nI_leI hj (by omega)).mp h2
  exact (show ∀ j, j ≤ 20 → imin (nI j) (nI j / 2) = nI j / 2 ∧ imin 0 (nI j / 2) = 0 by decide +kernel) j hj2
theorem send6 {s : Nat} {x2 nm wd lb : Int32} {τ : ST} (hs : s < 8) (h2 : x2 = 0 ∨ x2 = 1) (hc : rg (τ.1 36 0) 1 20) (hl : lb = -1 ∨ 0 ≤ lb) :
    fX6_sending (nI s) x2 nm wd lb τ = some (svV (τ.1 36 0) (τ.1 36 1) (τ.1 36 2) (τ.1 37 s) (τ.1 38 s) (τ.1 39 s) x2 wd (if 0 ≤ nm then nm else τ.1 39 s) lb, setI τ 36 2 (svZ (τ.1 36 2) (τ.1 37 s))) := by
  unfold fX6_sending svV svZ
  have i8 : inb (nI s) 8 = true := inb_t hs (by decide)
  rw [al_38, i8, gd_t, al_37, i8, gd_t, nI_clamp (show s < 2 ^ 31 by omega)]
  have e0 : (setI τ 36 2 (snz (τ.1 36 2))).1 36 0 = τ.1 36 0 := by rw [sg, if_neg (by decide)]
  generalize τ.1 37 s = K
  by_cases h1 : K = 1
  · rw [if_pos h1, if_pos h1, if_neg (show ¬ (K = 5 ∨ K = 7) by rw [h1]; decide), set_self, al_39, i8, gd_t, held6, bR_t]
  rw [if_neg h1, if_neg h1]
  by_cases h2' : K = 2
  · rw [if_pos h2', if_pos h2', if_neg (show ¬ (K = 5 ∨ K = 7) by rw [h2']; decide), set_self, atMost6, bR_t]
  rw [if_neg h2', if_neg h2']
  by_cases h3 : K = 3
  · rw [if_pos h3, if_pos h3, if_neg (show ¬ (K = 5 ∨ K = 7) by rw [h3]; decide), set_self]
    rcases hl with rfl | hl
    · rw [if_neg (by decide), if_pos rfl]; rfl
    · have : ¬ lb = -1 := fun e => by rw [e] at hl; exact absurd hl (by decide)
      rw [if_pos hl, if_neg this, atMost6, bR_t]; rfl
  rw [if_neg h3, if_neg h3]
  by_cases h4 : K = 4
  · rw [if_pos h4, if_pos h4, if_neg (show ¬ (K = 5 ∨ K = 7) by rw [h4]; decide), set_self]
    unfold fX6_sending_107
    by_cases hn : 0 ≤ nm
    · rw [if_pos hn, if_pos hn, held6]; rfl
    · rw [if_neg hn, if_neg hn, al_39, i8, gd_t, held6]; rfl
  rw [if_neg h4, if_neg h4]
  by_cases h5 : K = 5
  · rw [if_pos h5, if_pos h5, if_pos (Or.inl h5), draw6, bI_t, e0]
    unfold lot
    by_cases hn : 5 * τ.1 38 s ≤ drw (τ.1 36 2)
    · rw [if_pos hn, if_pos hn]; rfl
    · rw [if_neg hn, if_neg hn]; rfl
  rw [if_neg h5, if_neg h5]
  by_cases h6 : K = 6
  · rw [if_pos h6, if_pos h6, if_neg (show ¬ (K = 5 ∨ K = 7) by rw [h6]; decide), set_self, al_39, i8, gd_t, held6, bR_t]
  rw [if_neg h6, if_neg h6]
  by_cases h7 : K = 7
  · rw [if_pos h7, if_pos h7, if_pos (Or.inr h7), draw6, bI_t]
    unfold lot
    by_cases hn : 5 * τ.1 38 s ≤ drw (τ.1 36 2)
    · rw [if_pos hn, if_pos hn, (half_c hc).2]
      rcases h2 with rfl | rfl
      · rfl
      · rfl
    · rw [if_neg hn, if_neg hn, (half_c hc).1]
      unfold fX6_sending_163
      rw [if_neg (by decide), e0]
      rcases h2 with rfl | rfl
      · rfl
      · rfl
  · rw [if_neg h7, if_neg h7, if_neg (fun h => h.elim h5 h7), set_self, atMost6, bR_t]
theorem back6 {r : Nat} {arr sh seen : Int32} {τ : ST} (hr : r < 8) (h : sh ≤ 100) :
    fX6_backOf (nI r) arr sh seen τ = some (bkV (τ.1 36 2) (τ.1 40 r) sh (τ.1 42 r) (τ.1 43 r) arr seen, setI τ 36 2 (bkZ (τ.1 36 2) (τ.1 40 r) (τ.1 42 r) arr)) := by
  unfold fX6_backOf bkV bkZ
  by_cases h0 : arr = 0
  · rw [if_pos h0, if_pos h0, if_pos h0, set_self]; rfl
  rw [if_neg h0, if_neg h0, if_neg h0, al_42, inb_t (show r < 8 from hr) (by decide), gd_t, nI_clamp (show r < 2 ^ 31 by omega)]
  by_cases h1 : τ.1 42 r ≤ arr
  · rw [if_pos h1, if_pos h1, if_pos h1, al_40, inb_t (show r < 8 from hr) (by decide), gd_t]
    by_cases h2 : τ.1 40 r = 1
    · rw [if_pos h2, if_pos h2, if_pos h2, draw6, bI_t]
      by_cases h3 : sh ≤ drw (τ.1 36 2)
      · rw [if_pos h3, if_pos h3]; rfl
      · rw [if_neg h3, if_neg h3]; rfl
    · rw [if_neg h2, if_neg h2, if_neg h2, set_self]
      by_cases h3 : seen = 0
      · rw [if_pos h3, if_pos h3]
        unfold fX6_backOf_56
        rw [Int32.add_zero, if_pos h]; rfl
      · rw [if_neg h3, if_neg h3, al_43, inb_t (show r < 8 from hr) (by decide), gd_t]
        unfold fX6_backOf_56 imin
        by_cases h4 : sh + τ.1 43 r ≤ 100
        · rw [if_pos h4, if_neg (Int32.not_lt.mpr h4)]; rfl
        · rw [if_neg h4, if_pos (Int32.not_le.mp h4)]; rfl
  · rw [if_neg h1, if_neg h1, if_neg h1, set_self]; rfl
