/-! THE START: the objects are made, the grown world is the 68 places. -/
def σI : ST := (fun k j => match k with
  | 1 => if j = 0 then 10 else if j = 1 then 3 else if j = 2 then 1 else 0
  | 2 => if j = 0 then 10 else if j = 1 then 3 else if j = 2 then 1 else 0
  | 6 => if j = 0 then 8 else if j = 1 then 3 else 0
  | 8 => if j = 0 then 8 else if j = 1 then 5 else 0
  | 10 => if j = 0 then 100 else if j = 1 then 6 else 0
  | 12 => if j = 0 then 8 else if j = 1 then 3 else 0
  | 14 => if j = 0 then 8 else if j = 1 then 5 else 0
  | 16 => if j = 0 then 100 else if j = 1 then 6 else 0
  | 18 => if j = 0 then 34 else if j = 1 then 6 else 0
  | 36 => if j = 0 then 10 else if j = 1 then 3 else if j = 2 then 1 else 0
  | 47 => if j < 64 then -1 else 0
  | _ => 0, fun _ _ => 0)
def piL : List Nat := [0, 1, 8, 15, 16, 19, 2, 3, 4, 5, 6, 7, 9, 10, 11, 12, 13, 14, 17, 18, 20, 21, 22, 23, 24, 25, 26, 27, 28, 29, 30, 31, 32, 33, 34, 35, 36, 37, 38, 39, 40, 41, 42, 43, 44, 45, 46, 47, 48, 49, 50, 51, 52, 53, 54, 55, 56, 57, 58, 59, 60, 61, 62, 63, 64, 65, 66, 67]
theorem piL_inj : ∀ i, i < 68 → ∀ j, j < 68 → piL.getD i 0 = piL.getD j 0 → i = j := by decide +kernel
def qL (a a2 : Nat → Nat) (p0 p1 p2 p3 p4 p5 p6 p7 : Nat × Nat) (q2 b : Nat) : Nat → Nat := fun k => ([(a 0), (a 1), (a 2), (a 3), (a 4), (a 5), (a 6), (a 7), (a 8), (a 9), (a 10), (a 11), (a 12), (a 13), (a 14), (a 15), (a 16), (a 17), (a 18), (a 19), p0.1, p0.2, p1.1, p1.2, p2.1, p2.2, p3.1, p3.2, p4.1, p4.2, p5.1, p5.2, p6.1, p6.2, p7.1, p7.2, (a2 36), (a2 37), (a2 38), (a2 39), (a2 40), (a2 41), (a2 42), (a2 43), (a2 44), (a2 45), (a2 46), (a2 47), (a2 48), (a2 49), (a2 50), (a2 51), (a2 52), (a2 53), (a2 54), (a2 55), (a2 56), (a2 57), (a2 58), (a2 59), (a2 60), (a2 61), (a2 62), (a2 63), (a2 64), (a2 65), (a2 66), q2, b] : List Nat).getD k 0
def wsL (cA : Nat → ClassId) (a a2 : Nat → Nat) (p0 p1 p2 p3 p4 p5 p6 p7 : Nat × Nat) (q2 : Nat) : va_W := (xW cA a [p0, p1, p2, p3, p4, p5, p6, p7] ++ mWf cA a2 (fun j => if j < 64 then -1 else 0)) ++ [(q2, .inl (cA 2, 1, .inr (.inl (fun _ => 0))))]
theorem final_D {A : Nat → Prop} {ws : va_W} {q : Nat → Nat} {cA : Nat → ClassId} {σ : ST} (h : ∀ k, k < 68 → ∃ e, ws[piL.getD k 0]? = some (q k, e)) (hD : va_D A ws) : va_D A (wG q cA σ) := by
  have hk : ∀ (k : Nat) (p : Nat × va_E), (wG q cA σ)[k]? = some p → k < 68 ∧ p.1 = q k := by
    intro k p hp
    have h68 : k < 68 := by
      have := (List.getElem?_eq_some_iff.mp hp).1
      simpa [wG] using this
    rw [wG_at h68] at hp
    cases hp
    exact ⟨h68, rfl⟩
  refine ⟨fun i j p r hi hj hpr => ?_, fun k p hp => ?_⟩
  · obtain ⟨h1, h2⟩ := hk i p hi
    obtain ⟨h3, h4⟩ := hk j r hj
    obtain ⟨e1, h5⟩ := h i h1
    obtain ⟨e2, h6⟩ := h j h3
    exact piL_inj i h1 j h3 (hD.1 _ _ _ _ h5 h6 (by rw [h2, h4] at hpr; exact hpr))
  · obtain ⟨h1, h2⟩ := hk k p hp
    obtain ⟨e1, h5⟩ := h k h1
    rw [h2]
    exact hD.2 _ _ h5
theorem fP_0 {D : va_G} {cA : Nat → ClassId} {a a2 : Nat → Nat} {p0 p1 p2 p3 p4 p5 p6 p7 : Nat × Nat} {q2 b : Nat} {H : Heap} (h : va_P D cl7 (wsL cA a a2 p0 p1 p2 p3 p4 p5 p6 p7 q2) H) : va_at D cl7 (qL a a2 p0 p1 p2 p3 p4 p5 p6 p7 q2 b 0, cellG (qL a a2 p0 p1 p2 p3 p4 p5 p6 p7 q2 b) cA σI 0) H := h 0 _ rfl
theorem fP_1 {D : va_G} {cA : Nat → ClassId} {a a2 : Nat → Nat} {p0 p1 p2 p3 p4 p5 p6 p7 : Nat × Nat} {q2 b : Nat} {H : Heap} (h : va_P D cl7 (wsL cA a a2 p0 p1 p2 p3 p4 p5 p6 p7 q2) H) : va_at D cl7 (qL a a2 p0 p1 p2 p3 p4 p5 p6 p7 q2 b 1, cellG (qL a a2 p0 p1 p2 p3 p4 p5 p6 p7 q2 b) cA σI 1) H := h 1 _ rfl
theorem fP_2 {D : va_G} {cA : Nat → ClassId} {a a2 : Nat → Nat} {p0 p1 p2 p3 p4 p5 p6 p7 : Nat × Nat} {q2 b : Nat} {H : Heap} (h : va_P D cl7 (wsL cA a a2 p0 p1 p2 p3 p4 p5 p6 p7 q2) H) : va_at D cl7 (qL a a2 p0 p1 p2 p3 p4 p5 p6 p7 q2 b 2, cellG (qL a a2 p0 p1 p2 p3 p4 p5 p6 p7 q2 b) cA σI 2) H := h 8 _ rfl
theorem fP_3 {D : va_G} {cA : Nat → ClassId} {a a2 : Nat → Nat} {p0 p1 p2 p3 p4 p5 p6 p7 : Nat × Nat} {q2 b : Nat} {H : Heap} (h : va_P D cl7 (wsL cA a a2 p0 p1 p2 p3 p4 p5 p6 p7 q2) H) : va_at D cl7 (qL a a2 p0 p1 p2 p3 p4 p5 p6 p7 q2 b 3, cellG (qL a a2 p0 p1 p2 p3 p4 p5 p6 p7 q2 b) cA σI 3) H := h 15 _ rfl
theorem fP_4 {D : va_G} {cA : Nat → ClassId} {a a2 : Nat → Nat} {p0 p1 p2 p3 p4 p5 p6 p7 : Nat × Nat} {q2 b : Nat} {H : Heap} (h : va_P D cl7 (wsL cA a a2 p0 p1 p2 p3 p4 p5 p6 p7 q2) H) : va_at D cl7 (qL a a2 p0 p1 p2 p3 p4 p5 p6 p7 q2 b 4, cellG (qL a a2 p0 p1 p2 p3 p4 p5 p6 p7 q2 b) cA σI 4) H := h 16 _ rfl
theorem fP_6 {D : va_G} {cA : Nat → ClassId} {a a2 : Nat → Nat} {p0 p1 p2 p3 p4 p5 p6 p7 : Nat × Nat} {q2 b : Nat} {H : Heap} (h : va_P D cl7 (wsL cA a a2 p0 p1 p2 p3 p4 p5 p6 p7 q2) H) : va_at D cl7 (qL a a2 p0 p1 p2 p3 p4 p5 p6 p7 q2 b 6, cellG (qL a a2 p0 p1 p2 p3 p4 p5 p6 p7 q2 b) cA σI 6) H := h 2 _ rfl
theorem fP_7 {D : va_G} {cA : Nat → ClassId} {a a2 : Nat → Nat} {p0 p1 p2 p3 p4 p5 p6 p7 : Nat × Nat} {q2 b : Nat} {H : Heap} (h : va_P D cl7 (wsL cA a a2 p0 p1 p2 p3 p4 p5 p6 p7 q2) H) : va_at D cl7 (qL a a2 p0 p1 p2 p3 p4 p5 p6 p7 q2 b 7, cellG (qL a a2 p0 p1 p2 p3 p4 p5 p6 p7 q2 b) cA σI 7) H := h 3 _ rfl
theorem fP_8 {D : va_G} {cA : Nat → ClassId} {a a2 : Nat → Nat} {p0 p1 p2 p3 p4 p5 p6 p7 : Nat × Nat} {q2 b : Nat} {H : Heap} (h : va_P D cl7 (wsL cA a a2 p0 p1 p2 p3 p4 p5 p6 p7 q2) H) : va_at D cl7 (qL a a2 p0 p1 p2 p3 p4 p5 p6 p7 q2 b 8, cellG (qL a a2 p0 p1 p2 p3 p4 p5 p6 p7 q2 b) cA σI 8) H := h 4 _ rfl
theorem fP_9 {D : va_G} {cA : Nat → ClassId} {a a2 : Nat → Nat} {p0 p1 p2 p3 p4 p5 p6 p7 : Nat × Nat} {q2 b : Nat} {H : Heap} (h : va_P D cl7 (wsL cA a a2 p0 p1 p2 p3 p4 p5 p6 p7 q2) H) : va_at D cl7 (qL a a2 p0 p1 p2 p3 p4 p5 p6 p7 q2 b 9, cellG (qL a a2 p0 p1 p2 p3 p4 p5 p6 p7 q2 b) cA σI 9) H := h 5 _ rfl
theorem fP_10 {D : va_G} {cA : Nat → ClassId} {a a2 : Nat → Nat} {p0 p1 p2 p3 p4 p5 p6 p7 : Nat × Nat} {q2 b : Nat} {H : Heap} (h : va_P D cl7 (wsL cA a a2 p0 p1 p2 p3 p4 p5 p6 p7 q2) H) : va_at D cl7 (qL a a2 p0 p1 p2 p3 p4 p5 p6 p7 q2 b 10, cellG (qL a a2 p0 p1 p2 p3 p4 p5 p6 p7 q2 b) cA σI 10) H := h 6 _ rfl
theorem fP_11 {D : va_G} {cA : Nat → ClassId} {a a2 : Nat → Nat} {p0 p1 p2 p3 p4 p5 p6 p7 : Nat × Nat} {q2 b : Nat} {H : Heap} (h : va_P D cl7 (wsL cA a a2 p0 p1 p2 p3 p4 p5 p6 p7 q2) H) : va_at D cl7 (qL a a2 p0 p1 p2 p3 p4 p5 p6 p7 q2 b 11, cellG (qL a a2 p0 p1 p2 p3 p4 p5 p6 p7 q2 b) cA σI 11) H := h 7 _ rfl
theorem fP_12 {D : va_G} {cA : Nat → ClassId} {a a2 : Nat → Nat} {p0 p1 p2 p3 p4 p5 p6 p7 : Nat × Nat} {q2 b : Nat} {H : Heap} (h : va_P D cl7 (wsL cA a a2 p0 p1 p2 p3 p4 p5 p6 p7 q2) H) : va_at D cl7 (qL a a2 p0 p1 p2 p3 p4 p5 p6 p7 q2 b 12, cellG (qL a a2 p0 p1 p2 p3 p4 p5 p6 p7 q2 b) cA σI 12) H := h 9 _ rfl
theorem fP_13 {D : va_G} {cA : Nat → ClassId} {a a2 : Nat → Nat} {p0 p1 p2 p3 p4 p5 p6 p7 : Nat × Nat} {q2 b : Nat} {H : Heap} (h : va_P D cl7 (wsL cA a a2 p0 p1 p2 p3 p4 p5 p6 p7 q2) H) : va_at D cl7 (qL a a2 p0 p1 p2 p3 p4 p5 p6 p7 q2 b 13, cellG (qL a a2 p0 p1 p2 p3 p4 p5 p6 p7 q2 b) cA σI 13) H := h 10 _ rfl
theorem fP_14 {D : va_G} {cA : Nat → ClassId} {a a2 : Nat → Nat} {p0 p1 p2 p3 p4 p5 p6 p7 : Nat × Nat} {q2 b : Nat} {H : Heap} (h : va_P D cl7 (wsL cA a a2 p0 p1 p2 p3 p4 p5 p6 p7 q2) H) : va_at D cl7 (qL a a2 p0 p1 p2 p3 p4 p5 p6 p7 q2 b 14, cellG (qL a a2 p0 p1 p2 p3 p4 p5 p6 p7 q2 b) cA σI 14) H := h 11 _ rfl
theorem fP_15 {D : va_G} {cA : Nat → ClassId} {a a2 : Nat → Nat} {p0 p1 p2 p3 p4 p5 p6 p7 : Nat × Nat} {q2 b : Nat} {H : Heap} (h : va_P D cl7 (wsL cA a a2 p0 p1 p2 p3 p4 p5 p6 p7 q2) H) : va_at D cl7 (qL a a2 p0 p1 p2 p3 p4 p5 p6 p7 q2 b 15, cellG (qL a a2 p0 p1 p2 p3 p4 p5 p6 p7 q2 b) cA σI 15) H := h 12 _ rfl
theorem fP_16 {D : va_G} {cA : Nat → ClassId} {a a2 : Nat → Nat} {p0 p1 p2 p3 p4 p5 p6 p7 : Nat × Nat} {q2 b : Nat} {H : Heap} (h : va_P D cl7 (wsL cA a a2 p0 p1 p2 p3 p4 p5 p6 p7 q2) H) : va_at D cl7 (qL a a2 p0 p1 p2 p3 p4 p5 p6 p7 q2 b 16, cellG (qL a a2 p0 p1 p2 p3 p4 p5 p6 p7 q2 b) cA σI 16) H := h 13 _ rfl
theorem fP_17 {D : va_G} {cA : Nat → ClassId} {a a2 : Nat → Nat} {p0 p1 p2 p3 p4 p5 p6 p7 : Nat × Nat} {q2 b : Nat} {H : Heap} (h : va_P D cl7 (wsL cA a a2 p0 p1 p2 p3 p4 p5 p6 p7 q2) H) : va_at D cl7 (qL a a2 p0 p1 p2 p3 p4 p5 p6 p7 q2 b 17, cellG (qL a a2 p0 p1 p2 p3 p4 p5 p6 p7 q2 b) cA σI 17) H := h 14 _ rfl
theorem fP_18 {D : va_G} {cA : Nat → ClassId} {a a2 : Nat → Nat} {p0 p1 p2 p3 p4 p5 p6 p7 : Nat × Nat} {q2 b : Nat} {H : Heap} (h : va_P D cl7 (wsL cA a a2 p0 p1 p2 p3 p4 p5 p6 p7 q2) H) : va_at D cl7 (qL a a2 p0 p1 p2 p3 p4 p5 p6 p7 q2 b 18, cellG (qL a a2 p0 p1 p2 p3 p4 p5 p6 p7 q2 b) cA σI 18) H := h 17 _ rfl
theorem fP_19 {D : va_G} {cA : Nat → ClassId} {a a2 : Nat → Nat} {p0 p1 p2 p3 p4 p5 p6 p7 : Nat × Nat} {q2 b : Nat} {H : Heap} (h : va_P D cl7 (wsL cA a a2 p0 p1 p2 p3 p4 p5 p6 p7 q2) H) : va_at D cl7 (qL a a2 p0 p1 p2 p3 p4 p5 p6 p7 q2 b 19, cellG (qL a a2 p0 p1 p2 p3 p4 p5 p6 p7 q2 b) cA σI 19) H := h 18 _ rfl
theorem fP_20 {D : va_G} {cA : Nat → ClassId} {a a2 : Nat → Nat} {p0 p1 p2 p3 p4 p5 p6 p7 : Nat × Nat} {q2 b : Nat} {H : Heap} (h : va_P D cl7 (wsL cA a a2 p0 p1 p2 p3 p4 p5 p6 p7 q2) H) : va_at D cl7 (qL a a2 p0 p1 p2 p3 p4 p5 p6 p7 q2 b 20, cellG (qL a a2 p0 p1 p2 p3 p4 p5 p6 p7 q2 b) cA σI 20) H := h 20 _ rfl
theorem fP_21 {D : va_G} {cA : Nat → ClassId} {a a2 : Nat → Nat} {p0 p1 p2 p3 p4 p5 p6 p7 : Nat × Nat} {q2 b : Nat} {H : Heap} (h : va_P D cl7 (wsL cA a a2 p0 p1 p2 p3 p4 p5 p6 p7 q2) H) : va_at D cl7 (qL a a2 p0 p1 p2 p3 p4 p5 p6 p7 q2 b 21, cellG (qL a a2 p0 p1 p2 p3 p4 p5 p6 p7 q2 b) cA σI 21) H := h 21 _ rfl
theorem fP_22 {D : va_G} {cA : Nat → ClassId} {a a2 : Nat → Nat} {p0 p1 p2 p3 p4 p5 p6 p7 : Nat × Nat} {q2 b : Nat} {H : Heap} (h : va_P D cl7 (wsL cA a a2 p0 p1 p2 p3 p4 p5 p6 p7 q2) H) : va_at D cl7 (qL a a2 p0 p1 p2 p3 p4 p5 p6 p7 q2 b 22, cellG (qL a a2 p0 p1 p2 p3 p4 p5 p6 p7 q2 b) cA σI 22) H := h 22 _ rfl
theorem fP_23 {D : va_G} {cA : Nat → ClassId} {a a2 : Nat → Nat} {p0 p1 p2 p3 p4 p5 p6 p7 : Nat × Nat} {q2 b : Nat} {H : Heap} (h : va_P D cl7 (wsL cA a a2 p0 p1 p2 p3 p4 p5 p6 p7 q2) H) : va_at D cl7 (qL a a2 p0 p1 p2 p3 p4 p5 p6 p7 q2 b 23, cellG (qL a a2 p0 p1 p2 p3 p4 p5 p6 p7 q2 b) cA σI 23) H := h 23 _ rfl
theorem fP_24 {D : va_G} {cA : Nat → ClassId} {a a2 : Nat → Nat} {p0 p1 p2 p3 p4 p5 p6 p7 : Nat × Nat} {q2 b : Nat} {H : Heap} (h : va_P D cl7 (wsL cA a a2 p0 p1 p2 p3 p4 p5 p6 p7 q2) H) : va_at D cl7 (qL a a2 p0 p1 p2 p3 p4 p5 p6 p7 q2 b 24, cellG (qL a a2 p0 p1 p2 p3 p4 p5 p6 p7 q2 b) cA σI 24) H := h 24 _ rfl
theorem fP_25 {D : va_G} {cA : Nat → ClassId} {a a2 : Nat → Nat} {p0 p1 p2 p3 p4 p5 p6 p7 : Nat × Nat} {q2 b : Nat} {H : Heap} (h : va_P D cl7 (wsL cA a a2 p0 p1 p2 p3 p4 p5 p6 p7 q2) H) : va_at D cl7 (qL a a2 p0 p1 p2 p3 p4 p5 p6 p7 q2 b 25, cellG (qL a a2 p0 p1 p2 p3 p4 p5 p6 p7 q2 b) cA σI 25) H := h 25 _ rfl
theorem fP_26 {D : va_G} {cA : Nat → ClassId} {a a2 : Nat → Nat} {p0 p1 p2 p3 p4 p5 p6 p7 : Nat × Nat} {q2 b : Nat} {H : Heap} (h : va_P D cl7 (wsL cA a a2 p0 p1 p2 p3 p4 p5 p6 p7 q2) H) : va_at D cl7 (qL a a2 p0 p1 p2 p3 p4 p5 p6 p7 q2 b 26, cellG (qL a a2 p0 p1 p2 p3 p4 p5 p6 p7 q2 b) cA σI 26) H := h 26 _ rfl
theorem fP_27 {D : va_G} {cA : Nat → ClassId} {a a2 : Nat → Nat} {p0 p1 p2 p3 p4 p5 p6 p7 : Nat × Nat} {q2 b : Nat} {H : Heap} (h : va_P D cl7 (wsL cA a a2 p0 p1 p2 p3 p4 p5 p6 p7 q2) H) : va_at D cl7 (qL a a2 p0 p1 p2 p3 p4 p5 p6 p7 q2 b 27, cellG (qL a a2 p0 p1 p2 p3 p4 p5 p6 p7 q2 b) cA σI 27) H := h 27 _ rfl
theorem fP_28 {D : va_G} {cA : Nat → ClassId} {a a2 : Nat → Nat} {p0 p1 p2 p3 p4 p5 p6 p7 : Nat × Nat} {q2 b : Nat} {H : Heap} (h : va_P D cl7 (wsL cA a a2 p0 p1 p2 p3 p4 p5 p6 p7 q2) H) : va_at D cl7 (qL a a2 p0 p1 p2 p3 p4 p5 p6 p7 q2 b 28, cellG (qL a a2 p0 p1 p2 p3 p4 p5 p6 p7 q2 b) cA σI 28) H := h 28 _ rfl
theorem fP_29 {D : va_G} {cA : Nat → ClassId} {a a2 : Nat → Nat} {p0 p1 p2 p3 p4 p5 p6 p7 : Nat × Nat} {q2 b : Nat} {H : Heap} (h : va_P D cl7 (wsL cA a a2 p0 p1 p2 p3 p4 p5 p6 p7 q2) H) : va_at D cl7 (qL a a2 p0 p1 p2 p3 p4 p5 p6 p7 q2 b 29, cellG (qL a a2 p0 p1 p2 p3 p4 p5 p6 p7 q2 b) cA σI 29) H := h 29 _ rfl
theorem fP_30 {D : va_G} {cA : Nat → ClassId} {a a2 : Nat → Nat} {p0 p1 p2 p3 p4 p5 p6 p7 : Nat × Nat} {q2 b : Nat} {H : Heap} (h : va_P D cl7 (wsL cA a a2 p0 p1 p2 p3 p4 p5 p6 p7 q2) H) : va_at D cl7 (qL a a2 p0 p1 p2 p3 p4 p5 p6 p7 q2 b 30, cellG (qL a a2 p0 p1 p2 p3 p4 p5 p6 p7 q2 b) cA σI 30) H := h 30 _ rfl
theorem fP_31 {D : va_G} {cA : Nat → ClassId} {a a2 : Nat → Nat} {p0 p1 p2 p3 p4 p5 p6 p7 : Nat × Nat} {q2 b : Nat} {H : Heap} (h : va_P D cl7 (wsL cA a a2 p0 p1 p2 p3 p4 p5 p6 p7 q2) H) : va_at D cl7 (qL a a2 p0 p1 p2 p3 p4 p5 p6 p7 q2 b 31, cellG (qL a a2 p0 p1 p2 p3 p4 p5 p6 p7 q2 b) cA σI 31) H := h 31 _ rfl
theorem fP_32 {D : va_G} {cA : Nat → ClassId} {a a2 : Nat → Nat} {p0 p1 p2 p3 p4 p5 p6 p7 : Nat × Nat} {q2 b : Nat} {H : Heap} (h : va_P D cl7 (wsL cA a a2 p0 p1 p2 p3 p4 p5 p6 p7 q2) H) : va_at D cl7 (qL a a2 p0 p1 p2 p3 p4 p5 p6 p7 q2 b 32, cellG (qL a a2 p0 p1 p2 p3 p4 p5 p6 p7 q2 b) cA σI 32) H := h 32 _ rfl
theorem fP_33 {D : va_G} {cA : Nat → ClassId} {a a2 : Nat → Nat} {p0 p1 p2 p3 p4 p5 p6 p7 : Nat × Nat} {q2 b : Nat} {H : Heap} (h : va_P D cl7 (wsL cA a a2 p0 p1 p2 p3 p4 p5 p6 p7 q2) H) : va_at D cl7 (qL a a2 p0 p1 p2 p3 p4 p5 p6 p7 q2 b 33, cellG (qL a a2 p0 p1 p2 p3 p4 p5 p6 p7 q2 b) cA σI 33) H := h 33 _ rfl
theorem fP_34 {D : va_G} {cA : Nat → ClassId} {a a2 : Nat → Nat} {p0 p1 p2 p3 p4 p5 p6 p7 : Nat × Nat} {q2 b : Nat} {H : Heap} (h : va_P D cl7 (wsL cA a a2 p0 p1 p2 p3 p4 p5 p6 p7 q2) H) : va_at D cl7 (qL a a2 p0 p1 p2 p3 p4 p5 p6 p7 q2 b 34, cellG (qL a a2 p0 p1 p2 p3 p4 p5 p6 p7 q2 b) cA σI 34) H := h 34 _ rfl
theorem fP_35 {D : va_G} {cA : Nat → ClassId} {a a2 : Nat → Nat} {p0 p1 p2 p3 p4 p5 p6 p7 : Nat × Nat} {q2 b : Nat} {H : Heap} (h : va_P D cl7 (wsL cA a a2 p0 p1 p2 p3 p4 p5 p6 p7 q2) H) : va_at D cl7 (qL a a2 p0 p1 p2 p3 p4 p5 p6 p7 q2 b 35, cellG (qL a a2 p0 p1 p2 p3 p4 p5 p6 p7 q2 b) cA σI 35) H := h 35 _ rfl
theorem fP_36 {D : va_G} {cA : Nat → ClassId} {a a2 : Nat → Nat} {p0 p1 p2 p3 p4 p5 p6 p7 : Nat × Nat} {q2 b : Nat} {H : Heap} (h : va_P D cl7 (wsL cA a a2 p0 p1 p2 p3 p4 p5 p6 p7 q2) H) : va_at D cl7 (qL a a2 p0 p1 p2 p3 p4 p5 p6 p7 q2 b 36, cellG (qL a a2 p0 p1 p2 p3 p4 p5 p6 p7 q2 b) cA σI 36) H := h 36 _ rfl
theorem fP_37 {D : va_G} {cA : Nat → ClassId} {a a2 : Nat → Nat} {p0 p1 p2 p3 p4 p5 p6 p7 : Nat × Nat} {q2 b : Nat} {H : Heap} (h : va_P D cl7 (wsL cA a a2 p0 p1 p2 p3 p4 p5 p6 p7 q2) H) : va_at D cl7 (qL a a2 p0 p1 p2 p3 p4 p5 p6 p7 q2 b 37, cellG (qL a a2 p0 p1 p2 p3 p4 p5 p6 p7 q2 b) cA σI 37) H := h 37 _ rfl
theorem fP_38 {D : va_G} {cA : Nat → ClassId} {a a2 : Nat → Nat} {p0 p1 p2 p3 p4 p5 p6 p7 : Nat × Nat} {q2 b : Nat} {H : Heap} (h : va_P D cl7 (wsL cA a a2 p0 p1 p2 p3 p4 p5 p6 p7 q2) H) : va_at D cl7 (qL a a2 p0 p1 p2 p3 p4 p5 p6 p7 q2 b 38, cellG (qL a a2 p0 p1 p2 p3 p4 p5 p6 p7 q2 b) cA σI 38) H := h 38 _ rfl
theorem fP_39 {D : va_G} {cA : Nat → ClassId} {a a2 : Nat → Nat} {p0 p1 p2 p3 p4 p5 p6 p7 : Nat × Nat} {q2 b : Nat} {H : Heap} (h : va_P D cl7 (wsL cA a a2 p0 p1 p2 p3 p4 p5 p6 p7 q2) H) : va_at D cl7 (qL a a2 p0 p1 p2 p3 p4 p5 p6 p7 q2 b 39, cellG (qL a a2 p0 p1 p2 p3 p4 p5 p6 p7 q2 b) cA σI 39) H := h 39 _ rfl
theorem fP_40 {D : va_G} {cA : Nat → ClassId} {a a2 : Nat → Nat} {p0 p1 p2 p3 p4 p5 p6 p7 : Nat × Nat} {q2 b : Nat} {H : Heap} (h : va_P D cl7 (wsL cA a a2 p0 p1 p2 p3 p4 p5 p6 p7 q2) H) : va_at D cl7 (qL a a2 p0 p1 p2 p3 p4 p5 p6 p7 q2 b 40, cellG (qL a a2 p0 p1 p2 p3 p4 p5 p6 p7 q2 b) cA σI 40) H := h 40 _ rfl
theorem fP_41 {D : va_G} {cA : Nat → ClassId} {a a2 : Nat → Nat} {p0 p1 p2 p3 p4 p5 p6 p7 : Nat × Nat} {q2 b : Nat} {H : Heap} (h : va_P D cl7 (wsL cA a a2 p0 p1 p2 p3 p4 p5 p6 p7 q2) H) : va_at D cl7 (qL a a2 p0 p1 p2 p3 p4 p5 p6 p7 q2 b 41, cellG (qL a a2 p0 p1 p2 p3 p4 p5 p6 p7 q2 b) cA σI 41) H := h 41 _ rfl
theorem fP_42 {D : va_G} {cA : Nat → ClassId} {a a2 : Nat → Nat} {p0 p1 p2 p3 p4 p5 p6 p7 : Nat × Nat} {q2 b : Nat} {H : Heap} (h : va_P D cl7 (wsL cA a a2 p0 p1 p2 p3 p4 p5 p6 p7 q2) H) : va_at D cl7 (qL a a2 p0 p1 p2 p3 p4 p5 p6 p7 q2 b 42, cellG (qL a a2 p0 p1 p2 p3 p4 p5 p6 p7 q2 b) cA σI 42) H := h 42 _ rfl
theorem fP_43 {D : va_G} {cA : Nat → ClassId} {a a2 : Nat → Nat} {p0 p1 p2 p3 p4 p5 p6 p7 : Nat × Nat} {q2 b : Nat} {H : Heap} (h : va_P D cl7 (wsL cA a a2 p0 p1 p2 p3 p4 p5 p6 p7 q2) H) : va_at D cl7 (qL a a2 p0 p1 p2 p3 p4 p5 p6 p7 q2 b 43, cellG (qL a a2 p0 p1 p2 p3 p4 p5 p6 p7 q2 b) cA σI 43) H := h 43 _ rfl
theorem fP_44 {D : va_G} {cA : Nat → ClassId} {a a2 : Nat → Nat} {p0 p1 p2 p3 p4 p5 p6 p7 : Nat × Nat} {q2 b : Nat} {H : Heap} (h : va_P D cl7 (wsL cA a a2 p0 p1 p2 p3 p4 p5 p6 p7 q2) H) : va_at D cl7 (qL a a2 p0 p1 p2 p3 p4 p5 p6 p7 q2 b 44, cellG (qL a a2 p0 p1 p2 p3 p4 p5 p6 p7 q2 b) cA σI 44) H := h 44 _ rfl
theorem fP_45 {D : va_G} {cA : Nat → ClassId} {a a2 : Nat → Nat} {p0 p1 p2 p3 p4 p5 p6 p7 : Nat × Nat} {q2 b : Nat} {H : Heap} (h : va_P D cl7 (wsL cA a a2 p0 p1 p2 p3 p4 p5 p6 p7 q2) H) : va_at D cl7 (qL a a2 p0 p1 p2 p3 p4 p5 p6 p7 q2 b 45, cellG (qL a a2 p0 p1 p2 p3 p4 p5 p6 p7 q2 b) cA σI 45) H := h 45 _ rfl
theorem fP_46 {D : va_G} {cA : Nat → ClassId} {a a2 : Nat → Nat} {p0 p1 p2 p3 p4 p5 p6 p7 : Nat × Nat} {q2 b : Nat} {H : Heap} (h : va_P D cl7 (wsL cA a a2 p0 p1 p2 p3 p4 p5 p6 p7 q2) H) : va_at D cl7 (qL a a2 p0 p1 p2 p3 p4 p5 p6 p7 q2 b 46, cellG (qL a a2 p0 p1 p2 p3 p4 p5 p6 p7 q2 b) cA σI 46) H := h 46 _ rfl
theorem fP_47 {D : va_G} {cA : Nat → ClassId} {a a2 : Nat → Nat} {p0 p1 p2 p3 p4 p5 p6 p7 : Nat × Nat} {q2 b : Nat} {H : Heap} (h : va_P D cl7 (wsL cA a a2 p0 p1 p2 p3 p4 p5 p6 p7 q2) H) : va_at D cl7 (qL a a2 p0 p1 p2 p3 p4 p5 p6 p7 q2 b 47, cellG (qL a a2 p0 p1 p2 p3 p4 p5 p6 p7 q2 b) cA σI 47) H := h 47 _ rfl
theorem fP_48 {D : va_G} {cA : Nat → ClassId} {a a2 : Nat → Nat} {p0 p1 p2 p3 p4 p5 p6 p7 : Nat × Nat} {q2 b : Nat} {H : Heap} (h : va_P D cl7 (wsL cA a a2 p0 p1 p2 p3 p4 p5 p6 p7 q2) H) : va_at D cl7 (qL a a2 p0 p1 p2 p3 p4 p5 p6 p7 q2 b 48, cellG (qL a a2 p0 p1 p2 p3 p4 p5 p6 p7 q2 b) cA σI 48) H := h 48 _ rfl
theorem fP_49 {D : va_G} {cA : Nat → ClassId} {a a2 : Nat → Nat} {p0 p1 p2 p3 p4 p5 p6 p7 : Nat × Nat} {q2 b : Nat} {H : Heap} (h : va_P D cl7 (wsL cA a a2 p0 p1 p2 p3 p4 p5 p6 p7 q2) H) : va_at D cl7 (qL a a2 p0 p1 p2 p3 p4 p5 p6 p7 q2 b 49, cellG (qL a a2 p0 p1 p2 p3 p4 p5 p6 p7 q2 b) cA σI 49) H := h 49 _ rfl
theorem fP_50 {D : va_G} {cA : Nat → ClassId} {a a2 : Nat → Nat} {p0 p1 p2 p3 p4 p5 p6 p7 : Nat × Nat} {q2 b : Nat} {H : Heap} (h : va_P D cl7 (wsL cA a a2 p0 p1 p2 p3 p4 p5 p6 p7 q2) H) : va_at D cl7 (qL a a2 p0 p1 p2 p3 p4 p5 p6 p7 q2 b 50, cellG (qL a a2 p0 p1 p2 p3 p4 p5 p6 p7 q2 b) cA σI 50) H := h 50 _ rfl
theorem fP_51 {D : va_G} {cA : Nat → ClassId} {a a2 : Nat → Nat} {p0 p1 p2 p3 p4 p5 p6 p7 : Nat × Nat} {q2 b : Nat} {H : Heap} (h : va_P D cl7 (wsL cA a a2 p0 p1 p2 p3 p4 p5 p6 p7 q2) H) : va_at D cl7 (qL a a2 p0 p1 p2 p3 p4 p5 p6 p7 q2 b 51, cellG (qL a a2 p0 p1 p2 p3 p4 p5 p6 p7 q2 b) cA σI 51) H := h 51 _ rfl
theorem fP_52 {D : va_G} {cA : Nat → ClassId} {a a2 : Nat → Nat} {p0 p1 p2 p3 p4 p5 p6 p7 : Nat × Nat} {q2 b : Nat} {H : Heap} (h : va_P D cl7 (wsL cA a a2 p0 p1 p2 p3 p4 p5 p6 p7 q2) H) : va_at D cl7 (qL a a2 p0 p1 p2 p3 p4 p5 p6 p7 q2 b 52, cellG (qL a a2 p0 p1 p2 p3 p4 p5 p6 p7 q2 b) cA σI 52) H := h 52 _ rfl
theorem fP_53 {D : va_G} {cA : Nat → ClassId} {a a2 : Nat → Nat} {p0 p1 p2 p3 p4 p5 p6 p7 : Nat × Nat} {q2 b : Nat} {H : Heap} (h : va_P D cl7 (wsL cA a a2 p0 p1 p2 p3 p4 p5 p6 p7 q2) H) : va_at D cl7 (qL a a2 p0 p1 p2 p3 p4 p5 p6 p7 q2 b 53, cellG (qL a a2 p0 p1 p2 p3 p4 p5 p6 p7 q2 b) cA σI 53) H := h 53 _ rfl
theorem fP_54 {D : va_G} {cA : Nat → ClassId} {a a2 : Nat → Nat} {p0 p1 p2 p3 p4 p5 p6 p7 : Nat × Nat} {q2 b : Nat} {H : Heap} (h : va_P D cl7 (wsL cA a a2 p0 p1 p2 p3 p4 p5 p6 p7 q2) H) : va_at D cl7 (qL a a2 p0 p1 p2 p3 p4 p5 p6 p7 q2 b 54, cellG (qL a a2 p0 p1 p2 p3 p4 p5 p6 p7 q2 b) cA σI 54) H := h 54 _ rfl
theorem fP_55 {D : va_G} {cA : Nat → ClassId} {a a2 : Nat → Nat} {p0 p1 p2 p3 p4 p5 p6 p7 : Nat × Nat} {q2 b : Nat} {H : Heap} (h : va_P D cl7 (wsL cA a a2 p0 p1 p2 p3 p4 p5 p6 p7 q2) H) : va_at D cl7 (qL a a2 p0 p1 p2 p3 p4 p5 p6 p7 q2 b 55, cellG (qL a a2 p0 p1 p2 p3 p4 p5 p6 p7 q2 b) cA σI 55) H := h 55 _ rfl
theorem fP_56 {D : va_G} {cA : Nat → ClassId} {a a2 : Nat → Nat} {p0 p1 p2 p3 p4 p5 p6 p7 : Nat × Nat} {q2 b : Nat} {H : Heap} (h : va_P D cl7 (wsL cA a a2 p0 p1 p2 p3 p4 p5 p6 p7 q2) H) : va_at D cl7 (qL a a2 p0 p1 p2 p3 p4 p5 p6 p7 q2 b 56, cellG (qL a a2 p0 p1 p2 p3 p4 p5 p6 p7 q2 b) cA σI 56) H := h 56 _ rfl
theorem fP_57 {D : va_G} {cA : Nat → ClassId} {a a2 : Nat → Nat} {p0 p1 p2 p3 p4 p5 p6 p7 : Nat × Nat} {q2 b : Nat} {H : Heap} (h : va_P D cl7 (wsL cA a a2 p0 p1 p2 p3 p4 p5 p6 p7 q2) H) : va_at D cl7 (qL a a2 p0 p1 p2 p3 p4 p5 p6 p7 q2 b 57, cellG (qL a a2 p0 p1 p2 p3 p4 p5 p6 p7 q2 b) cA σI 57) H := h 57 _ rfl
theorem fP_58 {D : va_G} {cA : Nat → ClassId} {a a2 : Nat → Nat} {p0 p1 p2 p3 p4 p5 p6 p7 : Nat × Nat} {q2 b : Nat} {H : Heap} (h : va_P D cl7 (wsL cA a a2 p0 p1 p2 p3 p4 p5 p6 p7 q2) H) : va_at D cl7 (qL a a2 p0 p1 p2 p3 p4 p5 p6 p7 q2 b 58, cellG (qL a a2 p0 p1 p2 p3 p4 p5 p6 p7 q2 b) cA σI 58) H := h 58 _ rfl
theorem fP_59 {D : va_G} {cA : Nat → ClassId} {a a2 : Nat → Nat} {p0 p1 p2 p3 p4 p5 p6 p7 : Nat × Nat} {q2 b : Nat} {H : Heap} (h : va_P D cl7 (wsL cA a a2 p0 p1 p2 p3 p4 p5 p6 p7 q2) H) : va_at D cl7 (qL a a2 p0 p1 p2 p3 p4 p5 p6 p7 q2 b 59, cellG (qL a a2 p0 p1 p2 p3 p4 p5 p6 p7 q2 b) cA σI 59) H := h 59 _ rfl
theorem fP_60 {D : va_G} {cA : Nat → ClassId} {a a2 : Nat → Nat} {p0 p1 p2 p3 p4 p5 p6 p7 : Nat × Nat} {q2 b : Nat} {H : Heap} (h : va_P D cl7 (wsL cA a a2 p0 p1 p2 p3 p4 p5 p6 p7 q2) H) : va_at D cl7 (qL a a2 p0 p1 p2 p3 p4 p5 p6 p7 q2 b 60, cellG (qL a a2 p0 p1 p2 p3 p4 p5 p6 p7 q2 b) cA σI 60) H := h 60 _ rfl
theorem fP_61 {D : va_G} {cA : Nat → ClassId} {a a2 : Nat → Nat} {p0 p1 p2 p3 p4 p5 p6 p7 : Nat × Nat} {q2 b : Nat} {H : Heap} (h : va_P D cl7 (wsL cA a a2 p0 p1 p2 p3 p4 p5 p6 p7 q2) H) : va_at D cl7 (qL a a2 p0 p1 p2 p3 p4 p5 p6 p7 q2 b 61, cellG (qL a a2 p0 p1 p2 p3 p4 p5 p6 p7 q2 b) cA σI 61) H := h 61 _ rfl
theorem fP_62 {D : va_G} {cA : Nat → ClassId} {a a2 : Nat → Nat} {p0 p1 p2 p3 p4 p5 p6 p7 : Nat × Nat} {q2 b : Nat} {H : Heap} (h : va_P D cl7 (wsL cA a a2 p0 p1 p2 p3 p4 p5 p6 p7 q2) H) : va_at D cl7 (qL a a2 p0 p1 p2 p3 p4 p5 p6 p7 q2 b 62, cellG (qL a a2 p0 p1 p2 p3 p4 p5 p6 p7 q2 b) cA σI 62) H := h 62 _ rfl
theorem fP_63 {D : va_G} {cA : Nat → ClassId} {a a2 : Nat → Nat} {p0 p1 p2 p3 p4 p5 p6 p7 : Nat × Nat} {q2 b : Nat} {H : Heap} (h : va_P D cl7 (wsL cA a a2 p0 p1 p2 p3 p4 p5 p6 p7 q2) H) : va_at D cl7 (qL a a2 p0 p1 p2 p3 p4 p5 p6 p7 q2 b 63, cellG (qL a a2 p0 p1 p2 p3 p4 p5 p6 p7 q2 b) cA σI 63) H := h 63 _ rfl
theorem fP_64 {D : va_G} {cA : Nat → ClassId} {a a2 : Nat → Nat} {p0 p1 p2 p3 p4 p5 p6 p7 : Nat × Nat} {q2 b : Nat} {H : Heap} (h : va_P D cl7 (wsL cA a a2 p0 p1 p2 p3 p4 p5 p6 p7 q2) H) : va_at D cl7 (qL a a2 p0 p1 p2 p3 p4 p5 p6 p7 q2 b 64, cellG (qL a a2 p0 p1 p2 p3 p4 p5 p6 p7 q2 b) cA σI 64) H := h 64 _ rfl
theorem fP_65 {D : va_G} {cA : Nat → ClassId} {a a2 : Nat → Nat} {p0 p1 p2 p3 p4 p5 p6 p7 : Nat × Nat} {q2 b : Nat} {H : Heap} (h : va_P D cl7 (wsL cA a a2 p0 p1 p2 p3 p4 p5 p6 p7 q2) H) : va_at D cl7 (qL a a2 p0 p1 p2 p3 p4 p5 p6 p7 q2 b 65, cellG (qL a a2 p0 p1 p2 p3 p4 p5 p6 p7 q2 b) cA σI 65) H := h 65 _ rfl
theorem fP_66 {D : va_G} {cA : Nat → ClassId} {a a2 : Nat → Nat} {p0 p1 p2 p3 p4 p5 p6 p7 : Nat × Nat} {q2 b : Nat} {H : Heap} (h : va_P D cl7 (wsL cA a a2 p0 p1 p2 p3 p4 p5 p6 p7 q2) H) : va_at D cl7 (qL a a2 p0 p1 p2 p3 p4 p5 p6 p7 q2 b 66, cellG (qL a a2 p0 p1 p2 p3 p4 p5 p6 p7 q2 b) cA σI 66) H := h 66 _ rfl
theorem fP_67 {D : va_G} {cA : Nat → ClassId} {a a2 : Nat → Nat} {p0 p1 p2 p3 p4 p5 p6 p7 : Nat × Nat} {q2 b : Nat} {H : Heap} (h : va_P D cl7 (wsL cA a a2 p0 p1 p2 p3 p4 p5 p6 p7 q2) H) : va_at D cl7 (qL a a2 p0 p1 p2 p3 p4 p5 p6 p7 q2 b 67, cellG (qL a a2 p0 p1 p2 p3 p4 p5 p6 p7 q2 b) cA σI 67) H := h 67 _ rfl
theorem fP_5 {D : va_G} {cA : Nat → ClassId} {a a2 : Nat → Nat} {p0 p1 p2 p3 p4 p5 p6 p7 : Nat × Nat} {q2 b : Nat} {H : Heap} (h : va_P D cl7 (wsL cA a a2 p0 p1 p2 p3 p4 p5 p6 p7 q2) H) : va_at D cl7 (qL a a2 p0 p1 p2 p3 p4 p5 p6 p7 q2 b 5, cellG (qL a a2 p0 p1 p2 p3 p4 p5 p6 p7 q2 b) cA σI 5) H := h 19 (qL a a2 p0 p1 p2 p3 p4 p5 p6 p7 q2 b 5, .inl (cA 3, 8, .inr (.inr (.inr (.inr (shF [p0, p1, p2, p3, p4, p5, p6, p7])))))) rfl
theorem fA {cA : Nat → ClassId} {a a2 : Nat → Nat} {p0 p1 p2 p3 p4 p5 p6 p7 : Nat × Nat} {q2 b : Nat} : ∀ k, k < 68 → ∃ e, (wsL cA a a2 p0 p1 p2 p3 p4 p5 p6 p7 q2)[piL.getD k 0]? = some (qL a a2 p0 p1 p2 p3 p4 p5 p6 p7 q2 b k, e) := by
  intro k hk
  match k, hk with
  | 0, _ => exact ⟨_, rfl⟩
  | 1, _ => exact ⟨_, rfl⟩
  | 2, _ => exact ⟨_, rfl⟩
  | 3, _ => exact ⟨_, rfl⟩
  | 4, _ => exact ⟨_, rfl⟩
  | 5, _ => exact ⟨_, rfl⟩
  | 6, _ => exact ⟨_, rfl⟩
  | 7, _ => exact ⟨_, rfl⟩
  | 8, _ => exact ⟨_, rfl⟩
  | 9, _ => exact ⟨_, rfl⟩
  | 10, _ => exact ⟨_, rfl⟩
  | 11, _ => exact ⟨_, rfl⟩
  | 12, _ => exact ⟨_, rfl⟩
  | 13, _ => exact ⟨_, rfl⟩
  | 14, _ => exact ⟨_, rfl⟩
  | 15, _ => exact ⟨_, rfl⟩
  | 16, _ => exact ⟨_, rfl⟩
  | 17, _ => exact ⟨_, rfl⟩
  | 18, _ => exact ⟨_, rfl⟩
  | 19, _ => exact ⟨_, rfl⟩
  | 20, _ => exact ⟨_, rfl⟩
  | 21, _ => exact ⟨_, rfl⟩
  | 22, _ => exact ⟨_, rfl⟩
  | 23, _ => exact ⟨_, rfl⟩
  | 24, _ => exact ⟨_, rfl⟩
  | 25, _ => exact ⟨_, rfl⟩
  | 26, _ => exact ⟨_, rfl⟩
  | 27, _ => exact ⟨_, rfl⟩
  | 28, _ => exact ⟨_, rfl⟩
  | 29, _ => exact ⟨_, rfl⟩
  | 30, _ => exact ⟨_, rfl⟩
  | 31, _ => exact ⟨_, rfl⟩
  | 32, _ => exact ⟨_, rfl⟩
  | 33, _ => exact ⟨_, rfl⟩
  | 34, _ => exact ⟨_, rfl⟩
  | 35, _ => exact ⟨_, rfl⟩
  | 36, _ => exact ⟨_, rfl⟩
  | 37, _ => exact ⟨_, rfl⟩
  | 38, _ => exact ⟨_, rfl⟩
  | 39, _ => exact ⟨_, rfl⟩
  | 40, _ => exact ⟨_, rfl⟩
  | 41, _ => exact ⟨_, rfl⟩
  | 42, _ => exact ⟨_, rfl⟩
  | 43, _ => exact ⟨_, rfl⟩
  | 44, _ => exact ⟨_, rfl⟩
  | 45, _ => exact ⟨_, rfl⟩
  | 46, _ => exact ⟨_, rfl⟩
  | 47, _ => exact ⟨_, rfl⟩
  | 48, _ => exact ⟨_, rfl⟩
  | 49, _ => exact ⟨_, rfl⟩
  | 50, _ => exact ⟨_, rfl⟩
  | 51, _ => exact ⟨_, rfl⟩
  | 52, _ => exact ⟨_, rfl⟩
  | 53, _ => exact ⟨_, rfl⟩
  | 54, _ => exact ⟨_, rfl⟩
  | 55, _ => exact ⟨_, rfl⟩
  | 56, _ => exact ⟨_, rfl⟩
  | 57, _ => exact ⟨_, rfl⟩
  | 58, _ => exact ⟨_, rfl⟩
  | 59, _ => exact ⟨_, rfl⟩
  | 60, _ => exact ⟨_, rfl⟩
  | 61, _ => exact ⟨_, rfl⟩
  | 62, _ => exact ⟨_, rfl⟩
  | 63, _ => exact ⟨_, rfl⟩
  | 64, _ => exact ⟨_, rfl⟩
  | 65, _ => exact ⟨_, rfl⟩
  | 66, _ => exact ⟨_, rfl⟩
  | 67, _ => exact ⟨_, rfl⟩
  | k + 68, hk => exact absurd hk (by omega)
theorem final_P {D : va_G} {cA : Nat → ClassId} {a a2 : Nat → Nat} {p0 p1 p2 p3 p4 p5 p6 p7 : Nat × Nat} {q2 b : Nat} {H : Heap} (h : va_P D cl7 (wsL cA a a2 p0 p1 p2 p3 p4 p5 p6 p7 q2) H) : va_P D cl7 (wG (qL a a2 p0 p1 p2 p3 p4 p5 p6 p7 q2 b) cA σI) H := by
  intro k x hx
  have h68 : k < 68 := by
    have := (List.getElem?_eq_some_iff.mp hx).1
    simpa [wG] using this
  rw [wG_at h68] at hx
  cases hx
  match k, h68 with
  | 0, _ => exact fP_0 h
  | 1, _ => exact fP_1 h
  | 2, _ => exact fP_2 h
  | 3, _ => exact fP_3 h
  | 4, _ => exact fP_4 h
  | 5, _ => exact fP_5 h
  | 6, _ => exact fP_6 h
  | 7, _ => exact fP_7 h
  | 8, _ => exact fP_8 h
  | 9, _ => exact fP_9 h
  | 10, _ => exact fP_10 h
  | 11, _ => exact fP_11 h
  | 12, _ => exact fP_12 h
  | 13, _ => exact fP_13 h
  | 14, _ => exact fP_14 h
  | 15, _ => exact fP_15 h
  | 16, _ => exact fP_16 h
  | 17, _ => exact fP_17 h
  | 18, _ => exact fP_18 h
  | 19, _ => exact fP_19 h
  | 20, _ => exact fP_20 h
  | 21, _ => exact fP_21 h
  | 22, _ => exact fP_22 h
  | 23, _ => exact fP_23 h
  | 24, _ => exact fP_24 h
  | 25, _ => exact fP_25 h
  | 26, _ => exact fP_26 h
  | 27, _ => exact fP_27 h
  | 28, _ => exact fP_28 h
  | 29, _ => exact fP_29 h
  | 30, _ => exact fP_30 h
  | 31, _ => exact fP_31 h
  | 32, _ => exact fP_32 h
  | 33, _ => exact fP_33 h
  | 34, _ => exact fP_34 h
  | 35, _ => exact fP_35 h
  | 36, _ => exact fP_36 h
  | 37, _ => exact fP_37 h
  | 38, _ => exact fP_38 h
  | 39, _ => exact fP_39 h
  | 40, _ => exact fP_40 h
  | 41, _ => exact fP_41 h
  | 42, _ => exact fP_42 h
  | 43, _ => exact fP_43 h
  | 44, _ => exact fP_44 h
  | 45, _ => exact fP_45 h
  | 46, _ => exact fP_46 h
  | 47, _ => exact fP_47 h
  | 48, _ => exact fP_48 h
  | 49, _ => exact fP_49 h
  | 50, _ => exact fP_50 h
  | 51, _ => exact fP_51 h
  | 52, _ => exact fP_52 h
  | 53, _ => exact fP_53 h
  | 54, _ => exact fP_54 h
  | 55, _ => exact fP_55 h
  | 56, _ => exact fP_56 h
  | 57, _ => exact fP_57 h
  | 58, _ => exact fP_58 h
  | 59, _ => exact fP_59 h
  | 60, _ => exact fP_60 h
  | 61, _ => exact fP_61 h
  | 62, _ => exact fP_62 h
  | 63, _ => exact fP_63 h
  | 64, _ => exact fP_64 h
  | 65, _ => exact fP_65 h
  | 66, _ => exact fP_66 h
  | 67, _ => exact fP_67 h
  | k + 68, hk => exact absurd hk (by omega)
