section PU
variable {σ0 : ST} {Q i p f ns nr np : Nat}
theorem gt_n {a b : Nat} (ha : a < 2 ^ 31) (hb : b < 2 ^ 31) : nI b < nI a ↔ ¬ a ≤ b := (nI_ltI hb ha).trans Nat.not_le.symm
theorem sTold {v0 v1 v2 : Nat} (h : RI Q i σ0) (h0 : σ0.1 19 (6 * i + 2) = nI v0) (h1 : σ0.1 19 (6 * i + 3) = nI v1) (h2 : σ0.1 19 (6 * i + 4) = nI v2) (b0 : v0 < 1000) (b1 : v1 < 1000) (b2 : v2 < 1000) : fX5_isSenderAsTold 18 (nI i) σ0 = some (if v0 ≤ 7 ∧ v1 ≤ 20 ∧ v2 ≤ 100 then 1 else 0) := by
  unfold fX5_isSenderAsTold fX5_isSenderAsTold_37 fX5_isSenderAsTold_38
  rw [h.r0 (c := 2) (x := 2) (by omega) rfl, bR_t, h.r0 (c := 3) (x := 3) (by omega) rfl, bR_t, h.r0 (c := 4) (x := 4) (by omega) rfl, bR_t, h0, h1, h2]
  by_cases c0 : v0 ≤ 7
  · rw [if_neg (show ¬ 7 < nI v0 from fun e => (gt_n (b := 7) (by omega) (by omega)).mp e c0)]
    by_cases c1 : v1 ≤ 20
    · rw [if_neg (show ¬ 20 < nI v1 from fun e => (gt_n (b := 20) (by omega) (by omega)).mp e c1)]
      by_cases c2 : v2 ≤ 100
      · rw [if_neg (show ¬ 100 < nI v2 from fun e => (gt_n (b := 100) (by omega) (by omega)).mp e c2), if_pos ⟨c0, c1, c2⟩]; rfl
      · rw [if_pos (show 100 < nI v2 from (gt_n (b := 100) (by omega) (by omega)).mpr c2), if_neg (fun e => c2 e.2.2)]; rfl
    · rw [if_pos (show 20 < nI v1 from (gt_n (b := 20) (by omega) (by omega)).mpr c1), if_neg (fun e => c1 e.2.1)]; rfl
  · rw [if_pos (show 7 < nI v0 from (gt_n (b := 7) (by omega) (by omega)).mpr c0), if_neg (fun e => c0 e.1)]; rfl
theorem rTold {v0 v1 v2 v3 : Nat} (h : RI Q i σ0) (h0 : σ0.1 19 (6 * i + 2) = nI v0) (h1 : σ0.1 19 (6 * i + 3) = nI v1) (h2 : σ0.1 19 (6 * i + 4) = nI v2) (h3 : σ0.1 19 (6 * i + 5) = nI v3) (b0 : v0 < 1000) (b1 : v1 < 1000) (b2 : v2 < 1000) (b3 : v3 < 1000) : fX5_isReturnerAsTold 18 (nI i) σ0 = some (if v0 ≤ 100 ∧ v1 ≤ 100 ∧ v2 ≤ 100 ∧ v3 ≤ 100 then 1 else 0) := by
  unfold fX5_isReturnerAsTold fX5_isReturnerAsTold_48 fX5_isReturnerAsTold_49
  rw [h.r0 (c := 2) (x := 2) (by omega) rfl, bR_t, h.r0 (c := 3) (x := 3) (by omega) rfl, bR_t, h.r0 (c := 4) (x := 4) (by omega) rfl, bR_t, h.r0 (c := 5) (x := 5) (by omega) rfl, bR_t, h0, h1, h2, h3]
  have gt : ∀ {a : Nat}, a < 1000 → ¬ a ≤ 100 → (100 : Int32) < nI a := fun ha q => (gt_n (b := 100) (by omega) (by omega)).mpr q
  have le : ∀ {a : Nat}, a < 1000 → a ≤ 100 → ¬ (100 : Int32) < nI a := fun ha q e => (gt_n (b := 100) (by omega) (by omega)).mp e q
  by_cases c0 : v0 ≤ 100
  · rw [if_neg (le b0 c0)]
    by_cases c1 : v1 ≤ 100
    · rw [if_neg (le b1 c1)]
      by_cases c2 : v2 ≤ 100
      · rw [if_neg (le b2 c2)]
        by_cases c3 : v3 ≤ 100
        · rw [if_neg (le b3 c3), if_pos ⟨c0, c1, c2, c3⟩]; rfl
        · rw [if_pos (gt b3 c3), if_neg (fun e => c3 e.2.2.2)]; rfl
      · rw [if_pos (gt b2 c2), if_neg (fun e => c2 e.2.2.1)]; rfl
    · rw [if_pos (gt b1 c1), if_neg (fun e => c1 e.2.1)]; rfl
  · rw [if_pos (gt b0 c0), if_neg (fun e => c0 e.1)]; rfl
theorem pu_177 (h : RI Q i σ0) (hp : σ0.1 19 (6 * i) = nI p) (kt : Nat → Int32 → Int32 → Int32 → Option Int32) (x y : Int32) : fX5_placeOfUntold_177 kt 18 x y (nI i) 0 σ0 = some (nI p) ∧ fX5_placeOfUntold_177 kt 18 x y (nI i) 1 σ0 = kt 18 x y (nI (i + 1)) := by
  unfold fX5_placeOfUntold_177
  refine ⟨?_, ?_⟩
  · rw [if_pos rfl, h.r0 (c := 0) (x := 0) (by omega) rfl, bR_t, Nat.add_zero, hp]
  · rw [if_neg h10, nI_1]
theorem pu_s {v0 v1 v2 : Nat} (h : RI Q i σ0) (hp : σ0.1 19 (6 * i) = nI p) (hl : σ0.1 19 (6 * i + 1) = 115) (h0 : σ0.1 19 (6 * i + 2) = nI v0) (h1 : σ0.1 19 (6 * i + 3) = nI v1) (h2 : σ0.1 19 (6 * i + 4) = nI v2) (b0 : v0 < 1000) (b1 : v1 < 1000) (b2 : v2 < 1000) (hns : ns ≤ 8) :
    fX5_placeOfUntold_25 σ0 (f + 1) 18 (nI ns) (nI nr) (nI i) = if ns < 8 ∧ v0 ≤ 7 ∧ v1 ≤ 20 ∧ v2 ≤ 100 then fX5_placeOfUntold_25 σ0 f 18 (nI (ns + 1)) (nI nr) (nI (i + 1)) else some (nI p) := by
  have hi := h.1
  have hQ := h.2.1
  rw [fX5_placeOfUntold_25, h.2.2.1, if_neg (nI_ge hi (by omega)), h.r0 (c := 1) (x := 1) (by omega) rfl, bR_t, hl, if_pos rfl, sTold h h0 h1 h2 b0 b1 b2, bR_t]
  unfold fX5_placeOfUntold_69 fX5_placeOfUntold_70
  rw [(pu_177 h hp _ _ _).1, (pu_177 h hp _ _ _).2, nI_1]
  by_cases c : ns < 8
  · rw [if_neg (show ¬ 8 ≤ nI ns from nI_ge (b := 8) c (by omega))]
    by_cases w : v0 ≤ 7 ∧ v1 ≤ 20 ∧ v2 ≤ 100
    · rw [if_pos w, if_neg h10, if_pos ⟨c, w⟩]
    · rw [if_neg w, if_pos rfl, if_neg (fun e => w e.2)]
  · rw [if_pos (show 8 ≤ nI ns from nI_le (a := 8) (by omega) (by omega)), if_neg (fun e => c e.1)]
theorem pu_r {v0 v1 v2 v3 : Nat} {l : Int32} (h : RI Q i σ0) (hp : σ0.1 19 (6 * i) = nI p) (hl : σ0.1 19 (6 * i + 1) = l) (ll : l = 109 ∨ l = 120) (h0 : σ0.1 19 (6 * i + 2) = nI v0) (h1 : σ0.1 19 (6 * i + 3) = nI v1) (h2 : σ0.1 19 (6 * i + 4) = nI v2) (h3 : σ0.1 19 (6 * i + 5) = nI v3) (b0 : v0 < 1000) (b1 : v1 < 1000) (b2 : v2 < 1000) (b3 : v3 < 1000) (hnr : nr ≤ 8) :
    fX5_placeOfUntold_25 σ0 (f + 1) 18 (nI ns) (nI nr) (nI i) = if nr < 8 ∧ v0 ≤ 100 ∧ v1 ≤ 100 ∧ v2 ≤ 100 ∧ v3 ≤ 100 then fX5_placeOfUntold_25 σ0 f 18 (nI ns) (nI (nr + 1)) (nI (i + 1)) else some (nI p) := by
  have hi := h.1
  have hQ := h.2.1
  have n1 : ¬ l = 115 := by rcases ll with rfl | rfl <;> decide
  have e92 : (if l = 109 then fX5_placeOfUntold_92 (fX5_placeOfUntold_25 σ0 f) 18 (nI ns) (nI nr) (nI i) σ0 else if l = 120 then fX5_placeOfUntold_92 (fX5_placeOfUntold_25 σ0 f) 18 (nI ns) (nI nr) (nI i) σ0 else if l = 99 then fX5_placeOfUntold_133 (fX5_placeOfUntold_25 σ0 f) 18 (nI ns) (nI nr) (nI i) 20 σ0 else fX5_placeOfUntold_133 (fX5_placeOfUntold_25 σ0 f) 18 (nI ns) (nI nr) (nI i) 5 σ0) = fX5_placeOfUntold_92 (fX5_placeOfUntold_25 σ0 f) 18 (nI ns) (nI nr) (nI i) σ0 := by
    rcases ll with rfl | rfl
    · rw [if_pos rfl]
    · rw [if_neg (by decide), if_pos rfl]
  rw [fX5_placeOfUntold_25, h.2.2.1, if_neg (nI_ge hi (by omega)), h.r0 (c := 1) (x := 1) (by omega) rfl, bR_t, hl, if_neg n1, e92]
  unfold fX5_placeOfUntold_92 fX5_placeOfUntold_111 fX5_placeOfUntold_112
  rw [rTold h h0 h1 h2 h3 b0 b1 b2 b3, bR_t, (pu_177 h hp _ _ _).1, (pu_177 h hp _ _ _).2, nI_1]
  by_cases c : nr < 8
  · rw [if_neg (show ¬ 8 ≤ nI nr from nI_ge (b := 8) c (by omega))]
    by_cases w : v0 ≤ 100 ∧ v1 ≤ 100 ∧ v2 ≤ 100 ∧ v3 ≤ 100
    · rw [if_pos w, if_neg h10, if_pos ⟨c, w⟩]
    · rw [if_neg w, if_pos rfl, if_neg (fun e => w e.2)]
  · rw [if_pos (show 8 ≤ nI nr from nI_le (a := 8) (by omega) (by omega)), if_neg (fun e => c e.1)]
theorem pu_c {v0 t : Nat} {l : Int32} (h : RI Q i σ0) (hp : σ0.1 19 (6 * i) = nI p) (hl : σ0.1 19 (6 * i + 1) = l) (ll : l = 99 ∧ t = 20 ∨ l = 116 ∧ t = 5) (h0 : σ0.1 19 (6 * i + 2) = nI v0) (b0 : v0 < 1000) (hn : σ0.1 10 3 = nI np) (hnp : np ≤ 100) :
    fX5_placeOfUntold_25 σ0 (f + 1) 18 (nI ns) (nI nr) (nI i) = if np = 0 ∧ 1 ≤ v0 ∧ v0 ≤ t then fX5_placeOfUntold_25 σ0 f 18 (nI ns) (nI nr) (nI (i + 1)) else some (nI p) := by
  have hi := h.1
  have hQ := h.2.1
  have n1 : ¬ l = 115 := by rcases ll with ⟨rfl, -⟩ | ⟨rfl, -⟩ <;> decide
  have n2 : ¬ l = 109 := by rcases ll with ⟨rfl, -⟩ | ⟨rfl, -⟩ <;> decide
  have n3 : ¬ l = 120 := by rcases ll with ⟨rfl, -⟩ | ⟨rfl, -⟩ <;> decide
  have ht : t ≤ 20 := by omega
  have e133 : (if l = 99 then fX5_placeOfUntold_133 (fX5_placeOfUntold_25 σ0 f) 18 (nI ns) (nI nr) (nI i) 20 σ0 else fX5_placeOfUntold_133 (fX5_placeOfUntold_25 σ0 f) 18 (nI ns) (nI nr) (nI i) 5 σ0) = fX5_placeOfUntold_133 (fX5_placeOfUntold_25 σ0 f) 18 (nI ns) (nI nr) (nI i) (nI t) σ0 := by
    rcases ll with ⟨rfl, rfl⟩ | ⟨rfl, rfl⟩
    · rw [if_pos rfl]; rfl
    · rw [if_neg (by decide)]; rfl
  rw [fX5_placeOfUntold_25, h.2.2.1, if_neg (nI_ge hi (by omega)), h.r0 (c := 1) (x := 1) (by omega) rfl, bR_t, hl, if_neg n1, if_neg n2, if_neg n3, e133]
  unfold fX5_placeOfUntold_133 fX5_placeOfUntold_174 fX5_placeOfUntold_175
  rw [h.r0 (c := 2) (x := 2) (by omega) rfl, bR_t, h0, (pu_177 h hp _ _ _).1, (pu_177 h hp _ _ _).2, hn]
  by_cases c : np = 0
  · subst c
    rw [if_pos (show nI 0 = 0 from rfl)]
    by_cases w : 1 ≤ v0
    · rw [if_neg (show ¬ nI v0 < 1 from nI_nlt (b := 1) w (by omega))]
      by_cases w2 : v0 ≤ t
      · rw [if_neg (fun e => (gt_n (by omega) (by omega)).mp e w2), if_pos ⟨rfl, w, w2⟩]
      · rw [if_pos ((gt_n (by omega) (by omega)).mpr w2), if_neg (fun e => w2 e.2.2)]
    · rw [if_pos (show nI v0 < 1 from nI_lt (b := 1) (by omega) (by omega)), if_neg (fun e => w e.2.1)]
  · rw [if_neg (nI_ne0 (by omega) (by omega)), if_neg (fun e => c e.1)]
end PU
