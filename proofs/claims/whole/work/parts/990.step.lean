section ST1
variable {σ T : ST} {ns nr np : Nat}
/-- a sender comes, on both sides -/
theorem REL.sender {v0 v1 v2 : Nat} (R : REL ns nr np (X 1 σ) (Ml T)) (h8 : ns < 8) (b0 : v0 ≤ 7) (b1 : v1 ≤ 20) (b2 : v2 ≤ 100) : ∃ σ' T', setI (setI (setI (opn σ 6 ns 3 3) 7 (3 * ns + 0) (nI v0)) 7 (3 * ns + 1) (nI v1)) 7 (3 * ns + 2) (nI v2) = σ' ∧ setI (setI (setI (setI T 37 ns (nI v0)) 38 ns (nI v1)) 39 ns (nI v2)) 36 3 (nI (ns + 1)) = T' ∧ K5 σ σ' ∧ K6 ns nr T T' ∧ REL (ns + 1) nr np (X 1 σ') (Ml T') := by
  refine ⟨_, _, rfl, rfl, ?_⟩
  have g : ∀ k j, k ≠ 7 → ¬ (k = 6 ∧ j = 3) → (setI (setI (setI (opn σ 6 ns 3 3) 7 (3 * ns + 0) (nI v0)) 7 (3 * ns + 1) (nI v1)) 7 (3 * ns + 2) (nI v2)).1 k j = σ.1 k j := fun k j q1 q2 => by
    rw [sg, if_neg (by omega), sg, if_neg (by omega), sg, if_neg (by omega)]
    show (if k = 6 + 1 ∧ 3 * ns ≤ j ∧ j < 3 * ns + 3 then 0 else if k = 6 ∧ j = 3 then nI (ns + 1) else σ.1 k j) = _
    rw [if_neg (by omega), if_neg q2]
  have g3 : (setI (setI (setI (opn σ 6 ns 3 3) 7 (3 * ns + 0) (nI v0)) 7 (3 * ns + 1) (nI v1)) 7 (3 * ns + 2) (nI v2)).1 6 3 = nI (ns + 1) := by
    rw [sg, if_neg (by omega), sg, if_neg (by omega), sg, if_neg (by omega)]
    show (if 6 = 6 + 1 ∧ 3 * ns ≤ 3 ∧ 3 < 3 * ns + 3 then 0 else if 6 = 6 ∧ 3 = 3 then nI (ns + 1) else σ.1 6 3) = _
    rw [if_neg (by omega), if_pos ⟨rfl, rfl⟩]
  have g7 : ∀ j, (setI (setI (setI (opn σ 6 ns 3 3) 7 (3 * ns + 0) (nI v0)) 7 (3 * ns + 1) (nI v1)) 7 (3 * ns + 2) (nI v2)).1 7 j = if j = 3 * ns + 2 then nI v2 else if j = 3 * ns + 1 then nI v1 else if j = 3 * ns then nI v0 else if 3 * ns ≤ j ∧ j < 3 * ns + 3 then 0 else σ.1 7 j := fun j => by
    have e : (opn σ 6 ns 3 3).1 7 j = if 3 * ns ≤ j ∧ j < 3 * ns + 3 then 0 else σ.1 7 j := by
      show (if 7 = 6 + 1 ∧ 3 * ns ≤ j ∧ j < 3 * ns + 3 then 0 else if 7 = 6 ∧ j = 3 then nI (ns + 1) else σ.1 7 j) = _
      by_cases w : 3 * ns ≤ j ∧ j < 3 * ns + 3
      · rw [if_pos ⟨rfl, w⟩, if_pos w]
      · rw [if_neg (fun e => w e.2), if_neg (by omega), if_neg w]
    rw [sg, sg, sg, e]
    simp only [true_and, Nat.add_zero]
  have g2 : (setI (setI (setI (opn σ 6 ns 3 3) 7 (3 * ns + 0) (nI v0)) 7 (3 * ns + 1) (nI v1)) 7 (3 * ns + 2) (nI v2)).2 = σ.2 := rfl
  generalize setI (setI (setI (opn σ 6 ns 3 3) 7 (3 * ns + 0) (nI v0)) 7 (3 * ns + 1) (nI v1)) 7 (3 * ns + 2) (nI v2) = σ' at g g3 g7 g2 ⊢
  have t : ∀ k j, ¬ (k = 36 ∧ j = 3) → ¬ (37 ≤ k ∧ k ≤ 39 ∧ j = ns) → (setI (setI (setI (setI T 37 ns (nI v0)) 38 ns (nI v1)) 39 ns (nI v2)) 36 3 (nI (ns + 1))).1 k j = T.1 k j := fun k j q1 q2 => by
    rw [sg, if_neg (by omega), sg, if_neg (by omega), sg, if_neg (by omega), sg, if_neg (by omega)]
  have t3 : (setI (setI (setI (setI T 37 ns (nI v0)) 38 ns (nI v1)) 39 ns (nI v2)) 36 3 (nI (ns + 1))).1 36 3 = nI (ns + 1) := by rw [sg, if_pos ⟨rfl, rfl⟩]
  have t37 : (setI (setI (setI (setI T 37 ns (nI v0)) 38 ns (nI v1)) 39 ns (nI v2)) 36 3 (nI (ns + 1))).1 37 ns = nI v0 := by
    rw [sg, if_neg (by omega), sg, if_neg (by omega), sg, if_neg (by omega), sg, if_pos ⟨rfl, rfl⟩]
  have t38 : (setI (setI (setI (setI T 37 ns (nI v0)) 38 ns (nI v1)) 39 ns (nI v2)) 36 3 (nI (ns + 1))).1 38 ns = nI v1 := by
    rw [sg, if_neg (by omega), sg, if_neg (by omega), sg, if_pos ⟨rfl, rfl⟩]
  have t39 : (setI (setI (setI (setI T 37 ns (nI v0)) 38 ns (nI v1)) 39 ns (nI v2)) 36 3 (nI (ns + 1))).1 39 ns = nI v2 := by
    rw [sg, if_neg (by omega), sg, if_pos ⟨rfl, rfl⟩]
  have t2 : (setI (setI (setI (setI T 37 ns (nI v0)) 38 ns (nI v1)) 39 ns (nI v2)) 36 3 (nI (ns + 1))).2 = T.2 := rfl
  generalize setI (setI (setI (setI T 37 ns (nI v0)) 38 ns (nI v1)) 39 ns (nI v2)) 36 3 (nI (ns + 1)) = T' at t t3 t37 t38 t39 t2 ⊢
  refine ⟨⟨fun k j q1 q2 q3 q4 => g k j q3 (by omega), g2⟩, ⟨fun k j q1 q2 q3 => t k j (by omega) (by omega), t2⟩, ?_⟩
  refine REL.addS (v0 := v0) (v1 := v1) (v2 := v2) R h8 b0 b1 b2 (fun j => g 1 j (by omega) (by omega)) g3 (g 8 3 (by omega) (by omega)) (g 10 3 (by omega) (by omega)) (fun j hj => ?_) ⟨?_, ?_, ?_⟩ (funext fun j => g 9 j (by omega) (by omega)) (funext fun j => g 11 j (by omega) (by omega)) (fun j hj => t 36 j (by omega) (by omega)) t3 (t 36 7 (by omega) (by omega)) (t 36 16 (by omega) (by omega)) (fun k j q1 q2 q3 => ?_) ⟨t37, t38, t39⟩ (fun k q1 q2 => ?_)
  · show σ'.1 7 j = σ.1 7 j
    rw [g7, if_neg (by omega), if_neg (by omega), if_neg (by omega), if_neg (by omega)]
  · show σ'.1 7 (3 * ns) = _
    rw [g7, if_neg (by omega), if_neg (by omega), if_pos rfl]
  · show σ'.1 7 (3 * ns + 1) = _
    rw [g7, if_neg (by omega), if_pos rfl]
  · show σ'.1 7 (3 * ns + 2) = _
    rw [g7, if_pos rfl]
  · rw [Ml_c _ q1, Ml_c _ q1]; exact t _ _ (by omega) (by omega)
  · funext j
    rw [Ml_c _ (by omega), Ml_c _ (by omega)]; exact t _ _ (by omega) (by omega)
/-- a returner comes, on both sides -/
theorem REL.returner {bx v0 v1 v2 v3 : Nat} (R : REL ns nr np (X 1 σ) (Ml T)) (h8 : nr < 8) (bb : bx ≤ 1) (b0 : v0 ≤ 100) (b1 : v1 ≤ 100) (b2 : v2 ≤ 100) (b3 : v3 ≤ 100) : ∃ σ' T', setI (setI (setI (setI (setI (opn σ 8 nr 5 5) 9 (5 * nr + 0) (nI bx)) 9 (5 * nr + 1) (nI v0)) 9 (5 * nr + 2) (nI v1)) 9 (5 * nr + 3) (nI v2)) 9 (5 * nr + 4) (nI v3) = σ' ∧ setI (setI (setI (setI (setI (setI (setI (setI T 40 nr (nI bx)) 41 nr (nI v0)) 42 nr (nI v1)) 43 nr (nI v2)) 44 nr (nI v3)) 45 nr 0) 46 nr 0) 36 7 (nI (nr + 1)) = T' ∧ K5 σ σ' ∧ K6 ns nr T T' ∧ REL ns (nr + 1) np (X 1 σ') (Ml T') := by
  let s := setI (setI (setI (setI (setI (opn σ 8 nr 5 5) 9 (5 * nr + 0) (nI bx)) 9 (5 * nr + 1) (nI v0)) 9 (5 * nr + 2) (nI v1)) 9 (5 * nr + 3) (nI v2)) 9 (5 * nr + 4) (nI v3)
  let u := setI (setI (setI (setI (setI (setI (setI (setI T 40 nr (nI bx)) 41 nr (nI v0)) 42 nr (nI v1)) 43 nr (nI v2)) 44 nr (nI v3)) 45 nr 0) 46 nr 0) 36 7 (nI (nr + 1))
  refine ⟨s, u, rfl, rfl, ?_⟩
  have g : ∀ k j, k ≠ 9 → ¬ (k = 8 ∧ j = 3) → s.1 k j = σ.1 k j := fun k j q1 q2 => by
    show (setI (setI (setI (setI (setI (opn σ 8 nr 5 5) 9 (5 * nr + 0) (nI bx)) 9 (5 * nr + 1) (nI v0)) 9 (5 * nr + 2) (nI v1)) 9 (5 * nr + 3) (nI v2)) 9 (5 * nr + 4) (nI v3)).1 k j = _
    rw [sg, if_neg (by omega), sg, if_neg (by omega), sg, if_neg (by omega), sg, if_neg (by omega), sg, if_neg (by omega)]
    show (if k = 8 + 1 ∧ 5 * nr ≤ j ∧ j < 5 * nr + 5 then 0 else if k = 8 ∧ j = 3 then nI (nr + 1) else σ.1 k j) = _
    rw [if_neg (by omega), if_neg q2]
  have g3 : s.1 8 3 = nI (nr + 1) := by
    show (setI (setI (setI (setI (setI (opn σ 8 nr 5 5) 9 (5 * nr + 0) (nI bx)) 9 (5 * nr + 1) (nI v0)) 9 (5 * nr + 2) (nI v1)) 9 (5 * nr + 3) (nI v2)) 9 (5 * nr + 4) (nI v3)).1 8 3 = _
    rw [sg, if_neg (by omega), sg, if_neg (by omega), sg, if_neg (by omega), sg, if_neg (by omega), sg, if_neg (by omega)]
    show (if 8 = 8 + 1 ∧ 5 * nr ≤ 3 ∧ 3 < 5 * nr + 5 then 0 else if 8 = 8 ∧ 3 = 3 then nI (nr + 1) else σ.1 8 3) = _
    rw [if_neg (by omega), if_pos ⟨rfl, rfl⟩]
  have g7 : ∀ j, s.1 9 j = if j = 5 * nr + 4 then nI v3 else if j = 5 * nr + 3 then nI v2 else if j = 5 * nr + 2 then nI v1 else if j = 5 * nr + 1 then nI v0 else if j = 5 * nr then nI bx else if 5 * nr ≤ j ∧ j < 5 * nr + 5 then 0 else σ.1 9 j := fun j => by
    have e : (opn σ 8 nr 5 5).1 9 j = if 5 * nr ≤ j ∧ j < 5 * nr + 5 then 0 else σ.1 9 j := by
      show (if 9 = 8 + 1 ∧ 5 * nr ≤ j ∧ j < 5 * nr + 5 then 0 else if 9 = 8 ∧ j = 3 then nI (nr + 1) else σ.1 9 j) = _
      by_cases w : 5 * nr ≤ j ∧ j < 5 * nr + 5
      · rw [if_pos ⟨rfl, w⟩, if_pos w]
      · rw [if_neg (fun e => w e.2), if_neg (by omega), if_neg w]
    show (setI (setI (setI (setI (setI (opn σ 8 nr 5 5) 9 (5 * nr + 0) (nI bx)) 9 (5 * nr + 1) (nI v0)) 9 (5 * nr + 2) (nI v1)) 9 (5 * nr + 3) (nI v2)) 9 (5 * nr + 4) (nI v3)).1 9 j = _
    rw [sg, sg, sg, sg, sg, e]
    simp only [true_and, Nat.add_zero]
  have t : ∀ k j, ¬ (k = 36 ∧ j = 7) → ¬ (40 ≤ k ∧ k ≤ 46 ∧ j = nr) → u.1 k j = T.1 k j := fun k j q1 q2 => by
    show (setI (setI (setI (setI (setI (setI (setI (setI T 40 nr (nI bx)) 41 nr (nI v0)) 42 nr (nI v1)) 43 nr (nI v2)) 44 nr (nI v3)) 45 nr 0) 46 nr 0) 36 7 (nI (nr + 1))).1 k j = _
    rw [sg, if_neg (by omega), sg, if_neg (by omega), sg, if_neg (by omega), sg, if_neg (by omega), sg, if_neg (by omega), sg, if_neg (by omega), sg, if_neg (by omega), sg, if_neg (by omega)]
  have tq : ∀ k j, u.1 k j = if k = 36 ∧ j = 7 then nI (nr + 1) else if k = 46 ∧ j = nr then 0 else if k = 45 ∧ j = nr then 0 else if k = 44 ∧ j = nr then nI v3 else if k = 43 ∧ j = nr then nI v2 else if k = 42 ∧ j = nr then nI v1 else if k = 41 ∧ j = nr then nI v0 else if k = 40 ∧ j = nr then nI bx else T.1 k j := fun k j => rfl
  refine ⟨⟨fun k j q1 q2 q3 q4 => g k j q4 (by omega), rfl⟩, ⟨fun k j q1 q2 q3 => t k j (by omega) (by omega), rfl⟩, ?_⟩
  refine REL.addR (bx := bx) (v0 := v0) (v1 := v1) (v2 := v2) (v3 := v3) R h8 bb b0 b1 b2 b3 (fun j => g 1 j (by omega) (by omega)) (g 6 3 (by omega) (by omega)) g3 (g 10 3 (by omega) (by omega)) (fun j hj => ?_) ⟨?_, ?_, ?_, ?_, ?_⟩ (funext fun j => g 7 j (by omega) (by omega)) (funext fun j => g 11 j (by omega) (by omega)) (fun j hj => t 36 j (by omega) (by omega)) (t 36 3 (by omega) (by omega)) ?_ (t 36 16 (by omega) (by omega)) (fun k j q1 q2 q3 => ?_) ⟨?_, ?_, ?_, ?_, ?_, ?_, ?_⟩ (fun k q1 q2 q3 => ?_)
  · show s.1 9 j = σ.1 9 j
    rw [g7, if_neg (by omega), if_neg (by omega), if_neg (by omega), if_neg (by omega), if_neg (by omega), if_neg (by omega)]
  · show s.1 9 (5 * nr) = _
    rw [g7, if_neg (by omega), if_neg (by omega), if_neg (by omega), if_neg (by omega), if_pos rfl]
  · show s.1 9 (5 * nr + 1) = _
    rw [g7, if_neg (by omega), if_neg (by omega), if_neg (by omega), if_pos rfl]
  · show s.1 9 (5 * nr + 2) = _
    rw [g7, if_neg (by omega), if_neg (by omega), if_pos rfl]
  · show s.1 9 (5 * nr + 3) = _
    rw [g7, if_neg (by omega), if_pos rfl]
  · show s.1 9 (5 * nr + 4) = _
    rw [g7, if_pos rfl]
  · show u.1 36 7 = _
    rw [tq, if_pos ⟨rfl, rfl⟩]
  · rw [Ml_c _ (by omega), Ml_c _ (by omega)]; exact t _ _ (by omega) (by omega)
  · show u.1 40 nr = _
    rw [tq, if_neg (by omega), if_neg (by omega), if_neg (by omega), if_neg (by omega), if_neg (by omega), if_neg (by omega), if_neg (by omega), if_pos ⟨rfl, rfl⟩]
  · show u.1 41 nr = _
    rw [tq, if_neg (by omega), if_neg (by omega), if_neg (by omega), if_neg (by omega), if_neg (by omega), if_neg (by omega), if_pos ⟨rfl, rfl⟩]
  · show u.1 42 nr = _
    rw [tq, if_neg (by omega), if_neg (by omega), if_neg (by omega), if_neg (by omega), if_neg (by omega), if_pos ⟨rfl, rfl⟩]
  · show u.1 43 nr = _
    rw [tq, if_neg (by omega), if_neg (by omega), if_neg (by omega), if_neg (by omega), if_pos ⟨rfl, rfl⟩]
  · show u.1 44 nr = _
    rw [tq, if_neg (by omega), if_neg (by omega), if_neg (by omega), if_pos ⟨rfl, rfl⟩]
  · show u.1 45 nr = _
    rw [tq, if_neg (by omega), if_neg (by omega), if_pos ⟨rfl, rfl⟩]
  · show u.1 46 nr = _
    rw [tq, if_neg (by omega), if_pos ⟨rfl, rfl⟩]
  · funext j
    rw [Ml_c _ q1, Ml_c _ q1]; exact t _ _ (by omega) (by omega)
/-- coins or times come -/
theorem REL.setting {v j t : Nat} (R : REL ns nr np (X 1 σ) (Ml T)) (hj : t = 20 ∧ j = 0 ∨ t = 5 ∧ j = 1) (h1 : 1 ≤ v) (h2 : v ≤ t) : K5 σ (setI σ 1 j (nI v)) ∧ K6 ns nr T (setI T 36 j (nI v)) ∧ REL ns nr np (X 1 (setI σ 1 j (nI v))) (Ml (setI T 36 j (nI v))) := by
  have h1' : (1 : Int32) ≤ nI v := nI_le (a := 1) h1 (by omega)
  have h2' : nI v ≤ nI t := nI_le h2 (by omega)
  refine ⟨⟨fun k i q1 _ _ _ => by rw [sg, if_neg (by omega)], rfl⟩, ⟨fun k i q1 _ _ => by rw [sg, if_neg (by omega)], rfl⟩, REL.c R (fun k i hk => ?_) (fun k i hk hk2 => ?_) ?_ ?_ ?_ ?_ ?_⟩
  · match k, hk with
    | 1, _ => rfl
    | 2, _ => rfl
    | 3, _ => rfl
    | 4, _ => rfl
    | 5, _ => rfl
    | k + 6, _ => rfl
  · match k, hk with
    | 1, _ => show (setI T 36 j (nI v)).1 36 3 = T.1 36 3; rw [sg, if_neg (by omega)]
    | 2, _ => show (setI T 36 j (nI v)).1 36 7 = T.1 36 7; rw [sg, if_neg (by omega)]
    | 3, _ => show (setI T 36 j (nI v)).1 36 16 = T.1 36 16; rw [sg, if_neg (by omega)]
    | k + 4, _ => show (setI T 36 j (nI v)).1 (33 + (k + 4)) i = T.1 (33 + (k + 4)) i; rw [sg, if_neg (by omega)]
  all_goals rcases hj with ⟨rfl, rfl⟩ | ⟨rfl, rfl⟩
  all_goals first | exact rfl | exact (show rg (nI v) 1 20 from ⟨h1', h2'⟩) | exact (show rg (nI v) 1 5 from ⟨h1', h2'⟩) | exact R.c0 | exact R.c1 | exact R.c2 | exact R.rc | exact R.rt
end ST1
