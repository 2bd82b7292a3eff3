section CM
variable {T : ST} {i ns nr np : Nat}
theorem cm_ix (hi : i < 34) : (4 : Int32) * nI i = nI (4 * i) ∧ nI (4 * i) + 1 = nI (4 * i + 1) ∧ nI (4 * i) + 2 = nI (4 * i + 2) ∧ nI (4 * i) + 3 = nI (4 * i + 3) ∧ inb (nI (4 * i)) 200 = true ∧ inb (nI (4 * i + 1)) 200 = true ∧ inb (nI (4 * i + 2)) 200 = true ∧ inb (nI (4 * i + 3)) 200 = true ∧ inb (nI i) 50 = true :=
  ⟨pk_mul 4 i, nI_1 _, nI_add (4 * i) 2, nI_add (4 * i) 3, inb_t (by omega) (by decide), inb_t (by omega) (by decide), inb_t (by omega) (by decide), inb_t (by omega) (by decide), inb_t (by omega) (by decide)⟩
theorem cm_s {v0 v1 v2 : Nat} (hi : i < 34) (hl : T.1 55 i = 115) (h0 : T.1 56 (4 * i) = nI v0) (h1 : T.1 56 (4 * i + 1) = nI v1) (h2 : T.1 56 (4 * i + 2) = nI v2) (b0 : v0 < 1000) (b1 : v1 < 1000) (b2 : v2 < 1000) (e3 : T.1 36 3 = nI ns) (hns : ns ≤ 8) :
    fX6_comes (nI i) T = if ns < 8 ∧ v0 ≤ 7 ∧ v1 ≤ 20 ∧ v2 ≤ 100 then some (1, setI (setI (setI (setI T 37 ns (nI v0)) 38 ns (nI v1)) 39 ns (nI v2)) 36 3 (nI (ns + 1))) else some (0, T) := by
  obtain ⟨p0, p1, p2, p3, i0, i1, i2, i3, i4⟩ := cm_ix hi
  unfold fX6_comes fX6_comes_109
  rw [p0, p1, p2, p3, al_55, al_56, i0, i1, i2, i3, i4, nI_clamp (show i < 2 ^ 31 by omega), nI_clamp (show 4 * i < 2 ^ 31 by omega), nI_clamp (show 4 * i + 1 < 2 ^ 31 by omega), nI_clamp (show 4 * i + 2 < 2 ^ 31 by omega), hl, h0, h1, h2]
  rw [gd_t, gd_t, gd_t, gd_t, gd_t, if_neg (show ¬ (115 : Int32) = 99 by decide), if_pos rfl]
  by_cases c0 : v0 ≤ 7
  rotate_left
  · rw [if_pos (show 7 < nI v0 from (gt_n (b := 7) (by omega) (by omega)).mpr c0), if_neg (fun e => c0 e.2.1)]
  rw [if_neg (show ¬ 7 < nI v0 from fun e => (gt_n (b := 7) (by omega) (by omega)).mp e c0)]
  by_cases c1 : v1 ≤ 20
  rotate_left
  · rw [if_pos (show 20 < nI v1 from (gt_n (b := 20) (by omega) (by omega)).mpr c1), if_neg (fun e => c1 e.2.2.1)]
  rw [if_neg (show ¬ 20 < nI v1 from fun e => (gt_n (b := 20) (by omega) (by omega)).mp e c1)]
  by_cases c2 : v2 ≤ 100
  rotate_left
  · rw [if_pos (show 100 < nI v2 from (gt_n (b := 100) (by omega) (by omega)).mpr c2), if_neg (fun e => c2 e.2.2.2)]
  rw [if_neg (show ¬ 100 < nI v2 from fun e => (gt_n (b := 100) (by omega) (by omega)).mp e c2)]
  by_cases c : ns < 8
  · rw [if_neg (show ¬ T.1 36 3 = 8 from fun e => by rw [e3] at e; have := (nI_eq (b := 8) (by omega) (by decide)).mp e; omega), if_pos ⟨c, c0, c1, c2⟩]
    show gd (inb (T.1 36 3) 8) (gd (inb (T.1 36 3) 8) (gd (inb (T.1 36 3) 8) (some (1, setI (setI (setI (setI T 37 ((T.1 36 3).toNatClampNeg) (nI v0)) 38 ((T.1 36 3).toNatClampNeg) (nI v1)) 39 ((T.1 36 3).toNatClampNeg) (nI v2)) 36 3 (T.1 36 3 + 1))))) = _
    rw [e3, inb_t c (by decide), gd_t, gd_t, gd_t, nI_clamp (show ns < 2 ^ 31 by omega), nI_1]
  · rw [if_pos (show T.1 36 3 = 8 by rw [e3, show ns = 8 by omega]; rfl), if_neg (fun e => c e.1)]
theorem cm_c {v0 t j : Nat} {l : Int32} (hi : i < 34) (hl : T.1 55 i = l) (ll : l = 99 ∧ t = 20 ∧ j = 0 ∨ l = 116 ∧ t = 5 ∧ j = 1) (h0 : T.1 56 (4 * i) = nI v0) (b0 : v0 < 1000) (e16 : T.1 36 16 = nI np) (hnp : np ≤ 100) :
    fX6_comes (nI i) T = if np = 0 ∧ 1 ≤ v0 ∧ v0 ≤ t then some (1, setI T 36 j (nI v0)) else some (0, T) := by
  obtain ⟨p0, p1, p2, p3, i0, i1, i2, i3, i4⟩ := cm_ix hi
  have ei : ∀ t, t < 1000 → fX6_in (nI v0).toInt64 1 ((nI t).toInt64) T = some (if 1 ≤ v0 ∧ v0 ≤ t then 1 else 0) := fun t ht => by
    have := in_i (nI v0) 1 (nI t) T
    by_cases w : 1 ≤ v0 ∧ v0 ≤ t
    · rw [if_pos ⟨show (1 : Int32) ≤ nI v0 from nI_le (a := 1) w.1 (by omega), nI_le w.2 (by omega)⟩] at this
      rw [if_pos w]; exact this
    · rw [if_neg (fun e => w ⟨(nI_leI (a := 1) (by omega) (by omega)).mp e.1, (nI_leI (by omega) (by omega)).mp e.2⟩)] at this
      rw [if_neg w]; exact this
  have fin : ∀ t j, t < 1000 → (bR (fX6_in (nI v0).toInt64 1 ((nI t).toInt64) T) fun a6 => if a6 = 0 then some ((0 : Int32), T) else if T.1 36 16 ≤ 0 then some (1, setI T 36 j (nI v0)) else some (0, T)) = if np = 0 ∧ 1 ≤ v0 ∧ v0 ≤ t then some (1, setI T 36 j (nI v0)) else some (0, T) := fun t j ht => by
    rw [ei t ht, bR_t, e16]
    by_cases w : 1 ≤ v0 ∧ v0 ≤ t
    · rw [if_pos w, if_neg h10]
      by_cases c : np = 0
      · subst c
        rw [if_pos (show nI 0 ≤ 0 by decide), if_pos ⟨rfl, w⟩]
      · rw [if_neg (nI_nle (by omega) (by omega)), if_neg (fun e => c e.1)]
    · rw [if_neg w, if_pos rfl, if_neg (fun e => w e.2)]
  unfold fX6_comes fX6_comes_174 fX6_comes_202
  rw [p0, p1, p2, p3, al_55, al_56, i0, i1, i2, i3, i4, nI_clamp (show i < 2 ^ 31 by omega), nI_clamp (show 4 * i < 2 ^ 31 by omega), hl, h0]
  rw [gd_t, gd_t, gd_t, gd_t, gd_t]
  rcases ll with ⟨rfl, rfl, rfl⟩ | ⟨rfl, rfl, rfl⟩
  · rw [if_pos rfl]; exact fin 20 0 (by omega)
  · rw [if_neg (show ¬ (116 : Int32) = 99 by decide), if_neg (show ¬ (116 : Int32) = 115 by decide), if_pos rfl]; exact fin 5 1 (by omega)
theorem cm_r {bx v0 v1 v2 v3 : Nat} {l : Int32} (hi : i < 34) (hl : T.1 55 i = l) (ll : l = 109 ∧ bx = 0 ∨ l = 120 ∧ bx = 1) (h0 : T.1 56 (4 * i) = nI v0) (h1 : T.1 56 (4 * i + 1) = nI v1) (h2 : T.1 56 (4 * i + 2) = nI v2) (h3 : T.1 56 (4 * i + 3) = nI v3) (b0 : v0 < 1000) (b1 : v1 < 1000) (b2 : v2 < 1000) (b3 : v3 < 1000) (e7 : T.1 36 7 = nI nr) (hnr : nr ≤ 8) :
    fX6_comes (nI i) T = if nr < 8 ∧ v0 ≤ 100 ∧ v1 ≤ 100 ∧ v2 ≤ 100 ∧ v3 ≤ 100 then some (1, setI (setI (setI (setI (setI (setI (setI (setI T 40 nr (nI bx)) 41 nr (nI v0)) 42 nr (nI v1)) 43 nr (nI v2)) 44 nr (nI v3)) 45 nr 0) 46 nr 0) 36 7 (nI (nr + 1))) else some (0, T) := by
  obtain ⟨p0, p1, p2, p3, i0, i1, i2, i3, i4⟩ := cm_ix hi
  have gt : ∀ {a : Nat}, a < 1000 → ¬ a ≤ 100 → (100 : Int32) < nI a := fun ha q => (gt_n (b := 100) (by omega) (by omega)).mpr q
  have le : ∀ {a : Nat}, a < 1000 → a ≤ 100 → ¬ (100 : Int32) < nI a := fun ha q e => (gt_n (b := 100) (by omega) (by omega)).mp e q
  have n1 : ¬ l = 99 := by rcases ll with ⟨rfl, -⟩ | ⟨rfl, -⟩ <;> decide
  have n2 : ¬ l = 115 := by rcases ll with ⟨rfl, -⟩ | ⟨rfl, -⟩ <;> decide
  have n3 : ¬ l = 116 := by rcases ll with ⟨rfl, -⟩ | ⟨rfl, -⟩ <;> decide
  unfold fX6_comes fX6_comes_247
  rw [p0, p1, p2, p3, al_55, al_56, i0, i1, i2, i3, i4, nI_clamp (show i < 2 ^ 31 by omega), nI_clamp (show 4 * i < 2 ^ 31 by omega), nI_clamp (show 4 * i + 1 < 2 ^ 31 by omega), nI_clamp (show 4 * i + 2 < 2 ^ 31 by omega), nI_clamp (show 4 * i + 3 < 2 ^ 31 by omega), hl, h0, h1, h2, h3]
  rw [gd_t, gd_t, gd_t, gd_t, gd_t, if_neg n1, if_neg n2, if_neg n3]
  by_cases c0 : v0 ≤ 100
  rotate_left
  · rw [if_pos (gt b0 c0), if_neg (fun e => c0 e.2.1)]
  by_cases c1 : v1 ≤ 100
  rotate_left
  · rw [if_neg (le b0 c0), if_pos (gt b1 c1), if_neg (fun e => c1 e.2.2.1)]
  by_cases c2 : v2 ≤ 100
  rotate_left
  · rw [if_neg (le b0 c0), if_neg (le b1 c1), if_pos (gt b2 c2), if_neg (fun e => c2 e.2.2.2.1)]
  by_cases c3 : v3 ≤ 100
  rotate_left
  · rw [if_neg (le b0 c0), if_neg (le b1 c1), if_neg (le b2 c2), if_pos (gt b3 c3), if_neg (fun e => c3 e.2.2.2.2)]
  rw [if_neg (le b0 c0), if_neg (le b1 c1), if_neg (le b2 c2), if_neg (le b3 c3)]
  by_cases c : nr < 8
  rotate_left
  · rw [if_pos (show T.1 36 7 = 8 by rw [e7, show nr = 8 by omega]; rfl), if_neg (fun e => c e.1)]
  rw [if_neg (show ¬ T.1 36 7 = 8 from fun e => by rw [e7] at e; have := (nI_eq (b := 8) (by omega) (by decide)).mp e; omega), if_pos (show nr < 8 ∧ v0 ≤ 100 ∧ v1 ≤ 100 ∧ v2 ≤ 100 ∧ v3 ≤ 100 from ⟨c, c0, c1, c2, c3⟩), gd_t]
  have fin : ∀ y : Int32, y = nI bx → fX6_comes_273 (nI v0) (nI v1) (nI v2) (nI v3) (T.1 36 7) y T = some (1, setI (setI (setI (setI (setI (setI (setI (setI T 40 nr (nI bx)) 41 nr (nI v0)) 42 nr (nI v1)) 43 nr (nI v2)) 44 nr (nI v3)) 45 nr 0) 46 nr 0) 36 7 (nI (nr + 1))) := fun y hy => by
    subst hy
    show gd (inb (T.1 36 7) 8) (gd (inb (T.1 36 7) 8) (gd (inb (T.1 36 7) 8) (gd (inb (T.1 36 7) 8) (gd (inb (T.1 36 7) 8) (gd (inb (T.1 36 7) 8) (gd (inb (T.1 36 7) 8) (some (1, setI (setI (setI (setI (setI (setI (setI (setI T 40 ((T.1 36 7).toNatClampNeg) (nI bx)) 41 ((T.1 36 7).toNatClampNeg) (nI v0)) 42 ((T.1 36 7).toNatClampNeg) (nI v1)) 43 ((T.1 36 7).toNatClampNeg) (nI v2)) 44 ((T.1 36 7).toNatClampNeg) (nI v3)) 45 ((T.1 36 7).toNatClampNeg) 0) 46 ((T.1 36 7).toNatClampNeg) 0) 36 7 (T.1 36 7 + 1))))))))) = _
    rw [e7, inb_t c (by decide), gd_t, gd_t, gd_t, gd_t, gd_t, gd_t, gd_t, nI_clamp (show nr < 2 ^ 31 by omega), nI_1]
  rcases ll with ⟨rfl, rfl⟩ | ⟨rfl, rfl⟩
  · rw [if_neg (show ¬ (109 : Int32) = 120 by decide)]; exact fin 0 rfl
  · rw [if_pos rfl]; exact fin 1 rfl
end CM
section CA
variable {σ0 σ : ST} {Q i ns nr : Nat}
theorem ca_s {v0 v1 v2 : Nat} (h : RI Q i σ0) (hk : ∀ j, σ.1 18 j = σ0.1 18 j ∧ σ.1 19 j = σ0.1 19 j) (hC : CST σ) (e6 : σ.1 6 3 = nI ns) (h8 : ns < 8) (hl : σ0.1 19 (6 * i + 1) = 115) (h0 : σ0.1 19 (6 * i + 2) = nI v0) (h1 : σ0.1 19 (6 * i + 3) = nI v1) (h2 : σ0.1 19 (6 * i + 4) = nI v2) :
    fX5_carryOut 18 (nI i) σ = some (setI (setI (setI (opn σ 6 ns 3 3) 7 (3 * ns + 0) (nI v0)) 7 (3 * ns + 1) (nI v1)) 7 (3 * ns + 2) (nI v2)) := by
  unfold fX5_carryOut
  have os : ∀ k j, k ≠ 7 → ¬ (k = 6 ∧ j = 3) → (opn σ 6 ns 3 3).1 k j = σ.1 k j := fun k j q1 q2 => by
    show (if k = 6 + 1 ∧ 3 * ns ≤ j ∧ j < 3 * ns + 3 then 0 else if k = 6 ∧ j = 3 then nI (ns + 1) else σ.1 k j) = _
    rw [if_neg (by omega), if_neg q2]
  have o3 : (opn σ 6 ns 3 3).1 6 3 = nI (ns + 1) := by
    show (if 6 = 6 + 1 ∧ 3 * ns ≤ 3 ∧ 3 < 3 * ns + 3 then 0 else if 6 = 6 ∧ 3 = 3 then nI (ns + 1) else σ.1 6 3) = _
    rw [if_neg (by omega), if_pos ⟨rfl, rfl⟩]
  have o1 : (opn σ 6 ns 3 3).1 6 1 = 3 := (os 6 1 (by omega) (by omega)).trans hC.a0.2
  have st : ∀ (σ : ST) (j : Nat) (v : Int32) (k i : Nat), k ≠ 7 → (setI σ 7 j v).1 k i = σ.1 k i := fun σ j v k i h => by rw [sg, if_neg (by omega)]
  have hk1 : ∀ j, (opn σ 6 ns 3 3).1 18 j = σ0.1 18 j ∧ (opn σ 6 ns 3 3).1 19 j = σ0.1 19 j := fun j => ⟨(os _ _ (by omega) (by omega)).trans (hk j).1, (os _ _ (by omega) (by omega)).trans (hk j).2⟩
  have wrT : ∀ (s : ST) (c : Nat) (x v : Int32), s.1 6 3 = nI (ns + 1) → s.1 6 1 = 3 → c < 3 → x = nI c → fX4_write 6 (nI ns) x v s = some (setI s 7 (3 * ns + c) v) := fun s c x v q3 q1 hc e =>
    wr (w := 3) q3 q1 (by omega) hc (by rw [al_7]; omega) (by omega) (by omega) (by rw [al_7]; omega) rfl e
  rw [h.rs hk (c := 1) (x := 1) (by omega) rfl, bR_t, hl, if_pos rfl, show fX4_open 6 σ = some (nI ns, opn σ 6 ns 3 3) from op (w := 3) (m := 8) e6 hC.a0.2 hC.a0.1 h8 (by rw [al_7]; omega) (by omega) (by omega) (by rw [al_7]; omega), bI_t]
  rw [h.rs hk1 (c := 2) (x := 2) (by omega) rfl, bR_t, h0, wrT _ 0 0 _ o3 o1 (by omega) rfl, bR_t]
  rw [h.rs (fun j => by rw [st _ _ _ _ _ (by omega), st _ _ _ _ _ (by omega)]; exact hk1 j) (c := 3) (x := 3) (by omega) rfl, bR_t, h1, wrT _ 1 1 _ (by rw [st _ _ _ _ _ (by omega)]; exact o3) (by rw [st _ _ _ _ _ (by omega)]; exact o1) (by omega) rfl, bR_t]
  rw [h.rs (fun j => by rw [st _ _ _ _ _ (by omega), st _ _ _ _ _ (by omega), st _ _ _ _ _ (by omega), st _ _ _ _ _ (by omega)]; exact hk1 j) (c := 4) (x := 4) (by omega) rfl, bR_t, h2, wrT _ 2 2 _ (by rw [st _ _ _ _ _ (by omega), st _ _ _ _ _ (by omega)]; exact o3) (by rw [st _ _ _ _ _ (by omega), st _ _ _ _ _ (by omega)]; exact o1) (by omega) rfl, bR_t]
  rfl
theorem ca_c {v0 j t : Nat} {l : Int32} (h : RI Q i σ0) (hk : ∀ j, σ.1 18 j = σ0.1 18 j ∧ σ.1 19 j = σ0.1 19 j) (hl : σ0.1 19 (6 * i + 1) = l) (ll : l = 99 ∧ t = 20 ∧ j = 0 ∨ l = 116 ∧ t = 5 ∧ j = 1) (h0 : σ0.1 19 (6 * i + 2) = nI v0) :
    fX5_carryOut 18 (nI i) σ = some (setI σ 1 j (nI v0)) := by
  unfold fX5_carryOut
  have n1 : ¬ l = 115 := by rcases ll with ⟨rfl, -⟩ | ⟨rfl, -⟩ <;> decide
  rw [h.rs hk (c := 1) (x := 1) (by omega) rfl, bR_t, hl, if_neg n1, h.rs hk (c := 2) (x := 2) (by omega) rfl, bR_t, h0]
  rcases ll with ⟨rfl, -, rfl⟩ | ⟨rfl, -, rfl⟩
  · rw [if_pos rfl]; rfl
  · rw [if_neg (by decide), if_pos rfl]; rfl
theorem ca_r {bx v0 v1 v2 v3 : Nat} {l : Int32} (h : RI Q i σ0) (hk : ∀ j, σ.1 18 j = σ0.1 18 j ∧ σ.1 19 j = σ0.1 19 j) (hC : CST σ) (e8 : σ.1 8 3 = nI nr) (h8 : nr < 8) (hl : σ0.1 19 (6 * i + 1) = l) (ll : l = 109 ∧ bx = 0 ∨ l = 120 ∧ bx = 1) (h0 : σ0.1 19 (6 * i + 2) = nI v0) (h1 : σ0.1 19 (6 * i + 3) = nI v1) (h2 : σ0.1 19 (6 * i + 4) = nI v2) (h3 : σ0.1 19 (6 * i + 5) = nI v3) :
    fX5_carryOut 18 (nI i) σ = some (setI (setI (setI (setI (setI (opn σ 8 nr 5 5) 9 (5 * nr + 0) (nI bx)) 9 (5 * nr + 1) (nI v0)) 9 (5 * nr + 2) (nI v1)) 9 (5 * nr + 3) (nI v2)) 9 (5 * nr + 4) (nI v3)) := by
  unfold fX5_carryOut
  have n1 : ¬ l = 115 := by rcases ll with ⟨rfl, -⟩ | ⟨rfl, -⟩ <;> decide
  have n2 : ¬ l = 99 := by rcases ll with ⟨rfl, -⟩ | ⟨rfl, -⟩ <;> decide
  have n3 : ¬ l = 116 := by rcases ll with ⟨rfl, -⟩ | ⟨rfl, -⟩ <;> decide
  have os : ∀ k j, k ≠ 9 → ¬ (k = 8 ∧ j = 3) → (opn σ 8 nr 5 5).1 k j = σ.1 k j := fun k j q1 q2 => by
    show (if k = 8 + 1 ∧ 5 * nr ≤ j ∧ j < 5 * nr + 5 then 0 else if k = 8 ∧ j = 3 then nI (nr + 1) else σ.1 k j) = _
    rw [if_neg (by omega), if_neg q2]
  have o3 : (opn σ 8 nr 5 5).1 8 3 = nI (nr + 1) := by
    show (if 8 = 8 + 1 ∧ 5 * nr ≤ 3 ∧ 3 < 5 * nr + 5 then 0 else if 8 = 8 ∧ 3 = 3 then nI (nr + 1) else σ.1 8 3) = _
    rw [if_neg (by omega), if_pos ⟨rfl, rfl⟩]
  have o1 : (opn σ 8 nr 5 5).1 8 1 = 5 := (os 8 1 (by omega) (by omega)).trans hC.a1.2
  have st : ∀ (σ : ST) (j : Nat) (v : Int32) (k i : Nat), k ≠ 9 → (setI σ 9 j v).1 k i = σ.1 k i := fun σ j v k i h => by rw [sg, if_neg (by omega)]
  have hk1 : ∀ j, (opn σ 8 nr 5 5).1 18 j = σ0.1 18 j ∧ (opn σ 8 nr 5 5).1 19 j = σ0.1 19 j := fun j => ⟨(os _ _ (by omega) (by omega)).trans (hk j).1, (os _ _ (by omega) (by omega)).trans (hk j).2⟩
  have wrT : ∀ (s : ST) (c : Nat) (x v : Int32), s.1 8 3 = nI (nr + 1) → s.1 8 1 = 5 → c < 5 → x = nI c → fX4_write 8 (nI nr) x v s = some (setI s 9 (5 * nr + c) v) := fun s c x v q3 q1 hc e =>
    wr (w := 5) q3 q1 (by omega) hc (by rw [al_9]; omega) (by omega) (by omega) (by rw [al_9]; omega) rfl e
  have fin : ∀ y : Int32, y = nI bx → fX5_carryOut_162 18 (nI i) (nI nr) (nI nr) 0 y (opn σ 8 nr 5 5) = some (setI (setI (setI (setI (setI (opn σ 8 nr 5 5) 9 (5 * nr + 0) (nI bx)) 9 (5 * nr + 1) (nI v0)) 9 (5 * nr + 2) (nI v1)) 9 (5 * nr + 3) (nI v2)) 9 (5 * nr + 4) (nI v3)) := fun y hy => by
    subst hy
    unfold fX5_carryOut_162
    rw [wrT _ 0 0 _ o3 o1 (by omega) rfl, bR_t]
    rw [h.rs (fun j => by rw [st _ _ _ _ _ (by omega), st _ _ _ _ _ (by omega)]; exact hk1 j) (c := 2) (x := 2) (by omega) rfl, bR_t, h0, wrT _ 1 1 _ (by rw [st _ _ _ _ _ (by omega)]; exact o3) (by rw [st _ _ _ _ _ (by omega)]; exact o1) (by omega) rfl, bR_t]
    rw [h.rs (fun j => by rw [st _ _ _ _ _ (by omega), st _ _ _ _ _ (by omega), st _ _ _ _ _ (by omega), st _ _ _ _ _ (by omega)]; exact hk1 j) (c := 3) (x := 3) (by omega) rfl, bR_t, h1, wrT _ 2 2 _ (by rw [st _ _ _ _ _ (by omega), st _ _ _ _ _ (by omega)]; exact o3) (by rw [st _ _ _ _ _ (by omega), st _ _ _ _ _ (by omega)]; exact o1) (by omega) rfl, bR_t]
    rw [h.rs (fun j => by rw [st _ _ _ _ _ (by omega), st _ _ _ _ _ (by omega), st _ _ _ _ _ (by omega), st _ _ _ _ _ (by omega), st _ _ _ _ _ (by omega), st _ _ _ _ _ (by omega)]; exact hk1 j) (c := 4) (x := 4) (by omega) rfl, bR_t, h2, wrT _ 3 3 _ (by rw [st _ _ _ _ _ (by omega), st _ _ _ _ _ (by omega), st _ _ _ _ _ (by omega)]; exact o3) (by rw [st _ _ _ _ _ (by omega), st _ _ _ _ _ (by omega), st _ _ _ _ _ (by omega)]; exact o1) (by omega) rfl, bR_t]
    rw [h.rs (fun j => by rw [st _ _ _ _ _ (by omega), st _ _ _ _ _ (by omega), st _ _ _ _ _ (by omega), st _ _ _ _ _ (by omega), st _ _ _ _ _ (by omega), st _ _ _ _ _ (by omega), st _ _ _ _ _ (by omega), st _ _ _ _ _ (by omega)]; exact hk1 j) (c := 5) (x := 5) (by omega) rfl, bR_t, h3, wrT _ 4 4 _ (by rw [st _ _ _ _ _ (by omega), st _ _ _ _ _ (by omega), st _ _ _ _ _ (by omega), st _ _ _ _ _ (by omega)]; exact o3) (by rw [st _ _ _ _ _ (by omega), st _ _ _ _ _ (by omega), st _ _ _ _ _ (by omega), st _ _ _ _ _ (by omega)]; exact o1) (by omega) rfl, bR_t]
    rfl
  rw [h.rs hk (c := 1) (x := 1) (by omega) rfl, bR_t, hl, if_neg n1, if_neg n2, if_neg n3, show fX4_open 8 σ = some (nI nr, opn σ 8 nr 5 5) from op (w := 5) (m := 8) e8 hC.a1.2 hC.a1.1 h8 (by rw [al_9]; omega) (by omega) (by omega) (by rw [al_9]; omega), bI_t]
  rcases ll with ⟨rfl, rfl⟩ | ⟨rfl, rfl⟩
  · rw [if_neg (show ¬ (109 : Int32) = 120 by decide)]; exact fin 0 rfl
  · rw [if_pos rfl]; exact fin 1 rfl
end CA
