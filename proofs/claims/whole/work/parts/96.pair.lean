theorem lst_ext {P Q : Nat → Int32} {s r : Int32} : ∀ n, (∀ j, j < 6 * n → P j = Q j) → lst P s r n = lst Q s r n
  | 0, _ => rfl
  | n + 1, h => by
    unfold lst
    rw [h _ (by omega), h _ (by omega), h _ (by omega), lst_ext n (fun j hj => h j (by omega))]
/-- one pair more -/
theorem REL.more {ns nr np : Nat} {X M X' M' : Nat → Nat → Int32} (R : REL ns nr np X M) (hp : np < 100) {s r a A B : Nat} {w : Int32} (hs : s < ns) (hr : r < nr) (ha : a ≤ 20) (hA : A ≤ 100) (hB : B ≤ A) (hw : rg w 0 1)
    (x0 : X' 0 0 = X 0 0) (x1 : X' 0 1 = X 0 1) (x2 : X' 1 0 = X 1 0) (x3 : X' 2 0 = X 2 0) (x4 : X' 3 0 = nI (np + 1)) (x5 : X' 4 = X 4) (x6 : X' 5 = X 5) (x7 : ∀ j, j < 6 * np → X' 6 j = X 6 j)
    (v : X' 6 (6 * np) = nI s ∧ X' 6 (6 * np + 1) = nI r ∧ X' 6 (6 * np + 2) = nI a ∧ X' 6 (6 * np + 3) = nI A ∧ X' 6 (6 * np + 4) = nI B ∧ X' 6 (6 * np + 5) = w)
    (m0 : M' 0 0 = X' 0 0) (m1 : M' 0 1 = X' 0 1) (m2 : M' 0 2 = X' 0 2) (m3 : M' 1 0 = M 1 0) (m4 : M' 2 0 = M 2 0) (m5 : M' 3 0 = nI (np + 1)) (m6 : ∀ k, 4 ≤ k → k ≤ 11 → M' k = M k)
    (m7 : ∀ k, 15 ≤ k → k ≤ 20 → ∀ p, p ≠ np → M' k p = M k p)
    (n : M' 15 np = nI s ∧ M' 16 np = nI r ∧ M' 17 np = nI a ∧ M' 18 np = nI A ∧ M' 19 np = nI B ∧ M' 20 np = w)
    (c12 : ∀ i, M' 12 i = if i = r then M 12 r + nI A else M 12 i) (c13 : ∀ i, M' 13 i = if i = r then M 13 r + nI B else M 13 i)
    (c14 : ∀ i, M' 14 i = if i = 8 * s + r then nI B else M 14 i) : REL ns nr (np + 1) X' M' := by
  obtain ⟨v0, v1, v2, v3, v4, v5⟩ := v
  obtain ⟨n0, n1, n2, n3, n4, n5⟩ := n
  have hr8 := R.hr
  have hs8 := R.hs
  refine ⟨hs8, hr8, by omega, x2.trans R.xs, x3.trans R.xr, x4, m3.trans R.ms, m4.trans R.mr, m5, m0, m1, m2, by rw [x0]; exact R.rc, by rw [x1]; exact R.rt, ?_, ?_, ?_, ?_, ?_, ?_, ?_, ?_, ?_⟩
  · rw [x5, m6 4 (by omega) (by omega), m6 5 (by omega) (by omega), m6 6 (by omega) (by omega)]; exact R.s
  · rw [x5]; exact R.sr
  · rw [x6, m6 7 (by omega) (by omega), m6 8 (by omega) (by omega), m6 9 (by omega) (by omega), m6 10 (by omega) (by omega), m6 11 (by omega) (by omega)]; exact R.r
  · rw [x6]; exact R.rr
  · intro p hpp
    by_cases h : p = np
    · subst h
      exact ⟨n0.trans v0.symm, n1.trans v1.symm, n2.trans v2.symm, n3.trans v3.symm, n4.trans v4.symm, n5.trans v5.symm⟩
    · rw [m7 15 (by omega) (by omega) p h, m7 16 (by omega) (by omega) p h, m7 17 (by omega) (by omega) p h, m7 18 (by omega) (by omega) p h, m7 19 (by omega) (by omega) p h, m7 20 (by omega) (by omega) p h, x7 _ (by omega), x7 _ (by omega), x7 _ (by omega), x7 _ (by omega), x7 _ (by omega), x7 _ (by omega)]
      exact R.p p (by omega)
  · intro p hpp
    by_cases h : p = np
    · subst h
      rw [v0, v1, v2, v3, v4, v5]
      exact ⟨⟨s, hs, rfl⟩, ⟨r, hr, rfl⟩, n_rg (n := 20) (by decide) ha, n_rg (n := 100) (by decide) hA, n_rg (n := A) (by omega) hB, hw⟩
    · rw [x7 _ (by omega), x7 _ (by omega), x7 _ (by omega), x7 _ (by omega), x7 _ (by omega), x7 _ (by omega)]
      exact R.pr p (by omega)
  · intro i hi
    show M' 12 i = fs (fun p => if X' 6 (6 * p + 1) = nI i then X' 6 (6 * p + 3) else 0) np + (if X' 6 (6 * np + 1) = nI i then X' 6 (6 * np + 3) else 0)
    rw [c12, v1, v3, fs_ext np (g := fun p => if X 6 (6 * p + 1) = nI i then X 6 (6 * p + 3) else 0) (fun p hpp => by rw [x7 _ (by omega), x7 _ (by omega)])]
    by_cases h : i = r
    · subst h
      rw [if_pos rfl, if_pos rfl, R.cm _ hi]
    · rw [if_neg h, if_neg (fun e => h ((nI_eq (by omega) (by omega)).mp e).symm), R.cm _ hi, Int32.add_zero]
  · intro i hi
    show M' 13 i = fs (fun p => if X' 6 (6 * p + 1) = nI i then X' 6 (6 * p + 4) else 0) np + (if X' 6 (6 * np + 1) = nI i then X' 6 (6 * np + 4) else 0)
    rw [c13, v1, v4, fs_ext np (g := fun p => if X 6 (6 * p + 1) = nI i then X 6 (6 * p + 4) else 0) (fun p hpp => by rw [x7 _ (by omega), x7 _ (by omega)])]
    by_cases h : i = r
    · subst h
      rw [if_pos rfl, if_pos rfl, R.gv _ hi]
    · rw [if_neg h, if_neg (fun e => h ((nI_eq (by omega) (by omega)).mp e).symm), R.gv _ hi, Int32.add_zero]
  · intro s' hs' r' hr'
    show M' 14 (8 * s' + r') = if X' 6 (6 * np) = nI s' ∧ X' 6 (6 * np + 1) = nI r' then X' 6 (6 * np + 4) else lst (X' 6) (nI s') (nI r') np
    rw [c14, v0, v1, v4, lst_ext np x7, R.la s' hs' r' hr']
    by_cases h : 8 * s' + r' = 8 * s + r
    · have e1 : s' = s := by omega
      have e2 : r' = r := by omega
      subst e1 e2
      rw [if_pos rfl, if_pos ⟨rfl, rfl⟩]
    · rw [if_neg h, if_neg (fun e => h (by
        have e1 := (nI_eq (by omega) (by omega)).mp e.1
        have e2 := (nI_eq (by omega) (by omega)).mp e.2
        omega))]
/-- what a written pair leaves as it was -/
abbrev g5 (σ σ' : ST) : Prop := (∀ k j, k ≠ 1 → k ≠ 3 → ¬ (k = 10 ∧ j = 3) → k ≠ 11 → σ'.1 k j = σ.1 k j) ∧ σ'.2 = σ.2
abbrev g6 (τ τ' : ST) : Prop := (∀ k j, k < 36 ∨ 57 ≤ k → τ'.1 k j = τ.1 k j) ∧ τ'.1 36 34 = τ.1 36 34 ∧ τ'.2 = τ.2
theorem g5.tr {σ σ' σ'' : ST} (h : g5 σ σ') (h' : g5 σ' σ'') : g5 σ σ'' := ⟨fun k j a b c d => (h'.1 k j a b c d).trans (h.1 k j a b c d), h'.2.trans h.2⟩
theorem g6.tr {σ σ' σ'' : ST} (h : g6 σ σ') (h' : g6 σ' σ'') : g6 σ σ'' := ⟨fun k j a => (h'.1 k j a).trans (h.1 k j a), h'.2.1.trans h.2.1, h'.2.2.trans h.2.2⟩
theorem g5.cst {σ σ' : ST} (h : g5 σ σ') (hC : CST σ) : CST σ' := by
  obtain ⟨a0, a1, a2, a3, a4, a5, a6⟩ := hC
  refine ⟨?_, ?_, ?_, ?_, ?_, ?_, ?_⟩ <;> (rw [h.1 _ _ (by omega) (by omega) (by omega) (by omega), h.1 _ _ (by omega) (by omega) (by omega) (by omega)]; assumption)
theorem wrP {σ : ST} {np c : Nat} {x2 v : Int32} (h3 : σ.1 10 3 = nI (np + 1)) (h1 : σ.1 10 1 = 6) (hp : np < 100) (hc : c < 6) (e : x2 = nI c) : fX4_write 10 (nI np) x2 v σ = some (setI σ 11 (6 * np + c) v) :=
  wr (w := 6) h3 h1 (by omega) hc (by rw [al_11]; omega) (by omega) (by omega) (by rw [al_11]; omega) rfl e
theorem writeDown {σ T : ST} {ns nr np s r : Nat} {w : Int32} (hC : CST σ) (R : REL ns nr np (X 1 σ) (Ml T)) (hp : np < 100) (hs : s < ns) (hr : r < nr) (hw : w = 0 ∨ w = 1) :
    ∃ a σ' T', fX5_playAndWriteDown (nI s) (nI r) w σ = some (a, σ') ∧ fX6_write (nI s) (nI r) w T = some T' ∧ T'.1 36 32 = a ∧ REL ns nr (np + 1) (X 1 σ') (Ml T') ∧ g5 σ σ' ∧ g6 T T' := by
  have hs8 := R.hs
  have hr8 := R.hr
  obtain ⟨C, G, σ1, hCC, b1, f1, M1⟩ := bring hC R hs hr
  obtain ⟨a, A, B, σ2, T2, ha, hA, hB, p1, p2, M2, q1, q2, q3, t1, t2, t3, f2, g2⟩ := MT.play M1 (by omega) w
  have fr : sm3 σ σ2 := f1.tr f2
  obtain ⟨-, -, -, -, ⟨-, ec, -, eg, -⟩, -⟩ := M1
  obtain ⟨-, ⟨-, -, ez⟩, -, -, ⟨-, ec2, -, eg2, -⟩, ⟨el2, -⟩, -⟩ := M2
  have u : ∀ k j, ¬ (k = 36 ∧ (j = 2 ∨ j = 32 ∨ j = 33)) → ¬ (k = 45 ∧ j = r) → ¬ (k = 46 ∧ j = r) → ¬ (k = 47 ∧ j = 8 * s + r) → T2.1 k j = T.1 k j := g2.1
  have hm : T2.1 36 16 = nI np := (u 36 16 (by omega) (by omega) (by omega) (by omega)).trans R.mp
  have i1 : inb (nI np) 100 = true := inb_t hp (by decide)
  have i8 : inb (nI r) 8 = true := inb_t (by omega) (by decide)
  have isw : isb w = true := by rcases hw with rfl | rfl <;> rfl
  let σ3 := setI σ2 1 2 (σ2.1 3 2)
  let σ4 := opn σ3 10 np 6 6
  let σ5 := setI (setI (setI (setI (setI (setI σ4 11 (6 * np + 0) (nI s)) 11 (6 * np + 1) (nI r)) 11 (6 * np + 2) (nI a)) 11 (6 * np + 3) (nI A)) 11 (6 * np + 4) (nI B)) 11 (6 * np + 5) w
  let T5 := setI (setI (setI (setI (setI (setI (setI T2 48 np (nI s)) 49 np (nI r)) 50 np (nI a)) 51 np (nI A)) 52 np (nI B)) 53 np w) 36 16 (nI (np + 1))
  have o3 : ∀ k j, k ≠ 1 → k ≠ 3 → σ3.1 k j = σ.1 k j := fun k j h1 h3 => by
    show (setI σ2 1 2 (σ2.1 3 2)).1 k j = _
    rw [sg, if_neg (by omega)]; exact fr.1 k j h3
  have o4 : ∀ k j, k ≠ 11 → ¬ (k = 10 ∧ j = 3) → σ4.1 k j = σ3.1 k j := fun k j h1 h3 => by
    show (if k = 10 + 1 ∧ 6 * np ≤ j ∧ j < 6 * np + 6 then 0 else if k = 10 ∧ j = 3 then nI (np + 1) else σ3.1 k j) = _
    rw [if_neg (by omega), if_neg h3]
  have n4 : σ4.1 10 3 = nI (np + 1) := by
    show (if 10 = 10 + 1 ∧ 6 * np ≤ 3 ∧ 3 < 6 * np + 6 then 0 else if 10 = 10 ∧ 3 = 3 then nI (np + 1) else σ3.1 10 3) = _
    rw [if_neg (by omega), if_pos ⟨rfl, rfl⟩]
  have w4 : σ4.1 10 1 = 6 := by rw [o4 _ _ (by omega) (by omega), o3 _ _ (by omega) (by omega)]; exact hC.a2.2
  have e5 : fX5_playAndWriteDown (nI s) (nI r) w σ = some (nI a, σ5) := by
    unfold fX5_playAndWriteDown fX5_playAndWriteDown_147
    rw [b1, bR_t, p1, bR_t, show fX4_open 10 (setI σ2 1 2 (σ2.1 3 2)) = some (nI np, σ4) from
      op (w := 6) (m := 100) ((o3 10 3 (by omega) (by omega)).trans R.xp) ((o3 10 1 (by omega) (by omega)).trans hC.a2.2) ((o3 10 0 (by omega) (by omega)).trans hC.a2.1) hp (by rw [al_11]; omega) (by omega) (by omega) (by rw [al_11]; omega), bI_t]
    have k14 : σ4.1 3 14 = nI a := (o4 3 14 (by omega) (by omega)).trans q1
    have k15 : σ4.1 3 15 = nI A := (o4 3 15 (by omega) (by omega)).trans q2
    have k13 : σ4.1 3 13 = nI B := (o4 3 13 (by omega) (by omega)).trans q3
    have st : ∀ (σ : ST) (j : Nat) (v : Int32) (k i : Nat), k ≠ 11 → (setI σ 11 j v).1 k i = σ.1 k i := fun σ j v k i h => by rw [sg, if_neg (by omega)]
    rw [wrP (c := 0) (x2 := 0) n4 w4 hp (by omega) rfl, bR_t]
    rw [wrP (c := 1) (x2 := 1) (by rw [st _ _ _ _ _ (by omega)]; exact n4) (by rw [st _ _ _ _ _ (by omega)]; exact w4) hp (by omega) rfl, bR_t]
    rw [wrP (c := 2) (x2 := 2) (by rw [st _ _ _ _ _ (by omega), st _ _ _ _ _ (by omega)]; exact n4) (by rw [st _ _ _ _ _ (by omega), st _ _ _ _ _ (by omega)]; exact w4) hp (by omega) rfl, bR_t]
    rw [wrP (c := 3) (x2 := 3) (by rw [st _ _ _ _ _ (by omega), st _ _ _ _ _ (by omega), st _ _ _ _ _ (by omega)]; exact n4) (by rw [st _ _ _ _ _ (by omega), st _ _ _ _ _ (by omega), st _ _ _ _ _ (by omega)]; exact w4) hp (by omega) rfl, bR_t]
    rw [wrP (c := 4) (x2 := 4) (by rw [st _ _ _ _ _ (by omega), st _ _ _ _ _ (by omega), st _ _ _ _ _ (by omega), st _ _ _ _ _ (by omega)]; exact n4) (by rw [st _ _ _ _ _ (by omega), st _ _ _ _ _ (by omega), st _ _ _ _ _ (by omega), st _ _ _ _ _ (by omega)]; exact w4) hp (by omega) rfl, bR_t]
    have l5 : ∀ v, fX4_write 10 (nI np) 5 v (setI (setI (setI (setI (setI σ4 11 (6 * np + 0) (nI s)) 11 (6 * np + 1) (nI r)) 11 (6 * np + 2) (nI a)) 11 (6 * np + 3) (nI A)) 11 (6 * np + 4) (nI B)) = some (setI (setI (setI (setI (setI (setI σ4 11 (6 * np + 0) (nI s)) 11 (6 * np + 1) (nI r)) 11 (6 * np + 2) (nI a)) 11 (6 * np + 3) (nI A)) 11 (6 * np + 4) (nI B)) 11 (6 * np + 5) v) := fun v =>
      wrP (c := 5) (x2 := 5) (by rw [st _ _ _ _ _ (by omega), st _ _ _ _ _ (by omega), st _ _ _ _ _ (by omega), st _ _ _ _ _ (by omega), st _ _ _ _ _ (by omega)]; exact n4) (by rw [st _ _ _ _ _ (by omega), st _ _ _ _ _ (by omega), st _ _ _ _ _ (by omega), st _ _ _ _ _ (by omega), st _ _ _ _ _ (by omega)]; exact w4) hp (by omega) rfl
    simp only [st _ _ _ 3 _ (show 3 ≠ 11 by omega), k14, k15, k13]
    rcases hw with rfl | rfl
    · rw [if_pos rfl, l5, bR_t]
      simp only [st _ _ _ 3 _ (show 3 ≠ 11 by omega), k14]; rfl
    · rw [if_neg h10, l5, bR_t]
      simp only [st _ _ _ 3 _ (show 3 ≠ 11 by omega), k14]; rfl
  have e6 : fX6_write (nI s) (nI r) w T = some T5 := by
    unfold fX6_write
    rw [al_41, i8, gd_t, nI_clamp (show r < 2 ^ 31 by omega), p2, bR_t]
    show gd (inb (T2.1 36 16) 100) (gd (inb (T2.1 36 16) 100) (gd (inb (T2.1 36 16) 100) (gd (inb (T2.1 36 16) 100) (gd (inb (T2.1 36 16) 100) (gd (inb (T2.1 36 16) 100) (gd (isb w) (some (setI (setI (setI (setI (setI (setI (setI T2 48 ((T2.1 36 16).toNatClampNeg) (nI s)) 49 ((T2.1 36 16).toNatClampNeg) (nI r)) 50 ((T2.1 36 16).toNatClampNeg) (T2.1 36 32)) 51 ((T2.1 36 16).toNatClampNeg) (T2.1 36 32 * T2.1 36 1)) 52 ((T2.1 36 16).toNatClampNeg) (T2.1 36 33)) 53 ((T2.1 36 16).toNatClampNeg) w) 36 16 (T2.1 36 16 + 1))))))))) = _
    rw [hm, i1, isw, gd_t, gd_t, gd_t, gd_t, gd_t, gd_t, gd_t, nI_clamp (show np < 2 ^ 31 by omega), t1, t2, t3, nI_1]
  have o5 : ∀ k j, k ≠ 1 → k ≠ 3 → ¬ (k = 10 ∧ j = 3) → k ≠ 11 → σ5.1 k j = σ.1 k j := fun k j h1 h2 h3 h4 => by
    show (setI (setI (setI (setI (setI (setI σ4 11 (6 * np + 0) (nI s)) 11 (6 * np + 1) (nI r)) 11 (6 * np + 2) (nI a)) 11 (6 * np + 3) (nI A)) 11 (6 * np + 4) (nI B)) 11 (6 * np + 5) w).1 k j = _
    rw [sg, if_neg (by omega), sg, if_neg (by omega), sg, if_neg (by omega), sg, if_neg (by omega), sg, if_neg (by omega), sg, if_neg (by omega), o4 k j h4 h3, o3 k j h1 h2]
  have n5 : ∀ k j, k ≠ 11 → σ5.1 k j = σ4.1 k j := fun k j h => by
    show (setI (setI (setI (setI (setI (setI σ4 11 (6 * np + 0) (nI s)) 11 (6 * np + 1) (nI r)) 11 (6 * np + 2) (nI a)) 11 (6 * np + 3) (nI A)) 11 (6 * np + 4) (nI B)) 11 (6 * np + 5) w).1 k j = _
    rw [sg, if_neg (by omega), sg, if_neg (by omega), sg, if_neg (by omega), sg, if_neg (by omega), sg, if_neg (by omega), sg, if_neg (by omega)]
  have c5 : ∀ j, σ5.1 11 j = if j = 6 * np + 5 then w else if j = 6 * np + 4 then nI B else if j = 6 * np + 3 then nI A else if j = 6 * np + 2 then nI a else if j = 6 * np + 1 then nI r else if j = 6 * np + 0 then nI s else σ4.1 11 j := fun j => by
    show (setI (setI (setI (setI (setI (setI σ4 11 (6 * np + 0) (nI s)) 11 (6 * np + 1) (nI r)) 11 (6 * np + 2) (nI a)) 11 (6 * np + 3) (nI A)) 11 (6 * np + 4) (nI B)) 11 (6 * np + 5) w).1 11 j = _
    simp only [sg, true_and]
  have o6 : ∀ k j, ¬ (k = 36 ∧ j = 16) → ¬ (48 ≤ k ∧ k ≤ 53 ∧ j = np) → T5.1 k j = T2.1 k j := fun k j h1 h2 => by
    show (setI (setI (setI (setI (setI (setI (setI T2 48 np (nI s)) 49 np (nI r)) 50 np (nI a)) 51 np (nI A)) 52 np (nI B)) 53 np w) 36 16 (nI (np + 1))).1 k j = _
    rw [sg, if_neg (by omega), sg, if_neg (by omega), sg, if_neg (by omega), sg, if_neg (by omega), sg, if_neg (by omega), sg, if_neg (by omega), sg, if_neg (by omega)]
  have o7 : ∀ k j, ¬ (k = 36 ∧ j = 16) → ¬ (48 ≤ k ∧ k ≤ 53 ∧ j = np) → ¬ (k = 36 ∧ (j = 2 ∨ j = 32 ∨ j = 33)) → ¬ (k = 45 ∧ j = r) → ¬ (k = 46 ∧ j = r) → ¬ (k = 47 ∧ j = 8 * s + r) → T5.1 k j = T.1 k j := fun k j h1 h2 h3 h4 h5 h6 => (o6 k j h1 h2).trans (u k j h3 h4 h5 h6)
  have ex0 : X 1 σ5 0 0 = X 1 σ 0 0 := by
    show σ5.1 1 0 = σ.1 1 0
    rw [n5 _ _ (by omega), o4 _ _ (by omega) (by omega)]
    show (setI σ2 1 2 (σ2.1 3 2)).1 1 0 = _
    rw [sg, if_neg (by omega)]; exact fr.1 1 0 (by omega)
  have ex1 : X 1 σ5 0 1 = X 1 σ 0 1 := by
    show σ5.1 1 1 = σ.1 1 1
    rw [n5 _ _ (by omega), o4 _ _ (by omega) (by omega)]
    show (setI σ2 1 2 (σ2.1 3 2)).1 1 1 = _
    rw [sg, if_neg (by omega)]; exact fr.1 1 1 (by omega)
  have ex2 : X 1 σ5 0 2 = σ2.1 3 2 := by
    show σ5.1 1 2 = _
    rw [n5 _ _ (by omega), o4 _ _ (by omega) (by omega)]
    show (setI σ2 1 2 (σ2.1 3 2)).1 1 2 = _
    rw [sg, if_pos ⟨rfl, rfl⟩]
  refine ⟨nI a, σ5, T5, e5, e6, (o6 36 32 (by omega) (by omega)).trans t1, ?_, ⟨o5, fr.2⟩, ⟨fun k j hk => o7 k j (by omega) (by omega) (by omega) (by omega) (by omega) (by omega), o7 36 34 (by omega) (by omega) (by omega) (by omega) (by omega) (by omega), g2.2⟩⟩
  refine REL.more (X := X 1 σ) (M := Ml T) (s := s) (r := r) (a := a) (A := A) (B := B) (w := w) R hp hs hr ha hA hB (by rcases hw with rfl | rfl <;> exact ⟨by decide, by decide⟩) ex0 ex1 (o5 6 3 (by omega) (by omega) (by omega) (by omega)) (o5 8 3 (by omega) (by omega) (by omega) (by omega)) ((n5 10 3 (by omega)).trans n4)
    (funext fun j => o5 7 j (by omega) (by omega) (by omega) (by omega)) (funext fun j => o5 9 j (by omega) (by omega) (by omega) (by omega)) (fun j hj => ?_) ⟨?_, ?_, ?_, ?_, ?_, ?_⟩ ?_ ?_ ?_
    (o7 36 3 (by omega) (by omega) (by omega) (by omega) (by omega) (by omega)) (o7 36 7 (by omega) (by omega) (by omega) (by omega) (by omega) (by omega)) ?_ (fun k h1 h2 => ?_) (fun k h1 h2 p hpp => ?_) ⟨?_, ?_, ?_, ?_, ?_, ?_⟩ (fun i => ?_) (fun i => ?_) (fun i => ?_)
  · show σ5.1 11 j = σ.1 11 j
    rw [c5, if_neg (by omega), if_neg (by omega), if_neg (by omega), if_neg (by omega), if_neg (by omega), if_neg (by omega)]
    show (if 11 = 10 + 1 ∧ 6 * np ≤ j ∧ j < 6 * np + 6 then 0 else if 11 = 10 ∧ j = 3 then nI (np + 1) else σ3.1 11 j) = _
    rw [if_neg (by omega), if_neg (by omega)]; exact o3 11 j (by omega) (by omega)
  · show σ5.1 11 (6 * np) = _
    rw [c5, if_neg (by omega), if_neg (by omega), if_neg (by omega), if_neg (by omega), if_neg (by omega), if_pos (by omega)]
  · show σ5.1 11 (6 * np + 1) = _
    rw [c5, if_neg (by omega), if_neg (by omega), if_neg (by omega), if_neg (by omega), if_pos rfl]
  · show σ5.1 11 (6 * np + 2) = _
    rw [c5, if_neg (by omega), if_neg (by omega), if_neg (by omega), if_pos rfl]
  · show σ5.1 11 (6 * np + 3) = _
    rw [c5, if_neg (by omega), if_neg (by omega), if_pos rfl]
  · show σ5.1 11 (6 * np + 4) = _
    rw [c5, if_neg (by omega), if_pos rfl]
  · show σ5.1 11 (6 * np + 5) = _
    rw [c5, if_pos rfl]
  · rw [ex0]; exact (o7 36 0 (by omega) (by omega) (by omega) (by omega) (by omega) (by omega)).trans R.c0
  · rw [ex1]; exact (o7 36 1 (by omega) (by omega) (by omega) (by omega) (by omega) (by omega)).trans R.c1
  · rw [ex2]; exact (o6 36 2 (by omega) (by omega)).trans ez.symm
  · show (setI (setI (setI (setI (setI (setI (setI T2 48 np (nI s)) 49 np (nI r)) 50 np (nI a)) 51 np (nI A)) 52 np (nI B)) 53 np w) 36 16 (nI (np + 1))).1 36 16 = _
    rw [sg, if_pos ⟨rfl, rfl⟩]
  · funext j
    match k, h1, h2 with
    | k + 4, h1, h2 => exact o7 (33 + (k + 4)) j (by omega) (by omega) (by omega) (by omega) (by omega) (by omega)
  · match k, h1, h2 with
    | k + 4, h1, h2 => exact o7 (33 + (k + 4)) p (by omega) (by omega) (by omega) (by omega) (by omega) (by omega)
  · show T5.1 48 np = _
    show (setI (setI (setI (setI (setI (setI (setI T2 48 np (nI s)) 49 np (nI r)) 50 np (nI a)) 51 np (nI A)) 52 np (nI B)) 53 np w) 36 16 (nI (np + 1))).1 48 np = _
    rw [sg, if_neg (by omega), sg, if_neg (by omega), sg, if_neg (by omega), sg, if_neg (by omega), sg, if_neg (by omega), sg, if_neg (by omega), sg, if_pos ⟨rfl, rfl⟩]
  · show (setI (setI (setI (setI (setI (setI (setI T2 48 np (nI s)) 49 np (nI r)) 50 np (nI a)) 51 np (nI A)) 52 np (nI B)) 53 np w) 36 16 (nI (np + 1))).1 49 np = _
    rw [sg, if_neg (by omega), sg, if_neg (by omega), sg, if_neg (by omega), sg, if_neg (by omega), sg, if_neg (by omega), sg, if_pos ⟨rfl, rfl⟩]
  · show (setI (setI (setI (setI (setI (setI (setI T2 48 np (nI s)) 49 np (nI r)) 50 np (nI a)) 51 np (nI A)) 52 np (nI B)) 53 np w) 36 16 (nI (np + 1))).1 50 np = _
    rw [sg, if_neg (by omega), sg, if_neg (by omega), sg, if_neg (by omega), sg, if_neg (by omega), sg, if_pos ⟨rfl, rfl⟩]
  · show (setI (setI (setI (setI (setI (setI (setI T2 48 np (nI s)) 49 np (nI r)) 50 np (nI a)) 51 np (nI A)) 52 np (nI B)) 53 np w) 36 16 (nI (np + 1))).1 51 np = _
    rw [sg, if_neg (by omega), sg, if_neg (by omega), sg, if_neg (by omega), sg, if_pos ⟨rfl, rfl⟩]
  · show (setI (setI (setI (setI (setI (setI (setI T2 48 np (nI s)) 49 np (nI r)) 50 np (nI a)) 51 np (nI A)) 52 np (nI B)) 53 np w) 36 16 (nI (np + 1))).1 52 np = _
    rw [sg, if_neg (by omega), sg, if_neg (by omega), sg, if_pos ⟨rfl, rfl⟩]
  · show (setI (setI (setI (setI (setI (setI (setI T2 48 np (nI s)) 49 np (nI r)) 50 np (nI a)) 51 np (nI A)) 52 np (nI B)) 53 np w) 36 16 (nI (np + 1))).1 53 np = _
    rw [sg, if_neg (by omega), sg, if_pos ⟨rfl, rfl⟩]
  · show T5.1 45 i = if i = r then T.1 45 r + nI A else T.1 45 i
    by_cases h : i = r
    · subst h
      rw [if_pos rfl, ec, nI_add]; exact (o6 45 i (by omega) (by omega)).trans ec2
    · rw [if_neg h]; exact o7 45 i (by omega) (by omega) (by omega) (by omega) (by omega) (by omega)
  · show T5.1 46 i = if i = r then T.1 46 r + nI B else T.1 46 i
    by_cases h : i = r
    · subst h
      rw [if_pos rfl, eg, nI_add]; exact (o6 46 i (by omega) (by omega)).trans eg2
    · rw [if_neg h]; exact o7 46 i (by omega) (by omega) (by omega) (by omega) (by omega) (by omega)
  · show T5.1 47 i = if i = 8 * s + r then nI B else T.1 47 i
    by_cases h : i = 8 * s + r
    · subst h
      rw [if_pos rfl]; exact (o6 47 _ (by omega) (by omega)).trans (el2.symm.trans q3)
    · rw [if_neg h]; exact o7 47 i (by omega) (by omega) (by omega) (by omega) (by omega) (by omega)
theorem INV.wrote {σ T σ' T' : ST} {ns nr np : Nat} (hI : INV σ T) (h5 : g5 σ σ') (h6 : g6 T T') (R : REL ns nr np (X 1 σ') (Ml T')) : INV σ' T' :=
  INV.game hI (fun k j _ h2 h3 h4 => h5.1 k j h2 (fun e => h4 (Or.inl e)) (by omega) (by omega)) ⟨fun k j hk => h6.1 k j (Or.inr hk), h6.2.1, fun j => by rw [h6.2.2]⟩ ⟨ns, nr, np, R⟩
theorem g5.fr {σ σ' : ST} (h : g5 σ σ') : fr5 σ σ' := ⟨fun k j hk => h.1 k j (by omega) (by omega) (by omega) (by omega), h.2⟩
theorem sim_pair (x1 x2 x3 : Int32) (h3 : x3 = 0 ∨ x3 = 1) : SIM (fX5_pair x1 x2 x3) (fX6_pair x1 x2 x3) := by
  intro σ τ h0
  have hI := h0.r
  have hT := (scr6.r (τ := τ)).fr6
  unfold fX5_pair fX6_pair fX6_pair_21
  generalize setI τ 36 23 0 = T at *
  obtain ⟨ns, nr, np, R⟩ := hI.g
  have hp := R.hp
  have hx : σ.1 10 3 = nI np := R.xp
  have hm : T.1 36 16 = nI np := R.mp
  have no : ∀ v, ∃ a σ' τ', (some (v, σ) : Option (Int32 × ST)) = some (a, σ') ∧ (some (v, T) : Option (Int32 × ST)) = some (a, τ') ∧ INV σ' τ' ∧ fr5 σ σ' ∧ fr6 τ τ' := fun v => ⟨v, σ, T, rfl, rfl, hI, fr5.rfl, hT⟩
  rcases there R x1 x2 with ⟨a1, a2⟩ | ⟨s, r, hs, hr, rfl, rfl, a1, a2, a3⟩
  · rcases a2 with a2 | ⟨a2, a3⟩
    · rw [a1, bR_t, if_pos rfl, a2, bR_t, if_pos rfl]; exact no (-1)
    · rw [a1, bR_t, if_pos rfl, a2, bR_t, if_neg h10, a3, bR_t, if_pos rfl]; exact no (-1)
  rw [a1, bR_t, if_neg h10, a2, bR_t, if_neg h10, a3, bR_t, if_neg h10, hx, hm]
  by_cases h : np < 100
  · obtain ⟨a, σ', T', e1, e2, e3, R', f5, f6⟩ := writeDown hI.c R h hs hr h3
    rw [if_pos (show nI np < 100 from nI_lt (b := 100) h (by decide)), e1, bI_t, if_neg (show ¬ nI np = 100 from fun e => by have := (nI_eq (b := 100) (by omega) (by decide)).mp e; omega), e2, bR_t, e3]
    exact ⟨a, σ', T', rfl, rfl, hI.wrote f5 f6 R', f5.fr, fun k j hk => (f6.1 k j (Or.inl hk)).trans (hT k j hk)⟩
  · rw [if_neg (show ¬ nI np < 100 from nI_nlt (b := 100) (by omega) (by omega)), if_pos (show nI np = 100 by rw [show np = 100 by omega]; rfl)]; exact no (-2)
