theorem settings5 (σ : ST) : fX5_bringSettings σ = some (setI (setI (setI σ 3 0 (σ.1 1 0)) 3 1 (σ.1 1 1)) 3 2 (σ.1 1 2)) := rfl
/-- a table's reading looks at its own two places only -/
theorem rdS {σ : ST} {s c ns : Nat} {x : Int32} (hC : CST σ) (hn : σ.1 6 3 = nI ns) (h8 : ns ≤ 8) (hs : s < ns) (hc : c < 3) (e : x = nI c) : fX4_read 6 (nI s) x σ = some (σ.1 7 (3 * s + c)) :=
  rd (w := 3) hn hC.a0.2 hs hc (by rw [al_7]; omega) (by omega) (by omega) (by rw [al_7]; omega) rfl e
theorem rdR {σ : ST} {s c ns : Nat} {x : Int32} (hC : CST σ) (hn : σ.1 8 3 = nI ns) (h8 : ns ≤ 8) (hs : s < ns) (hc : c < 5) (e : x = nI c) : fX4_read 8 (nI s) x σ = some (σ.1 9 (5 * s + c)) :=
  rd (w := 5) hn hC.a1.2 hs hc (by rw [al_9]; omega) (by omega) (by omega) (by rw [al_9]; omega) rfl e
theorem rdP {σ : ST} {s c ns : Nat} {x : Int32} (hC : CST σ) (hn : σ.1 10 3 = nI ns) (h8 : ns ≤ 100) (hs : s < ns) (hc : c < 6) (e : x = nI c) : fX4_read 10 (nI s) x σ = some (σ.1 11 (6 * s + c)) :=
  rd (w := 6) hn hC.a2.2 hs hc (by rw [al_11]; omega) (by omega) (by omega) (by rw [al_11]; omega) rfl e
theorem CST.f {σ σ' : ST} (h : CST σ) (hf : ag5 σ σ') : CST σ' := by
  obtain ⟨a0, a1, a2, a3, a4, a5, a6⟩ := h
  refine ⟨?_, ?_, ?_, ?_, ?_, ?_, ?_⟩ <;> (rw [hf _ _ (by omega) (by unfold sc5; omega), hf _ _ (by omega) (by unfold sc5; omega)]; assumption)
theorem sm3.ag {σ σ' : ST} (h : sm3 σ σ') : ag5 σ σ' := h.scr.ag5
theorem bringS {σ : ST} {s ns : Nat} (hC : CST σ) (hn : σ.1 6 3 = nI ns) (h8 : ns ≤ 8) (hs : s < ns) : ∃ σ', fX5_bringSender (nI s) σ = some σ' ∧ sm3 σ σ' ∧ (σ'.1 3 0 = σ.1 1 0 ∧ σ'.1 3 1 = σ.1 1 1 ∧ σ'.1 3 2 = σ.1 1 2) ∧ (σ'.1 3 3 = σ.1 7 (3 * s) ∧ σ'.1 3 4 = σ.1 7 (3 * s + 1) ∧ σ'.1 3 5 = σ.1 7 (3 * s + 2)) ∧ ∀ j, 6 ≤ j → σ'.1 3 j = σ.1 3 j := by
  let σ1 := setI (setI (setI σ 3 0 (σ.1 1 0)) 3 1 (σ.1 1 1)) 3 2 (σ.1 1 2)
  let σ2 := setI σ1 3 3 (σ.1 7 (3 * s))
  let σ3 := setI σ2 3 4 (σ.1 7 (3 * s + 1))
  have m1 : sm3 σ σ1 := sm3.rfl.set.set.set
  have r1 : fX4_read 6 (nI s) 0 σ1 = some (σ.1 7 (3 * s)) := rdS (c := 0) (hC.f m1.ag) hn h8 hs (by omega) rfl
  have r2 : fX4_read 6 (nI s) 1 σ2 = some (σ.1 7 (3 * s + 1)) := rdS (c := 1) (hC.f m1.set.ag) hn h8 hs (by omega) rfl
  have r3 : fX4_read 6 (nI s) 2 σ3 = some (σ.1 7 (3 * s + 2)) := rdS (c := 2) (hC.f m1.set.set.ag) hn h8 hs (by omega) rfl
  refine ⟨setI σ3 3 5 (σ.1 7 (3 * s + 2)), ?_, m1.set.set.set, ⟨rfl, rfl, rfl⟩, ⟨rfl, rfl, rfl⟩, fun j hj => ?_⟩
  · unfold fX5_bringSender
    rw [settings5, bR_t]
    show bR (fX4_read 6 (nI s) 0 σ1) _ = _
    rw [r1, bR_t]
    show bR (fX4_read 6 (nI s) 1 σ2) _ = _
    rw [r2, bR_t]
    show bR (fX4_read 6 (nI s) 2 σ3) _ = _
    rw [r3, bR_t]
  · show (if 3 = 3 ∧ j = 5 then _ else if 3 = 3 ∧ j = 4 then _ else if 3 = 3 ∧ j = 3 then _ else if 3 = 3 ∧ j = 2 then _ else if 3 = 3 ∧ j = 1 then _ else if 3 = 3 ∧ j = 0 then _ else σ.1 3 j) = _
    rw [if_neg (by omega), if_neg (by omega), if_neg (by omega), if_neg (by omega), if_neg (by omega), if_neg (by omega)]
theorem bringR {σ : ST} {s ns : Nat} (hC : CST σ) (hn : σ.1 8 3 = nI ns) (h8 : ns ≤ 8) (hs : s < ns) : ∃ σ', fX5_bringReturner (nI s) σ = some σ' ∧ sm3 σ σ' ∧ (σ'.1 3 0 = σ.1 1 0 ∧ σ'.1 3 1 = σ.1 1 1 ∧ σ'.1 3 2 = σ.1 1 2) ∧ (σ'.1 3 6 = σ.1 9 (5 * s) ∧ σ'.1 3 7 = σ.1 9 (5 * s + 1) ∧ σ'.1 3 8 = σ.1 9 (5 * s + 2) ∧ σ'.1 3 9 = σ.1 9 (5 * s + 3) ∧ σ'.1 3 10 = σ.1 9 (5 * s + 4)) ∧ ∀ j, (3 ≤ j ∧ j ≤ 5 ∨ 11 ≤ j) → σ'.1 3 j = σ.1 3 j := by
  let σ1 := setI (setI (setI σ 3 0 (σ.1 1 0)) 3 1 (σ.1 1 1)) 3 2 (σ.1 1 2)
  let σ2 := setI σ1 3 6 (σ.1 9 (5 * s))
  let σ3 := setI σ2 3 7 (σ.1 9 (5 * s + 1))
  let σ4 := setI σ3 3 8 (σ.1 9 (5 * s + 2))
  let σ5 := setI σ4 3 9 (σ.1 9 (5 * s + 3))
  have m1 : sm3 σ σ1 := sm3.rfl.set.set.set
  have r1 : fX4_read 8 (nI s) 0 σ1 = some (σ.1 9 (5 * s)) := rdR (c := 0) (hC.f m1.ag) hn h8 hs (by omega) rfl
  have r2 : fX4_read 8 (nI s) 1 σ2 = some (σ.1 9 (5 * s + 1)) := rdR (c := 1) (hC.f m1.set.ag) hn h8 hs (by omega) rfl
  have r3 : fX4_read 8 (nI s) 2 σ3 = some (σ.1 9 (5 * s + 2)) := rdR (c := 2) (hC.f m1.set.set.ag) hn h8 hs (by omega) rfl
  have r4 : fX4_read 8 (nI s) 3 σ4 = some (σ.1 9 (5 * s + 3)) := rdR (c := 3) (hC.f m1.set.set.set.ag) hn h8 hs (by omega) rfl
  have r5 : fX4_read 8 (nI s) 4 σ5 = some (σ.1 9 (5 * s + 4)) := rdR (c := 4) (hC.f m1.set.set.set.set.ag) hn h8 hs (by omega) rfl
  refine ⟨setI σ5 3 10 (σ.1 9 (5 * s + 4)), ?_, m1.set.set.set.set.set, ⟨rfl, rfl, rfl⟩, ⟨rfl, rfl, rfl, rfl, rfl⟩, fun j hj => ?_⟩
  · unfold fX5_bringReturner
    rw [settings5, bR_t]
    show bR (fX4_read 8 (nI s) 0 σ1) _ = _
    rw [r1, bR_t]
    show bR (fX4_read 8 (nI s) 1 σ2) _ = _
    rw [r2, bR_t]
    show bR (fX4_read 8 (nI s) 2 σ3) _ = _
    rw [r3, bR_t]
    show bR (fX4_read 8 (nI s) 3 σ4) _ = _
    rw [r4, bR_t]
    show bR (fX4_read 8 (nI s) 4 σ5) _ = _
    rw [r5, bR_t]
  · show (if 3 = 3 ∧ j = 10 then _ else if 3 = 3 ∧ j = 9 then _ else if 3 = 3 ∧ j = 8 then _ else if 3 = 3 ∧ j = 7 then _ else if 3 = 3 ∧ j = 6 then _ else if 3 = 3 ∧ j = 2 then _ else if 3 = 3 ∧ j = 1 then _ else if 3 = 3 ∧ j = 0 then _ else σ.1 3 j) = _
    rw [if_neg (by omega), if_neg (by omega), if_neg (by omega), if_neg (by omega), if_neg (by omega), if_neg (by omega), if_neg (by omega), if_neg (by omega)]
def cmF (P : Nat → Int32) (v : Int32) (p : Nat) : Int32 := if P (6 * p + 1) = v then P (6 * p + 3) else 0
def gvF (P : Nat → Int32) (v : Int32) (p : Nat) : Int32 := if P (6 * p + 1) = v then P (6 * p + 4) else 0
theorem bringP {σ : ST} {v : Int32} {np : Nat} (hC : CST σ) (hn : σ.1 10 3 = nI np) (h8 : np ≤ 100) : ∃ σ', fX5_bringPastOf v σ = some σ' ∧ sm3 σ σ' ∧ σ'.1 3 11 = fs (cmF (σ.1 11) v) np ∧ σ'.1 3 12 = fs (gvF (σ.1 11) v) np ∧ ∀ j, j ≠ 11 → j ≠ 12 → σ'.1 3 j = σ.1 3 j := by
  let σ1 := setI σ 3 11 (fs (cmF (σ.1 11) v) np)
  have m1 : sm3 σ σ1 := sm3.rfl.set
  have r1 : fX4_sumWhere 10 1 v 3 σ = some (fs (cmF (σ.1 11) v) np) := swh (w := 6) (c := 1) (d := 3) hn hC.a2.2 (by omega) (by omega) (by rw [al_11]; omega) (by omega) (by omega) (by rw [al_11]; omega) rfl rfl
  have r2 : fX4_sumWhere 10 1 v 4 σ1 = some (fs (gvF (σ.1 11) v) np) := swh (w := 6) (c := 1) (d := 4) hn (hC.f m1.ag).a2.2 (by omega) (by omega) (by rw [al_11]; omega) (by omega) (by omega) (by rw [al_11]; omega) rfl rfl
  refine ⟨setI σ1 3 12 (fs (gvF (σ.1 11) v) np), ?_, m1.set, rfl, rfl, fun j h1 h2 => ?_⟩
  · unfold fX5_bringPastOf
    rw [r1, bR_t]
    show bR (fX4_sumWhere 10 1 v 4 σ1) _ = _
    rw [r2, bR_t]
  · show (if 3 = 3 ∧ j = 12 then _ else if 3 = 3 ∧ j = 11 then _ else σ.1 3 j) = _
    rw [if_neg (by omega), if_neg (by omega)]
theorem lastL {σ : ST} {s r : Int32} {np : Nat} (hC : CST σ) (hn : σ.1 10 3 = nI np) (h8 : np ≤ 100) (h13 : σ.1 3 13 = -1) : ∀ m f, m ≤ np → m < f → fX5_bringLastOf_21 f s r (nI m - 1) σ = some (setI σ 3 13 (lst (σ.1 11) s r m))
  | 0, f + 1, _, _ => by
    rw [fX5_bringLastOf_21, if_pos (by decide), lst, ← h13, set_self]
  | m + 1, f + 1, hm, hf => by
    have ih := lastL (s := s) (r := r) hC hn h8 h13 m f (by omega) (by omega)
    rw [Int32.sub_eq_add_neg] at ih
    rw [nI_pred, fX5_bringLastOf_21, if_neg (nI_pos (by omega)), show fX4_read 10 (nI m) 0 σ = some (σ.1 11 (6 * m)) from rdP (c := 0) hC hn h8 (show m < np by omega) (by omega) rfl, bR_t, show fX4_read 10 (nI m) 1 σ = some (σ.1 11 (6 * m + 1)) from rdP (c := 1) hC hn h8 (show m < np by omega) (by omega) rfl, show fX4_read 10 (nI m) 4 σ = some (σ.1 11 (6 * m + 4)) from rdP (c := 4) hC hn h8 (show m < np by omega) (by omega) rfl, bR_t, bR_t, lst]
    unfold fX5_bringLastOf_77
    by_cases h1 : σ.1 11 (6 * m) = s
    · rw [if_pos h1]
      by_cases h2 : σ.1 11 (6 * m + 1) = r
      · rw [if_pos h2, if_pos ⟨h1, h2⟩]
      · rw [if_neg h2, if_neg (fun h => h2 h.2)]; exact ih
    · rw [if_neg h1, if_neg (fun h => h1 h.1)]; exact ih
theorem bringL {σ : ST} {s r : Int32} {np : Nat} (hC : CST σ) (hn : σ.1 10 3 = nI np) (h8 : np ≤ 100) : ∃ σ', fX5_bringLastOf s r σ = some σ' ∧ sm3 σ σ' ∧ σ'.1 3 13 = lst (σ.1 11) s r np ∧ ∀ j, j ≠ 13 → σ'.1 3 j = σ.1 3 j := by
  refine ⟨setI (setI σ 3 13 (-1)) 3 13 (lst (σ.1 11) s r np), ?_, sm3.rfl.set.set, rfl, fun j h1 => ?_⟩
  · unfold fX5_bringLastOf
    rw [show (setI σ 3 13 (-1)).1 10 3 = nI np from hn]
    exact lastL (σ := setI σ 3 13 (-1)) (hC.f (sm3.rfl.set).ag) hn h8 rfl np FU (Nat.le_refl _) (by unfold FU; omega)
  · show (if 3 = 3 ∧ j = 13 then _ else if 3 = 3 ∧ j = 13 then _ else σ.1 3 j) = _
    rw [if_neg (by omega), if_neg (by omega)]
theorem lst_rng {P : Nat → Int32} {s r : Int32} : ∀ n, (∀ p, p < n → 0 ≤ P (6 * p + 4)) → (lst P s r n = -1 ∨ 0 ≤ lst P s r n)
  | 0, _ => Or.inl rfl
  | n + 1, h => by
    rw [lst]
    split
    · exact Or.inr (h n (by omega))
    · exact lst_rng n (fun p hp => h p (by omega))
/-- what the sums of the pairs are -/
theorem REL.sums {ns nr np : Nat} {X M : Nat → Nat → Int32} (R : REL ns nr np X M) (r : Nat) (hr : r < nr) : ∃ C G, G ≤ C ∧ C ≤ 10000 ∧ fs (cmF (X 6) (nI r)) np = nI C ∧ fs (gvF (X 6) (nI r)) np = nI G := by
  obtain ⟨C, G, h1, h2, h3, h4⟩ := fs_2 (f := cmF (X 6) (nI r)) (g := gvF (X 6) (nI r)) np (fun p hp => by
    obtain ⟨-, -, -, h5, h6, -⟩ := R.pr p hp
    obtain ⟨a, ha, ea⟩ := rg_n (n := 100) (by decide) h5
    rw [ea] at h6
    obtain ⟨b, hb, eb⟩ := rg_n (n := a) (by omega) h6
    unfold cmF gvF
    split
    · exact ⟨a, b, hb, ha, ea, eb⟩
    · exact ⟨0, 0, by omega, by omega, rfl, rfl⟩)
  have := R.hp
  exact ⟨C, G, h1, by omega, h3, h4⟩
theorem bring {σ τ : ST} {ns nr np s r : Nat} (hC : CST σ) (R : REL ns nr np (X 1 σ) (Ml τ)) (hs : s < ns) (hr : r < nr) : ∃ C G σ', C ≤ 10000 ∧ fX5_bring (nI s) (nI r) σ = some σ' ∧ sm3 σ σ' ∧ MT s r C G (τ.1 41 r) σ' τ := by
  have h8s := R.hs
  have h8r := R.hr
  have h8p := R.hp
  obtain ⟨σ1, p1, m1, ⟨a1, a2, a3⟩, ⟨b1, b2, b3⟩, o1⟩ := bringS hC R.xs R.hs hs
  obtain ⟨σ2, p2, m2, ⟨c1, c2, c3⟩, ⟨d1, d2, d3, d4, d5⟩, o2⟩ := bringR (hC.f m1.ag) (show σ1.1 8 3 = nI nr by rw [m1.1 _ _ (by omega)]; exact R.xr) R.hr hr
  have m2' := m1.tr m2
  obtain ⟨σ3, p3, m3, e1, e2, o3⟩ := bringP (v := nI r) (hC.f m2'.ag) (show σ2.1 10 3 = nI np by rw [m2'.1 _ _ (by omega)]; exact R.xp) R.hp
  have m3' := m2'.tr m3
  obtain ⟨σ4, p4, m4, g1, o4⟩ := bringL (s := nI s) (r := nI r) (hC.f m3'.ag) (show σ3.1 10 3 = nI np by rw [m3'.1 _ _ (by omega)]; exact R.xp) R.hp
  obtain ⟨C, G, k1, k2, k3, k4⟩ := R.sums r hr
  have x2 : σ2.1 11 = σ.1 11 := funext fun j => m2'.1 _ _ (by omega)
  have x3 : σ3.1 11 = σ.1 11 := funext fun j => m3'.1 _ _ (by omega)
  have x1 : ∀ j, σ1.1 9 j = σ.1 9 j := fun j => m1.1 _ _ (by omega)
  rw [x2] at e1 e2
  rw [x3] at g1
  have y1 : ∀ j, σ1.1 1 j = σ.1 1 j := fun j => m1.1 _ _ (by omega)
  obtain ⟨s1, s2, s3⟩ := R.s s hs
  obtain ⟨t1, t2, t3⟩ := R.sr s hs
  obtain ⟨u1, u2, u3, u4, u5⟩ := R.r r hr
  obtain ⟨v1, v2, v3, v4, v5⟩ := R.rr r hr
  refine ⟨C, G, σ4, k2, ?_, m3'.tr m4, ⟨by omega, by omega⟩, ⟨?_, ?_, ?_⟩, ⟨?_, ?_, ?_⟩, ⟨?_, ?_, ?_, ?_, ?_⟩, ⟨?_, ?_, ?_, ?_, k1⟩, ⟨?_, ?_⟩, ⟨?_, ?_⟩, ?_, ?_, ?_, ?_⟩
  · unfold fX5_bring
    rw [p1, bR_t, p2, bR_t, p3, bR_t, p4, bR_t]
  · rw [o4 _ (by omega), o3 _ (by omega) (by omega), c1, y1]; exact R.c0.symm
  · rw [o4 _ (by omega), o3 _ (by omega) (by omega), c2, y1]; exact R.c1.symm
  · rw [o4 _ (by omega), o3 _ (by omega) (by omega), c3, y1]; exact R.c2.symm
  · rw [o4 _ (by omega), o3 _ (by omega) (by omega), o2 _ (by omega), b1]; exact s1.symm
  · rw [o4 _ (by omega), o3 _ (by omega) (by omega), o2 _ (by omega), b2]; exact s2.symm
  · rw [o4 _ (by omega), o3 _ (by omega) (by omega), o2 _ (by omega), b3]; exact s3.symm
  · rw [o4 _ (by omega), o3 _ (by omega) (by omega), d1, x1]; exact u1.symm
  · rw [o4 _ (by omega), o3 _ (by omega) (by omega), d2, x1]; exact u2.symm
  · rw [o4 _ (by omega), o3 _ (by omega) (by omega), d3, x1]; exact u3.symm
  · rw [o4 _ (by omega), o3 _ (by omega) (by omega), d4, x1]; exact u4.symm
  · rw [o4 _ (by omega), o3 _ (by omega) (by omega), d5, x1]; exact u5.symm
  · rw [o4 _ (by omega), e1]; exact k3
  · exact (R.cm r hr).trans k3
  · rw [o4 _ (by omega), e2]; exact k4
  · exact (R.gv r hr).trans k4
  · rw [g1]; exact (R.la s (by omega) r (by omega)).symm
  · rw [g1]; exact lst_rng np (fun p hp => (R.pr p hp).2.2.2.2.1.1)
  · rw [o4 _ (by omega), o3 _ (by omega) (by omega), c1, y1]; exact R.rc
  · rw [o4 _ (by omega), o3 _ (by omega) (by omega), c2, y1]; exact R.rt
  · rw [o4 _ (by omega), o3 _ (by omega) (by omega), o2 _ (by omega), b2]; exact t2
  · rw [o4 _ (by omega), o3 _ (by omega) (by omega), d1, x1]; exact v1
  · rw [show τ.1 41 r = (X 1 σ) 5 (5 * r + 1) from u2]; exact v2
  · rw [o4 _ (by omega), o3 _ (by omega) (by omega), d4, x1]; exact v4
