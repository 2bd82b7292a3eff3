theorem S5.scr {q : Nat} {σ σ' : ST} (h : S5 q σ σ') : scr5 σ σ' := ⟨fun k j hs => h.1 k j (fun e => hs (by unfold sc5; omega)) (fun e => hs (by unfold sc5; omega)) (fun e => hs (by unfold sc5; omega)), h.2⟩
theorem S6.scr {q : Nat} {τ τ' : ST} (h : S6 q τ τ') : scr6 τ τ' := ⟨fun k j hs => h.1 k j (fun e => hs (by unfold sc6; omega)) (fun e => hs (by unfold sc6; omega)) (fun e => hs (by unfold sc6; omega)), fun j => by rw [h.2]⟩
/-- what is read is carried out, or told -/
theorem room_end {σ T : ST} (hI : INV σ T) {Q : Nat} (hQ : Q ≤ 34) (hTB : TB Q σ T) (e3 : σ.1 18 3 = nI Q) (e28 : T.1 36 28 = nI Q) (hb : T.1 36 27 = 0) : ∃ a σ' T', (bR (fX5_placeOfUntold 18 σ) fun a4 => if a4 < 0 then fX5_room_84 FU 0 σ else some (-2000 - a4, σ)) = some (a, σ') ∧ fX6_room_108 T = some (a, T') ∧ INV σ' T' ∧ fr5 σ σ' ∧ fr6 T T' := by
  obtain ⟨ns, nr, np, R⟩ := hI.g
  have e6 : σ.1 6 3 = nI ns := R.xs
  have e8 : σ.1 8 3 = nI nr := R.xr
  unfold fX5_placeOfUntold fX6_room_108
  rw [hb, if_pos rfl, e6, e8]
  rcases steps (ns0 := ns) (nr0 := nr) hI.c hQ e3 hI.c.a6.2 hTB e28 R.xp (T.1 36 3) (T.1 36 7) (T.1 36 0) (T.1 36 1) Q 0 FU FU FU ns nr σ T (by omega) ⟨fun _ _ _ _ _ _ => rfl, rfl⟩ ⟨fun _ _ _ _ _ => rfl, rfl⟩ (Nat.le_refl _) (Nat.le_refl _) R (by unfold FU; omega) (by unfold FU; omega) (by unfold FU; omega) with ⟨p, T', g1, g2, g3, k6⟩ | ⟨g1, ns', nr', σ', T', g2, g3, k5, k6, R'⟩
  · refine ⟨-2000 - nI p, σ, _, ?_, g3, ?_, fr5.rfl, ?_⟩
    · show (bR (fX5_placeOfUntold_25 σ FU 18 (nI ns) (nI nr) (nI 0)) _) = _
      rw [g1, bR_t, if_neg (nI_pos (by omega))]
    · have t : ∀ k j, ¬ (k = 36 ∧ (j = 0 ∨ j = 1 ∨ j = 3 ∨ j = 7)) → (setI (setI (setI (setI T' 36 3 (T.1 36 3)) 36 7 (T.1 36 7)) 36 0 (T.1 36 0)) 36 1 (T.1 36 1)).1 k j = T'.1 k j := fun k j q => by
        rw [sg, if_neg (by omega), sg, if_neg (by omega), sg, if_neg (by omega), sg, if_neg (by omega)]
      have u : ∀ j, (setI (setI (setI (setI T' 36 3 (T.1 36 3)) 36 7 (T.1 36 7)) 36 0 (T.1 36 0)) 36 1 (T.1 36 1)).1 36 j = T.1 36 j := fun j => by
        by_cases j1 : j = 1
        · subst j1; rw [sg, if_pos ⟨rfl, rfl⟩]
        · rw [sg, if_neg (fun e => j1 e.2)]
          by_cases j0 : j = 0
          · subst j0; rw [sg, if_pos ⟨rfl, rfl⟩]
          · rw [sg, if_neg (fun e => j0 e.2)]
            by_cases j7 : j = 7
            · subst j7; rw [sg, if_pos ⟨rfl, rfl⟩]
            · rw [sg, if_neg (fun e => j7 e.2)]
              by_cases j3 : j = 3
              · subst j3; rw [sg, if_pos ⟨rfl, rfl⟩]
              · rw [sg, if_neg (fun e => j3 e.2)]; exact k6.1 36 j (by omega) (by omega) (by omega)
      have t2 : (setI (setI (setI (setI T' 36 3 (T.1 36 3)) 36 7 (T.1 36 7)) 36 0 (T.1 36 0)) 36 1 (T.1 36 1)).2 = T.2 := k6.2
      generalize setI (setI (setI (setI T' 36 3 (T.1 36 3)) 36 7 (T.1 36 7)) 36 0 (T.1 36 0)) 36 1 (T.1 36 1) = T2 at t u t2 ⊢
      refine INV.game hI (fun _ _ _ _ _ _ => rfl) ⟨fun k j hk => (t k j (by omega)).trans (k6.1 k j (by omega) (by omega) (by omega)), u 34, fun j => by rw [t2]⟩ ⟨ns, nr, np, ?_⟩
      have hs8 := R.hs
      have hr8 := R.hr
      refine REL.congr R (fun _ _ => rfl) rfl rfl rfl (fun _ _ => rfl) (fun _ _ => rfl) (fun _ _ => rfl) (fun j _ => u j) (u 3) (u 7) (u 16) (fun k j h1 h2 h3 h4 h5 => ?_) (fun j hj => ?_) (fun k p h1 h2 h3 => ?_)
      · rw [Ml_c _ h1, Ml_c _ h1, t _ _ (by omega)]; exact k6.1 _ _ (by omega) (by omega) (by omega)
      · exact (t 47 j (by omega)).trans (k6.1 47 j (by omega) (by omega) (by omega))
      · rw [Ml_c _ (by omega), Ml_c _ (by omega), t _ _ (by omega)]; exact k6.1 _ _ (by omega) (by omega) (by omega)
    · intro k j hk
      rw [sg, if_neg (by omega), sg, if_neg (by omega), sg, if_neg (by omega), sg, if_neg (by omega)]
      exact k6.1 k j (by omega) (by omega) (by omega)
  · refine ⟨nI Q, σ', T', ?_, g3, ?_, ⟨fun k j hk => k5.1 k j (by omega) (by omega) (by omega) (by omega), k5.2⟩, fun k j hk => k6.1 k j (by omega) (by omega) (by omega)⟩
    · show (bR (fX5_placeOfUntold_25 σ FU 18 (nI ns) (nI nr) (nI 0)) _) = _
      rw [g1, bR_t, if_pos (show (-1 : Int32) < 0 by decide)]; exact g2
    · exact INV.game hI (fun k j _ h2 h3 _ => k5.1 k j h2 (fun e => h3 (Or.inl (by omega))) (by omega) (by omega)) ⟨fun k j hk => k6.1 k j (by omega) (by omega) (by omega), k6.1 36 34 (by omega) (by omega) (by omega), fun j => by rw [k6.2]⟩ ⟨ns', nr', np, R'⟩
theorem sim_room (x1 : Int32) : SIM (fX5_room x1) (fX6_room x1) := by
  intro σ τ h0
  have hI := h0.r
  have hT := (scr6.r (τ := τ)).fr6
  unfold fX5_room fX6_room fX6_room_36
  generalize setI τ 36 23 0 = T at *
  have no : ∀ v, ∃ a σ' τ', (some (v, σ) : Option (Int32 × ST)) = some (a, σ') ∧ (some (v, T) : Option (Int32 × ST)) = some (a, τ') ∧ INV σ' τ' ∧ fr5 σ σ' ∧ fr6 τ τ' := fun v => ⟨v, σ, T, rfl, rfl, hI, fr5.rfl, hT⟩
  rcases shelf_c x1 σ T with ⟨a1, a2⟩ | ⟨d, hd, rfl, a1, a2⟩
  · have w : fX6_wrongRow x1 T = some (-1) := by unfold fX6_wrongRow; rw [a2]; rfl
    rw [a1, w, bR_t, bR_t, if_neg (show ¬ (0 : Int32) ≤ -1 by decide), bR_t, if_neg (show ¬ (0 : Int32) ≤ -1 by decide)]; exact no (-1)
  have hS := hI.sh d hd
  have i8 : inb (nI d) 8 = true := inb_t hd (by decide)
  rw [a1, bR_t]
  dsimp only
  rcases row_c hd hS with ⟨h2, e1, e2⟩ | ⟨v, hv, hne, e1, e2⟩
  rotate_left
  · obtain ⟨n1, n2⟩ := neg_v hv
    rw [e1, bR_t, if_neg n1, e2, bR_t, if_neg n2, bR_t, if_neg n2]; exact no v
  obtain ⟨r1, r2, r3, r4, r5, r6⟩ := hS.r h2
  obtain ⟨n, hn, en⟩ := rg_n (n := 100) (by decide) r4
  rw [e1, bR_t, if_pos rfl, e2, bR_t, if_pos (show (0 : Int32) ≤ 0 by decide), al_63, al_64, i8, nI_clamp (show d < 2 ^ 31 by omega), r1]
  simp only [gd_t]
  by_cases s0 : σ.1 (20 + 2 * d) 5 = 0
  rotate_left
  · rw [if_neg s0, if_neg s0, if_neg (show ¬ (0 : Int32) ≤ -12 by decide)]; exact no (-12)
  rw [if_pos s0, if_pos s0, if_pos (show (0 : Int32) ≤ 0 by decide)]
  have e64 : (setI T 36 24 (100 * nI d)).1 64 d = nI n := by rw [sg, if_neg (by omega)]; exact r3.trans en
  rw [e64, show (100 : Int32) * nI d = nI (100 * d) from pk_mul 100 d]
  unfold fX2_takesIn fX2_takesIn_25
  have f5 : S5 0 σ (setI (setI σ 18 3 0) 4 1 0) := ⟨fun k j q1 q2 q3 => by rw [sg, if_neg (by omega), sg, if_neg (by omega)], rfl⟩
  have s41 : (setI (setI σ 18 3 0) 4 1 0).1 4 1 = nI 0 := by rw [sg, if_pos ⟨rfl, rfl⟩]; rfl
  have s183 : (setI (setI σ 18 3 0) 4 1 0).1 18 3 = nI 0 := by rw [sg, if_neg (by omega), sg, if_pos ⟨rfl, rfl⟩]; rfl
  have ss : ∀ k j, k ≠ 4 → ¬ (k = 18 ∧ j = 3) → (setI (setI σ 18 3 0) 4 1 0).1 k j = σ.1 k j := fun k j q1 q2 => by rw [sg, if_neg (by omega), sg, if_neg (by omega)]
  generalize setI (setI σ 18 3 0) 4 1 0 = σ1 at f5 s41 s183 ss ⊢
  have u : ∀ k j, ¬ (k = 36 ∧ 24 ≤ j ∧ j ≤ 28) → (setI (setI (setI (setI (setI T 36 24 (nI (100 * d))) 36 25 (nI n)) 36 26 0) 36 27 0) 36 28 0).1 k j = T.1 k j := fun k j q => by
    rw [sg, if_neg (by omega), sg, if_neg (by omega), sg, if_neg (by omega), sg, if_neg (by omega), sg, if_neg (by omega)]
  have u24 : (setI (setI (setI (setI (setI T 36 24 (nI (100 * d))) 36 25 (nI n)) 36 26 0) 36 27 0) 36 28 0).1 36 24 = nI (100 * d) := by
    rw [sg, if_neg (by omega), sg, if_neg (by omega), sg, if_neg (by omega), sg, if_neg (by omega), sg, if_pos ⟨rfl, rfl⟩]
  have u25 : (setI (setI (setI (setI (setI T 36 24 (nI (100 * d))) 36 25 (nI n)) 36 26 0) 36 27 0) 36 28 0).1 36 25 = nI n := by
    rw [sg, if_neg (by omega), sg, if_neg (by omega), sg, if_neg (by omega), sg, if_pos ⟨rfl, rfl⟩]
  have u26 : (setI (setI (setI (setI (setI T 36 24 (nI (100 * d))) 36 25 (nI n)) 36 26 0) 36 27 0) 36 28 0).1 36 26 = nI 0 := by
    rw [sg, if_neg (by omega), sg, if_neg (by omega), sg, if_pos ⟨rfl, rfl⟩]; rfl
  have u27 : (setI (setI (setI (setI (setI T 36 24 (nI (100 * d))) 36 25 (nI n)) 36 26 0) 36 27 0) 36 28 0).1 36 27 = 0 := by
    rw [sg, if_neg (by omega), sg, if_pos ⟨rfl, rfl⟩]
  have u28 : (setI (setI (setI (setI (setI T 36 24 (nI (100 * d))) 36 25 (nI n)) 36 26 0) 36 27 0) 36 28 0).1 36 28 = nI 0 := by
    rw [sg, if_pos ⟨rfl, rfl⟩]; rfl
  have u2 : (setI (setI (setI (setI (setI T 36 24 (nI (100 * d))) 36 25 (nI n)) 36 26 0) 36 27 0) 36 28 0).2 = T.2 := rfl
  generalize setI (setI (setI (setI (setI T 36 24 (nI (100 * d))) 36 25 (nI n)) 36 26 0) 36 27 0) 36 28 0 = T1 at u u24 u25 u26 u27 u28 u2 ⊢
  have f6 : scr6 T T1 := ⟨fun k j hs => u k j (fun e => hs (by unfold sc6; omega)), fun j => by rw [u2]⟩
  have hR : RD d n 0 σ1 T1 := ⟨hd, hn, Nat.zero_le _, s41, u26, u27, u24, u25, (ss _ _ (by omega) (by omega)).trans en, fun i hi => by rw [u2, ss _ _ (by omega) (by omega)]; exact r5 i hi, fun i hi => by rw [ss _ _ (by omega) (by omega)]; exact r6 s0 i hi⟩
  have c1 : σ1.1 18 1 = 6 := (ss _ _ (by omega) (by omega)).trans hI.c.a6.2
  have c0 : σ1.1 18 0 = 34 := (ss _ _ (by omega) (by omega)).trans hI.c.a6.1
  have hb0 : TB 0 σ1 T1 := fun i hi => by omega
  have bad : ∀ (F : Option (Int32 × ST)) (σ2 T2 : ST) (c : Nat), F = some (0, σ2) → fX6_room_76 FU T1 = fX6_room_108 T2 → S5 0 σ1 σ2 → S6 0 T1 T2 → T2.1 36 27 = 1 → σ2.1 4 1 = nI c → T2.1 36 26 = nI c →
      ∃ a σ' τ', (bI F fun a3 σ3 => if a3 = 0 then some (-1000 - σ3.1 4 1, σ3) else bR (fX5_placeOfUntold 18 σ3) fun a4 => if a4 < 0 then fX5_room_84 FU 0 σ3 else some (-2000 - a4, σ3)) = some (a, σ') ∧ fX6_room_76 FU T1 = some (a, τ') ∧ INV σ' τ' ∧ fr5 σ σ' ∧ fr6 τ τ' := fun F σ2 T2 c g1 g2 g5 g6 g7 g8 g9 => by
    have k5 := f5.scr.tr g5.scr
    have k6 := f6.tr g6.scr
    refine ⟨-1000 - nI c, σ2, T2, ?_, ?_, hI.f k5.ag5 k6.ag6, k5.fr5, hT.tr k6.fr6⟩
    · rw [g1, bI_t, if_pos rfl, g8]
    · rw [g2]
      unfold fX6_room_108
      rw [g7, if_neg h10, g9]
  rw [(ss (20 + 2 * d) 6 (by omega) (by omega)).trans en]
  by_cases hn0 : n = 0
  · subst hn0
    rw [if_pos (show nI 0 ≤ 0 by decide)]
    have hz : b5 d 0 σ1 0 = 0 := if_neg (by omega)
    have ets : fX2_takesStatement (20 + 2 * d) σ1 = some (0, σ1) := by
      unfold fX2_takesStatement
      rw [hR.here5, bR_t, hz, if_neg (by decide), if_neg (by decide), if_neg (by decide), if_neg (by decide), if_neg (by decide)]
    obtain ⟨l, m, ok, σ', τ', hl, g1, g2, g3⟩ := stm hR (by omega) s183 c1 c0 u28
    rw [ets] at g1
    obtain ⟨rfl, rfl⟩ := Prod.mk.inj (Option.some.inj g1)
    rcases g3 with ⟨e, -⟩ | ⟨-, w1, w2, w3, c, w4, w5, w6⟩
    · exact absurd e (by decide)
    · refine bad _ σ1 τ' c ?_ ?_ w1 w2 w3 w5 w6
      · rw [show FU = 3999 + 1 from rfl, fX2_takesIn_28, if_neg (by decide), if_pos rfl]; rfl
      · rw [show FU = 3998 + 1 + 1 from rfl, fX6_room_76, u27, if_pos rfl, u28, if_pos (show nI 0 = 0 from rfl)]
        unfold fX6_room_101
        rw [g2, bR_t, fX6_room_76, w3, if_neg h10]
  · rw [if_neg (nI_nle (by omega) (by omega))]
    obtain ⟨ok, σ2, T2, g1, g2, g3, g4, g5⟩ := reading 34 0 0 FU FU σ1 T1 (by omega) hR (by omega) (fun _ => ⟨by omega, rfl⟩) hb0 s183 c1 c0 u28 (by unfold FU; omega) (by unfold FU; omega)
    have g1 : fX2_takesIn_28 FU (20 + 2 * d) 1 0 σ1 = some (ok, σ2) := g1
    rcases g5 with ⟨rfl, w1, Q, hQ0, hQ, w2, w3, w4⟩ | ⟨rfl, w1, c, hc, w2, w3⟩
    · have k5 := f5.scr.tr g3.scr
      have k6 := f6.tr g4.scr
      obtain ⟨a, σ3, T3, j1, j2, j3, j4, j5⟩ := room_end (hI.f k5.ag5 k6.ag6) hQ w2 w3 w4 w1
      refine ⟨a, σ3, T3, ?_, g2.trans j2, j3, k5.fr5.tr j4, (hT.tr k6.fr6).tr j5⟩
      rw [g1, bI_t, if_neg h10]; exact j1
    · exact bad _ σ2 T2 c g1 g2 g3 g4 w1 w2 w3
