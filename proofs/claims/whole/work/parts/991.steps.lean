/-- all statements, one behind the other -/
theorem steps {σ0 T0 : ST} {Q np ns0 nr0 : Nat} (hC0 : CST σ0) (hQ : Q ≤ 34) (e3 : σ0.1 18 3 = nI Q) (e1 : σ0.1 18 1 = 6) (hT : TB Q σ0 T0) (e28 : T0.1 36 28 = nI Q) (e10 : σ0.1 10 3 = nI np) (x3 x4 x5 x6 : Int32) : ∀ (m i f f' f'' ns nr : Nat) (σ T : ST), i + m = Q → K5 σ0 σ → K6 ns0 nr0 T0 T → ns0 ≤ ns → nr0 ≤ nr → REL ns nr np (X 1 σ) (Ml T) → m < f → m < f' → m < f'' →
    (∃ p T', fX5_placeOfUntold_25 σ0 f 18 (nI ns) (nI nr) (nI i) = some (nI p) ∧ p ≤ 100 ∧ fX6_room_150 f' x3 x4 x5 x6 (nI i) T = some (-2000 - nI p, setI (setI (setI (setI T' 36 3 x3) 36 7 x4) 36 0 x5) 36 1 x6) ∧ K6 ns0 nr0 T0 T') ∨
    (fX5_placeOfUntold_25 σ0 f 18 (nI ns) (nI nr) (nI i) = some (-1) ∧ ∃ ns' nr' σ' T', fX5_room_84 f'' (nI i) σ = some (nI Q, σ') ∧ fX6_room_150 f' x3 x4 x5 x6 (nI i) T = some (nI Q, T') ∧ K5 σ0 σ' ∧ K6 ns0 nr0 T0 T' ∧ REL ns' nr' np (X 1 σ') (Ml T'))
  | 0, i, f + 1, f' + 1, f'' + 1, ns, nr, σ, T, hi, h5, h6, hns, hnr, R, _, _, _ => by
    have s3 : σ.1 18 3 = nI Q := (h5.1 18 3 (by omega) (by omega) (by omega) (by omega)).trans e3
    have t28 : T.1 36 28 = nI Q := (h6.1 36 28 (by omega) (by omega) (by omega)).trans e28
    refine Or.inr ⟨?_, ns, nr, σ, T, ?_, ?_, h5, h6, R⟩
    · rw [fX5_placeOfUntold_25, e3, if_pos (nI_le (by omega) (by omega))]
    · rw [fX5_room_84, s3, if_pos (nI_le (by omega) (by omega))]
    · rw [fX6_room_150, t28, if_pos (nI_le (by omega) (by omega))]
  | m + 1, i, f + 1, f' + 1, f'' + 1, ns, nr, σ, T, hi, h5, h6, hns, hnr, R, hf, hf', hf'' => by
    have s3 : σ.1 18 3 = nI Q := (h5.1 18 3 (by omega) (by omega) (by omega) (by omega)).trans e3
    have t28 : T.1 36 28 = nI Q := (h6.1 36 28 (by omega) (by omega) (by omega)).trans e28
    have hC := h5.cst hC0
    have hI : RI Q i σ0 := ⟨by omega, hQ, e3, e1⟩
    have hk : ∀ j, σ.1 18 j = σ0.1 18 j ∧ σ.1 19 j = σ0.1 19 j := fun j => ⟨h5.1 18 j (by omega) (by omega) (by omega) (by omega), h5.1 19 j (by omega) (by omega) (by omega) (by omega)⟩
    have hs8 := R.hs
    have hr8 := R.hr
    have hp8 := R.hp
    have nge : ¬ nI Q ≤ nI i := nI_ge (by omega) (by omega)
    obtain ⟨l, k, p, hl, hp, c0, c1, c2, c3, cv⟩ := hT i (by omega)
    have c1 : T.1 54 i = nI p := (h6.1 54 i (by omega) (by omega) (by omega)).trans c1
    have c3 : T.1 55 i = l := (h6.1 55 i (by omega) (by omega) (by omega)).trans c3
    have cv : ∀ t, t < k → ∃ v, v < 1000 ∧ σ0.1 19 (6 * i + 2 + t) = nI v ∧ T.1 56 (4 * i + t) = nI v := fun t ht => by
      obtain ⟨v, w1, w2, w3⟩ := cv t ht
      exact ⟨v, w1, w2, (h6.1 56 _ (by omega) (by omega) (by omega)).trans w3⟩
    have untold : fX5_placeOfUntold_25 σ0 (f + 1) 18 (nI ns) (nI nr) (nI i) = some (nI p) → fX6_comes (nI i) T = some (0, T) → (∃ p T', fX5_placeOfUntold_25 σ0 (f + 1) 18 (nI ns) (nI nr) (nI i) = some (nI p) ∧ p ≤ 100 ∧ fX6_room_150 (f' + 1) x3 x4 x5 x6 (nI i) T = some (-2000 - nI p, setI (setI (setI (setI T' 36 3 x3) 36 7 x4) 36 0 x5) 36 1 x6) ∧ K6 ns0 nr0 T0 T') := fun g1 g2 => by
      refine ⟨p, T, g1, hp, ?_, h6⟩
      have e54 : (setI (setI (setI (setI T 36 3 x3) 36 7 x4) 36 0 x5) 36 1 x6).1 54 i = nI p := by
        rw [sg, if_neg (by omega), sg, if_neg (by omega), sg, if_neg (by omega), sg, if_neg (by omega)]; exact c1
      rw [fX6_room_150, t28, if_neg nge, g2, bI_t, if_pos rfl, al_54, inb_t (show i < 50 by omega) (by decide), gd_t, nI_clamp (show i < 2 ^ 31 by omega), e54]
    have told : ∀ (ns1 nr1 : Nat) (σ1 T1 : ST), fX5_placeOfUntold_25 σ0 (f + 1) 18 (nI ns) (nI nr) (nI i) = fX5_placeOfUntold_25 σ0 f 18 (nI ns1) (nI nr1) (nI (i + 1)) → fX5_carryOut 18 (nI i) σ = some σ1 → fX6_comes (nI i) T = some (1, T1) → K5 σ σ1 → K6 ns nr T T1 → ns ≤ ns1 → nr ≤ nr1 → REL ns1 nr1 np (X 1 σ1) (Ml T1) →
        (∃ p T', fX5_placeOfUntold_25 σ0 (f + 1) 18 (nI ns) (nI nr) (nI i) = some (nI p) ∧ p ≤ 100 ∧ fX6_room_150 (f' + 1) x3 x4 x5 x6 (nI i) T = some (-2000 - nI p, setI (setI (setI (setI T' 36 3 x3) 36 7 x4) 36 0 x5) 36 1 x6) ∧ K6 ns0 nr0 T0 T') ∨
        (fX5_placeOfUntold_25 σ0 (f + 1) 18 (nI ns) (nI nr) (nI i) = some (-1) ∧ ∃ ns' nr' σ' T', fX5_room_84 (f'' + 1) (nI i) σ = some (nI Q, σ') ∧ fX6_room_150 (f' + 1) x3 x4 x5 x6 (nI i) T = some (nI Q, T') ∧ K5 σ0 σ' ∧ K6 ns0 nr0 T0 T' ∧ REL ns' nr' np (X 1 σ') (Ml T')) := fun ns1 nr1 σ1 T1 g1 g2 g3 k5 k6 n1 n2 R1 => by
      have e84 : fX5_room_84 (f'' + 1) (nI i) σ = fX5_room_84 f'' (nI (i + 1)) σ1 := by
        rw [fX5_room_84, s3, if_neg nge, g2, bR_t, nI_1]
      have e150 : fX6_room_150 (f' + 1) x3 x4 x5 x6 (nI i) T = fX6_room_150 f' x3 x4 x5 x6 (nI (i + 1)) T1 := by
        rw [fX6_room_150, t28, if_neg nge, g3, bI_t, if_neg h10, nI_1]
      rw [g1, e84, e150]
      exact steps hC0 hQ e3 e1 hT e28 e10 x3 x4 x5 x6 m (i + 1) f f' f'' ns1 nr1 σ1 T1 (by omega) (h5.tr k5) (h6.tr k6 hns hnr) (by omega) (by omega) R1 (by omega) (by omega) (by omega)
    rcases hl with ⟨rfl, rfl⟩ | ⟨ll, rfl⟩ | ⟨ll, rfl⟩
    · obtain ⟨v0, b0, w0, u0⟩ := cv 0 (by omega)
      obtain ⟨v1, b1, w1, u1⟩ := cv 1 (by omega)
      obtain ⟨v2, b2, w2, u2⟩ := cv 2 (by omega)
      have g1 := pu_s (f := f) (nr := nr) hI c0 c2 w0 w1 w2 b0 b1 b2 hs8
      have g3 := cm_s (ns := ns) (show i < 34 by omega) c3 u0 u1 u2 b0 b1 b2 R.ms hs8
      by_cases w : ns < 8 ∧ v0 ≤ 7 ∧ v1 ≤ 20 ∧ v2 ≤ 100
      · rw [if_pos w] at g1 g3
        have g2 := ca_s hI hk hC R.xs w.1 c2 w0 w1 w2
        obtain ⟨σ1, T1, q1, q2, k5, k6, R1⟩ := REL.sender R w.1 w.2.1 w.2.2.1 w.2.2.2
        rw [q1] at g2
        rw [q2] at g3
        exact told (ns + 1) nr σ1 T1 g1 g2 g3 k5 k6 (by omega) (by omega) R1
      · rw [if_neg w] at g1 g3
        exact Or.inl (untold g1 g3)
    · obtain ⟨v0, b0, w0, u0⟩ := cv 0 (by omega)
      obtain ⟨v1, b1, w1, u1⟩ := cv 1 (by omega)
      obtain ⟨v2, b2, w2, u2⟩ := cv 2 (by omega)
      obtain ⟨v3, b3, w3, u3⟩ := cv 3 (by omega)
      obtain ⟨bx, hbx, lb⟩ : ∃ bx, bx ≤ 1 ∧ (l = 109 ∧ bx = 0 ∨ l = 120 ∧ bx = 1) := by
        rcases ll with e | e
        · exact ⟨0, by omega, Or.inl ⟨e, rfl⟩⟩
        · exact ⟨1, by omega, Or.inr ⟨e, rfl⟩⟩
      have g1 := pu_r (f := f) (ns := ns) hI c0 c2 ll w0 w1 w2 w3 b0 b1 b2 b3 hr8
      have g3 := cm_r (nr := nr) (show i < 34 by omega) c3 lb u0 u1 u2 u3 b0 b1 b2 b3 R.mr hr8
      by_cases w : nr < 8 ∧ v0 ≤ 100 ∧ v1 ≤ 100 ∧ v2 ≤ 100 ∧ v3 ≤ 100
      · rw [if_pos w] at g1 g3
        have g2 := ca_r hI hk hC R.xr w.1 c2 lb w0 w1 w2 w3
        obtain ⟨σ1, T1, q1, q2, k5, k6, R1⟩ := REL.returner R w.1 hbx w.2.1 w.2.2.1 w.2.2.2.1 w.2.2.2.2
        rw [q1] at g2
        rw [q2] at g3
        exact told ns (nr + 1) σ1 T1 g1 g2 g3 k5 k6 (by omega) (by omega) R1
      · rw [if_neg w] at g1 g3
        exact Or.inl (untold g1 g3)
    · obtain ⟨v0, b0, w0, u0⟩ := cv 0 (by omega)
      obtain ⟨t, j, lt⟩ : ∃ t j, l = 99 ∧ t = 20 ∧ j = 0 ∨ l = 116 ∧ t = 5 ∧ j = 1 := by
        rcases ll with e | e
        · exact ⟨20, 0, Or.inl ⟨e, rfl, rfl⟩⟩
        · exact ⟨5, 1, Or.inr ⟨e, rfl, rfl⟩⟩
      have lt' : l = 99 ∧ t = 20 ∨ l = 116 ∧ t = 5 := by
        rcases lt with ⟨a, b, -⟩ | ⟨a, b, -⟩
        · exact Or.inl ⟨a, b⟩
        · exact Or.inr ⟨a, b⟩
      have lj : t = 20 ∧ j = 0 ∨ t = 5 ∧ j = 1 := by
        rcases lt with ⟨-, b⟩ | ⟨-, b⟩
        · exact Or.inl b
        · exact Or.inr b
      have g1 := pu_c (f := f) (ns := ns) (nr := nr) hI c0 c2 lt' w0 b0 e10 hp8
      have g3 := cm_c (np := np) (show i < 34 by omega) c3 lt u0 b0 R.mp hp8
      by_cases w : np = 0 ∧ 1 ≤ v0 ∧ v0 ≤ t
      · rw [if_pos w] at g1 g3
        have g2 := ca_c hI hk c2 lt w0
        obtain ⟨k5, k6, R1⟩ := REL.setting R lj w.2.1 w.2.2
        exact told ns nr _ _ g1 g2 g3 k5 k6 (by omega) (by omega) R1
      · rw [if_neg w] at g1 g3
        exact Or.inl (untold g1 g3)
