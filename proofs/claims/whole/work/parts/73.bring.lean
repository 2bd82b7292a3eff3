/-- two sums of pairs' columns, the second never more than the first -/
theorem fs_2 {f g : Nat → Int32} : ∀ n, (∀ p, p < n → ∃ a b, b ≤ a ∧ a ≤ 100 ∧ f p = nI a ∧ g p = nI b) → ∃ A B, B ≤ A ∧ A ≤ 100 * n ∧ fs f n = nI A ∧ fs g n = nI B
  | 0, _ => ⟨0, 0, Nat.le_refl _, Nat.zero_le _, rfl, rfl⟩
  | n + 1, h => by
    obtain ⟨A, B, h1, h2, h3, h4⟩ := fs_2 n (fun p hp => h p (by omega))
    obtain ⟨a, b, g1, g2, g3, g4⟩ := h n (by omega)
    exact ⟨A + a, B + b, by omega, by omega, by rw [fs, h3, g3, nI_add], by rw [fs, h4, g4, nI_add]⟩
theorem rg_n {x : Int32} {n : Nat} (hn : n < 2 ^ 31) (h : rg x 0 (nI n)) : ∃ j, j ≤ n ∧ x = nI j := by
  obtain ⟨j, hj, rfl⟩ := nI_of (x := x) (Int32.not_lt.mpr h.1)
  exact ⟨j, (nI_leI hj hn).mp h.2, rfl⟩
theorem n_rg {j n : Nat} (hn : n < 2 ^ 31) (h : j ≤ n) : rg (nI j) 0 (nI n) := ⟨nI_pos' (by omega), nI_le h hn⟩
/-- the name that is reckoned, in hundredths -/
theorem name6 {τ : ST} {r C G : Nat} (hr : r < 8) (hc : τ.1 45 r = nI C) (hg : τ.1 46 r = nI G) (h : G ≤ C) (h2 : C ≤ 100000) : fX6_nameOf (nI r) τ = some (if C = 0 then -1 else nI (100 * G / C)) := by
  have i8 : inb (nI r) 8 = true := inb_t hr (by decide)
  unfold fX6_nameOf
  rw [al_45, i8, gd_t, nI_clamp (show r < 2 ^ 31 by omega), hc, hg]
  by_cases h0 : C = 0
  · rw [if_pos h0, h0, if_pos nI_0]; rfl
  · rw [if_neg h0, if_neg (nI_ne0 (by omega) (by omega)), al_46, i8, gd_t, gd_t]
    have hl : (nI C).toInt64.toInt = (C : Int) := by rw [Int32.toInt_toInt64, nI_toInt (by omega)]
    have hl2 : (nI G).toInt64.toInt = (G : Int) := by rw [Int32.toInt_toInt64, nI_toInt (by omega)]
    have hne : ¬ (nI C).toInt64 = 0 := fun e => by rw [e] at hl; simp at hl; omega
    have hd : decide (¬ (nI C).toInt64 = 0) = true := by rw [decide_eq_true_eq]; exact hne
    rw [hd, gd_t]
    unfold fX6_nameOf_33
    congr 1
    have hm : (100 * (nI G).toInt64).toInt = 100 * (G : Int) := by
      rw [Int64.toInt_mul, hl2, show (100 : Int64).toInt = 100 from rfl]
      exact Int.bmod_eq_of_le (by omega) (by omega)
    have hq : ((100 * (nI G).toInt64) / (nI C).toInt64).toInt = ((100 * G / C : Nat) : Int) := by
      rw [Int64.toInt_div, hm, hl]
      have hq : (100 * (G : Int)).tdiv (C : Int) = ((100 * G / C : Nat) : Int) := by
        rw [show (100 * (G : Int)) = ((100 * G : Nat) : Int) by omega, Int.ofNat_tdiv]
      rw [hq]
      have : 100 * G / C ≤ 100 * G := Nat.div_le_self _ _
      generalize 100 * G / C = Q at *
      exact Int.bmod_eq_of_le (by omega) (by omega)
    have hb : 100 * G / C ≤ 100 * G := Nat.div_le_self _ _
    apply Int32.toInt_inj.mp
    rw [Int64.toInt_toInt32, hq, nI_toInt (by omega)]
    clear hq
    generalize 100 * G / C = Q at *
    exact Int.bmod_eq_of_le (by omega) (by omega)
theorem h4_eq {C G : Nat} (ho : Int32) (h2 : C ≤ 100000) (h : G ≤ C) : h4x (nI C) (nI G) ho = (if 0 ≤ (if C = 0 then -1 else nI (100 * G / C)) then (if C = 0 then -1 else nI (100 * G / C)) else ho) := by
  unfold h4x
  by_cases h0 : C = 0
  · subst h0
    rw [if_pos (show nI 0 ≤ 0 by decide), if_pos rfl, if_neg (by decide)]
  · have hb : 100 * G / C ≤ 100 * G := Nat.div_le_self _ _
    rw [if_neg (nI_nle (by omega) (by omega)), if_neg h0, if_pos (nI_pos' (by omega)), show (100 : Int32) = nI 100 from rfl, pk_mul, pk_div (by omega) (by omega) (by omega)]
theorem name5_eq {σ : ST} {C G : Nat} (h1 : σ.1 3 11 = nI C) (h3 : σ.1 3 12 = nI G) (h2 : C ≤ 100000) (h : G ≤ C) : fX1_nameOfReturner σ = some (if C = 0 then -1 else nI (100 * G / C)) := by
  rw [name5, h1, h3]
  by_cases h0 : C = 0
  · subst h0
    rw [if_pos (show nI 0 ≤ 0 by decide), if_pos rfl]
  · rw [if_neg (nI_nle (by omega) (by omega)), if_neg h0, show (100 : Int32) = nI 100 from rfl, pk_mul, pk_div (by omega) (by omega) (by omega)]
/-- place 3 holds what the model has of sender s before returner r; sh the share -/
abbrev MT (s r C G : Nat) (sh : Int32) (σ τ : ST) : Prop := (s < 8 ∧ r < 8) ∧ (σ.1 3 0 = τ.1 36 0 ∧ σ.1 3 1 = τ.1 36 1 ∧ σ.1 3 2 = τ.1 36 2) ∧ (σ.1 3 3 = τ.1 37 s ∧ σ.1 3 4 = τ.1 38 s ∧ σ.1 3 5 = τ.1 39 s) ∧ (σ.1 3 6 = τ.1 40 r ∧ σ.1 3 7 = sh ∧ σ.1 3 8 = τ.1 42 r ∧ σ.1 3 9 = τ.1 43 r ∧ σ.1 3 10 = τ.1 44 r) ∧ (σ.1 3 11 = nI C ∧ τ.1 45 r = nI C ∧ σ.1 3 12 = nI G ∧ τ.1 46 r = nI G ∧ G ≤ C) ∧ (σ.1 3 13 = τ.1 47 (8 * s + r) ∧ (σ.1 3 13 = -1 ∨ 0 ≤ σ.1 3 13)) ∧ (rg (σ.1 3 0) 1 20 ∧ rg (σ.1 3 1) 1 5) ∧ (rg (σ.1 3 4) 0 20 ∧ rg (σ.1 3 6) 0 1 ∧ rg sh 0 100 ∧ rg (σ.1 3 9) 0 100)
theorem rg1 {x : Int32} {n : Nat} (hn : n < 2 ^ 31) (h : rg x 1 (nI n)) : ∃ j, 1 ≤ j ∧ j ≤ n ∧ x = nI j := by
  obtain ⟨j, hj, rfl⟩ := rg_n hn ⟨Int32.le_trans (by decide) h.1, h.2⟩
  exact ⟨j, (nI_leI (a := 1) (by omega) (by omega)).mp h.1, hj, rfl⟩
theorem imin_n {a b : Nat} (ha : a < 2 ^ 31) (hb : b < 2 ^ 31) : imin (nI a) (nI b) = nI (min a b) := by
  unfold imin
  by_cases h : b < a
  · rw [if_pos (nI_lt h ha), Nat.min_eq_right (by omega)]
  · rw [if_neg (nI_nlt (by omega) hb), Nat.min_eq_left (by omega)]
theorem send_rng {co ti z ki fi ho bx wd h4 lb : Int32} (hc : rg co 1 20) (hf : rg fi 0 20) (hl : lb = -1 ∨ 0 ≤ lb) : ∃ a, a ≤ 20 ∧ svV co ti z ki fi ho bx wd h4 lb = nI a := by
  obtain ⟨c, hc1, hc2, rfl⟩ := rg1 (n := 20) (by decide) hc
  obtain ⟨f, hf2, rfl⟩ := rg_n (n := 20) (by decide) hf
  have hk : ∀ h, ∃ a, a ≤ 20 ∧ rk ti (nI c) h = nI a := fun h => by
    unfold rk
    split
    · exact ⟨0, by omega, rfl⟩
    · exact ⟨c, hc2, rfl⟩
  have hlot : ∃ a, a ≤ 20 ∧ lot z (nI f) (nI c) = nI a := by
    unfold lot
    split
    · exact ⟨0, by omega, rfl⟩
    · exact ⟨c, hc2, rfl⟩
  unfold svV
  split
  · exact hk _
  split
  · rw [show (2 : Int32) = nI 2 from rfl, pk_div (by omega) (by omega) (by omega), imin_n (by omega) (by omega)]
    exact ⟨_, by omega, rfl⟩
  split
  · split
    · exact ⟨1, by omega, rfl⟩
    · rename_i hn
      obtain ⟨b, hb, rfl⟩ := nI_of (x := lb) (Int32.not_lt.mpr (hl.resolve_left hn))
      rw [imin_n hb (by omega)]
      exact ⟨_, by omega, rfl⟩
  split
  · exact hk _
  split
  · exact hlot
  split
  · exact hk _
  split
  · split
    · exact hlot
    · obtain ⟨a, ha, e⟩ := hlot
      rw [e, show (2 : Int32) = nI 2 from rfl, pk_div (by omega) (by omega) (by omega), imin_n (by omega) (by omega)]
      exact ⟨_, by omega, rfl⟩
  · rw [imin_n (by omega) (by omega)]
    exact ⟨_, by omega, rfl⟩
theorem back_rng {z bx sh le se seen : Int32} {A : Nat} (hA : A ≤ 100) (hs : rg sh 0 100) (he : rg se 0 100) : ∃ B, B ≤ A ∧ bkV z bx sh le se (nI A) seen = nI B := by
  obtain ⟨s, hs2, rfl⟩ := rg_n (n := 100) (by decide) hs
  obtain ⟨e, he2, rfl⟩ := rg_n (n := 100) (by decide) he
  unfold bkV
  split
  · exact ⟨0, by omega, rfl⟩
  split
  · split
    · split
      · exact ⟨0, by omega, rfl⟩
      · exact ⟨A, by omega, rfl⟩
    · have hp : ∃ p, p ≤ 100 ∧ (if seen = 0 then nI s else imin (nI s + nI e) 100) = nI p := by
        split
        · exact ⟨s, hs2, rfl⟩
        · rw [nI_add, show (100 : Int32) = nI 100 from rfl, imin_n (by omega) (by omega)]
          exact ⟨_, by omega, rfl⟩
      obtain ⟨p, hp, e⟩ := hp
      have h1 : A * p ≤ A * 100 := Nat.mul_le_mul_left _ hp
      rw [e, pk_mul, show (100 : Int32) = nI 100 from rfl, pk_div (by omega) (by omega) (by omega)]
      exact ⟨A * p / 100, by omega, rfl⟩
  · exact ⟨0, by omega, rfl⟩
abbrev sm3 (σ σ' : ST) : Prop := (∀ k j, k ≠ 3 → σ'.1 k j = σ.1 k j) ∧ σ'.2 = σ.2
theorem sm3.rfl {σ : ST} : sm3 σ σ := ⟨fun _ _ _ => Eq.refl _, Eq.refl _⟩
theorem sm3.tr {σ σ' σ'' : ST} (h : sm3 σ σ') (h' : sm3 σ' σ'') : sm3 σ σ'' := ⟨fun k j hk => (h'.1 k j hk).trans (h.1 k j hk), h'.2.trans h.2⟩
theorem sm3.set {σ σ' : ST} (h : sm3 σ σ') {j : Nat} {x : Int32} : sm3 σ (setI σ' 3 j x) := ⟨fun k i hk => by rw [sg, if_neg (fun e => hk e.1)]; exact h.1 k i hk, h.2⟩
theorem sm3.scr {σ σ' : ST} (h : sm3 σ σ') : scr5 σ σ' := ⟨fun k j hk => h.1 k j (fun e => hk (Or.inl e)), h.2⟩
/-- what a pass of the model leaves as it was -/
abbrev smP (s r : Nat) (τ τ' : ST) : Prop := (∀ k j, ¬ (k = 36 ∧ (j = 2 ∨ j = 32 ∨ j = 33)) → ¬ (k = 45 ∧ j = r) → ¬ (k = 46 ∧ j = r) → ¬ (k = 47 ∧ j = 8 * s + r) → τ'.1 k j = τ.1 k j) ∧ τ'.2 = τ.2
theorem MT.sendTo {s r C G : Nat} {sh : Int32} {σ τ : ST} (h : MT s r C G sh σ τ) (hC : C ≤ 100000) : ∃ a z, a ≤ 20 ∧ fX1_sendNow σ = some (nI a, setI σ 3 2 z) ∧ fX6_sendingTo (nI s) (nI r) τ = some (nI a, setI τ 36 2 z) := by
  obtain ⟨⟨hs, hr⟩, ⟨c1, c2, c3⟩, ⟨c4, c5, c6⟩, ⟨d1, d2, d3, d4, d5⟩, ⟨e1, e2, e3, e4, e5⟩, ⟨l1, l2⟩, ⟨r1, r2⟩, r3, r4, r5, r6⟩ := h
  obtain ⟨a, ha, ea⟩ := send_rng (ti := σ.1 3 1) (z := σ.1 3 2) (ki := σ.1 3 3) (ho := σ.1 3 5) (bx := σ.1 3 6) (wd := σ.1 3 10) (h4 := h4x (σ.1 3 11) (σ.1 3 12) (σ.1 3 5)) r1 r3 l2
  have i8 : inb (nI r) 8 = true := inb_t hr (by decide)
  have i64 : inb (8 * nI s + nI r) 64 = true := by
    rw [show (8 : Int32) = nI 8 from rfl, pk_mul, nI_add]; exact inb_t (by omega) (by decide)
  have ix : (8 * nI s + nI r).toNatClampNeg = 8 * s + r := by
    rw [show (8 : Int32) = nI 8 from rfl, pk_mul, nI_add, nI_clamp (by omega)]
  refine ⟨a, svZ (σ.1 3 2) (σ.1 3 3), ha, by rw [send5, ea], ?_⟩
  have hgo : ∀ x2, (x2 = 0 ∨ x2 = 1) → x2 = τ.1 40 r → fX6_sendingTo_17 (nI s) (nI r) (nI s) x2 τ = some (nI a, setI τ 36 2 (svZ (σ.1 3 2) (σ.1 3 3))) := by
    intro x2 hx hx2
    unfold fX6_sendingTo_17
    rw [name6 hr e2 e4 e5 hC, bR_t, al_44, i8, gd_t, al_47, i64, gd_t, ix, nI_clamp (show r < 2 ^ 31 by omega),
      send6 hs hx (by rw [← c1]; exact r1) (by rw [← l1]; exact l2), bI_t]
    rw [← h4_eq (τ.1 39 s) hC e5, ← ea, c1, c2, c3, c4, c5, c6, d1, d5, e1, e3, l1, hx2]
  unfold fX6_sendingTo
  rw [al_40, i8, gd_t, nI_clamp (show r < 2 ^ 31 by omega)]
  obtain ⟨b, hb, eb⟩ := rg_n (n := 1) (by decide) r4
  rw [d1] at eb
  match b, hb with
  | 0, _ => rw [if_neg (by rw [eb]; decide)]; exact hgo 0 (Or.inl rfl) eb.symm
  | 1, _ => rw [if_pos (show τ.1 40 r = 1 from eb)]; exact hgo 1 (Or.inr rfl) eb.symm
theorem MT.play {s r C G : Nat} {sh : Int32} {σ τ : ST} (h : MT s r C G sh σ τ) (hC : C ≤ 90000) (seen : Int32) : ∃ a A B σ' τ', a ≤ 20 ∧ A ≤ 100 ∧ B ≤ A ∧ fX1_play seen σ = some σ' ∧ fX6_pass (nI s) (nI r) sh seen τ = some τ' ∧ MT s r (C + A) (G + B) sh σ' τ' ∧ σ'.1 3 14 = nI a ∧ σ'.1 3 15 = nI A ∧ σ'.1 3 13 = nI B ∧ τ'.1 36 32 = nI a ∧ nI a * τ'.1 36 1 = nI A ∧ τ'.1 36 33 = nI B ∧ sm3 σ σ' ∧ smP s r τ τ' := by
  obtain ⟨a, z, ha, q1, q2⟩ := MT.sendTo h (by omega)
  obtain ⟨⟨hs, hr⟩, ⟨c1, c2, c3⟩, ⟨c4, c5, c6⟩, ⟨d1, d2, d3, d4, d5⟩, ⟨e1, e2, e3, e4, e5⟩, ⟨l1, l2⟩, ⟨r1, r2⟩, r3, r4, r5, r6⟩ := h
  have i8 : inb (nI r) 8 = true := inb_t hr (by decide)
  have i64 : inb (8 * nI s + nI r) 64 = true := by
    rw [show (8 : Int32) = nI 8 from rfl, pk_mul, nI_add]; exact inb_t (by omega) (by decide)
  have ix : (8 * nI s + nI r).toNatClampNeg = 8 * s + r := by
    rw [show (8 : Int32) = nI 8 from rfl, pk_mul, nI_add, nI_clamp (by omega)]
  obtain ⟨t, ht1, ht, et⟩ := rg1 (n := 5) (by decide) r2
  have hA : a * t ≤ 100 := Nat.le_trans (Nat.mul_le_mul ha ht) (by omega)
  have eA : nI a * σ.1 3 1 = nI (a * t) := by rw [et, pk_mul]
  have eA' : nI a * τ.1 36 1 = nI (a * t) := by rw [← c2, eA]
  obtain ⟨B, hB, eB⟩ := back_rng (z := z) (bx := σ.1 3 6) (sh := sh) (le := σ.1 3 8) (se := σ.1 3 9) (seen := seen) hA r5 r6
  let z2 := bkZ z (σ.1 3 6) (σ.1 3 8) (nI (a * t))
  let σ2 := setI (setI (setI σ 3 2 z) 3 14 (nI a)) 3 15 (nI a * σ.1 3 1)
  have hb : fX1_sendBackOf (nI a) seen σ2 = some (nI B, setI σ2 3 2 z2) := by
    rw [back5]
    show some (bkV z (σ.1 3 6) (σ.1 3 7) (σ.1 3 8) (σ.1 3 9) (nI a * σ.1 3 1) seen, setI σ2 3 2 (bkZ z (σ.1 3 6) (σ.1 3 8) (nI a * σ.1 3 1))) = _
    rw [eA, d2, eB]
  let σ3 := setI (setI (setI (setI σ2 3 2 z2) 3 13 (nI B)) 3 11 (σ.1 3 11 + nI a * σ.1 3 1)) 3 12 (σ.1 3 12 + nI B)
  have hp : fX1_play seen σ = some σ3 := by
    unfold fX1_play
    rw [q1, bI_t]
    show bI (fX1_sendBackOf (nI a) seen σ2) _ = _
    rw [hb]
    rfl
  let τ2 := setI (setI τ 36 2 z) 36 32 (nI a)
  have hb6 : fX6_backOf (nI r) (nI a * τ.1 36 1) sh seen τ2 = some (nI B, setI τ2 36 2 z2) := by
    rw [back6 hr r5.2]
    show some (bkV z (τ.1 40 r) sh (τ.1 42 r) (τ.1 43 r) (nI a * τ.1 36 1) seen, setI τ2 36 2 (bkZ z (τ.1 40 r) (τ.1 42 r) (nI a * τ.1 36 1))) = _
    rw [eA', ← d1, ← d3, ← d4, eB]
  let τ3 := setI (setI (setI (setI (setI τ2 36 2 z2) 36 33 (nI B)) 45 r (τ.1 45 r + nI a * τ.1 36 1)) 46 r (τ.1 46 r + nI B)) 47 (8 * s + r) (nI B)
  have hp6 : fX6_pass (nI s) (nI r) sh seen τ = some τ3 := by
    unfold fX6_pass
    rw [q2, bI_t]
    show bI (fX6_backOf (nI r) (nI a * τ.1 36 1) sh seen τ2) _ = _
    rw [hb6, bI_t]
    simp only [al_45, al_46, al_47, i8, i64, gd_t, ix, nI_clamp (show r < 2 ^ 31 by omega)]
    rfl
  have f45 : τ3.1 45 r = nI (C + a * t) := by
    show (if 45 = 47 ∧ r = 8 * s + r then nI B else if 45 = 46 ∧ r = r then τ.1 46 r + nI B else if 45 = 45 ∧ r = r then τ.1 45 r + nI a * τ.1 36 1 else _) = _
    rw [if_neg (by omega), if_neg (by omega), if_pos ⟨rfl, rfl⟩, e2, eA', nI_add]
  have f46 : τ3.1 46 r = nI (G + B) := by
    show (if 46 = 47 ∧ r = 8 * s + r then nI B else if 46 = 46 ∧ r = r then τ.1 46 r + nI B else _) = _
    rw [if_neg (by omega), if_pos ⟨rfl, rfl⟩, e4, nI_add]
  have f47 : τ3.1 47 (8 * s + r) = nI B := by
    show (if 47 = 47 ∧ 8 * s + r = 8 * s + r then nI B else _) = _
    rw [if_pos ⟨rfl, rfl⟩]
  have fo : smP s r τ τ3 := ⟨fun k j h1 h2 h3 h4 => by
    show (if k = 47 ∧ j = 8 * s + r then nI B else if k = 46 ∧ j = r then τ.1 46 r + nI B else if k = 45 ∧ j = r then τ.1 45 r + nI a * τ.1 36 1 else if k = 36 ∧ j = 33 then nI B else if k = 36 ∧ j = 2 then z2 else if k = 36 ∧ j = 32 then nI a else if k = 36 ∧ j = 2 then z else τ.1 k j) = _
    rw [if_neg h4, if_neg h3, if_neg h2, if_neg (by omega), if_neg (by omega), if_neg (by omega), if_neg (by omega)], rfl⟩
  have g : ∀ k, 36 < k → k < 45 → ∀ j, τ3.1 k j = τ.1 k j := fun k h1 h2 j => fo.1 k j (by omega) (by omega) (by omega) (by omega)
  refine ⟨a, a * t, B, σ3, τ3, ha, hA, hB, hp, hp6, ?_, rfl, eA, rfl, rfl, eA', rfl, ⟨fun k j hk => ?_, rfl⟩, fo⟩
  · refine ⟨⟨hs, hr⟩, ⟨c1, c2, rfl⟩, ⟨?_, ?_, ?_⟩, ⟨?_, d2, ?_, ?_, ?_⟩, ⟨?_, f45, ?_, f46, ?_⟩, ⟨f47.symm, Or.inr (nI_pos' (by omega))⟩, ⟨r1, r2⟩, r3, r4, r5, r6⟩
    · rw [g 37 (by omega) (by omega)]; exact c4
    · rw [g 38 (by omega) (by omega)]; exact c5
    · rw [g 39 (by omega) (by omega)]; exact c6
    · rw [g 40 (by omega) (by omega)]; exact d1
    · rw [g 42 (by omega) (by omega)]; exact d3
    · rw [g 43 (by omega) (by omega)]; exact d4
    · rw [g 44 (by omega) (by omega)]; exact d5
    · show σ.1 3 11 + nI a * σ.1 3 1 = _
      rw [e1, eA, nI_add]
    · show σ.1 3 12 + nI B = _
      rw [e3, nI_add]
    · omega
  · show (if k = 3 ∧ j = 12 then _ else if k = 3 ∧ j = 11 then _ else if k = 3 ∧ j = 13 then _ else if k = 3 ∧ j = 2 then _ else if k = 3 ∧ j = 15 then _ else if k = 3 ∧ j = 14 then _ else if k = 3 ∧ j = 2 then _ else σ.1 k j) = _
    rw [if_neg (by omega), if_neg (by omega), if_neg (by omega), if_neg (by omega), if_neg (by omega), if_neg (by omega), if_neg (by omega)]
