def LET (l : Int32) (m : Nat) : Prop := (l = 115 ∧ m = 3) ∨ ((l = 109 ∨ l = 120) ∧ m = 4) ∨ ((l = 99 ∨ l = 116) ∧ m = 1)
/-- the statements that are told, on both sides -/
abbrev TB (Q : Nat) (σ τ : ST) : Prop := ∀ i, i < Q → ∃ l m p, LET l m ∧ p ≤ 100 ∧ σ.1 19 (6 * i) = nI p ∧ τ.1 54 i = nI p ∧ σ.1 19 (6 * i + 1) = l ∧ τ.1 55 i = l ∧ ∀ t, t < m → ∃ v, v < 1000 ∧ σ.1 19 (6 * i + 2 + t) = nI v ∧ τ.1 56 (4 * i + t) = nI v
theorem LET.le {l : Int32} {m : Nat} (h : LET l m) : m ≤ 4 := by
  rcases h with ⟨-, h⟩ | ⟨-, h⟩ | ⟨-, h⟩ <;> omega
theorem S5.tr {q : Nat} {σ σ' σ'' : ST} (h : S5 q σ σ') (h' : S5 q σ' σ'') : S5 q σ σ'' := ⟨fun k j a b c => (h'.1 k j a b c).trans (h.1 k j a b c), h'.2.trans h.2⟩
theorem S6.tr {q : Nat} {τ τ' τ'' : ST} (h : S6 q τ τ') (h' : S6 q τ' τ'') : S6 q τ τ'' := ⟨fun k j a b c => (h'.1 k j a b c).trans (h.1 k j a b c), h'.2.trans h.2⟩
theorem S5.z {q : Nat} {σ σ' : ST} (h : S5 q σ σ') : S5 0 σ σ' := ⟨fun k j a b c => h.1 k j a (by omega) c, h.2⟩
theorem S6.z {q : Nat} {τ τ' : ST} (h : S6 q τ τ') : S6 0 τ τ' := ⟨fun k j a b c => h.1 k j a (by omega) (by omega), h.2⟩
theorem TB.more {q c : Nat} {σ τ σ' τ' : ST} (h : TB q σ τ) (h5 : S5 q σ σ') (h6 : S6 q τ τ') {l : Int32} {m : Nat} (hl : LET l m) (hc : c ≤ 100) (r : σ'.1 19 (6 * q) = nI c ∧ τ'.1 54 q = nI c ∧ σ'.1 19 (6 * q + 1) = l ∧ τ'.1 55 q = l) (hv : ∀ i, i < m → ∃ v, v < 1000 ∧ σ'.1 19 (6 * q + 2 + i) = nI v ∧ τ'.1 56 (4 * q + i) = nI v) : TB (q + 1) σ' τ' := by
  intro i hi
  by_cases e : i = q
  · subst e
    exact ⟨l, m, c, hl, hc, r.1, r.2.1, r.2.2.1, r.2.2.2, hv⟩
  · obtain ⟨l', m', p, k1, k2, k3, k4, k5, k6, k7⟩ := h i (by omega)
    have hm := k1.le
    refine ⟨l', m', p, k1, k2, ?_, ?_, ?_, ?_, fun t ht => ?_⟩
    · rw [h5.1 _ _ (by omega) (by omega) (by omega)]; exact k3
    · rw [h6.1 _ _ (by omega) (by omega) (by omega)]; exact k4
    · rw [h5.1 _ _ (by omega) (by omega) (by omega)]; exact k5
    · rw [h6.1 _ _ (by omega) (by omega) (by omega)]; exact k6
    · obtain ⟨v, w1, w2, w3⟩ := k7 t ht
      exact ⟨v, w1, by rw [h5.1 _ _ (by omega) (by omega) (by omega)]; exact w2, by rw [h6.1 _ _ (by omega) (by omega) (by omega)]; exact w3⟩
section STM
variable {d n q c : Nat} {σ τ : ST}
/-- a statement begins with a letter -/
theorem stm_start (h : RD d n c σ τ) (hc : c < n) (hq : q < 34) (e3 : σ.1 18 3 = nI q) (e1 : σ.1 18 1 = 6) (e0 : σ.1 18 0 = 34) (e28 : τ.1 36 28 = nI q) (l : Int32) : ∃ σ3 T3, PR d n q c l σ τ 0 (c + 1) σ3 T3 ∧
    fX2_takesStatement_46 (20 + 2 * d) (σ.1 4 1) l σ = (if l = 115 then bI (fX2_takesDigit (20 + 2 * d) (nI q) σ3) fun a7 σ7 => if a7 = 0 then fX2_takesStatement_149 (20 + 2 * d) σ7 else bI (fX2_takes (20 + 2 * d) 32 σ7) fun a8 σ8 => if a8 = 0 then fX2_takesStatement_149 (20 + 2 * d) σ8 else bI (fX2_takesNumber (20 + 2 * d) (nI q) 3 σ8) fun a9 σ9 => if a9 = 0 then fX2_takesStatement_149 (20 + 2 * d) σ9 else bI (fX2_takes (20 + 2 * d) 32 σ9) fun a10 σ10 => if a10 = 0 then fX2_takesStatement_149 (20 + 2 * d) σ10 else bI (fX2_takesNumber (20 + 2 * d) (nI q) 4 σ10) fun a11 σ11 => if a11 = 0 then fX2_takesStatement_149 (20 + 2 * d) σ11 else fX2_takesStatement_150 (20 + 2 * d) 1 σ11
      else if l = 109 then fX2_takesStatement_167 (20 + 2 * d) (nI q) σ3 else if l = 120 then fX2_takesStatement_167 (20 + 2 * d) (nI q) σ3 else bI (fX2_takesNumber (20 + 2 * d) (nI q) 2 σ3) fun a4 σ4 => fX2_takesStatement_237 (20 + 2 * d) a4 σ4) ∧
    fX6_readStatement_47 l (4 * (τ.1 36 28)) τ = (if l = 115 then bI (fX6_readDigit T3) fun a2 σ2 => fX6_readStatement_128 l (nI (4 * q)) (nI (4 * q)) a2 σ2 else bI (fX6_readNumber T3) fun a1 σ1 => fX6_readStatement_128 l (nI (4 * q)) (nI (4 * q)) a1 σ1) := by
  have e5 : σ.1 4 1 = nI c := h.2.2.2.1
  have e6 : τ.1 36 26 = nI c := h.2.2.2.2.1
  have eb : τ.1 36 27 = 0 := h.2.2.2.2.2.1
  let s1 := setI σ 4 1 (nI (c + 1))
  let s2' := opn s1 18 q 6 6
  let s3 := setI (setI s2' 19 (6 * q + 0) (nI c)) 19 (6 * q + 1) l
  let T3 := setI (setI (setI τ 54 q (nI c)) 55 q l) 36 26 (nI (c + 1))
  have os : ∀ k j, k ≠ 19 → ¬ (k = 18 ∧ j = 3) → s2'.1 k j = s1.1 k j := fun k j h1 h2 => by
    show (if k = 18 + 1 ∧ 6 * q ≤ j ∧ j < 6 * q + 6 then 0 else if k = 18 ∧ j = 3 then nI (q + 1) else s1.1 k j) = _
    rw [if_neg (by omega), if_neg h2]
  have o3 : s2'.1 18 3 = nI (q + 1) := by
    show (if 18 = 18 + 1 ∧ 6 * q ≤ 3 ∧ 3 < 6 * q + 6 then 0 else if 18 = 18 ∧ 3 = 3 then nI (q + 1) else s1.1 18 3) = _
    rw [if_neg (by omega), if_pos ⟨rfl, rfl⟩]
  have o19 : ∀ j, s2'.1 19 j = if 6 * q ≤ j ∧ j < 6 * q + 6 then 0 else σ.1 19 j := fun j => by
    show (if 19 = 18 + 1 ∧ 6 * q ≤ j ∧ j < 6 * q + 6 then 0 else if 19 = 18 ∧ j = 3 then nI (q + 1) else s1.1 19 j) = _
    by_cases w : 6 * q ≤ j ∧ j < 6 * q + 6
    · rw [if_pos ⟨rfl, w⟩, if_pos w]
    · rw [if_neg (fun e => w e.2), if_neg (by omega), if_neg w]
      show (setI σ 4 1 (nI (c + 1))).1 19 j = _
      rw [sg, if_neg (by omega)]
  have o1 : s2'.1 18 1 = 6 := by
    rw [os _ _ (by omega) (by omega)]
    show (setI σ 4 1 (nI (c + 1))).1 18 1 = _
    rw [sg, if_neg (by omega)]; exact e1
  have m3 : ∀ k j, k ≠ 19 → s3.1 k j = s2'.1 k j := fun k j h1 => by
    show (setI (setI s2' 19 (6 * q + 0) (nI c)) 19 (6 * q + 1) l).1 k j = _
    rw [sg, if_neg (by omega), sg, if_neg (by omega)]
  have w3 : ∀ j, s3.1 19 j = if j = 6 * q + 1 then l else if j = 6 * q then nI c else if 6 * q ≤ j ∧ j < 6 * q + 6 then 0 else σ.1 19 j := fun j => by
    show (setI (setI s2' 19 (6 * q + 0) (nI c)) 19 (6 * q + 1) l).1 19 j = _
    rw [sg, sg, o19]
    simp only [true_and, Nat.add_zero]
  have oT : ∀ k j, ¬ (k = 36 ∧ j = 26) → ¬ ((k = 54 ∨ k = 55) ∧ j = q) → T3.1 k j = τ.1 k j := fun k j h1 h2 => by
    show (setI (setI (setI τ 54 q (nI c)) 55 q l) 36 26 (nI (c + 1))).1 k j = _
    rw [sg, if_neg (by omega), sg, if_neg (by omega), sg, if_neg (by omega)]
  have s41 : s1.1 4 1 = nI (c + 1) := by
    show (setI σ 4 1 (nI (c + 1))).1 4 1 = _
    rw [sg, if_pos ⟨rfl, rfl⟩]
  have sO : ∀ k j, ¬ (k = 4 ∧ j = 1) → s1.1 k j = σ.1 k j := fun k j h1 => by
    show (setI σ 4 1 (nI (c + 1))).1 k j = _
    rw [sg, if_neg h1]
  have t26 : T3.1 36 26 = nI (c + 1) := by
    show (setI (setI (setI τ 54 q (nI c)) 55 q l) 36 26 (nI (c + 1))).1 36 26 = _
    rw [sg, if_pos ⟨rfl, rfl⟩]
  refine ⟨s3, T3, ⟨h.mv hc ?_ t26 (fun k j hk => ?_) (fun j hj => oT _ _ (by omega) (by omega)) rfl, ⟨hq, ?_, ?_, ?_⟩, ⟨fun k j h1 h2 h3 => ?_, rfl⟩, ⟨fun k j h1 h2 h3 => oT k j (by omega) (by omega), rfl⟩, ⟨?_, ?_, ?_, ?_⟩, fun i hi => by omega, fun i _ hi => ?_⟩, ?_, ?_⟩
  · rw [m3 _ _ (by omega), os _ _ (by omega) (by omega)]; exact s41
  · by_cases w : k = 19
    · omega
    · rw [m3 _ _ w, os _ _ w (by omega), sO _ _ (by omega)]
  · rw [m3 _ _ (by omega)]; exact o3
  · rw [m3 _ _ (by omega)]; exact o1
  · rw [oT _ _ (by omega) (by omega)]; exact e28
  · by_cases w : k = 19
    · subst w
      rw [w3, if_neg (by omega), if_neg (by omega), if_neg (by omega)]
    · rw [m3 _ _ w, os _ _ w h3, sO _ _ (by omega)]
  · rw [w3, if_neg (by omega), if_pos rfl]
  · show (setI (setI (setI τ 54 q (nI c)) 55 q l) 36 26 (nI (c + 1))).1 54 q = _
    rw [sg, if_neg (by omega), sg, if_neg (by omega), sg, if_pos ⟨rfl, rfl⟩]
  · rw [w3, if_pos rfl]
  · show (setI (setI (setI τ 54 q (nI c)) 55 q l) 36 26 (nI (c + 1))).1 55 q = _
    rw [sg, if_neg (by omega), sg, if_pos ⟨rfl, rfl⟩]
  · rw [w3, if_neg (by omega), if_neg (by omega), if_pos (by omega)]
  · unfold fX2_takesStatement_46
    rw [e5, nI_1, show fX4_open 18 (setI σ 4 1 (nI (c + 1))) = some (nI q, s2') from op (w := 6) (m := 34) ((sO 18 3 (by omega)).trans e3) ((sO 18 1 (by omega)).trans e1) ((sO 18 0 (by omega)).trans e0) hq (by rw [al_19]; omega) (by omega) (by omega) (by rw [al_19]; omega), bI_t]
    rw [wrS (q := q) (x2 := 0) (c := 0) o3 o1 (by omega) (by omega) (by omega) rfl, bR_t]
    rw [wrS (q := q) (x2 := 1) (c := 1) (by rw [sg, if_neg (by omega)]; exact o3) (by rw [sg, if_neg (by omega)]; exact o1) (by omega) (by omega) (by omega) rfl, bR_t]
  · unfold fX6_readStatement_47 fX6_readStatement_48
    have ee : setI τ 36 27 0 = τ := by rw [← eb, set_self]
    rw [ee]
    show gd true (gd (inb (τ.1 36 28) 50) (gd (inb (τ.1 36 28) 50) (if τ.1 36 27 = 0 then fX6_readStatement_91 l (4 * τ.1 36 28) (τ.1 36 26) 1 (setI (setI τ 54 ((τ.1 36 28).toNatClampNeg) (τ.1 36 26)) 55 ((τ.1 36 28).toNatClampNeg) l) else fX6_readStatement_91 l (4 * τ.1 36 28) (τ.1 36 26) 0 (setI (setI τ 54 ((τ.1 36 28).toNatClampNeg) (τ.1 36 26)) 55 ((τ.1 36 28).toNatClampNeg) l)))) = _
    rw [e28, inb_t (show q < 50 by omega) (by decide), gd_t, gd_t, gd_t, eb, if_pos rfl, e6, nI_clamp (show q < 2 ^ 31 by omega), show (4 : Int32) = nI 4 from rfl, pk_mul]
    unfold fX6_readStatement_91
    rw [nI_1]
    have t27 : (setI (setI (setI τ 54 q (nI c)) 55 q l) 36 26 (nI (c + 1))).1 36 27 = 0 := (oT 36 27 (by omega) (by omega)).trans eb
    rw [if_pos t27]
theorem stm (h : RD d n c σ τ) (hq : q < 34) (e3 : σ.1 18 3 = nI q) (e1 : σ.1 18 1 = 6) (e0 : σ.1 18 0 = 34) (e28 : τ.1 36 28 = nI q) : ∃ l m ok σ' τ', LET l m ∧ fX2_takesStatement (20 + 2 * d) σ = some (ok, σ') ∧ fX6_readStatement τ = some τ' ∧ OUT d n q c l σ τ m ok σ' τ' := by
  have e5 : σ.1 4 1 = nI c := h.2.2.2.1
  have e6 : τ.1 36 26 = nI c := h.2.2.2.2.1
  unfold fX2_takesStatement fX6_readStatement
  rw [h.here5, bR_t, h.here6, bR_t]
  rcases h.chr (x := 115) (by decide) (by decide) with ⟨w5, w6, hc⟩ | ⟨u1, v1⟩
  · obtain ⟨s3, T3, hP, g1, g2⟩ := stm_start h hc hq e3 e1 e0 e28 115
    obtain ⟨ok, σ', τ', k1, k2, k3⟩ := hP.sender
    rw [w5, w6, if_pos rfl, if_pos rfl, g1, g2, if_pos rfl, if_pos rfl]
    exact ⟨115, 3, ok, σ', τ', Or.inl ⟨rfl, rfl⟩, k1, k2, k3⟩
  rw [if_neg u1, if_neg v1]
  have ret : ∀ l, (l = 109 ∨ l = 120) → c < n → ∃ l' m ok σ' τ', LET l' m ∧ fX2_takesStatement_46 (20 + 2 * d) (σ.1 4 1) l σ = some (ok, σ') ∧ fX6_readStatement_47 l (4 * (τ.1 36 28)) τ = some τ' ∧ OUT d n q c l' σ τ m ok σ' τ' := fun l hl hc => by
    obtain ⟨s3, T3, hP, g1, g2⟩ := stm_start h hc hq e3 e1 e0 e28 l
    have n1 : ¬ l = 115 := by rcases hl with rfl | rfl <;> decide
    obtain ⟨ok, σ', τ', k1, k2, k3⟩ := hP.returner n1 hl
    refine ⟨l, 4, ok, σ', τ', Or.inr (Or.inl ⟨hl, rfl⟩), ?_, ?_, k3⟩
    · rw [g1, if_neg n1]
      rcases hl with rfl | rfl
      · rw [if_pos rfl]; exact k1
      · rw [if_neg (by decide), if_pos rfl]; exact k1
    · rw [g2, if_neg n1]; exact k2
  have sett : ∀ l, (l = 99 ∨ l = 116) → c < n → ∃ l' m ok σ' τ', LET l' m ∧ fX2_takesStatement_46 (20 + 2 * d) (σ.1 4 1) l σ = some (ok, σ') ∧ fX6_readStatement_47 l (4 * (τ.1 36 28)) τ = some τ' ∧ OUT d n q c l' σ τ m ok σ' τ' := fun l hl hc => by
    obtain ⟨s3, T3, hP, g1, g2⟩ := stm_start h hc hq e3 e1 e0 e28 l
    have n1 : ¬ l = 115 := by rcases hl with rfl | rfl <;> decide
    have n2 : ¬ l = 109 := by rcases hl with rfl | rfl <;> decide
    have n3 : ¬ l = 120 := by rcases hl with rfl | rfl <;> decide
    obtain ⟨ok, σ', τ', k1, k2, k3⟩ := hP.setting n1 n2 n3
    refine ⟨l, 1, ok, σ', τ', Or.inr (Or.inr ⟨hl, rfl⟩), ?_, ?_, k3⟩
    · rw [g1, if_neg n1, if_neg n2, if_neg n3]; exact k1
    · rw [g2, if_neg n1]; exact k2
  rcases h.chr (x := 109) (by decide) (by decide) with ⟨w5, w6, hc⟩ | ⟨u2, v2⟩
  · rw [w5, w6, if_pos rfl, if_pos rfl]; exact ret 109 (Or.inl rfl) hc
  rw [if_neg u2, if_neg v2]
  rcases h.chr (x := 120) (by decide) (by decide) with ⟨w5, w6, hc⟩ | ⟨u3, v3⟩
  · rw [w5, w6, if_pos rfl, if_pos rfl]; exact ret 120 (Or.inr rfl) hc
  rw [if_neg u3, if_neg v3]
  rcases h.chr (x := 99) (by decide) (by decide) with ⟨w5, w6, hc⟩ | ⟨u4, v4⟩
  · rw [w5, w6, if_pos rfl, if_pos rfl]; exact sett 99 (Or.inl rfl) hc
  rw [if_neg u4, if_neg v4]
  rcases h.chr (x := 116) (by decide) (by decide) with ⟨w5, w6, hc⟩ | ⟨u5, v5⟩
  · rw [w5, w6, if_pos rfl, if_pos rfl]; exact sett 116 (Or.inr rfl) hc
  rw [if_neg u5, if_neg v5]
  unfold fX6_readStatement_48
  generalize b6 d n σ c = l
  show ∃ l' m ok σ' τ', LET l' m ∧ some ((0 : Int32), σ) = some (ok, σ') ∧ gd true (gd (inb (τ.1 36 28) 50) (gd (inb (τ.1 36 28) 50) (if (1 : Int32) = 0 then fX6_readStatement_91 l (4 * τ.1 36 28) (τ.1 36 26) 1 (setI (setI (setI τ 36 27 1) 54 ((τ.1 36 28).toNatClampNeg) (τ.1 36 26)) 55 ((τ.1 36 28).toNatClampNeg) l) else fX6_readStatement_91 l (4 * τ.1 36 28) (τ.1 36 26) 0 (setI (setI (setI τ 36 27 1) 54 ((τ.1 36 28).toNatClampNeg) (τ.1 36 26)) 55 ((τ.1 36 28).toNatClampNeg) l)))) = some τ' ∧ OUT d n q c l' σ τ m ok σ' τ'
  rw [e28, inb_t (show q < 50 by omega) (by decide), gd_t, gd_t, gd_t, if_neg h10, e6, nI_clamp (show q < 2 ^ 31 by omega), show (4 : Int32) = nI 4 from rfl, pk_mul]
  have hf : FL q σ τ σ (setI (setI (setI τ 36 27 1) 54 q (nI c)) 55 q l) := by
    have hn := h.2.1
    have hcn := h.2.2.1
    refine ⟨⟨fun _ _ _ _ _ => rfl, rfl⟩, ⟨fun k j h1 h2 h3 => ?_, rfl⟩, ?_, c, by omega, e5, ?_⟩
    · rw [sg, if_neg (by omega), sg, if_neg (by omega), sg, if_neg (by omega)]
    · rw [sg, if_neg (by omega), sg, if_neg (by omega), sg, if_pos ⟨rfl, rfl⟩]
    · rw [sg, if_neg (by omega), sg, if_neg (by omega), sg, if_neg (by omega)]; exact e6
  have e26 : (setI (setI (setI τ 36 27 1) 54 q (nI c)) 55 q l).1 36 26 = nI c := by
    rw [sg, if_neg (by omega), sg, if_neg (by omega), sg, if_neg (by omega)]; exact e6
  generalize setI (setI (setI τ 36 27 1) 54 q (nI c)) 55 q l = T at hf e26 ⊢
  unfold fX6_readStatement_91
  rw [Int32.add_zero, ← e26, set_self, hf.2.2.1, if_neg h10]
  obtain ⟨τ', g1, g2⟩ := hf.e128 hq l 0
  exact ⟨115, 3, 0, σ, τ', Or.inl ⟨rfl, rfl⟩, rfl, g1, Or.inr ⟨rfl, g2⟩⟩
end STM
/-- the whole text -/
theorem reading {d n : Nat} : ∀ (m q c f f' : Nat) (σ τ : ST), q + m = 34 → RD d n c σ τ → 3 * q ≤ c → (q = 0 → 0 < n ∧ c = 0) → TB q σ τ → σ.1 18 3 = nI q → σ.1 18 1 = 6 → σ.1 18 0 = 34 → τ.1 36 28 = nI q → m < f → m < f' → ∃ ok σ' τ', fX2_takesIn_28 f (20 + 2 * d) 1 (nI q) σ = some (ok, σ') ∧ fX6_room_76 f' τ = fX6_room_108 τ' ∧ S5 0 σ σ' ∧ S6 0 τ τ' ∧
    ((ok = 1 ∧ τ'.1 36 27 = 0 ∧ ∃ Q, 0 < Q ∧ Q ≤ 34 ∧ TB Q σ' τ' ∧ σ'.1 18 3 = nI Q ∧ τ'.1 36 28 = nI Q) ∨ (ok = 0 ∧ τ'.1 36 27 = 1 ∧ ∃ c, c ≤ 100 ∧ σ'.1 4 1 = nI c ∧ τ'.1 36 26 = nI c))
  | m, q, c, f + 1, f' + 1, σ, τ, hm, h, hqc, h0, hT, e3, e1, e0, e28, hf, hf' => by
    have hd := h.1
    have hn := h.2.1
    have hc := h.2.2.1
    have e5 : σ.1 4 1 = nI c := h.2.2.2.1
    have e6 : τ.1 36 26 = nI c := h.2.2.2.2.1
    have eb : τ.1 36 27 = 0 := h.2.2.2.2.2.1
    have e25 : τ.1 36 25 = nI n := h.2.2.2.2.2.2.2.1
    have es : σ.1 (20 + 2 * d) 6 = nI n := h.2.2.2.2.2.2.2.2.1
    have n34 : ¬ (34 : Int32) ≤ nI q := nI_ge (b := 34) (by omega) (by decide)
    rw [fX2_takesIn_28, if_neg n34, if_neg h10, es, e5, fX6_room_76, eb, if_pos rfl, e28, e25, e6]
    by_cases hcn : c = n
    · have hq0 : 0 < q := by
        rcases Nat.eq_zero_or_pos q with e | e
        · have := h0 e; omega
        · exact e
      rw [if_pos (nI_le (by omega) (by omega)), if_neg (nI_ne0 hq0 (by omega)), if_pos (nI_le (by omega) (by omega))]
      exact ⟨1, σ, τ, rfl, rfl, ⟨fun _ _ _ _ _ => rfl, rfl⟩, ⟨fun _ _ _ _ _ => rfl, rfl⟩, Or.inl ⟨rfl, eb, q, hq0, by omega, hT, e3, e28⟩⟩
    · obtain ⟨l, k, ok, σ1, τ1, hl, g1, g2, g3⟩ := stm h (show q < 34 by omega) e3 e1 e0 e28
      rw [if_neg (nI_ge (show c < n by omega) (by omega)), g1, bI_t, if_neg (nI_ge (show c < n by omega) (by omega))]
      have e101 : (if nI q = 0 then fX6_room_101 (fX6_room_76 f') τ else fX6_room_101 (fX6_room_76 f') τ) = fX6_room_76 f' τ1 := by
        rw [ite_self]
        unfold fX6_room_101
        rw [g2, bR_t]
      rw [e101, nI_1]
      rcases g3 with ⟨rfl, c', w1, w2, w3, w4, w5, w6, w7, w8⟩ | ⟨rfl, w1, w2, w3, c', w4, w5, w6⟩
      · have hc' := w2.2.2.1
        rcases m with _ | m
        · omega
        obtain ⟨ok, σ', τ', j1, j2, j3, j4, j5⟩ := reading m (q + 1) c' f f' σ1 τ1 (by omega) w2 (by omega) (fun e => by omega) (hT.more w5 w6 hl (by omega) w7 w8) w3 ((w5.1 18 1 (by omega) (by omega) (by omega)).trans e1) ((w5.1 18 0 (by omega) (by omega) (by omega)).trans e0) w4 (by omega) (by omega)
        exact ⟨ok, σ', τ', j1, j2, w5.z.tr j3, w6.z.tr j4, j5⟩
      · rcases f with _ | f
        · omega
        rcases f' with _ | f'
        · omega
        refine ⟨0, σ1, τ1, ?_, ?_, w1.z, w2.z, Or.inr ⟨rfl, w3, c', w4, w5, w6⟩⟩
        · rw [fX2_takesIn_28, if_pos (show (0 : Int32) = 0 from rfl), ite_self]; rfl
        · rw [fX6_room_76, w3, if_neg h10]
