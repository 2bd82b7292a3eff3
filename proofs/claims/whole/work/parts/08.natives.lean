/-! THE JDK's own: Math.min, Math.abs, System.arraycopy. -/
def okCpy (sp dp n : Int32) (n0 n1 : Nat) : Bool := decide (0 ≤ sp) && (decide (0 ≤ dp) && (decide (0 ≤ n) && (decide (sp.toNatClampNeg + n.toNatClampNeg ≤ n0) && decide (dp.toNatClampNeg + n.toNatClampNeg ≤ n1))))
theorem jw_min : Jvm.Cond.static Lib.Math.min.name ∈ AW ∧ Jvm.Cond.initialized "java/lang/Math" ∈ AW ∧ Jvm.Cond.code Lib.Math.min.name Lib.Math.min.code 2 (some .int) ∈ AW := ⟨aw_of (i := 466) (by decide +kernel) (by decide +kernel), aw_of (i := 85) (by decide +kernel) (by decide +kernel), aw_of (i := 467) (by decide +kernel) (by decide +kernel)⟩
theorem jw_abs : Jvm.Cond.static Lib.Math.abs.name ∈ AW ∧ Jvm.Cond.code Lib.Math.abs.name Lib.Math.abs.code 1 (some .int) ∈ AW := ⟨aw_of (i := 605) (by decide +kernel) (by decide +kernel), aw_of (i := 606) (by decide +kernel) (by decide +kernel)⟩
theorem jw_cpy : Jvm.Cond.static arraycopyName ∈ AW ∧ Jvm.Cond.native arraycopyName ∈ AW ∧ Jvm.Cond.initialized "java/lang/System" ∈ AW := ⟨aw_of (i := 621) (by decide +kernel) (by decide +kernel), aw_of (i := 622) (by decide +kernel) (by decide +kernel), aw_of (i := 90) (by decide +kernel) (by decide +kernel)⟩
theorem jw_l42 : Jvm.Cond.methodLink (RN 1) 40 Lib.Math.min.name ∈ AW := aw_of (i := 465) (by decide +kernel) (by decide +kernel)
theorem jw_l39 : Jvm.Cond.methodLink (RN 4) 39 Lib.Math.min.name ∈ AW := aw_of (i := 619) (by decide +kernel) (by decide +kernel)
theorem jw_l298 : Jvm.Cond.methodLink (RN 5) 298 Lib.Math.abs.name ∈ AW := aw_of (i := 604) (by decide +kernel) (by decide +kernel)
theorem jw_lc4 : Jvm.Cond.methodLink (RN 4) 42 arraycopyName ∈ AW := aw_of (i := 620) (by decide +kernel) (by decide +kernel)
theorem jw_lc5 : Jvm.Cond.methodLink (RN 5) 242 arraycopyName ∈ AW := aw_of (i := 664) (by decide +kernel) (by decide +kernel)
section NAT
variable {l : Launch} {ow nL fr lo pc : Nat} {cc : ByteArray} {V : Nat → List (Option Value) → List Value → ST → Prop} {ls : List (Option Value)} {rest : List Value} {σ : ST}
theorem BD.mmin (h : BD l ow cc nL fr lo V) {idx : Nat} {x y : Int32} (hlk : Jvm.Cond.methodLink (RN ow) idx Lib.Math.min.name ∈ AW) (hd : decode cc pc = .ok (.invokestatic idx, 3)) (hfr : 1 ≤ fr) (hlo : (rest.map fun v => v.category).sum + 13 ≤ lo) (k : V (pc + 3) ls (.int (if y < x then y else x) :: rest) σ) : V pc ls (.int y :: .int x :: rest) σ := by
  obtain ⟨p, e, R, s, m, args, below, meth, c, cells, slots, Q, D, q, cA, A, ⟨hx, hb, hml, hown, hts, hK, hA⟩, rfl, rfl, hcs, hss, rfl⟩ := h
  intro H locs lsA hP hD hS hL
  exact va_mmin hx hb (by rw [hml, hL.2.1]) hown (hts _ hlk) (hts _ jw_min.1) (hts _ jw_min.2.1) (hts _ jw_min.2.2) hfr (by rw [rest_cat]; exact hlo) hcs hss hd (k H locs lsA hP hD hS hL)
theorem BD.mabs (h : BD l ow cc nL fr lo V) {idx : Nat} {x : Int32} (hlk : Jvm.Cond.methodLink (RN ow) idx Lib.Math.abs.name ∈ AW) (hd : decode cc pc = .ok (.invokestatic idx, 3)) (hfr : 1 ≤ fr) (hlo : (rest.map fun v => v.category).sum + 13 ≤ lo) (k : V (pc + 3) ls (.int (if 0 ≤ x then x else 0 - x) :: rest) σ) : V pc ls (.int x :: rest) σ := by
  obtain ⟨p, e, R, s, m, args, below, meth, c, cells, slots, Q, D, q, cA, A, ⟨hx, hb, hml, hown, hts, hK, hA⟩, rfl, rfl, hcs, hss, rfl⟩ := h
  intro H locs lsA hP hD hS hL
  exact va_mabs hx hb (by rw [hml, hL.2.1]) hown (hts _ hlk) (hts _ jw_abs.1) (hts _ jw_min.2.1) (hts _ jw_abs.2) hfr (by rw [rest_cat]; exact hlo) hcs hss hd (k H locs lsA hP hD hS hL)
theorem cpy_words : nativeFrameWords "java/lang/System" "arraycopy" 5 + 11 ≤ 40 := by decide +kernel
theorem BD.cpy (h : BD l ow cc nL fr lo V) {idx a0 a1 : Nat} {sp dp n : Int32} (hlk : Jvm.Cond.methodLink (RN ow) idx arraycopyName ∈ AW) (hd : decode cc pc = .ok (.invokestatic idx, 3)) (h0 : kd a0 = 10) (h1 : kd a1 = 10) (hok : okCpy sp dp n (alen a0) (alen a1) = true) (hfr : 1 ≤ fr) (hlo : (rest.map fun v => v.category).sum + 40 ≤ lo)
    (k : V (pc + 3) ls rest (cpyI σ a0 a1 sp.toNatClampNeg dp.toNatClampNeg n.toNatClampNeg)) : V pc ls (.int n :: .int dp :: .ref a1 :: .int sp :: .ref a0 :: rest) σ := by
  obtain ⟨p, e, R, s, m, args, below, meth, c, cells, slots, Q, D, q, cA, A, ⟨hx, hb, hml, hown, hts, hK, hA⟩, rfl, rfl, hcs, hss, rfl⟩ := h
  simp only [okCpy, Bool.and_eq_true, decide_eq_true_eq] at hok
  obtain ⟨c1, c2, c3, c4, c5⟩ := hok
  intro H locs lsA hP hD hS hL
  have e0 : (wG q cA σ)[a0]? = some (q a0, .inl (cA 0, alen a0, .inl (σ.1 a0))) := by rw [wG_at (kd_lt (by omega)), cellG_I h0]
  have e1 : (wG q cA σ)[a1]? = some (q a1, .inl (cA 0, alen a1, .inl (σ.1 a1))) := by rw [wG_at (kd_lt (by omega)), cellG_I h1]
  refine va_copyi hx hb (by rw [hml, hL.2.1]) hown (hts _ hlk) (hts _ jw_cpy.2.1) (hts _ jw_cpy.1) (hts _ jw_cpy.2.2) hK.1 hP hD hS a0 a1 0 0 e0 e1 rfl rfl rfl (Int32.not_lt.mpr c1) (Int32.not_lt.mpr c2) (Int32.not_lt.mpr c3) c4 c5 (fun i _ => rfl) hfr (by rw [rest_cat]; have := cpy_words; omega) hd (fun H1 locs1 hP1 hD1 hS1 => ?_)
  have hu : (cpyI σ a0 a1 sp.toNatClampNeg dp.toNatClampNeg n.toNatClampNeg).1 a1 = va_cpy (σ.1 a0) (σ.1 a1) sp.toNatClampNeg dp.toNatClampNeg n.toNatClampNeg := by funext b; simp [cpyI]
  rw [wG_set (σ := σ) (τ := cpyI σ a0 a1 sp.toNatClampNeg dp.toNatClampNeg n.toNatClampNeg) (kd_lt (by omega)) (by rw [cellG_I h1, hu]) (fun i hi => ⟨by funext b; simp [cpyI, hi], rfl⟩)] at hP1 hD1
  exact k H1 locs1 lsA hP1 hD1 hS1 hL
end NAT
