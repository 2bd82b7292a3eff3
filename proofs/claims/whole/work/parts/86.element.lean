theorem al_el {d : Nat} (hd : d < 8) : alen (20 + 2 * d + 1) = 100 := (show ∀ d, d < 8 → alen (20 + 2 * d + 1) = 100 by decide) d hd
theorem has_el {d n : Nat} {σ : ST} (τ : ST) (hd : d < 8) (hn : n ≤ 100) (hs : σ.1 (20 + 2 * d) 6 = nI n) (x : Int32) : (fX3_has (20 + 2 * d) x σ = some 0 ∧ fX6_in x.toInt64 0 (nI n - 1).toInt64 τ = some 0) ∨ ∃ i, i < n ∧ x = nI i ∧ fX3_has (20 + 2 * d) x σ = some 1 ∧ fX6_in x.toInt64 0 (nI n - 1).toInt64 τ = some 1 := by
  have e3 : fX6_in x.toInt64 0 (nI n - 1).toInt64 τ = some (if 0 ≤ x ∧ x ≤ nI n - 1 then 1 else 0) := in_i x 0 (nI n - 1) τ
  unfold fX3_has fX3_has_25
  rw [hs, al_el hd]
  rcases pk_ix x (show n < 2 ^ 31 by omega) with h | h | ⟨i, hi, rfl⟩
  · left
    rw [if_neg (fun hh => absurd h (Int32.not_lt.mpr hh.1))] at e3
    exact ⟨by rw [if_pos h]; rfl, e3⟩
  · left
    have : ¬ (0 ≤ x ∧ x ≤ nI n - 1) := by
      match n, hn, h with
      | 0, _, _ => exact fun hh => absurd (Int32.le_trans hh.1 hh.2) (by decide)
      | n + 1, _, h1 =>
        rw [nI_pred]
        exact fun hh => nI_ge (show n < n + 1 by omega) (by omega) (Int32.le_trans h1 hh.2)
    rw [if_neg this] at e3
    refine ⟨?_, e3⟩
    by_cases h0 : x < 0
    · rw [if_pos h0]; rfl
    · rw [if_neg h0, if_pos h]; rfl
  · right
    refine ⟨i, hi, rfl, ?_, ?_⟩
    · rw [if_neg (nI_pos (by omega)), if_neg (nI_ge hi (by omega)), if_neg (show ¬ Int32.ofNat 100 ≤ nI i from nI_ge (show i < 100 by omega) (by decide))]
      rfl
    · match n, hn, hi, e3 with
      | n + 1, _, hi, e3 =>
        rw [nI_pred, if_pos ⟨nI_pos' (by omega), nI_le (by omega) (by omega)⟩] at e3
        rw [nI_pred]; exact e3
theorem read_el {d n i : Nat} {σ : ST} (hd : d < 8) (hn : n ≤ 100) (hs : σ.1 (20 + 2 * d) 6 = nI n) (hi : i < n) : fX3_read (20 + 2 * d) (nI i) σ = some (σ.1 (21 + 2 * d) i) := by
  unfold fX3_read
  rcases has_el σ hd hn hs (nI i) with ⟨h, -⟩ | ⟨j, hj, e, h, -⟩
  · exfalso
    unfold fX3_has fX3_has_25 at h
    rw [hs, al_el hd, if_neg (nI_pos (by omega)), if_neg (nI_ge hi (by omega)), if_neg (show ¬ Int32.ofNat 100 ≤ nI i from nI_ge (show i < 100 by omega) (by decide))] at h
    have h' : (some 1 : Option Int32) = some 0 := h
    exact absurd h' (by decide)
  · rw [h, bR_t, if_neg h10, al_el hd, inb_t (show i < 100 by omega) (by decide), gd_t, nI_clamp (by omega), show 20 + 2 * d + 1 = 21 + 2 * d by omega]
    rfl
theorem ix800 {d i : Nat} (hd : d < 8) (hi : i < 100) : inb (100 * nI d + nI i) 800 = true ∧ (100 * nI d + nI i).toNatClampNeg = 100 * d + i := by
  rw [show (100 : Int32) = nI 100 from rfl, pk_mul, nI_add, nI_clamp (by omega)]
  exact ⟨inb_t (by omega) (by decide), rfl⟩
/-- what a call of element answers on both sides -/
theorem el_c (x1 x2 : Int32) {σ τ : ST} (hI : INV σ τ) : ∃ a v τ', fL_element x1 x2 σ = some (a, if a = 0 then setL σ 67 0 v else σ) ∧ fX6_element x1 x2 τ = some (if a = 0 then v else 0, τ') ∧ τ' = setI τ 36 23 a := by
  unfold fL_element fX5_el fX6_element fX6_element_38 fX6_element_43 fX6_element_68
  rcases shelf_c x1 σ τ with ⟨a1, a2⟩ | ⟨d, hd, rfl, a1, a2⟩
  · have w : fX6_wrongRow x1 τ = some (-1) := by unfold fX6_wrongRow; rw [a2]; rfl
    exact ⟨1, 0, setI τ 36 23 1, by rw [a1]; rfl, by rw [w, bR_t, if_pos rfl]; rfl, rfl⟩
  have hS := hI.sh d hd
  have i8 : inb (nI d) 8 = true := inb_t hd (by decide)
  rcases row_c hd hS with ⟨h2, e1, e2⟩ | ⟨v, hv, hne, e1, e2⟩
  · obtain ⟨r1, r2, r3, r4, r5, r6⟩ := hS.r h2
    obtain ⟨n, hn, en⟩ := rg_n (n := 100) (by decide) r4
    rw [a1, bR_t, e2, bR_t, if_neg (show ¬ (0 : Int32) = -1 by decide), if_neg (show ¬ (0 : Int32) < 0 by decide), al_64, i8, gd_t, nI_clamp (by omega), r3, en]
    show ∃ a v τ', (bR (if σ.1 (20 + 2 * d) 0 = 2 then bR (fX3_has (20 + 2 * d) x2 σ) fun a => if a = 0 then some (2, 0) else bR (fX3_read (20 + 2 * d) x2 σ) fun v => some (0, v.toInt64) else some (2, 0)) fun cv => if cv.1 = 0 then some (0, setL σ 67 (0 : Int32).toNatClampNeg cv.2) else if cv.1 = 1 then some (1, σ) else some (2, σ)) = _ ∧ _
    rw [if_pos h2]
    rcases has_el τ hd hn en x2 with ⟨g1, g2⟩ | ⟨i, hi, rfl, g1, g2⟩
    · exact ⟨2, 0, setI τ 36 23 2, by rw [g1]; rfl, by rw [g2, bR_t, if_pos rfl]; rfl, rfl⟩
    · obtain ⟨j1, j2⟩ := ix800 hd (show i < 100 by omega)
      refine ⟨0, (σ.1 (21 + 2 * d) i).toInt64, setI τ 36 23 0, ?_, ?_, rfl⟩
      · rw [g1, bR_t, if_neg h10, read_el hd hn en hi]; rfl
      · rw [g2, bR_t, if_neg h10, al_65, j1, gd_t, j2, if_pos (show (setI τ 36 23 0).1 36 23 ≤ 0 from (show (0 : Int32) ≤ 0 by decide)), if_pos rfl]
        show some (τ.2 65 (100 * d + i), _) = _
        rw [r5 i (by omega)]
  · have hw : ¬ v = -1 ∧ v < 0 := by rcases hv with rfl | rfl <;> decide
    refine ⟨2, 0, setI τ 36 23 2, ?_, ?_, rfl⟩
    · rw [a1, bR_t]
      show (bR (if σ.1 (20 + 2 * d) 0 = 2 then _ else some (2, 0)) fun cv => if cv.1 = 0 then some (0, setL σ 67 (0 : Int32).toNatClampNeg cv.2) else if cv.1 = 1 then some (1, σ) else some (2, σ)) = _
      rw [if_neg hne]; rfl
    · rw [e2, bR_t, if_neg hw.1, if_pos hw.2]; rfl
