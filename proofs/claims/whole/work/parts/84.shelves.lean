theorem shelf_c (x : Int32) (σ τ : ST) : (fX5_shelfAt x σ = some none ∧ fX6_in x.toInt64 0 7 τ = some 0) ∨ ∃ d, d < 8 ∧ x = nI d ∧ fX5_shelfAt x σ = some (some (20 + 2 * d)) ∧ fX6_in x.toInt64 0 7 τ = some 1 := by
  have e3 : fX6_in x.toInt64 0 7 τ = some (if 0 ≤ x ∧ x ≤ 7 then 1 else 0) := in_i x 0 7 τ
  unfold fX5_shelfAt fX5_shelfAt_22
  rw [al_5]
  rcases pk_ix x (n := 8) (by decide) with h | h | ⟨d, hd, rfl⟩
  · left
    rw [if_neg (fun hh => absurd h (Int32.not_lt.mpr hh.1))] at e3
    exact ⟨by rw [if_pos h]; rfl, e3⟩
  · left
    rw [if_neg (fun hh => absurd (Int32.le_trans h hh.2) (by decide))] at e3
    refine ⟨?_, e3⟩
    by_cases h0 : x < 0
    · rw [if_pos h0]; rfl
    · rw [if_neg h0, if_pos (show Int32.ofNat 8 ≤ x from h)]; rfl
  · right
    rw [if_pos ⟨nI_pos' (by omega), nI_le (b := 7) (by omega) (by decide)⟩] at e3
    refine ⟨d, hd, rfl, ?_, e3⟩
    rw [if_neg (nI_pos (by omega)), if_neg (show ¬ Int32.ofNat 8 ≤ nI d from nI_ge hd (by decide)), inb_t hd (by decide), gd_t, nI_clamp (by omega)]
    rfl
theorem row_c {d : Nat} {σ τ : ST} (hd : d < 8) (h : SH d σ τ) : (σ.1 (20 + 2 * d) 0 = 2 ∧ fX3_refusalAsRow (20 + 2 * d) σ = some 0 ∧ fX6_wrongRow (nI d) τ = some 0) ∨ ∃ v, (v = -11 ∨ v = -12) ∧ ¬ σ.1 (20 + 2 * d) 0 = 2 ∧ fX3_refusalAsRow (20 + 2 * d) σ = some v ∧ fX6_wrongRow (nI d) τ = some v := by
  have i8 : inb (nI d) 8 = true := inb_t hd (by decide)
  have e3 : fX6_in (nI d).toInt64 0 7 τ = some (if 0 ≤ nI d ∧ nI d ≤ 7 then 1 else 0) := in_i (nI d) 0 7 τ
  rw [if_pos ⟨nI_pos' (by omega), nI_le (b := 7) (by omega) (by decide)⟩] at e3
  unfold fX3_refusalAsRow fX6_wrongRow
  rw [e3, bR_t, if_neg h10, al_58, i8, gd_t, gd_t, nI_clamp (by omega), h.h]
  rcases h.hr with hr | hr | hr
  · exact Or.inr ⟨-11, Or.inl rfl, by rw [hr]; decide, by rw [if_pos hr], by rw [if_pos hr]; rfl⟩
  · exact Or.inr ⟨-12, Or.inr rfl, by rw [hr]; decide, by rw [hr, if_neg h10, if_neg (show ¬ (1 : Int32) = 2 by decide)]; rfl, by rw [hr, if_neg h10, if_neg (show ¬ (1 : Int32) = 2 by decide)]; rfl⟩
  · exact Or.inl ⟨hr, by rw [hr, if_neg (show ¬ (2 : Int32) = 0 by decide), if_pos rfl]; rfl, by rw [hr, if_neg (show ¬ (2 : Int32) = 0 by decide), if_pos rfl]; rfl⟩
theorem snd_c {d : Nat} {σ τ : ST} (hd : d < 8) (h : SH d σ τ) : (σ.1 (20 + 2 * d) 0 = 1 ∧ fX3_refusalAsSender (20 + 2 * d) σ = some 0 ∧ fX6_wrongShelf (nI d) τ = some 0) ∨ ∃ v, (v = -11 ∨ v = -12) ∧ fX3_refusalAsSender (20 + 2 * d) σ = some v ∧ fX6_wrongShelf (nI d) τ = some v := by
  have i8 : inb (nI d) 8 = true := inb_t hd (by decide)
  have e3 : fX6_in (nI d).toInt64 0 7 τ = some (if 0 ≤ nI d ∧ nI d ≤ 7 then 1 else 0) := in_i (nI d) 0 7 τ
  rw [if_pos ⟨nI_pos' (by omega), nI_le (b := 7) (by omega) (by decide)⟩] at e3
  unfold fX3_refusalAsSender fX6_wrongShelf
  rw [e3, bR_t, if_neg h10, al_58, i8, gd_t, gd_t, nI_clamp (by omega), h.h]
  rcases h.hr with hr | hr | hr
  · exact Or.inr ⟨-11, Or.inl rfl, by rw [if_pos hr], by rw [if_pos hr]; rfl⟩
  · exact Or.inl ⟨hr, by rw [hr, if_neg h10, if_pos rfl]; rfl, by rw [hr, if_neg h10, if_pos rfl]; rfl⟩
  · exact Or.inr ⟨-12, Or.inr rfl, by rw [hr, if_neg (show ¬ (2 : Int32) = 0 by decide), if_neg (show ¬ (2 : Int32) = 1 by decide)]; rfl, by rw [hr, if_neg (show ¬ (2 : Int32) = 0 by decide), if_neg (show ¬ (2 : Int32) = 1 by decide)]; rfl⟩
theorem neg_v {v : Int32} (h : v = -11 ∨ v = -12) : ¬ v = 0 ∧ ¬ 0 ≤ v := by
  rcases h with rfl | rfl <;> decide
theorem faith_c {d : Nat} {σ τ : ST} (hd : d < 8) (h : SH d σ τ) (h1 : σ.1 (20 + 2 * d) 0 = 1) : ∃ v, fX3_faithOfSender (20 + 2 * d) σ = some v ∧ fX6_faithOf (nI d) τ = some v := by
  have i8 : inb (nI d) 8 = true := inb_t hd (by decide)
  obtain ⟨-, k2, k3, k4, -, r2, -, -⟩ := h.s h1
  obtain ⟨j, hj, ej⟩ := rg_n (n := 7) (by decide) r2
  unfold fX3_faithOfSender fX6_faithOf
  rw [al_60, al_61, al_62, i8, gd_t, gd_t, gd_t, nI_clamp (by omega), k2, k3, k4, ej]
  generalize σ.1 (20 + 2 * d) 4 = a
  generalize σ.1 (20 + 2 * d) 3 = b
  match j, hj with
  | 0, _ => exact ⟨_, rfl, rfl⟩
  | 1, _ => exact ⟨_, rfl, rfl⟩
  | 2, _ => exact ⟨_, rfl, rfl⟩
  | 3, _ => exact ⟨_, rfl, rfl⟩
  | 4, _ => exact ⟨_, rfl, rfl⟩
  | 5, _ => exact ⟨5, rfl, rfl⟩
  | 6, _ => exact ⟨_, rfl, rfl⟩
  | 7, _ => exact ⟨5 - b, rfl, rfl⟩
theorem far_eq (v : Int32) : (-1000000000) + v = v - 1000000000 := by grind
theorem sim_faith (x1 : Int32) : SIMr (fX5_faith x1) (fX6_faith x1) := by
  intro σ τ h0
  have hI := h0.r
  have hT := scr6.r (τ := τ)
  unfold fX5_faith fX6_faith
  generalize setI τ 36 23 0 = T at *
  rcases shelf_c x1 σ T with ⟨a1, a2⟩ | ⟨d, hd, rfl, a1, a2⟩
  · have w : fX6_wrongShelf x1 T = some (-1) := by unfold fX6_wrongShelf; rw [a2]; rfl
    exact ⟨-1000000001, T, by rw [a1]; rfl, by rw [w, bR_t, if_neg (by decide)]; rfl, hT⟩
  have hS := hI.sh d hd
  rw [a1, bR_t]
  show ∃ a τ', (bR (fX3_refusalAsSender (20 + 2 * d) σ) fun a2 => if a2 = 0 then bR (fX3_faithOfSender (20 + 2 * d) σ) fun a3 => fX5_faith_33 a3 σ else fX5_faith_33 (-1000000000 + a2) σ) = some a ∧ _
  rcases snd_c hd hS with ⟨h1, e1, e2⟩ | ⟨v, hv, e1, e2⟩
  · obtain ⟨v, g1, g2⟩ := faith_c hd hS h1
    exact ⟨v, T, by rw [e1, bR_t, if_pos rfl, g1]; rfl, by rw [e2, bR_t, if_pos (by decide), g2]; rfl, hT⟩
  · obtain ⟨n1, n2⟩ := neg_v hv
    refine ⟨v - 1000000000, T, ?_, ?_, hT⟩
    · rw [e1, bR_t, if_neg n1, far_eq]; rfl
    · rw [e2, bR_t, if_neg n2, bR_t]; rfl
theorem sim_toss (x1 : Int32) : SIMr (fX5_toss x1) (fX6_toss x1) := by
  intro σ τ h0
  have hI := h0.r
  have hT := scr6.r (τ := τ)
  unfold fX5_toss fX6_toss fX6_toss_38
  generalize setI τ 36 23 0 = T at *
  rcases shelf_c x1 σ T with ⟨a1, a2⟩ | ⟨d, hd, rfl, a1, a2⟩
  · have w : fX6_wrongShelf x1 T = some (-1) := by unfold fX6_wrongShelf; rw [a2]; rfl
    exact ⟨-1, T, by rw [a1]; rfl, by rw [w, bR_t, if_neg (by decide)]; rfl, hT⟩
  have hS := hI.sh d hd
  have i8 : inb (nI d) 8 = true := inb_t hd (by decide)
  rw [a1, bR_t]
  rcases snd_c hd hS with ⟨h1, e1, e2⟩ | ⟨v, hv, e1, e2⟩
  · obtain ⟨v, g1, g2⟩ := faith_c hd hS h1
    obtain ⟨k1, k2, k3, k4, -⟩ := hS.s h1
    rw [e2, bR_t, if_pos (by decide), al_59, al_60, al_61, i8, gd_t, gd_t, gd_t, gd_t, gd_t, gd_t, g2, nI_clamp (by omega), k1, k2, k3]
    show ∃ a τ', (bR (fX3_refusalAsSender (20 + 2 * d) σ) fun a => if a = 0 then (if thr (20 + 2 * d) σ = 0 then some (-15) else if thr (20 + 2 * d) σ = 1 then some (σ.1 (20 + 2 * d) 1 + 100) else if thr (20 + 2 * d) σ = 2 then bR (fX3_faithOfSender (20 + 2 * d) σ) fun b => some (200 + b) else some (σ.1 (20 + 2 * d) 1)) else some a) = some a ∧ _
    rw [e1, bR_t, if_pos rfl, g1, bR_t, bR_t]
    unfold thr fX6_toss_92
    by_cases c1 : σ.1 (20 + 2 * d) 2 = 2
    · rw [if_pos c1, if_pos c1]; exact ⟨-15, T, rfl, rfl, hT⟩
    by_cases c2 : σ.1 (20 + 2 * d) 3 = 0
    · rw [if_neg c1, if_pos c2, if_neg c1, if_pos c2]; exact ⟨-15, T, rfl, rfl, hT⟩
    by_cases c3 : σ.1 (20 + 2 * d) 2 = 4
    · rw [if_neg c1, if_neg c2, if_pos c3, if_neg c1, if_neg c2, if_pos c3]
      exact ⟨σ.1 (20 + 2 * d) 1 + 100, T, rfl, by rw [Int32.add_comm], hT⟩
    by_cases c4 : σ.1 (20 + 2 * d) 2 = 7
    · rw [if_neg c1, if_neg c2, if_neg c3, if_pos c4, if_neg c1, if_neg c2, if_neg c3, if_pos c4]
      exact ⟨200 + v, T, rfl, rfl, hT⟩
    · rw [if_neg c1, if_neg c2, if_neg c3, if_neg c4, if_neg c1, if_neg c2, if_neg c3, if_neg c4]
      exact ⟨σ.1 (20 + 2 * d) 1, T, rfl, rfl, hT⟩
  · obtain ⟨n1, n2⟩ := neg_v hv
    refine ⟨v, T, ?_, ?_, hT⟩
    · show (bR (fX3_refusalAsSender (20 + 2 * d) σ) fun a => if a = 0 then _ else some a) = some v
      rw [e1, bR_t, if_neg n1]
    · rw [e2, bR_t, if_neg n2, bR_t]
