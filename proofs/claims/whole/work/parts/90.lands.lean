theorem sim_lands (x1 x2 : Int32) : SIMr (fX5_lands x1 x2) (fX6_lands x1 x2) := by
  intro σ τ h0
  have hI := h0.r
  have hT := scr6.r (τ := τ)
  unfold fX5_lands fX6_lands fX6_lands_40 fX5_lands_22 fX5_lands_73
  generalize setI τ 36 23 0 = T at *
  obtain ⟨ns, nr, np, R⟩ := hI.g
  rcases two_c x1 x2 hI with ⟨o1, o2, a1, a2, ho, w⟩ | ⟨d, e, hd, he, rfl, rfl, a1, a2, h⟩
  · refine ⟨-1000000001, T, ?_, by rw [w, bR_t, if_neg (show ¬ (0 : Int32) ≤ -1 by decide)]; rfl, hT⟩
    rw [a1, a2]
    rcases ho with rfl | rfl
    · cases o2 <;> rfl
    · cases o1 <;> rfl
  rw [a1, bR_t, a2]
  show ∃ a τ', (bR (fX5_refusalAsRows (20 + 2 * d) (20 + 2 * e) σ) fun a4 => if a4 = 0 then bR (fX3_isOfSendings (20 + 2 * d) (σ.1 1 0) σ) fun a5 => if a5 = 0 then some (-1000000013) else bR (fX3_isOfSendings (20 + 2 * e) (σ.1 1 0) σ) fun a6 => if a6 = 0 then some (-1000000013) else bR (fX3_sum (20 + 2 * d) σ) fun a7 => bR (fX3_sum (20 + 2 * e) σ) fun a8 => some ((a7 * (σ.1 (20 + 2 * e) 6)) - (a8 * (σ.1 (20 + 2 * d) 6))) else some ((-1000000000) + a4)) = some a ∧ _
  rcases h with ⟨v, hv, e1, e2⟩ | ⟨h2, h3, e1, e2⟩
  · obtain ⟨n1, n2⟩ := neg_v hv
    exact ⟨v - 1000000000, T, by rw [e1, bR_t, if_neg n1, far_eq], by rw [e2, bR_t, if_neg n2, bR_t]; rfl, hT⟩
  · obtain ⟨n, hn⟩ := SH.rw (hI.sh d hd) hd h2
    obtain ⟨m, hm⟩ := SH.rw (hI.sh e he) he h3
    obtain ⟨v1, p1, p2⟩ := are_c hn
    obtain ⟨v2, q1, q2⟩ := are_c hm
    obtain ⟨s1, u1, u2⟩ := sum_loop hn n 0 FU FU 0 (by omega) (by have := hn.2.1; unfold FU; omega) (by have := hn.2.1; unfold FU; omega)
    obtain ⟨s2, w1, w2⟩ := sum_loop hm m 0 FU FU 0 (by omega) (by have := hm.2.1; unfold FU; omega) (by have := hm.2.1; unfold FU; omega)
    have hc : T.1 36 0 = σ.1 1 0 := R.c0
    rw [hc] at p1 q1
    have nd := nI_clamp (show d < 2 ^ 31 by omega)
    have ne := nI_clamp (show e < 2 ^ 31 by omega)
    rw [e1, bR_t, if_pos rfl, e2, bR_t, if_pos (show (0 : Int32) ≤ 0 by decide), p1, bR_t, p2, bR_t]
    by_cases z1 : v1 = 0
    · rw [if_pos z1, if_pos z1]; exact ⟨-1000000013, T, rfl, rfl, hT⟩
    rw [if_neg z1, if_neg z1, q1, bR_t, q2, bR_t]
    by_cases z2 : v2 = 0
    · rw [if_pos z2, if_pos z2]; exact ⟨-1000000013, T, rfl, rfl, hT⟩
    rw [if_neg z2, if_neg z2]
    refine ⟨s1 * nI m - s2 * nI n, T, ?_, ?_, hT⟩
    · rw [show fX3_sum (20 + 2 * d) σ = some s1 from u1, bR_t, show fX3_sum (20 + 2 * e) σ = some s2 from w1, bR_t, hm.2.2.1, hn.2.2.1]
    · rw [show fX6_sumOf (nI d) T = some s1 from u2, bR_t, show fX6_sumOf (nI e) T = some s2 from w2, al_64, inb_t hd (by decide), inb_t he (by decide), gd_t, bR_t, gd_t, nd, ne, hm.2.2.2.1, hn.2.2.2.1]
