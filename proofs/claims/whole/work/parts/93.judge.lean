theorem l_eq (x y : Int32) : x.toInt64 = y.toInt64 ↔ x = y := by
  rw [← Int64.toInt_inj, Int32.toInt_toInt64, Int32.toInt_toInt64, Int32.toInt_inj]
theorem jd_loop {d n ns nr np : Nat} {σ T : ST} (hC : CST σ) (R : REL ns nr np (X 1 σ) (Ml T)) (h : RW d n σ T) (sk : Int32) : ∀ m i f f', i + m = n → i ≤ 2 * np → m < f → m < f' → ∃ v, fX5_judge_46 σ f (20 + 2 * d) (nI (2 * np)) sk (nI i) = some v ∧ fX6_judge_57 f' (nI d) sk.toInt64 (nI i) T = some (v, T)
  | 0, i, f + 1, f' + 1, hi, _, _, _ => by
    have hd := h.1
    have hn := h.2.1
    refine ⟨-4, ?_, ?_⟩
    · rw [fX5_judge_46, h.2.2.1, if_pos (nI_le (by omega) (by omega))]
    · rw [fX6_judge_57, al_64, inb_t hd (by decide), gd_t, nI_clamp (by omega), h.2.2.2.1, if_pos (nI_le (by omega) (by omega))]
  | m + 1, i, f + 1, f' + 1, hi, hle, hf, hf' => by
    have hd := h.1
    have hn := h.2.1
    have hp := R.hp
    have hm : T.1 36 16 = nI np := R.mp
    have e2 : (2 : Int32) * nI np = nI (2 * np) := by rw [show (2 : Int32) = nI 2 from rfl, pk_mul]
    rw [fX5_judge_46, h.2.2.1, if_neg (nI_ge (show i < n by omega) (by omega)), fX6_judge_57, al_64, inb_t hd (by decide), gd_t, nI_clamp (show d < 2 ^ 31 by omega), h.2.2.2.1, if_neg (nI_ge (show i < n by omega) (by omega)), hm, e2]
    by_cases q : i = 2 * np
    · subst q
      rw [if_neg (nI_nlt (Nat.le_refl _) (by omega)), if_pos rfl]
      exact ⟨_, rfl, rfl⟩
    · obtain ⟨v, g1, g2⟩ := jd_loop hC R h sk m (i + 1) f f' (by omega) (by omega) (by omega) (by omega)
      obtain ⟨j1, j2⟩ := ix800 hd (show i < 100 by omega)
      have hne : ¬ nI i = nI (2 * np) := fun e => q ((nI_eq (by omega) (by omega)).mp e)
      have e3 : nI i / 2 = nI (i / 2) := by rw [show (2 : Int32) = nI 2 from rfl, pk_div (by omega) (by omega) (by omega)]
      have hi2 : i / 2 < np := by omega
      have i1 : inb (nI (i / 2)) 100 = true := inb_t (by omega) (by decide)
      obtain ⟨p1, p2, p3, p4, p5, p6⟩ := R.p (i / 2) hi2
      have k50 : T.1 50 (i / 2) = σ.1 11 (6 * (i / 2) + 2) := p3
      have k52 : T.1 52 (i / 2) = σ.1 11 (6 * (i / 2) + 4) := p5
      rw [if_pos (nI_lt (show i < 2 * np by omega) (by omega)), if_neg hne, al_65, j1, gd_t, j2, h.2.2.2.2 i (by omega), e3, al_50, al_52, i1, gd_t, gd_t, nI_clamp (show i / 2 < 2 ^ 31 by omega), k50, k52]
      have go : ∀ (c : Nat) (x : Int32), c < 6 → x = nI c → ∃ v, fX5_judge_88 (fX5_judge_46 σ f) (20 + 2 * d) (nI (2 * np)) sk (nI i) (nI (i / 2)) x σ = some v ∧ fX6_judge_126 (fX6_judge_57 f') (nI d) sk.toInt64 (nI i) (σ.1 (21 + 2 * d) i).toInt64 (σ.1 11 (6 * (i / 2) + c)).toInt64 T = some (v, T) := fun c x hc ex => by
        unfold fX5_judge_88 fX6_judge_126 fX5_judge_118 fX6_judge_146
        rw [rdP (c := c) hC R.xp R.hp hi2 hc ex, bR_t, read_el hd hn h.2.2.1 (show i < n by omega), bR_t, nI_1]
        by_cases a : σ.1 (21 + 2 * d) i = σ.1 11 (6 * (i / 2) + c)
        · rw [if_pos a]
          by_cases b : σ.1 (21 + 2 * d) i = sk
          · rw [if_pos ((lc_eq _ _).mpr ((l_eq _ _).mpr b))]; exact ⟨v, g1, g2⟩
          · rw [if_neg (fun e => b ((l_eq _ _).mp ((lc_eq _ _).mp e))), if_pos ((lc_eq _ _).mpr ((l_eq _ _).mpr a))]; exact ⟨v, g1, g2⟩
        · rw [if_neg a]
          by_cases b : σ.1 (21 + 2 * d) i = sk
          · rw [if_pos b, if_pos ((lc_eq _ _).mpr ((l_eq _ _).mpr b))]; exact ⟨v, g1, g2⟩
          · rw [if_neg b, if_neg (fun e => b ((l_eq _ _).mp ((lc_eq _ _).mp e))), if_neg (fun e => a ((l_eq _ _).mp ((lc_eq _ _).mp e)))]; exact ⟨_, rfl, rfl⟩
      by_cases c : nI i - nI (i / 2) * 2 = 0
      · rw [if_pos c, if_pos c]; exact go 2 2 (by omega) rfl
      · rw [if_neg c, if_neg c]; exact go 4 4 (by omega) rfl
theorem sim_judge (x1 : Int32) : SIMr (fX5_judge x1) (fX6_judge x1) := by
  intro σ τ h0
  have hI := h0.r
  have hT := scr6.r (τ := τ)
  unfold fX5_judge fX6_judge fX6_judge_53
  generalize setI τ 36 23 0 = T at *
  obtain ⟨ns, nr, np, R⟩ := hI.g
  have hp := R.hp
  rcases shelf_c x1 σ T with ⟨a1, a2⟩ | ⟨d, hd, rfl, a1, a2⟩
  · have w : fX6_wrongRow x1 T = some (-1) := by unfold fX6_wrongRow; rw [a2]; rfl
    exact ⟨-1, T, by rw [a1]; rfl, by rw [w, bR_t, if_neg (by decide)]; rfl, hT⟩
  have hS := hI.sh d hd
  have i8 : inb (nI d) 8 = true := inb_t hd (by decide)
  rw [a1, bR_t]
  show ∃ a τ', (bR (fX3_refusalAsRow (20 + 2 * d) σ) fun a2 => if a2 = 0 then bR (fX3_leastNumber (20 + 2 * d) σ) fun a3 => fX5_judge_46 σ FU (20 + 2 * d) (2 * (σ.1 10 3)) a3 0 else some a2) = some a ∧ _
  rcases row_c hd hS with ⟨h2, e1, e2⟩ | ⟨v, hv, hne, e1, e2⟩
  · obtain ⟨n, hn⟩ := SH.rw hS hd h2
    obtain ⟨r1, r2, -⟩ := hS.r h2
    have l1 := hn.2.1
    have ex : (2 : Int32) * σ.1 10 3 = nI (2 * np) := by rw [show σ.1 10 3 = nI np from R.xp, show (2 : Int32) = nI 2 from rfl, pk_mul]
    have go := fun sk => jd_loop hI.c R hn sk n 0 FU FU (by omega) (by omega) (by unfold FU; omega) (by unfold FU; omega)
    rw [e1, bR_t, if_pos rfl, e2, bR_t, if_pos (show (0 : Int32) ≤ 0 by decide), al_63, i8, gd_t, gd_t, nI_clamp (by omega), r1, ex]
    unfold fX3_leastNumber fX3_leastNumber_26
    by_cases s0 : σ.1 (20 + 2 * d) 5 = 0
    · rw [if_pos s0, if_pos s0, bR_t]
      obtain ⟨v, g1, g2⟩ := go (-128)
      exact ⟨v, T, g1, g2, hT⟩
    by_cases s1 : σ.1 (20 + 2 * d) 5 = 1
    · rw [if_neg s0, if_pos s1, if_neg s0, if_pos s1, bR_t]
      obtain ⟨v, g1, g2⟩ := go (-32768)
      exact ⟨v, T, g1, g2, hT⟩
    · rw [if_neg s0, if_neg s1, if_neg s0, if_neg s1, bR_t]
      obtain ⟨v, g1, g2⟩ := go (-2147483648)
      exact ⟨v, T, g1, g2, hT⟩
  · obtain ⟨n1, n2⟩ := neg_v hv
    exact ⟨v, T, by rw [e1, bR_t, if_neg n1], by rw [e2, bR_t, if_neg n2, bR_t], hT⟩
