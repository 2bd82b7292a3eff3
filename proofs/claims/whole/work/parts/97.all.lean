theorem all_in {ns nr s : Nat} (hs : s < ns) (k5 k6 : Int32 → ST → Option (Int32 × ST)) : ∀ (m r f f' np : Nat) (σ T : ST), CST σ → REL ns nr np (X 1 σ) (Ml T) → r + m = nr → np + m ≤ 100 → m < f → m < f' → ∃ σ' T', fX5_all_67 k5 f (nI s) (nI r) σ = k5 (nI (s + 1)) σ' ∧ fX6_all_54 k6 f' (nI s) (nI r) T = k6 (nI (s + 1)) T' ∧ CST σ' ∧ REL ns nr (np + m) (X 1 σ') (Ml T') ∧ g5 σ σ' ∧ g6 T T'
  | 0, r, f + 1, f' + 1, np, σ, T, hC, R, hr, hn, _, _ => by
    have hr8 := R.hr
    have e1 : σ.1 8 3 = nI nr := R.xr
    have e2 : T.1 36 7 = nI nr := R.mr
    refine ⟨σ, T, ?_, ?_, hC, R, ⟨fun _ _ _ _ _ _ => rfl, rfl⟩, ⟨fun _ _ _ => rfl, rfl, rfl⟩⟩
    · rw [fX5_all_67, e1, if_pos (nI_le (by omega) (by omega)), nI_1]
    · rw [fX6_all_54, e2, if_pos (nI_le (by omega) (by omega)), nI_1]
  | m + 1, r, f + 1, f' + 1, np, σ, T, hC, R, hr, hn, hf, hf' => by
    have hr8 := R.hr
    have e1 : σ.1 8 3 = nI nr := R.xr
    have e2 : T.1 36 7 = nI nr := R.mr
    obtain ⟨a, σ1, T1, q1, q2, -, R1, f5, f6⟩ := writeDown hC R (by omega) hs (show r < nr by omega) (Or.inl rfl)
    obtain ⟨σ', T', g1, g2, hC', R', f5', f6'⟩ := all_in hs k5 k6 m (r + 1) f f' (np + 1) σ1 T1 (f5.cst hC) R1 (by omega) (by omega) (by omega) (by omega)
    refine ⟨σ', T', ?_, ?_, hC', by rw [show np + (m + 1) = np + 1 + m by omega]; exact R', f5.tr f5', f6.tr f6'⟩
    · rw [fX5_all_67, e1, if_neg (nI_ge (show r < nr by omega) (by omega)), q1, bI_t, nI_1]; exact g1
    · rw [fX6_all_54, e2, if_neg (nI_ge (show r < nr by omega) (by omega)), q2, bR_t, nI_1]; exact g2
theorem all_out {ns nr : Nat} : ∀ (m s f f' np : Nat) (σ T : ST), CST σ → REL ns nr np (X 1 σ) (Ml T) → s + m = ns → np + m * nr ≤ 100 → m < f → m < f' → ∃ v σ' T', fX5_all_51 f (nI s) σ = some (v, σ') ∧ fX6_all_44 f' (nI s) T = some (v, T') ∧ REL ns nr (np + m * nr) (X 1 σ') (Ml T') ∧ g5 σ σ' ∧ g6 T T'
  | 0, s, f + 1, f' + 1, np, σ, T, hC, R, hs, hn, _, _ => by
    have hs8 := R.hs
    have e1 : σ.1 6 3 = nI ns := R.xs
    have e2 : T.1 36 3 = nI ns := R.ms
    have e3 : σ.1 10 3 = nI np := R.xp
    have e4 : T.1 36 16 = nI np := R.mp
    refine ⟨nI np, σ, T, ?_, ?_, by rw [Nat.zero_mul, Nat.add_zero]; exact R, ⟨fun _ _ _ _ _ _ => rfl, rfl⟩, ⟨fun _ _ _ => rfl, rfl, rfl⟩⟩
    · rw [fX5_all_51, e1, if_pos (nI_le (by omega) (by omega)), e3]
    · rw [fX6_all_44, e2, if_pos (nI_le (by omega) (by omega)), e4]
  | m + 1, s, f + 1, f' + 1, np, σ, T, hC, R, hs, hn, hf, hf' => by
    have hs8 := R.hs
    have hr8 := R.hr
    have e1 : σ.1 6 3 = nI ns := R.xs
    have e2 : T.1 36 3 = nI ns := R.ms
    rw [Nat.succ_mul] at hn
    obtain ⟨σ1, T1, q1, q2, hC1, R1, f5, f6⟩ := all_in (show s < ns by omega) (fX5_all_51 f) (fX6_all_44 f') nr 0 FU FU np σ T hC R (by omega) (by omega) (by unfold FU; omega) (by unfold FU; omega)
    obtain ⟨v, σ', T', g1, g2, R', f5', f6'⟩ := all_out m (s + 1) f f' (np + nr) σ1 T1 hC1 R1 (by omega) (by omega) (by omega) (by omega)
    refine ⟨v, σ', T', ?_, ?_, by rw [Nat.succ_mul, show np + (m * nr + nr) = np + nr + m * nr by omega]; exact R', f5.tr f5', f6.tr f6'⟩
    · rw [fX5_all_51, e1, if_neg (nI_ge (show s < ns by omega) (by omega))]; exact q1.trans g1
    · rw [fX6_all_44, e2, if_neg (nI_ge (show s < ns by omega) (by omega))]; exact q2.trans g2
theorem sim_all : SIM fX5_all fX6_all := by
  intro σ τ h0
  have hI := h0.r
  have hT := (scr6.r (τ := τ)).fr6
  unfold fX5_all fX6_all
  generalize setI τ 36 23 0 = T at *
  obtain ⟨ns, nr, np, R⟩ := hI.g
  have hp := R.hp
  have hs8 := R.hs
  have hr8 := R.hr
  have e1 : σ.1 6 3 = nI ns := R.xs
  have e2 : T.1 36 3 = nI ns := R.ms
  have e3 : σ.1 8 3 = nI nr := R.xr
  have e4 : T.1 36 7 = nI nr := R.mr
  have e5 : σ.1 10 3 = nI np := R.xp
  have e6 : T.1 36 16 = nI np := R.mp
  have no : ∀ v, ∃ a σ' τ', (some (v, σ) : Option (Int32 × ST)) = some (a, σ') ∧ (some (v, T) : Option (Int32 × ST)) = some (a, τ') ∧ INV σ' τ' ∧ fr5 σ σ' ∧ fr6 τ τ' := fun v => ⟨v, σ, T, rfl, rfl, hI, fr5.rfl, hT⟩
  have hle : ns * nr ≤ 64 := Nat.mul_le_mul hs8 hr8
  have es : (100 : Int32) - nI np = nI (100 - np) := pk_sub (a := 100) hp
  rw [e1, e2, e3, e4, e5, e6, pk_mul, nI_add, es]
  by_cases h : np + ns * nr ≤ 100
  · rw [if_pos (nI_le (by omega) (by omega)), if_pos (show nI (np + ns * nr) ≤ 100 from nI_le (b := 100) h (by decide))]
    by_cases h' : nI (ns * nr) = 0
    · rw [if_pos h', if_pos h']; exact no (-3)
    · obtain ⟨v, σ', T', q1, q2, R', f5, f6⟩ := all_out ns 0 FU FU np σ T hI.c R (by omega) h (by unfold FU; omega) (by unfold FU; omega)
      rw [if_neg h', if_neg h']
      exact ⟨v, σ', T', q1, q2, hI.wrote f5 f6 R', f5.fr, fun k j hk => (f6.1 k j (Or.inl hk)).trans (hT k j hk)⟩
  · rw [if_neg (nI_ge (by omega) (by omega)), if_neg (show ¬ nI (np + ns * nr) ≤ 100 from nI_ge (a := 100) (by omega) (by omega))]; exact no (-2)
