def SS (d e : Nat) (σ : ST) (i j : Nat) : Int32 := sgn (σ.1 (21 + 2 * d) i) (σ.1 (21 + 2 * d) j) * sgn (σ.1 (21 + 2 * e) i) (σ.1 (21 + 2 * e) j)
theorem w5_in {d e n i : Nat} {σ T : ST} (h : RW d n σ T) (h' : RW e n σ T) (kt : Nat → Nat → Int32 → Int32 → Option Int32) (hi : i < n) (acc : Int32) : ∀ m j f, j + m = n → i < j → m < f → fX5_words_80 σ kt f (20 + 2 * d) (20 + 2 * e) (acc + fs (fun j => if i < j then SS d e σ i j else 0) j) (nI i) (nI j) = kt (20 + 2 * d) (20 + 2 * e) (acc + fs (fun j => if i < j then SS d e σ i j else 0) n) (nI (i + 1))
  | 0, j, f + 1, hj, _, _ => by
    have : j = n := by omega
    subst this
    have := h.2.1
    rw [fX5_words_80, h.2.2.1, if_pos (nI_le (Nat.le_refl _) (by omega)), nI_1]
  | m + 1, j, f + 1, hj, hij, hf => by
    have ih := w5_in h h' kt hi acc m (j + 1) f (by omega) (by omega) (by omega)
    have := h.2.1
    rw [fX5_words_80, h.2.2.1, if_neg (nI_ge (show j < n by omega) (by omega)), sgn5 h hi (by omega), bR_t, sgn5 h' hi (by omega), bR_t, nI_1]
    rw [fs, if_pos hij, ← Int32.add_assoc] at ih
    exact ih
theorem w5_out {d e n : Nat} {σ T : ST} (h : RW d n σ T) (h' : RW e n σ T) : ∀ m i f, i + m = n → m < f → fX5_words_65 σ f (20 + 2 * d) (20 + 2 * e) (fs (fun i => fs (fun j => if i < j then SS d e σ i j else 0) n) i) (nI i) = some (fs (fun i => fs (fun j => if i < j then SS d e σ i j else 0) n) n)
  | 0, i, f + 1, hi, _ => by
    have : i = n := by omega
    subst this
    have := h.2.1
    rw [fX5_words_65, h.2.2.1, if_pos (nI_le (Nat.le_refl _) (by omega))]
  | m + 1, i, f + 1, hi, hf => by
    have ih := w5_out h h' m (i + 1) f (by omega) (by omega)
    have hn := h.2.1
    have w := w5_in h h' (fX5_words_65 σ f) (show i < n by omega) (fs (fun i => fs (fun j => if i < j then SS d e σ i j else 0) n) i) (n - (i + 1)) (i + 1) FU (by omega) (by omega) (by unfold FU; omega)
    rw [fs_z (f := fun j => if i < j then SS d e σ i j else 0) (i + 1) (fun j hj => if_neg (by omega)), Int32.add_zero] at w
    rw [fX5_words_65, h.2.2.1, if_neg (nI_ge (show i < n by omega) (by omega)), nI_1, w]
    exact ih
theorem w6_in {d e n j : Nat} {σ T : ST} (h : RW d n σ T) (h' : RW e n σ T) (kt : Int32 → Int32 → Int32 → Int32 → ST → Option (Int32 × ST)) (hj : j < n) (acc : Int32) : ∀ m i f, i + m = j → m < f → fX6_words_64 kt f (nI d) (nI e) (acc + fs (fun i => SS d e σ i j) i) (nI j) (nI i) T = kt (nI d) (nI e) (acc + fs (fun i => SS d e σ i j) j) (nI (j + 1)) T
  | 0, i, f + 1, hi, _ => by
    have : i = j := by omega
    subst this
    have := h.2.1
    rw [fX6_words_64, if_pos (nI_le (Nat.le_refl _) (by omega)), nI_1]
  | m + 1, i, f + 1, hi, hf => by
    have ih := w6_in h h' kt hj acc m (i + 1) f (by omega) (by omega)
    have := h.2.1
    rw [fX6_words_64, if_neg (nI_ge (show i < j by omega) (by omega)), sgn6 h (by omega) hj, bR_t, sgn6 h' (by omega) hj, bR_t, nI_1]
    rw [fs, ← Int32.add_assoc] at ih
    exact ih
theorem w6_out {d e n : Nat} {σ T : ST} (h : RW d n σ T) (h' : RW e n σ T) : ∀ m j f, j + m = n → m < f → fX6_words_50 f (nI d) (nI e) (fs (fun j => fs (fun i => SS d e σ i j) j) j) (nI j) T = some (fs (fun j => fs (fun i => SS d e σ i j) j) n, T)
  | 0, j, f + 1, hj, _ => by
    have : j = n := by omega
    subst this
    have := h.2.1
    have hd := h.1
    rw [fX6_words_50, al_64, inb_t hd (by decide), gd_t, nI_clamp (by omega), h.2.2.2.1, if_pos (nI_le (Nat.le_refl _) (by omega))]
  | m + 1, j, f + 1, hj, hf => by
    have ih := w6_out h h' m (j + 1) f (by omega) (by omega)
    have hn := h.2.1
    have hd := h.1
    have w := w6_in h h' (fX6_words_50 f) (show j < n by omega) (fs (fun j => fs (fun i => SS d e σ i j) j) j) j 0 FU (by omega) (by unfold FU; omega)
    rw [show fs (fun i => SS d e σ i j) 0 = 0 from rfl, Int32.add_zero] at w
    rw [fX6_words_50, al_64, inb_t hd (by decide), gd_t, nI_clamp (by omega), h.2.2.2.1, if_neg (nI_ge (show j < n by omega) (by omega))]
    exact w.trans ih
theorem sim_words (x1 x2 : Int32) : SIMr (fX5_words x1 x2) (fX6_words x1 x2) := by
  intro σ τ h0
  have hI := h0.r
  have hT := scr6.r (τ := τ)
  unfold fX5_words fX6_words fX5_words_22
  generalize setI τ 36 23 0 = T at *
  rcases two_c x1 x2 hI with ⟨o1, o2, a1, a2, ho, w⟩ | ⟨d, e, hd, he, rfl, rfl, a1, a2, h⟩
  · refine ⟨-1000000001, T, ?_, by rw [w, bR_t, if_neg (show ¬ (0 : Int32) ≤ -1 by decide)]; rfl, hT⟩
    rw [a1, a2]
    rcases ho with rfl | rfl
    · cases o2 <;> rfl
    · cases o1 <;> rfl
  rw [a1, bR_t, a2]
  show ∃ a τ', (bR (fX5_refusalAsRows (20 + 2 * d) (20 + 2 * e) σ) fun a4 => if a4 = 0 then (if (σ.1 (20 + 2 * d) 6) = (σ.1 (20 + 2 * e) 6) then fX5_words_65 σ FU (20 + 2 * d) (20 + 2 * e) 0 0 else some (-1000000013)) else some ((-1000000000) + a4)) = some a ∧ _
  rcases h with ⟨v, hv, e1, e2⟩ | ⟨h2, h3, e1, e2⟩
  · obtain ⟨n1, n2⟩ := neg_v hv
    exact ⟨v - 1000000000, T, by rw [e1, bR_t, if_neg n1, far_eq], by rw [e2, bR_t, if_neg n2, bR_t]; rfl, hT⟩
  · obtain ⟨n, hn⟩ := SH.rw (hI.sh d hd) hd h2
    obtain ⟨m, hm⟩ := SH.rw (hI.sh e he) he h3
    have l1 := hn.2.1
    have l2 := hm.2.1
    have nd := nI_clamp (show d < 2 ^ 31 by omega)
    have ne := nI_clamp (show e < 2 ^ 31 by omega)
    rw [e1, bR_t, if_pos rfl, e2, bR_t, if_pos (show (0 : Int32) ≤ 0 by decide), al_64, inb_t hd (by decide), inb_t he (by decide), gd_t, gd_t, nd, ne, hn.2.2.1, hm.2.2.1, hn.2.2.2.1, hm.2.2.2.1]
    by_cases z : nI n = nI m
    · have : n = m := (nI_eq (by omega) (by omega)).mp z
      subst this
      rw [if_pos rfl, if_pos rfl]
      refine ⟨fs (fun i => fs (fun j => if i < j then SS d e σ i j else 0) n) n, T, w5_out hn hm n 0 FU (by omega) (by unfold FU; omega), ?_, hT⟩
      rw [tri]
      exact w6_out hn hm n 0 FU (by omega) (by unfold FU; omega)
    · rw [if_neg z, if_neg z]; exact ⟨-1000000013, T, rfl, rfl, hT⟩
