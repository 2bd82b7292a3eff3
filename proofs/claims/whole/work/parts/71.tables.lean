theorem has_c {σ : ST} {k n : Nat} (hn : σ.1 k 3 = nI n) (h : n < 2 ^ 31) (x : Int32) : (fX4_has k x σ = some 0 ∧ ∀ s, s < n → x ≠ nI s) ∨ ∃ s, s < n ∧ x = nI s ∧ fX4_has k x σ = some 1 := by
  unfold fX4_has
  rw [hn]
  rcases pk_ix x h with h1 | h1 | ⟨s, hs, rfl⟩
  · rw [if_pos h1]
    exact Or.inl ⟨rfl, fun s hs e => nI_pos (show s < 2 ^ 31 by omega) (e ▸ h1)⟩
  · left
    refine ⟨?_, fun s hs e => nI_ge hs h (e ▸ h1)⟩
    by_cases h0 : x < 0
    · rw [if_pos h0]; rfl
    · rw [if_neg h0, if_pos h1]; rfl
  · right
    refine ⟨s, hs, rfl, ?_⟩
    rw [if_neg (nI_pos (by omega)), if_neg (nI_ge hs h)]
    rfl
theorem place_t {σ : ST} {k n w i c : Nat} (hn : σ.1 k 3 = nI n) (hw : σ.1 k 1 = nI w) (hi : i < n) (hc : c < w) (h1 : n < 2 ^ 31) (h2 : w < 2 ^ 31) : fX4_placeOf k (nI i) (nI c) σ = some (nI (w * i + c)) := by
  unfold fX4_placeOf
  rw [hn, hw, if_neg (nI_pos (by omega)), if_neg (nI_ge hi h1), if_neg (nI_pos (by omega)), if_neg (nI_ge hc h2)]
  unfold fX4_placeOf_29
  rw [if_neg (by decide), hw, pk_mul, nI_add, Nat.mul_comm]
  rfl
theorem ix_lt {i n w c L : Nat} (hi : i < n) (hc : c < w) (hL : w * n ≤ L) : w * i + c < L := by
  have : w * (i + 1) ≤ w * n := Nat.mul_le_mul_left _ hi
  rw [Nat.mul_add] at this
  omega
theorem rd {σ : ST} {k n w i c : Nat} {x1 x2 : Int32} (hn : σ.1 k 3 = nI n) (hw : σ.1 k 1 = nI w) (hi : i < n) (hc : c < w) (hL : w * n ≤ alen (k + 1)) (h1 : n < 2 ^ 31) (h2 : w < 2 ^ 31) (h3 : alen (k + 1) < 2 ^ 31) (e1 : x1 = nI i) (e2 : x2 = nI c) :
    fX4_read k x1 x2 σ = some (σ.1 (k + 1) (w * i + c)) := by
  subst e1 e2
  have hlt := ix_lt hi hc hL
  unfold fX4_read
  rw [place_t hn hw hi hc h1 h2, bR_t, if_neg (nI_pos (by omega)), if_neg (show ¬ Int32.ofNat (alen (k + 1)) ≤ nI (w * i + c) from nI_ge hlt h3), inb_t hlt h3, gd_t, nI_clamp (by omega)]
  rfl
theorem wr {σ : ST} {k n w i c : Nat} {x1 x2 v : Int32} (hn : σ.1 k 3 = nI n) (hw : σ.1 k 1 = nI w) (hi : i < n) (hc : c < w) (hL : w * n ≤ alen (k + 1)) (h1 : n < 2 ^ 31) (h2 : w < 2 ^ 31) (h3 : alen (k + 1) < 2 ^ 31) (e1 : x1 = nI i) (e2 : x2 = nI c) :
    fX4_write k x1 x2 v σ = some (setI σ (k + 1) (w * i + c) v) := by
  subst e1 e2
  have hlt := ix_lt hi hc hL
  unfold fX4_write
  rw [place_t hn hw hi hc h1 h2, bR_t, if_neg (nI_pos (by omega)), if_neg (show ¬ Int32.ofNat (alen (k + 1)) ≤ nI (w * i + c) from nI_ge hlt h3), inb_t hlt h3, gd_t, nI_clamp (by omega)]
  rfl
/-- a row more, all 0 -/
def opn (σ : ST) (k n w c : Nat) : ST := (fun a b => if a = k + 1 ∧ w * n ≤ b ∧ b < w * n + c then 0 else if a = k ∧ b = 3 then nI (n + 1) else σ.1 a b, σ.2)
theorem opn_0 (σ : ST) (k n w : Nat) : opn σ k n w 0 = setI σ k 3 (nI (n + 1)) := by
  unfold opn setI
  refine Prod.ext (funext fun a => funext fun b => ?_) rfl
  show (if a = k + 1 ∧ w * n ≤ b ∧ b < w * n + 0 then _ else _) = _
  rw [if_neg (by omega)]
theorem opn_s (σ : ST) (k n w c : Nat) : setI (opn σ k n w c) (k + 1) (w * n + c) 0 = opn σ k n w (c + 1) := by
  refine Prod.ext (funext fun a => funext fun b => ?_) rfl
  have e : ∀ c, (opn σ k n w c).1 a b = if (a = k + 1 ∧ w * n ≤ b ∧ b < w * n + c) then 0 else if a = k ∧ b = 3 then nI (n + 1) else σ.1 a b := fun _ => rfl
  rw [sg, e, e]
  by_cases h : a = k + 1 ∧ b = w * n + c
  · rw [if_pos h, if_pos (by omega)]
  · rw [if_neg h]
    by_cases h2 : a = k + 1 ∧ w * n ≤ b ∧ b < w * n + c
    · rw [if_pos h2, if_pos (by omega)]
    · rw [if_neg h2, if_neg (by omega : ¬ (a = k + 1 ∧ w * n ≤ b ∧ b < w * n + (c + 1)))]
theorem op_loop {σ : ST} {k n w : Nat} (hw : σ.1 k 1 = nI w) (hL : w * (n + 1) ≤ alen (k + 1)) (h1 : n + 1 < 2 ^ 31) (h2 : w < 2 ^ 31) (h3 : alen (k + 1) < 2 ^ 31) :
    ∀ d c f, c + d = w → d < f → fX4_open_25 f k (nI c) (opn σ k n w c) = some (nI n, opn σ k n w w) := by
  have hw' : ∀ c, (opn σ k n w c).1 k 1 = nI w := fun c => by
    show (if k = k + 1 ∧ _ then _ else if k = k ∧ 1 = 3 then _ else σ.1 k 1) = _
    rw [if_neg (by omega), if_neg (by omega), hw]
  have hn' : ∀ c, (opn σ k n w c).1 k 3 = nI (n + 1) := fun c => by
    show (if k = k + 1 ∧ _ then _ else if k = k ∧ 3 = 3 then _ else σ.1 k 3) = _
    rw [if_neg (by omega), if_pos ⟨rfl, rfl⟩]
  intro d
  induction d with
  | zero =>
    intro c f hc hf
    match f, hf with
    | f + 1, _ =>
      have : c = w := by omega
      subst this
      rw [fX4_open_25, hw', if_pos (nI_le (Nat.le_refl _) h2), hn', nI_pred]
  | succ d ih =>
    intro c f hc hf
    match f, hf with
    | f + 1, hf =>
      rw [fX4_open_25, hw', if_neg (nI_ge (by omega) h2), hn', nI_pred, wr (hn' c) (hw' c) (show n < n + 1 by omega) (show c < w by omega) hL h1 h2 h3 rfl rfl, bR_t, opn_s, nI_1]
      exact ih (c + 1) f (by omega) (by omega)
theorem op {σ : ST} {k n w m : Nat} (hn : σ.1 k 3 = nI n) (hw : σ.1 k 1 = nI w) (hm : σ.1 k 0 = nI m) (hnm : n < m) (hL : w * (n + 1) ≤ alen (k + 1)) (h1 : m < 2 ^ 31) (h2 : w < 4000) (h3 : alen (k + 1) < 2 ^ 31) :
    fX4_open k σ = some (nI n, opn σ k n w w) := by
  unfold fX4_open
  rw [hn, hm, if_pos (nI_lt hnm h1), nI_1, ← opn_0 σ k n w]
  exact op_loop hw hL (by omega) (by omega) h3 w 0 FU (by omega) (by unfold FU; omega)
theorem sw_loop {σ : ST} {k n w c d : Nat} {x1 x3 v : Int32} (hn : σ.1 k 3 = nI n) (hw : σ.1 k 1 = nI w) (hc : c < w) (hd : d < w) (hL : w * n ≤ alen (k + 1)) (h1 : n < 2 ^ 31) (h2 : w < 2 ^ 31) (h3 : alen (k + 1) < 2 ^ 31) (e1 : x1 = nI c) (e3 : x3 = nI d) :
    ∀ m i f, i + m = n → m < f → fX4_sumWhere_6 σ f k x1 v x3 (fs (fun p => if σ.1 (k + 1) (w * p + c) = v then σ.1 (k + 1) (w * p + d) else 0) i) (nI i) = some (fs (fun p => if σ.1 (k + 1) (w * p + c) = v then σ.1 (k + 1) (w * p + d) else 0) n) := by
  intro m
  induction m with
  | zero =>
    intro i f hi hf
    match f, hf with
    | f + 1, _ =>
      have : i = n := by omega
      subst this
      rw [fX4_sumWhere_6, hn, if_pos (nI_le (Nat.le_refl _) h1)]
  | succ m ih =>
    intro i f hi hf
    match f, hf with
    | f + 1, hf =>
      have h := ih (i + 1) f (by omega) (by omega)
      rw [fX4_sumWhere_6, hn, if_neg (nI_ge (by omega) h1), rd hn hw (show i < n by omega) hc hL h1 h2 h3 rfl e1, bR_t, rd hn hw (show i < n by omega) hd hL h1 h2 h3 rfl e3, bR_t]
      unfold fX4_sumWhere_38
      rw [nI_1]
      rw [fs] at h
      by_cases hv : σ.1 (k + 1) (w * i + c) = v
      · rw [if_pos hv]; rw [if_pos hv] at h; exact h
      · rw [if_neg hv]; rw [if_neg hv, Int32.add_zero] at h; exact h
theorem swh {σ : ST} {k n w c d : Nat} {x1 x3 v : Int32} (hn : σ.1 k 3 = nI n) (hw : σ.1 k 1 = nI w) (hc : c < w) (hd : d < w) (hL : w * n ≤ alen (k + 1)) (h1 : n < 4000) (h2 : w < 2 ^ 31) (h3 : alen (k + 1) < 2 ^ 31) (e1 : x1 = nI c) (e3 : x3 = nI d) :
    fX4_sumWhere k x1 v x3 σ = some (fs (fun p => if σ.1 (k + 1) (w * p + c) = v then σ.1 (k + 1) (w * p + d) else 0) n) :=
  sw_loop hn hw hc hd hL (by omega) h2 h3 e1 e3 n 0 FU (by omega) (by unfold FU; omega)
theorem rw_loop {σ : ST} {k n w c : Nat} {x1 v : Int32} (hn : σ.1 k 3 = nI n) (hw : σ.1 k 1 = nI w) (hc : c < w) (hL : w * n ≤ alen (k + 1)) (h1 : n < 2 ^ 31) (h2 : w < 2 ^ 31) (h3 : alen (k + 1) < 2 ^ 31) (e1 : x1 = nI c) :
    ∀ m i f, i + m = n → m < f → fX4_rowsWhere_5 σ f k x1 v (fs (fun p => if σ.1 (k + 1) (w * p + c) = v then 1 else 0) i) (nI i) = some (fs (fun p => if σ.1 (k + 1) (w * p + c) = v then 1 else 0) n) := by
  intro m
  induction m with
  | zero =>
    intro i f hi hf
    match f, hf with
    | f + 1, _ =>
      have : i = n := by omega
      subst this
      rw [fX4_rowsWhere_5, hn, if_pos (nI_le (Nat.le_refl _) h1)]
  | succ m ih =>
    intro i f hi hf
    match f, hf with
    | f + 1, hf =>
      have h := ih (i + 1) f (by omega) (by omega)
      rw [fX4_rowsWhere_5, hn, if_neg (nI_ge (by omega) h1), rd hn hw (show i < n by omega) hc hL h1 h2 h3 rfl e1, bR_t]
      unfold fX4_rowsWhere_28
      rw [nI_1]
      rw [fs] at h
      by_cases hv : σ.1 (k + 1) (w * i + c) = v
      · rw [if_pos hv]; rw [if_pos hv] at h; exact h
      · rw [if_neg hv]; rw [if_neg hv, Int32.add_zero] at h; exact h
theorem rwh {σ : ST} {k n w c : Nat} {x1 v : Int32} (hn : σ.1 k 3 = nI n) (hw : σ.1 k 1 = nI w) (hc : c < w) (hL : w * n ≤ alen (k + 1)) (h1 : n < 4000) (h2 : w < 2 ^ 31) (h3 : alen (k + 1) < 2 ^ 31) (e1 : x1 = nI c) :
    fX4_rowsWhere k x1 v σ = some (fs (fun p => if σ.1 (k + 1) (w * p + c) = v then 1 else 0) n) :=
  rw_loop hn hw hc hL (by omega) h2 h3 e1 n 0 FU (by omega) (by unfold FU; omega)
theorem su_loop {σ : ST} {k n w d : Nat} {x1 : Int32} (hn : σ.1 k 3 = nI n) (hw : σ.1 k 1 = nI w) (hd : d < w) (hL : w * n ≤ alen (k + 1)) (h1 : n < 2 ^ 31) (h2 : w < 2 ^ 31) (h3 : alen (k + 1) < 2 ^ 31) (e1 : x1 = nI d) :
    ∀ m i f, i + m = n → m < f → fX4_sum_4 σ f k x1 (fs (fun p => σ.1 (k + 1) (w * p + d)) i) (nI i) = some (fs (fun p => σ.1 (k + 1) (w * p + d)) n) := by
  intro m
  induction m with
  | zero =>
    intro i f hi hf
    match f, hf with
    | f + 1, _ =>
      have : i = n := by omega
      subst this
      rw [fX4_sum_4, hn, if_pos (nI_le (Nat.le_refl _) h1)]
  | succ m ih =>
    intro i f hi hf
    match f, hf with
    | f + 1, hf =>
      have h := ih (i + 1) f (by omega) (by omega)
      rw [fX4_sum_4, hn, if_neg (nI_ge (by omega) h1), rd hn hw (show i < n by omega) hd hL h1 h2 h3 rfl e1, bR_t, nI_1]
      exact h
theorem sum_t {σ : ST} {k n w d : Nat} {x1 : Int32} (hn : σ.1 k 3 = nI n) (hw : σ.1 k 1 = nI w) (hd : d < w) (hL : w * n ≤ alen (k + 1)) (h1 : n < 4000) (h2 : w < 2 ^ 31) (h3 : alen (k + 1) < 2 ^ 31) (e1 : x1 = nI d) :
    fX4_sum k x1 σ = some (fs (fun p => σ.1 (k + 1) (w * p + d)) n) :=
  su_loop hn hw hd hL (by omega) h2 h3 e1 n 0 FU (by omega) (by unfold FU; omega)
theorem fs_ext {f g : Nat → Int32} : ∀ n, (∀ p, p < n → f p = g p) → fs f n = fs g n
  | 0, _ => rfl
  | n + 1, h => by rw [fs, fs, fs_ext n (fun p hp => h p (by omega)), h n (by omega)]
/-! the model's tests of a range -/
theorem lc_lt (x y : Int64) : lg_cmp x y < 0 ↔ x < y := by
  unfold lg_cmp
  by_cases h : x > y
  · rw [if_pos h]
    exact ⟨fun h => absurd h (by decide), fun h2 => absurd (Int64.lt_trans h h2) (Int64.lt_irrefl)⟩
  · rw [if_neg h]
    by_cases e : x = y
    · rw [if_pos e]
      exact ⟨fun h => absurd h (by decide), fun h2 => absurd (e ▸ h2) (Int64.lt_irrefl)⟩
    · rw [if_neg e]
      refine ⟨fun _ => ?_, fun _ => by decide⟩
      rw [Int64.lt_iff_toInt_lt]
      have h1 : ¬ y.toInt < x.toInt := fun hh => h (Int64.lt_iff_toInt_lt.mpr hh)
      have h2 : ¬ x.toInt = y.toInt := fun hh => e (Int64.toInt_inj.mp hh)
      omega
theorem lc_gt (x y : Int64) : 0 < lg_cmp x y ↔ y < x := by
  unfold lg_cmp
  by_cases h : x > y
  · rw [if_pos h]; exact ⟨fun _ => h, fun _ => by decide⟩
  · rw [if_neg h]
    refine ⟨fun h2 => ?_, fun h2 => absurd h2 h⟩
    by_cases e : x = y
    · rw [if_pos e] at h2; exact absurd h2 (by decide)
    · rw [if_neg e] at h2; exact absurd h2 (by decide)
theorem lc_eq (x y : Int64) : lg_cmp x y = 0 ↔ x = y := by
  unfold lg_cmp
  by_cases h : x > y
  · rw [if_pos h]
    exact ⟨fun h => absurd h (by decide), fun h2 => absurd (h2 ▸ h) (Int64.lt_irrefl)⟩
  · rw [if_neg h]
    by_cases e : x = y
    · rw [if_pos e]; exact ⟨fun _ => e, fun _ => rfl⟩
    · rw [if_neg e]; exact ⟨fun h => absurd h (by decide), fun h => absurd h e⟩
theorem in_l (x lo hi : Int64) (σ : ST) : fX6_in x lo hi σ = some (if lo ≤ x ∧ x ≤ hi then 1 else 0) := by
  unfold fX6_in
  by_cases h1 : lg_cmp x lo < 0
  · rw [if_pos h1, if_neg (fun h => Int64.not_lt.mpr h.1 ((lc_lt _ _).mp h1))]; rfl
  · rw [if_neg h1]
    by_cases h2 : 0 < lg_cmp x hi
    · rw [if_pos h2, if_neg (fun h => Int64.not_lt.mpr h.2 ((lc_gt _ _).mp h2))]; rfl
    · rw [if_neg h2, if_pos ⟨Int64.not_lt.mp (fun h => h1 ((lc_lt _ _).mpr h)), Int64.not_lt.mp (fun h => h2 ((lc_gt _ _).mpr h))⟩]; rfl
theorem l_le (x y : Int32) : x.toInt64 ≤ y.toInt64 ↔ x ≤ y := by
  rw [Int64.le_iff_toInt_le, Int32.toInt_toInt64, Int32.toInt_toInt64, Int32.le_iff_toInt_le]
theorem in_i (x lo hi : Int32) (σ : ST) : fX6_in x.toInt64 lo.toInt64 hi.toInt64 σ = some (if lo ≤ x ∧ x ≤ hi then 1 else 0) := by
  rw [in_l]
  simp only [l_le]
theorem isS_c {τ : ST} {n : Nat} (hn : τ.1 36 3 = nI n) (h : n ≤ 8) (x : Int32) : (fX6_isSender x τ = some 0 ∧ ∀ s, s < n → x ≠ nI s) ∨ ∃ s, s < n ∧ x = nI s ∧ fX6_isSender x τ = some 1 := by
  unfold fX6_isSender
  rw [show (0 : Int64) = (0 : Int32).toInt64 from rfl, in_i, bR_t, hn]
  rcases pk_ix x (show n < 2 ^ 31 by omega) with h1 | h1 | ⟨s, hs, rfl⟩
  · left
    refine ⟨by rw [if_neg (fun hh => absurd h1 (Int32.not_lt.mpr hh.1))]; rfl, fun s hs e => nI_pos (show s < 2 ^ 31 by omega) (e ▸ h1)⟩
  · left
    refine ⟨?_, fun s hs e => nI_ge hs (by omega) (e ▸ h1)⟩
    have : ¬ (0 ≤ x ∧ x ≤ nI n - 1) := by
      match n, h, h1 with
      | 0, _, _ => exact fun hh => absurd (Int32.le_trans hh.1 hh.2) (by decide)
      | n + 1, _, h1 =>
        rw [nI_pred]
        exact fun hh => nI_ge (show n < n + 1 by omega) (by omega) (Int32.le_trans h1 hh.2)
    rw [if_neg this]; rfl
  · right
    refine ⟨s, hs, rfl, ?_⟩
    match n, h, hs with
    | n + 1, _, hs => rw [nI_pred, if_pos ⟨nI_pos' (by omega), nI_le (by omega) (by omega)⟩]; rfl
theorem isR_c {τ : ST} {n : Nat} (hn : τ.1 36 7 = nI n) (h : n ≤ 8) (x : Int32) : (fX6_isReturner x τ = some 0 ∧ ∀ s, s < n → x ≠ nI s) ∨ ∃ s, s < n ∧ x = nI s ∧ fX6_isReturner x τ = some 1 := by
  unfold fX6_isReturner
  rw [show (0 : Int64) = (0 : Int32).toInt64 from rfl, in_i, bR_t, hn]
  rcases pk_ix x (show n < 2 ^ 31 by omega) with h1 | h1 | ⟨s, hs, rfl⟩
  · left
    refine ⟨by rw [if_neg (fun hh => absurd h1 (Int32.not_lt.mpr hh.1))]; rfl, fun s hs e => nI_pos (show s < 2 ^ 31 by omega) (e ▸ h1)⟩
  · left
    refine ⟨?_, fun s hs e => nI_ge hs (by omega) (e ▸ h1)⟩
    have : ¬ (0 ≤ x ∧ x ≤ nI n - 1) := by
      match n, h, h1 with
      | 0, _, _ => exact fun hh => absurd (Int32.le_trans hh.1 hh.2) (by decide)
      | n + 1, _, h1 =>
        rw [nI_pred]
        exact fun hh => nI_ge (show n < n + 1 by omega) (by omega) (Int32.le_trans h1 hh.2)
    rw [if_neg this]; rfl
  · right
    refine ⟨s, hs, rfl, ?_⟩
    match n, h, hs with
    | n + 1, _, hs => rw [nI_pred, if_pos ⟨nI_pos' (by omega), nI_le (by omega) (by omega)⟩]; rfl
