def sgn (a b : Int32) : Int32 := if a = b then 0 else if b ≤ a then 1 else -1
theorem sgn5 {d n i j : Nat} {σ T : ST} (h : RW d n σ T) (hi : i < n) (hj : j < n) : fX3_signOf (20 + 2 * d) (nI i) (nI j) σ = some (sgn (σ.1 (21 + 2 * d) i) (σ.1 (21 + 2 * d) j)) := by
  obtain ⟨hd, hn, h1, h2, h3⟩ := h
  unfold fX3_signOf sgn
  rw [read_el hd hn h1 hi, bR_t, read_el hd hn h1 hj, bR_t]
  by_cases a : σ.1 (21 + 2 * d) i = σ.1 (21 + 2 * d) j
  · rw [if_pos a, if_pos a]
  · rw [if_neg a, if_neg a]
    by_cases b : σ.1 (21 + 2 * d) j ≤ σ.1 (21 + 2 * d) i
    · rw [if_pos b, if_pos b]; rfl
    · rw [if_neg b, if_neg b]; rfl
theorem sgn6 {d n i j : Nat} {σ T : ST} (h : RW d n σ T) (hi : i < n) (hj : j < n) : fX6_signOf (nI d) (nI i) (nI j) T = some (sgn (σ.1 (21 + 2 * d) i) (σ.1 (21 + 2 * d) j)) := by
  obtain ⟨hd, hn, h1, h2, h3⟩ := h
  obtain ⟨j1, j2⟩ := ix800 hd (show i < 100 by omega)
  obtain ⟨k1, k2⟩ := ix800 hd (show j < 100 by omega)
  unfold fX6_signOf
  rw [al_65, j1, k1, gd_t, gd_t, j2, k2, h3 i (by omega), h3 j (by omega)]
  generalize σ.1 (21 + 2 * d) i = a
  generalize σ.1 (21 + 2 * d) j = b
  unfold sgn lg_cmp
  have hle := l_le a b
  have hle' := l_le b a
  by_cases c : a.toInt64 > b.toInt64
  · have c1 : ¬ a = b := fun e => by rw [e] at c; exact Int64.lt_irrefl c
    have c2 : b ≤ a := hle'.mp (Int64.le_of_lt c)
    rw [if_pos c, if_neg c1, if_pos c2]; rfl
  · rw [if_neg c]
    by_cases e : a = b
    · have q : a.toInt64 = b.toInt64 := by rw [e]
      rw [if_pos q, if_pos e]; rfl
    · have e' : ¬ a.toInt64 = b.toInt64 := fun q => e (Int32.le_antisymm (hle.mp (by rw [q]; exact Int64.le_refl _)) (hle'.mp (by rw [q]; exact Int64.le_refl _)))
      have c2 : ¬ b ≤ a := fun q => e (Int32.le_antisymm (hle.mp (Int64.not_lt.mp c)) q)
      rw [if_neg e', if_neg e, if_neg c2]; rfl
theorem fs_add (f g : Nat → Int32) : ∀ n, fs (fun i => f i + g i) n = fs f n + fs g n
  | 0 => by rw [fs, fs, fs]; rfl
  | n + 1 => by rw [fs, fs, fs, fs_add f g n]; grind
theorem fs_z {f : Nat → Int32} : ∀ n, (∀ i, i < n → f i = 0) → fs f n = 0
  | 0, _ => rfl
  | n + 1, h => by rw [fs, fs_z n (fun i hi => h i (by omega)), h n (by omega)]; rfl
theorem tri (S : Nat → Nat → Int32) : ∀ n, fs (fun i => fs (fun j => if i < j then S i j else 0) n) n = fs (fun j => fs (fun i => S i j) j) n
  | 0 => rfl
  | n + 1 => by
    have ih := tri S n
    rw [show fs (fun j => fs (fun i => S i j) j) (n + 1) = fs (fun j => fs (fun i => S i j) j) n + fs (fun i => S i n) n from rfl, ← ih]
    rw [show fs (fun i => fs (fun j => if i < j then S i j else 0) (n + 1)) (n + 1) = fs (fun i => fs (fun j => if i < j then S i j else 0) n + (if i < n then S i n else 0)) n + fs (fun j => if n < j then S n j else 0) (n + 1) from rfl, fs_add, fs_z (f := fun j => if n < j then S n j else 0) (n + 1) (fun j hj => if_neg (by omega)), Int32.add_zero]
    rw [fs_ext (f := fun i => if i < n then S i n else 0) (g := fun i => S i n) n (fun i hi => if_pos hi)]
