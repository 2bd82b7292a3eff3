/-! What the printed functions are made of; a local may be forgotten. -/
def gd {β : Type} (b : Bool) (x : Option β) : Option β := match b with
  | true => x
  | false => none
def bI {β : Type} (o : Option (Int32 × ST)) (f : Int32 → ST → Option β) : Option β := match o with
  | some (a, τ) => f a τ
  | none => none
def bJ {β : Type} (o : Option (Int64 × ST)) (f : Int64 → ST → Option β) : Option β := match o with
  | some (a, τ) => f a τ
  | none => none
def bR {α β : Type} (o : Option α) (f : α → Option β) : Option β := match o with
  | some a => f a
  | none => none
def bO {β : Type} (o : Option Nat) (a : Option β) (f : Nat → Option β) : Option β := match o with
  | none => a
  | some k => f k
theorem gd_some {β : Type} {b : Bool} {x : Option β} {r : β} (h : gd b x = some r) : b = true ∧ x = some r := by
  unfold gd at h
  split at h
  · exact ⟨rfl, h⟩
  · cases h
theorem bI_some {β : Type} {o : Option (Int32 × ST)} {f : Int32 → ST → Option β} {r : β} (h : bI o f = some r) : ∃ a τ, o = some (a, τ) ∧ f a τ = some r := by
  unfold bI at h
  split at h
  · exact ⟨_, _, rfl, h⟩
  · cases h
theorem bJ_some {β : Type} {o : Option (Int64 × ST)} {f : Int64 → ST → Option β} {r : β} (h : bJ o f = some r) : ∃ a τ, o = some (a, τ) ∧ f a τ = some r := by
  unfold bJ at h
  split at h
  · exact ⟨_, _, rfl, h⟩
  · cases h
theorem bR_some {α β : Type} {o : Option α} {f : α → Option β} {r : β} (h : bR o f = some r) : ∃ a, o = some a ∧ f a = some r := by
  unfold bR at h
  split at h
  · exact ⟨_, rfl, h⟩
  · cases h
theorem gd_t {β : Type} (x : Option β) : gd true x = x := rfl
theorem bI_t {β : Type} (a : Int32) (τ : ST) (f : Int32 → ST → Option β) : bI (some (a, τ)) f = f a τ := rfl
theorem bJ_t {β : Type} (a : Int64) (τ : ST) (f : Int64 → ST → Option β) : bJ (some (a, τ)) f = f a τ := rfl
theorem bR_t {α β : Type} (a : α) (f : α → Option β) : bR (some a) f = f a := rfl
theorem bO_n {β : Type} (a : Option β) (f : Nat → Option β) : bO none a f = a := rfl
theorem bO_s {β : Type} (k : Nat) (a : Option β) (f : Nat → Option β) : bO (some k) a f = f k := rfl
def imin (x y : Int32) : Int32 := if y < x then y else x
def iabs (x : Int32) : Int32 := if 0 ≤ x then x else 0 - x
/-- how often a loop may go round in a printed function -/
def FU : Nat := 4000
def subL (a b : List (Option Value)) : Prop := match a, b with
  | [], [] => True
  | none :: a, _ :: b => subL a b
  | some v :: a, x :: b => x = some v ∧ subL a b
  | _, _ => False
theorem subL_len : ∀ (a b : List (Option Value)), subL a b → a.length = b.length ∧ ∀ (i : Nat) (v : Value), a[i]? = some (some v) → b[i]? = some (some v)
  | [], [], _ => ⟨rfl, fun i v h => h⟩
  | none :: a, x :: b, h => by
    obtain ⟨h1, h2⟩ := subL_len a b (by simpa [subL] using h)
    refine ⟨by simp [h1], fun i v hi => ?_⟩
    match i, hi with
    | 0, hi => simp at hi
    | i + 1, hi => simpa using h2 i v (by simpa using hi)
  | some w :: a, x :: b, h => by
    have h' : x = some w ∧ subL a b := by simpa [subL] using h
    obtain ⟨h1, h2⟩ := subL_len a b h'.2
    refine ⟨by simp [h1], fun i v hi => ?_⟩
    match i, hi with
    | 0, hi => simp at hi; subst hi; simp [h'.1]
    | i + 1, hi => simpa using h2 i v (by simpa using hi)
  | [], _ :: _, h => by simp [subL] at h
  | none :: _, [], h => by simp [subL] at h
  | some _ :: _, [], h => by simp [subL] at h
section DROP
variable {l : Launch} {ow nL fr lo pc : Nat} {cc : ByteArray} {V : Nat → List (Option Value) → List Value → ST → Prop} {ls ls' : List (Option Value)} {st rest : List Value} {σ : ST}
theorem BD.drop (h : BD l ow cc nL fr lo V) (hs : subL ls' ls) (k : V pc ls' st σ) : V pc ls st σ := by
  obtain ⟨p, e, R, s, m, args, below, meth, c, cells, slots, Q, D, q, cA, A, hC, -, -, -, -, rfl⟩ := h
  intro H locs lsA hP hD hS hL
  obtain ⟨h1, h2⟩ := subL_len _ _ hs
  exact k H locs lsA hP hD hS ⟨h1.trans hL.1, hL.2.1, hL.2.2.1, fun i v hi => hL.2.2.2 i v (h2 i v hi)⟩
theorem BD.nmin (h : BD l ow cc nL fr lo V) {idx : Nat} {x y : Int32} (hlk : Jvm.Cond.methodLink (RN ow) idx Lib.Math.min.name ∈ AW) (hd : decode cc pc = .ok (.invokestatic idx, 3)) (hfr : 1 ≤ fr) (hlo : (rest.map fun v => v.category).sum + 13 ≤ lo) (k : V (pc + 3) ls (.int (imin x y) :: rest) σ) : V pc ls (.int y :: .int x :: rest) σ := h.mmin hlk hd hfr hlo k
theorem BD.nabs (h : BD l ow cc nL fr lo V) {idx : Nat} {x : Int32} (hlk : Jvm.Cond.methodLink (RN ow) idx Lib.Math.abs.name ∈ AW) (hd : decode cc pc = .ok (.invokestatic idx, 3)) (hfr : 1 ≤ fr) (hlo : (rest.map fun v => v.category).sum + 13 ≤ lo) (k : V (pc + 3) ls (.int (iabs x) :: rest) σ) : V pc ls (.int x :: rest) σ := h.mabs hlk hd hfr hlo k
end DROP
/-- a switch: x is none of the numbers from lw to hi -/
theorem sw_out {x : Int32} {lw hi : Int} (h : ∀ i : Int, lw ≤ i → i ≤ hi → x.toInt ≠ i) : x.toInt < lw ∨ hi < x.toInt := by
  by_cases h1 : x.toInt < lw
  · exact Or.inl h1
  · by_cases h2 : hi < x.toInt
    · exact Or.inr h2
    · exact absurd rfl (h x.toInt (by omega) (by omega))
theorem sw_ne {x v : Int32} {i : Int} (h : ¬ x = v) (hv : v.toInt = i) : x.toInt ≠ i := fun e => h (Int32.toInt_inj.mp (e.trans hv.symm))
theorem kd_0 : kd 0 = 5 := rfl
theorem kd_1 : kd 1 = 0 := rfl
theorem kd_2 : kd 2 = 0 := rfl
theorem kd_3 : kd 3 = 1 := rfl
theorem kd_4 : kd 4 = 2 := rfl
theorem kd_5 : kd 5 = 13 := rfl
theorem kd_6 : kd 6 = 4 := rfl
theorem kd_7 : kd 7 = 10 := rfl
theorem kd_8 : kd 8 = 4 := rfl
theorem kd_9 : kd 9 = 10 := rfl
theorem kd_10 : kd 10 = 4 := rfl
theorem kd_11 : kd 11 = 10 := rfl
theorem kd_12 : kd 12 = 4 := rfl
theorem kd_13 : kd 13 = 10 := rfl
theorem kd_14 : kd 14 = 4 := rfl
theorem kd_15 : kd 15 = 10 := rfl
theorem kd_16 : kd 16 = 4 := rfl
theorem kd_17 : kd 17 = 10 := rfl
theorem kd_18 : kd 18 = 4 := rfl
theorem kd_19 : kd 19 = 10 := rfl
theorem kd_20 : kd 20 = 3 := rfl
theorem kd_21 : kd 21 = 10 := rfl
theorem kd_22 : kd 22 = 3 := rfl
theorem kd_23 : kd 23 = 10 := rfl
theorem kd_24 : kd 24 = 3 := rfl
theorem kd_25 : kd 25 = 10 := rfl
theorem kd_26 : kd 26 = 3 := rfl
theorem kd_27 : kd 27 = 10 := rfl
theorem kd_28 : kd 28 = 3 := rfl
theorem kd_29 : kd 29 = 10 := rfl
theorem kd_30 : kd 30 = 3 := rfl
theorem kd_31 : kd 31 = 10 := rfl
theorem kd_32 : kd 32 = 3 := rfl
theorem kd_33 : kd 33 = 10 := rfl
theorem kd_34 : kd 34 = 3 := rfl
theorem kd_35 : kd 35 = 10 := rfl
theorem kd_36 : kd 36 = 6 := rfl
theorem kd_37 : kd 37 = 10 := rfl
theorem kd_38 : kd 38 = 10 := rfl
theorem kd_39 : kd 39 = 10 := rfl
theorem kd_40 : kd 40 = 10 := rfl
theorem kd_41 : kd 41 = 10 := rfl
theorem kd_42 : kd 42 = 10 := rfl
theorem kd_43 : kd 43 = 10 := rfl
theorem kd_44 : kd 44 = 10 := rfl
theorem kd_45 : kd 45 = 10 := rfl
theorem kd_46 : kd 46 = 10 := rfl
theorem kd_47 : kd 47 = 10 := rfl
theorem kd_48 : kd 48 = 10 := rfl
theorem kd_49 : kd 49 = 10 := rfl
theorem kd_50 : kd 50 = 10 := rfl
theorem kd_51 : kd 51 = 10 := rfl
theorem kd_52 : kd 52 = 10 := rfl
theorem kd_53 : kd 53 = 11 := rfl
theorem kd_54 : kd 54 = 10 := rfl
theorem kd_55 : kd 55 = 10 := rfl
theorem kd_56 : kd 56 = 10 := rfl
theorem kd_57 : kd 57 = 10 := rfl
theorem kd_58 : kd 58 = 10 := rfl
theorem kd_59 : kd 59 = 10 := rfl
theorem kd_60 : kd 60 = 10 := rfl
theorem kd_61 : kd 61 = 10 := rfl
theorem kd_62 : kd 62 = 10 := rfl
theorem kd_63 : kd 63 = 10 := rfl
theorem kd_64 : kd 64 = 10 := rfl
theorem kd_65 : kd 65 = 12 := rfl
theorem kd_66 : kd 66 = 12 := rfl
theorem kd_67 : kd 67 = 12 := rfl
theorem al_5 : alen 5 = 8 := rfl
theorem al_7 : alen 7 = 24 := rfl
theorem al_9 : alen 9 = 40 := rfl
theorem al_11 : alen 11 = 600 := rfl
theorem al_13 : alen 13 = 24 := rfl
theorem al_15 : alen 15 = 40 := rfl
theorem al_17 : alen 17 = 600 := rfl
theorem al_19 : alen 19 = 204 := rfl
theorem al_21 : alen 21 = 100 := rfl
theorem al_23 : alen 23 = 100 := rfl
theorem al_25 : alen 25 = 100 := rfl
theorem al_27 : alen 27 = 100 := rfl
theorem al_29 : alen 29 = 100 := rfl
theorem al_31 : alen 31 = 100 := rfl
theorem al_33 : alen 33 = 100 := rfl
theorem al_35 : alen 35 = 100 := rfl
theorem al_37 : alen 37 = 8 := rfl
theorem al_38 : alen 38 = 8 := rfl
theorem al_39 : alen 39 = 8 := rfl
theorem al_40 : alen 40 = 8 := rfl
theorem al_41 : alen 41 = 8 := rfl
theorem al_42 : alen 42 = 8 := rfl
theorem al_43 : alen 43 = 8 := rfl
theorem al_44 : alen 44 = 8 := rfl
theorem al_45 : alen 45 = 8 := rfl
theorem al_46 : alen 46 = 8 := rfl
theorem al_47 : alen 47 = 64 := rfl
theorem al_48 : alen 48 = 100 := rfl
theorem al_49 : alen 49 = 100 := rfl
theorem al_50 : alen 50 = 100 := rfl
theorem al_51 : alen 51 = 100 := rfl
theorem al_52 : alen 52 = 100 := rfl
theorem al_53 : alen 53 = 100 := rfl
theorem al_54 : alen 54 = 50 := rfl
theorem al_55 : alen 55 = 50 := rfl
theorem al_56 : alen 56 = 200 := rfl
theorem al_57 : alen 57 = 780 := rfl
theorem al_58 : alen 58 = 8 := rfl
theorem al_59 : alen 59 = 8 := rfl
theorem al_60 : alen 60 = 8 := rfl
theorem al_61 : alen 61 = 8 := rfl
theorem al_62 : alen 62 = 8 := rfl
theorem al_63 : alen 63 = 8 := rfl
theorem al_64 : alen 64 = 8 := rfl
theorem al_65 : alen 65 = 800 := rfl
theorem al_66 : alen 66 = 100 := rfl
theorem al_67 : alen 67 = 1 := rfl
