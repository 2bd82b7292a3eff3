/-! THE LAYER: the whole heap as one value (ints and longs by place and index), an interpreter of straight stretches over it, and its soundness by the kit's rows. -/
abbrev ST : Type := (Nat → Nat → Int32) × (Nat → Nat → Int64)
def setI (σ : ST) (k j : Nat) (x : Int32) : ST := (fun a b => if a = k ∧ b = j then x else σ.1 a b, σ.2)
def setL (σ : ST) (k j : Nat) (x : Int64) : ST := (σ.1, fun a b => if a = k ∧ b = j then x else σ.2 a b)
def cpyI (σ : ST) (a0 a1 sp dp n : Nat) : ST := (fun a b => if a = a1 then va_cpy (σ.1 a0) (σ.1 a1) sp dp n b else σ.1 a b, σ.2)
def cnc (q : Nat → Nat) (v : Value) : Value := match v with
  | .ref k => .ref (q k)
  | v => v
theorem cnc_cat (q : Nat → Nat) (v : Value) : (cnc q v).category = v.category := by cases v <;> rfl
def fval (ci k j : Nat) (σ : ST) : Value := match rfN ci j with
  | true => .ref (rfv ci k j)
  | false => .int (σ.1 k j)
def cellG (q : Nat → Nat) (cA : Nat → ClassId) (σ : ST) (k : Nat) : va_E :=
  if kd k < 7 then .inr (kd k, (List.range (NN (kd k))).map fun j => cnc q (fval (kd k) k j σ))
  else if kd k = 10 then .inl (cA 0, alen k, .inl (σ.1 k))
  else if kd k = 11 then .inl (cA 1, alen k, .inl (σ.1 k))
  else if kd k = 12 then .inl (cA 2, alen k, .inr (.inl (σ.2 k)))
  else .inl (cA 3, 8, .inr (.inr (.inr (.inr fun j => some (q (20 + 2 * j))))))
theorem cellG_obj {q : Nat → Nat} {cA : Nat → ClassId} {σ : ST} {k ci : Nat} (h : kd k = ci) (hc : ci < 7) : cellG q cA σ k = .inr (ci, (List.range (NN ci)).map fun j => cnc q (fval ci k j σ)) := by
  subst h; simp only [cellG, hc, if_true]
theorem cellG_I {q : Nat → Nat} {cA : Nat → ClassId} {σ : ST} {k : Nat} (h : kd k = 10) : cellG q cA σ k = .inl (cA 0, alen k, .inl (σ.1 k)) := by
  simp [cellG, h]
theorem cellG_Z {q : Nat → Nat} {cA : Nat → ClassId} {σ : ST} {k : Nat} (h : kd k = 11) : cellG q cA σ k = .inl (cA 1, alen k, .inl (σ.1 k)) := by
  simp [cellG, h]
theorem cellG_J {q : Nat → Nat} {cA : Nat → ClassId} {σ : ST} {k : Nat} (h : kd k = 12) : cellG q cA σ k = .inl (cA 2, alen k, .inr (.inl (σ.2 k))) := by
  simp [cellG, h]
theorem cellG_S {q : Nat → Nat} {cA : Nat → ClassId} {σ : ST} {k : Nat} (h : kd k = 13) : cellG q cA σ k = .inl (cA 3, 8, .inr (.inr (.inr (.inr fun j => some (q (20 + 2 * j)))))) := by
  simp [cellG, h]
theorem cellG_ext {q : Nat → Nat} {cA : Nat → ClassId} {σ τ : ST} {k : Nat} (h1 : σ.1 k = τ.1 k) (h2 : σ.2 k = τ.2 k) : cellG q cA σ k = cellG q cA τ k := by
  simp only [cellG, fval, h1, h2]
def wG (q : Nat → Nat) (cA : Nat → ClassId) (σ : ST) : va_W := (List.range 68).map fun k => (q k, cellG q cA σ k)
theorem wG_at {q : Nat → Nat} {cA : Nat → ClassId} {σ : ST} {k : Nat} (h : k < 68) : (wG q cA σ)[k]? = some (q k, cellG q cA σ k) := by
  simp [wG, h]
theorem wG_set {q : Nat → Nat} {cA : Nat → ClassId} {σ τ : ST} {k : Nat} {e : va_E} (h : k < 68) (he : cellG q cA τ k = e) (ho : ∀ j, j ≠ k → σ.1 j = τ.1 j ∧ σ.2 j = τ.2 j) : (wG q cA σ).set k (q k, e) = wG q cA τ := by
  apply List.ext_getElem?
  intro i
  rw [List.getElem?_set]
  by_cases hi : k = i
  · subst hi
    simp [wG, h, he]
  · rw [if_neg hi]
    by_cases h2 : i < 68
    · rw [wG_at h2, wG_at h2, cellG_ext (ho i (fun h => hi h.symm)).1 (ho i (fun h => hi h.symm)).2]
    · simp [wG, h2]
def tysG (cA : Nat → ClassId) : List (ClassId × FieldType) := [(cA 0, .int), (cA 1, .boolean), (cA 2, .long), (cA 3, .object "ThreeTimes$Shelf")]
def KK (D : va_G) (cA : Nat → ClassId) (U : State) : Prop := va_K D cl7 (tysG cA) U ∧ ∀ w ∈ NW, va_Nw w U
theorem nw_onTables {w : Jvm.Cond} (h : w ∈ NW) : w.onTables = true := by
  have h2 := (List.mem_filter.mp h).2
  unfold isNest at h2
  split at h2
  · rfl
  · rfl
  · cases h2
theorem nw_warm {s U : State} (hW : s.WarmedH U.vm) (h : ∀ w ∈ NW, va_Nw w s) : ∀ w ∈ NW, va_Nw w U := by
  intro w hw
  have h2 := (List.mem_filter.mp hw).2
  have h3 := h w hw
  unfold isNest at h2
  split at h2
  · exact va_Nw.warmF hW h3
  · exact va_Nw.warmM hW h3
  · cases h2
def LH (q : Nat → Nat) (ls : List (Option Value)) (nL : Nat) (lsA : Array Slot) : Prop := ls.length = nL ∧ lsA.size = nL ∧ lv_wf lsA ∧ ∀ (i : Nat) (v : Value), ls[i]? = some (some v) → lsA[i]? = some (.val (cnc q v))
def lvs (q : Nat → Nat) (ls : List (Option Value)) : List (Nat × Value) := (List.range ls.length).filterMap fun i => match ls[i]? with
  | some (some v) => some (i, cnc q v)
  | _ => none
theorem lvs_mem {q : Nat → Nat} {ls : List (Option Value)} {p : Nat × Value} : p ∈ lvs q ls ↔ ∃ v, ls[p.1]? = some (some v) ∧ p.2 = cnc q v := by
  unfold lvs
  rw [List.mem_filterMap]
  constructor
  · rintro ⟨i, hi, h⟩
    split at h
    · next v hv =>
      cases h
      exact ⟨v, hv, rfl⟩
    · cases h
  · rintro ⟨v, hv, hp⟩
    refine ⟨p.1, List.mem_range.mpr (List.getElem?_eq_some_iff.mp hv).1, ?_⟩
    rw [hv]
    show some (p.1, cnc q v) = some p
    rw [← hp]
theorem LH_has {q : Nat → Nat} {ls : List (Option Value)} {nL : Nat} {lsA : Array Slot} (h : LH q ls nL lsA) : lv_has lsA nL (lvs q ls) := by
  refine ⟨h.2.1, h.2.2.1, ?_⟩
  intro p hp
  obtain ⟨v, hv, he⟩ := lvs_mem.mp hp
  rw [he]
  exact h.2.2.2 _ _ hv
def prevOK (ls : List (Option Value)) (i : Nat) : Bool := match i with
  | 0 => true
  | k + 1 => match ls[k]? with
    | some (some (.long _)) => false
    | some (some (.double _)) => false
    | _ => true
theorem prevOK_cat {ls : List (Option Value)} {i k : Nat} {v : Value} (h : prevOK ls i = true) (hk : k + 1 = i) (hv : ls[k]? = some (some v)) : v.category = 1 := by
  subst hk
  unfold prevOK at h
  simp only at h
  rw [hv] at h
  cases v <;> simp_all [Value.category]
theorem LH_st1 {q : Nat → Nat} {ls : List (Option Value)} {nL i : Nat} {v : Value} {lsA : Array Slot} (hl : ls.length = nL) (hp : prevOK ls i = true)
    (h : lv_has lsA nL ((i, cnc q v) :: (lvs q ls).filter (fun p => !(p.1 == i) && !(p.1 + 1 == i && p.2.category == 2)))) : LH q (ls.set i (some v)) nL lsA := by
  refine ⟨by rw [List.length_set]; exact hl, h.1, h.2.1, ?_⟩
  intro k x hx
  rw [List.getElem?_set] at hx
  by_cases hk : i = k
  · subst hk
    rw [if_pos rfl] at hx
    split at hx
    · cases hx
      exact h.2.2 (i, cnc q v) List.mem_cons_self
    · cases hx
  · rw [if_neg hk] at hx
    refine h.2.2 (k, cnc q x) (List.mem_cons_of_mem _ (List.mem_filter.mpr ⟨lvs_mem.mpr ⟨x, hx, rfl⟩, ?_⟩))
    by_cases hk2 : k + 1 = i
    · have := prevOK_cat hp hk2 hx
      simp [cnc_cat, this, hk2, Ne.symm hk]
    · simp [hk2, Ne.symm hk]
theorem LH_st2 {q : Nat → Nat} {ls : List (Option Value)} {nL i : Nat} {v : Value} {lsA : Array Slot} (hl : ls.length = nL) (hp : prevOK ls i = true)
    (h : lv_has lsA nL ((i, cnc q v) :: (lvs q ls).filter (fun p => !(p.1 == i) && (!(p.1 == i + 1) && !(p.1 + 1 == i && p.2.category == 2))))) : LH q ((ls.set i (some v)).set (i + 1) none) nL lsA := by
  refine ⟨by rw [List.length_set, List.length_set]; exact hl, h.1, h.2.1, ?_⟩
  intro k x hx
  rw [List.getElem?_set] at hx
  by_cases hk1 : i + 1 = k
  · subst hk1
    rw [if_pos rfl] at hx
    split at hx <;> cases hx
  rw [if_neg hk1, List.getElem?_set] at hx
  by_cases hk : i = k
  · subst hk
    rw [if_pos rfl] at hx
    split at hx
    · cases hx
      exact h.2.2 (i, cnc q v) List.mem_cons_self
    · cases hx
  · rw [if_neg hk] at hx
    refine h.2.2 (k, cnc q x) (List.mem_cons_of_mem _ (List.mem_filter.mpr ⟨lvs_mem.mpr ⟨x, hx, rfl⟩, ?_⟩))
    by_cases hk2 : k + 1 = i
    · have := prevOK_cat hp hk2 hx
      simp [cnc_cat, this, hk2, Ne.symm hk, Ne.symm hk1]
    · simp [hk2, Ne.symm hk, Ne.symm hk1]
/-! ### the interpreter -/
def inb (i : Int32) (n : Nat) : Bool := decide (0 ≤ i) && decide (i.toNatClampNeg < n)
theorem inb_in {i : Int32} {n : Nat} (h : inb i n = true) : vp_in i n := by
  simp only [inb, Bool.and_eq_true, decide_eq_true_eq] at h
  intro h2
  rcases h2 with h2 | h2
  · exact absurd h.1 (Int32.not_le.mpr h2)
  · omega
def isb (x : Int32) : Bool := decide (x = 0) || decide (x = 1)
theorem isb_cases {x : Int32} (h : isb x = true) : x = 0 ∨ x = 1 := by simpa [isb] using h
/-- an instruction, its length, a number, a long, a class, a slot -/
abbrev IT : Type := Instr × Nat × Int32 × Int64 × Nat × Nat
abbrev AR : Type := List Prop × List (Option Value) × List Value × ST
def conj (o : List Prop) : Prop := match o with
  | [] => True
  | p :: r => p ∧ conj r
theorem conj_app {a b : List Prop} (h : conj (a ++ b)) : conj a ∧ conj b := by
  induction a with
  | nil => exact ⟨trivial, h⟩
  | cons x r ih => exact ⟨⟨h.1, (ih h.2).1⟩, (ih h.2).2⟩
def ldI (ls : List (Option Value)) (i : Nat) (st : List Value) (σ : ST) : Option AR := match ls[i]? with
  | some (some (.int x)) => some ([], ls, .int x :: st, σ)
  | _ => none
def ldL (ls : List (Option Value)) (i : Nat) (st : List Value) (σ : ST) : Option AR := match ls[i]? with
  | some (some (.long x)) => some ([], ls, .long x :: st, σ)
  | _ => none
def ldA (ls : List (Option Value)) (i : Nat) (st : List Value) (σ : ST) : Option AR := match ls[i]? with
  | some (some (.ref x)) => some ([], ls, .ref x :: st, σ)
  | some (some .null) => some ([], ls, .null :: st, σ)
  | _ => none
def stI (ls : List (Option Value)) (i : Nat) (st : List Value) (σ : ST) : Option AR := match ls[i]?, prevOK ls i, st with
  | some _, true, .int x :: r => some ([], ls.set i (some (.int x)), r, σ)
  | _, _, _ => none
def stL (ls : List (Option Value)) (i : Nat) (st : List Value) (σ : ST) : Option AR := match ls[i + 1]?, prevOK ls i, st with
  | some _, true, .long x :: r => some ([], (ls.set i (some (.long x))).set (i + 1) none, r, σ)
  | _, _, _ => none
def stA (ls : List (Option Value)) (i : Nat) (st : List Value) (σ : ST) : Option AR := match ls[i]?, prevOK ls i, st with
  | some _, true, .ref x :: r => some ([], ls.set i (some (.ref x)), r, σ)
  | some _, true, .null :: r => some ([], ls.set i (some .null), r, σ)
  | _, _, _ => none
def ast1 (i : Instr) (v : Int32) (w : Int64) (c j : Nat) (ls : List (Option Value)) (st : List Value) (σ : ST) : Option AR := match i with
  | .iconst _ => some ([], ls, .int v :: st, σ)
  | .bipush _ => some ([], ls, .int v :: st, σ)
  | .sipush _ => some ([], ls, .int v :: st, σ)
  | .ldc _ => some ([], ls, .int v :: st, σ)
  | .lconst _ => some ([], ls, .long w :: st, σ)
  | .ldc2_w _ => some ([], ls, .long w :: st, σ)
  | .aconst_null => some ([], ls, .null :: st, σ)
  | .iload_n k => ldI ls k.val st σ
  | .iload k => ldI ls k st σ
  | .lload_n k => ldL ls k.val st σ
  | .lload k => ldL ls k st σ
  | .aload_n k => ldA ls k.val st σ
  | .aload k => ldA ls k st σ
  | .istore_n k => stI ls k.val st σ
  | .istore k => stI ls k st σ
  | .lstore_n k => stL ls k.val st σ
  | .lstore k => stL ls k st σ
  | .astore_n k => stA ls k.val st σ
  | .astore k => stA ls k st σ
  | .iinc k _ => match ls[k]?, prevOK ls k with
    | some (some (.int x)), true => some ([], ls.set k (some (.int (x + v))), st, σ)
    | _, _ => none
  | .iadd => match st with
    | .int y :: .int x :: r => some ([], ls, .int (x + y) :: r, σ)
    | _ => none
  | .isub => match st with
    | .int y :: .int x :: r => some ([], ls, .int (x - y) :: r, σ)
    | _ => none
  | .imul => match st with
    | .int y :: .int x :: r => some ([], ls, .int (x * y) :: r, σ)
    | _ => none
  | .iand => match st with
    | .int y :: .int x :: r => some ([], ls, .int (x &&& y) :: r, σ)
    | _ => none
  | .idiv => match st with
    | .int y :: .int x :: r => some ([¬ y = 0], ls, .int (x / y) :: r, σ)
    | _ => none
  | .irem => match st with
    | .int y :: .int x :: r => some ([¬ y = 0], ls, .int (x - x / y * y) :: r, σ)
    | _ => none
  | .ineg => match st with
    | .int x :: r => some ([], ls, .int (-x) :: r, σ)
    | _ => none
  | .lmul => match st with
    | .long y :: .long x :: r => some ([], ls, .long (x * y) :: r, σ)
    | _ => none
  | .ldiv => match st with
    | .long y :: .long x :: r => some ([¬ y = 0], ls, .long (x / y) :: r, σ)
    | _ => none
  | .lcmp => match st with
    | .long y :: .long x :: r => some ([], ls, .int (lg_cmp x y) :: r, σ)
    | _ => none
  | .i2l => match st with
    | .int x :: r => some ([], ls, .long x.toInt64 :: r, σ)
    | _ => none
  | .l2i => match st with
    | .long x :: r => some ([], ls, .int x.toInt32 :: r, σ)
    | _ => none
  | .i2b => match st with
    | .int x :: r => some ([], ls, .int x.toInt8.toInt32 :: r, σ)
    | _ => none
  | .i2s => match st with
    | .int x :: r => some ([], ls, .int x.toInt16.toInt32 :: r, σ)
    | _ => none
  | .dup => match st with
    | .int x :: r => some ([], ls, .int x :: .int x :: r, σ)
    | .ref x :: r => some ([], ls, .ref x :: .ref x :: r, σ)
    | _ => none
  | .dup2 => match st with
    | .int x :: .ref y :: r => some ([], ls, .int x :: .ref y :: .int x :: .ref y :: r, σ)
    | _ => none
  | .pop => match st with
    | .int _ :: r => some ([], ls, r, σ)
    | _ => none
  | .goto _ => some ([], ls, st, σ)
  | .getfield _ => match st with
    | .ref k :: r => some ([kd k = c], ls, fval c k j σ :: r, σ)
    | _ => none
  | .putfield _ => match st with
    | .int x :: .ref k :: r => match Nat.blt c 100 with
      | true => some ([kd k = c], ls, r, setI σ k j x)
      | false => some ([kd k = c - 100, isb x = true], ls, r, setI σ k j x)
    | _ => none
  | .arraylength => match st with
    | .ref k :: r => some ([kd k = c], ls, .int (Int32.ofNat (alen k)) :: r, σ)
    | _ => none
  | .iaload => match st with
    | .int i :: .ref k :: r => some ([kd k = 10, inb i (alen k) = true], ls, .int (σ.1 k i.toNatClampNeg) :: r, σ)
    | _ => none
  | .baload => match st with
    | .int i :: .ref k :: r => some ([kd k = 11, inb i (alen k) = true], ls, .int (σ.1 k i.toNatClampNeg) :: r, σ)
    | _ => none
  | .laload => match st with
    | .int i :: .ref k :: r => some ([kd k = 12, inb i (alen k) = true], ls, .long (σ.2 k i.toNatClampNeg) :: r, σ)
    | _ => none
  | .aaload => match st with
    | .int i :: .ref k :: r => some ([kd k = 13, inb i 8 = true], ls, .ref (20 + 2 * i.toNatClampNeg) :: r, σ)
    | _ => none
  | .iastore => match st with
    | .int x :: .int i :: .ref k :: r => some ([kd k = 10, inb i (alen k) = true], ls, r, setI σ k i.toNatClampNeg x)
    | _ => none
  | .bastore => match st with
    | .int x :: .int i :: .ref k :: r => some ([kd k = 11, inb i (alen k) = true, isb x = true], ls, r, setI σ k i.toNatClampNeg x)
    | _ => none
  | .lastore => match st with
    | .long x :: .int i :: .ref k :: r => some ([kd k = 12, inb i (alen k) = true], ls, r, setL σ k i.toNatClampNeg x)
    | _ => none
  | _ => none
def okP (ow idx c j : Nat) : Bool := match Nat.blt c 100 with
  | true => okF ow idx c j && ((TN c j).2.2.1 == "I" && (TN c j).2.2.2 == false)
  | false => okF ow idx (c - 100) j && ((TN (c - 100) j).2.2.1 == "Z" && (TN (c - 100) j).2.2.2 == false)
def okA (ow pc : Nat) (i : Instr) (n : Nat) (v : Int32) (w : Int64) (c j : Nat) : Bool := match i with
  | .iconst k => n == 1 && decide (Int32.ofInt k = v)
  | .bipush k => n == 2 && decide ((Int8.ofInt k).toInt32 = v)
  | .sipush k => n == 3 && decide ((Int16.ofInt k).toInt32 = v)
  | .ldc k => n == 2 && okCI ow k v
  | .lconst d => n == 1 && decide (Int64.ofNat (d : Nat) = w)
  | .ldc2_w k => n == 3 && okCL ow k w
  | .iload _ => n == 2
  | .lload _ => n == 2
  | .aload _ => n == 2
  | .istore _ => n == 2
  | .lstore _ => n == 2
  | .astore _ => n == 2
  | .iinc _ k => n == 3 && decide (Int32.ofInt k = v)
  | .getfield idx => n == 3 && okF ow idx c j
  | .putfield idx => n == 3 && okP ow idx c j
  | .goto off => n == 3 && decide ((pc : Int) + off = (j : Int))
  | .arraylength => n == 1 && (c == 10 || c == 11 || c == 12 || c == 13)
  | _ => n == 1
def nxt (pc : Nat) (it : IT) : Nat := match it.1 with
  | .goto _ => it.2.2.2.2.2
  | _ => pc + it.2.1
def okI (ow : Nat) (cc : ByteArray) (pc : Nat) (it : IT) : Bool := decide (decode cc pc = .ok (it.1, it.2.1)) && okA ow pc it.1 it.2.1 it.2.2.1 it.2.2.2.1 it.2.2.2.2.1 it.2.2.2.2.2
def decBs (ow : Nat) (cc : ByteArray) (pc : Nat) (bl : List IT) (pc2 : Nat) : Bool := match bl with
  | [] => pc == pc2
  | it :: r => okI ow cc pc it && decBs ow cc (nxt pc it) r pc2
def abl (bl : List IT) (ls : List (Option Value)) (st : List Value) (σ : ST) : Option AR := match bl with
  | [] => some ([], ls, st, σ)
  | it :: r => match ast1 it.1 it.2.2.1 it.2.2.2.1 it.2.2.2.2.1 it.2.2.2.2.2 ls st σ with
    | none => none
    | some (o, ls1, st1, σ1) => match abl r ls1 st1 σ1 with
      | none => none
      | some (o2, ls2, st2, σ2) => some (o ++ o2, ls2, st2, σ2)
/-! ### the judgement -/
def CT (p : Program) (s : State) (m : MethodId) (args : Array Value) (c : Code) (D : va_G) (cA : Nat → ClassId) (A : Nat → Prop) (nL ow : Nat) (cc : ByteArray) : Prop :=
  p.tables.exec = Jvm.exec ∧ c.code = cc ∧ c.maxLocals = nL ∧ s.vm.findClass (RN ow) = some m.cls ∧ (∀ w ∈ AW, w.before args s = true) ∧ KK D cA s ∧ ∀ x, s.heap.size ≤ x → A x
def VV (p : Program) (l : Launch) (e : Env) (R : Room) (s : State) (m : MethodId) (args : Array Value) (below : List Frame) (meth : Method) (c : Code) (cells slots : Nat) (Q : State → Prop)
    (D : va_G) (q : Nat → Nat) (cA : Nat → ClassId) (A : Nat → Prop) (nL : Nat) (pc : Nat) (ls : List (Option Value)) (st : List Value) (σ : ST) : Prop :=
  ∀ (H : Heap) (locs : List Loc) (lsA : Array Slot), va_P D cl7 (wG q cA σ) H → va_D A (wG q cA σ) → va_S A s.heap H locs → LH q ls nL lsA → W p l e R s m args below meth c H locs cells slots Q (F0 m pc lsA (st.map (cnc q)))
