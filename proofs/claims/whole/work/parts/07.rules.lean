/-! THE RULES: what a method's walk may use, told of a predicate V alone; a method's contract KM. -/
def QK (D : va_G) (q : Nat → Nat) (cA : Nat → ClassId) (A : Nat → Prop) (v : Option Value) (τ : ST) : Array Value → State → Outcome → State → Prop := fun _ st oc t => (oc = .returned (v.map (cnc q)) ∧ va_P D cl7 (wG q cA τ) t.heap) ∧ va_F A st t
def PK (D : va_G) (q : Nat → Nat) (cA : Nat → ClassId) (sz : Nat) (as : List Value) (σ : ST) : Array Value → State → Prop := va_Pc (as.map (cnc q)) (fun U => U.heap.size = sz ∧ va_P D cl7 (wG q cA σ) U.heap ∧ KK D cA U ∧ va_D (fun _ => True) (wG q cA σ))
/-- a method's contract: at these arguments and this heap it answers v and leaves the heap τ; it makes no cell -/
def KM (l : Launch) (y : MethodName) (cc : ByteArray) (mL : Nat) (ret : Option FieldType) (fr lo : Nat) (as : List Value) (σ : ST) (v : Option Value) (τ : ST) : Prop :=
  ∀ (D : va_G) (q : Nat → Nat) (cA : Nat → ClassId) (sz : Nat), Met l y (.code y cc mL ret :: AW) { frames := fr, cells := 0, slots := 0, locals := lo } (PK D q cA sz as σ) (QK D q cA (va_A (wG q cA σ) sz) v τ) 0 0 (va_A (wG q cA σ) sz)
def BD (l : Launch) (ow : Nat) (cc : ByteArray) (nL fr lo : Nat) (V : Nat → List (Option Value) → List Value → ST → Prop) : Prop :=
  ∃ (p : Program) (e : Env) (R : Room) (s : State) (m : MethodId) (args : Array Value) (below : List Frame) (meth : Method) (c : Code) (cells slots : Nat) (Q : State → Prop) (D : va_G) (q : Nat → Nat) (cA : Nat → ClassId) (A : Nat → Prop),
    CT p s m args c D cA A nL ow cc ∧ R.frames = fr ∧ R.locals = lo ∧ cells ≤ R.cells ∧ slots ≤ R.slots ∧ V = VV p l e R s m args below meth c cells slots Q D q cA A nL
def BM (l : Launch) (ow : Nat) (cc : ByteArray) (nL : Nat) (ret : Option FieldType) (fr lo : Nat) (v : Option Value) (τ : ST) (V : Nat → List (Option Value) → List Value → ST → Prop) : Prop :=
  ∃ (p : Program) (e : Env) (R : Room) (s : State) (m : MethodId) (args : Array Value) (below : List Frame) (meth : Method) (c : Code) (D : va_G) (q : Nat → Nat) (cA : Nat → ClassId) (A : Nat → Prop),
    CT p s m args c D cA A nL ow cc ∧ R.frames = fr ∧ R.locals = lo ∧ meth.sig.returnType = ret ∧ meth.locks = false ∧ V = VV p l e R s m args below meth c 0 0 (MQ below (QK D q cA A v τ) args s 0 0 A) D q cA A nL
theorem BM.bd {l : Launch} {ow : Nat} {cc : ByteArray} {nL : Nat} {ret : Option FieldType} {fr lo : Nat} {v : Option Value} {τ : ST} {V : Nat → List (Option Value) → List Value → ST → Prop} (h : BM l ow cc nL ret fr lo v τ V) : BD l ow cc nL fr lo V := by
  obtain ⟨p, e, R, s, m, args, below, meth, c, D, q, cA, A, hC, hf, hl, -, -, hV⟩ := h
  exact ⟨p, e, R, s, m, args, below, meth, c, 0, 0, _, D, q, cA, A, hC, hf, hl, Nat.zero_le _, Nat.zero_le _, hV⟩
section RULES
variable {l : Launch} {ow nL fr lo pc : Nat} {cc : ByteArray} {V : Nat → List (Option Value) → List Value → ST → Prop} {ls ls' : List (Option Value)} {st st' : List Value} {σ σ' τ : ST} {o : List Prop}
theorem BD.run (h : BD l ow cc nL fr lo V) (bl : List IT) {pc2 : Nat} (hd : decBs ow cc pc bl pc2 = true) (he : abl bl ls st σ = some (o, ls', st', σ')) (ho : conj o) (k : V pc2 ls' st' σ') : V pc ls st σ := by
  obtain ⟨p, e, R, s, m, args, below, meth, c, cells, slots, Q, D, q, cA, A, hC, -, -, -, -, rfl⟩ := h
  exact V_run hC bl pc pc2 ls st σ o ls' st' σ' hd he ho k
theorem BD.if_eq (h : BD l ow cc nL fr lo V) {x : Int32} {off : Int} {tgt : Nat} (hd : decode cc pc = .ok (.ifCond .eq off, 3)) (ht : (pc : Int) + off = (tgt : Int)) (kt : x = 0 → V tgt ls st σ) (kf : ¬ x = 0 → V (pc + 3) ls st σ) : V pc ls (.int x :: st) σ := by
  obtain ⟨p, e, R, s, m, args, below, meth, c, cells, slots, Q, D, q, cA, A, ⟨hx, hb, -⟩, -, -, -, -, rfl⟩ := h
  intro H locs lsA hP hD hS hL
  exact lv_if_eq hx hb hd ht (fun z => kt z H locs lsA hP hD hS hL) (fun z => kf z H locs lsA hP hD hS hL)
theorem BD.icmp_eq (h : BD l ow cc nL fr lo V) {x y : Int32} {off : Int} {tgt : Nat} (hd : decode cc pc = .ok (.if_icmp .eq off, 3)) (ht : (pc : Int) + off = (tgt : Int)) (kt : x = y → V tgt ls st σ) (kf : ¬ x = y → V (pc + 3) ls st σ) : V pc ls (.int y :: .int x :: st) σ := by
  obtain ⟨p, e, R, s, m, args, below, meth, c, cells, slots, Q, D, q, cA, A, ⟨hx, hb, -⟩, -, -, -, -, rfl⟩ := h
  intro H locs lsA hP hD hS hL
  exact lv_icmp_eq hx hb hd ht (fun z => kt z H locs lsA hP hD hS hL) (fun z => kf z H locs lsA hP hD hS hL)
theorem BD.if_ne (h : BD l ow cc nL fr lo V) {x : Int32} {off : Int} {tgt : Nat} (hd : decode cc pc = .ok (.ifCond .ne off, 3)) (ht : (pc : Int) + off = (tgt : Int)) (kt : ¬ x = 0 → V tgt ls st σ) (kf : x = 0 → V (pc + 3) ls st σ) : V pc ls (.int x :: st) σ := by
  obtain ⟨p, e, R, s, m, args, below, meth, c, cells, slots, Q, D, q, cA, A, ⟨hx, hb, -⟩, -, -, -, -, rfl⟩ := h
  intro H locs lsA hP hD hS hL
  exact lv_if_ne hx hb hd ht (fun z => kt z H locs lsA hP hD hS hL) (fun z => kf z H locs lsA hP hD hS hL)
theorem BD.icmp_ne (h : BD l ow cc nL fr lo V) {x y : Int32} {off : Int} {tgt : Nat} (hd : decode cc pc = .ok (.if_icmp .ne off, 3)) (ht : (pc : Int) + off = (tgt : Int)) (kt : ¬ x = y → V tgt ls st σ) (kf : x = y → V (pc + 3) ls st σ) : V pc ls (.int y :: .int x :: st) σ := by
  obtain ⟨p, e, R, s, m, args, below, meth, c, cells, slots, Q, D, q, cA, A, ⟨hx, hb, -⟩, -, -, -, -, rfl⟩ := h
  intro H locs lsA hP hD hS hL
  exact lv_icmp_ne hx hb hd ht (fun z => kt z H locs lsA hP hD hS hL) (fun z => kf z H locs lsA hP hD hS hL)
theorem BD.if_lt (h : BD l ow cc nL fr lo V) {x : Int32} {off : Int} {tgt : Nat} (hd : decode cc pc = .ok (.ifCond .lt off, 3)) (ht : (pc : Int) + off = (tgt : Int)) (kt : x < 0 → V tgt ls st σ) (kf : ¬ x < 0 → V (pc + 3) ls st σ) : V pc ls (.int x :: st) σ := by
  obtain ⟨p, e, R, s, m, args, below, meth, c, cells, slots, Q, D, q, cA, A, ⟨hx, hb, -⟩, -, -, -, -, rfl⟩ := h
  intro H locs lsA hP hD hS hL
  exact lv_if_lt hx hb hd ht (fun z => kt z H locs lsA hP hD hS hL) (fun z => kf z H locs lsA hP hD hS hL)
theorem BD.icmp_lt (h : BD l ow cc nL fr lo V) {x y : Int32} {off : Int} {tgt : Nat} (hd : decode cc pc = .ok (.if_icmp .lt off, 3)) (ht : (pc : Int) + off = (tgt : Int)) (kt : x < y → V tgt ls st σ) (kf : ¬ x < y → V (pc + 3) ls st σ) : V pc ls (.int y :: .int x :: st) σ := by
  obtain ⟨p, e, R, s, m, args, below, meth, c, cells, slots, Q, D, q, cA, A, ⟨hx, hb, -⟩, -, -, -, -, rfl⟩ := h
  intro H locs lsA hP hD hS hL
  exact lv_icmp_lt hx hb hd ht (fun z => kt z H locs lsA hP hD hS hL) (fun z => kf z H locs lsA hP hD hS hL)
theorem BD.if_ge (h : BD l ow cc nL fr lo V) {x : Int32} {off : Int} {tgt : Nat} (hd : decode cc pc = .ok (.ifCond .ge off, 3)) (ht : (pc : Int) + off = (tgt : Int)) (kt : 0 ≤ x → V tgt ls st σ) (kf : ¬ 0 ≤ x → V (pc + 3) ls st σ) : V pc ls (.int x :: st) σ := by
  obtain ⟨p, e, R, s, m, args, below, meth, c, cells, slots, Q, D, q, cA, A, ⟨hx, hb, -⟩, -, -, -, -, rfl⟩ := h
  intro H locs lsA hP hD hS hL
  exact lv_if_ge hx hb hd ht (fun z => kt z H locs lsA hP hD hS hL) (fun z => kf z H locs lsA hP hD hS hL)
theorem BD.icmp_ge (h : BD l ow cc nL fr lo V) {x y : Int32} {off : Int} {tgt : Nat} (hd : decode cc pc = .ok (.if_icmp .ge off, 3)) (ht : (pc : Int) + off = (tgt : Int)) (kt : y ≤ x → V tgt ls st σ) (kf : ¬ y ≤ x → V (pc + 3) ls st σ) : V pc ls (.int y :: .int x :: st) σ := by
  obtain ⟨p, e, R, s, m, args, below, meth, c, cells, slots, Q, D, q, cA, A, ⟨hx, hb, -⟩, -, -, -, -, rfl⟩ := h
  intro H locs lsA hP hD hS hL
  exact lv_icmp_ge hx hb hd ht (fun z => kt z H locs lsA hP hD hS hL) (fun z => kf z H locs lsA hP hD hS hL)
theorem BD.if_gt (h : BD l ow cc nL fr lo V) {x : Int32} {off : Int} {tgt : Nat} (hd : decode cc pc = .ok (.ifCond .gt off, 3)) (ht : (pc : Int) + off = (tgt : Int)) (kt : 0 < x → V tgt ls st σ) (kf : ¬ 0 < x → V (pc + 3) ls st σ) : V pc ls (.int x :: st) σ := by
  obtain ⟨p, e, R, s, m, args, below, meth, c, cells, slots, Q, D, q, cA, A, ⟨hx, hb, -⟩, -, -, -, -, rfl⟩ := h
  intro H locs lsA hP hD hS hL
  exact lv_if_gt hx hb hd ht (fun z => kt z H locs lsA hP hD hS hL) (fun z => kf z H locs lsA hP hD hS hL)
theorem BD.icmp_gt (h : BD l ow cc nL fr lo V) {x y : Int32} {off : Int} {tgt : Nat} (hd : decode cc pc = .ok (.if_icmp .gt off, 3)) (ht : (pc : Int) + off = (tgt : Int)) (kt : y < x → V tgt ls st σ) (kf : ¬ y < x → V (pc + 3) ls st σ) : V pc ls (.int y :: .int x :: st) σ := by
  obtain ⟨p, e, R, s, m, args, below, meth, c, cells, slots, Q, D, q, cA, A, ⟨hx, hb, -⟩, -, -, -, -, rfl⟩ := h
  intro H locs lsA hP hD hS hL
  exact lv_icmp_gt hx hb hd ht (fun z => kt z H locs lsA hP hD hS hL) (fun z => kf z H locs lsA hP hD hS hL)
theorem BD.if_le (h : BD l ow cc nL fr lo V) {x : Int32} {off : Int} {tgt : Nat} (hd : decode cc pc = .ok (.ifCond .le off, 3)) (ht : (pc : Int) + off = (tgt : Int)) (kt : x ≤ 0 → V tgt ls st σ) (kf : ¬ x ≤ 0 → V (pc + 3) ls st σ) : V pc ls (.int x :: st) σ := by
  obtain ⟨p, e, R, s, m, args, below, meth, c, cells, slots, Q, D, q, cA, A, ⟨hx, hb, -⟩, -, -, -, -, rfl⟩ := h
  intro H locs lsA hP hD hS hL
  exact lv_if_le hx hb hd ht (fun z => kt z H locs lsA hP hD hS hL) (fun z => kf z H locs lsA hP hD hS hL)
theorem BD.icmp_le (h : BD l ow cc nL fr lo V) {x y : Int32} {off : Int} {tgt : Nat} (hd : decode cc pc = .ok (.if_icmp .le off, 3)) (ht : (pc : Int) + off = (tgt : Int)) (kt : x ≤ y → V tgt ls st σ) (kf : ¬ x ≤ y → V (pc + 3) ls st σ) : V pc ls (.int y :: .int x :: st) σ := by
  obtain ⟨p, e, R, s, m, args, below, meth, c, cells, slots, Q, D, q, cA, A, ⟨hx, hb, -⟩, -, -, -, -, rfl⟩ := h
  intro H locs lsA hP hD hS hL
  exact lv_icmp_le hx hb hd ht (fun z => kt z H locs lsA hP hD hS hL) (fun z => kf z H locs lsA hP hD hS hL)
theorem BD.ifnull (h : BD l ow cc nL fr lo V) {x : Nat} {off : Int} (hd : decode cc pc = .ok (.ifnull off, 3)) (k : V (pc + 3) ls st σ) : V pc ls (.ref x :: st) σ := by
  obtain ⟨p, e, R, s, m, args, below, meth, c, cells, slots, Q, D, q, cA, A, ⟨hx, hb, -⟩, -, -, -, -, rfl⟩ := h
  intro H locs lsA hP hD hS hL
  exact lv_ifnull hx hb hd (k H locs lsA hP hD hS hL)
theorem BD.ifnullN (h : BD l ow cc nL fr lo V) {off : Int} {tgt : Nat} (hd : decode cc pc = .ok (.ifnull off, 3)) (ht : (pc : Int) + off = (tgt : Int)) (k : V tgt ls st σ) : V pc ls (.null :: st) σ := by
  obtain ⟨p, e, R, s, m, args, below, meth, c, cells, slots, Q, D, q, cA, A, ⟨hx, hb, -⟩, -, -, -, -, rfl⟩ := h
  intro H locs lsA hP hD hS hL
  exact lv_ifnullN hx hb hd ht (k H locs lsA hP hD hS hL)
theorem BD.ifnonnull (h : BD l ow cc nL fr lo V) {x : Nat} {off : Int} {tgt : Nat} (hd : decode cc pc = .ok (.ifnonnull off, 3)) (ht : (pc : Int) + off = (tgt : Int)) (k : V tgt ls st σ) : V pc ls (.ref x :: st) σ := by
  obtain ⟨p, e, R, s, m, args, below, meth, c, cells, slots, Q, D, q, cA, A, ⟨hx, hb, -⟩, -, -, -, -, rfl⟩ := h
  intro H locs lsA hP hD hS hL
  exact lv_ifnonnull hx hb hd ht (k H locs lsA hP hD hS hL)
theorem BD.ifnonnullN (h : BD l ow cc nL fr lo V) {off : Int} (hd : decode cc pc = .ok (.ifnonnull off, 3)) (k : V (pc + 3) ls st σ) : V pc ls (.null :: st) σ := by
  obtain ⟨p, e, R, s, m, args, below, meth, c, cells, slots, Q, D, q, cA, A, ⟨hx, hb, -⟩, -, -, -, -, rfl⟩ := h
  intro H locs lsA hP hD hS hL
  exact lv_ifnonnullN hx hb hd (k H locs lsA hP hD hS hL)
theorem BD.tableIn (h : BD l ow cc nL fr lo V) {dflt lw hi : Int} {offs : Array Int} {len : Nat} {x : Int32} {off : Int} {tgt : Nat} (hd : decode cc pc = .ok (.tableswitch dflt lw hi offs, len)) (h1 : ¬ x.toInt < lw) (h2 : ¬ hi < x.toInt) (ho : offs[(x.toInt - lw).toNat]? = some off) (ht : (pc : Int) + off = (tgt : Int)) (k : V tgt ls st σ) : V pc ls (.int x :: st) σ := by
  obtain ⟨p, e, R, s, m, args, below, meth, c, cells, slots, Q, D, q, cA, A, ⟨hx, hb, -⟩, -, -, -, -, rfl⟩ := h
  intro H locs lsA hP hD hS hL
  exact lv_tableIn hx hb hd h1 h2 ho ht (k H locs lsA hP hD hS hL)
theorem BD.tableOut (h : BD l ow cc nL fr lo V) {dflt lw hi : Int} {offs : Array Int} {len : Nat} {x : Int32} {tgt : Nat} (hd : decode cc pc = .ok (.tableswitch dflt lw hi offs, len)) (h1 : x.toInt < lw ∨ hi < x.toInt) (ht : (pc : Int) + dflt = (tgt : Int)) (k : V tgt ls st σ) : V pc ls (.int x :: st) σ := by
  obtain ⟨p, e, R, s, m, args, below, meth, c, cells, slots, Q, D, q, cA, A, ⟨hx, hb, -⟩, -, -, -, -, rfl⟩ := h
  intro H locs lsA hP hD hS hL
  exact lv_tableOut hx hb hd h1 ht (k H locs lsA hP hD hS hL)
theorem BD.lookup (h : BD l ow cc nL fr lo V) {dflt : Int} {ps : Array (Int × Int)} {len : Nat} {x : Int32} {off : Int} {tgt : Nat} (hd : decode cc pc = .ok (.lookupswitch dflt ps, len)) (hp : (ps.toList.zip (ps.toList.drop 1)).all (fun (a, next) => a.1 < next.1) = true) (ho : Op.lookupswitch.offset ps.toList dflt x.toInt = off) (ht : (pc : Int) + off = (tgt : Int)) (k : V tgt ls st σ) : V pc ls (.int x :: st) σ := by
  obtain ⟨p, e, R, s, m, args, below, meth, c, cells, slots, Q, D, q, cA, A, ⟨hx, hb, -⟩, -, -, -, -, rfl⟩ := h
  intro H locs lsA hP hD hS hL
  exact lv_lookup hx hb hd hp ho ht (k H locs lsA hP hD hS hL)
theorem rest_cat {q : Nat → Nat} {r : List Value} : ((r.map (cnc q)).map fun v => v.category).sum = (r.map fun v => v.category).sum := by
  rw [List.map_map]
  congr 1
  apply List.map_congr_left
  intro v _
  exact cnc_cat q v
theorem wG_D {A : Nat → Prop} {q : Nat → Nat} {cA : Nat → ClassId} {σ τ : ST} (h : va_D A (wG q cA σ)) : va_D A (wG q cA τ) := by
  have hk : ∀ (ρ : ST) (k : Nat) (p : Nat × va_E), (wG q cA ρ)[k]? = some p → k < 68 ∧ p.1 = q k := by
    intro ρ k p hp
    have h68 : k < 68 := by
      have := (List.getElem?_eq_some_iff.mp hp).1
      simpa [wG] using this
    rw [wG_at h68] at hp
    cases hp
    exact ⟨h68, rfl⟩
  refine ⟨fun i j p r hi hj hpr => ?_, fun k p hp => ?_⟩
  · obtain ⟨h1, h2⟩ := hk τ i p hi
    obtain ⟨h3, h4⟩ := hk τ j r hj
    exact h.1 i j _ _ (wG_at h1) (wG_at h3) (by rw [h2, h4] at hpr; exact hpr)
  · obtain ⟨h1, h2⟩ := hk τ k p hp
    rw [h2]
    exact h.2 k _ (wG_at h1)
theorem PK_blind (D : va_G) (q : Nat → Nat) (cA : Nat → ClassId) (sz : Nat) (as : List Value) (σ : ST) : FrameBlind (PK D q cA sz as σ) := by
  intro a U g mk h
  obtain ⟨h0, h1, h2, h3, h4⟩ := h
  exact ⟨h0, h1, h2, ⟨va_K.moved (u := U) (U := U.calling g mk a) (Vm.Alike.refl U.vm) h3.1, fun w hw => va_Nw.same (u := U) (U := U.calling g mk a) (nw_onTables hw) rfl (h3.2 w hw)⟩, h4⟩
/-- the words of an instance method that is called -/
def CW (ci : Nat) (y : MethodName) (yc : ByteArray) (mL : Nat) (ret : Option FieldType) (n : Nat) : Prop :=
  ci < 7 ∧ y.cls = RN ci ∧ Jvm.Cond.instanceMethod y ∈ AW ∧ Jvm.Cond.selects (RN ci) y y ∈ AW ∧ Jvm.Cond.initialized (RN ci) ∈ AW ∧ Jvm.Cond.code y yc mL ret ∈ AW ∧ (y.cls ≠ "java/lang/invoke/MethodHandle" ∧ y.cls ≠ "java/lang/invoke/VarHandle") ∧ (parseMethodDescriptor y.desc).map (fun d => d.parameters.length) = some n
def CS (y : MethodName) (yc : ByteArray) (mL : Nat) (ret : Option FieldType) (n : Nat) : Prop :=
  Jvm.Cond.static y ∈ AW ∧ Jvm.Cond.initialized y.cls ∈ AW ∧ Jvm.Cond.code y yc mL ret ∈ AW ∧ (y.cls ≠ "java/lang/invoke/MethodHandle" ∧ y.cls ≠ "java/lang/invoke/VarHandle") ∧ (parseMethodDescriptor y.desc).map (fun d => d.parameters.length) = some n
def LK (ow idx : Nat) (y : MethodName) : Prop := Jvm.Cond.methodLink (RN ow) idx y ∈ AW ∨ Jvm.Cond.methodLinkNest (RN ow) idx y "ThreeTimes" ∈ NW
theorem par_len {y : MethodName} {n : Nat} (h : (parseMethodDescriptor y.desc).map (fun d => d.parameters.length) = some n) : ∀ sig, parseMethodDescriptor y.desc = some sig → n = sig.parameters.length := by
  intro sig hs
  rw [hs] at h
  simpa using h.symm
theorem ws_warm {s : State} {args : Array Value} {w0 : Jvm.Cond} (hts : ∀ w ∈ AW, w.before args s = true) (h0 : w0 ∈ AW) : ∀ w ∈ w0 :: AW, ∀ (a' : Array Value) (U : State), s.WarmedH U.vm → w.before a' U = true := by
  intro w hw a' U hW
  have hw2 : w ∈ AW := by
    rcases List.mem_cons.mp hw with rfl | h
    · exact h0
    · exact h
  exact word_at hW (good_of_word (aw_good hw2)) (hts w hw2)
section CG
variable {p : Program} {e : Env} {R : Room} {s : State} {m : MethodId} {args : Array Value} {below : List Frame} {meth : Method} {c : Code} {cells slots : Nat} {Q : State → Prop} {D : va_G} {q : Nat → Nat} {cA : Nat → ClassId} {A A1 : Nat → Prop} {H : Heap} {locs : List Loc} {lsA : Array Slot} {st0 rest : List Value} {a : Array Value} {free : Addr → Prop} {v : Option Value}
theorem va_callG (hr : va_Run p l e R s m args below meth c H locs cells slots 0 0 (F0 m pc lsA st0) rest (QK D q cA A1 v τ a) free) (hS : va_S A s.heap H locs) (hA : ∀ q, q < H.size → A1 q → A q) (hf : ∀ q, free q → A q)
    (kk : ∀ (H1 : Heap) (locs1 : List Loc), va_P D cl7 (wG q cA τ) H1 → va_S A s.heap H1 locs1 → W p l e R s m args below meth c H1 locs1 cells slots Q (F0 m (pc + 3) lsA ((v.map (cnc q)).toList ++ rest))) : W p l e R s m args below meth c H locs cells slots Q (F0 m pc lsA st0) := by
  intro T hT X
  obtain ⟨v', st₀, t, T', L, h0, X', hL, e1, e2, ⟨⟨hv, hb⟩, hz, hk⟩, st⟩ := hr T hT X
  cases hv
  rw [h0] at hz hk
  obtain ⟨t2, a1, b1⟩ := kk T'.heap (locs ++ L) (by rw [e1]; exact hb)
    ⟨Nat.le_trans hS.1 (by rw [e1]; exact hz), fun q h1 h2 => by rw [e1, hk q (Nat.lt_of_lt_of_le h1 hS.1) (fun z => h2 (hA q (Nat.lt_of_lt_of_le h1 hS.1) z))]; exact hS.2.1 q h1 h2, fun q hq => by
      rcases List.mem_append.mp hq with h | h
      · exact hS.2.2 q h
      · exact hf _ (hL q h)⟩ T' rfl X'
  exact ⟨t2, st t2 a1, b1⟩
theorem wG_free (hD : va_D A (wG q cA σ)) (hS : va_S A s.heap H locs) (hA : ∀ x, s.heap.size ≤ x → A x) : ∀ x, va_A (wG q cA σ) H.size x → A x := by
  rintro x (⟨k, e, hk⟩ | h)
  · exact hD.2 k _ hk
  · exact hA x (Nat.le_trans hS.1 h)
end CG
theorem BD.callV (h : BD l ow cc nL fr lo V) {idx ci k n mL fy ly : Nat} {y : MethodName} {yc : ByteArray} {ret : Option FieldType} {as rest : List Value} {v : Option Value} (hd : decode cc pc = .ok (.invokevirtual idx, 3)) (hlk : LK ow idx y) (hw : CW ci y yc mL ret n) (hk : kd k = ci)
    (hM : KM l y yc mL ret fy ly (.ref k :: as) σ v τ) (hn : as.length = n) (hfr : fy + 1 ≤ fr) (hlo : 8 + (mL + 11) + ly ≤ lo) (hrest : (rest.map fun v => v.category).sum ≤ 8) (kk : V (pc + 3) ls (v.toList ++ rest) τ) : V pc ls (as.reverse ++ .ref k :: rest) σ := by
  obtain ⟨p, e, R, s, m, args, below, meth, c, cells, slots, Q, D, q, cA, A, hC, rfl, rfl, hcs, hss, rfl⟩ := h
  obtain ⟨hx, hb, hml, hown, hts, hK, hA⟩ := hC
  obtain ⟨h7, hy, hinst, hsel, hini, hcode, hno, hpar⟩ := hw
  intro H locs lsA hP hD hS hL
  have h68 : k < 68 := kd_lt (by omega)
  have he : (wG q cA σ)[k]? = some (q k, .inr (ci, (List.range (NN ci)).map fun j => cnc q (fval ci k j σ))) := by rw [wG_at h68, cellG_obj hk h7]
  have hpre : PreV s H (RN ci) (q k) (PK D q cA H.size (.ref k :: as) σ) (as.map (cnc q)) :=
    ⟨PK_blind _ _ _ _ _ _, va_recv hK.1 hP (cl7_at ci h7) he, fun U hU hW => ⟨rfl, by rw [hU], by rw [hU]; exact hP, ⟨va_K.moved hW.alike hK.1, nw_warm hW hK.2⟩, hD.weaken (fun _ _ _ _ => trivial)⟩⟩
  have hstk : (as.reverse ++ .ref k :: rest).map (cnc q) = (as.map (cnc q)).reverse ++ .ref (q k) :: rest.map (cnc q) := by simp [cnc]
  have hcat : 2 * (F0 m pc lsA ((as.reverse ++ .ref k :: rest).map (cnc q))).monitorRoom + ((rest.map (cnc q)).map fun v => v.category).sum ≤ 8 := lv_room (by rw [rest_cat]; exact hrest)
  have hfree := wG_free hD hS hA
  have hfin : ∀ (H1 : Heap) (locs1 : List Loc), va_P D cl7 (wG q cA τ) H1 → va_S A s.heap H1 locs1 → W p l e R s m args below meth c H1 locs1 cells slots Q (F0 m (pc + 3) lsA ((v.map (cnc q)).toList ++ rest.map (cnc q))) := by
    intro H1 locs1 hP1 hS1
    have := kk H1 locs1 lsA hP1 (wG_D hD) hS1 hL
    cases v <;> simpa using this
  rcases hlk with hlk | hlk
  · refine va_callG (v := v) (τ := τ) (va_runV (As := as.map (cnc q)) (rest := rest.map (cnc q)) (own := RN ow) (C := RN ci) ⟨hx, hb, hml, hown, hts⟩ (hM D q cA H.size) ⟨⟨rfl, rfl, hfr, hlo, ws_warm hts hcode, List.mem_cons_self, hts _ hcode, by rw [hy]; exact hts _ hini, hno, par_len hpar, hts _ hlk⟩, hts _ hinst, hts _ hsel⟩ hpre rfl (by rw [List.length_map, hn]) hL.2.1 hstk hcat hd ⟨by omega, by omega⟩) hS (fun x _ hx => hfree x hx) hfree hfin
  · refine va_callG (v := v) (τ := τ) (va_runVN (As := as.map (cnc q)) (rest := rest.map (cnc q)) (own := RN ow) (C := RN ci) (host := "ThreeTimes") ⟨hx, hb, hml, hown, hts⟩ (hM D q cA H.size) ⟨⟨⟨rfl, rfl, hfr, hlo, ws_warm hts hcode, List.mem_cons_self⟩, hts _ hcode, by rw [hy]; exact hts _ hini, hno, par_len hpar, va_Nw.use (nw_onTables hlk) (hK.2 _ hlk)⟩, hts _ hinst, hts _ hsel⟩ hpre rfl (by rw [List.length_map, hn]) hL.2.1 hstk hcat hd ⟨by omega, by omega⟩) hS (fun x _ hx => hfree x hx) hfree hfin
theorem BD.callS (h : BD l ow cc nL fr lo V) {idx n mL fy ly : Nat} {y : MethodName} {yc : ByteArray} {ret : Option FieldType} {as rest : List Value} {v : Option Value} (hd : decode cc pc = .ok (.invokestatic idx, 3)) (hlk : Jvm.Cond.methodLink (RN ow) idx y ∈ AW) (hw : CS y yc mL ret n)
    (hM : KM l y yc mL ret fy ly as σ v τ) (hn : as.length = n) (hfr : fy + 1 ≤ fr) (hlo : 8 + (mL + 11) + ly ≤ lo) (hrest : (rest.map fun v => v.category).sum ≤ 8) (kk : V (pc + 3) ls (v.toList ++ rest) τ) : V pc ls (as.reverse ++ rest) σ := by
  obtain ⟨p, e, R, s, m, args, below, meth, c, cells, slots, Q, D, q, cA, A, hC, rfl, rfl, hcs, hss, rfl⟩ := h
  obtain ⟨hx, hb, hml, hown, hts, hK, hA⟩ := hC
  obtain ⟨hst, hini, hcode, hno, hpar⟩ := hw
  intro H locs lsA hP hD hS hL
  have hpre : PreS s H (PK D q cA H.size as σ) (as.map (cnc q)) :=
    ⟨PK_blind _ _ _ _ _ _, fun U hU hW => ⟨rfl, by rw [hU], by rw [hU]; exact hP, ⟨va_K.moved hW.alike hK.1, nw_warm hW hK.2⟩, hD.weaken (fun _ _ _ _ => trivial)⟩⟩
  have hstk : (as.reverse ++ rest).map (cnc q) = (as.map (cnc q)).reverse ++ rest.map (cnc q) := by simp
  have hcat : 2 * (F0 m pc lsA ((as.reverse ++ rest).map (cnc q))).monitorRoom + ((rest.map (cnc q)).map fun v => v.category).sum ≤ 8 := lv_room (by rw [rest_cat]; exact hrest)
  have hfree := wG_free hD hS hA
  have hfin : ∀ (H1 : Heap) (locs1 : List Loc), va_P D cl7 (wG q cA τ) H1 → va_S A s.heap H1 locs1 → W p l e R s m args below meth c H1 locs1 cells slots Q (F0 m (pc + 3) lsA ((v.map (cnc q)).toList ++ rest.map (cnc q))) := by
    intro H1 locs1 hP1 hS1
    have := kk H1 locs1 lsA hP1 (wG_D hD) hS1 hL
    cases v <;> simpa using this
  exact va_callG (v := v) (τ := τ) (va_runS (As := as.map (cnc q)) (rest := rest.map (cnc q)) (own := RN ow) ⟨hx, hb, hml, hown, hts⟩ (hM D q cA H.size) ⟨⟨rfl, rfl, hfr, hlo, ws_warm hts hcode, List.mem_cons_self, hts _ hcode, hts _ hini, hno, par_len hpar, hts _ hlk⟩, hts _ hst⟩ hpre rfl (by rw [List.length_map, hn]) hL.2.1 hstk hcat hd ⟨by omega, by omega⟩) hS (fun x _ hx => hfree x hx) hfree hfin
theorem BM.iret {x : Int32} (h : BM l ow cc nL (some .int) fr lo (some (.int x)) τ V) (hd : decode cc pc = .ok (.ireturn, 1)) : V pc ls [.int x] τ := by
  obtain ⟨p, e, R, s, m, args, below, meth, c, D, q, cA, A, ⟨hx, hb, -⟩, -, -, hr, hlocks, rfl⟩ := h
  intro H locs lsA hP hD hS hL
  exact W.iret hx hb hr (fun t ht hW => ⟨⟨rfl, by rw [ht]; exact hP⟩, hS.F ht⟩) hS.2.2 hd hlocks
theorem BM.zret {x : Int32} (h : BM l ow cc nL (some .boolean) fr lo (some (.int x)) τ V) (hd : decode cc pc = .ok (.ireturn, 1)) (hx01 : isb x = true) : V pc ls [.int x] τ := by
  obtain ⟨p, e, R, s, m, args, below, meth, c, D, q, cA, A, ⟨hx, hb, -⟩, -, -, hr, hlocks, rfl⟩ := h
  intro H locs lsA hP hD hS hL
  exact W.zret hx hb hr (isb_nar hx01).1 (fun t ht hW => ⟨⟨rfl, by rw [ht]; exact hP⟩, hS.F ht⟩) hS.2.2 hd hlocks
theorem BM.lret {x : Int64} (h : BM l ow cc nL (some .long) fr lo (some (.long x)) τ V) (hd : decode cc pc = .ok (.lreturn, 1)) : V pc ls [.long x] τ := by
  obtain ⟨p, e, R, s, m, args, below, meth, c, D, q, cA, A, ⟨hx, hb, -⟩, -, -, hr, hlocks, rfl⟩ := h
  intro H locs lsA hP hD hS hL
  exact W.lret hx hb hr (fun t ht hW => ⟨⟨rfl, by rw [ht]; exact hP⟩, hS.F ht⟩) hS.2.2 hd hlocks
theorem BM.vret (h : BM l ow cc nL none fr lo none τ V) (hd : decode cc pc = .ok (.return_, 1)) : V pc ls [] τ := by
  obtain ⟨p, e, R, s, m, args, below, meth, c, D, q, cA, A, ⟨hx, hb, -⟩, -, -, hr, hlocks, rfl⟩ := h
  intro H locs lsA hP hD hS hL
  exact W.vret hx hb hr (fun t ht hW => ⟨⟨rfl, by rw [ht]; exact hP⟩, hS.F ht⟩) hS.2.2 hd hlocks
theorem BM.aret {r : Option Nat} {C : String} (h : BM l ow cc nL (some (.object C)) fr lo (some (va_rf r)) τ V) (hd : decode cc pc = .ok (.areturn, 1)) : V pc ls [va_rf r] τ := by
  obtain ⟨p, e, R, s, m, args, below, meth, c, D, q, cA, A, ⟨hx, hb, -⟩, -, -, hr, hlocks, rfl⟩ := h
  intro H locs lsA hP hD hS hL
  exact W.aret hx hb hr (Or.inl ⟨_, rfl⟩) (by cases r; exact Or.inl rfl; exact Or.inr ⟨_, rfl⟩) (fun t ht hW => ⟨⟨rfl, by rw [ht]; exact hP⟩, hS.F ht⟩) hS.2.2 hd hlocks
theorem lsOf_args : ∀ (as : List Value) (q : Nat → Nat) (k i : Nat) (x : Value), (as.flatMap fun v => if v.category = 2 then [some v, none] else [some v])[i]? = some (some x) → (k + i, cnc q x) ∈ lv_args k (as.map (cnc q)) := by
  intro as q
  induction as with
  | nil => intro k i x h; simp at h
  | cons v r ih =>
    intro k i x h
    rw [List.flatMap_cons] at h
    rw [List.map_cons]
    unfold lv_args
    rw [cnc_cat]
    by_cases hc : v.category = 2
    · simp only [hc, if_true] at h ⊢
      match i, h with
      | 0, h => simp at h; subst h; exact List.mem_cons_self
      | 1, h => simp at h
      | i + 2, h =>
        have := ih (k + 2) i x (by simpa using h)
        exact List.mem_cons_of_mem _ (by rw [show k + (i + 2) = k + 2 + i by omega]; exact this)
    · simp only [hc, if_false] at h ⊢
      match i, h with
      | 0, h => simp at h; subst h; exact List.mem_cons_self
      | i + 1, h =>
        have := ih (k + 1) i x (by simpa using h)
        exact List.mem_cons_of_mem _ (by rw [show k + (i + 1) = k + 1 + i by omega]; exact this)
def lsOf (as : List Value) (mL : Nat) : List (Option Value) := (as.flatMap fun v => if v.category = 2 then [some v, none] else [some v]) ++ List.replicate (mL - (as.flatMap fun v => if v.category = 2 then [some v, none] else [some v]).length) none
theorem lsOf_len (as : List Value) : (as.flatMap fun v => if v.category = 2 then [some v, none] else [some v]).length = (lg_sl as).length := by
  unfold lg_sl
  rw [List.length_flatMap, List.length_flatMap]
  congr 1
  apply List.map_congr_left
  intro v _
  split <;> rfl
theorem lgsl_cnc (q : Nat → Nat) (as : List Value) : (lg_sl (as.map (cnc q))).length = (lg_sl as).length := by
  unfold lg_sl
  rw [List.length_flatMap, List.length_flatMap, List.map_map]
  congr 1
  apply List.map_congr_left
  intro v _
  show (if (cnc q v).category = 2 then _ else _ : List Slot).length = _
  rw [cnc_cat]
  split <;> rfl
theorem KM.intro {y : MethodName} {mL : Nat} {ret : Option FieldType} {as : List Value} {v : Option Value} (hy : plainName y.cls = true) (hcls : y.cls = RN ow) (hlen : (lg_sl as).length ≤ mL)
    (body : ∀ V, BM l ow cc mL ret fr lo v τ V → V 0 (lsOf as mL) [] σ) : KM l y cc mL ret fr lo as σ v τ := by
  intro D q cA sz
  refine Met.ofW (cc := cc) (maxL := mL) (ret := ret) hy rfl ?_
  intro p e s m args below meth c s₁ B hml hv
  obtain ⟨rfl, hsz, hP, hK, hD0⟩ := hv
  have hts := atoms_spec (ws := .code y cc mL ret :: AW) B.pre
  have hown : s.vm.findClass (RN ow) = some m.cls := by rw [← hcls]; exact findClass_of_methodNamed B.named
  subst hsz
  rw [lg_entry_eq]
  have hb := body (VV p l e (headSpec (.code y cc mL ret :: AW) { frames := fr, cells := 0, slots := 0, locals := lo }).room s m (as.map (cnc q)).toArray below meth c 0 0 (MQ below (QK D q cA (va_A (wG q cA σ) s.heap.size) v τ) (as.map (cnc q)).toArray s 0 0 (va_A (wG q cA σ) s.heap.size)) D q cA (va_A (wG q cA σ) s.heap.size) mL)
    ⟨p, e, (headSpec (.code y cc mL ret :: AW) { frames := fr, cells := 0, slots := 0, locals := lo }).room, s, m, _, below, meth, c, D, q, cA, _, ⟨B.exec, B.bytes, hml, hown, fun w hw => hts w (List.mem_cons_of_mem _ hw), hK, fun x hx => Or.inr hx⟩, rfl, rfl, B.returns, B.notSynchronized, rfl⟩
  have hl := lv_entry (as.map (cnc q)) (n := mL) (by rw [lgsl_cnc]; exact hlen)
  refine hb s.heap [] _ hP hD0.self va_S.rf ⟨?_, hl.1, hl.2.1, ?_⟩
  · unfold lsOf
    rw [List.length_append, List.length_replicate, lsOf_len]
    omega
  · intro i x hx
    unfold lsOf at hx
    rw [List.getElem?_append] at hx
    split at hx
    · have := lsOf_args as q 0 i x hx
      rw [Nat.zero_add] at this
      exact hl.2.2 _ this
    · rw [List.getElem?_replicate] at hx
      split at hx <;> cases hx
end RULES
