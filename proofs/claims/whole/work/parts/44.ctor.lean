/-! CONSTRUCTORS: a world that grows, as a list; the cell of the object that is made stands first. -/
def VC (p : Program) (l : Launch) (e : Env) (R : Room) (s : State) (m : MethodId) (args : Array Value) (below : List Frame) (meth : Method) (c : Code) (Q : State → Prop) (D : va_G) (A : Nat → Prop) (nL : Nat)
    (cells slots : Nat) (ws : va_W) (pc : Nat) (lv : List (Nat × Value)) (st : List Value) : Prop :=
  ∀ (H : Heap) (locs : List Loc) (lsA : Array Slot), va_P D cl7 ws H → va_D A ws → va_S A s.heap H locs → lv_has lsA nL lv → W p l e R s m args below meth c H locs cells slots Q (F0 m pc lsA st)
/-- a constructor's contract: of its own blank cell it makes the world w -/
def QC (D : va_G) (A : Nat → Prop) (post : va_W → Prop) : Array Value → State → Outcome → State → Prop := fun _ st oc t => (∃ w : va_W, oc = .returned none ∧ post w ∧ va_P D cl7 w t.heap ∧ va_D A w) ∧ va_F A st t
def PC (D : va_G) (cA : Nat → ClassId) (sz : Nat) (av : List Value) (cell : Nat × va_E) : Array Value → State → Prop := va_Pc av (fun U => U.heap.size = sz ∧ va_P D cl7 [cell] U.heap ∧ KK D cA U ∧ va_D (fun _ => True) [cell] ∧ va_AO "ThreeTimes$Shelf" U)
def KC (l : Launch) (y : MethodName) (cc : ByteArray) (mL fr lo mc ms : Nat) (as : List Value) (e0 : va_E) (post : (Nat → ClassId) → Nat → va_W → Prop) : Prop :=
  ∀ (D : va_G) (cA : Nat → ClassId) (sz h0 : Nat), Met l y (.code y cc mL none :: AW) { frames := fr, cells := mc, slots := ms, locals := lo } (PC D cA sz (.ref h0 :: as) (h0, e0)) (QC D (va_A [(h0, e0)] sz) (post cA h0)) mc ms (va_A [(h0, e0)] sz)
theorem PC_blind (D : va_G) (cA : Nat → ClassId) (sz : Nat) (av : List Value) (cell : Nat × va_E) : FrameBlind (PC D cA sz av cell) := by
  intro a U g mk h
  obtain ⟨h0, h1, h2, h3, h4, h5⟩ := h
  exact ⟨h0, h1, h2, ⟨va_K.moved (u := U) (U := U.calling g mk a) (Vm.Alike.refl U.vm) h3.1, fun w hw => va_Nw.same (u := U) (U := U.calling g mk a) (nw_onTables hw) rfl (h3.2 w hw)⟩, h4, va_AO.moved (u := U) (Vm.Alike.refl U.vm) h5⟩
theorem jw_obj : Jvm.Cond.instanceMethod Lib.objectInit ∈ AW ∧ Jvm.Cond.code Lib.objectInit ⟨#[0xb1]⟩ 1 none ∈ AW := ⟨aw_of (i := 103) (by decide +kernel) (by decide +kernel), aw_of (i := 104) (by decide +kernel) (by decide +kernel)⟩
theorem jw_max : Jvm.Cond.methodLink (RN 4) 19 Lib.Math.max.name ∈ AW ∧ Jvm.Cond.static Lib.Math.max.name ∈ AW ∧ Jvm.Cond.code Lib.Math.max.name Lib.Math.max.code 2 (some .int) ∈ AW := ⟨aw_of (i := 117) (by decide +kernel) (by decide +kernel), aw_of (i := 118) (by decide +kernel) (by decide +kernel), aw_of (i := 119) (by decide +kernel) (by decide +kernel)⟩
theorem jw_arr : Jvm.Cond.arrayClass .int ∈ AW ∧ Jvm.Cond.arrayClass .boolean ∈ AW ∧ Jvm.Cond.arrayClass .long ∈ AW := ⟨aw_of (i := 135) (by decide +kernel) (by decide +kernel), aw_of (i := 949) (by decide +kernel) (by decide +kernel), aw_of (i := 950) (by decide +kernel) (by decide +kernel)⟩
section VCR
variable {p : Program} {l : Launch} {e : Env} {R : Room} {s : State} {m : MethodId} {args : Array Value} {below : List Frame} {meth : Method} {c : Code} {Q : State → Prop} {D : va_G} {cA : Nat → ClassId} {A : Nat → Prop} {nL ow cells slots pc : Nat} {cc : ByteArray} {ws X : va_W} {lv lv' : List (Nat × Value)} {st rest : List Value}
theorem VC.objInit {idx a : Nat} (hC : CT p s m args c D cA A nL ow cc) (hl : Jvm.Cond.methodLink (RN ow) idx Lib.objectInit ∈ AW) (hd : decode cc pc = .ok (.invokespecial idx, 3)) (hf : 1 ≤ R.frames) (hlo : (rest.map fun v => v.category).sum + 12 ≤ R.locals)
    (k : VC p l e R s m args below meth c Q D A nL cells slots ws (pc + 3) lv rest) : VC p l e R s m args below meth c Q D A nL cells slots ws pc lv (.ref a :: rest) := by
  obtain ⟨hx, hb, hml, hown, hts, hK, hA⟩ := hC
  intro H locs lsA hP hD hS hL
  refine W.objInit hx hb hown (hts _ hl) (hts _ jw_obj.1) (hts _ jw_obj.2) rfl (by rw [hml]; exact hL.1) rfl hd hf (by show 2 * 0 + _ + 12 ≤ _; omega) ?_
  exact W.eq (g2 := F0 m (pc + 3) lsA rest) rfl (k H locs lsA hP hD hS hL)
theorem VC.aload_n {k : Fin 4} {i x : Nat} (j : Nat) (hC : CT p s m args c D cA A nL ow cc) (hd : decode cc pc = .ok (.aload_n k, 1)) (hi : (k : Nat) = i) (hl : lv[j]? = some (i, .ref x))
    (kk : VC p l e R s m args below meth c Q D A nL cells slots ws (pc + 1) lv (.ref x :: st)) : VC p l e R s m args below meth c Q D A nL cells slots ws pc lv st := by
  obtain ⟨hx, hb, -⟩ := hC
  intro H locs lsA hP hD hS hL
  exact lv_aload_n hx hb hd hi (lv_at hL j hl) (kk H locs lsA hP hD hS hL)
theorem VC.iload_n {k : Fin 4} {i : Nat} {x : Int32} (j : Nat) (hC : CT p s m args c D cA A nL ow cc) (hd : decode cc pc = .ok (.iload_n k, 1)) (hi : (k : Nat) = i) (hl : lv[j]? = some (i, .int x))
    (kk : VC p l e R s m args below meth c Q D A nL cells slots ws (pc + 1) lv (.int x :: st)) : VC p l e R s m args below meth c Q D A nL cells slots ws pc lv st := by
  obtain ⟨hx, hb, -⟩ := hC
  intro H locs lsA hP hD hS hL
  exact lv_iload_n hx hb hd hi (lv_at hL j hl) (kk H locs lsA hP hD hS hL)
theorem VC.iconst {n : Int} {v : Int32} (hC : CT p s m args c D cA A nL ow cc) (hd : decode cc pc = .ok (.iconst n, 1)) (hv : Int32.ofInt n = v)
    (kk : VC p l e R s m args below meth c Q D A nL cells slots ws (pc + 1) lv (.int v :: st)) : VC p l e R s m args below meth c Q D A nL cells slots ws pc lv st := by
  obtain ⟨hx, hb, -⟩ := hC
  intro H locs lsA hP hD hS hL
  exact lv_iconst hx hb hd hv (kk H locs lsA hP hD hS hL)
theorem VC.bipush {n : Int} {v : Int32} (hC : CT p s m args c D cA A nL ow cc) (hd : decode cc pc = .ok (.bipush n, 2)) (hv : (Int8.ofInt n).toInt32 = v)
    (kk : VC p l e R s m args below meth c Q D A nL cells slots ws (pc + 2) lv (.int v :: st)) : VC p l e R s m args below meth c Q D A nL cells slots ws pc lv st := by
  obtain ⟨hx, hb, -⟩ := hC
  intro H locs lsA hP hD hS hL
  exact lv_bipush hx hb hd hv (kk H locs lsA hP hD hS hL)
theorem VC.sipush {n : Int} {v : Int32} (hC : CT p s m args c D cA A nL ow cc) (hd : decode cc pc = .ok (.sipush n, 3)) (hv : (Int16.ofInt n).toInt32 = v)
    (kk : VC p l e R s m args below meth c Q D A nL cells slots ws (pc + 3) lv (.int v :: st)) : VC p l e R s m args below meth c Q D A nL cells slots ws pc lv st := by
  obtain ⟨hx, hb, -⟩ := hC
  intro H locs lsA hP hD hS hL
  exact lv_sipush hx hb hd hv (kk H locs lsA hP hD hS hL)
theorem VC.dup {v : Value} (hC : CT p s m args c D cA A nL ow cc) (hd : decode cc pc = .ok (.dup, 1)) (hv : v.category = 1)
    (kk : VC p l e R s m args below meth c Q D A nL cells slots ws (pc + 1) lv (v :: v :: st)) : VC p l e R s m args below meth c Q D A nL cells slots ws pc lv (v :: st) := by
  obtain ⟨hx, hb, -⟩ := hC
  intro H locs lsA hP hD hS hL
  exact lv_dup hx hb hd hv (kk H locs lsA hP hD hS hL)
theorem VC.imul {x y : Int32} (hC : CT p s m args c D cA A nL ow cc) (hd : decode cc pc = .ok (.imul, 1))
    (kk : VC p l e R s m args below meth c Q D A nL cells slots ws (pc + 1) lv (.int (x * y) :: st)) : VC p l e R s m args below meth c Q D A nL cells slots ws pc lv (.int y :: .int x :: st) := by
  obtain ⟨hx, hb, -⟩ := hC
  intro H locs lsA hP hD hS hL
  exact lv_imul hx hb hd (kk H locs lsA hP hD hS hL)
theorem VC.max {x y : Int32} (hC : CT p s m args c D cA A nL 4 cc) (hd : decode cc pc = .ok (.invokestatic 19, 3)) (hf : 1 ≤ R.frames) (hlo : (st.map fun v => v.category).sum + 13 ≤ R.locals) (hcs : cells ≤ R.cells ∧ slots ≤ R.slots)
    (kk : VC p l e R s m args below meth c Q D A nL cells slots ws (pc + 3) lv (.int (if x < y then y else x) :: st)) : VC p l e R s m args below meth c Q D A nL cells slots ws pc lv (.int y :: .int x :: st) := by
  obtain ⟨hx, hb, hml, hown, hts, hK, hA⟩ := hC
  intro H locs lsA hP hD hS hL
  exact va_mmax hx hb (by rw [hml, hL.1]) hown (hts _ jw_max.1) (hts _ jw_max.2.1) (hts _ jw_min.2.1) (hts _ jw_max.2.2) hf hlo hcs.1 hcs.2 hd (kk H locs lsA hP hD hS hL)
theorem VC.istore_n {k : Fin 4} {i : Nat} {x : Int32} (hC : CT p s m args c D cA A nL ow cc) (hd : decode cc pc = .ok (.istore_n k, 1)) (hi : (k : Nat) = i) (hn : i < nL) (hl : (i, Value.int x) :: lv.filter (fun q => !(q.1 == i) && !(q.1 + 1 == i && q.2.category == 2)) = lv')
    (kk : VC p l e R s m args below meth c Q D A nL cells slots ws (pc + 1) lv' st) : VC p l e R s m args below meth c Q D A nL cells slots ws pc lv (.int x :: st) := by
  obtain ⟨hx, hb, -⟩ := hC
  intro H locs lsA hP hD hS hL
  exact lv_istore_n hx hb hd hi hL hn hl (fun ls2 h2 => kk H locs ls2 hP hD hS h2)
theorem VC.iinc {i j : Nat} {n : Int} {x v : Int32} (hC : CT p s m args c D cA A nL ow cc) (hd : decode cc pc = .ok (.iinc i n, 3)) (hk : lv[j]? = some (i, .int x)) (hv : x + Int32.ofInt n = v) (hn : i < nL) (hl : (i, Value.int v) :: lv.filter (fun q => !(q.1 == i) && !(q.1 + 1 == i && q.2.category == 2)) = lv')
    (kk : VC p l e R s m args below meth c Q D A nL cells slots ws (pc + 3) lv' st) : VC p l e R s m args below meth c Q D A nL cells slots ws pc lv st := by
  obtain ⟨hx, hb, -⟩ := hC
  intro H locs lsA hP hD hS hL
  exact lv_iinc hx hb hd hL hk hv hn hl (fun ls2 h2 => kk H locs ls2 hP hD hS h2)
theorem VC.goto {off : Int} {tgt : Nat} (hC : CT p s m args c D cA A nL ow cc) (hd : decode cc pc = .ok (.goto off, 3)) (ht : (pc : Int) + off = (tgt : Int))
    (kk : VC p l e R s m args below meth c Q D A nL cells slots ws tgt lv st) : VC p l e R s m args below meth c Q D A nL cells slots ws pc lv st := by
  obtain ⟨hx, hb, -⟩ := hC
  intro H locs lsA hP hD hS hL
  exact lv_goto hx hb hd ht (kk H locs lsA hP hD hS hL)
theorem VC.icmp_ge {x y : Int32} {off : Int} {tgt : Nat} (hC : CT p s m args c D cA A nL ow cc) (hd : decode cc pc = .ok (.if_icmp .ge off, 3)) (ht : (pc : Int) + off = (tgt : Int))
    (kt : y ≤ x → VC p l e R s m args below meth c Q D A nL cells slots ws tgt lv st) (kf : ¬ y ≤ x → VC p l e R s m args below meth c Q D A nL cells slots ws (pc + 3) lv st) : VC p l e R s m args below meth c Q D A nL cells slots ws pc lv (.int y :: .int x :: st) := by
  obtain ⟨hx, hb, -⟩ := hC
  intro H locs lsA hP hD hS hL
  exact lv_icmp_ge hx hb hd ht (fun h => kt h H locs lsA hP hD hS hL) (fun h => kf h H locs lsA hP hD hS hL)
/-- a field of the cell that stands first -/
theorem VC.get {a ci j idx : Nat} {fs : List Value} {v : Value} (hC : CT p s m args c D cA A nL ow cc) (hF : okF ow idx ci j = true) (hv : fs[j]? = some v) (hd : decode cc pc = .ok (.getfield idx, 3))
    (kk : VC p l e R s m args below meth c Q D A nL cells slots ((a, .inr (ci, fs)) :: X) (pc + 3) lv (v :: rest)) : VC p l e R s m args below meth c Q D A nL cells slots ((a, .inr (ci, fs)) :: X) pc lv (.ref a :: rest) := by
  obtain ⟨hx, hb, hml, hown, hts, hK, hA⟩ := hC
  obtain ⟨h7, hj, hw⟩ := okF_spec hF
  intro H locs lsA hP hD hS hL
  rcases hw with hw | hw
  · exact va_get hx hb hts (inAN ci h7) hown hK.1 hP 0 rfl (cl7_at ci h7) j hj (hts _ hw) (fun _ h9 => h9) hv hd (kk H locs lsA hP hD hS hL)
  · exact va_getN hx hb hts (inAN ci h7) hown hK.1 hP 0 rfl (cl7_at ci h7) j hj (va_Nw.use (nw_onTables hw) (hK.2 _ hw)) (fun _ h9 => h9) hv hd (kk H locs lsA hP hD hS hL)
theorem VC.put {a ci j idx : Nat} {fs fs' : List Value} {v : Value} {ty : FieldType} (hC : CT p s m args c D cA A nL ow cc) (hF : okF ow idx ci j = true) (hfin : (TN ci j).2.2.2 = false) (hty : parseFieldDescriptor (TN ci j).2.2.1 = some ty) (hn : narrow ty v = v) (hfit : fits ty v = true) (hl : j < fs.length) (hfs : fs.set j v = fs') (hd : decode cc pc = .ok (.putfield idx, 3))
    (kk : VC p l e R s m args below meth c Q D A nL cells slots ((a, .inr (ci, fs')) :: X) (pc + 3) lv rest) : VC p l e R s m args below meth c Q D A nL cells slots ((a, .inr (ci, fs)) :: X) pc lv (v :: .ref a :: rest) := by
  obtain ⟨hx, hb, hml, hown, hts, hK, hA⟩ := hC
  obtain ⟨h7, hj, hw⟩ := okF_spec hF
  subst hfs
  intro H locs lsA hP hD hS hL
  rcases hw with hw | hw
  · exact va_put hx hb hts (inAN ci h7) (tyN ci) (tyN_ok ci h7) (nmN ci h7) hown hK.1 hP hD hS 0 rfl (cl7_at ci h7) j hj (hts _ hw) (fun _ h9 => h9) hfin hty hn hfit hl hd (fun H1 locs1 hP1 hD1 hS1 => kk H1 locs1 lsA hP1 hD1 hS1 hL)
  · exact va_putN hx hb hts (inAN ci h7) (tyN ci) (tyN_ok ci h7) (nmN ci h7) hown hK.1 hP hD hS 0 rfl (cl7_at ci h7) j hj (va_Nw.use (nw_onTables hw) (hK.2 _ hw)) (fun _ h9 => h9) hfin hty hn hfit hl hd (fun H1 locs1 hP1 hD1 hS1 => kk H1 locs1 lsA hP1 hD1 hS1 hL)
theorem VC.putF {a ci j idx : Nat} {fs fs' : List Value} {v : Value} {ty : FieldType} (hC : CT p s m args c D cA A nL ow cc) (hin : meth.name = "<init>") (hw : fWord ow idx ci j ∈ AW) (h7 : ci < 7) (hj : j < NN ci) (hfin : (TN ci j).2.2.2 = true) (hdecl : (TN ci j).1 = RN ow) (hty : parseFieldDescriptor (TN ci j).2.2.1 = some ty) (hn : narrow ty v = v) (hfit : fits ty v = true) (hl : j < fs.length) (hfs : fs.set j v = fs') (hd : decode cc pc = .ok (.putfield idx, 3))
    (kk : VC p l e R s m args below meth c Q D A nL cells slots ((a, .inr (ci, fs')) :: X) (pc + 3) lv rest) : VC p l e R s m args below meth c Q D A nL cells slots ((a, .inr (ci, fs)) :: X) pc lv (v :: .ref a :: rest) := by
  obtain ⟨hx, hb, hml, hown, hts, hK, hA⟩ := hC
  subst hfs
  intro H locs lsA hP hD hS hL
  exact va_putF hx hb hts (inAN ci h7) (tyN ci) (tyN_ok ci h7) (nmN ci h7) hown hK.1 hP hD hS 0 rfl (cl7_at ci h7) j hj (hts _ hw) (fun _ h9 => h9) hfin hin hdecl hty hn hfit hl hd (fun H1 locs1 hP1 hD1 hS1 => kk H1 locs1 lsA hP1 hD1 hS1 hL)
/-- an array of ints (booleans, longs), all 0: its class is the one that is known -/
theorem ra_uniq {U : State} {c1 c2 : ClassId} {ty : FieldType} (h1 : va_RA U c1 ty) (h2 : va_RA U c2 ty) : c1 = c2 := by
  cases ty with
  | object C =>
    obtain ⟨_, _, _, _, _, h1⟩ := h1
    obtain ⟨_, _, _, _, _, h2⟩ := h2
    exact Option.some.inj (h1.symm.trans h2)
  | _ => exact Option.some.inj (h1.symm.trans h2)
theorem VC.newarr {atype : ArrayType} {ty : FieldType} {n : Int32} {N : Nat} {a0 : vp_A} (t : Nat) (hC : CT p s m args c D cA A nL ow cc) (hw : Jvm.Cond.arrayClass (newarray.typeOf atype) ∈ AW) (hty : newarray.typeOf atype = ty) (htys : (tysG cA)[t]? = some (cA t, ty))
    (ha : ∀ cA : ClassId, vp_cell cA a0 = arrV cA N (fun _ => defaultValue ty)) (hn : ¬ n < 0) (hN : n.toNatClampNeg = N) (hbytes : N * componentBytes ty ≤ 536870912) (hcs : cells + 1 ≤ R.cells ∧ slots + N ≤ R.slots) (hd : decode cc pc = .ok (.newarray atype, 2))
    (kk : ∀ q : Nat, VC p l e R s m args below meth c Q D A nL (cells + 1) (slots + N) (ws ++ [(q, .inl (cA t, a0))]) (pc + 2) lv (.ref q :: st)) : VC p l e R s m args below meth c Q D A nL cells slots ws pc lv (.int n :: st) := by
  obtain ⟨hx, hb, hml, hown, hts, hK, hA⟩ := hC
  intro H locs lsA hP hD hS hL
  refine va_newa hx hb (hts _ hw) hty hK.1 hP hD hS hA ha hn hN hbytes hcs.1 hcs.2 hd (fun q cB H1 hK1 hP1 hD1 hS1 => ?_)
  have hB : (tysG cA ++ [(cB, ty)])[4]? = some (cB, ty) := rfl
  have he : cB = cA t := ra_uniq (hK1.2 4 _ hB).2 (hK.1.2 t _ htys).2
  subst he
  exact kk q H1 locs lsA hP1 hD1 hS1 hL
theorem VC.newsh {idx : Nat} {n : Int32} {N : Nat} (hC : CT p s m args c D cA A nL ow cc) (hcl : Jvm.Cond.classLink (RN ow) idx "ThreeTimes$Shelf" ∈ AW) (hao : va_AO "ThreeTimes$Shelf" s) (hn : ¬ n < 0) (hN : n.toNatClampNeg = N) (hbytes : N * 4 ≤ 536870912) (hcs : cells + 1 ≤ R.cells ∧ slots + N ≤ R.slots) (hd : decode cc pc = .ok (.anewarray idx, 3))
    (kk : ∀ q : Nat, VC p l e R s m args below meth c Q D A nL (cells + 1) (slots + N) (ws ++ [(q, .inl (cA 3, N, .inr (.inr (.inr (.inr (fun _ => none))))))]) (pc + 3) lv (.ref q :: st)) : VC p l e R s m args below meth c Q D A nL cells slots ws pc lv (.int n :: st) := by
  obtain ⟨hx, hb, hml, hown, hts, hK, hA⟩ := hC
  intro H locs lsA hP hD hS hL
  refine va_newq hx hb hown (hts _ hcl) hao hK.1 hP hD hS hA hn hN hbytes hcs.1 hcs.2 hd (fun q cB H1 hK1 hP1 hD1 hS1 => ?_)
  have hB : (tysG cA ++ [(cB, .object "ThreeTimes$Shelf")])[4]? = some (cB, .object "ThreeTimes$Shelf") := rfl
  have he : cB = cA 3 := ra_uniq (hK1.2 4 _ hB).2 (hK.1.2 3 _ rfl).2
  subst he
  exact kk q H1 locs lsA hP1 hD1 hS1 hL
theorem VC.new {ci idx : Nat} {fs : List Value} (hC : CT p s m args c D cA A nL ow cc) (h7 : ci < 7) (hcl : Jvm.Cond.classLink (RN ow) idx (RN ci) ∈ AW) (hinst : Jvm.Cond.instantiable (RN ci) (NN ci) ∈ AW) (hini : Jvm.Cond.initialized (RN ci) ∈ AW) (hfs : ∀ j, j < NN ci → defaultValue (tyN ci j) = vp_V fs j) (hcs : cells + 1 ≤ R.cells ∧ slots + NN ci ≤ R.slots) (hd : decode cc pc = .ok (.new idx, 3))
    (kk : ∀ q : Nat, VC p l e R s m args below meth c Q D A nL (cells + 1) (slots + NN ci) (ws ++ [(q, .inr (ci, fs))]) (pc + 3) lv (.ref q :: st)) : VC p l e R s m args below meth c Q D A nL cells slots ws pc lv st := by
  obtain ⟨hx, hb, hml, hown, hts, hK, hA⟩ := hC
  intro H locs lsA hP hD hS hL
  exact va_new hx hb hts (inAN ci h7) (tyN ci) (tyN_ok ci h7) hown (hts _ hcl) (hts _ hinst) (hts _ hini) hK.1 hP hD hS hA (cl7_at ci h7) hfs hcs.1 hcs.2 hd (fun q H1 hP1 hD1 hS1 => kk q H1 locs lsA hP1 hD1 hS1 hL)
/-- what is beside the cell that a constructor has filled stays -/
theorem ctor_join {cell : Nat × va_E} {w1 : va_W} {H H1 : Heap} (hP : va_P D cl7 (X ++ [cell]) H) (hD : va_D A (X ++ [cell])) (hk : ∀ q : Nat, q < H.size → ¬ va_A [cell] H.size q → H1[q]? = H[q]?) (hF : ∀ q, va_A [cell] H.size q → A q) (hP1 : va_P D cl7 w1 H1) (hD1 : va_D (va_A [cell] H.size) w1) : va_P D cl7 (X ++ w1) H1 ∧ va_D A (X ++ w1) := by
  have hc : (X ++ [cell])[X.length]? = some cell := by simp
  have hx : ∀ (k : Nat) (x : Nat × va_E), X[k]? = some x → (X ++ [cell])[k]? = some x ∧ k < X.length := fun k x h => by
    have hl := (List.getElem?_eq_some_iff.mp h).1
    exact ⟨by rw [List.getElem?_append_left hl]; exact h, hl⟩
  have hne : ∀ (k : Nat) (x : Nat × va_E), X[k]? = some x → x.1 ≠ cell.1 := fun k x h he => by
    obtain ⟨h1, h2⟩ := hx k x h
    have := hD.1 k X.length x cell h1 hc he
    omega
  have hlt : ∀ (k : Nat) (x : Nat × va_E), X[k]? = some x → x.1 < H.size := fun k x h => (hP k x (hx k x h).1).lt
  have hnA : ∀ (k : Nat) (x : Nat × va_E), X[k]? = some x → ¬ va_A [cell] H.size x.1 := by
    rintro k x h (⟨i, e9, hi⟩ | h9)
    · match i, hi with
      | 0, hi => cases hi; exact hne k x h rfl
      | i + 1, hi => simp at hi
    · have := hlt k x h
      omega
  constructor
  · refine va_P.app (fun k x h => ?_) hP1
    exact (hP k x (hx k x h).1).kept (hk x.1 (hlt k x h) (hnA k x h))
  · refine va_D.app ⟨fun i j a b hi hj hab => hD.1 i j a b (hx i a hi).1 (hx j b hj).1 hab, fun k x h => hD.2 k x (hx k x h).1⟩ (hD1.weaken fun k x _ h9 => hF _ h9) (fun i j a b hi hj hab => ?_)
    exact hnA i a hi (by rw [hab]; exact hD1.2 j b hj)
theorem VC.init {idx n mL fy ly mc ms : Nat} {y : MethodName} {yc : ByteArray} {as : List Value} {e0 : va_E} {h0 : Nat} {post : (Nat → ClassId) → Nat → va_W → Prop} (hC : CT p s m args c D cA A nL ow cc) (hao : va_AO "ThreeTimes$Shelf" s) (hM : KC l y yc mL fy ly mc ms as e0 post)
    (hlk : Jvm.Cond.methodLink (RN ow) idx y ∈ AW ∨ Jvm.Cond.methodLinkNest (RN ow) idx y "ThreeTimes" ∈ NW) (hinst : Jvm.Cond.instanceMethod y ∈ AW) (hini : Jvm.Cond.initialized y.cls ∈ AW) (hcode : Jvm.Cond.code y yc mL none ∈ AW) (hno : y.cls ≠ "java/lang/invoke/MethodHandle" ∧ y.cls ≠ "java/lang/invoke/VarHandle") (hpar : (parseMethodDescriptor y.desc).map (fun d => d.parameters.length) = some n) (hnm : y.name = "<init>")
    (hn : as.length = n) (hfr : fy + 1 ≤ R.frames) (hlo : 8 + (mL + 11) + ly ≤ R.locals) (hcs : cells + mc ≤ R.cells ∧ slots + ms ≤ R.slots) (hrest : (rest.map fun v => v.category).sum ≤ 8) (hd : decode cc pc = .ok (.invokespecial idx, 3))
    (kk : ∀ w1, post cA h0 w1 → VC p l e R s m args below meth c Q D A nL (cells + mc) (slots + ms) (X ++ w1) (pc + 3) lv rest) : VC p l e R s m args below meth c Q D A nL cells slots (X ++ [(h0, e0)]) pc lv (as.reverse ++ .ref h0 :: rest) := by
  obtain ⟨hx, hb, hml, hown, hts, hK, hA⟩ := hC
  intro H locs lsA hP hD hS hL
  have hc : (X ++ [(h0, e0)])[X.length]? = some (h0, e0) := by simp
  have hPc : va_P D cl7 [(h0, e0)] H := fun k q hk => by
    match k, hk with
    | 0, hk => cases hk; exact hP X.length _ hc
    | k + 1, hk => simp at hk
  have hDc : va_D (fun _ => True) [(h0, e0)] := ⟨fun i j a b hi hj _ => by
    match i, j, hi, hj with
    | 0, 0, _, _ => rfl
    | i + 1, _, hi, _ => simp at hi
    | 0, j + 1, _, hj => simp at hj, fun _ _ _ => trivial⟩
  have hF : ∀ q, va_A [(h0, e0)] H.size q → A q := by
    rintro q (⟨i, e9, hi⟩ | h9)
    · match i, hi with
      | 0, hi => cases hi; exact hD.2 X.length _ hc
      | i + 1, hi => simp at hi
    · exact hA q (Nat.le_trans hS.1 h9)
  have hpre : PreS s H (PC D cA H.size (.ref h0 :: as) (h0, e0)) (.ref h0 :: as) :=
    ⟨PC_blind _ _ _ _ _, fun U hU hW => ⟨rfl, by rw [hU], by rw [hU]; exact hPc, ⟨va_K.moved hW.alike hK.1, nw_warm hW hK.2⟩, hDc, va_AO.moved hW.alike hao⟩⟩
  have hrun : va_Run p l e R s m args below meth c H locs cells slots mc ms (F0 m pc lsA (as.reverse ++ .ref h0 :: rest)) rest (QC D (va_A [(h0, e0)] H.size) (post cA h0) (Value.ref h0 :: as).toArray) (va_A [(h0, e0)] H.size) := by
    rcases hlk with hlk | hlk
    · exact va_runI (As := as) (own := RN ow) ⟨hx, hb, hml, hown, hts⟩ (hM D cA H.size h0) ⟨⟨rfl, rfl, hfr, hlo, ws_warm hts hcode, List.mem_cons_self, hts _ hcode, hts _ hini, hno, par_len hpar, hts _ hlk⟩, hnm, hts _ hinst⟩ hpre rfl hn hL.1 rfl (lv_room hrest) hd hcs
    · exact va_runIN (As := as) (own := RN ow) (host := "ThreeTimes") ⟨hx, hb, hml, hown, hts⟩ (hM D cA H.size h0) ⟨⟨⟨rfl, rfl, hfr, hlo, ws_warm hts hcode, List.mem_cons_self⟩, hts _ hcode, hts _ hini, hno, par_len hpar, va_Nw.use (nw_onTables hlk) (hK.2 _ hlk)⟩, hnm, hts _ hinst⟩ hpre rfl hn hL.1 rfl (lv_room hrest) hd hcs
  intro T hT X9
  obtain ⟨v', st₀, t, T', L, g0, X', hL9, e1, e2, ⟨⟨w1, hv, hpost, hb1, hd1⟩, hz, hk⟩, stp⟩ := hrun T hT X9
  cases hv
  rw [g0] at hz hk
  have hP1 : va_P D cl7 w1 T'.heap := by rw [e1]; exact hb1
  obtain ⟨hP2, hD2⟩ := ctor_join hP hD (fun q h1 h2 => by rw [e1]; exact hk q h1 h2) hF hP1 hd1
  obtain ⟨t2, a1, b1⟩ := kk w1 hpost T'.heap (locs ++ L) lsA hP2 hD2
    ⟨Nat.le_trans hS.1 (by rw [e1]; exact hz), fun q h1 h2 => by rw [e1, hk q (Nat.lt_of_lt_of_le h1 hS.1) (fun z => h2 (hF q z))]; exact hS.2.1 q h1 h2, fun q hq => by
      rcases List.mem_append.mp hq with h | h
      · exact hS.2.2 q h
      · exact hF _ (hL9 q h)⟩ hL T' rfl X'
  exact ⟨t2, stp t2 a1, b1⟩
theorem VC.widen {k n : Nat} (h1 : cells ≤ k) (h2 : slots ≤ n) (kk : VC p l e R s m args below meth c Q D A nL k n ws pc lv st) : VC p l e R s m args below meth c Q D A nL cells slots ws pc lv st := fun H locs lsA hP hD hS hL => W.widen h1 h2 (kk H locs lsA hP hD hS hL)
theorem VC.vret {post : va_W → Prop} (hC : CT p s m args c D cA A nL ow cc) (hr : meth.sig.returnType = none) (hlocks : meth.locks = false) (hpost : post ws) (hd : decode cc pc = .ok (.return_, 1)) :
    VC p l e R s m args below meth c (MQ below (QC D A post) args s cells slots A) D A nL cells slots ws pc lv [] := by
  obtain ⟨hx, hb, -⟩ := hC
  intro H locs lsA hP hD hS hL
  exact W.vret hx hb hr (fun t ht hW => ⟨⟨ws, rfl, hpost, by rw [ht]; exact hP, hD⟩, hS.F ht⟩) hS.2.2 hd hlocks
end VCR
/-- a constructor's contract out of its walk -/
theorem KC.intro {l : Launch} {ow : Nat} {y : MethodName} {cc : ByteArray} {mL fr lo mc ms : Nat} {as : List Value} {e0 : va_E} {post : (Nat → ClassId) → Nat → va_W → Prop} (hy : plainName y.cls = true) (hcls : y.cls = RN ow) (hnm : y.name = "<init>") (hlen : ∀ h0, (lg_sl (.ref h0 :: as)).length ≤ mL)
    (body : ∀ (p : Program) (e : Env) (R : Room) (s : State) (m : MethodId) (args : Array Value) (below : List Frame) (meth : Method) (c : Code) (D : va_G) (cA : Nat → ClassId) (A : Nat → Prop) (h0 : Nat), CT p s m args c D cA A mL ow cc → va_AO "ThreeTimes$Shelf" s → R = { frames := fr, cells := mc, slots := ms, locals := lo } → meth.sig.returnType = none → meth.locks = false → meth.name = "<init>" →
      VC p l e R s m args below meth c (MQ below (QC D A (post cA h0)) args s mc ms A) D A mL 0 0 [(h0, e0)] 0 (lv_args 0 (.ref h0 :: as)) []) : KC l y cc mL fr lo mc ms as e0 post := by
  intro D cA sz h0
  refine Met.ofW (cc := cc) (maxL := mL) (ret := none) hy rfl ?_
  intro p e s m args below meth c s₁ B hml hv
  obtain ⟨rfl, hsz, hP, hK, hD0, hao⟩ := hv
  have hts := atoms_spec (ws := .code y cc mL none :: AW) B.pre
  have hown : s.vm.findClass (RN ow) = some m.cls := by rw [← hcls]; exact findClass_of_methodNamed B.named
  have hin : meth.name = "<init>" := ((name_of_methodNamed B.named B.method).1).trans hnm
  subst hsz
  rw [lg_entry_eq]
  have hb := body p e (headSpec (.code y cc mL none :: AW) { frames := fr, cells := mc, slots := ms, locals := lo }).room s m _ below meth c D cA (va_A [(h0, e0)] s.heap.size) h0 ⟨B.exec, B.bytes, hml, hown, fun w hw => hts w (List.mem_cons_of_mem _ hw), hK, fun x hx => Or.inr hx⟩ hao rfl B.returns B.notSynchronized hin
  exact hb s.heap [] _ hP hD0.self va_S.rf (lv_entry (.ref h0 :: as) (n := mL) (hlen h0))
