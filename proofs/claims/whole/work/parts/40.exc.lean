/-! EXCEPTIONS: what a throw needs beside the world, and the contracts of Shelf.throwFailure, ThreeTimes.toss, ThreeTimes.element and the law's own element. -/
def isX (w : Jvm.Cond) : Bool := match w with
  | .castable _ _ => true
  | .declares _ => true
  | _ => false
def NX : List Jvm.Cond := lw_tbl.filter isX
theorem nx_onTables {w : Jvm.Cond} (h : w ∈ NX) : w.onTables = true := by
  have h2 := (List.mem_filter.mp h).2
  unfold isX at h2
  split at h2
  · rfl
  · rfl
  · cases h2
theorem nx_warm {s U : State} (hW : s.WarmedH U.vm) (h : ∀ w ∈ NX, va_Nw w s) : ∀ w ∈ NX, va_Nw w U := by
  intro w hw
  have h2 := (List.mem_filter.mp hw).2
  have h3 := h w hw
  unfold isX at h2
  split at h2
  · exact va_Nw.warmC hW h3
  · exact va_Nw.warmD hW h3
  · cases h2
def strs : List (String × Nat × String) := [(RX3, 45, "named"), (RX3, 52, "feared"), (RX3, 57, "failed"), (RX5, 225, "no such shelf"), (RX5, 232, "no row, or no such place in it")]
abbrev IAE : String := "java/lang/IllegalArgumentException"
abbrev UOE : String := "java/lang/UnsupportedOperationException"
abbrev ISE : String := "java/lang/IllegalStateException"
def ncs : List (String × String) := [(UOE, IAE), (ISE, IAE), (ISE, UOE)]
def EX (A : Nat → Prop) (U : State) (H : Heap) : Prop := (∀ w ∈ NX, va_Nw w U) ∧ (∀ t ∈ strs, ∃ sa, vk_R t.1 t.2.1 t.2.2 sa U) ∧ (∀ t ∈ ncs, va_Nc t.1 t.2 U) ∧ vx_Zq Bundle.tN "UNASSIGNED_STACK" Bundle.steD A U H ∧ vx_Zq Bundle.tN "SUPPRESSED_SENTINEL" Bundle.listD A U H
theorem EX.warm {A : Nat → Prop} {s U : State} {H : Heap} (hW : s.WarmedH U.vm) (h : EX A s H) : EX A U H := by
  obtain ⟨h1, h2, h3, h4, h5⟩ := h
  exact ⟨nx_warm hW h1, fun t ht => (h2 t ht).elim fun sa hsa => ⟨sa, vk_R.warm hW hsa⟩, fun t ht => va_Nc.moved hW.alike (h3 t ht), vx_Zq.moved hW.alike h4, vx_Zq.moved hW.alike h5⟩
theorem EX.kept {A : Nat → Prop} {U : State} {H H1 : Heap} (h : EX A U H) (hq : ∀ a : Nat, a < H.size → ¬ A a → H1[a]? = H[a]?) : EX A U H1 := by
  obtain ⟨h1, h2, h3, h4, h5⟩ := h
  exact ⟨h1, h2, h3, vx_Zq.kept h4 hq, vx_Zq.kept h5 hq⟩
theorem EX.narrow {A B : Nat → Prop} {U : State} {H : Heap} (h : EX A U H) (hAB : ∀ q, B q → A q) : EX B U H := by
  obtain ⟨h1, h2, h3, h4, h5⟩ := h
  exact ⟨h1, h2, h3, vx_Zq.narrow h4 hAB, vx_Zq.narrow h5 hAB⟩
theorem EX.calling {A : Nat → Prop} {U : State} {H : Heap} {a : Array Value} {g : JFrame} {mk : MethodId} (h : EX A U H) : EX A (U.calling g mk a) H := by
  obtain ⟨h1, h2, h3, h4, h5⟩ := h
  exact ⟨fun w hw => va_Nw.same (u := U) (nx_onTables hw) rfl (h1 w hw), fun t ht => (h2 t ht).elim fun sa hsa => ⟨sa, vk_R.same (u := U) rfl hsa⟩, fun t ht => va_Nc.moved (u := U) (Vm.Alike.refl U.vm) (h3 t ht), vx_Zq.moved (u := U) (Vm.Alike.refl U.vm) h4, vx_Zq.moved (u := U) (Vm.Alike.refl U.vm) h5⟩
def PX (D : va_G) (q : Nat → Nat) (cA : Nat → ClassId) (sz : Nat) (as : List Value) (σ : ST) : Array Value → State → Prop := va_Pc (as.map (cnc q)) (fun U => U.heap.size = sz ∧ va_P D cl7 (wG q cA σ) U.heap ∧ KK D cA U ∧ va_D (fun _ => True) (wG q cA σ) ∧ EX (va_A (wG q cA σ) sz) U U.heap)
theorem PX_blind (D : va_G) (q : Nat → Nat) (cA : Nat → ClassId) (sz : Nat) (as : List Value) (σ : ST) : FrameBlind (PX D q cA sz as σ) := by
  intro a U g mk h
  obtain ⟨h0, h1, h2, h3, h4, h5⟩ := h
  exact ⟨h0, h1, h2, ⟨va_K.moved (u := U) (U := U.calling g mk a) (Vm.Alike.refl U.vm) h3.1, fun w hw => va_Nw.same (u := U) (U := U.calling g mk a) (nw_onTables hw) rfl (h3.2 w hw)⟩, h4, h5.calling⟩
section ENTRY
variable {p : Program} {l : Launch} {e : Env} {R : Room} {s : State} {m : MethodId} {args : Array Value} {below : List Frame} {meth : Method} {c : Code} {cells slots : Nat} {Q : State → Prop} {D : va_G} {q : Nat → Nat} {cA : Nat → ClassId} {A : Nat → Prop} {nL ow pc : Nat} {cc : ByteArray} {ls : List (Option Value)} {st : List Value} {σ τ : ST} {H : Heap} {locs : List Loc} {lsA : Array Slot} {rest : List Value} {T : State}
theorem VV.entry {as : List Value} {mL : Nat} (hP : va_P D cl7 (wG q cA σ) s.heap) (hD0 : va_D (fun _ => True) (wG q cA σ)) (hlen : (lg_sl as).length ≤ mL)
    (h : VV p l e R s m (as.map (cnc q)).toArray below meth c 0 0 Q D q cA (va_A (wG q cA σ) s.heap.size) mL 0 (lsOf as mL) [] σ) : W p l e R s m (as.map (cnc q)).toArray below meth c s.heap [] 0 0 Q (entryFrame m (as.map (cnc q)).toArray mL) := by
  rw [lg_entry_eq]
  have hl := lv_entry (as.map (cnc q)) (n := mL) (by rw [lgsl_cnc]; exact hlen)
  refine h s.heap [] _ hP hD0.self va_S.rf ⟨?_, hl.1, hl.2.1, ?_⟩
  · unfold lsOf
    rw [List.length_append, List.length_replicate, lsOf_len]
    omega
  · intro i x hx
    unfold lsOf at hx
    rw [List.getElem?_append] at hx
    split at hx
    · have := lsOf_args as q 0 i x hx
      rw [Nat.zero_add] at this
      exact hl.2.2 _ this
    · rw [List.getElem?_replicate] at hx
      split at hx <;> cases hx
theorem VV.bd {fr lo : Nat} (hC : CT p s m args c D cA A nL ow cc) (hf : R.frames = fr) (hl : R.locals = lo) (hc : cells ≤ R.cells) (hs : slots ≤ R.slots) : BD l ow cc nL fr lo (VV p l e R s m args below meth c cells slots Q D q cA A nL) :=
  ⟨p, e, R, s, m, args, below, meth, c, cells, slots, Q, D, q, cA, A, hC, hf, hl, hc, hs, rfl⟩
/-- a local that a handler stores what it caught in: no place, so it is not listed -/
theorem LH_stN {i : Nat} {v0 : Value} (hl : ls.length = nL) (hp : prevOK ls i = true)
    (h : lv_has lsA nL ((i, v0) :: (lvs q ls).filter (fun p => !(p.1 == i) && !(p.1 + 1 == i && p.2.category == 2)))) : LH q (ls.set i none) nL lsA := by
  refine ⟨by rw [List.length_set]; exact hl, h.1, h.2.1, ?_⟩
  intro k x hx
  rw [List.getElem?_set] at hx
  by_cases hk : i = k
  · subst hk
    rw [if_pos rfl] at hx
    split at hx <;> cases hx
  · rw [if_neg hk] at hx
    refine h.2.2 (k, cnc q x) (List.mem_cons_of_mem _ (List.mem_filter.mpr ⟨lvs_mem.mpr ⟨x, hx, rfl⟩, ?_⟩))
    by_cases hk2 : k + 1 = i
    · have := prevOK_cat hp hk2 hx
      simp [cnc_cat, this, hk2, Ne.symm hk]
    · simp [hk2, Ne.symm hk]
/-- the handler's first instruction: what was caught goes into a local -/
theorem VV.caught {i : Nat} {q9 : Nat} (hx : p.tables.exec = Jvm.exec) (hb : c.code = cc) (hd : decode cc pc = .ok (.astore i, 2)) (hi : i < nL) (hL : LH q ls nL lsA) (hp : prevOK ls i = true)
    (hP : va_P D cl7 (wG q cA σ) H) (hD : va_D A (wG q cA σ)) (hS : va_S A s.heap H locs)
    (k : VV p l e R s m args below meth c cells slots Q D q cA A nL (pc + 2) (ls.set i none) [] σ) : W p l e R s m args below meth c H locs cells slots Q (F0 m pc lsA [.ref q9]) :=
  lv_astore hx hb hd (LH_has hL) hi rfl (fun ls2 h2 => k H locs ls2 hP hD hS (LH_stN hL.1 hp h2))
/-- an int answer, where the counters may be lower than the contract's -/
theorem VV.iretW {ret : Option FieldType} {mc ms : Nat} {v : Int32} (hx : p.tables.exec = Jvm.exec) (hb : c.code = cc) (hr : meth.sig.returnType = some .int) (hlocks : meth.locks = false) (hd : decode cc pc = .ok (.ireturn, 1)) (h1 : cells ≤ mc) (h2 : slots ≤ ms) :
    VV p l e R s m args below meth c cells slots (MQ below (QK D q cA A (some (.int v)) τ) args s mc ms A) D q cA A nL pc ls [.int v] τ := by
  intro H locs lsA hP hD hS hL
  exact W.widen h1 h2 (W.iret hx hb hr (fun t ht hW => ⟨⟨rfl, by rw [ht]; exact hP⟩, hS.F ht⟩) hS.2.2 hd hlocks)
theorem EX.at (hE : EX A s s.heap) (hS : va_S A s.heap H locs) : EX A s H := hE.kept (fun a h1 h2 => hS.2.1 a h1 h2)
theorem PX_of {as : List Value} {U : State} (hK : KK D cA s) (hE : EX A s s.heap) (hA : ∀ x, s.heap.size ≤ x → A x) (hP : va_P D cl7 (wG q cA σ) H) (hD : va_D A (wG q cA σ)) (hS : va_S A s.heap H locs) (hU : U.heap = H) (hW : s.WarmedH U.vm) : PX D q cA H.size as σ (as.map (cnc q)).toArray U :=
  ⟨rfl, by rw [hU], by rw [hU]; exact hP, ⟨va_K.moved hW.alike hK.1, nw_warm hW hK.2⟩, hD.weaken (fun _ _ _ _ => trivial), by rw [hU]; exact ((EX.at hE hS).warm hW).narrow (wG_free hD hS hA)⟩
end ENTRY
section NESTX
variable {p : Program} {l : Launch} {e : Env} {R : Room} {s : State} {m : MethodId} {args : Array Value} {below : List Frame} {meth : Method} {c : Code} {T : State} {H : Heap} {locs : List Loc} {cells slots : Nat}
theorem vx_callVN9 (X : Stand p l e R s m args below meth c T locs cells slots) (hexec : p.tables.exec = Jvm.exec) {own C host : String} {index : Nat} {y : MethodName} {bytes : ByteArray} {maxL : Nat} {ret : Option FieldType}
    (hown : s.vm.findClass own = some m.cls) (hlink : (Cond.methodLinkNest own index y host).before args s = true) (hinst : (Cond.instanceMethod y).before args s = true) (hsel : (Cond.selects C y y).before args s = true)
    (hcode : (Cond.code y bytes maxL ret).before args s = true) (hy : y.cls ≠ "java/lang/invoke/MethodHandle" ∧ y.cls ≠ "java/lang/invoke/VarHandle")
    {W9 : Nat} {Pre : Pt → Array Value → Prop} {Post : Pt → Array Value → Option Value → Pt → Prop} {PostX : Pt → Array Value → Addr → Pt → Prop} (hK : vx_Back l R p e below s args y 3 W9 Pre Post PostX)
    {b : Addr} {cellB : Cell} (hcell : T.heap[b]? = some cellB) (hobj : cellB.vm.isStatics = false) (hcls : s.vm.findClass C = some cellB.cls)
    {g : JFrame} (hg : g.method = m) (hsize : g.locals.size = c.maxLocals) {argsL rest : List Value} (hlen : ∀ sig, parseMethodDescriptor y.desc = some sig → argsL.length = sig.parameters.length)
    (hstack : g.stack = argsL.reverse ++ .ref b :: rest) (hW : 2 * g.monitorRoom + (rest.map fun v => v.category).sum ≤ W9) (hdg : decode c.code g.pc = .ok (.invokevirtual index, 3))
    (hpre : ∀ vm₁, s.WarmedH vm₁ → Pre ⟨T.setVm vm₁, locs, cells, slots⟩ (Value.ref b :: argsL).toArray) :
    (∃ (v : Option Value) (vm₁ : Vm) (B : Pt), s.WarmedH vm₁ ∧ Stand p l e R s m args below meth c B.U B.locs B.cells B.slots ∧ Post ⟨T.setVm vm₁, locs, cells, slots⟩ (Value.ref b :: argsL).toArray v B ∧
      ∀ target, Steps p.tables e below (B.U.setTop { g with pc := g.pc + 3, stack := v.toList ++ rest }) target → Steps p.tables e below (T.setTop g) target) ∨
    (∃ (q : Addr) (vm₁ : Vm) (B : Pt), s.WarmedH vm₁ ∧ Stand p l e R s m args below meth c B.U B.locs B.cells B.slots ∧ PostX ⟨T.setVm vm₁, locs, cells, slots⟩ (Value.ref b :: argsL).toArray q B ∧
      Steps p.tables e below (T.setTop g) ((B.U.setTop { g with stack := rest }).pushFrame (.throwing q))) := by
  obtain ⟨mk, methM, hnamed, hmethM, hstM, habM⟩ := Cond.instanceMethod_spec hinst
  obtain ⟨methM', cM, hmethM', -, -, -, -, -, -, hsigM⟩ := Cond.code_spec hnamed hcode
  cases hmethM.symm.trans hmethM'
  obtain ⟨c2, r2, m2, q1, q2, q3, q4, kP, hkP, hkPi⟩ := Cond.selects_spec hsel
  cases hcls.symm.trans q1
  cases (State.methodFound?_of_named hnamed hy).symm.trans q2
  cases hnamed.symm.trans q3
  have hselP : selectMethod e.platform s.vm cellB.cls mk = .method mk := by rw [Launch.admits_selectMethod X.admits]; exact q4
  obtain ⟨vm₁, X₁, hstep₁⟩ := X.invokevirtualNest hexec hown hlink hnamed hmethM hstM hkP hkPi hy (a := b) (cell := cellB) hcell
    (fun z h => by rw [h] at hobj; cases hobj) hselP hmethM habM hkP hkPi (g := g) hg (argsL := argsL) (rest := rest) (hlen _ hsigM) hstack hdg
  rcases hK m meth c ⟨T.setVm vm₁, locs, cells, slots⟩ { g with stack := rest } (.invokevirtual index) mk (Value.ref b :: argsL).toArray X₁ hg hsize hdg hW (X₁.named hnamed) (hpre vm₁ X₁.warmed) with ⟨v, B, X', hpost, hsteps⟩ | ⟨q, B, X', hpost, hsteps⟩
  · exact Or.inl ⟨v, vm₁, B, X₁.warmed, X', hpost, fun target h => hstep₁ _ fun acts => by rw [doInvoke_state]; exact hsteps.trans h⟩
  · exact Or.inr ⟨q, vm₁, B, X₁.warmed, X', hpost, hstep₁ _ fun acts => by rw [doInvoke_state]; exact hsteps⟩
variable {y : MethodName} {bytes cc : ByteArray} {maxL nL mc ms n index : Nat} {ret : Option FieldType} {ws : List Cond} {rm : Room} {Pc : Array Value → State → Prop} {Qc : Array Value → State → Outcome → State → Prop} {XC : String → State → State → Prop} {free : Addr → Prop} {Ts : List Cond} {own C host : String} {b : Addr} {As rest : List Value} {g : JFrame}
theorem vx_runVN9 (S : CallFix p m c cc nL s args Ts own) (hM : vx_Met l y ws rm Pc Qc XC mc ms free) (cw : va_CN R s args own index y host bytes maxL ret ws rm mc ms n ∧ (Cond.instanceMethod y).before args s = true ∧ (Cond.selects C y y).before args s = true) (hp : PreV s H C b Pc As)
    (hg : g.method = m) (hn : As.length = n) (hsize : g.locals.size = nL) (hstack : g.stack = As.reverse ++ .ref b :: rest) (hW : 2 * g.monitorRoom + (rest.map fun v => v.category).sum ≤ 8) (hdg : decode cc g.pc = .ok (.invokevirtual index, 3)) (hf : cells + mc ≤ R.cells ∧ slots + ms ≤ R.slots) :
    vx_Run p l e R s m args below meth c H locs cells slots mc ms g rest (Qc (Value.ref b :: As).toArray) XC free := by
  obtain ⟨⟨⟨hrc, hrs, hfr, hlo, hws, hcw⟩, hcode, hini, hy, hlen, hl⟩, hin, hse⟩ := cw
  have hK : vx_Back l R p e below s args y 3 8 (PreOf R mc ms Pc) (PostOf Qc mc ms free) (vx_Post XC mc ms free) := vx_back (bytes := bytes) (maxL := maxL) (ret := ret) hM hp.1 hrc hrs hfr hlo hws hcw (fun a' U hW => word_at hW (Or.inl (by first | rfl | simp [Cond.onTables, Cond.keeps, Cond.steady])) hini)
  obtain ⟨hx, hb, hml, ho, -⟩ := S
  obtain ⟨-, ⟨cellB, hcB, hoB, hclB⟩, hPc⟩ := hp
  intro T hT X
  rcases vx_callVN9 X hx (C := C) (bytes := bytes) (maxL := maxL) (ret := ret) ho hl hin hse hcode hy hK (by rw [hT]; exact hcB) hoB hclB hg (hsize.trans hml.symm) (argsL := As) (rest := rest) (fun sig h => hn.trans (hlen sig h)) hstack hW (by rw [hb]; exact hdg)
    (fun vm₁ hW₁ => ⟨hf.1, hf.2, hPc (T.setVm vm₁) hT hW₁⟩) with ⟨v, vm₁, ⟨U', l2, c2, s2⟩, hW₁, X', ⟨g', mk, t, L, e1, e2, hq, h1, hL, h2, h3⟩, st⟩ | ⟨q, vm₁, ⟨U', l2, c2, s2⟩, hW₁, X', ⟨g', mk, t, L, E, ce, e1, e2, hq, hce, hcv, hcl, h1, hL, h2, h3⟩, st⟩
  · dsimp only [Pt.U, Pt.locs, Pt.cells, Pt.slots] at X' e1 e2 h1 h2 h3 st
    subst h1; subst h2; subst h3
    exact Or.inl ⟨v, (T.setVm vm₁).calling g' mk (Value.ref b :: As).toArray, t, U', L, hT, X', hL, e1, e2, hq, st⟩
  · dsimp only [Pt.U, Pt.locs, Pt.cells, Pt.slots] at X' e1 e2 h1 h2 h3 st hcl
    subst h1; subst h2; subst h3
    exact Or.inr ⟨q, (T.setVm vm₁).calling g' mk (Value.ref b :: As).toArray, t, U', L, E, ce, hT, X', hL, e1, e2, hq, hce, hcv, vx_cls hW₁ hcl, st⟩
end NESTX
abbrev exNm : List String := ["java/lang/RuntimeException", "java/lang/Exception"]
theorem hat_of {args : Array Value} {s : State} {L : List Jvm.Cond} (hL : L.all (fun w => decide (w ∈ lw_tbl) && (goodWord w || isX w)) = true) (hts : ∀ w ∈ AW, w.before args s = true) (hNX : ∀ w ∈ NX, va_Nw w s) : ∀ w ∈ L, w.before args s = true := by
  intro w hw
  have h1 := List.all_eq_true.mp hL w hw
  simp only [Bool.and_eq_true, decide_eq_true_eq, Bool.or_eq_true] at h1
  rcases h1.2 with h2 | h2
  · exact hts w (List.mem_filter.mpr ⟨h1.1, h2⟩)
  · have h3 : w ∈ NX := List.mem_filter.mpr ⟨h1.1, h2⟩
    exact va_Nw.use (nx_onTables h3) (hNX w h3)
theorem at_3_47 : (vx_atS RX3 47 IAE exNm).all (fun w => decide (w ∈ lw_tbl) && (goodWord w || isX w)) = true := by decide +kernel
theorem at_3_54 : (vx_atS RX3 54 UOE exNm).all (fun w => decide (w ∈ lw_tbl) && (goodWord w || isX w)) = true := by decide +kernel
theorem at_3_59 : (vx_atS RX3 59 ISE exNm).all (fun w => decide (w ∈ lw_tbl) && (goodWord w || isX w)) = true := by decide +kernel
theorem at_5_227 : (vx_atS RX5 227 IAE exNm).all (fun w => decide (w ∈ lw_tbl) && (goodWord w || isX w)) = true := by decide +kernel
theorem at_5_234 : (vx_atS RX5 234 ISE exNm).all (fun w => decide (w ∈ lw_tbl) && (goodWord w || isX w)) = true := by decide +kernel
theorem ot_3_47 : ∀ w ∈ Jvm.Cond.classLink RX3 43 IAE :: Jvm.Cond.initialized IAE :: vx_atS RX3 47 IAE exNm, vx_ot w = true := by decide +kernel
theorem ot_3_54 : ∀ w ∈ Jvm.Cond.classLink RX3 50 UOE :: Jvm.Cond.initialized UOE :: vx_atS RX3 54 UOE exNm, vx_ot w = true := by decide +kernel
theorem ot_3_59 : ∀ w ∈ Jvm.Cond.classLink RX3 55 ISE :: Jvm.Cond.initialized ISE :: vx_atS RX3 59 ISE exNm, vx_ot w = true := by decide +kernel
theorem ot_5_227 : ∀ w ∈ Jvm.Cond.classLink RX5 223 IAE :: Jvm.Cond.initialized IAE :: vx_atS RX5 227 IAE exNm, vx_ot w = true := by decide +kernel
theorem ot_5_234 : ∀ w ∈ Jvm.Cond.classLink RX5 230 ISE :: Jvm.Cond.initialized ISE :: vx_atS RX5 234 ISE exNm, vx_ot w = true := by decide +kernel
theorem cl_3_43 : Jvm.Cond.classLink RX3 43 IAE ∈ AW := aw_of (i := 688) (by decide +kernel) (by decide +kernel)
theorem cl_3_50 : Jvm.Cond.classLink RX3 50 UOE ∈ AW := aw_of (i := 756) (by decide +kernel) (by decide +kernel)
theorem cl_3_55 : Jvm.Cond.classLink RX3 55 ISE ∈ AW := aw_of (i := 772) (by decide +kernel) (by decide +kernel)
theorem cl_5_223 : Jvm.Cond.classLink RX5 223 IAE ∈ AW := aw_of (i := 681) (by decide +kernel) (by decide +kernel)
theorem cl_5_230 : Jvm.Cond.classLink RX5 230 ISE ∈ AW := aw_of (i := 683) (by decide +kernel) (by decide +kernel)
theorem cl_5_257 : Jvm.Cond.classLink RX5 257 UOE ∈ AW := aw_of (i := 682) (by decide +kernel) (by decide +kernel)
theorem cl_7_13 : Jvm.Cond.classLink RL 13 IAE ∈ AW := aw_of (i := 791) (by decide +kernel) (by decide +kernel)
theorem cl_7_15 : Jvm.Cond.classLink RL 15 ISE ∈ AW := aw_of (i := 792) (by decide +kernel) (by decide +kernel)
theorem ini_IAE : Jvm.Cond.initialized IAE ∈ AW := aw_of (i := 94) (by decide +kernel) (by decide +kernel)
theorem ini_ISE : Jvm.Cond.initialized ISE ∈ AW := aw_of (i := 95) (by decide +kernel) (by decide +kernel)
theorem ini_UOE : Jvm.Cond.initialized UOE ∈ AW := aw_of (i := 96) (by decide +kernel) (by decide +kernel)
theorem ca_IAE : Jvm.Cond.castable IAE IAE ∈ NX := List.mem_filter.mpr ⟨List.mem_of_getElem? (i := 690) (by decide +kernel), rfl⟩
theorem ca_UOE : Jvm.Cond.castable UOE UOE ∈ NX := List.mem_filter.mpr ⟨List.mem_of_getElem? (i := 758) (by decide +kernel), rfl⟩
theorem ca_ISE : Jvm.Cond.castable ISE ISE ∈ NX := List.mem_filter.mpr ⟨List.mem_of_getElem? (i := 774) (by decide +kernel), rfl⟩
