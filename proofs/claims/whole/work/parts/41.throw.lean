/-- which exception a kept sender throws: none, IllegalArgument, UnsupportedOperation, IllegalState -/
def thr (k : Nat) (σ : ST) : Nat := if σ.1 k 2 = 2 then 0 else if σ.1 k 3 = 0 then 0 else if σ.1 k 2 = 4 then 1 else if σ.1 k 2 = 7 then 2 else 3
def exN (n : Nat) : String := if n = 1 then IAE else if n = 2 then UOE else ISE
abbrev rmX (f n : Nat) : Room := { frames := f, cells := 1, slots := 6, locals := n }
section EXI
variable {p : Program} {l : Launch} {e : Env} {R : Room} {s : State} {m : MethodId} {args : Array Value} {below : List Frame} {meth : Method} {c : Code} {D : va_G} {q : Nat → Nat} {cA : Nat → ClassId} {A : Nat → Prop} {nL ow pc : Nat} {cc : ByteArray} {ls : List (Option Value)} {st : List Value} {σ τ : ST}
variable {Qc : Array Value → State → Outcome → State → Prop} {XC : String → State → State → Prop}
/-- a throw new E("text"), the heap as it was -/
theorem VV.throwS {ik is ic : Nat} {E tx : String} (hl : l.stackTraces = false) (hC : CT p s m args c D cA A nL ow cc) (hE : EX A s s.heap) (hR : 6 ≤ R.frames ∧ 82 ≤ R.locals ∧ 1 ≤ R.cells ∧ 6 ≤ R.slots)
    (hfit : Bundle.fit E = true) (hk : Jvm.Cond.classLink (RN ow) ik E ∈ AW) (hini : Jvm.Cond.initialized E ∈ AW) (hstr : (RN ow, is, tx) ∈ strs)
    (hat : (vx_atS (RN ow) ic E exNm).all (fun w => decide (w ∈ lw_tbl) && (goodWord w || isX w)) = true) (hot : ∀ w ∈ Jvm.Cond.classLink (RN ow) ik E :: Jvm.Cond.initialized E :: vx_atS (RN ow) ic E exNm, vx_ot w = true)
    (d0 : decode cc pc = .ok (.new ik, 3)) (d3 : decode cc (pc + 3) = .ok (.dup, 1)) (d4 : decode cc (pc + 4) = .ok (.ldc is, 2)) (d6 : decode cc (pc + 6) = .ok (.invokespecial ic, 3)) (d9 : decode cc (pc + 9) = .ok (.athrow, 1))
    (hout : ∀ x ∈ c.exceptionTable.toList, covers x (pc + 9) = false) (hlocks : meth.locks = false)
    (hx : ∀ t : State, va_P D cl7 (wG q cA σ) t.heap → va_F A s t → XC E s t) :
    VV p l e R s m args below meth c 0 0 (vx_MQ below Qc XC args s 1 6 A) D q cA A nL pc ls [] σ := by
  obtain ⟨hxx, hb, hml, hown, hts, hK, hA⟩ := hC
  obtain ⟨h1, h2, h3, h4, h5⟩ := hE
  obtain ⟨sa, hsa⟩ := h2 _ hstr
  intro H locs lsA hP hD hS hL
  refine vx_throwS (A := A) (names := exNm) hxx hb hl hown hfit (by decide +kernel) (hts _ hk) (hts _ hini) hsa (hat_of hat hts h1) hot h4 h5 hS (by rw [hml, hL.2.1]) d0 d3 d4 d6 d9 hout hR.1 hR.2.1 (by have := hR.2.2.1; omega) (by have := hR.2.2.2; omega) hlocks (fun t ha hz hq => ?_) hS.2.2 (Nat.le_refl _) (Nat.le_refl _)
  refine hx t (hP.kept fun k r hk => hq r.1 ?_) ⟨Nat.le_trans hS.1 hz, fun z h6 h7 => ?_⟩
  · exact (hP k r hk).lt
  · rw [hq z (Nat.lt_of_lt_of_le h6 hS.1)]
    exact hS.2.1 z h6 h7
end EXI
set_option maxHeartbeats 4000000 in
theorem km_throwFailure (l : Launch) (hl : l.stackTraces = false) {k : Nat} {σ : ST} (hk : kd k = 3) (D : va_G) (q : Nat → Nat) (cA : Nat → ClassId) (sz : Nat) :
    vx_Met l yX3_throwFailure (.code yX3_throwFailure cX3_throwFailure 1 none :: AW) (rmX 6 82) (PX D q cA sz [.ref k] σ) (va_Qv (S := Unit) (fun _ => thr k σ = 0) (fun _ t => va_P D cl7 (wG q cA σ) t.heap) (va_A (wG q cA σ) sz))
      (vx_X (S := Unit) (fun _ => thr k σ ≠ 0) (fun E _ t => E = exN (thr k σ) ∧ va_P D cl7 (wG q cA σ) t.heap) (va_A (wG q cA σ) sz)) 1 6 (va_A (wG q cA σ) sz) := by
  refine vx_ofW (cc := cX3_throwFailure) (maxL := 1) (ret := none) (by decide +kernel) rfl ?_
  intro p e s m args below meth c s₁ B hml htab hv
  obtain ⟨rfl, hsz, hP, hK, hD0, hE⟩ := hv
  have hts := atoms_spec (ws := .code yX3_throwFailure cX3_throwFailure 1 none :: AW) B.pre
  have hown : s.vm.findClass (RN 3) = some m.cls := findClass_of_methodNamed B.named
  subst hsz
  refine VV.entry (as := [.ref k]) hP hD0 (Nat.le_of_ble_eq_true rfl) ?_
  have hC : CT p s m ([Value.ref k].map (cnc q)).toArray c D cA (va_A (wG q cA σ) s.heap.size) 1 3 cX3_throwFailure := ⟨B.exec, B.bytes, hml, hown, fun w hw => hts w (List.mem_cons_of_mem _ hw), hK, fun x hx => Or.inr hx⟩
  generalize hAe : va_A (wG q cA σ) s.heap.size = A at hC hE ⊢
  have hR : 6 ≤ (headSpec (.code yX3_throwFailure cX3_throwFailure 1 none :: AW) (rmX 6 82)).room.frames ∧ 82 ≤ (headSpec (.code yX3_throwFailure cX3_throwFailure 1 none :: AW) (rmX 6 82)).room.locals ∧ 1 ≤ (headSpec (.code yX3_throwFailure cX3_throwFailure 1 none :: AW) (rmX 6 82)).room.cells ∧ 6 ≤ (headSpec (.code yX3_throwFailure cX3_throwFailure 1 none :: AW) (rmX 6 82)).room.slots := ⟨Nat.le_refl _, Nat.le_refl _, Nat.le_refl _, Nat.le_refl _⟩
  have hlocks := B.notSynchronized
  have hr := B.returns
  have hx := B.exec
  have hb := B.bytes
  have hret : ∀ ls, thr k σ = 0 → VV p l e (headSpec (.code yX3_throwFailure cX3_throwFailure 1 none :: AW) (rmX 6 82)).room s m ([Value.ref k].map (cnc q)).toArray below meth c 0 0 (vx_MQ below (va_Qv (S := Unit) (fun _ => thr k σ = 0) (fun _ t => va_P D cl7 (wG q cA σ) t.heap) A) (vx_X (S := Unit) (fun _ => thr k σ ≠ 0) (fun E _ t => E = exN (thr k σ) ∧ va_P D cl7 (wG q cA σ) t.heap) A) ([Value.ref k].map (cnc q)).toArray s 1 6 A) D q cA A 1 15 ls [] σ := by
    intro ls h0 H locs lsA hP hD hS hL
    exact vx_ret (W.widen (by omega) (by omega) (W.vret hx hb hr (fun t ht hW => ⟨⟨(), rfl, h0, by show va_P D cl7 (wG q cA σ) t.heap; rw [ht]; exact hP⟩, hS.F ht⟩) hS.2.2 (show decode cX3_throwFailure 15 = .ok (.return_, 1) by decide +kernel) hlocks))
  have h := VV.bd (l := l) (e := e) (below := below) (meth := meth) (q := q) (cells := 0) (slots := 0) (Q := vx_MQ below (va_Qv (S := Unit) (fun _ => thr k σ = 0) (fun _ t => va_P D cl7 (wG q cA σ) t.heap) A) (vx_X (S := Unit) (fun _ => thr k σ ≠ 0) (fun E _ t => E = exN (thr k σ) ∧ va_P D cl7 (wG q cA σ) t.heap) A) ([Value.ref k].map (cnc q)).toArray s 1 6 A) (R := (headSpec (.code yX3_throwFailure cX3_throwFailure 1 none :: AW) (rmX 6 82)).room) hC rfl rfl (Nat.zero_le _) (Nat.zero_le _)
  refine h.run (o := [kd k = 3]) (ls' := [some (.ref k)]) (st' := [.int 2, .int (σ.1 k 2)]) (σ' := σ) [(.aload_n 0, 1, 0, 0, 0, 0), (.getfield 37, 3, 0, 0, 3, 2), (.iconst 2, 1, 2, 0, 0, 0)] (pc2 := 5) (by decide +kernel) rfl (And.intro hk trivial) ?_
  refine h.icmp_eq (tgt := 15) (show decode cX3_throwFailure 5 = .ok (.if_icmp .eq 10, 3) by decide +kernel) (by decide) (fun c1 => ?_) (fun c1 => ?_)
  · exact hret _ (by unfold thr; rw [if_pos c1])
  refine h.run (o := [kd k = 3]) (ls' := [some (.ref k)]) (st' := [.int (σ.1 k 3)]) (σ' := σ) [(.aload_n 0, 1, 0, 0, 0, 0), (.getfield 40, 3, 0, 0, 3, 3)] (pc2 := 12) (by decide +kernel) rfl (And.intro hk trivial) ?_
  refine h.if_ne (tgt := 16) (show decode cX3_throwFailure 12 = .ok (.ifCond .ne 4, 3) by decide +kernel) (by decide) (fun c2 => ?_) (fun c2 => ?_)
  rotate_left
  · exact hret _ (by unfold thr; rw [if_neg c1, if_pos c2])
  refine h.run (o := [kd k = 3]) (ls' := [some (.ref k)]) (st' := [.int 4, .int (σ.1 k 2)]) (σ' := σ) [(.aload_n 0, 1, 0, 0, 0, 0), (.getfield 37, 3, 0, 0, 3, 2), (.iconst 4, 1, 4, 0, 0, 0)] (pc2 := 21) (by decide +kernel) rfl (And.intro hk trivial) ?_
  have hout : ∀ pc, ∀ x ∈ c.exceptionTable.toList, covers x pc = false := fun pc x hx => (htab x hx).elim
  refine h.icmp_ne (tgt := 34) (show decode cX3_throwFailure 21 = .ok (.if_icmp .ne 13, 3) by decide +kernel) (by decide) (fun c3 => ?_) (fun c3 => ?_)
  · refine h.run (o := [kd k = 3]) (ls' := [some (.ref k)]) (st' := [.int 7, .int (σ.1 k 2)]) (σ' := σ) [(.aload_n 0, 1, 0, 0, 0, 0), (.getfield 37, 3, 0, 0, 3, 2), (.bipush 7, 2, 7, 0, 0, 0)] (pc2 := 40) (by decide +kernel) rfl (And.intro hk trivial) ?_
    refine h.icmp_ne (tgt := 53) (show decode cX3_throwFailure 40 = .ok (.if_icmp .ne 13, 3) by decide +kernel) (by decide) (fun c4 => ?_) (fun c4 => ?_)
    · have ht : thr k σ = 3 := by unfold thr; rw [if_neg c1, if_neg c2, if_neg c3, if_neg c4]
      exact VV.throwS (ik := 55) (is := 57) (ic := 59) (E := ISE) (tx := "failed") hl hC hE hR (by decide +kernel) cl_3_55 ini_ISE (by unfold strs; exact List.mem_of_getElem? (i := 2) rfl) at_3_59 ot_3_59 (by decide +kernel) (by decide +kernel) (by decide +kernel) (by decide +kernel) (by decide +kernel) (hout _) hlocks (fun t h1 h2 => ⟨(), by rw [ht]; decide, ⟨by rw [ht]; decide, h1⟩, h2⟩)
    · have ht : thr k σ = 2 := by unfold thr; rw [if_neg c1, if_neg c2, if_neg c3, if_pos c4]
      exact VV.throwS (ik := 50) (is := 52) (ic := 54) (E := UOE) (tx := "feared") hl hC hE hR (by decide +kernel) cl_3_50 ini_UOE (by unfold strs; exact List.mem_of_getElem? (i := 1) rfl) at_3_54 ot_3_54 (by decide +kernel) (by decide +kernel) (by decide +kernel) (by decide +kernel) (by decide +kernel) (hout _) hlocks (fun t h1 h2 => ⟨(), by rw [ht]; decide, ⟨by rw [ht]; decide, h1⟩, h2⟩)
  · have ht : thr k σ = 1 := by unfold thr; rw [if_neg c1, if_neg c2, if_pos c3]
    exact VV.throwS (ik := 43) (is := 45) (ic := 47) (E := IAE) (tx := "named") hl hC hE hR (by decide +kernel) cl_3_43 ini_IAE (by unfold strs; exact List.mem_of_getElem? (i := 0) rfl) at_3_47 ot_3_47 (by decide +kernel) (by decide +kernel) (by decide +kernel) (by decide +kernel) (by decide +kernel) (hout _) hlocks (fun t h1 h2 => ⟨(), by rw [ht]; decide, ⟨by rw [ht]; decide, h1⟩, h2⟩)
