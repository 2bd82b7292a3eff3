/-! THE CLAIM OUT OF ONE WALK OF THE LAW'S BODY. Your part is whole_start (and what it stands on); all else here is the same for every law, but numbers. -/
def R_law : String := "ThreeTimesLaw"
def lw_P (b : Addr) (xs : List Int32) (args : Array Value) (s : State) : Prop := args = #[.ref b] ∧ s.IntsAt b xs ∧ xs.length ≤ 3072 ∧ (Jvm.Cond.and given_1 narrow_1).before args s = true
def lw_Q (_ : Array Value) (s : State) (o : Outcome) (t : State) : Prop := o = .returned (some (.int 1)) ∧ Framed s o t [] 601024 7293034
def lw_Z (below : List Frame) (a : Array Value) (s : State) : State → Prop := fun t => ∃ o, t.status = .running ∧ Ended t below o ∧ lw_Q a s o t
/-- the law's own end, with 1 on the stack, nothing written that was there before, its room as the claim has it -/
theorem lw_ret {p : Program} {l : Launch} {e : Env} {s : State} {m : MethodId} {below : List Frame} {meth : Method} {c : Code} {b : Nat} (hx : p.tables.exec = Jvm.exec) (hb : c.code = code) (hr : meth.sig.returnType = ret) (hlocks : meth.locks = false) {pc : Nat} {H : Heap} {ls : Array Slot} (hdg : decode code pc = .ok (.ireturn, 1)) : W p l e room_1 s m #[Value.ref b] below meth c H [] 601024 7293034 (lw_Z below #[Value.ref b] s) (F0 m pc ls [.int 1]) := by
  intro T hT X
  obtain ⟨fs, hret, hrun, hended, hW, hframe⟩ := X.leave (v := some (.int 1)) (hlocks := hlocks) (fun h => by rw [hr] at h; cases h)
  have hmeth' : T.vm.method? m = some meth := X.method'
  refine ⟨T.setFrames fs, ?_, .returned (some (.int 1)), hrun, hended, rfl, ⟨_, rfl⟩, hW, hframe⟩
  jvm_step X.here [X.here.top, hx, hb, hdg, hmeth', hr, ret, narrow_b1]
  (try refine ⟨rfl, ?_⟩); (try refine ⟨rfl, ?_⟩)
  first | (intro acts; rw [hret _ acts rfl rfl rfl]) | rw [hret _ _ rfl rfl rfl]
  exact Steps.refl _
/-- what holds at the law's entry: the machine, the code, the tables' words (any of lw_tbl by 'hts w (by decide +kernel)'), the script of L ints xs at the cell b, what the Statement gives of the start (any of its parts by flat_of_before) -/
def lw_At (p : Program) (s : State) (m : MethodId) (meth : Method) (c : Code) (b L : Nat) (xs : Nat → Int32) : Prop :=
  p.tables.exec = Jvm.exec ∧ c.code = code ∧ meth.sig.returnType = ret ∧ c.maxLocals = 8 ∧ s.vm.findClass R_law = some m.cls ∧ (∀ w ∈ lw_tbl, w.before #[Value.ref b] s = true) ∧ va_X b L xs s s.heap ∧ b < s.heap.size ∧ meth.locks = false ∧ (Jvm.Cond.and given_1 narrow_1).before #[Value.ref b] s = true
/-! THE LAW's rules: the heap's longest-lived facts, and V with the counters of cells and slots. -/
def BL (l : Launch) (xs : Nat → Int32) (L : Nat) (V : Nat → Nat → Nat → List (Option Value) → List Value → ST → Prop) : Prop :=
  ∃ (p : Program) (e : Env) (s : State) (m : MethodId) (below : List Frame) (meth : Method) (c : Code) (D : va_G) (q : Nat → Nat) (cA : Nat → ClassId) (b : Nat),
    l.stackTraces = false ∧ CT p s m #[Value.ref b] c D cA (fun x => s.heap.size ≤ x) 8 7 cL_law ∧ EX (fun x => s.heap.size ≤ x) s s.heap ∧ q 68 = b ∧ va_X b L xs s s.heap ∧ b < s.heap.size ∧ meth.sig.returnType = ret ∧ meth.locks = false ∧
    V = fun c' n => VV p l e room_1 s m #[Value.ref b] below meth c c' n (lw_Z below #[Value.ref b] s) D q cA (fun x => s.heap.size ≤ x) 8
section BLR
variable {l : Launch} {xs : Nat → Int32} {L : Nat} {V : Nat → Nat → Nat → List (Option Value) → List Value → ST → Prop} {c n pc : Nat} {ls : List (Option Value)} {st rest : List Value} {σ τ : ST}
theorem BL.bd (h : BL l xs L V) (hc : c ≤ 601024) (hn : n ≤ 7293034) : BD l 7 cL_law 8 10 346 (V c n) := by
  obtain ⟨p, e, s, m, below, meth, cd, D, q, cA, b, hl, hC, -, -, -, -, -, -, rfl⟩ := h
  exact VV.bd hC rfl rfl hc hn
theorem BL.sld (h : BL l xs L V) {i : Int32} (hin : inb i L = true) (hd : decode cL_law pc = .ok (.iaload, 1)) (k : V c n (pc + 1) ls (.int (xs i.toNatClampNeg) :: st) σ) : V c n pc ls (.int i :: .ref 68 :: st) σ := by
  obtain ⟨p, e, s, m, below, meth, cd, D, q, cA, b, hl, ⟨hx, hb, -⟩, -, hq, hX, hbl, -, -, rfl⟩ := h
  subst hq
  intro H locs lsA hP hD hS hL
  exact va_sld hx hb hX hbl (Nat.not_le.mpr hbl) hS (inb_in hin) hd (k H locs lsA hP hD hS hL)
theorem BL.slen (h : BL l xs L V) (hd : decode cL_law pc = .ok (.arraylength, 1)) (k : V c n (pc + 1) ls (.int (Int32.ofNat L) :: st) σ) : V c n pc ls (.ref 68 :: st) σ := by
  obtain ⟨p, e, s, m, below, meth, cd, D, q, cA, b, hl, ⟨hx, hb, -⟩, -, hq, hX, hbl, -, -, rfl⟩ := h
  subst hq
  intro H locs lsA hP hD hS hL
  exact va_slen hx hb hX hbl (Nat.not_le.mpr hbl) hS hd (k H locs lsA hP hD hS hL)
theorem BL.ret (h : BL l xs L V) (hc : c ≤ 601024) (hn : n ≤ 7293034) (hd : decode cL_law pc = .ok (.ireturn, 1)) : V c n pc ls [.int 1] σ := by
  obtain ⟨p, e, s, m, below, meth, cd, D, q, cA, b, hl, ⟨hx, hb, -⟩, -, -, -, -, hr, hlocks, rfl⟩ := h
  intro H locs lsA hP hD hS hL
  refine va_forget (fun q hq => hS.2.2 q hq) ?_
  refine W.widen hc hn ?_
  exact lw_ret hx hb hr hlocks hd
theorem ml_7_161 : Jvm.Cond.methodLink (RN 7) 161 yX5_toss ∈ AW := aw_of (i := 677) (by decide +kernel) (by decide +kernel)
theorem im_toss : Jvm.Cond.instanceMethod yX5_toss ∈ AW := aw_of (i := 678) (by decide +kernel) (by decide +kernel)
theorem se_toss : Jvm.Cond.selects (RN 5) yX5_toss yX5_toss ∈ AW := aw_of (i := 679) (by decide +kernel) (by decide +kernel)
theorem in_5 : Jvm.Cond.initialized (RN 5) ∈ AW := aw_of (i := 82) (by decide +kernel) (by decide +kernel)
theorem ml_7_143 : Jvm.Cond.methodLink (RN 7) 143 yL_element ∈ AW := aw_of (i := 788) (by decide +kernel) (by decide +kernel)
theorem st_el : Jvm.Cond.static yL_element ∈ AW := aw_of (i := 789) (by decide +kernel) (by decide +kernel)
theorem in_7 : Jvm.Cond.initialized (RN 7) ∈ AW := aw_of (i := 81) (by decide +kernel) (by decide +kernel)
set_option maxHeartbeats 4000000 in
theorem BL.toss (h : BL l xs L V) {x1 r : Int32} (hf : fX5_toss x1 σ = some r) (hrest : (rest.map fun v => v.category).sum ≤ 8) (hc : c + 1 ≤ 601024) (hn : n + 6 ≤ 7293034) (k : V (c + 1) (n + 6) 1468 ls (.int r :: rest) σ) : V c n 1465 ls (.int x1 :: .ref 0 :: rest) σ := by
  obtain ⟨p, e, s, m, below, meth, cd, D, q, cA, b, hl, ⟨hx, hb, hml, hown, hts, hK, hA⟩, hE, -, -, -, -, -, rfl⟩ := h
  intro H locs lsA hP hD hS hL
  have he : (wG q cA σ)[0]? = some (q 0, .inr (5, (List.range (NN 5)).map fun j => cnc q (fval 5 0 j σ))) := by rw [wG_at (by decide), cellG_obj kd_0 (by decide)]
  have hpre : PreV s H (RN 5) (q 0) (PX D q cA H.size [.ref 0, .int x1] σ) [.int x1] :=
    ⟨PX_blind _ _ _ _ _ _, va_recv hK.1 hP (cl7_at 5 (by decide)) he, fun U hU hW => PX_of hK hE hA hP hD hS hU hW⟩
  have hfree := wG_free hD hS hA
  intro T hT X
  obtain ⟨v', st₀, t, T', Lc, h0, X', hLc, e1, e2, ⟨⟨hv, hbp⟩, hz, hk⟩, stp⟩ := (vx_runVW (g := F0 m 1465 lsA (.int x1 :: .ref (q 0) :: rest.map (cnc q))) (As := [.int x1]) (rest := rest.map (cnc q)) (own := RN 7) (C := RN 5) (R := room_1) (cells := c) (slots := n) (locs := locs) ⟨hx, hb, hml, hown, hts⟩ (km_toss l hl hf D q cA H.size) ⟨⟨rfl, rfl, Nat.le_of_ble_eq_true rfl, Nat.le_of_ble_eq_true rfl, ws_warm hts cwW_toss, List.mem_cons_self⟩, hts _ cwW_toss, hts _ in_5, ⟨by decide +kernel, by decide +kernel⟩, par_len (n := 1) (by decide +kernel), hts _ ml_7_161, hts _ im_toss, hts _ se_toss⟩ hpre rfl rfl hL.2.1 rfl (lv_room (by rw [rest_cat]; exact hrest)) (show decode cL_law 1465 = .ok (.invokevirtual 161, 3) by decide +kernel) ⟨hc, hn⟩) T hT X
  cases hv
  rw [h0] at hz hk
  obtain ⟨t2, a1, b1⟩ := k T'.heap (locs ++ Lc) lsA (by rw [e1]; exact hbp) hD
    ⟨Nat.le_trans hS.1 (by rw [e1]; exact hz), fun z h1 h2 => by rw [e1, hk z (Nat.lt_of_lt_of_le h1 hS.1) (fun w => h2 (hfree z w))]; exact hS.2.1 z h1 h2, fun z hq => by
      rcases List.mem_append.mp hq with h | h
      · exact hS.2.2 z h
      · exact hfree _ (hLc z h)⟩ hL T' rfl X'
  exact ⟨t2, stp t2 a1, b1⟩
set_option maxHeartbeats 4000000 in
theorem BL.el (h : BL l xs L V) {x1 x2 r : Int32} (hf : fL_element x1 x2 σ = some (r, τ)) (hc : c + 1 ≤ 601024) (hn : n + 6 ≤ 7293034) (k : V (c + 1) (n + 6) 1310 ls [.int r] τ) : V c n 1307 ls [.ref 67, .int x2, .int x1, .ref 0] σ := by
  obtain ⟨p, e, s, m, below, meth, cd, D, q, cA, b, hl, ⟨hx, hb, hml, hown, hts, hK, hA⟩, hE, -, -, -, -, -, rfl⟩ := h
  intro H locs lsA hP hD hS hL
  have hpre : PreS s H (PX D q cA H.size [.ref 0, .int x1, .int x2, .ref 67] σ) [.ref (q 0), .int x1, .int x2, .ref (q 67)] :=
    ⟨PX_blind _ _ _ _ _ _, fun U hU hW => PX_of hK hE hA hP hD hS hU hW⟩
  have hfree := wG_free hD hS hA
  intro T hT X
  obtain ⟨v', st₀, t, T', Lc, h0, X', hLc, e1, e2, ⟨⟨hv, hbp⟩, hz, hk⟩, stp⟩ := (vx_runSW (g := F0 m 1307 lsA [.ref (q 67), .int x2, .int x1, .ref (q 0)]) (As := [.ref (q 0), .int x1, .int x2, .ref (q 67)]) (rest := []) (own := RN 7) (R := room_1) (cells := c) (slots := n) (locs := locs) ⟨hx, hb, hml, hown, hts⟩ (km_Lel l hl hf D q cA H.size) ⟨⟨rfl, rfl, Nat.le_of_ble_eq_true rfl, Nat.le_of_ble_eq_true rfl, ws_warm hts cwW_el, List.mem_cons_self⟩, hts _ cwW_el, hts _ in_7, ⟨by decide +kernel, by decide +kernel⟩, par_len (n := 4) (by decide +kernel), hts _ ml_7_143, hts _ st_el⟩ hpre rfl rfl hL.2.1 rfl (lv_room (Nat.le_of_ble_eq_true rfl)) (show decode cL_law 1307 = .ok (.invokestatic 143, 3) by decide +kernel) ⟨hc, hn⟩) T hT X
  cases hv
  rw [h0] at hz hk
  obtain ⟨t2, a1, b1⟩ := k T'.heap (locs ++ Lc) lsA (by rw [e1]; exact hbp) (wG_D hD)
    ⟨Nat.le_trans hS.1 (by rw [e1]; exact hz), fun z h1 h2 => by rw [e1, hk z (Nat.lt_of_lt_of_le h1 hS.1) (fun w => h2 (hfree z w))]; exact hS.2.1 z h1 h2, fun z hq => by
      rcases List.mem_append.mp hq with h | h
      · exact hS.2.2 z h
      · exact hfree _ (hLc z h)⟩ hL T' rfl X'
  exact ⟨t2, stp t2 a1, b1⟩
end BLR
