def fX5_el (x1 x2 : Int32) (σ : ST) : Option (Nat × Int64) :=
  bR (fX5_shelfAt x1 σ) fun o => match o with
  | none => some (1, 0)
  | some s =>
    if σ.1 s 0 = 2 then
      bR (fX3_has s x2 σ) fun a =>
      if a = 0 then some (2, 0)
      else bR (fX3_read s x2 σ) fun v => some (0, v.toInt64)
    else some (2, 0)
def elN (n : Nat) : String := if n = 1 then IAE else ISE
set_option maxHeartbeats 4000000 in
theorem km_el (l : Launch) (hl : l.stackTraces = false) {x1 x2 : Int32} {σ : ST} {n : Nat} {v : Int64} (hf : fX5_el x1 x2 σ = some (n, v)) (D : va_G) (q : Nat → Nat) (cA : Nat → ClassId) (sz : Nat) :
    vx_Met l yX5_element (.code yX5_element cX5_element 4 (some .long) :: AW) (rmX 6 82) (PX D q cA sz [.ref 0, .int x1, .int x2] σ) (va_Ql (S := Unit) (fun r _ => n = 0 ∧ r = v) (fun _ t => va_P D cl7 (wG q cA σ) t.heap) (va_A (wG q cA σ) sz))
      (vx_X (S := Unit) (fun _ => n = 1 ∨ n = 2) (fun E _ t => E = elN n ∧ va_P D cl7 (wG q cA σ) t.heap) (va_A (wG q cA σ) sz)) 1 6 (va_A (wG q cA σ) sz) := by
  refine vx_ofW (cc := cX5_element) (maxL := 4) (ret := some .long) (by decide +kernel) rfl ?_
  intro p e s m args below meth c s₁ B hml htab hv
  obtain ⟨rfl, hsz, hP, hK, hD0, hE⟩ := hv
  have hts := atoms_spec (ws := .code yX5_element cX5_element 4 (some .long) :: AW) B.pre
  have hown : s.vm.findClass (RN 5) = some m.cls := findClass_of_methodNamed B.named
  subst hsz
  refine VV.entry (as := [.ref 0, .int x1, .int x2]) hP hD0 (Nat.le_of_ble_eq_true rfl) ?_
  have hC : CT p s m ([Value.ref 0, .int x1, .int x2].map (cnc q)).toArray c D cA (va_A (wG q cA σ) s.heap.size) 4 5 cX5_element := ⟨B.exec, B.bytes, hml, hown, fun w hw => hts w (List.mem_cons_of_mem _ hw), hK, fun x hx => Or.inr hx⟩
  generalize hAe : va_A (wG q cA σ) s.heap.size = A at hC hE ⊢
  have hR : 6 ≤ (headSpec (.code yX5_element cX5_element 4 (some .long) :: AW) (rmX 6 82)).room.frames ∧ 82 ≤ (headSpec (.code yX5_element cX5_element 4 (some .long) :: AW) (rmX 6 82)).room.locals ∧ 1 ≤ (headSpec (.code yX5_element cX5_element 4 (some .long) :: AW) (rmX 6 82)).room.cells ∧ 6 ≤ (headSpec (.code yX5_element cX5_element 4 (some .long) :: AW) (rmX 6 82)).room.slots := ⟨Nat.le_refl _, Nat.le_refl _, Nat.le_refl _, Nat.le_refl _⟩
  have hlocks := B.notSynchronized
  have hr := B.returns
  have hx := B.exec
  have hb := B.bytes
  have hout : ∀ pc, ∀ x ∈ c.exceptionTable.toList, covers x pc = false := fun pc x hx => (htab x hx).elim
  unfold fX5_el at hf
  obtain ⟨o1, e1, hf⟩ := bR_some hf
  show VV _ _ _ _ _ _ _ _ _ _ _ _ _ _ _ _ _ _ 0 [some (.ref 0), some (.int x1), some (.int x2), none] [] σ
  refine (VV.bd hC rfl rfl (Nat.le_of_ble_eq_true rfl) (Nat.le_of_ble_eq_true rfl)).run (o := []) (ls' := [some (.ref 0), some (.int x1), some (.int x2), none]) (st' := [.int x1, .ref 0]) (σ' := σ) [(.aload_n 0, 1, 0, 0, 0, 0), (.iload_n 1, 1, 0, 0, 0, 0)] (pc2 := 2) (by decide +kernel) rfl trivial ?_
  refine (VV.bd hC rfl rfl (Nat.le_of_ble_eq_true rfl) (Nat.le_of_ble_eq_true rfl)).callV (as := [.int x1]) (rest := []) (by decide +kernel) lk5_44 cwX5_shelfAt kd_0 (kmX5_shelfAt l e1) rfl (Nat.le_of_ble_eq_true rfl) (Nat.le_of_ble_eq_true rfl) (Nat.le_of_ble_eq_true rfl) ?_
  cases o1 with
  | none =>
    dsimp only at hf
    obtain ⟨rfl, rfl⟩ := Prod.mk.inj (Option.some.inj hf)
    show VV _ _ _ _ _ _ _ _ _ _ _ _ _ _ _ _ _ _ 5 [some (.ref 0), some (.int x1), some (.int x2), none] [.null] σ
    refine (VV.bd hC rfl rfl (Nat.le_of_ble_eq_true rfl) (Nat.le_of_ble_eq_true rfl)).run (o := []) (ls' := [some (.ref 0), some (.int x1), some (.int x2), some .null]) (st' := [.null]) (σ' := σ) [(.astore_n 3, 1, 0, 0, 0, 0), (.aload_n 3, 1, 0, 0, 0, 0)] (pc2 := 7) (by decide +kernel) rfl trivial ?_
    refine (VV.bd hC rfl rfl (Nat.le_of_ble_eq_true rfl) (Nat.le_of_ble_eq_true rfl)).ifnonnullN (show decode cX5_element 7 = .ok (.ifnonnull 13, 3) by decide +kernel) ?_
    exact VV.throwS (ik := 223) (is := 225) (ic := 227) (E := IAE) (tx := "no such shelf") hl hC hE hR (by decide +kernel) cl_5_223 ini_IAE (by unfold strs; exact List.mem_of_getElem? (i := 3) rfl) at_5_227 ot_5_227 (by decide +kernel) (by decide +kernel) (by decide +kernel) (by decide +kernel) (by decide +kernel) (hout _) hlocks (fun t h1 h2 => ⟨(), Or.inl rfl, ⟨rfl, h1⟩, h2⟩)
  | some k =>
    dsimp only at hf
    have hk : kd k = 3 := shelfAt_kd e1
    show VV _ _ _ _ _ _ _ _ _ _ _ _ _ _ _ _ _ _ 5 [some (.ref 0), some (.int x1), some (.int x2), none] [.ref k] σ
    refine (VV.bd hC rfl rfl (Nat.le_of_ble_eq_true rfl) (Nat.le_of_ble_eq_true rfl)).run (o := []) (ls' := [some (.ref 0), some (.int x1), some (.int x2), some (.ref k)]) (st' := [.ref k]) (σ' := σ) [(.astore_n 3, 1, 0, 0, 0, 0), (.aload_n 3, 1, 0, 0, 0, 0)] (pc2 := 7) (by decide +kernel) rfl trivial ?_
    refine (VV.bd hC rfl rfl (Nat.le_of_ble_eq_true rfl) (Nat.le_of_ble_eq_true rfl)).ifnonnull (tgt := 20) (show decode cX5_element 7 = .ok (.ifnonnull 13, 3) by decide +kernel) (by decide) ?_
    refine (VV.bd hC rfl rfl (Nat.le_of_ble_eq_true rfl) (Nat.le_of_ble_eq_true rfl)).run (o := [kd k = 3]) (ls' := [some (.ref 0), some (.int x1), some (.int x2), some (.ref k)]) (st' := [.int 2, .int (σ.1 k 0)]) (σ' := σ) [(.aload_n 3, 1, 0, 0, 0, 0), (.getfield 204, 3, 0, 0, 3, 0), (.iconst 2, 1, 2, 0, 0, 0)] (pc2 := 25) (by decide +kernel) rfl (And.intro hk trivial) ?_
    refine (VV.bd hC rfl rfl (Nat.le_of_ble_eq_true rfl) (Nat.le_of_ble_eq_true rfl)).icmp_ne (tgt := 36) (show decode cX5_element 25 = .ok (.if_icmp .ne 11, 3) by decide +kernel) (by decide) (fun c1 => ?_) (fun c1 => ?_)
    · rw [if_neg c1] at hf
      obtain ⟨rfl, rfl⟩ := Prod.mk.inj (Option.some.inj hf)
      exact VV.throwS (ik := 230) (is := 232) (ic := 234) (E := ISE) (tx := "no row, or no such place in it") hl hC hE hR (by decide +kernel) cl_5_230 ini_ISE (by unfold strs; exact List.mem_of_getElem? (i := 4) rfl) at_5_234 ot_5_234 (by decide +kernel) (by decide +kernel) (by decide +kernel) (by decide +kernel) (by decide +kernel) (hout _) hlocks (fun t h1 h2 => ⟨(), Or.inr rfl, ⟨rfl, h1⟩, h2⟩)
    · rw [if_pos c1] at hf
      obtain ⟨a1, e2, hf⟩ := bR_some hf
      show VV _ _ _ _ _ _ _ _ _ _ _ _ _ _ _ _ _ _ 28 [some (.ref 0), some (.int x1), some (.int x2), some (.ref k)] [] σ
      refine (VV.bd hC rfl rfl (Nat.le_of_ble_eq_true rfl) (Nat.le_of_ble_eq_true rfl)).run (o := []) (ls' := [some (.ref 0), some (.int x1), some (.int x2), some (.ref k)]) (st' := [.int x2, .ref k]) (σ' := σ) [(.aload_n 3, 1, 0, 0, 0, 0), (.iload_n 2, 1, 0, 0, 0, 0)] (pc2 := 30) (by decide +kernel) rfl trivial ?_
      refine (VV.bd hC rfl rfl (Nat.le_of_ble_eq_true rfl) (Nat.le_of_ble_eq_true rfl)).callV (as := [.int x2]) (rest := []) (by decide +kernel) lk5_220 cwX3_has hk (kmX3_has l hk e2) rfl (Nat.le_of_ble_eq_true rfl) (Nat.le_of_ble_eq_true rfl) (Nat.le_of_ble_eq_true rfl) ?_
      show VV _ _ _ _ _ _ _ _ _ _ _ _ _ _ _ _ _ _ 33 [some (.ref 0), some (.int x1), some (.int x2), some (.ref k)] [.int a1] σ
      refine (VV.bd hC rfl rfl (Nat.le_of_ble_eq_true rfl) (Nat.le_of_ble_eq_true rfl)).if_ne (tgt := 46) (show decode cX5_element 33 = .ok (.ifCond .ne 13, 3) by decide +kernel) (by decide) (fun c2 => ?_) (fun c2 => ?_)
      · rw [if_neg c2] at hf
        obtain ⟨v1, e3, hf⟩ := bR_some hf
        obtain ⟨rfl, rfl⟩ := Prod.mk.inj (Option.some.inj hf)
        refine (VV.bd hC rfl rfl (Nat.le_of_ble_eq_true rfl) (Nat.le_of_ble_eq_true rfl)).run (o := []) (ls' := [some (.ref 0), some (.int x1), some (.int x2), some (.ref k)]) (st' := [.int x2, .ref k]) (σ' := σ) [(.aload_n 3, 1, 0, 0, 0, 0), (.iload_n 2, 1, 0, 0, 0, 0)] (pc2 := 48) (by decide +kernel) rfl trivial ?_
        refine (VV.bd hC rfl rfl (Nat.le_of_ble_eq_true rfl) (Nat.le_of_ble_eq_true rfl)).callV (as := [.int x2]) (rest := []) (by decide +kernel) lk5_136 cwX3_read hk (kmX3_read l hk e3) rfl (Nat.le_of_ble_eq_true rfl) (Nat.le_of_ble_eq_true rfl) (Nat.le_of_ble_eq_true rfl) ?_
        show VV _ _ _ _ _ _ _ _ _ _ _ _ _ _ _ _ _ _ 51 [some (.ref 0), some (.int x1), some (.int x2), some (.ref k)] [.int v1] σ
        refine (VV.bd hC rfl rfl (Nat.le_of_ble_eq_true rfl) (Nat.le_of_ble_eq_true rfl)).run (o := []) (ls' := [some (.ref 0), some (.int x1), some (.int x2), some (.ref k)]) (st' := [.long v1.toInt64]) (σ' := σ) [(.i2l, 1, 0, 0, 0, 0)] (pc2 := 52) (by decide +kernel) rfl trivial ?_
        intro H locs lsA hP hD hS hL
        exact vx_ret (W.widen (by omega) (by omega) (W.lret hx hb hr (fun t ht hW => ⟨⟨v1.toInt64, (), rfl, ⟨rfl, rfl⟩, by show va_P D cl7 (wG q cA σ) t.heap; rw [ht]; exact hP⟩, hS.F ht⟩) hS.2.2 (show decode cX5_element 52 = .ok (.lreturn, 1) by decide +kernel) hlocks))
      · rw [if_pos c2] at hf
        obtain ⟨rfl, rfl⟩ := Prod.mk.inj (Option.some.inj hf)
        exact VV.throwS (ik := 230) (is := 232) (ic := 234) (E := ISE) (tx := "no row, or no such place in it") hl hC hE hR (by decide +kernel) cl_5_230 ini_ISE (by unfold strs; exact List.mem_of_getElem? (i := 4) rfl) at_5_234 ot_5_234 (by decide +kernel) (by decide +kernel) (by decide +kernel) (by decide +kernel) (by decide +kernel) (hout _) hlocks (fun t h1 h2 => ⟨(), Or.inr rfl, ⟨rfl, h1⟩, h2⟩)
abbrev hhE : List (Nat × Nat × Nat × Nat) := [(0, 9, 12, 13), (0, 9, 16, 15)]
theorem cwW_el : Jvm.Cond.codeWith yL_element cL_element 5 (some .int) hhE ∈ AW := aw_of (i := 790) (by decide +kernel) (by decide +kernel)
theorem ml_7_7 : Jvm.Cond.methodLink (RN 7) 7 yX5_element ∈ AW := aw_of (i := 793) (by decide +kernel) (by decide +kernel)
def fL_element (x1 x2 : Int32) (σ : ST) : Option (Int32 × ST) :=
  bR (fX5_el x1 x2 σ) fun cv => if cv.1 = 0 then some (0, setL σ 67 (0 : Int32).toNatClampNeg cv.2) else if cv.1 = 1 then some (1, σ) else some (2, σ)
set_option maxHeartbeats 4000000 in
theorem km_Lel (l : Launch) (hl : l.stackTraces = false) {x1 x2 : Int32} {σ τ : ST} {r : Int32} (hf : fL_element x1 x2 σ = some (r, τ)) (D : va_G) (q : Nat → Nat) (cA : Nat → ClassId) (sz : Nat) :
    Met l yL_element (.codeWith yL_element cL_element 5 (some .int) hhE :: AW) (rmX 7 105) (PX D q cA sz [.ref 0, .int x1, .int x2, .ref 67] σ) (QK D q cA (va_A (wG q cA σ) sz) (some (.int r)) τ) 1 6 (va_A (wG q cA σ) sz) := by
  refine va_MetW (cc := cL_element) (maxL := 5) (ret := some .int) (hh := hhE) (by decide +kernel) rfl ?_
  intro p e s m args below meth c s₁ B hml hv
  obtain ⟨rfl, hsz, hP, hK, hD0, hE⟩ := hv
  have hts := atoms_spec (ws := .codeWith yL_element cL_element 5 (some .int) hhE :: AW) B.pre
  have hts' : ∀ w ∈ AW, w.before ([Value.ref 0, .int x1, .int x2, .ref 67].map (cnc q)).toArray s = true := fun w hw => hts w (List.mem_cons_of_mem _ hw)
  have hown : s.vm.findClass (RN 7) = some m.cls := findClass_of_methodNamed B.named
  have htab : c.exceptionTable.toList = tableOf hhE := vx_table (x := yL_element) B (hts _ List.mem_cons_self)
  subst hsz
  refine VV.entry (as := [.ref 0, .int x1, .int x2, .ref 67]) hP hD0 (Nat.le_of_ble_eq_true rfl) ?_
  have hC : CT p s m ([Value.ref 0, .int x1, .int x2, .ref 67].map (cnc q)).toArray c D cA (va_A (wG q cA σ) s.heap.size) 5 7 cL_element := ⟨B.exec, B.bytes, hml, hown, hts', hK, fun x hx => Or.inr hx⟩
  generalize hAe : va_A (wG q cA σ) s.heap.size = A at hC hE ⊢
  have hlocks := B.notSynchronized
  have hr := B.returns
  have hx := B.exec
  have hb := B.bytes
  unfold fL_element at hf
  obtain ⟨⟨n, v⟩, e1, hf⟩ := bR_some hf
  dsimp only at hf
  show VV _ _ _ _ _ _ _ _ _ _ _ _ _ _ _ _ _ _ 0 [some (.ref 0), some (.int x1), some (.int x2), some (.ref 67), none] [] σ
  refine (VV.bd hC rfl rfl (Nat.le_of_ble_eq_true rfl) (Nat.le_of_ble_eq_true rfl)).run (o := []) (ls' := [some (.ref 0), some (.int x1), some (.int x2), some (.ref 67), none]) (st' := [.int x2, .int x1, .ref 0, .int 0, .ref 67]) (σ' := σ) [(.aload_n 3, 1, 0, 0, 0, 0), (.iconst 0, 1, 0, 0, 0, 0), (.aload_n 0, 1, 0, 0, 0, 0), (.iload_n 1, 1, 0, 0, 0, 0), (.iload_n 2, 1, 0, 0, 0, 0)] (pc2 := 5) (by decide +kernel) rfl trivial ?_
  obtain ⟨h7, hy, hinst, hsel, hini, hcode, hno, hpar⟩ := cwX5_element
  intro H locs lsA hPh hDh hSh hLh
  have he : (wG q cA σ)[0]? = some (q 0, .inr (5, (List.range (NN 5)).map fun j => cnc q (fval 5 0 j σ))) := by rw [wG_at (by decide), cellG_obj kd_0 (by decide)]
  have hpre : PreV s H (RN 5) (q 0) (PX D q cA H.size [.ref 0, .int x1, .int x2] σ) [.int x1, .int x2] :=
    ⟨PX_blind _ _ _ _ _ _, va_recv hK.1 hPh (cl7_at 5 (by decide)) he, fun U hU hW => PX_of hK hE hC.2.2.2.2.2.2 hPh hDh hSh hU hW⟩
  have hfree := wG_free hDh hSh hC.2.2.2.2.2.2
  refine vx_calll (ls := lsA) (rest := [.int 0, .ref (q 67)]) (A0 := A) (H0 := s.heap) (vx_runV (g := F0 m 5 lsA [.int x2, .int x1, .ref (q 0), .int 0, .ref (q 67)]) (As := [.int x1, .int x2]) (rest := [.int 0, .ref (q 67)]) (own := RN 7) (C := RN 5) ⟨hx, hb, hml, hown, hts'⟩ (km_el l hl e1 D q cA H.size) ⟨⟨rfl, rfl, Nat.le_of_ble_eq_true rfl, Nat.le_of_ble_eq_true rfl, ws_warm hts' hcode, List.mem_cons_self, hts' _ hcode, hts' _ hini, hno, par_len hpar, hts' _ ml_7_7⟩, hts' _ hinst, hts' _ hsel⟩ hpre rfl rfl hLh.2.1 rfl (lv_room (Nat.le_of_ble_eq_true rfl)) (show decode cL_element 5 = .ok (.invokevirtual 7, 3) by decide +kernel) ⟨Nat.le_refl _, Nat.le_refl _⟩) hSh (fun x _ hx => hfree x hx) hfree (fun x _ hx => hfree x hx) ?_ ?_
  · intro E ce q9 u t H1 locs1 ht ha hu hB hz hk1 hS1 hce hcv hcl
    obtain ⟨hEn, hP1⟩ := hB
    rw [ht] at hP1
    rcases hu with h0 | h0
    · subst h0
      rw [if_neg (by decide), if_pos rfl] at hf
      obtain ⟨rfl, rfl⟩ := Prod.mk.inj (Option.some.inj hf)
      subst hEn
      refine vx_catch (own := RN 7) (name := IAE) (E := IAE) hown [] ⟨0, 9, 12, 13⟩ [⟨0, 9, 16, 15⟩] (by rw [htab]; rfl) (fun z hz => nomatch hz) (by decide) (by decide) (hts' _ cl_7_13) (va_Nw.use (nx_onTables ca_IAE) (hE.1 _ ca_IAE)) hce hcv hcl ?_
      refine VV.caught (i := 4) (ls := [some (.ref 0), some (.int x1), some (.int x2), some (.ref 67), none]) hx hb (show decode cL_element 12 = .ok (.astore 4, 2) by decide +kernel) (by decide) hLh rfl hP1 hDh hS1 ?_
      show VV _ _ _ _ _ _ _ _ _ _ _ _ _ _ _ _ _ _ 14 [some (.ref 0), some (.int x1), some (.int x2), some (.ref 67), none] [] σ
      refine (VV.bd hC rfl rfl (Nat.le_of_ble_eq_true rfl) (Nat.le_of_ble_eq_true rfl)).run (o := []) (ls' := [some (.ref 0), some (.int x1), some (.int x2), some (.ref 67), none]) (st' := [.int 1]) (σ' := σ) [(.iconst 1, 1, 1, 0, 0, 0)] (pc2 := 15) (by decide +kernel) rfl trivial ?_
      exact VV.iretW (ret := some .int) hx hb hr hlocks (by decide +kernel) (by decide) (by decide)
    · subst h0
      rw [if_neg (by decide), if_neg (by decide)] at hf
      obtain ⟨rfl, rfl⟩ := Prod.mk.inj (Option.some.inj hf)
      subst hEn
      refine vx_catch (own := RN 7) (name := ISE) (E := ISE) hown [⟨0, 9, 12, 13⟩] ⟨0, 9, 16, 15⟩ [] (by rw [htab]; rfl) (fun z hz => ?_) (by decide) (by decide) (hts' _ cl_7_15) (va_Nw.use (nx_onTables ca_ISE) (hE.1 _ ca_ISE)) hce hcv hcl ?_
      · rcases List.mem_singleton.mp hz with rfl
        exact Or.inr ⟨by decide, IAE, hts' _ cl_7_13, nc_of hE (by unfold ncs; exact List.mem_of_getElem? (i := 1) rfl)⟩
      refine VV.caught (i := 4) (ls := [some (.ref 0), some (.int x1), some (.int x2), some (.ref 67), none]) hx hb (show decode cL_element 16 = .ok (.astore 4, 2) by decide +kernel) (by decide) hLh rfl hP1 hDh hS1 ?_
      show VV _ _ _ _ _ _ _ _ _ _ _ _ _ _ _ _ _ _ 18 [some (.ref 0), some (.int x1), some (.int x2), some (.ref 67), none] [] σ
      refine (VV.bd hC rfl rfl (Nat.le_of_ble_eq_true rfl) (Nat.le_of_ble_eq_true rfl)).run (o := []) (ls' := [some (.ref 0), some (.int x1), some (.int x2), some (.ref 67), none]) (st' := [.int 2]) (σ' := σ) [(.iconst 2, 1, 2, 0, 0, 0)] (pc2 := 19) (by decide +kernel) rfl trivial ?_
      exact VV.iretW (ret := some .int) hx hb hr hlocks (by decide +kernel) (by decide) (by decide)
  · intro r1 u t H1 locs1 ht ha hu hB hz hk1 hS1
    have hP1 : va_P D cl7 (wG q cA σ) t.heap := hB
    rw [ht] at hP1
    obtain ⟨rfl, rfl⟩ := hu
    rw [if_pos rfl] at hf
    obtain ⟨rfl, rfl⟩ := Prod.mk.inj (Option.some.inj hf)
    refine (?_ : VV p l e _ s m _ below meth c _ _ _ D q cA A 5 8 [some (.ref 0), some (.int x1), some (.int x2), some (.ref 67), none] [.long r1, .int 0, .ref 67] σ) H1 locs1 lsA hP1 hDh hS1 hLh
    refine (VV.bd hC rfl rfl (Nat.le_of_ble_eq_true rfl) (Nat.le_of_ble_eq_true rfl)).run (o := [kd 67 = 12, inb 0 (alen 67) = true]) (ls' := [some (.ref 0), some (.int x1), some (.int x2), some (.ref 67), none]) (st' := [.int 0]) (σ' := setL σ 67 (0 : Int32).toNatClampNeg r1) [(.lastore, 1, 0, 0, 0, 0), (.goto 11, 3, 0, 0, 0, 20), (.iconst 0, 1, 0, 0, 0, 0)] (pc2 := 21) (by decide +kernel) rfl (And.intro kd_67 (And.intro (by decide +kernel) trivial)) ?_
    exact VV.iretW (ret := some .int) hx hb hr hlocks (by decide +kernel) (by decide) (by decide)
