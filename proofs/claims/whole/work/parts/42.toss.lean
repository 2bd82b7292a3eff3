theorem nl_5_254 : Jvm.Cond.methodLinkNest (RN 5) 254 yX3_throwFailure "ThreeTimes" ∈ NW := nw_of (i := 684) (by decide +kernel) (by decide +kernel)
abbrev hhT : List (Nat × Nat × Nat × Nat) := [(23, 29, 30, 223), (23, 29, 40, 257), (23, 29, 51, 230)]
theorem cwW_toss : Jvm.Cond.codeWith yX5_toss cX5_toss 5 (some .int) hhT ∈ AW := aw_of (i := 680) (by decide +kernel) (by decide +kernel)
def fX5_toss (x1 : Int32) (σ : ST) : Option Int32 :=
  bR (fX5_shelfAt x1 σ) fun o => match o with
  | none => some (-1)
  | some s => bR (fX3_refusalAsSender s σ) fun a =>
    if a = 0 then
      if thr s σ = 0 then some (-15)
      else if thr s σ = 1 then some (σ.1 s 1 + 100)
      else if thr s σ = 2 then bR (fX3_faithOfSender s σ) fun b => some (200 + b)
      else some (σ.1 s 1)
    else some a
theorem thr_lt (k : Nat) (σ : ST) : thr k σ = 0 ∨ thr k σ = 1 ∨ thr k σ = 2 ∨ thr k σ = 3 := by
  unfold thr
  split
  · exact Or.inl rfl
  · split
    · exact Or.inl rfl
    · split
      · exact Or.inr (Or.inl rfl)
      · split
        · exact Or.inr (Or.inr (Or.inl rfl))
        · exact Or.inr (Or.inr (Or.inr rfl))
theorem nc_of {s : State} {A : Nat → Prop} {H : Heap} (hE : EX A s H) {E F : String} (h : (E, F) ∈ ncs) : va_Nc E F s := hE.2.2.1 _ h
set_option maxHeartbeats 4000000 in
theorem km_toss (l : Launch) (hl : l.stackTraces = false) {x1 : Int32} {σ : ST} {r : Int32} (hf : fX5_toss x1 σ = some r) (D : va_G) (q : Nat → Nat) (cA : Nat → ClassId) (sz : Nat) :
    Met l yX5_toss (.codeWith yX5_toss cX5_toss 5 (some .int) hhT :: AW) (rmX 7 102) (PX D q cA sz [.ref 0, .int x1] σ) (QK D q cA (va_A (wG q cA σ) sz) (some (.int r)) σ) 1 6 (va_A (wG q cA σ) sz) := by
  refine va_MetW (cc := cX5_toss) (maxL := 5) (ret := some .int) (hh := hhT) (by decide +kernel) rfl ?_
  intro p e s m args below meth c s₁ B hml hv
  obtain ⟨rfl, hsz, hP, hK, hD0, hE⟩ := hv
  have hts := atoms_spec (ws := .codeWith yX5_toss cX5_toss 5 (some .int) hhT :: AW) B.pre
  have hts' : ∀ w ∈ AW, w.before ([Value.ref 0, .int x1].map (cnc q)).toArray s = true := fun w hw => hts w (List.mem_cons_of_mem _ hw)
  have hown : s.vm.findClass (RN 5) = some m.cls := findClass_of_methodNamed B.named
  have htab : c.exceptionTable.toList = tableOf hhT := vx_table (x := yX5_toss) B (hts _ List.mem_cons_self)
  subst hsz
  refine VV.entry (as := [.ref 0, .int x1]) hP hD0 (Nat.le_of_ble_eq_true rfl) ?_
  have hC : CT p s m ([Value.ref 0, .int x1].map (cnc q)).toArray c D cA (va_A (wG q cA σ) s.heap.size) 5 5 cX5_toss := ⟨B.exec, B.bytes, hml, hown, hts', hK, fun x hx => Or.inr hx⟩
  generalize hAe : va_A (wG q cA σ) s.heap.size = A at hC hE ⊢
  have hlocks := B.notSynchronized
  have hr := B.returns
  have hx := B.exec
  have hb := B.bytes
  show VV _ _ _ _ _ _ _ _ _ _ _ _ _ _ _ _ _ _ 0 [some (.ref 0), some (.int x1), none, none, none] [] σ
  unfold fX5_toss at hf
  obtain ⟨o1, e1, hf⟩ := bR_some hf
  refine (VV.bd hC rfl rfl (Nat.le_of_ble_eq_true rfl) (Nat.le_of_ble_eq_true rfl)).run (o := []) (ls' := [some (.ref 0), some (.int x1), none, none, none]) (st' := [.int x1, .ref 0]) (σ' := σ) [(.aload_n 0, 1, 0, 0, 0, 0), (.iload_n 1, 1, 0, 0, 0, 0)] (pc2 := 2) (by decide +kernel) rfl trivial ?_
  refine (VV.bd hC rfl rfl (Nat.le_of_ble_eq_true rfl) (Nat.le_of_ble_eq_true rfl)).callV (as := [.int x1]) (rest := []) (by decide +kernel) lk5_44 cwX5_shelfAt kd_0 (kmX5_shelfAt l e1) rfl (Nat.le_of_ble_eq_true rfl) (Nat.le_of_ble_eq_true rfl) (Nat.le_of_ble_eq_true rfl) ?_
  cases o1 with
  | none =>
    dsimp only at hf
    obtain rfl := Option.some.inj hf
    show VV _ _ _ _ _ _ _ _ _ _ _ _ _ _ _ _ _ _ 5 [some (.ref 0), some (.int x1), none, none, none] [.null] σ
    refine (VV.bd hC rfl rfl (Nat.le_of_ble_eq_true rfl) (Nat.le_of_ble_eq_true rfl)).run (o := []) (ls' := [some (.ref 0), some (.int x1), some .null, none, none]) (st' := [.null]) (σ' := σ) [(.astore_n 2, 1, 0, 0, 0, 0), (.aload_n 2, 1, 0, 0, 0, 0)] (pc2 := 7) (by decide +kernel) rfl trivial ?_
    refine (VV.bd hC rfl rfl (Nat.le_of_ble_eq_true rfl) (Nat.le_of_ble_eq_true rfl)).ifnonnullN (show decode cX5_toss 7 = .ok (.ifnonnull 5, 3) by decide +kernel) ?_
    refine (VV.bd hC rfl rfl (Nat.le_of_ble_eq_true rfl) (Nat.le_of_ble_eq_true rfl)).run (o := []) (ls' := [some (.ref 0), some (.int x1), some .null, none, none]) (st' := [.int (-1)]) (σ' := σ) [(.iconst (-1), 1, (-1), 0, 0, 0)] (pc2 := 11) (by decide +kernel) rfl trivial ?_
    exact VV.iretW (ret := some .int) hx hb hr hlocks (by decide +kernel) (by decide) (by decide)
  | some k =>
    dsimp only at hf
    have hk : kd k = 3 := shelfAt_kd e1
    obtain ⟨a1, e2, hf⟩ := bR_some hf
    show VV _ _ _ _ _ _ _ _ _ _ _ _ _ _ _ _ _ _ 5 [some (.ref 0), some (.int x1), none, none, none] [.ref k] σ
    refine (VV.bd hC rfl rfl (Nat.le_of_ble_eq_true rfl) (Nat.le_of_ble_eq_true rfl)).run (o := []) (ls' := [some (.ref 0), some (.int x1), some (.ref k), none, none]) (st' := [.ref k]) (σ' := σ) [(.astore_n 2, 1, 0, 0, 0, 0), (.aload_n 2, 1, 0, 0, 0, 0)] (pc2 := 7) (by decide +kernel) rfl trivial ?_
    refine (VV.bd hC rfl rfl (Nat.le_of_ble_eq_true rfl) (Nat.le_of_ble_eq_true rfl)).ifnonnull (tgt := 12) (show decode cX5_toss 7 = .ok (.ifnonnull 5, 3) by decide +kernel) (by decide) ?_
    refine (VV.bd hC rfl rfl (Nat.le_of_ble_eq_true rfl) (Nat.le_of_ble_eq_true rfl)).run (o := []) (ls' := [some (.ref 0), some (.int x1), some (.ref k), none, none]) (st' := [.ref k]) (σ' := σ) [(.aload_n 2, 1, 0, 0, 0, 0)] (pc2 := 13) (by decide +kernel) rfl trivial ?_
    refine (VV.bd hC rfl rfl (Nat.le_of_ble_eq_true rfl) (Nat.le_of_ble_eq_true rfl)).callV (as := []) (rest := []) (by decide +kernel) lk5_248 cwX3_refusalAsSender hk (kmX3_refusalAsSender l hk e2) rfl (Nat.le_of_ble_eq_true rfl) (Nat.le_of_ble_eq_true rfl) (Nat.le_of_ble_eq_true rfl) ?_
    show VV _ _ _ _ _ _ _ _ _ _ _ _ _ _ _ _ _ _ 16 [some (.ref 0), some (.int x1), some (.ref k), none, none] [.int a1] σ
    refine (VV.bd hC rfl rfl (Nat.le_of_ble_eq_true rfl) (Nat.le_of_ble_eq_true rfl)).run (o := []) (ls' := [some (.ref 0), some (.int x1), some (.ref k), some (.int a1), none]) (st' := [.int a1]) (σ' := σ) [(.istore_n 3, 1, 0, 0, 0, 0), (.iload_n 3, 1, 0, 0, 0, 0)] (pc2 := 18) (by decide +kernel) rfl trivial ?_
    refine (VV.bd hC rfl rfl (Nat.le_of_ble_eq_true rfl) (Nat.le_of_ble_eq_true rfl)).if_eq (tgt := 23) (show decode cX5_toss 18 = .ok (.ifCond .eq 5, 3) by decide +kernel) (by decide) (fun c1 => ?_) (fun c1 => ?_)
    rotate_left
    · rw [if_neg c1] at hf
      obtain rfl := Option.some.inj hf
      show VV _ _ _ _ _ _ _ _ _ _ _ _ _ _ _ _ _ _ 21 [some (.ref 0), some (.int x1), some (.ref k), some (.int a1), none] [] σ
      refine (VV.bd hC rfl rfl (Nat.le_of_ble_eq_true rfl) (Nat.le_of_ble_eq_true rfl)).run (o := []) (ls' := [some (.ref 0), some (.int x1), some (.ref k), some (.int a1), none]) (st' := [.int a1]) (σ' := σ) [(.iload_n 3, 1, 0, 0, 0, 0)] (pc2 := 22) (by decide +kernel) rfl trivial ?_
      exact VV.iretW (ret := some .int) hx hb hr hlocks (by decide +kernel) (by decide) (by decide)
    rw [if_pos c1] at hf
    refine (VV.bd hC rfl rfl (Nat.le_of_ble_eq_true rfl) (Nat.le_of_ble_eq_true rfl)).run (o := []) (ls' := [some (.ref 0), some (.int x1), some (.ref k), some (.int a1), none]) (st' := [.ref k]) (σ' := σ) [(.aload_n 2, 1, 0, 0, 0, 0)] (pc2 := 24) (by decide +kernel) rfl trivial ?_
    obtain ⟨h7, hy, hinst, hsel, hini, hcode, hno, hpar⟩ := cwX3_throwFailure
    intro H locs lsA hPh hDh hSh hLh
    have h68 : k < 68 := kd_lt (by omega)
    have he : (wG q cA σ)[k]? = some (q k, .inr (3, (List.range (NN 3)).map fun j => cnc q (fval 3 k j σ))) := by rw [wG_at h68, cellG_obj hk (by decide)]
    have hpre : PreV s H (RN 3) (q k) (PX D q cA H.size [.ref k] σ) [] :=
      ⟨PX_blind _ _ _ _ _ _, va_recv hK.1 hPh (cl7_at 3 (by decide)) he, fun U hU hW => PX_of hK hE hC.2.2.2.2.2.2 hPh hDh hSh hU hW⟩
    have hfree := wG_free hDh hSh hC.2.2.2.2.2.2
    refine vx_callv (ls := lsA) (rest := []) (A0 := A) (H0 := s.heap) (vx_runVN9 (g := F0 m 24 lsA [.ref (q k)]) (As := []) (rest := []) (own := RN 5) (C := RN 3) (host := "ThreeTimes") ⟨hx, hb, hml, hown, hts'⟩ (km_throwFailure l hl hk D q cA H.size) ⟨⟨⟨rfl, rfl, Nat.le_of_ble_eq_true rfl, Nat.le_of_ble_eq_true rfl, ws_warm hts' hcode, List.mem_cons_self⟩, hts' _ hcode, hts' _ hini, hno, par_len hpar, va_Nw.use (nw_onTables nl_5_254) (hK.2 _ nl_5_254)⟩, hts' _ hinst, hts' _ hsel⟩ hpre rfl rfl hLh.2.1 rfl (lv_room (Nat.le_of_ble_eq_true rfl)) (show decode cX5_toss 24 = .ok (.invokevirtual 254, 3) by decide +kernel) ⟨Nat.le_refl _, Nat.le_refl _⟩) hSh (fun x _ hx => hfree x hx) hfree (fun x _ hx => hfree x hx) ?_ ?_
    · intro E ce q9 u t H1 locs1 ht ha hu hB hz hk1 hS1 hce hcv hcl
      obtain ⟨hEn, hP1⟩ := hB
      rw [ht] at hP1
      have hD1 : va_D A (wG q cA σ) := hDh
      rcases thr_lt k σ with h0 | h0 | h0 | h0
      · exact absurd h0 hu
      · rw [h0] at hEn
        subst hEn
        rw [if_neg (by rw [h0]; decide), if_pos h0] at hf
        obtain rfl := Option.some.inj hf
        refine vx_catch (own := RN 5) (name := IAE) (E := IAE) hown [] ⟨23, 29, 30, 223⟩ [⟨23, 29, 40, 257⟩, ⟨23, 29, 51, 230⟩] (by rw [htab]; rfl) (fun z hz => nomatch hz) (by decide) (by decide) (hts' _ cl_5_223) (va_Nw.use (nx_onTables ca_IAE) (hE.1 _ ca_IAE)) hce hcv hcl ?_
        refine VV.caught (i := 4) (ls := [some (.ref 0), some (.int x1), some (.ref k), some (.int a1), none]) hx hb (show decode cX5_toss 30 = .ok (.astore 4, 2) by decide +kernel) (by decide) hLh rfl hP1 hD1 hS1 ?_
        show VV _ _ _ _ _ _ _ _ _ _ _ _ _ _ _ _ _ _ 32 [some (.ref 0), some (.int x1), some (.ref k), some (.int a1), none] [] σ
        refine (VV.bd hC rfl rfl (Nat.le_of_ble_eq_true rfl) (Nat.le_of_ble_eq_true rfl)).run (o := [kd k = 3]) (ls' := [some (.ref 0), some (.int x1), some (.ref k), some (.int a1), none]) (st' := [.int (σ.1 k 1 + 100)]) (σ' := σ) [(.aload_n 2, 1, 0, 0, 0, 0), (.getfield 207, 3, 0, 0, 3, 1), (.bipush 100, 2, 100, 0, 0, 0), (.iadd, 1, 0, 0, 0, 0)] (pc2 := 39) (by decide +kernel) rfl (And.intro hk trivial) ?_
        exact VV.iretW (ret := some .int) hx hb hr hlocks (by decide +kernel) (by decide) (by decide)
      · rw [h0] at hEn
        subst hEn
        rw [if_neg (by rw [h0]; decide), if_neg (by rw [h0]; decide), if_pos h0] at hf
        obtain ⟨b1, e3, hf⟩ := bR_some hf
        obtain rfl := Option.some.inj hf
        refine vx_catch (own := RN 5) (name := UOE) (E := UOE) hown [⟨23, 29, 30, 223⟩] ⟨23, 29, 40, 257⟩ [⟨23, 29, 51, 230⟩] (by rw [htab]; rfl) (fun z hz => ?_) (by decide) (by decide) (hts' _ cl_5_257) (va_Nw.use (nx_onTables ca_UOE) (hE.1 _ ca_UOE)) hce hcv hcl ?_
        · rcases List.mem_singleton.mp hz with rfl
          exact Or.inr ⟨by decide, IAE, hts' _ cl_5_223, nc_of hE (by unfold ncs; exact List.mem_of_getElem? (i := 0) rfl)⟩
        refine VV.caught (i := 4) (ls := [some (.ref 0), some (.int x1), some (.ref k), some (.int a1), none]) hx hb (show decode cX5_toss 40 = .ok (.astore 4, 2) by decide +kernel) (by decide) hLh rfl hP1 hD1 hS1 ?_
        show VV _ _ _ _ _ _ _ _ _ _ _ _ _ _ _ _ _ _ 42 [some (.ref 0), some (.int x1), some (.ref k), some (.int a1), none] [] σ
        refine (VV.bd hC rfl rfl (Nat.le_of_ble_eq_true rfl) (Nat.le_of_ble_eq_true rfl)).run (o := []) (ls' := [some (.ref 0), some (.int x1), some (.ref k), some (.int a1), none]) (st' := [.ref k, .int 200]) (σ' := σ) [(.sipush 200, 3, 200, 0, 0, 0), (.aload_n 2, 1, 0, 0, 0, 0)] (pc2 := 46) (by decide +kernel) rfl trivial ?_
        refine (VV.bd hC rfl rfl (Nat.le_of_ble_eq_true rfl) (Nat.le_of_ble_eq_true rfl)).callV (as := []) (rest := [.int 200]) (by decide +kernel) lk5_251 cwX3_faithOfSender hk (kmX3_faithOfSender l hk e3) rfl (Nat.le_of_ble_eq_true rfl) (Nat.le_of_ble_eq_true rfl) (Nat.le_of_ble_eq_true rfl) ?_
        show VV _ _ _ _ _ _ _ _ _ _ _ _ _ _ _ _ _ _ 49 [some (.ref 0), some (.int x1), some (.ref k), some (.int a1), none] [.int b1, .int 200] σ
        refine (VV.bd hC rfl rfl (Nat.le_of_ble_eq_true rfl) (Nat.le_of_ble_eq_true rfl)).run (o := []) (ls' := [some (.ref 0), some (.int x1), some (.ref k), some (.int a1), none]) (st' := [.int (200 + b1)]) (σ' := σ) [(.iadd, 1, 0, 0, 0, 0)] (pc2 := 50) (by decide +kernel) rfl trivial ?_
        exact VV.iretW (ret := some .int) hx hb hr hlocks (by decide +kernel) (by decide) (by decide)
      · rw [h0] at hEn
        subst hEn
        rw [if_neg (by rw [h0]; decide), if_neg (by rw [h0]; decide), if_neg (by rw [h0]; decide)] at hf
        obtain rfl := Option.some.inj hf
        refine vx_catch (own := RN 5) (name := ISE) (E := ISE) hown [⟨23, 29, 30, 223⟩, ⟨23, 29, 40, 257⟩] ⟨23, 29, 51, 230⟩ [] (by rw [htab]; rfl) (fun z hz => ?_) (by decide) (by decide) (hts' _ cl_5_230) (va_Nw.use (nx_onTables ca_ISE) (hE.1 _ ca_ISE)) hce hcv hcl ?_
        · rcases List.mem_cons.mp hz with rfl | hz
          · exact Or.inr ⟨by decide, IAE, hts' _ cl_5_223, nc_of hE (by unfold ncs; exact List.mem_of_getElem? (i := 1) rfl)⟩
          · rcases List.mem_singleton.mp hz with rfl
            exact Or.inr ⟨by decide, UOE, hts' _ cl_5_257, nc_of hE (by unfold ncs; exact List.mem_of_getElem? (i := 2) rfl)⟩
        refine VV.caught (i := 4) (ls := [some (.ref 0), some (.int x1), some (.ref k), some (.int a1), none]) hx hb (show decode cX5_toss 51 = .ok (.astore 4, 2) by decide +kernel) (by decide) hLh rfl hP1 hD1 hS1 ?_
        show VV _ _ _ _ _ _ _ _ _ _ _ _ _ _ _ _ _ _ 53 [some (.ref 0), some (.int x1), some (.ref k), some (.int a1), none] [] σ
        refine (VV.bd hC rfl rfl (Nat.le_of_ble_eq_true rfl) (Nat.le_of_ble_eq_true rfl)).run (o := [kd k = 3]) (ls' := [some (.ref 0), some (.int x1), some (.ref k), some (.int a1), none]) (st' := [.int (σ.1 k 1)]) (σ' := σ) [(.aload_n 2, 1, 0, 0, 0, 0), (.getfield 207, 3, 0, 0, 3, 1)] (pc2 := 57) (by decide +kernel) rfl (And.intro hk trivial) ?_
        exact VV.iretW (ret := some .int) hx hb hr hlocks (by decide +kernel) (by decide) (by decide)
    · intro u t H1 locs1 ht ha hu hB hz hk1 hS1
      have hP1 : va_P D cl7 (wG q cA σ) t.heap := hB
      rw [ht] at hP1
      rw [if_pos hu] at hf
      obtain rfl := Option.some.inj hf
      refine (?_ : VV p l e _ s m _ below meth c _ _ _ D q cA A 5 27 [some (.ref 0), some (.int x1), some (.ref k), some (.int a1), none] [] σ) H1 locs1 lsA hP1 hDh hS1 hLh
      refine (VV.bd hC rfl rfl (Nat.le_of_ble_eq_true rfl) (Nat.le_of_ble_eq_true rfl)).run (o := []) (ls' := [some (.ref 0), some (.int x1), some (.ref k), some (.int a1), none]) (st' := [.int (-15)]) (σ' := σ) [(.bipush (-15), 2, (-15), 0, 0, 0)] (pc2 := 29) (by decide +kernel) rfl trivial ?_
      exact VV.iretW (ret := some .int) hx hb hr hlocks (by decide +kernel) (by decide) (by decide)
