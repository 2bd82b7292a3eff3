/-! SOUNDNESS of one step and of a straight stretch. -/
section STEP
variable {p : Program} {l : Launch} {e : Env} {R : Room} {s : State} {m : MethodId} {args : Array Value} {below : List Frame} {meth : Method} {c : Code} {cells slots : Nat} {Q : State → Prop}
variable {D : va_G} {q : Nat → Nat} {cA : Nat → ClassId} {A : Nat → Prop} {nL ow pc : Nat} {cc : ByteArray} {ls ls' : List (Option Value)} {st st' : List Value} {σ σ' : ST} {o : List Prop} {n : Nat}
/-- the next place, with a state -/
abbrev VVx (p : Program) (l : Launch) (e : Env) (R : Room) (s : State) (m : MethodId) (args : Array Value) (below : List Frame) (meth : Method) (c : Code) (cells slots : Nat) (Q : State → Prop)
    (D : va_G) (q : Nat → Nat) (cA : Nat → ClassId) (A : Nat → Prop) (nL : Nat) (pc : Nat) (a : List (Option Value) × List Value × ST) : Prop := VV p l e R s m args below meth c cells slots Q D q cA A nL pc a.1 a.2.1 a.2.2
theorem s_ldI {i : Nat} (h : ldI ls i st σ = some (o, ls', st', σ')) (k : VV p l e R s m args below meth c cells slots Q D q cA A nL (pc + n) ls' st' σ')
    (row : ∀ (x : Int32) (H : Heap) (locs : List Loc) (lsA : Array Slot), lsA[i]? = some (.val (.int x)) → W p l e R s m args below meth c H locs cells slots Q (F0 m (pc + n) lsA (.int x :: st.map (cnc q))) → W p l e R s m args below meth c H locs cells slots Q (F0 m pc lsA (st.map (cnc q)))) : VV p l e R s m args below meth c cells slots Q D q cA A nL pc ls st σ := by
  unfold ldI at h
  split at h
  · next x hx =>
    cases h
    intro H locs lsA hP hD hS hL
    exact row x H locs lsA (hL.2.2.2 i _ hx) (k H locs lsA hP hD hS hL)
  · cases h
theorem s_ldL {i : Nat} (h : ldL ls i st σ = some (o, ls', st', σ')) (k : VV p l e R s m args below meth c cells slots Q D q cA A nL (pc + n) ls' st' σ')
    (row : ∀ (x : Int64) (H : Heap) (locs : List Loc) (lsA : Array Slot), lsA[i]? = some (.val (.long x)) → W p l e R s m args below meth c H locs cells slots Q (F0 m (pc + n) lsA (.long x :: st.map (cnc q))) → W p l e R s m args below meth c H locs cells slots Q (F0 m pc lsA (st.map (cnc q)))) : VV p l e R s m args below meth c cells slots Q D q cA A nL pc ls st σ := by
  unfold ldL at h
  split at h
  · next x hx =>
    cases h
    intro H locs lsA hP hD hS hL
    exact row x H locs lsA (hL.2.2.2 i _ hx) (k H locs lsA hP hD hS hL)
  · cases h
theorem s_ldA {i : Nat} (h : ldA ls i st σ = some (o, ls', st', σ')) (k : VV p l e R s m args below meth c cells slots Q D q cA A nL (pc + n) ls' st' σ')
    (row : ∀ (x : Nat) (H : Heap) (locs : List Loc) (lsA : Array Slot), lsA[i]? = some (.val (.ref x)) → W p l e R s m args below meth c H locs cells slots Q (F0 m (pc + n) lsA (.ref x :: st.map (cnc q))) → W p l e R s m args below meth c H locs cells slots Q (F0 m pc lsA (st.map (cnc q))))
    (rowN : ∀ (H : Heap) (locs : List Loc) (lsA : Array Slot), lsA[i]? = some (.val .null) → W p l e R s m args below meth c H locs cells slots Q (F0 m (pc + n) lsA (.null :: st.map (cnc q))) → W p l e R s m args below meth c H locs cells slots Q (F0 m pc lsA (st.map (cnc q)))) : VV p l e R s m args below meth c cells slots Q D q cA A nL pc ls st σ := by
  unfold ldA at h
  split at h
  · next x hx =>
    cases h
    intro H locs lsA hP hD hS hL
    exact row _ H locs lsA (hL.2.2.2 i _ hx) (k H locs lsA hP hD hS hL)
  · next hx =>
    cases h
    intro H locs lsA hP hD hS hL
    exact rowN H locs lsA (hL.2.2.2 i _ hx) (k H locs lsA hP hD hS hL)
  · cases h
theorem len_of {i : Nat} {y : Option Value} (h : ls[i]? = some y) : i < ls.length := (List.getElem?_eq_some_iff.mp h).1
theorem s_stI {i : Nat} (h : stI ls i st σ = some (o, ls', st', σ')) (k : VV p l e R s m args below meth c cells slots Q D q cA A nL (pc + n) ls' st' σ')
    (row : ∀ (x : Int32) (r : List Value) (H : Heap) (locs : List Loc) (lsA : Array Slot), lv_has lsA nL (lvs q ls) → i < nL → (∀ ls' : Array Slot, lv_has ls' nL ((i, Value.int x) :: (lvs q ls).filter (fun q => !(q.1 == i) && !(q.1 + 1 == i && q.2.category == 2))) → W p l e R s m args below meth c H locs cells slots Q (F0 m (pc + n) ls' r)) → W p l e R s m args below meth c H locs cells slots Q (F0 m pc lsA (.int x :: r))) : VV p l e R s m args below meth c cells slots Q D q cA A nL pc ls st σ := by
  unfold stI at h
  split at h
  · next y x r h1 h2 =>
    cases h
    intro H locs lsA hP hD hS hL
    refine row x _ H locs lsA (LH_has hL) (by rw [← hL.1]; exact len_of h1) (fun ls2 h3 => ?_)
    exact k H locs ls2 hP hD hS (LH_st1 hL.1 h2 h3)
  · cases h
theorem s_stL {i : Nat} (h : stL ls i st σ = some (o, ls', st', σ')) (k : VV p l e R s m args below meth c cells slots Q D q cA A nL (pc + n) ls' st' σ')
    (row : ∀ (x : Int64) (r : List Value) (H : Heap) (locs : List Loc) (lsA : Array Slot), lv_has lsA nL (lvs q ls) → i + 1 < nL → (∀ ls' : Array Slot, lv_has ls' nL ((i, Value.long x) :: (lvs q ls).filter (fun q => !(q.1 == i) && (!(q.1 == i + 1) && !(q.1 + 1 == i && q.2.category == 2)))) → W p l e R s m args below meth c H locs cells slots Q (F0 m (pc + n) ls' r)) → W p l e R s m args below meth c H locs cells slots Q (F0 m pc lsA (.long x :: r))) : VV p l e R s m args below meth c cells slots Q D q cA A nL pc ls st σ := by
  unfold stL at h
  split at h
  · next y x r h1 h2 =>
    cases h
    intro H locs lsA hP hD hS hL
    refine row x _ H locs lsA (LH_has hL) (by rw [← hL.1]; exact len_of h1) (fun ls2 h3 => ?_)
    exact k H locs ls2 hP hD hS (LH_st2 hL.1 h2 h3)
  · cases h
theorem s_stA {i : Nat} (h : stA ls i st σ = some (o, ls', st', σ')) (k : VV p l e R s m args below meth c cells slots Q D q cA A nL (pc + n) ls' st' σ')
    (row : ∀ (x : Nat) (r : List Value) (H : Heap) (locs : List Loc) (lsA : Array Slot), lv_has lsA nL (lvs q ls) → i < nL → (∀ ls' : Array Slot, lv_has ls' nL ((i, Value.ref x) :: (lvs q ls).filter (fun q => !(q.1 == i) && !(q.1 + 1 == i && q.2.category == 2))) → W p l e R s m args below meth c H locs cells slots Q (F0 m (pc + n) ls' r)) → W p l e R s m args below meth c H locs cells slots Q (F0 m pc lsA (.ref x :: r)))
    (rowN : ∀ (r : List Value) (H : Heap) (locs : List Loc) (lsA : Array Slot), lv_has lsA nL (lvs q ls) → i < nL → (∀ ls' : Array Slot, lv_has ls' nL ((i, Value.null) :: (lvs q ls).filter (fun q => !(q.1 == i) && !(q.1 + 1 == i && q.2.category == 2))) → W p l e R s m args below meth c H locs cells slots Q (F0 m (pc + n) ls' r)) → W p l e R s m args below meth c H locs cells slots Q (F0 m pc lsA (.null :: r))) : VV p l e R s m args below meth c cells slots Q D q cA A nL pc ls st σ := by
  unfold stA at h
  split at h
  · next y x r h1 h2 =>
    cases h
    intro H locs lsA hP hD hS hL
    refine row _ _ H locs lsA (LH_has hL) (by rw [← hL.1]; exact len_of h1) (fun ls2 h3 => ?_)
    exact k H locs ls2 hP hD hS (LH_st1 (v := .ref x) hL.1 h2 h3)
  · next y r h1 h2 =>
    cases h
    intro H locs lsA hP hD hS hL
    refine rowN _ H locs lsA (LH_has hL) (by rw [← hL.1]; exact len_of h1) (fun ls2 h3 => ?_)
    exact k H locs ls2 hP hD hS (LH_st1 (v := .null) hL.1 h2 h3)
  · cases h
theorem fs_at {ci k j : Nat} (hj : j < NN ci) : ((List.range (NN ci)).map fun j => cnc q (fval ci k j σ))[j]? = some (cnc q (fval ci k j σ)) := by
  simp [hj]
theorem fs_set {ci k j : Nat} {x : Int32} (hr : rfN ci j = false) : ((List.range (NN ci)).map fun j => cnc q (fval ci k j σ)).set j (.int x) = (List.range (NN ci)).map fun i => cnc q (fval ci k i (setI σ k j x)) := by
  apply List.ext_getElem?
  intro i
  rw [List.getElem?_set]
  by_cases hi : j = i
  · subst hi
    rw [if_pos rfl]
    by_cases h2 : j < NN ci
    · simp [h2, fval, hr, setI, cnc]
    · simp [h2]
  · rw [if_neg hi]
    by_cases h2 : i < NN ci
    · have : fval ci k i (setI σ k j x) = fval ci k i σ := by
        unfold fval
        split
        · rfl
        · simp [setI, Ne.symm hi]
      simp [h2, this]
    · simp [h2]
theorem setI_off {k j : Nat} {x : Int32} : ∀ i, i ≠ k → σ.1 i = (setI σ k j x).1 i ∧ σ.2 i = (setI σ k j x).2 i := fun i hi => ⟨by funext b; simp [setI, hi], rfl⟩
theorem setL_off {k j : Nat} {x : Int64} : ∀ i, i ≠ k → σ.1 i = (setL σ k j x).1 i ∧ σ.2 i = (setL σ k j x).2 i := fun i hi => ⟨rfl, by funext b; simp [setL, hi]⟩
theorem setI_upd {k j : Nat} {x : Int32} : (setI σ k j x).1 k = upd (σ.1 k) j x := by funext b; simp [setI, upd]
theorem setL_upd {k j : Nat} {x : Int64} : (setL σ k j x).2 k = vp_updL (σ.2 k) j x := by funext b; simp [setL, vp_updL]
theorem V_get {idx ci j k : Nat} {r : List Value} (hC : CT p s m args c D cA A nL ow cc) (hd : decode cc pc = .ok (.getfield idx, 3)) (hF : okF ow idx ci j = true) (hk : kd k = ci)
    (kk : VV p l e R s m args below meth c cells slots Q D q cA A nL (pc + 3) ls (fval ci k j σ :: r) σ) : VV p l e R s m args below meth c cells slots Q D q cA A nL pc ls (.ref k :: r) σ := by
  obtain ⟨hx, hb, hml, hown, hts, hK, hA⟩ := hC
  obtain ⟨h7, hj, hw⟩ := okF_spec hF
  intro H locs lsA hP hD hS hL
  have he : (wG q cA σ)[k]? = some (q k, .inr (ci, (List.range (NN ci)).map fun j => cnc q (fval ci k j σ))) := by rw [wG_at (kd_lt (by omega)), cellG_obj hk h7]
  rcases hw with hw | hw
  · exact va_get hx hb hts (inAN ci h7) hown hK.1 hP k he (cl7_at ci h7) j hj (hts _ hw) (fun _ h9 => h9) (fs_at hj) hd (kk H locs lsA hP hD hS hL)
  · exact va_getN hx hb hts (inAN ci h7) hown hK.1 hP k he (cl7_at ci h7) j hj (va_Nw.use (nw_onTables hw) (hK.2 _ hw)) (fun _ h9 => h9) (fs_at hj) hd (kk H locs lsA hP hD hS hL)
theorem V_put {idx ci j k : Nat} {x : Int32} {r : List Value} (hC : CT p s m args c D cA A nL ow cc) (hd : decode cc pc = .ok (.putfield idx, 3)) (hF : okF ow idx ci j = true) (hk : kd k = ci)
    {ty : FieldType} (hty : parseFieldDescriptor (TN ci j).2.2.1 = some ty) (hn : narrow ty (.int x) = .int x) (hfit : fits ty (.int x) = true) (hfin : (TN ci j).2.2.2 = false) (hrf : rfN ci j = false)
    (kk : VV p l e R s m args below meth c cells slots Q D q cA A nL (pc + 3) ls r (setI σ k j x)) : VV p l e R s m args below meth c cells slots Q D q cA A nL pc ls (.int x :: .ref k :: r) σ := by
  obtain ⟨hx, hb, hml, hown, hts, hK, hA⟩ := hC
  obtain ⟨h7, hj, hw⟩ := okF_spec hF
  intro H locs lsA hP hD hS hL
  have h68 : k < 68 := kd_lt (by omega)
  have he : (wG q cA σ)[k]? = some (q k, .inr (ci, (List.range (NN ci)).map fun j => cnc q (fval ci k j σ))) := by rw [wG_at h68, cellG_obj hk h7]
  have hset : (wG q cA σ).set k (q k, .inr (ci, ((List.range (NN ci)).map fun j => cnc q (fval ci k j σ)).set j (cnc q (.int x)))) = wG q cA (setI σ k j x) := wG_set h68 (by rw [cellG_obj hk h7, ← fs_set hrf]; rfl) setI_off
  rcases hw with hw | hw
  · refine va_put hx hb hts (inAN ci h7) (tyN ci) (tyN_ok ci h7) (nmN ci h7) hown hK.1 hP hD hS k he (cl7_at ci h7) j hj (hts _ hw) (fun _ h9 => h9) hfin hty hn hfit (by simp [hj]) hd (fun H1 locs1 hP1 hD1 hS1 => ?_)
    rw [hset] at hP1 hD1
    exact kk H1 locs1 lsA hP1 hD1 hS1 hL
  · refine va_putN hx hb hts (inAN ci h7) (tyN ci) (tyN_ok ci h7) (nmN ci h7) hown hK.1 hP hD hS k he (cl7_at ci h7) j hj (va_Nw.use (nw_onTables hw) (hK.2 _ hw)) (fun _ h9 => h9) hfin hty hn hfit (by simp [hj]) hd (fun H1 locs1 hP1 hD1 hS1 => ?_)
    rw [hset] at hP1 hD1
    exact kk H1 locs1 lsA hP1 hD1 hS1 hL
theorem d_I : parseFieldDescriptor "I" = some .int := by decide +kernel
theorem d_Z : parseFieldDescriptor "Z" = some .boolean := by decide +kernel
theorem isb_nar {x : Int32} (h : isb x = true) : narrow .boolean (.int x) = .int x ∧ fits .boolean (.int x) = true := by
  rcases isb_cases h with rfl | rfl <;> decide
theorem isb_nar2 {x : Int32} (h : isb x = true) : vp_nar .boolean x = x := by
  rcases isb_cases h with rfl | rfl <;> decide
set_option maxHeartbeats 4000000 in
theorem V_step {it : IT} (hC : CT p s m args c D cA A nL ow cc) (hok : okI ow cc pc it = true) (h : ast1 it.1 it.2.2.1 it.2.2.2.1 it.2.2.2.2.1 it.2.2.2.2.2 ls st σ = some (o, ls', st', σ')) (ho : conj o)
    (k : VV p l e R s m args below meth c cells slots Q D q cA A nL (nxt pc it) ls' st' σ') : VV p l e R s m args below meth c cells slots Q D q cA A nL pc ls st σ := by
  obtain ⟨i, n, v, w, ci, j⟩ := it
  simp only [okI, Bool.and_eq_true, decide_eq_true_eq] at hok
  obtain ⟨hd, hokA⟩ := hok
  simp only at h
  have hC' := hC
  obtain ⟨hx, hb, hml, hown, hts, hK, hA⟩ := hC
  unfold ast1 at h
  split at h
  · cases h
    simp only [okA, Bool.and_eq_true, beq_iff_eq, decide_eq_true_eq] at hokA
    obtain ⟨rfl, hv⟩ := hokA
    intro H locs lsA hP hD hS hL
    exact lv_iconst hx hb hd hv (k H locs lsA hP hD hS hL)
  · cases h
    simp only [okA, Bool.and_eq_true, beq_iff_eq, decide_eq_true_eq] at hokA
    obtain ⟨rfl, hv⟩ := hokA
    intro H locs lsA hP hD hS hL
    exact lv_bipush hx hb hd hv (k H locs lsA hP hD hS hL)
  · cases h
    simp only [okA, Bool.and_eq_true, beq_iff_eq, decide_eq_true_eq] at hokA
    obtain ⟨rfl, hv⟩ := hokA
    intro H locs lsA hP hD hS hL
    exact lv_sipush hx hb hd hv (k H locs lsA hP hD hS hL)
  · cases h
    simp only [okA, Bool.and_eq_true, beq_iff_eq, decide_eq_true_eq] at hokA
    obtain ⟨rfl, hv⟩ := hokA
    intro H locs lsA hP hD hS hL
    exact lv_ldc hx hb hown (hts _ (okCI_spec hv)) hd (k H locs lsA hP hD hS hL)
  · cases h
    simp only [okA, Bool.and_eq_true, beq_iff_eq, decide_eq_true_eq] at hokA
    obtain ⟨rfl, hv⟩ := hokA
    intro H locs lsA hP hD hS hL
    exact lv_lconst hx hb hd hv (k H locs lsA hP hD hS hL)
  · cases h
    simp only [okA, Bool.and_eq_true, beq_iff_eq, decide_eq_true_eq] at hokA
    obtain ⟨rfl, hv⟩ := hokA
    intro H locs lsA hP hD hS hL
    exact lv_ldc2 hx hb hown (hts _ (okCL_spec hv)) hd (k H locs lsA hP hD hS hL)
  · cases h
    simp only [okA, beq_iff_eq] at hokA
    subst hokA
    intro H locs lsA hP hD hS hL
    exact lv_null hx hb hd (k H locs lsA hP hD hS hL)
  · simp only [okA, beq_iff_eq] at hokA
    subst hokA
    exact s_ldI h k (fun x H locs lsA hl kk => lv_iload_n hx hb hd rfl hl kk)
  · simp only [okA, beq_iff_eq] at hokA
    subst hokA
    exact s_ldI h k (fun x H locs lsA hl kk => lv_iload hx hb hd hl kk)
  · simp only [okA, beq_iff_eq] at hokA
    subst hokA
    exact s_ldL h k (fun x H locs lsA hl kk => lv_lload_n hx hb hd rfl hl kk)
  · simp only [okA, beq_iff_eq] at hokA
    subst hokA
    exact s_ldL h k (fun x H locs lsA hl kk => lv_lload hx hb hd hl kk)
  · simp only [okA, beq_iff_eq] at hokA
    subst hokA
    exact s_ldA h k (fun x H locs lsA hl kk => lv_aload_n hx hb hd rfl hl kk) (fun H locs lsA hl kk => lv_aload_nN hx hb hd rfl hl kk)
  · simp only [okA, beq_iff_eq] at hokA
    subst hokA
    exact s_ldA h k (fun x H locs lsA hl kk => lv_aload hx hb hd hl kk) (fun H locs lsA hl kk => lv_aloadN hx hb hd hl kk)
  · simp only [okA, beq_iff_eq] at hokA
    subst hokA
    exact s_stI h k (fun x r H locs lsA hl hi kk => lv_istore_n hx hb hd rfl hl hi rfl kk)
  · simp only [okA, beq_iff_eq] at hokA
    subst hokA
    exact s_stI h k (fun x r H locs lsA hl hi kk => lv_istore hx hb hd hl hi rfl kk)
  · simp only [okA, beq_iff_eq] at hokA
    subst hokA
    exact s_stL h k (fun x r H locs lsA hl hi kk => lv_lstore_n hx hb hd rfl hl hi rfl kk)
  · simp only [okA, beq_iff_eq] at hokA
    subst hokA
    exact s_stL h k (fun x r H locs lsA hl hi kk => lv_lstore hx hb hd hl hi rfl kk)
  · simp only [okA, beq_iff_eq] at hokA
    subst hokA
    exact s_stA h k (fun x r H locs lsA hl hi kk => lv_astore_n hx hb hd rfl hl hi rfl kk) (fun r H locs lsA hl hi kk => lv_astore_nN hx hb hd rfl hl hi rfl kk)
  · simp only [okA, beq_iff_eq] at hokA
    subst hokA
    exact s_stA h k (fun x r H locs lsA hl hi kk => lv_astore hx hb hd hl hi rfl kk) (fun r H locs lsA hl hi kk => lv_astoreN hx hb hd hl hi rfl kk)
  · split at h
    · next x h1 h2 =>
      cases h
      simp only [okA, Bool.and_eq_true, beq_iff_eq, decide_eq_true_eq] at hokA
      obtain ⟨rfl, hv⟩ := hokA
      intro H locs lsA hP hD hS hL
      obtain ⟨kp, hkp⟩ := List.mem_iff_getElem?.mp (lvs_mem.mpr ⟨.int x, h1, rfl⟩ : ((_ : Nat), cnc q (Value.int x)) ∈ lvs q ls)
      exact lv_iinc hx hb hd (LH_has hL) hkp (by rw [hv]) (by rw [← hL.1]; exact len_of h1) rfl (fun ls2 h3 => k H locs ls2 hP hD hS (LH_st1 (v := .int (x + v)) hL.1 h2 h3))
    · cases h
  · split at h
    · cases h
      simp only [okA, beq_iff_eq] at hokA
      subst hokA
      intro H locs lsA hP hD hS hL
      exact lv_iadd hx hb hd (k H locs lsA hP hD hS hL)
    · cases h
  · split at h
    · cases h
      simp only [okA, beq_iff_eq] at hokA
      subst hokA
      intro H locs lsA hP hD hS hL
      exact lv_isub hx hb hd (k H locs lsA hP hD hS hL)
    · cases h
  · split at h
    · cases h
      simp only [okA, beq_iff_eq] at hokA
      subst hokA
      intro H locs lsA hP hD hS hL
      exact lv_imul hx hb hd (k H locs lsA hP hD hS hL)
    · cases h
  · split at h
    · cases h
      simp only [okA, beq_iff_eq] at hokA
      subst hokA
      intro H locs lsA hP hD hS hL
      exact lv_iand hx hb hd (k H locs lsA hP hD hS hL)
    · cases h
  · split at h
    · cases h
      simp only [okA, beq_iff_eq] at hokA
      subst hokA
      intro H locs lsA hP hD hS hL
      exact lv_idiv hx hb hd ho.1 (k H locs lsA hP hD hS hL)
    · cases h
  · split at h
    · cases h
      simp only [okA, beq_iff_eq] at hokA
      subst hokA
      intro H locs lsA hP hD hS hL
      exact lv_irem hx hb hd ho.1 (k H locs lsA hP hD hS hL)
    · cases h
  · split at h
    · cases h
      simp only [okA, beq_iff_eq] at hokA
      subst hokA
      intro H locs lsA hP hD hS hL
      exact lv_ineg hx hb hd (k H locs lsA hP hD hS hL)
    · cases h
  · split at h
    · cases h
      simp only [okA, beq_iff_eq] at hokA
      subst hokA
      intro H locs lsA hP hD hS hL
      exact lv_lmul hx hb hd (k H locs lsA hP hD hS hL)
    · cases h
  · split at h
    · cases h
      simp only [okA, beq_iff_eq] at hokA
      subst hokA
      intro H locs lsA hP hD hS hL
      exact lv_ldiv hx hb hd ho.1 (k H locs lsA hP hD hS hL)
    · cases h
  · split at h
    · cases h
      simp only [okA, beq_iff_eq] at hokA
      subst hokA
      intro H locs lsA hP hD hS hL
      exact W.lcmp hx hb hd (k H locs lsA hP hD hS hL)
    · cases h
  · split at h
    · cases h
      simp only [okA, beq_iff_eq] at hokA
      subst hokA
      intro H locs lsA hP hD hS hL
      exact lv_i2l hx hb hd rfl (k H locs lsA hP hD hS hL)
    · cases h
  · split at h
    · cases h
      simp only [okA, beq_iff_eq] at hokA
      subst hokA
      intro H locs lsA hP hD hS hL
      exact lv_l2i hx hb hd rfl (k H locs lsA hP hD hS hL)
    · cases h
  · split at h
    · cases h
      simp only [okA, beq_iff_eq] at hokA
      subst hokA
      intro H locs lsA hP hD hS hL
      exact lv_i2b hx hb hd rfl (k H locs lsA hP hD hS hL)
    · cases h
  · split at h
    · cases h
      simp only [okA, beq_iff_eq] at hokA
      subst hokA
      intro H locs lsA hP hD hS hL
      exact lv_i2s hx hb hd rfl (k H locs lsA hP hD hS hL)
    · cases h
  · split at h
    · cases h
      simp only [okA, beq_iff_eq] at hokA
      subst hokA
      intro H locs lsA hP hD hS hL
      exact lv_dup hx hb hd rfl (k H locs lsA hP hD hS hL)
    · cases h
      simp only [okA, beq_iff_eq] at hokA
      subst hokA
      intro H locs lsA hP hD hS hL
      exact lv_dup hx hb hd rfl (k H locs lsA hP hD hS hL)
    · cases h
  · split at h
    · cases h
      simp only [okA, beq_iff_eq] at hokA
      subst hokA
      intro H locs lsA hP hD hS hL
      exact lv_dup2_11 hx hb hd rfl rfl (k H locs lsA hP hD hS hL)
    · cases h
  · split at h
    · cases h
      simp only [okA, beq_iff_eq] at hokA
      subst hokA
      intro H locs lsA hP hD hS hL
      exact lv_pop hx hb hd rfl (k H locs lsA hP hD hS hL)
    · cases h
  · cases h
    simp only [okA, Bool.and_eq_true, beq_iff_eq, decide_eq_true_eq] at hokA
    obtain ⟨rfl, hv⟩ := hokA
    intro H locs lsA hP hD hS hL
    exact lv_goto hx hb hd hv (k H locs lsA hP hD hS hL)
  · split at h
    · cases h
      simp only [okA, Bool.and_eq_true, beq_iff_eq] at hokA
      obtain ⟨rfl, hv⟩ := hokA
      exact V_get hC' hd hv ho.1 k
    · cases h
  · split at h
    · split at h
      · next h100 =>
        cases h
        simp only [okA, okP, h100, Bool.and_eq_true, beq_iff_eq] at hokA
        obtain ⟨rfl, hF, hI, hfin⟩ := hokA
        obtain ⟨h7, hj, -⟩ := okF_spec hF
        exact V_put hC' hd hF ho.1 (ty := .int) (by rw [hI]; exact d_I) rfl rfl hfin (by rw [rf_ok _ h7 _ hj, hI]; rfl) k
      · next h100 =>
        cases h
        simp only [okA, okP, h100, Bool.and_eq_true, beq_iff_eq] at hokA
        obtain ⟨rfl, hF, hI, hfin⟩ := hokA
        obtain ⟨h7, hj, -⟩ := okF_spec hF
        exact V_put hC' hd hF ho.1 (ty := .boolean) (by rw [hI]; exact d_Z) (isb_nar ho.2.1).1 (isb_nar ho.2.1).2 hfin (by rw [rf_ok _ h7 _ hj, hI]; rfl) k
    · cases h
  · split at h
    · next kk r =>
      cases h
      simp only [okA, Bool.and_eq_true, beq_iff_eq, Bool.or_eq_true] at hokA
      obtain ⟨rfl, hv⟩ := hokA
      intro H locs lsA hP hD hS hL
      have hk := ho.1
      rcases hv with ((rfl | rfl) | rfl) | rfl
      · have he : (wG q cA σ)[kk]? = some (q kk, .inl (cA 0, alen kk, .inl (σ.1 kk))) := by rw [wG_at (kd_lt (by omega)), cellG_I hk]
        exact va_alen hx hb hK.1 hP kk 0 he rfl rfl hd (k H locs lsA hP hD hS hL)
      · have he : (wG q cA σ)[kk]? = some (q kk, .inl (cA 1, alen kk, .inl (σ.1 kk))) := by rw [wG_at (kd_lt (by omega)), cellG_Z hk]
        exact va_alen hx hb hK.1 hP kk 1 he rfl rfl hd (k H locs lsA hP hD hS hL)
      · have he : (wG q cA σ)[kk]? = some (q kk, .inl (cA 2, alen kk, .inr (.inl (σ.2 kk)))) := by rw [wG_at (kd_lt (by omega)), cellG_J hk]
        exact va_alen hx hb hK.1 hP kk 2 he rfl rfl hd (k H locs lsA hP hD hS hL)
      · have ha : alen kk = 8 := kd_all (P := fun k => kd k = 13 → alen k = 8) (by decide +kernel) hk (by omega) hk
        exact va_alen hx hb hK.1 hP kk 3 ((wG_at (kd_lt (by omega))).trans (by rw [cellG_S hk])) rfl (by rw [ha]) hd (k H locs lsA hP hD hS hL)
    · cases h
  · split at h
    · next i kk r =>
      cases h
      simp only [okA, beq_iff_eq] at hokA
      subst hokA
      intro H locs lsA hP hD hS hL
      exact va_iald hx hb hK.1 hP kk 0 ((wG_at (kd_lt (by have := ho.1; omega))).trans (by rw [cellG_I ho.1])) rfl (inb_in ho.2.1) hd (k H locs lsA hP hD hS hL)
    · cases h
  · split at h
    · next i kk r =>
      cases h
      simp only [okA, beq_iff_eq] at hokA
      subst hokA
      intro H locs lsA hP hD hS hL
      exact va_zald hx hb hK.1 hP kk 1 ((wG_at (kd_lt (by have := ho.1; omega))).trans (by rw [cellG_Z ho.1])) rfl (inb_in ho.2.1) hd (k H locs lsA hP hD hS hL)
    · cases h
  · split at h
    · next i kk r =>
      cases h
      simp only [okA, beq_iff_eq] at hokA
      subst hokA
      intro H locs lsA hP hD hS hL
      exact va_lald hx hb hK.1 hP kk 2 ((wG_at (kd_lt (by have := ho.1; omega))).trans (by rw [cellG_J ho.1])) rfl (inb_in ho.2.1) hd (k H locs lsA hP hD hS hL)
    · cases h
  · split at h
    · next i kk r =>
      cases h
      simp only [okA, beq_iff_eq] at hokA
      subst hokA
      intro H locs lsA hP hD hS hL
      have he : (wG q cA σ)[kk]? = some (q kk, .inl (cA 3, 8, .inr (.inr (.inr (.inr fun j => some (q (20 + 2 * j))))))) := by rw [wG_at (kd_lt (by have := ho.1; omega)), cellG_S ho.1]
      exact va_aldq hx hb hK.1 hP kk 3 he rfl (inb_in ho.2.1) hd (k H locs lsA hP hD hS hL)
    · cases h
  · split at h
    · next x i kk r =>
      cases h
      simp only [okA, beq_iff_eq] at hokA
      subst hokA
      intro H locs lsA hP hD hS hL
      have h68 : kk < 68 := kd_lt (by have := ho.1; omega)
      refine va_iast hx hb hK.1 hP hD hS kk 0 ((wG_at h68).trans (by rw [cellG_I ho.1])) rfl (inb_in ho.2.1) hd (fun H1 locs1 hP1 hD1 hS1 => ?_)
      rw [wG_set h68 (by rw [cellG_I ho.1, setI_upd]) setI_off] at hP1 hD1
      exact k H1 locs1 lsA hP1 hD1 hS1 hL
    · cases h
  · split at h
    · next x i kk r =>
      cases h
      simp only [okA, beq_iff_eq] at hokA
      subst hokA
      intro H locs lsA hP hD hS hL
      have h68 : kk < 68 := kd_lt (by have := ho.1; omega)
      refine va_zast hx hb hK.1 hP hD hS kk 1 ((wG_at h68).trans (by rw [cellG_Z ho.1])) rfl (inb_in ho.2.1) hd (fun H1 locs1 hP1 hD1 hS1 => ?_)
      rw [isb_nar2 ho.2.2.1] at hP1 hD1
      rw [wG_set h68 (by rw [cellG_Z ho.1, setI_upd]) setI_off] at hP1 hD1
      exact k H1 locs1 lsA hP1 hD1 hS1 hL
    · cases h
  · split at h
    · next x i kk r =>
      cases h
      simp only [okA, beq_iff_eq] at hokA
      subst hokA
      intro H locs lsA hP hD hS hL
      have h68 : kk < 68 := kd_lt (by have := ho.1; omega)
      refine va_last hx hb hK.1 hP hD hS kk 2 ((wG_at h68).trans (by rw [cellG_J ho.1])) rfl (inb_in ho.2.1) hd (fun H1 locs1 hP1 hD1 hS1 => ?_)
      rw [wG_set h68 (by rw [cellG_J ho.1, setL_upd]) setL_off] at hP1 hD1
      exact k H1 locs1 lsA hP1 hD1 hS1 hL
    · cases h
  · cases h
theorem V_run (hC : CT p s m args c D cA A nL ow cc) : ∀ (bl : List IT) (pc pc2 : Nat) (ls : List (Option Value)) (st : List Value) (σ : ST) (o : List Prop) (ls' : List (Option Value)) (st' : List Value) (σ' : ST), decBs ow cc pc bl pc2 = true → abl bl ls st σ = some (o, ls', st', σ') → conj o →
    VV p l e R s m args below meth c cells slots Q D q cA A nL pc2 ls' st' σ' → VV p l e R s m args below meth c cells slots Q D q cA A nL pc ls st σ := by
  intro bl
  induction bl with
  | nil =>
    intro pc pc2 ls st σ o ls' st' σ' hd h ho k
    cases h
    simp only [decBs, beq_iff_eq] at hd
    subst hd
    exact k
  | cons it r ih =>
    intro pc pc2 ls st σ o ls' st' σ' hd h ho k
    simp only [decBs, Bool.and_eq_true] at hd
    simp only [abl] at h
    split at h
    · cases h
    · next o1 ls1 st1 σ1 h1 =>
      split at h
      · cases h
      · next o2 ls2 st2 σ2 h2 =>
        cases h
        obtain ⟨ho1, ho2⟩ := conj_app ho
        exact V_step hC hd.1 h1 ho1 (ih _ _ _ _ _ _ _ _ _ hd.2 h2 ho2 k)
end STEP
