theorem EX_known {s : State} {b : Nat} {D : va_G} {cA : Nat → ClassId} (hts : ∀ w ∈ lw_tbl, w.before #[Value.ref b] s = true) (hK : KK D cA s) (hgv : (Jvm.Cond.and given_1 narrow_1).before #[Value.ref b] s = true) : EX (fun x => s.heap.size ≤ x) s s.heap := by
  have hs := flat_of_before _ hgv
  have f3 : s.vm.findClass RX3 = some (D.1 3) := (hK.1.1 3 (RX3, TX3, 8) rfl).2.1
  have f5 : s.vm.findClass RX5 = some (D.1 5) := (hK.1.1 5 (RX5, TX5, 6) rfl).2.1
  have hstr : ∀ (own : String) (k : Nat) (tx : String) (cur : Nat), s.vm.findClass own = some cur → (Jvm.Cond.stringRef own k tx).before #[Value.ref b] s = true → ∃ sa, vk_R own k tx sa s := by
    intro own k tx cur hc hw
    obtain ⟨-, -, -, sa, -, -, -, -, -, hev⟩ := Cond.stringRef_spec hc hw
    exact ⟨sa, vk_R.of hw hev⟩
  refine ⟨fun w hw => va_Nw.of (nx_onTables hw) (hts w (List.mem_filter.mp hw).1), fun t ht => ?_, fun t ht => ?_, ?_, ?_⟩
  · unfold strs at ht
    rcases List.mem_cons.mp ht with rfl | ht
    · exact hstr _ _ _ _ f3 (hts _ (List.mem_of_getElem? (i := 729) (by decide +kernel)))
    rcases List.mem_cons.mp ht with rfl | ht
    · exact hstr _ _ _ _ f3 (hts _ (List.mem_of_getElem? (i := 765) (by decide +kernel)))
    rcases List.mem_cons.mp ht with rfl | ht
    · exact hstr _ _ _ _ f3 (hts _ (List.mem_of_getElem? (i := 781) (by decide +kernel)))
    rcases List.mem_cons.mp ht with rfl | ht
    · exact hstr _ _ _ _ f5 (hts _ (List.mem_of_getElem? (i := 797) (by decide +kernel)))
    rcases List.mem_cons.mp ht with rfl | ht
    · exact hstr _ _ _ _ f5 (hts _ (List.mem_of_getElem? (i := 799) (by decide +kernel)))
    · cases ht
  · unfold ncs at ht
    rcases List.mem_cons.mp ht with rfl | ht
    · exact va_Nc.of (hs (Jvm.Cond.not (.castable UOE IAE)) (by decide +kernel))
    rcases List.mem_cons.mp ht with rfl | ht
    · exact va_Nc.of (hs (Jvm.Cond.not (.castable ISE IAE)) (by decide +kernel))
    rcases List.mem_cons.mp ht with rfl | ht
    · exact va_Nc.of (hs (Jvm.Cond.not (.castable ISE UOE)) (by decide +kernel))
    · cases ht
  · exact vx_Zqof (hts _ (List.mem_of_getElem? (i := 715) (by decide +kernel))) (hts _ (List.mem_of_getElem? (i := 91) (by decide +kernel))) (hs (Jvm.Cond.isRef (.static Bundle.tN "UNASSIGNED_STACK" Bundle.steD)) (by decide +kernel)) (fun a h1 h2 => absurd h1 (Nat.not_lt.mpr h2))
  · exact vx_Zqof (hts _ (List.mem_of_getElem? (i := 717) (by decide +kernel))) (hts _ (List.mem_of_getElem? (i := 91) (by decide +kernel))) (hs (Jvm.Cond.isRef (.static Bundle.tN "SUPPRESSED_SENTINEL" Bundle.listD)) (by decide +kernel)) (fun a h1 h2 => absurd h1 (Nat.not_lt.mpr h2))
theorem flags_trace {l : Launch} (h : l.flags = flags0) : l.stackTraces = false := by
  unfold Launch.stackTraces
  rw [h]
  decide +kernel
set_option maxHeartbeats 4000000 in
/-- THE LAW, from its entry, over the one pure fact that its printed function answers 1 -/
theorem whole_open (hp : ∀ (xs : Nat → Int32) (L : Nat), L ≤ 3072 → fL_law_23 xs L FU 0 σI = some 1) {p : Program} {e : Env} {s : State} {m : MethodId} {below : List Frame} {meth : Method} {c : Code} (l : Launch) (hflags : l.flags = flags0) {b L : Nat} {xs : Nat → Int32} (hL : L ≤ 3072) (C0 : lw_At p s m meth c b L xs) : W p l e room_1 s m #[Value.ref b] below meth c s.heap [] 0 0 (lw_Z below #[Value.ref b] s) (entryFrame m ([Value.ref b] : List Value).toArray 8) := by
  obtain ⟨hx, hb, hr, hml, hown, hts, hX, hbl, hlocks, hgv⟩ := id C0
  have hts' : ∀ w ∈ AW, w.before #[Value.ref b] s = true := fun w hw => hts w (aw_in hw)
  obtain ⟨D, cA, hK⟩ := K_known hts
  have hE := EX_known hts hK hgv
  have hao : va_AO "ThreeTimes$Shelf" s := va_AO.of (hts _ (List.mem_of_getElem? (i := 250) (by decide +kernel)))
  have hC : CT p s m #[Value.ref b] c D cA (fun x => s.heap.size ≤ x) 8 7 cL_law := ⟨hx, hb, hml, hown, hts', hK, fun x h => h⟩
  rw [lg_entry_eq]
  have hl := lv_entry ([.ref b]) (n := 8) (Nat.le_of_ble_eq_true rfl)
  refine (?_ : VC p l e room_1 s m #[Value.ref b] below meth c (lw_Z below #[Value.ref b] s) D (fun x => s.heap.size ≤ x) 8 0 0 [] 0 [(0, .ref b)] []) s.heap [] _ (fun k q h => by simp at h) ⟨fun i j p q h => by simp at h, fun k q h => by simp at h⟩ va_S.rf hl
  refine VC.new (ci := 5) (fs := [.null, .null, .int 0, .null, .null, .null]) hC (by decide) (aw_of (i := 97) (by decide +kernel) (by decide +kernel)) (aw_of (i := 98) (by decide +kernel) (by decide +kernel)) (aw_of (i := 82) (by decide +kernel) (by decide +kernel)) (by decide) ⟨Nat.le_of_ble_eq_true rfl, Nat.le_of_ble_eq_true rfl⟩ (show decode cL_law 0 = .ok (.new 8, 3) by decide +kernel) (fun q0 => ?_)
  refine VC.dup hC (show decode cL_law 3 = .ok (.dup, 1) by decide +kernel) rfl ?_
  show VC _ _ _ _ _ _ _ _ _ _ _ _ _ _ _ _ ([] ++ [(q0, .inr (5, [.null, .null, .int 0, .null, .null, .null]))]) 4 _ _
  refine VC.init (n := 0) (as := []) (rest := [.ref q0]) hC hao (kc_5 l) (Or.inl (aw_of (i := 99) (by decide +kernel) (by decide +kernel))) (aw_of (i := 100) (by decide +kernel) (by decide +kernel)) (aw_of (i := 82) (by decide +kernel) (by decide +kernel)) (aw_of (i := 101) (by decide +kernel) (by decide +kernel)) ⟨by decide +kernel, by decide +kernel⟩ (by decide +kernel) rfl rfl (Nat.le_of_ble_eq_true rfl) (Nat.le_of_ble_eq_true rfl) ⟨Nat.le_of_ble_eq_true rfl, Nat.le_of_ble_eq_true rfl⟩ (Nat.le_of_ble_eq_true rfl) (show decode cL_law 4 = .ok (.invokespecial 17, 3) by decide +kernel) (fun w1 hw1 => ?_)
  obtain ⟨a, L8, ha, hL8, rfl⟩ := hw1
  refine VC.astore_n (lv' := [(1, .ref q0), (0, .ref b)]) hC (show decode cL_law 7 = .ok (.astore_n 1, 1) by decide +kernel) rfl (by decide) rfl ?_
  refine VC.new (ci := 6) (fs := [.int 0, .int 0, .int 0, .int 0, .null, .null, .null, .int 0, .null, .null, .null, .null, .null, .null, .null, .null, .int 0, .null, .null, .null, .null, .null, .null, .int 0, .int 0, .int 0, .int 0, .int 0, .int 0, .null, .null, .null, .int 0, .int 0, .int 0, .null, .int 0, .int 0, .null, .null, .null, .null, .null, .null, .null, .null, .null]) hC (by decide) (aw_of (i := 801) (by decide +kernel) (by decide +kernel)) (aw_of (i := 802) (by decide +kernel) (by decide +kernel)) (aw_of (i := 89) (by decide +kernel) (by decide +kernel)) (by decide) ⟨Nat.le_of_ble_eq_true rfl, Nat.le_of_ble_eq_true rfl⟩ (show decode cL_law 8 = .ok (.new 18, 3) by decide +kernel) (fun q1 => ?_)
  refine VC.dup hC (show decode cL_law 11 = .ok (.dup, 1) by decide +kernel) rfl ?_
  show VC _ _ _ _ _ _ _ _ _ _ _ _ _ _ _ _ (([] ++ xW cA a L8) ++ [(q1, .inr (6, [.int 0, .int 0, .int 0, .int 0, .null, .null, .null, .int 0, .null, .null, .null, .null, .null, .null, .null, .null, .int 0, .null, .null, .null, .null, .null, .null, .int 0, .int 0, .int 0, .int 0, .int 0, .int 0, .null, .null, .null, .int 0, .int 0, .int 0, .null, .int 0, .int 0, .null, .null, .null, .null, .null, .null, .null, .null, .null]))]) 12 _ _
  refine VC.init (n := 0) (as := []) (rest := [.ref q1]) hC hao (kc_6 l) (Or.inl (aw_of (i := 803) (by decide +kernel) (by decide +kernel))) (aw_of (i := 804) (by decide +kernel) (by decide +kernel)) (aw_of (i := 89) (by decide +kernel) (by decide +kernel)) (aw_of (i := 805) (by decide +kernel) (by decide +kernel)) ⟨by decide +kernel, by decide +kernel⟩ (by decide +kernel) rfl rfl (Nat.le_of_ble_eq_true rfl) (Nat.le_of_ble_eq_true rfl) ⟨Nat.le_of_ble_eq_true rfl, Nat.le_of_ble_eq_true rfl⟩ (Nat.le_of_ble_eq_true rfl) (show decode cL_law 12 = .ok (.invokespecial 20, 3) by decide +kernel) (fun w2 hw2 => ?_)
  obtain ⟨a2, ha2, rfl⟩ := hw2
  refine VC.astore_n (lv' := [(2, .ref q1), (1, .ref q0), (0, .ref b)]) hC (show decode cL_law 15 = .ok (.astore_n 2, 1) by decide +kernel) rfl (by decide) rfl ?_
  refine VC.iconst (v := 1) hC (show decode cL_law 16 = .ok (.iconst 1, 1) by decide +kernel) (by decide) ?_
  refine VC.newarr (atype := .long) (a0 := (1, .inr (.inl (fun _ => 0)))) (N := 1) (ty := .long) 2 hC jw_arr.2.2 rfl rfl (fun _ => rfl) (by decide) (by decide) (by decide) ⟨Nat.le_of_ble_eq_true rfl, Nat.le_of_ble_eq_true rfl⟩ (show decode cL_law 17 = .ok (.newarray .long, 2) by decide +kernel) (fun q2 => ?_)
  refine VC.astore_n (lv' := [(3, .ref q2), (2, .ref q1), (1, .ref q0), (0, .ref b)]) hC (show decode cL_law 19 = .ok (.astore_n 3, 1) by decide +kernel) rfl (by decide) rfl ?_
  refine VC.iconst (v := 0) hC (show decode cL_law 20 = .ok (.iconst 0, 1) by decide +kernel) (by decide) ?_
  refine VC.istore (lv' := [(4, .int 0), (3, .ref q2), (2, .ref q1), (1, .ref q0), (0, .ref b)]) hC (show decode cL_law 21 = .ok (.istore 4, 2) by decide +kernel) (by decide) rfl ?_
  match L8, hL8 with
  | [p0, p1, p2, p3, p4, p5, p6, p7], _ =>
  intro H locs lsA hP hD hS hLv
  have hP : va_P D cl7 (wsL cA a a2 p0 p1 p2 p3 p4 p5 p6 p7 q2) H := hP
  have hD : va_D (fun x => s.heap.size ≤ x) (wsL cA a a2 p0 p1 p2 p3 p4 p5 p6 p7 q2) := hD
  have hq68 : qL a a2 p0 p1 p2 p3 p4 p5 p6 p7 q2 b 68 = b := rfl
  have hm : BL l xs L (fun c' n => VV p l e room_1 s m #[Value.ref b] below meth c c' n (lw_Z below #[Value.ref b] s) D (qL a a2 p0 p1 p2 p3 p4 p5 p6 p7 q2 b) cA (fun x => s.heap.size ≤ x) 8) :=
    ⟨p, e, s, m, below, meth, c, D, _, cA, b, flags_trace hflags, hC, hE, hq68, hX, hbl, hr, hlocks, rfl⟩
  have hw := wL_law_23 hm FU 68 5296 (by decide) (by decide) 0 σI (hp xs L hL)
  refine W.widen (k := 68) (n := 5296) (by decide) (by decide) (hw H locs lsA (final_P hP) (final_D fA hD) hS ⟨rfl, hLv.1, hLv.2.1, fun i v hi => ?_⟩)
  have hg : ∀ (j : Nat) (x : Value), ((4, .int 0) :: (3, .ref q2) :: (2, .ref q1) :: (1, .ref q0) :: [(0, .ref b)] : List (Nat × Value))[j]? = some (i, x) → lsA[i]? = some (.val x) := fun j x hj => lv_at hLv j hj
  match i, hi with
  | 0, hi => cases hi; exact hg 4 _ rfl
  | 1, hi => cases hi; rw [show cnc (qL a a2 p0 p1 p2 p3 p4 p5 p6 p7 q2 b) (.ref 0) = .ref q0 from congrArg Value.ref ha]; exact hg 3 _ rfl
  | 2, hi => cases hi; rw [show cnc (qL a a2 p0 p1 p2 p3 p4 p5 p6 p7 q2 b) (.ref 36) = .ref q1 from congrArg Value.ref ha2]; exact hg 2 _ rfl
  | 3, hi => cases hi; exact hg 1 _ rfl
  | 4, hi => cases hi; exact hg 0 _ rfl
  | 5, hi => cases hi
  | 6, hi => cases hi
  | 7, hi => cases hi
  | i + 8, hi => simp at hi
