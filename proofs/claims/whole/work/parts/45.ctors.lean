section VCQ
variable {p : Program} {l : Launch} {e : Env} {R : Room} {s : State} {m : MethodId} {args : Array Value} {below : List Frame} {meth : Method} {c : Code} {Q : State → Prop} {D : va_G} {cA : Nat → ClassId} {A : Nat → Prop} {nL ow cells slots pc : Nat} {cc : ByteArray} {ws ws' X : va_W} {lv lv' : List (Nat × Value)} {st rest : List Value}
theorem VC.alen (q0 t : Nat) {a : Nat} {x : vp_A} {ty : FieldType} {v : Int32} (hC : CT p s m args c D cA A nL ow cc) (ha : ws[q0]? = some (a, .inl (cA t, x))) (htys : (tysG cA)[t]? = some (cA t, ty)) (hv : Int32.ofNat x.1 = v) (hd : decode cc pc = .ok (.arraylength, 1))
    (kk : VC p l e R s m args below meth c Q D A nL cells slots ws (pc + 1) lv (.int v :: rest)) : VC p l e R s m args below meth c Q D A nL cells slots ws pc lv (.ref a :: rest) := by
  obtain ⟨hx, hb, hml, hown, hts, hK, hA⟩ := hC
  intro H locs lsA hP hD hS hL
  exact va_alen hx hb hK.1 hP q0 t ha htys hv hd (kk H locs lsA hP hD hS hL)
theorem VC.aast (q0 qk : Nat) {a v n : Nat} {vs : List Value} {f : Nat → Option Nat} {i : Int32} (hC : CT p s m args c D cA A nL ow cc) (ha : ws[q0]? = some (a, .inl (cA 3, n, .inr (.inr (.inr (.inr f)))))) (hv : ws[qk]? = some (v, .inr (3, vs))) (hin : vp_in i n) (hws : ws.set q0 (a, .inl (cA 3, n, .inr (.inr (.inr (.inr (va_up f i.toNatClampNeg (some v))))))) = ws') (hd : decode cc pc = .ok (.aastore, 1))
    (kk : VC p l e R s m args below meth c Q D A nL cells slots ws' (pc + 1) lv rest) : VC p l e R s m args below meth c Q D A nL cells slots ws pc lv (.ref v :: .int i :: .ref a :: rest) := by
  obtain ⟨hx, hb, hml, hown, hts, hK, hA⟩ := hC
  subst hws
  intro H locs lsA hP hD hS hL
  exact va_astq hx hb hK.1 hP hD hS q0 3 qk 3 ha rfl hv (cl7_at 3 (by decide)) hin hd (fun H1 locs1 hP1 hD1 hS1 => kk H1 locs1 lsA hP1 hD1 hS1 hL)
theorem VC.iast (q0 : Nat) {a n : Nat} {f : Nat → Int32} {i x : Int32} (hC : CT p s m args c D cA A nL ow cc) (ha : ws[q0]? = some (a, .inl (cA 0, n, .inl f))) (hin : vp_in i n) (hws : ws.set q0 (a, .inl (cA 0, n, .inl (upd f i.toNatClampNeg x))) = ws') (hd : decode cc pc = .ok (.iastore, 1))
    (kk : VC p l e R s m args below meth c Q D A nL cells slots ws' (pc + 1) lv rest) : VC p l e R s m args below meth c Q D A nL cells slots ws pc lv (.int x :: .int i :: .ref a :: rest) := by
  obtain ⟨hx, hb, hml, hown, hts, hK, hA⟩ := hC
  subst hws
  intro H locs lsA hP hD hS hL
  exact va_iast hx hb hK.1 hP hD hS q0 0 ha rfl hin hd (fun H1 locs1 hP1 hD1 hS1 => kk H1 locs1 lsA hP1 hD1 hS1 hL)
end VCQ
def zI : vp_A → vp_A := id
abbrev tbW (cA : Nat → ClassId) (m c : Int32) (n h0 q1 : Nat) : va_W := [(h0, .inr (4, [.int m, .int c, .ref q1, .int 0])), (q1, .inl (cA 0, n, .inl (fun _ => 0)))]
abbrev gmW (cA : Nat → ClassId) (h0 q1 q2 q3 q4 q5 q6 : Nat) : va_W := (h0, .inr (0, [.int 10, .int 3, .int 1, .ref q1, .ref q3, .ref q5])) :: ((tbW cA 8 3 24 q1 q2 ++ tbW cA 8 5 40 q3 q4) ++ tbW cA 100 6 600 q5 q6)
abbrev scW (cA : Nat → ClassId) (h0 q1 q2 : Nat) : va_W := (h0, .inr (2, [.ref q1, .int 0])) :: tbW cA 34 6 204 q1 q2
abbrev shW (cA : Nat → ClassId) (h0 q1 : Nat) : va_W := [(h0, .inr (3, [.int 0, .int 0, .int 0, .int 0, .int 0, .int 0, .int 0, .ref q1])), (q1, .inl (cA 0, 100, .inl (fun _ => 0)))]
abbrev meE : va_E := .inr (1, [.int 0, .int 0, .int 0, .int 0, .int 0, .int 0, .int 0, .int 0, .int 0, .int 0, .int 0, .int 0, .int 0, .int 0, .int 0, .int 0])
set_option maxHeartbeats 4000000 in
theorem kc_4 (l : Launch) {tm tc : Int32} {tn : Nat} (h1 : ¬ (if (0 : Int32) < tm * tc then tm * tc else 0) < 0) (h2 : (if (0 : Int32) < tm * tc then tm * tc else 0).toNatClampNeg = tn) (h3 : tn * componentBytes .int ≤ 536870912) : KC l yX4_init cX4_init 3 1 15 1 tn [.int tm, .int tc] (.inr (4, [.int 0, .int 0, .null, .int 0])) (fun cA h0 w => ∃ q1, w = tbW cA tm tc tn h0 q1) := by
  refine KC.intro (ow := 4) (by decide +kernel) rfl rfl (fun h0 => Nat.le_of_ble_eq_true rfl) ?_
  intro p e R s m args below meth c D cA A h0 hC hao hR hr hlocks hin
  show VC _ _ _ _ _ _ _ _ _ _ _ _ _ _ _ _ ((h0, .inr (4, [.int 0, .int 0, .null, .int 0])) :: []) 0 [(0, .ref h0), (1, .int tm), (2, .int tc)] []
  refine VC.aload_n 0 hC (show decode cX4_init 0 = .ok (.aload_n 0, 1) by decide +kernel) rfl rfl ?_
  refine VC.objInit hC (aw_of (i := 116) (by decide +kernel) (by decide +kernel)) (show decode cX4_init 1 = .ok (.invokespecial 1, 3) by decide +kernel) (by rw [hR]; exact Nat.le_of_ble_eq_true rfl) (by rw [hR]; exact Nat.le_of_ble_eq_true rfl) ?_
  refine VC.aload_n 0 hC (show decode cX4_init 4 = .ok (.aload_n 0, 1) by decide +kernel) rfl rfl ?_
  refine VC.iconst (v := 0) hC (show decode cX4_init 5 = .ok (.iconst 0, 1) by decide +kernel) (by decide) ?_
  refine VC.put (j := 3) (ci := 4) (fs' := [.int 0, .int 0, .null, .int 0]) (ty := tyN 4 3) hC (by decide +kernel) rfl (tyN_ok 4 (by decide) 3 (by decide)) rfl rfl (Nat.le_of_ble_eq_true rfl) rfl (show decode cX4_init 6 = .ok (.putfield 7, 3) by decide +kernel) ?_
  refine VC.aload_n 0 hC (show decode cX4_init 9 = .ok (.aload_n 0, 1) by decide +kernel) rfl rfl ?_
  refine VC.iload_n 1 hC (show decode cX4_init 10 = .ok (.iload_n 1, 1) by decide +kernel) rfl rfl ?_
  refine VC.putF (j := 0) (ci := 4) (fs' := [.int tm, .int 0, .null, .int 0]) (ty := tyN 4 0) hC hin (aw_of (i := 120) (by decide +kernel) (by decide +kernel)) (by decide) (by decide) rfl rfl (tyN_ok 4 (by decide) 0 (by decide)) rfl rfl (Nat.le_of_ble_eq_true rfl) rfl (show decode cX4_init 11 = .ok (.putfield 13, 3) by decide +kernel) ?_
  refine VC.aload_n 0 hC (show decode cX4_init 14 = .ok (.aload_n 0, 1) by decide +kernel) rfl rfl ?_
  refine VC.iload_n 2 hC (show decode cX4_init 15 = .ok (.iload_n 2, 1) by decide +kernel) rfl rfl ?_
  refine VC.putF (j := 1) (ci := 4) (fs' := [.int tm, .int tc, .null, .int 0]) (ty := tyN 4 1) hC hin (aw_of (i := 121) (by decide +kernel) (by decide +kernel)) (by decide) (by decide) rfl rfl (tyN_ok 4 (by decide) 1 (by decide)) rfl rfl (Nat.le_of_ble_eq_true rfl) rfl (show decode cX4_init 16 = .ok (.putfield 16, 3) by decide +kernel) ?_
  refine VC.aload_n 0 hC (show decode cX4_init 19 = .ok (.aload_n 0, 1) by decide +kernel) rfl rfl ?_
  refine VC.iconst (v := 0) hC (show decode cX4_init 20 = .ok (.iconst 0, 1) by decide +kernel) (by decide) ?_
  refine VC.iload_n 1 hC (show decode cX4_init 21 = .ok (.iload_n 1, 1) by decide +kernel) rfl rfl ?_
  refine VC.iload_n 2 hC (show decode cX4_init 22 = .ok (.iload_n 2, 1) by decide +kernel) rfl rfl ?_
  refine VC.imul hC (show decode cX4_init 23 = .ok (.imul, 1) by decide +kernel) ?_
  refine VC.max hC (show decode cX4_init 24 = .ok (.invokestatic 19, 3) by decide +kernel) (by rw [hR]; exact Nat.le_of_ble_eq_true rfl) (by rw [hR]; exact Nat.le_of_ble_eq_true rfl) (by rw [hR]; exact ⟨Nat.zero_le _, Nat.zero_le _⟩) ?_
  refine VC.newarr (atype := .int) (a0 := (tn, .inl (fun _ => 0))) (N := tn) (ty := .int) 0 hC jw_arr.1 rfl rfl (fun _ => rfl) h1 h2 h3 (by rw [hR]; exact ⟨Nat.le_refl _, Nat.le_of_eq (Nat.zero_add _)⟩) (show decode cX4_init 27 = .ok (.newarray .int, 2) by decide +kernel) (fun q0 => ?_)
  show VC _ _ _ _ _ _ _ _ _ _ _ _ _ _ _ _ ((h0, .inr (4, [.int tm, .int tc, .null, .int 0])) :: [(q0, .inl (cA 0, tn, .inl (fun _ => 0)))]) 29 [(0, .ref h0), (1, .int tm), (2, .int tc)] [.ref q0, .ref h0]
  refine VC.putF (j := 2) (ci := 4) (fs' := [.int tm, .int tc, .ref q0, .int 0]) (ty := tyN 4 2) hC hin (aw_of (i := 122) (by decide +kernel) (by decide +kernel)) (by decide) (by decide) rfl rfl (tyN_ok 4 (by decide) 2 (by decide)) rfl rfl (Nat.le_of_ble_eq_true rfl) rfl (show decode cX4_init 29 = .ok (.putfield 25, 3) by decide +kernel) ?_
  refine VC.widen (k := 1) (n := tn) (Nat.le_refl _) (by omega) ?_
  exact VC.vret hC hr hlocks ⟨q0, rfl⟩ (show decode cX4_init 32 = .ok (.return_, 1) by decide +kernel)
set_option maxHeartbeats 4000000 in
theorem kc_0 (l : Launch) : KC l yX0_init cX0_init 1 2 37 6 676 [] (.inr (0, [.int 0, .int 0, .int 0, .null, .null, .null])) (fun cA h0 w => ∃ q1 q2 q3 q4 q5 q6, w = gmW cA h0 q1 q2 q3 q4 q5 q6) := by
  refine KC.intro (ow := 0) (by decide +kernel) rfl rfl (fun h0 => Nat.le_of_ble_eq_true rfl) ?_
  intro p e R s m args below meth c D cA A h0 hC hao hR hr hlocks hin
  show VC _ _ _ _ _ _ _ _ _ _ _ _ _ _ _ _ ((h0, .inr (0, [.int 0, .int 0, .int 0, .null, .null, .null])) :: []) 0 [(0, .ref h0)] []
  refine VC.aload_n 0 hC (show decode cX0_init 0 = .ok (.aload_n 0, 1) by decide +kernel) rfl rfl ?_
  refine VC.objInit hC (aw_of (i := 110) (by decide +kernel) (by decide +kernel)) (show decode cX0_init 1 = .ok (.invokespecial 3, 3) by decide +kernel) (by rw [hR]; exact Nat.le_of_ble_eq_true rfl) (by rw [hR]; exact Nat.le_of_ble_eq_true rfl) ?_
  refine VC.aload_n 0 hC (show decode cX0_init 4 = .ok (.aload_n 0, 1) by decide +kernel) rfl rfl ?_
  refine VC.bipush (v := 10) hC (show decode cX0_init 5 = .ok (.bipush 10, 2) by decide +kernel) (by decide) ?_
  refine VC.put (j := 0) (ci := 0) (fs' := [.int 10, .int 0, .int 0, .null, .null, .null]) (ty := tyN 0 0) hC (by decide +kernel) rfl (tyN_ok 0 (by decide) 0 (by decide)) rfl rfl (Nat.le_of_ble_eq_true rfl) rfl (show decode cX0_init 7 = .ok (.putfield 9, 3) by decide +kernel) ?_
  refine VC.aload_n 0 hC (show decode cX0_init 10 = .ok (.aload_n 0, 1) by decide +kernel) rfl rfl ?_
  refine VC.iconst (v := 3) hC (show decode cX0_init 11 = .ok (.iconst 3, 1) by decide +kernel) (by decide) ?_
  refine VC.put (j := 1) (ci := 0) (fs' := [.int 10, .int 3, .int 0, .null, .null, .null]) (ty := tyN 0 1) hC (by decide +kernel) rfl (tyN_ok 0 (by decide) 1 (by decide)) rfl rfl (Nat.le_of_ble_eq_true rfl) rfl (show decode cX0_init 12 = .ok (.putfield 15, 3) by decide +kernel) ?_
  refine VC.aload_n 0 hC (show decode cX0_init 15 = .ok (.aload_n 0, 1) by decide +kernel) rfl rfl ?_
  refine VC.iconst (v := 1) hC (show decode cX0_init 16 = .ok (.iconst 1, 1) by decide +kernel) (by decide) ?_
  refine VC.put (j := 2) (ci := 0) (fs' := [.int 10, .int 3, .int 1, .null, .null, .null]) (ty := tyN 0 2) hC (by decide +kernel) rfl (tyN_ok 0 (by decide) 2 (by decide)) rfl rfl (Nat.le_of_ble_eq_true rfl) rfl (show decode cX0_init 17 = .ok (.putfield 18, 3) by decide +kernel) ?_
  refine VC.aload_n 0 hC (show decode cX0_init 20 = .ok (.aload_n 0, 1) by decide +kernel) rfl rfl ?_
  refine VC.new (ci := 4) (fs := [.int 0, .int 0, .null, .int 0]) hC (by decide) (aw_of (i := 111) (by decide +kernel) (by decide +kernel)) (aw_of (i := 112) (by decide +kernel) (by decide +kernel)) (aw_of (i := 84) (by decide +kernel) (by decide +kernel)) (by decide) (by rw [hR]; exact ⟨Nat.le_of_ble_eq_true rfl, Nat.le_of_ble_eq_true rfl⟩) (show decode cX0_init 21 = .ok (.new 21, 3) by decide +kernel) (fun q0 => ?_)
  refine VC.dup hC (show decode cX0_init 24 = .ok (.dup, 1) by decide +kernel) rfl ?_
  refine VC.bipush (v := 8) hC (show decode cX0_init 25 = .ok (.bipush 8, 2) by decide +kernel) (by decide) ?_
  refine VC.iconst (v := 3) hC (show decode cX0_init 27 = .ok (.iconst 3, 1) by decide +kernel) (by decide) ?_
  show VC _ _ _ _ _ _ _ _ _ _ _ _ _ _ _ _ (((h0, .inr (0, [.int 10, .int 3, .int 1, .null, .null, .null])) :: []) ++ [(q0, .inr (4, [.int 0, .int 0, .null, .int 0]))]) 28 [(0, .ref h0)] [.int 3, .int 8, .ref q0, .ref q0, .ref h0]
  refine VC.init (n := 2) (as := [.int 8, .int 3]) (rest := [.ref q0, .ref h0]) hC hao (kc_4 l (tm := 8) (tc := 3) (tn := 24) (by decide) (by decide) (by decide)) (Or.inr (nw_of (i := 113) (by decide +kernel) (by decide +kernel))) (aw_of (i := 114) (by decide +kernel) (by decide +kernel)) (aw_of (i := 84) (by decide +kernel) (by decide +kernel)) (aw_of (i := 115) (by decide +kernel) (by decide +kernel)) ⟨by decide +kernel, by decide +kernel⟩ (by decide +kernel) rfl rfl (by rw [hR]; exact Nat.le_of_ble_eq_true rfl) (by rw [hR]; exact Nat.le_of_ble_eq_true rfl) (by rw [hR]; exact ⟨Nat.le_of_ble_eq_true rfl, Nat.le_of_ble_eq_true rfl⟩) (Nat.le_of_ble_eq_true rfl) (show decode cX0_init 28 = .ok (.invokespecial 23, 3) by decide +kernel) (fun w1 hw1 => ?_)
  obtain ⟨q1, rfl⟩ := hw1
  show VC _ _ _ _ _ _ _ _ _ _ _ _ _ _ _ _ ((h0, .inr (0, [.int 10, .int 3, .int 1, .null, .null, .null])) :: tbW cA 8 3 24 q0 q1) 31 [(0, .ref h0)] [.ref q0, .ref h0]
  refine VC.putF (j := 3) (ci := 0) (fs' := [.int 10, .int 3, .int 1, .ref q0, .null, .null]) (ty := tyN 0 3) hC hin (aw_of (i := 142) (by decide +kernel) (by decide +kernel)) (by decide) (by decide) rfl rfl (tyN_ok 0 (by decide) 3 (by decide)) rfl rfl (Nat.le_of_ble_eq_true rfl) rfl (show decode cX0_init 31 = .ok (.putfield 26, 3) by decide +kernel) ?_
  refine VC.aload_n 0 hC (show decode cX0_init 34 = .ok (.aload_n 0, 1) by decide +kernel) rfl rfl ?_
  refine VC.new (ci := 4) (fs := [.int 0, .int 0, .null, .int 0]) hC (by decide) (aw_of (i := 111) (by decide +kernel) (by decide +kernel)) (aw_of (i := 112) (by decide +kernel) (by decide +kernel)) (aw_of (i := 84) (by decide +kernel) (by decide +kernel)) (by decide) (by rw [hR]; exact ⟨Nat.le_of_ble_eq_true rfl, Nat.le_of_ble_eq_true rfl⟩) (show decode cX0_init 35 = .ok (.new 21, 3) by decide +kernel) (fun q2 => ?_)
  refine VC.dup hC (show decode cX0_init 38 = .ok (.dup, 1) by decide +kernel) rfl ?_
  refine VC.bipush (v := 8) hC (show decode cX0_init 39 = .ok (.bipush 8, 2) by decide +kernel) (by decide) ?_
  refine VC.iconst (v := 5) hC (show decode cX0_init 41 = .ok (.iconst 5, 1) by decide +kernel) (by decide) ?_
  show VC _ _ _ _ _ _ _ _ _ _ _ _ _ _ _ _ (((h0, .inr (0, [.int 10, .int 3, .int 1, .ref q0, .null, .null])) :: tbW cA 8 3 24 q0 q1) ++ [(q2, .inr (4, [.int 0, .int 0, .null, .int 0]))]) 42 [(0, .ref h0)] [.int 5, .int 8, .ref q2, .ref q2, .ref h0]
  refine VC.init (n := 2) (as := [.int 8, .int 5]) (rest := [.ref q2, .ref h0]) hC hao (kc_4 l (tm := 8) (tc := 5) (tn := 40) (by decide) (by decide) (by decide)) (Or.inr (nw_of (i := 113) (by decide +kernel) (by decide +kernel))) (aw_of (i := 114) (by decide +kernel) (by decide +kernel)) (aw_of (i := 84) (by decide +kernel) (by decide +kernel)) (aw_of (i := 115) (by decide +kernel) (by decide +kernel)) ⟨by decide +kernel, by decide +kernel⟩ (by decide +kernel) rfl rfl (by rw [hR]; exact Nat.le_of_ble_eq_true rfl) (by rw [hR]; exact Nat.le_of_ble_eq_true rfl) (by rw [hR]; exact ⟨Nat.le_of_ble_eq_true rfl, Nat.le_of_ble_eq_true rfl⟩) (Nat.le_of_ble_eq_true rfl) (show decode cX0_init 42 = .ok (.invokespecial 23, 3) by decide +kernel) (fun w1 hw1 => ?_)
  obtain ⟨q3, rfl⟩ := hw1
  show VC _ _ _ _ _ _ _ _ _ _ _ _ _ _ _ _ ((h0, .inr (0, [.int 10, .int 3, .int 1, .ref q0, .null, .null])) :: (tbW cA 8 3 24 q0 q1 ++ tbW cA 8 5 40 q2 q3)) 45 [(0, .ref h0)] [.ref q2, .ref h0]
  refine VC.putF (j := 4) (ci := 0) (fs' := [.int 10, .int 3, .int 1, .ref q0, .ref q2, .null]) (ty := tyN 0 4) hC hin (aw_of (i := 144) (by decide +kernel) (by decide +kernel)) (by decide) (by decide) rfl rfl (tyN_ok 0 (by decide) 4 (by decide)) rfl rfl (Nat.le_of_ble_eq_true rfl) rfl (show decode cX0_init 45 = .ok (.putfield 30, 3) by decide +kernel) ?_
  refine VC.aload_n 0 hC (show decode cX0_init 48 = .ok (.aload_n 0, 1) by decide +kernel) rfl rfl ?_
  refine VC.new (ci := 4) (fs := [.int 0, .int 0, .null, .int 0]) hC (by decide) (aw_of (i := 111) (by decide +kernel) (by decide +kernel)) (aw_of (i := 112) (by decide +kernel) (by decide +kernel)) (aw_of (i := 84) (by decide +kernel) (by decide +kernel)) (by decide) (by rw [hR]; exact ⟨Nat.le_of_ble_eq_true rfl, Nat.le_of_ble_eq_true rfl⟩) (show decode cX0_init 49 = .ok (.new 21, 3) by decide +kernel) (fun q4 => ?_)
  refine VC.dup hC (show decode cX0_init 52 = .ok (.dup, 1) by decide +kernel) rfl ?_
  refine VC.bipush (v := 100) hC (show decode cX0_init 53 = .ok (.bipush 100, 2) by decide +kernel) (by decide) ?_
  refine VC.bipush (v := 6) hC (show decode cX0_init 55 = .ok (.bipush 6, 2) by decide +kernel) (by decide) ?_
  show VC _ _ _ _ _ _ _ _ _ _ _ _ _ _ _ _ (((h0, .inr (0, [.int 10, .int 3, .int 1, .ref q0, .ref q2, .null])) :: (tbW cA 8 3 24 q0 q1 ++ tbW cA 8 5 40 q2 q3)) ++ [(q4, .inr (4, [.int 0, .int 0, .null, .int 0]))]) 57 [(0, .ref h0)] [.int 6, .int 100, .ref q4, .ref q4, .ref h0]
  refine VC.init (n := 2) (as := [.int 100, .int 6]) (rest := [.ref q4, .ref h0]) hC hao (kc_4 l (tm := 100) (tc := 6) (tn := 600) (by decide) (by decide) (by decide)) (Or.inr (nw_of (i := 113) (by decide +kernel) (by decide +kernel))) (aw_of (i := 114) (by decide +kernel) (by decide +kernel)) (aw_of (i := 84) (by decide +kernel) (by decide +kernel)) (aw_of (i := 115) (by decide +kernel) (by decide +kernel)) ⟨by decide +kernel, by decide +kernel⟩ (by decide +kernel) rfl rfl (by rw [hR]; exact Nat.le_of_ble_eq_true rfl) (by rw [hR]; exact Nat.le_of_ble_eq_true rfl) (by rw [hR]; exact ⟨Nat.le_of_ble_eq_true rfl, Nat.le_of_ble_eq_true rfl⟩) (Nat.le_of_ble_eq_true rfl) (show decode cX0_init 57 = .ok (.invokespecial 23, 3) by decide +kernel) (fun w1 hw1 => ?_)
  obtain ⟨q5, rfl⟩ := hw1
  show VC _ _ _ _ _ _ _ _ _ _ _ _ _ _ _ _ ((h0, .inr (0, [.int 10, .int 3, .int 1, .ref q0, .ref q2, .null])) :: ((tbW cA 8 3 24 q0 q1 ++ tbW cA 8 5 40 q2 q3) ++ tbW cA 100 6 600 q4 q5)) 60 [(0, .ref h0)] [.ref q4, .ref h0]
  refine VC.putF (j := 5) (ci := 0) (fs' := [.int 10, .int 3, .int 1, .ref q0, .ref q2, .ref q4]) (ty := tyN 0 5) hC hin (aw_of (i := 146) (by decide +kernel) (by decide +kernel)) (by decide) (by decide) rfl rfl (tyN_ok 0 (by decide) 5 (by decide)) rfl rfl (Nat.le_of_ble_eq_true rfl) rfl (show decode cX0_init 60 = .ok (.putfield 33, 3) by decide +kernel) ?_
  exact VC.vret hC hr hlocks ⟨_, _, _, _, _, _, rfl⟩ (show decode cX0_init 63 = .ok (.return_, 1) by decide +kernel)
set_option maxHeartbeats 4000000 in
theorem kc_1 (l : Launch) : KC l yX1_init cX1_init 1 1 12 0 0 [] (.inr (1, [.int 0, .int 0, .int 0, .int 0, .int 0, .int 0, .int 0, .int 0, .int 0, .int 0, .int 0, .int 0, .int 0, .int 0, .int 0, .int 0])) (fun cA h0 w => w = [(h0, meE)]) := by
  refine KC.intro (ow := 1) (by decide +kernel) rfl rfl (fun h0 => Nat.le_of_ble_eq_true rfl) ?_
  intro p e R s m args below meth c D cA A h0 hC hao hR hr hlocks hin
  show VC _ _ _ _ _ _ _ _ _ _ _ _ _ _ _ _ ((h0, .inr (1, [.int 0, .int 0, .int 0, .int 0, .int 0, .int 0, .int 0, .int 0, .int 0, .int 0, .int 0, .int 0, .int 0, .int 0, .int 0, .int 0])) :: []) 0 [(0, .ref h0)] []
  refine VC.aload_n 0 hC (show decode cX1_init 0 = .ok (.aload_n 0, 1) by decide +kernel) rfl rfl ?_
  refine VC.objInit hC (aw_of (i := 166) (by decide +kernel) (by decide +kernel)) (show decode cX1_init 1 = .ok (.invokespecial 3, 3) by decide +kernel) (by rw [hR]; exact Nat.le_of_ble_eq_true rfl) (by rw [hR]; exact Nat.le_of_ble_eq_true rfl) ?_
  exact VC.vret hC hr hlocks rfl (show decode cX1_init 4 = .ok (.return_, 1) by decide +kernel)
set_option maxHeartbeats 4000000 in
theorem kc_2 (l : Launch) : KC l yX2_init cX2_init 1 2 37 2 208 [] (.inr (2, [.null, .int 0])) (fun cA h0 w => ∃ q1 q2, w = scW cA h0 q1 q2) := by
  refine KC.intro (ow := 2) (by decide +kernel) rfl rfl (fun h0 => Nat.le_of_ble_eq_true rfl) ?_
  intro p e R s m args below meth c D cA A h0 hC hao hR hr hlocks hin
  show VC _ _ _ _ _ _ _ _ _ _ _ _ _ _ _ _ ((h0, .inr (2, [.null, .int 0])) :: []) 0 [(0, .ref h0)] []
  refine VC.aload_n 0 hC (show decode cX2_init 0 = .ok (.aload_n 0, 1) by decide +kernel) rfl rfl ?_
  refine VC.objInit hC (aw_of (i := 237) (by decide +kernel) (by decide +kernel)) (show decode cX2_init 1 = .ok (.invokespecial 3, 3) by decide +kernel) (by rw [hR]; exact Nat.le_of_ble_eq_true rfl) (by rw [hR]; exact Nat.le_of_ble_eq_true rfl) ?_
  refine VC.aload_n 0 hC (show decode cX2_init 4 = .ok (.aload_n 0, 1) by decide +kernel) rfl rfl ?_
  refine VC.new (ci := 4) (fs := [.int 0, .int 0, .null, .int 0]) hC (by decide) (aw_of (i := 238) (by decide +kernel) (by decide +kernel)) (aw_of (i := 112) (by decide +kernel) (by decide +kernel)) (aw_of (i := 84) (by decide +kernel) (by decide +kernel)) (by decide) (by rw [hR]; exact ⟨Nat.le_of_ble_eq_true rfl, Nat.le_of_ble_eq_true rfl⟩) (show decode cX2_init 5 = .ok (.new 9, 3) by decide +kernel) (fun q0 => ?_)
  refine VC.dup hC (show decode cX2_init 8 = .ok (.dup, 1) by decide +kernel) rfl ?_
  refine VC.bipush (v := 34) hC (show decode cX2_init 9 = .ok (.bipush 34, 2) by decide +kernel) (by decide) ?_
  refine VC.bipush (v := 6) hC (show decode cX2_init 11 = .ok (.bipush 6, 2) by decide +kernel) (by decide) ?_
  show VC _ _ _ _ _ _ _ _ _ _ _ _ _ _ _ _ (((h0, .inr (2, [.null, .int 0])) :: []) ++ [(q0, .inr (4, [.int 0, .int 0, .null, .int 0]))]) 13 [(0, .ref h0)] [.int 6, .int 34, .ref q0, .ref q0, .ref h0]
  refine VC.init (n := 2) (as := [.int 34, .int 6]) (rest := [.ref q0, .ref h0]) hC hao (kc_4 l (tm := 34) (tc := 6) (tn := 204) (by decide) (by decide) (by decide)) (Or.inr (nw_of (i := 239) (by decide +kernel) (by decide +kernel))) (aw_of (i := 114) (by decide +kernel) (by decide +kernel)) (aw_of (i := 84) (by decide +kernel) (by decide +kernel)) (aw_of (i := 115) (by decide +kernel) (by decide +kernel)) ⟨by decide +kernel, by decide +kernel⟩ (by decide +kernel) rfl rfl (by rw [hR]; exact Nat.le_of_ble_eq_true rfl) (by rw [hR]; exact Nat.le_of_ble_eq_true rfl) (by rw [hR]; exact ⟨Nat.le_of_ble_eq_true rfl, Nat.le_of_ble_eq_true rfl⟩) (Nat.le_of_ble_eq_true rfl) (show decode cX2_init 13 = .ok (.invokespecial 11, 3) by decide +kernel) (fun w1 hw1 => ?_)
  obtain ⟨q1, rfl⟩ := hw1
  show VC _ _ _ _ _ _ _ _ _ _ _ _ _ _ _ _ ((h0, .inr (2, [.null, .int 0])) :: tbW cA 34 6 204 q0 q1) 16 [(0, .ref h0)] [.ref q0, .ref h0]
  refine VC.putF (j := 0) (ci := 2) (fs' := [.ref q0, .int 0]) (ty := tyN 2 0) hC hin (aw_of (i := 240) (by decide +kernel) (by decide +kernel)) (by decide) (by decide) rfl rfl (tyN_ok 2 (by decide) 0 (by decide)) rfl rfl (Nat.le_of_ble_eq_true rfl) rfl (show decode cX2_init 16 = .ok (.putfield 14, 3) by decide +kernel) ?_
  exact VC.vret hC hr hlocks ⟨_, _, rfl⟩ (show decode cX2_init 19 = .ok (.return_, 1) by decide +kernel)
set_option maxHeartbeats 4000000 in
theorem kc_3 (l : Launch) : KC l yX3_init cX3_init 1 1 12 1 100 [] (.inr (3, [.int 0, .int 0, .int 0, .int 0, .int 0, .int 0, .int 0, .null])) (fun cA h0 w => ∃ q1, w = shW cA h0 q1) := by
  refine KC.intro (ow := 3) (by decide +kernel) rfl rfl (fun h0 => Nat.le_of_ble_eq_true rfl) ?_
  intro p e R s m args below meth c D cA A h0 hC hao hR hr hlocks hin
  show VC _ _ _ _ _ _ _ _ _ _ _ _ _ _ _ _ ((h0, .inr (3, [.int 0, .int 0, .int 0, .int 0, .int 0, .int 0, .int 0, .null])) :: []) 0 [(0, .ref h0)] []
  refine VC.aload_n 0 hC (show decode cX3_init 0 = .ok (.aload_n 0, 1) by decide +kernel) rfl rfl ?_
  refine VC.objInit hC (aw_of (i := 255) (by decide +kernel) (by decide +kernel)) (show decode cX3_init 1 = .ok (.invokespecial 3, 3) by decide +kernel) (by rw [hR]; exact Nat.le_of_ble_eq_true rfl) (by rw [hR]; exact Nat.le_of_ble_eq_true rfl) ?_
  refine VC.aload_n 0 hC (show decode cX3_init 4 = .ok (.aload_n 0, 1) by decide +kernel) rfl rfl ?_
  refine VC.iconst (v := 0) hC (show decode cX3_init 5 = .ok (.iconst 0, 1) by decide +kernel) (by decide) ?_
  refine VC.put (j := 0) (ci := 3) (fs' := [.int 0, .int 0, .int 0, .int 0, .int 0, .int 0, .int 0, .null]) (ty := tyN 3 0) hC (by decide +kernel) rfl (tyN_ok 3 (by decide) 0 (by decide)) rfl rfl (Nat.le_of_ble_eq_true rfl) rfl (show decode cX3_init 6 = .ok (.putfield 9, 3) by decide +kernel) ?_
  refine VC.aload_n 0 hC (show decode cX3_init 9 = .ok (.aload_n 0, 1) by decide +kernel) rfl rfl ?_
  refine VC.bipush (v := 100) hC (show decode cX3_init 10 = .ok (.bipush 100, 2) by decide +kernel) (by decide) ?_
  refine VC.newarr (atype := .int) (a0 := (100, .inl (fun _ => 0))) (N := 100) (ty := .int) 0 hC jw_arr.1 rfl rfl (fun _ => rfl) (by decide) (by decide) (by decide) (by rw [hR]; exact ⟨Nat.le_of_ble_eq_true rfl, Nat.le_of_ble_eq_true rfl⟩) (show decode cX3_init 12 = .ok (.newarray .int, 2) by decide +kernel) (fun q0 => ?_)
  show VC _ _ _ _ _ _ _ _ _ _ _ _ _ _ _ _ ((h0, .inr (3, [.int 0, .int 0, .int 0, .int 0, .int 0, .int 0, .int 0, .null])) :: [(q0, .inl (cA 0, 100, .inl (fun _ => 0)))]) 14 [(0, .ref h0)] [.ref q0, .ref h0]
  refine VC.putF (j := 7) (ci := 3) (fs' := [.int 0, .int 0, .int 0, .int 0, .int 0, .int 0, .int 0, .ref q0]) (ty := tyN 3 7) hC hin (aw_of (i := 270) (by decide +kernel) (by decide +kernel)) (by decide) (by decide) rfl rfl (tyN_ok 3 (by decide) 7 (by decide)) rfl rfl (Nat.le_of_ble_eq_true rfl) rfl (show decode cX3_init 14 = .ok (.putfield 15, 3) by decide +kernel) ?_
  exact VC.vret hC hr hlocks ⟨_, rfl⟩ (show decode cX3_init 17 = .ok (.return_, 1) by decide +kernel)
