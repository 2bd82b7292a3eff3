abbrev shs (cA : Nat → ClassId) (L : List (Nat × Nat)) : va_W := L.flatMap fun p => shW cA p.1 p.2
abbrev shA (cA : Nat → ClassId) (a : Nat) (f : Nat → Option Nat) : Nat × va_E := (a, .inl (cA 3, 8, .inr (.inr (.inr (.inr f)))))
abbrev shF (L : List (Nat × Nat)) : Nat → Option Nat := fun j => (L[j]?).map Prod.fst
theorem shF_push (L : List (Nat × Nat)) (v q : Nat) : va_up (shF L) L.length (some v) = shF (L ++ [(v, q)]) := by
  funext j
  unfold va_up
  by_cases h : j = L.length
  · subst h
    simp [shF]
  · rw [if_neg h]
    by_cases h2 : j < L.length
    · simp only [shF]
      rw [List.getElem?_append_left h2]
    · have h3 : L.length + 1 ≤ j := by omega
      simp only [shF]
      rw [List.getElem?_eq_none (show L.length ≤ j by omega), List.getElem?_eq_none (show (L ++ [(v, q)]).length ≤ j by simp; omega)]
section XIN
variable {p : Program} {l : Launch} {e : Env} {R : Room} {s : State} {m : MethodId} {args : Array Value} {below : List Frame} {meth : Method} {c : Code} {Q : State → Prop} {D : va_G} {cA : Nat → ClassId} {A : Nat → Prop} {nL ow cells slots pc : Nat} {cc : ByteArray} {x0 : Nat × va_E} {X1 X2 X3 : va_W} {lv : List (Nat × Value)} {rest : List Value}
theorem VC.alenX {a : Nat} {f : Nat → Option Nat} (hC : CT p s m args c D cA A nL ow cc) (hd : decode cc pc = .ok (.arraylength, 1))
    (kk : VC p l e R s m args below meth c Q D A nL cells slots (x0 :: ((X1 ++ [shA cA a f]) ++ X2)) (pc + 1) lv (.int 8 :: rest)) : VC p l e R s m args below meth c Q D A nL cells slots (x0 :: ((X1 ++ [shA cA a f]) ++ X2)) pc lv (.ref a :: rest) :=
  VC.alen (X1.length + 1) 3 (x := (8, .inr (.inr (.inr (.inr f))))) hC (by simp) rfl rfl hd kk
theorem VC.aastX {a v : Nat} {vs : List Value} {f : Nat → Option Nat} {i : Int32} (hC : CT p s m args c D cA A nL ow cc) (hin : vp_in i 8) (hd : decode cc pc = .ok (.aastore, 1))
    (kk : VC p l e R s m args below meth c Q D A nL cells slots (x0 :: ((X1 ++ [shA cA a (va_up f i.toNatClampNeg (some v))]) ++ (X2 ++ (v, .inr (3, vs)) :: X3))) (pc + 1) lv rest) : VC p l e R s m args below meth c Q D A nL cells slots (x0 :: ((X1 ++ [shA cA a f]) ++ (X2 ++ (v, .inr (3, vs)) :: X3))) pc lv (.ref v :: .int i :: .ref a :: rest) :=
  VC.aast (X1.length + 1) (X1.length + 1 + 1 + X2.length) (f := f) (n := 8) (vs := vs) hC (by simp) (by rw [show X1.length + 1 + 1 + X2.length = ((X1 ++ [shA cA a f]).length + X2.length) + 1 by simp; omega, List.getElem?_cons_succ, List.getElem?_append_right (by omega), Nat.add_sub_cancel_left, List.getElem?_append_right (Nat.le_refl _), Nat.sub_self]; rfl) hin (by simp) hd kk
end XIN
def xW (cA : Nat → ClassId) (a : Nat → Nat) (L : List (Nat × Nat)) : va_W := (((a 0), .inr (5, [.ref (a 1), .ref (a 2), .int 0, .ref (a 3), .ref (a 4), .ref (a 5)])) :: (((((gmW cA (a 1) (a 6) (a 7) (a 8) (a 9) (a 10) (a 11) ++ gmW cA (a 2) (a 12) (a 13) (a 14) (a 15) (a 16) (a 17)) ++ [((a 3), meE)]) ++ scW cA (a 4) (a 18) (a 19)) ++ [shA cA (a 5) (shF L)]) ++ shs cA L))
set_option maxHeartbeats 4000000 in
theorem kc_5 (l : Launch) : KC l yX5_init cX5_init 2 3 57 35 2462 [] (.inr (5, [.null, .null, .int 0, .null, .null, .null])) (fun cA h0 w => ∃ (a : Nat → Nat) (L : List (Nat × Nat)), a 0 = h0 ∧ L.length = 8 ∧ w = xW cA a L) := by
  refine KC.intro (ow := 5) (by decide +kernel) rfl rfl (fun h0 => Nat.le_of_ble_eq_true rfl) ?_
  intro p e R s m args below meth c D cA A h0 hC hao hR hr hlocks hin
  show VC _ _ _ _ _ _ _ _ _ _ _ _ _ _ _ _ ((h0, .inr (5, [.null, .null, .int 0, .null, .null, .null])) :: []) 0 [(0, .ref h0)] []
  refine VC.aload_n 0 hC (show decode cX5_init 0 = .ok (.aload_n 0, 1) by decide +kernel) rfl rfl ?_
  refine VC.objInit hC (aw_of (i := 102) (by decide +kernel) (by decide +kernel)) (show decode cX5_init 1 = .ok (.invokespecial 1, 3) by decide +kernel) (by rw [hR]; exact Nat.le_of_ble_eq_true rfl) (by rw [hR]; exact Nat.le_of_ble_eq_true rfl) ?_
  refine VC.aload_n 0 hC (show decode cX5_init 4 = .ok (.aload_n 0, 1) by decide +kernel) rfl rfl ?_
  refine VC.new (ci := 0) (fs := [.int 0, .int 0, .int 0, .null, .null, .null]) hC (by decide) (aw_of (i := 105) (by decide +kernel) (by decide +kernel)) (aw_of (i := 106) (by decide +kernel) (by decide +kernel)) (aw_of (i := 83) (by decide +kernel) (by decide +kernel)) (by decide) (by rw [hR]; exact ⟨Nat.le_of_ble_eq_true rfl, Nat.le_of_ble_eq_true rfl⟩) (show decode cX5_init 5 = .ok (.new 7, 3) by decide +kernel) (fun q0 => ?_)
  refine VC.dup hC (show decode cX5_init 8 = .ok (.dup, 1) by decide +kernel) rfl ?_
  show VC _ _ _ _ _ _ _ _ _ _ _ _ _ _ _ _ (((h0, .inr (5, [.null, .null, .int 0, .null, .null, .null])) :: []) ++ [(q0, .inr (0, [.int 0, .int 0, .int 0, .null, .null, .null]))]) 9 [(0, .ref h0)] [.ref q0, .ref q0, .ref h0]
  refine VC.init (n := 0) (as := []) (rest := [.ref q0, .ref h0]) hC hao (kc_0 l) (Or.inr (nw_of (i := 107) (by decide +kernel) (by decide +kernel))) (aw_of (i := 108) (by decide +kernel) (by decide +kernel)) (aw_of (i := 83) (by decide +kernel) (by decide +kernel)) (aw_of (i := 109) (by decide +kernel) (by decide +kernel)) ⟨by decide +kernel, by decide +kernel⟩ (by decide +kernel) rfl rfl (by rw [hR]; exact Nat.le_of_ble_eq_true rfl) (by rw [hR]; exact Nat.le_of_ble_eq_true rfl) (by rw [hR]; exact ⟨Nat.le_of_ble_eq_true rfl, Nat.le_of_ble_eq_true rfl⟩) (Nat.le_of_ble_eq_true rfl) (show decode cX5_init 9 = .ok (.invokespecial 9, 3) by decide +kernel) (fun w1 hw1 => ?_)
  obtain ⟨q1, q2, q3, q4, q5, q6, rfl⟩ := hw1
  show VC _ _ _ _ _ _ _ _ _ _ _ _ _ _ _ _ ((h0, .inr (5, [.null, .null, .int 0, .null, .null, .null])) :: gmW cA q0 q1 q2 q3 q4 q5 q6) 12 [(0, .ref h0)] [.ref q0, .ref h0]
  refine VC.putF (j := 0) (ci := 5) (fs' := [.ref q0, .null, .int 0, .null, .null, .null]) (ty := tyN 5 0) hC hin (aw_of (i := 289) (by decide +kernel) (by decide +kernel)) (by decide) (by decide) rfl rfl (tyN_ok 5 (by decide) 0 (by decide)) rfl rfl (Nat.le_of_ble_eq_true rfl) rfl (show decode cX5_init 12 = .ok (.putfield 10, 3) by decide +kernel) ?_
  refine VC.aload_n 0 hC (show decode cX5_init 15 = .ok (.aload_n 0, 1) by decide +kernel) rfl rfl ?_
  refine VC.new (ci := 0) (fs := [.int 0, .int 0, .int 0, .null, .null, .null]) hC (by decide) (aw_of (i := 105) (by decide +kernel) (by decide +kernel)) (aw_of (i := 106) (by decide +kernel) (by decide +kernel)) (aw_of (i := 83) (by decide +kernel) (by decide +kernel)) (by decide) (by rw [hR]; exact ⟨Nat.le_of_ble_eq_true rfl, Nat.le_of_ble_eq_true rfl⟩) (show decode cX5_init 16 = .ok (.new 7, 3) by decide +kernel) (fun q7 => ?_)
  refine VC.dup hC (show decode cX5_init 19 = .ok (.dup, 1) by decide +kernel) rfl ?_
  show VC _ _ _ _ _ _ _ _ _ _ _ _ _ _ _ _ (((h0, .inr (5, [.ref q0, .null, .int 0, .null, .null, .null])) :: gmW cA q0 q1 q2 q3 q4 q5 q6) ++ [(q7, .inr (0, [.int 0, .int 0, .int 0, .null, .null, .null]))]) 20 [(0, .ref h0)] [.ref q7, .ref q7, .ref h0]
  refine VC.init (n := 0) (as := []) (rest := [.ref q7, .ref h0]) hC hao (kc_0 l) (Or.inr (nw_of (i := 107) (by decide +kernel) (by decide +kernel))) (aw_of (i := 108) (by decide +kernel) (by decide +kernel)) (aw_of (i := 83) (by decide +kernel) (by decide +kernel)) (aw_of (i := 109) (by decide +kernel) (by decide +kernel)) ⟨by decide +kernel, by decide +kernel⟩ (by decide +kernel) rfl rfl (by rw [hR]; exact Nat.le_of_ble_eq_true rfl) (by rw [hR]; exact Nat.le_of_ble_eq_true rfl) (by rw [hR]; exact ⟨Nat.le_of_ble_eq_true rfl, Nat.le_of_ble_eq_true rfl⟩) (Nat.le_of_ble_eq_true rfl) (show decode cX5_init 20 = .ok (.invokespecial 9, 3) by decide +kernel) (fun w1 hw1 => ?_)
  obtain ⟨q8, q9, q10, q11, q12, q13, rfl⟩ := hw1
  show VC _ _ _ _ _ _ _ _ _ _ _ _ _ _ _ _ ((h0, .inr (5, [.ref q0, .null, .int 0, .null, .null, .null])) :: (gmW cA q0 q1 q2 q3 q4 q5 q6 ++ gmW cA q7 q8 q9 q10 q11 q12 q13)) 23 [(0, .ref h0)] [.ref q7, .ref h0]
  refine VC.putF (j := 1) (ci := 5) (fs' := [.ref q0, .ref q7, .int 0, .null, .null, .null]) (ty := tyN 5 1) hC hin (aw_of (i := 290) (by decide +kernel) (by decide +kernel)) (by decide) (by decide) rfl rfl (tyN_ok 5 (by decide) 1 (by decide)) rfl rfl (Nat.le_of_ble_eq_true rfl) rfl (show decode cX5_init 23 = .ok (.putfield 16, 3) by decide +kernel) ?_
  refine VC.aload_n 0 hC (show decode cX5_init 26 = .ok (.aload_n 0, 1) by decide +kernel) rfl rfl ?_
  refine VC.iconst (v := 0) hC (show decode cX5_init 27 = .ok (.iconst 0, 1) by decide +kernel) (by decide) ?_
  refine VC.put (j := 2) (ci := 5) (fs' := [.ref q0, .ref q7, .int 0, .null, .null, .null]) (ty := tyN 5 2) hC (by decide +kernel) rfl (tyN_ok 5 (by decide) 2 (by decide)) rfl rfl (Nat.le_of_ble_eq_true rfl) rfl (show decode cX5_init 28 = .ok (.putfield 19, 3) by decide +kernel) ?_
  refine VC.aload_n 0 hC (show decode cX5_init 31 = .ok (.aload_n 0, 1) by decide +kernel) rfl rfl ?_
  refine VC.new (ci := 1) (fs := [.int 0, .int 0, .int 0, .int 0, .int 0, .int 0, .int 0, .int 0, .int 0, .int 0, .int 0, .int 0, .int 0, .int 0, .int 0, .int 0]) hC (by decide) (aw_of (i := 161) (by decide +kernel) (by decide +kernel)) (aw_of (i := 162) (by decide +kernel) (by decide +kernel)) (aw_of (i := 86) (by decide +kernel) (by decide +kernel)) (by decide) (by rw [hR]; exact ⟨Nat.le_of_ble_eq_true rfl, Nat.le_of_ble_eq_true rfl⟩) (show decode cX5_init 32 = .ok (.new 23, 3) by decide +kernel) (fun q14 => ?_)
  refine VC.dup hC (show decode cX5_init 35 = .ok (.dup, 1) by decide +kernel) rfl ?_
  show VC _ _ _ _ _ _ _ _ _ _ _ _ _ _ _ _ (((h0, .inr (5, [.ref q0, .ref q7, .int 0, .null, .null, .null])) :: (gmW cA q0 q1 q2 q3 q4 q5 q6 ++ gmW cA q7 q8 q9 q10 q11 q12 q13)) ++ [(q14, .inr (1, [.int 0, .int 0, .int 0, .int 0, .int 0, .int 0, .int 0, .int 0, .int 0, .int 0, .int 0, .int 0, .int 0, .int 0, .int 0, .int 0]))]) 36 [(0, .ref h0)] [.ref q14, .ref q14, .ref h0]
  refine VC.init (n := 0) (as := []) (rest := [.ref q14, .ref h0]) hC hao (kc_1 l) (Or.inr (nw_of (i := 163) (by decide +kernel) (by decide +kernel))) (aw_of (i := 164) (by decide +kernel) (by decide +kernel)) (aw_of (i := 86) (by decide +kernel) (by decide +kernel)) (aw_of (i := 165) (by decide +kernel) (by decide +kernel)) ⟨by decide +kernel, by decide +kernel⟩ (by decide +kernel) rfl rfl (by rw [hR]; exact Nat.le_of_ble_eq_true rfl) (by rw [hR]; exact Nat.le_of_ble_eq_true rfl) (by rw [hR]; exact ⟨Nat.le_of_ble_eq_true rfl, Nat.le_of_ble_eq_true rfl⟩) (Nat.le_of_ble_eq_true rfl) (show decode cX5_init 36 = .ok (.invokespecial 25, 3) by decide +kernel) (fun w1 hw1 => ?_)
  subst hw1
  show VC _ _ _ _ _ _ _ _ _ _ _ _ _ _ _ _ ((h0, .inr (5, [.ref q0, .ref q7, .int 0, .null, .null, .null])) :: ((gmW cA q0 q1 q2 q3 q4 q5 q6 ++ gmW cA q7 q8 q9 q10 q11 q12 q13) ++ [(q14, meE)])) 39 [(0, .ref h0)] [.ref q14, .ref h0]
  refine VC.putF (j := 3) (ci := 5) (fs' := [.ref q0, .ref q7, .int 0, .ref q14, .null, .null]) (ty := tyN 5 3) hC hin (aw_of (i := 292) (by decide +kernel) (by decide +kernel)) (by decide) (by decide) rfl rfl (tyN_ok 5 (by decide) 3 (by decide)) rfl rfl (Nat.le_of_ble_eq_true rfl) rfl (show decode cX5_init 39 = .ok (.putfield 26, 3) by decide +kernel) ?_
  refine VC.aload_n 0 hC (show decode cX5_init 42 = .ok (.aload_n 0, 1) by decide +kernel) rfl rfl ?_
  refine VC.new (ci := 2) (fs := [.null, .int 0]) hC (by decide) (aw_of (i := 232) (by decide +kernel) (by decide +kernel)) (aw_of (i := 233) (by decide +kernel) (by decide +kernel)) (aw_of (i := 87) (by decide +kernel) (by decide +kernel)) (by decide) (by rw [hR]; exact ⟨Nat.le_of_ble_eq_true rfl, Nat.le_of_ble_eq_true rfl⟩) (show decode cX5_init 43 = .ok (.new 30, 3) by decide +kernel) (fun q15 => ?_)
  refine VC.dup hC (show decode cX5_init 46 = .ok (.dup, 1) by decide +kernel) rfl ?_
  show VC _ _ _ _ _ _ _ _ _ _ _ _ _ _ _ _ (((h0, .inr (5, [.ref q0, .ref q7, .int 0, .ref q14, .null, .null])) :: ((gmW cA q0 q1 q2 q3 q4 q5 q6 ++ gmW cA q7 q8 q9 q10 q11 q12 q13) ++ [(q14, meE)])) ++ [(q15, .inr (2, [.null, .int 0]))]) 47 [(0, .ref h0)] [.ref q15, .ref q15, .ref h0]
  refine VC.init (n := 0) (as := []) (rest := [.ref q15, .ref h0]) hC hao (kc_2 l) (Or.inr (nw_of (i := 234) (by decide +kernel) (by decide +kernel))) (aw_of (i := 235) (by decide +kernel) (by decide +kernel)) (aw_of (i := 87) (by decide +kernel) (by decide +kernel)) (aw_of (i := 236) (by decide +kernel) (by decide +kernel)) ⟨by decide +kernel, by decide +kernel⟩ (by decide +kernel) rfl rfl (by rw [hR]; exact Nat.le_of_ble_eq_true rfl) (by rw [hR]; exact Nat.le_of_ble_eq_true rfl) (by rw [hR]; exact ⟨Nat.le_of_ble_eq_true rfl, Nat.le_of_ble_eq_true rfl⟩) (Nat.le_of_ble_eq_true rfl) (show decode cX5_init 47 = .ok (.invokespecial 32, 3) by decide +kernel) (fun w1 hw1 => ?_)
  obtain ⟨q16, q17, rfl⟩ := hw1
  show VC _ _ _ _ _ _ _ _ _ _ _ _ _ _ _ _ ((h0, .inr (5, [.ref q0, .ref q7, .int 0, .ref q14, .null, .null])) :: (((gmW cA q0 q1 q2 q3 q4 q5 q6 ++ gmW cA q7 q8 q9 q10 q11 q12 q13) ++ [(q14, meE)]) ++ scW cA q15 q16 q17)) 50 [(0, .ref h0)] [.ref q15, .ref h0]
  refine VC.putF (j := 4) (ci := 5) (fs' := [.ref q0, .ref q7, .int 0, .ref q14, .ref q15, .null]) (ty := tyN 5 4) hC hin (aw_of (i := 293) (by decide +kernel) (by decide +kernel)) (by decide) (by decide) rfl rfl (tyN_ok 5 (by decide) 4 (by decide)) rfl rfl (Nat.le_of_ble_eq_true rfl) rfl (show decode cX5_init 50 = .ok (.putfield 33, 3) by decide +kernel) ?_
  refine VC.aload_n 0 hC (show decode cX5_init 53 = .ok (.aload_n 0, 1) by decide +kernel) rfl rfl ?_
  refine VC.bipush (v := 8) hC (show decode cX5_init 54 = .ok (.bipush 8, 2) by decide +kernel) (by decide) ?_
  refine VC.newsh (N := 8) hC (aw_of (i := 249) (by decide +kernel) (by decide +kernel)) hao (by decide) (by decide) (by decide) (by rw [hR]; exact ⟨Nat.le_of_ble_eq_true rfl, Nat.le_of_ble_eq_true rfl⟩) (show decode cX5_init 56 = .ok (.anewarray 37, 3) by decide +kernel) (fun q18 => ?_)
  show VC _ _ _ _ _ _ _ _ _ _ _ _ _ _ _ _ ((h0, .inr (5, [.ref q0, .ref q7, .int 0, .ref q14, .ref q15, .null])) :: ((((gmW cA q0 q1 q2 q3 q4 q5 q6 ++ gmW cA q7 q8 q9 q10 q11 q12 q13) ++ [(q14, meE)]) ++ scW cA q15 q16 q17) ++ [(q18, .inl (cA 3, 8, .inr (.inr (.inr (.inr (fun _ => none))))))])) 59 [(0, .ref h0)] [.ref q18, .ref h0]
  refine VC.putF (j := 5) (ci := 5) (fs' := [.ref q0, .ref q7, .int 0, .ref q14, .ref q15, .ref q18]) (ty := tyN 5 5) hC hin (aw_of (i := 294) (by decide +kernel) (by decide +kernel)) (by decide) (by decide) rfl rfl (tyN_ok 5 (by decide) 5 (by decide)) rfl rfl (Nat.le_of_ble_eq_true rfl) rfl (show decode cX5_init 59 = .ok (.putfield 39, 3) by decide +kernel) ?_
  refine VC.iconst (v := 0) hC (show decode cX5_init 62 = .ok (.iconst 0, 1) by decide +kernel) (by decide) ?_
  refine VC.istore_n (lv' := [(1, .int 0), (0, .ref h0)]) hC (show decode cX5_init 63 = .ok (.istore_n 1, 1) by decide +kernel) rfl (by decide) rfl ?_
  have hW : ∀ (n : Nat) (L : List (Nat × Nat)), L.length + n = 8 → VC p l e R s m args below meth c (MQ below (QC D A (fun w => ∃ (a : Nat → Nat) (L : List (Nat × Nat)), a 0 = h0 ∧ L.length = 8 ∧ w = xW cA a L)) args s 35 2462 A) D A 2 (19 + 2 * L.length) (1598 + 108 * L.length) ((h0, .inr (5, [.ref q0, .ref q7, .int 0, .ref q14, .ref q15, .ref q18])) :: (((((gmW cA q0 q1 q2 q3 q4 q5 q6 ++ gmW cA q7 q8 q9 q10 q11 q12 q13) ++ [(q14, meE)]) ++ scW cA q15 q16 q17) ++ [shA cA q18 (shF L)]) ++ shs cA L)) 64 [(1, .int (nI L.length)), (0, .ref h0)] [] := by
    intro n
    induction n with
    | zero =>
      intro L hL
      have h8 : L.length = 8 := by omega
      refine VC.iload_n 0 hC (show decode cX5_init 64 = .ok (.iload_n 1, 1) by decide +kernel) rfl rfl ?_
      refine VC.aload_n 1 hC (show decode cX5_init 65 = .ok (.aload_n 0, 1) by decide +kernel) rfl rfl ?_
      refine VC.get (j := 5) (ci := 5) hC (by decide +kernel) rfl (show decode cX5_init 66 = .ok (.getfield 39, 3) by decide +kernel) ?_
      refine VC.alenX hC (show decode cX5_init 69 = .ok (.arraylength, 1) by decide +kernel) ?_
      refine VC.icmp_ge (tgt := 92) hC (show decode cX5_init 70 = .ok (.if_icmp .ge 22, 3) by decide +kernel) (by decide) (fun _ => ?_) (fun h => absurd (by rw [h8]; decide) h)
      refine VC.widen (k := 35) (n := 2462) (by omega) (by omega) ?_
      exact VC.vret hC hr hlocks ⟨fun k => [h0, q0, q7, q14, q15, q18, q1, q2, q3, q4, q5, q6, q8, q9, q10, q11, q12, q13, q16, q17].getD k 0, L, rfl, h8, rfl⟩ (show decode cX5_init 92 = .ok (.return_, 1) by decide +kernel)
    | succ n ih =>
      intro L hL
      have h8 : L.length < 8 := by omega
      refine VC.iload_n 0 hC (show decode cX5_init 64 = .ok (.iload_n 1, 1) by decide +kernel) rfl rfl ?_
      refine VC.aload_n 1 hC (show decode cX5_init 65 = .ok (.aload_n 0, 1) by decide +kernel) rfl rfl ?_
      refine VC.get (j := 5) (ci := 5) hC (by decide +kernel) rfl (show decode cX5_init 66 = .ok (.getfield 39, 3) by decide +kernel) ?_
      refine VC.alenX hC (show decode cX5_init 69 = .ok (.arraylength, 1) by decide +kernel) ?_
      refine VC.icmp_ge (tgt := 92) hC (show decode cX5_init 70 = .ok (.if_icmp .ge 22, 3) by decide +kernel) (by decide) (fun h => absurd h (nI_ge (b := 8) h8 (by decide))) (fun _ => ?_)
      refine VC.aload_n 1 hC (show decode cX5_init 73 = .ok (.aload_n 0, 1) by decide +kernel) rfl rfl ?_
      refine VC.get (j := 5) (ci := 5) hC (by decide +kernel) rfl (show decode cX5_init 74 = .ok (.getfield 39, 3) by decide +kernel) ?_
      refine VC.iload_n 0 hC (show decode cX5_init 77 = .ok (.iload_n 1, 1) by decide +kernel) rfl rfl ?_
      refine VC.new (ci := 3) (fs := [.int 0, .int 0, .int 0, .int 0, .int 0, .int 0, .int 0, .null]) hC (by decide) (aw_of (i := 249) (by decide +kernel) (by decide +kernel)) (aw_of (i := 251) (by decide +kernel) (by decide +kernel)) (aw_of (i := 88) (by decide +kernel) (by decide +kernel)) (by decide) (by rw [hR]; exact ⟨by show _ ≤ 35; omega, by show _ + 8 ≤ 2462; omega⟩) (show decode cX5_init 78 = .ok (.new 37, 3) by decide +kernel) (fun v => ?_)
      refine VC.dup hC (show decode cX5_init 81 = .ok (.dup, 1) by decide +kernel) rfl ?_
      refine VC.init (n := 0) (as := []) (rest := [.ref v, .int (nI L.length), .ref q18]) hC hao (kc_3 l) (Or.inr (nw_of (i := 252) (by decide +kernel) (by decide +kernel))) (aw_of (i := 253) (by decide +kernel) (by decide +kernel)) (aw_of (i := 88) (by decide +kernel) (by decide +kernel)) (aw_of (i := 254) (by decide +kernel) (by decide +kernel)) ⟨by decide +kernel, by decide +kernel⟩ (by decide +kernel) rfl rfl (by rw [hR]; exact Nat.le_of_ble_eq_true rfl) (by rw [hR]; exact Nat.le_of_ble_eq_true rfl) (by rw [hR]; exact ⟨by show _ ≤ 35; omega, by show _ + 8 + 100 ≤ 2462; omega⟩) (Nat.le_of_ble_eq_true rfl) (show decode cX5_init 82 = .ok (.invokespecial 43, 3) by decide +kernel) (fun w1 hw1 => ?_)
      obtain ⟨q, rfl⟩ := hw1
      have hcat : (((h0, .inr (5, [.ref q0, .ref q7, .int 0, .ref q14, .ref q15, .ref q18])) :: (((((gmW cA q0 q1 q2 q3 q4 q5 q6 ++ gmW cA q7 q8 q9 q10 q11 q12 q13) ++ [(q14, meE)]) ++ scW cA q15 q16 q17) ++ [shA cA q18 (shF L)]) ++ shs cA L)) ++ shW cA v q) = (h0, .inr (5, [.ref q0, .ref q7, .int 0, .ref q14, .ref q15, .ref q18])) :: (((((gmW cA q0 q1 q2 q3 q4 q5 q6 ++ gmW cA q7 q8 q9 q10 q11 q12 q13) ++ [(q14, meE)]) ++ scW cA q15 q16 q17) ++ [shA cA q18 (shF L)]) ++ (shs cA L ++ (v, .inr (3, [.int 0, .int 0, .int 0, .int 0, .int 0, .int 0, .int 0, .ref q])) :: [(q, .inl (cA 0, 100, .inl (fun _ => 0)))])) := by simp
      rw [hcat]
      refine VC.aastX hC (vp_in_nI h8 (by decide)) (show decode cX5_init 85 = .ok (.aastore, 1) by decide +kernel) ?_
      refine VC.iinc (v := nI (L.length + 1)) (lv' := [(1, .int (nI (L.length + 1))), (0, .ref h0)]) (j := 0) hC (show decode cX5_init 86 = .ok (.iinc 1 1, 3) by decide +kernel) rfl (nI_1 _) (by decide) rfl ?_
      refine VC.goto (tgt := 64) hC (show decode cX5_init 89 = .ok (.goto (-25), 3) by decide +kernel) (by decide) ?_
      have h2 := ih (L ++ [(v, q)]) (by simp; omega)
      rw [nI_clamp (by omega), shF_push L v q]
      have e1 : shs cA (L ++ [(v, q)]) = shs cA L ++ (v, .inr (3, [.int 0, .int 0, .int 0, .int 0, .int 0, .int 0, .int 0, .ref q])) :: [(q, .inl (cA 0, 100, .inl (fun _ => 0)))] := by simp
      rw [e1] at h2
      have e2 : (L ++ [(v, q)]).length = L.length + 1 := by simp
      rw [e2] at h2
      refine VC.widen (k := 19 + 2 * (L.length + 1)) (n := 1598 + 108 * (L.length + 1)) (by omega) (by show _ + 8 + 100 ≤ _; omega) ?_
      exact h2
  have h2 := hW 8 [] rfl
  exact h2
