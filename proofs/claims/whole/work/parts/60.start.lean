section VCS
variable {p : Program} {l : Launch} {e : Env} {R : Room} {s : State} {m : MethodId} {args : Array Value} {below : List Frame} {meth : Method} {c : Code} {Q : State → Prop} {D : va_G} {cA : Nat → ClassId} {A : Nat → Prop} {nL ow cells slots pc : Nat} {cc : ByteArray} {ws : va_W} {lv lv' : List (Nat × Value)} {st : List Value}
theorem VC.astore_n {k : Fin 4} {i x : Nat} (hC : CT p s m args c D cA A nL ow cc) (hd : decode cc pc = .ok (.astore_n k, 1)) (hi : (k : Nat) = i) (hn : i < nL) (hl : (i, Value.ref x) :: lv.filter (fun q => !(q.1 == i) && !(q.1 + 1 == i && q.2.category == 2)) = lv')
    (kk : VC p l e R s m args below meth c Q D A nL cells slots ws (pc + 1) lv' st) : VC p l e R s m args below meth c Q D A nL cells slots ws pc lv (.ref x :: st) := by
  obtain ⟨hx, hb, -⟩ := hC
  intro H locs lsA hP hD hS hL
  exact lv_astore_n hx hb hd hi hL hn hl (fun ls2 h2 => kk H locs ls2 hP hD hS h2)
theorem VC.istore {i : Nat} {x : Int32} (hC : CT p s m args c D cA A nL ow cc) (hd : decode cc pc = .ok (.istore i, 2)) (hn : i < nL) (hl : (i, Value.int x) :: lv.filter (fun q => !(q.1 == i) && !(q.1 + 1 == i && q.2.category == 2)) = lv')
    (kk : VC p l e R s m args below meth c Q D A nL cells slots ws (pc + 2) lv' st) : VC p l e R s m args below meth c Q D A nL cells slots ws pc lv (.int x :: st) := by
  obtain ⟨hx, hb, -⟩ := hC
  intro H locs lsA hP hD hS hL
  exact lv_istore hx hb hd hL hn hl (fun ls2 h2 => kk H locs ls2 hP hD hS h2)
end VCS
theorem arr_known {s : State} {args : Array Value} {ty : FieldType} (hp : ∀ C, ty ≠ .object C) (h : (Jvm.Cond.arrayClass ty).before args s = true) : ∃ cA : ClassId, ArrOfT s cA ty ∧ va_RA s cA ty := by
  obtain ⟨c, k, comp, h1, h2, h3⟩ := Cond.arrayClass_spec h
  refine ⟨c, fun n z => ⟨fun k h => (by cases h), k, h2, comp, h3⟩, ?_⟩
  unfold va_RA
  split
  · next C => exact absurd rfl (hp C)
  · exact h1
theorem shelf_known {s : State} {args : Array Value} (h : (Jvm.Cond.arrayOver (.object "ThreeTimes$Shelf")).before args s = true) : ∃ cA : ClassId, ArrOfT s cA (.object "ThreeTimes$Shelf") ∧ va_RA s cA (.object "ThreeTimes$Shelf") := by
  obtain ⟨comp, c, k, h1, h2, h3, h4, h5⟩ := Cond.arrayOver_spec h
  exact ⟨c, fun n z => ⟨fun k h => (by cases h), k, h3, comp, h4⟩, k, comp, h3, h4, h1, h5⟩
theorem K_known {s : State} {args : Array Value} (hts : ∀ w ∈ lw_tbl, w.before args s = true) : ∃ (D : va_G) (cA : Nat → ClassId), KK D cA s := by
  have hts' : ∀ w ∈ AW, w.before args s = true := fun w hw => hts w (aw_in hw)
  obtain ⟨c0, i0, k0⟩ := u_known (C := RX0) (T := TX0) (N := 6) (n := 6) hts' (inAN 0 (by decide)) (hts' _ (aw_of (i := 106) (by decide +kernel) (by decide +kernel)))
  obtain ⟨c1, i1, k1⟩ := u_known (C := RX1) (T := TX1) (N := 16) (n := 16) hts' (inAN 1 (by decide)) (hts' _ (aw_of (i := 162) (by decide +kernel) (by decide +kernel)))
  obtain ⟨c2, i2, k2⟩ := u_known (C := RX2) (T := TX2) (N := 2) (n := 2) hts' (inAN 2 (by decide)) (hts' _ (aw_of (i := 233) (by decide +kernel) (by decide +kernel)))
  obtain ⟨c3, i3, k3⟩ := u_known (C := RX3) (T := TX3) (N := 8) (n := 8) hts' (inAN 3 (by decide)) (hts' _ (aw_of (i := 251) (by decide +kernel) (by decide +kernel)))
  obtain ⟨c4, i4, k4⟩ := u_known (C := RX4) (T := TX4) (N := 4) (n := 4) hts' (inAN 4 (by decide)) (hts' _ (aw_of (i := 112) (by decide +kernel) (by decide +kernel)))
  obtain ⟨c5, i5, k5⟩ := u_known (C := RX5) (T := TX5) (N := 6) (n := 6) hts' (inAN 5 (by decide)) (hts' _ (aw_of (i := 98) (by decide +kernel) (by decide +kernel)))
  obtain ⟨c6, i6, k6⟩ := u_known (C := RX6) (T := TX6) (N := 47) (n := 47) hts' (inAN 6 (by decide)) (hts' _ (aw_of (i := 802) (by decide +kernel) (by decide +kernel)))
  obtain ⟨a0, b0⟩ := arr_known (fun C h => by cases h) (hts' _ jw_arr.1)
  obtain ⟨a1, b1⟩ := arr_known (fun C h => by cases h) (hts' _ jw_arr.2.1)
  obtain ⟨a2, b2⟩ := arr_known (fun C h => by cases h) (hts' _ jw_arr.2.2)
  obtain ⟨a3, b3⟩ := shelf_known (hts _ (List.mem_of_getElem? (i := 250) (by decide +kernel)))
  refine ⟨(fun k => if k = 0 then c0 else if k = 1 then c1 else if k = 2 then c2 else if k = 3 then c3 else if k = 4 then c4 else if k = 5 then c5 else c6, fun k => if k = 0 then i0 else if k = 1 then i1 else if k = 2 then i2 else if k = 3 then i3 else if k = 4 then i4 else if k = 5 then i5 else i6), fun k => if k = 0 then a0 else if k = 1 then a1 else if k = 2 then a2 else a3, ⟨fun k q hq => ?_, fun k q hq => ?_⟩, fun w hw => va_Nw.of (nw_onTables hw) (hts w (List.mem_filter.mp hw).1)⟩
  · match k, hq with
    | 0, hq => cases hq; exact k0
    | 1, hq => cases hq; exact k1
    | 2, hq => cases hq; exact k2
    | 3, hq => cases hq; exact k3
    | 4, hq => cases hq; exact k4
    | 5, hq => cases hq; exact k5
    | 6, hq => cases hq; exact k6
    | k + 7, hq => simp [cl7] at hq
  · match k, hq with
    | 0, hq => cases hq; exact b0
    | 1, hq => cases hq; exact b1
    | 2, hq => cases hq; exact b2
    | 3, hq => cases hq; exact b3
    | k + 4, hq => simp [tysG] at hq
