/-! Printed by wip/whole/prt.py: functions and walks. -/
def fX1_nameOfReturner_23 (t0 : Int32) (σ : ST) : Option Int32 :=
  some t0
set_option maxHeartbeats 4000000 in
theorem wX1_nameOfReturner_23 {l : Launch} {V : Nat → List (Option Value) → List Value → ST → Prop} {r : Int32} {σ : ST} {t0 : Int32} (hm : BM l 1 cX1_nameOfReturner 1 (some .int) 0 0 (some (.int r)) σ V) (hf : fX1_nameOfReturner_23 t0 σ = some r) : V 23 [none] [.int t0] σ := by
  have h := hm.bd
  unfold fX1_nameOfReturner_23 at hf
  obtain rfl := Option.some.inj hf
  exact hm.iret (by decide +kernel)
def fX1_nameOfReturner (σ : ST) : Option Int32 :=
  if (σ.1 3 11) ≤ 0 then
    fX1_nameOfReturner_23 (-1) σ
  else
    gd (decide (¬ (σ.1 3 11) = 0)) <|
    fX1_nameOfReturner_23 ((100 * (σ.1 3 12)) / (σ.1 3 11)) σ
set_option maxHeartbeats 4000000 in
theorem kmX1_nameOfReturner (l : Launch) {σ : ST} {r : Int32} (hf : fX1_nameOfReturner σ = some r) : KM l yX1_nameOfReturner cX1_nameOfReturner 1 (some .int) 0 0 [.ref 3] σ (some (.int r)) σ := by
  refine KM.intro (ow := 1) (by decide +kernel) rfl (Nat.le_of_ble_eq_true rfl) (fun V hm => ?_)
  show V 0 [some (.ref 3)] [] σ
  have h := hm.bd
  unfold fX1_nameOfReturner at hf
  refine h.run (o := [kd 3 = 1]) (ls' := [some (.ref 3)]) (st' := [.int (σ.1 3 11)]) (σ' := σ) [(.aload_n 0, 1, 0, 0, 0, 0), (.getfield 9, 3, 0, 0, 1, 11)] (pc2 := 4) (by decide +kernel) rfl (And.intro kd_3 trivial) ?_
  refine h.if_le (tgt := 22) (show decode cX1_nameOfReturner 4 = .ok (.ifCond .le 18, 3) by decide +kernel) (by decide) (fun c2 => ?_) (fun c2 => ?_)
  · rw [if_pos c2] at hf
    refine h.run (o := []) (ls' := [some (.ref 3)]) (st' := [.int (-1)]) (σ' := σ) [(.iconst (-1), 1, (-1), 0, 0, 0)] (pc2 := 23) (by decide +kernel) rfl trivial ?_
    refine h.drop (ls' := [none]) trivial ?_
    exact wX1_nameOfReturner_23 hm hf
  · rw [if_neg c2] at hf
    show V 7 [some (.ref 3)] [] σ
    obtain ⟨g1, hf⟩ := gd_some hf
    refine h.run (o := [kd 3 = 1, kd 3 = 1, ¬ (σ.1 3 11) = 0]) (ls' := [some (.ref 3)]) (st' := [.int ((100 * (σ.1 3 12)) / (σ.1 3 11))]) (σ' := σ) [(.bipush 100, 2, 100, 0, 0, 0), (.aload_n 0, 1, 0, 0, 0, 0), (.getfield 15, 3, 0, 0, 1, 12), (.imul, 1, 0, 0, 0, 0), (.aload_n 0, 1, 0, 0, 0, 0), (.getfield 9, 3, 0, 0, 1, 11), (.idiv, 1, 0, 0, 0, 0), (.goto 4, 3, 0, 0, 0, 23)] (pc2 := 23) (by decide +kernel) rfl (And.intro kd_3 (And.intro kd_3 (And.intro (of_decide_eq_true g1) trivial))) ?_
    refine h.drop (ls' := [none]) trivial ?_
    exact wX1_nameOfReturner_23 hm hf
def fX1_draw (σ : ST) : Option (Int32 × ST) :=
  some (((((setI σ 3 2 (((σ.1 3 2) * 1103515245) + 12345)).1 3 2) &&& 2147483647) / 65536) - ((((setI σ 3 2 (((σ.1 3 2) * 1103515245) + 12345)).1 3 2) &&& 2147483647) / 65536) / 100 * 100, setI σ 3 2 (((σ.1 3 2) * 1103515245) + 12345))
set_option maxHeartbeats 4000000 in
theorem kmX1_draw (l : Launch) {σ : ST} {r : Int32} {τ : ST} (hf : fX1_draw σ = some (r, τ)) : KM l yX1_draw cX1_draw 1 (some .int) 0 0 [.ref 3] σ (some (.int r)) τ := by
  refine KM.intro (ow := 1) (by decide +kernel) rfl (Nat.le_of_ble_eq_true rfl) (fun V hm => ?_)
  show V 0 [some (.ref 3)] [] σ
  have h := hm.bd
  unfold fX1_draw at hf
  refine h.run (o := [kd 3 = 1, kd 3 = 1, kd 3 = 1, ¬ 65536 = 0, ¬ 100 = 0]) (ls' := [some (.ref 3)]) (st' := [.int (((((setI σ 3 2 (((σ.1 3 2) * 1103515245) + 12345)).1 3 2) &&& 2147483647) / 65536) - ((((setI σ 3 2 (((σ.1 3 2) * 1103515245) + 12345)).1 3 2) &&& 2147483647) / 65536) / 100 * 100)]) (σ' := setI σ 3 2 (((σ.1 3 2) * 1103515245) + 12345)) [(.aload_n 0, 1, 0, 0, 0, 0), (.aload_n 0, 1, 0, 0, 0, 0), (.getfield 18, 3, 0, 0, 1, 2), (.ldc 21, 2, 1103515245, 0, 0, 0), (.imul, 1, 0, 0, 0, 0), (.sipush 12345, 3, 12345, 0, 0, 0), (.iadd, 1, 0, 0, 0, 0), (.putfield 18, 3, 0, 0, 1, 2), (.aload_n 0, 1, 0, 0, 0, 0), (.getfield 18, 3, 0, 0, 1, 2), (.ldc 22, 2, 2147483647, 0, 0, 0), (.iand, 1, 0, 0, 0, 0), (.ldc 23, 2, 65536, 0, 0, 0), (.idiv, 1, 0, 0, 0, 0), (.bipush 100, 2, 100, 0, 0, 0), (.irem, 1, 0, 0, 0, 0)] (pc2 := 28) (by decide +kernel) rfl (And.intro kd_3 (And.intro kd_3 (And.intro kd_3 (And.intro (by decide) (And.intro (by decide) trivial))))) ?_
  obtain ⟨rfl, rfl⟩ := Prod.mk.inj (Option.some.inj hf)
  exact hm.iret (by decide +kernel)
def fX1_allIfHeld_19 (t0 : Int32) (σ : ST) : Option Int32 :=
  some t0
set_option maxHeartbeats 4000000 in
theorem wX1_allIfHeld_19 {l : Launch} {V : Nat → List (Option Value) → List Value → ST → Prop} {r : Int32} {σ : ST} {t0 : Int32} (hm : BM l 1 cX1_allIfHeld 2 (some .int) 0 0 (some (.int r)) σ V) (hf : fX1_allIfHeld_19 t0 σ = some r) : V 19 [none, none] [.int t0] σ := by
  have h := hm.bd
  unfold fX1_allIfHeld_19 at hf
  obtain rfl := Option.some.inj hf
  exact hm.iret (by decide +kernel)
def fX1_allIfHeld (x1 : Int32) (σ : ST) : Option Int32 :=
  if ((σ.1 3 1) * x1) ≤ 100 then
    fX1_allIfHeld_19 0 σ
  else
    fX1_allIfHeld_19 (σ.1 3 0) σ
set_option maxHeartbeats 4000000 in
theorem kmX1_allIfHeld (l : Launch) {x1 : Int32} {σ : ST} {r : Int32} (hf : fX1_allIfHeld x1 σ = some r) : KM l yX1_allIfHeld cX1_allIfHeld 2 (some .int) 0 0 [.ref 3, .int x1] σ (some (.int r)) σ := by
  refine KM.intro (ow := 1) (by decide +kernel) rfl (Nat.le_of_ble_eq_true rfl) (fun V hm => ?_)
  show V 0 [some (.ref 3), some (.int x1)] [] σ
  have h := hm.bd
  unfold fX1_allIfHeld at hf
  refine h.run (o := [kd 3 = 1]) (ls' := [some (.ref 3), some (.int x1)]) (st' := [.int 100, .int ((σ.1 3 1) * x1)]) (σ' := σ) [(.aload_n 0, 1, 0, 0, 0, 0), (.getfield 62, 3, 0, 0, 1, 1), (.iload_n 1, 1, 0, 0, 0, 0), (.imul, 1, 0, 0, 0, 0), (.bipush 100, 2, 100, 0, 0, 0)] (pc2 := 8) (by decide +kernel) rfl (And.intro kd_3 trivial) ?_
  refine h.icmp_le (tgt := 18) (show decode cX1_allIfHeld 8 = .ok (.if_icmp .le 10, 3) by decide +kernel) (by decide) (fun c1 => ?_) (fun c1 => ?_)
  · rw [if_pos c1] at hf
    refine h.run (o := []) (ls' := [some (.ref 3), some (.int x1)]) (st' := [.int 0]) (σ' := σ) [(.iconst 0, 1, 0, 0, 0, 0)] (pc2 := 19) (by decide +kernel) rfl trivial ?_
    refine h.drop (ls' := [none, none]) trivial ?_
    exact wX1_allIfHeld_19 hm hf
  · rw [if_neg c1] at hf
    show V 11 [some (.ref 3), some (.int x1)] [] σ
    refine h.run (o := [kd 3 = 1]) (ls' := [some (.ref 3), some (.int x1)]) (st' := [.int (σ.1 3 0)]) (σ' := σ) [(.aload_n 0, 1, 0, 0, 0, 0), (.getfield 37, 3, 0, 0, 1, 0), (.goto 4, 3, 0, 0, 0, 19)] (pc2 := 19) (by decide +kernel) rfl (And.intro kd_3 trivial) ?_
    refine h.drop (ls' := [none, none]) trivial ?_
    exact wX1_allIfHeld_19 hm hf
def fX1_allByLot_21 (t0 : Int32) (σ : ST) : Option (Int32 × ST) :=
  some (t0, σ)
set_option maxHeartbeats 4000000 in
theorem wX1_allByLot_21 {l : Launch} {V : Nat → List (Option Value) → List Value → ST → Prop} {r : Int32} {τ : ST} {σ : ST} {t0 : Int32} (hm : BM l 1 cX1_allByLot 1 (some .int) 1 20 (some (.int r)) τ V) (hf : fX1_allByLot_21 t0 σ = some (r, τ)) : V 21 [none] [.int t0] σ := by
  have h := hm.bd
  unfold fX1_allByLot_21 at hf
  obtain ⟨rfl, rfl⟩ := Prod.mk.inj (Option.some.inj hf)
  exact hm.iret (by decide +kernel)
def fX1_allByLot (σ : ST) : Option (Int32 × ST) :=
  bI (fX1_draw σ) fun a1 σ1 =>
  if (5 * (σ1.1 3 4)) ≤ a1 then
    fX1_allByLot_21 0 σ1
  else
    fX1_allByLot_21 (σ1.1 3 0) σ1
set_option maxHeartbeats 4000000 in
theorem kmX1_allByLot (l : Launch) {σ : ST} {r : Int32} {τ : ST} (hf : fX1_allByLot σ = some (r, τ)) : KM l yX1_allByLot cX1_allByLot 1 (some .int) 1 20 [.ref 3] σ (some (.int r)) τ := by
  refine KM.intro (ow := 1) (by decide +kernel) rfl (Nat.le_of_ble_eq_true rfl) (fun V hm => ?_)
  show V 0 [some (.ref 3)] [] σ
  have h := hm.bd
  unfold fX1_allByLot at hf
  refine h.run (o := []) (ls' := [some (.ref 3)]) (st' := [.ref 3]) (σ' := σ) [(.aload_n 0, 1, 0, 0, 0, 0)] (pc2 := 1) (by decide +kernel) rfl trivial ?_
  obtain ⟨a1, σ1, e1, hf⟩ := bI_some hf
  refine h.callV (as := []) (rest := []) (by decide +kernel) lk1_65 cwX1_draw kd_3 (kmX1_draw l e1) rfl (Nat.le_of_ble_eq_true rfl) (Nat.le_of_ble_eq_true rfl) (Nat.le_of_ble_eq_true rfl) ?_
  show V 4 [some (.ref 3)] [.int a1] σ1
  refine h.run (o := [kd 3 = 1]) (ls' := [some (.ref 3)]) (st' := [.int (5 * (σ1.1 3 4)), .int a1]) (σ' := σ1) [(.iconst 5, 1, 5, 0, 0, 0), (.aload_n 0, 1, 0, 0, 0, 0), (.getfield 34, 3, 0, 0, 1, 4), (.imul, 1, 0, 0, 0, 0)] (pc2 := 10) (by decide +kernel) rfl (And.intro kd_3 trivial) ?_
  refine h.icmp_ge (tgt := 20) (show decode cX1_allByLot 10 = .ok (.if_icmp .ge 10, 3) by decide +kernel) (by decide) (fun c2 => ?_) (fun c2 => ?_)
  · rw [if_pos c2] at hf
    refine h.run (o := []) (ls' := [some (.ref 3)]) (st' := [.int 0]) (σ' := σ1) [(.iconst 0, 1, 0, 0, 0, 0)] (pc2 := 21) (by decide +kernel) rfl trivial ?_
    refine h.drop (ls' := [none]) trivial ?_
    exact wX1_allByLot_21 hm hf
  · rw [if_neg c2] at hf
    show V 13 [some (.ref 3)] [] σ1
    refine h.run (o := [kd 3 = 1]) (ls' := [some (.ref 3)]) (st' := [.int (σ1.1 3 0)]) (σ' := σ1) [(.aload_n 0, 1, 0, 0, 0, 0), (.getfield 37, 3, 0, 0, 1, 0), (.goto 4, 3, 0, 0, 0, 21)] (pc2 := 21) (by decide +kernel) rfl (And.intro kd_3 trivial) ?_
    refine h.drop (ls' := [none]) trivial ?_
    exact wX1_allByLot_21 hm hf
def fX1_sendNow_98 (t0 : Int32) (σ : ST) : Option (Int32 × ST) :=
  some (t0, σ)
set_option maxHeartbeats 4000000 in
theorem wX1_sendNow_98 {l : Launch} {V : Nat → List (Option Value) → List Value → ST → Prop} {r : Int32} {τ : ST} {σ : ST} {t0 : Int32} (hm : BM l 1 cX1_sendNow 1 (some .int) 2 40 (some (.int r)) τ V) (hf : fX1_sendNow_98 t0 σ = some (r, τ)) : V 98 [none] [.int t0] σ := by
  have h := hm.bd
  unfold fX1_sendNow_98 at hf
  obtain ⟨rfl, rfl⟩ := Prod.mk.inj (Option.some.inj hf)
  exact hm.iret (by decide +kernel)
def fX1_sendNow_118 (t1 : Int32) (σ : ST) : Option (Int32 × ST) :=
  bR (fX1_allIfHeld t1 σ) fun a1 =>
  some (a1, σ)
set_option maxHeartbeats 4000000 in
theorem wX1_sendNow_118 {l : Launch} {V : Nat → List (Option Value) → List Value → ST → Prop} {r : Int32} {τ : ST} {σ : ST} {t1 : Int32} (hm : BM l 1 cX1_sendNow 1 (some .int) 2 40 (some (.int r)) τ V) (hf : fX1_sendNow_118 t1 σ = some (r, τ)) : V 118 [none] [.int t1, .ref 3] σ := by
  have h := hm.bd
  unfold fX1_sendNow_118 at hf
  obtain ⟨a1, e1, hf⟩ := bR_some hf
  refine h.callV (as := [.int t1]) (rest := []) (by decide +kernel) lk1_30 cwX1_allIfHeld kd_3 (kmX1_allIfHeld l e1) rfl (Nat.le_of_ble_eq_true rfl) (Nat.le_of_ble_eq_true rfl) (Nat.le_of_ble_eq_true rfl) ?_
  show V 121 [none] [.int a1] σ
  obtain ⟨rfl, rfl⟩ := Prod.mk.inj (Option.some.inj hf)
  exact hm.iret (by decide +kernel)
def fX1_sendNow_171 (t0 : Int32) (σ : ST) : Option (Int32 × ST) :=
  some (t0, σ)
set_option maxHeartbeats 4000000 in
theorem wX1_sendNow_171 {l : Launch} {V : Nat → List (Option Value) → List Value → ST → Prop} {r : Int32} {τ : ST} {σ : ST} {t0 : Int32} (hm : BM l 1 cX1_sendNow 1 (some .int) 2 40 (some (.int r)) τ V) (hf : fX1_sendNow_171 t0 σ = some (r, τ)) : V 171 [none] [.int t0] σ := by
  have h := hm.bd
  unfold fX1_sendNow_171 at hf
  obtain ⟨rfl, rfl⟩ := Prod.mk.inj (Option.some.inj hf)
  exact hm.iret (by decide +kernel)
def fX1_sendNow (σ : ST) : Option (Int32 × ST) :=
  if (σ.1 3 3) = 0 then
    some (imin (σ.1 3 4) (σ.1 3 0), σ)
  else
    if (σ.1 3 3) = 1 then
      bR (fX1_allIfHeld (σ.1 3 5) σ) fun a2 =>
      some (a2, σ)
    else
      if (σ.1 3 3) = 2 then
        some (imin ((σ.1 3 4) / 2) (σ.1 3 0), σ)
      else
        if (σ.1 3 3) = 3 then
          if (σ.1 3 13) = (-1) then
            fX1_sendNow_98 1 σ
          else
            fX1_sendNow_98 (imin (σ.1 3 13) (σ.1 3 0)) σ
        else
          if (σ.1 3 3) = 4 then
            if (σ.1 3 11) ≤ 0 then
              fX1_sendNow_118 (σ.1 3 5) σ
            else
              bR (fX1_nameOfReturner σ) fun a7 =>
              fX1_sendNow_118 a7 σ
          else
            if (σ.1 3 3) = 5 then
              bI (fX1_allByLot σ) fun a10 σ10 =>
              some (a10, σ10)
            else
              if (σ.1 3 3) = 6 then
                bR (fX1_allIfHeld (((σ.1 3 5) + (σ.1 3 10)) / 2) σ) fun a12 =>
                some (a12, σ)
              else
                if (σ.1 3 3) = 7 then
                  if (σ.1 3 6) = 1 then
                    bI (fX1_allByLot σ) fun a15 σ15 =>
                    fX1_sendNow_171 a15 σ15
                  else
                    bI (fX1_allByLot σ) fun a14 σ14 =>
                    fX1_sendNow_171 (imin a14 ((σ14.1 3 0) / 2)) σ14
                else
                  some (imin (σ.1 3 4) (σ.1 3 0), σ)
set_option maxHeartbeats 4000000 in
theorem kmX1_sendNow (l : Launch) {σ : ST} {r : Int32} {τ : ST} (hf : fX1_sendNow σ = some (r, τ)) : KM l yX1_sendNow cX1_sendNow 1 (some .int) 2 40 [.ref 3] σ (some (.int r)) τ := by
  refine KM.intro (ow := 1) (by decide +kernel) rfl (Nat.le_of_ble_eq_true rfl) (fun V hm => ?_)
  show V 0 [some (.ref 3)] [] σ
  have h := hm.bd
  unfold fX1_sendNow at hf
  refine h.run (o := [kd 3 = 1]) (ls' := [some (.ref 3)]) (st' := [.int (σ.1 3 3)]) (σ' := σ) [(.aload_n 0, 1, 0, 0, 0, 0), (.getfield 24, 3, 0, 0, 1, 3)] (pc2 := 4) (by decide +kernel) rfl (And.intro kd_3 trivial) ?_
  by_cases c1 : (σ.1 3 3) = 0
  · rw [if_pos c1] at hf
    refine h.tableIn (off := 168) (tgt := 172) (show decode cX1_sendNow 4 = .ok (.tableswitch 168 0 7 #[168, 48, 57, 71, 95, 118, 123, 139], 48) by decide +kernel) (by rw [c1]; decide) (by rw [c1]; decide) (by rw [c1]; decide) (by decide) ?_
    refine h.run (o := [kd 3 = 1, kd 3 = 1]) (ls' := [some (.ref 3)]) (st' := [.int (σ.1 3 0), .int (σ.1 3 4)]) (σ' := σ) [(.aload_n 0, 1, 0, 0, 0, 0), (.getfield 34, 3, 0, 0, 1, 4), (.aload_n 0, 1, 0, 0, 0, 0), (.getfield 37, 3, 0, 0, 1, 0)] (pc2 := 180) (by decide +kernel) rfl (And.intro kd_3 (And.intro kd_3 trivial)) ?_
    refine h.nmin jw_l42 (by decide +kernel) (Nat.le_of_ble_eq_true rfl) (Nat.le_of_ble_eq_true rfl) ?_
    show V 183 [some (.ref 3)] [.int (imin (σ.1 3 4) (σ.1 3 0))] σ
    obtain ⟨rfl, rfl⟩ := Prod.mk.inj (Option.some.inj hf)
    exact hm.iret (by decide +kernel)
  · rw [if_neg c1] at hf
    by_cases c3 : (σ.1 3 3) = 1
    · rw [if_pos c3] at hf
      refine h.tableIn (off := 48) (tgt := 52) (show decode cX1_sendNow 4 = .ok (.tableswitch 168 0 7 #[168, 48, 57, 71, 95, 118, 123, 139], 48) by decide +kernel) (by rw [c3]; decide) (by rw [c3]; decide) (by rw [c3]; decide) (by decide) ?_
      refine h.run (o := [kd 3 = 1]) (ls' := [some (.ref 3)]) (st' := [.int (σ.1 3 5), .ref 3]) (σ' := σ) [(.aload_n 0, 1, 0, 0, 0, 0), (.aload_n 0, 1, 0, 0, 0, 0), (.getfield 27, 3, 0, 0, 1, 5)] (pc2 := 57) (by decide +kernel) rfl (And.intro kd_3 trivial) ?_
      obtain ⟨a2, e2, hf⟩ := bR_some hf
      refine h.callV (as := [.int (σ.1 3 5)]) (rest := []) (by decide +kernel) lk1_30 cwX1_allIfHeld kd_3 (kmX1_allIfHeld l e2) rfl (Nat.le_of_ble_eq_true rfl) (Nat.le_of_ble_eq_true rfl) (Nat.le_of_ble_eq_true rfl) ?_
      show V 60 [some (.ref 3)] [.int a2] σ
      obtain ⟨rfl, rfl⟩ := Prod.mk.inj (Option.some.inj hf)
      exact hm.iret (by decide +kernel)
    · rw [if_neg c3] at hf
      by_cases c4 : (σ.1 3 3) = 2
      · rw [if_pos c4] at hf
        refine h.tableIn (off := 57) (tgt := 61) (show decode cX1_sendNow 4 = .ok (.tableswitch 168 0 7 #[168, 48, 57, 71, 95, 118, 123, 139], 48) by decide +kernel) (by rw [c4]; decide) (by rw [c4]; decide) (by rw [c4]; decide) (by decide) ?_
        refine h.run (o := [kd 3 = 1, ¬ 2 = 0, kd 3 = 1]) (ls' := [some (.ref 3)]) (st' := [.int (σ.1 3 0), .int ((σ.1 3 4) / 2)]) (σ' := σ) [(.aload_n 0, 1, 0, 0, 0, 0), (.getfield 34, 3, 0, 0, 1, 4), (.iconst 2, 1, 2, 0, 0, 0), (.idiv, 1, 0, 0, 0, 0), (.aload_n 0, 1, 0, 0, 0, 0), (.getfield 37, 3, 0, 0, 1, 0)] (pc2 := 71) (by decide +kernel) rfl (And.intro kd_3 (And.intro (by decide) (And.intro kd_3 trivial))) ?_
        refine h.nmin jw_l42 (by decide +kernel) (Nat.le_of_ble_eq_true rfl) (Nat.le_of_ble_eq_true rfl) ?_
        show V 74 [some (.ref 3)] [.int (imin ((σ.1 3 4) / 2) (σ.1 3 0))] σ
        obtain ⟨rfl, rfl⟩ := Prod.mk.inj (Option.some.inj hf)
        exact hm.iret (by decide +kernel)
      · rw [if_neg c4] at hf
        by_cases c6 : (σ.1 3 3) = 3
        · rw [if_pos c6] at hf
          refine h.tableIn (off := 71) (tgt := 75) (show decode cX1_sendNow 4 = .ok (.tableswitch 168 0 7 #[168, 48, 57, 71, 95, 118, 123, 139], 48) by decide +kernel) (by rw [c6]; decide) (by rw [c6]; decide) (by rw [c6]; decide) (by decide) ?_
          refine h.run (o := [kd 3 = 1]) (ls' := [some (.ref 3)]) (st' := [.int (-1), .int (σ.1 3 13)]) (σ' := σ) [(.aload_n 0, 1, 0, 0, 0, 0), (.getfield 46, 3, 0, 0, 1, 13), (.iconst (-1), 1, (-1), 0, 0, 0)] (pc2 := 80) (by decide +kernel) rfl (And.intro kd_3 trivial) ?_
          refine h.icmp_ne (tgt := 87) (show decode cX1_sendNow 80 = .ok (.if_icmp .ne 7, 3) by decide +kernel) (by decide) (fun c5 => ?_) (fun c5 => ?_)
          · rw [if_neg c5] at hf
            refine h.run (o := [kd 3 = 1, kd 3 = 1]) (ls' := [some (.ref 3)]) (st' := [.int (σ.1 3 0), .int (σ.1 3 13)]) (σ' := σ) [(.aload_n 0, 1, 0, 0, 0, 0), (.getfield 46, 3, 0, 0, 1, 13), (.aload_n 0, 1, 0, 0, 0, 0), (.getfield 37, 3, 0, 0, 1, 0)] (pc2 := 95) (by decide +kernel) rfl (And.intro kd_3 (And.intro kd_3 trivial)) ?_
            refine h.nmin jw_l42 (by decide +kernel) (Nat.le_of_ble_eq_true rfl) (Nat.le_of_ble_eq_true rfl) ?_
            show V 98 [some (.ref 3)] [.int (imin (σ.1 3 13) (σ.1 3 0))] σ
            refine h.drop (ls' := [none]) trivial ?_
            exact wX1_sendNow_98 hm hf
          · rw [if_pos c5] at hf
            show V 83 [some (.ref 3)] [] σ
            refine h.run (o := []) (ls' := [some (.ref 3)]) (st' := [.int 1]) (σ' := σ) [(.iconst 1, 1, 1, 0, 0, 0), (.goto 14, 3, 0, 0, 0, 98)] (pc2 := 98) (by decide +kernel) rfl trivial ?_
            refine h.drop (ls' := [none]) trivial ?_
            exact wX1_sendNow_98 hm hf
        · rw [if_neg c6] at hf
          by_cases c9 : (σ.1 3 3) = 4
          · rw [if_pos c9] at hf
            refine h.tableIn (off := 95) (tgt := 99) (show decode cX1_sendNow 4 = .ok (.tableswitch 168 0 7 #[168, 48, 57, 71, 95, 118, 123, 139], 48) by decide +kernel) (by rw [c9]; decide) (by rw [c9]; decide) (by rw [c9]; decide) (by decide) ?_
            refine h.run (o := [kd 3 = 1]) (ls' := [some (.ref 3)]) (st' := [.int (σ.1 3 11), .ref 3]) (σ' := σ) [(.aload_n 0, 1, 0, 0, 0, 0), (.aload_n 0, 1, 0, 0, 0, 0), (.getfield 9, 3, 0, 0, 1, 11)] (pc2 := 104) (by decide +kernel) rfl (And.intro kd_3 trivial) ?_
            refine h.if_le (tgt := 114) (show decode cX1_sendNow 104 = .ok (.ifCond .le 10, 3) by decide +kernel) (by decide) (fun c8 => ?_) (fun c8 => ?_)
            · rw [if_pos c8] at hf
              refine h.run (o := [kd 3 = 1]) (ls' := [some (.ref 3)]) (st' := [.int (σ.1 3 5), .ref 3]) (σ' := σ) [(.aload_n 0, 1, 0, 0, 0, 0), (.getfield 27, 3, 0, 0, 1, 5)] (pc2 := 118) (by decide +kernel) rfl (And.intro kd_3 trivial) ?_
              refine h.drop (ls' := [none]) trivial ?_
              exact wX1_sendNow_118 hm hf
            · rw [if_neg c8] at hf
              show V 107 [some (.ref 3)] [.ref 3] σ
              refine h.run (o := []) (ls' := [some (.ref 3)]) (st' := [.ref 3, .ref 3]) (σ' := σ) [(.aload_n 0, 1, 0, 0, 0, 0)] (pc2 := 108) (by decide +kernel) rfl trivial ?_
              obtain ⟨a7, e7, hf⟩ := bR_some hf
              refine h.callV (as := []) (rest := [.ref 3]) (by decide +kernel) lk1_49 cwX1_nameOfReturner kd_3 (kmX1_nameOfReturner l e7) rfl (Nat.le_of_ble_eq_true rfl) (Nat.le_of_ble_eq_true rfl) (Nat.le_of_ble_eq_true rfl) ?_
              show V 111 [some (.ref 3)] [.int a7, .ref 3] σ
              refine h.run (o := []) (ls' := [some (.ref 3)]) (st' := [.int a7, .ref 3]) (σ' := σ) [(.goto 7, 3, 0, 0, 0, 118)] (pc2 := 118) (by decide +kernel) rfl trivial ?_
              refine h.drop (ls' := [none]) trivial ?_
              exact wX1_sendNow_118 hm hf
          · rw [if_neg c9] at hf
            by_cases c11 : (σ.1 3 3) = 5
            · rw [if_pos c11] at hf
              refine h.tableIn (off := 118) (tgt := 122) (show decode cX1_sendNow 4 = .ok (.tableswitch 168 0 7 #[168, 48, 57, 71, 95, 118, 123, 139], 48) by decide +kernel) (by rw [c11]; decide) (by rw [c11]; decide) (by rw [c11]; decide) (by decide) ?_
              refine h.run (o := []) (ls' := [some (.ref 3)]) (st' := [.ref 3]) (σ' := σ) [(.aload_n 0, 1, 0, 0, 0, 0)] (pc2 := 123) (by decide +kernel) rfl trivial ?_
              obtain ⟨a10, σ10, e10, hf⟩ := bI_some hf
              refine h.callV (as := []) (rest := []) (by decide +kernel) lk1_53 cwX1_allByLot kd_3 (kmX1_allByLot l e10) rfl (Nat.le_of_ble_eq_true rfl) (Nat.le_of_ble_eq_true rfl) (Nat.le_of_ble_eq_true rfl) ?_
              show V 126 [some (.ref 3)] [.int a10] σ10
              obtain ⟨rfl, rfl⟩ := Prod.mk.inj (Option.some.inj hf)
              exact hm.iret (by decide +kernel)
            · rw [if_neg c11] at hf
              by_cases c13 : (σ.1 3 3) = 6
              · rw [if_pos c13] at hf
                refine h.tableIn (off := 123) (tgt := 127) (show decode cX1_sendNow 4 = .ok (.tableswitch 168 0 7 #[168, 48, 57, 71, 95, 118, 123, 139], 48) by decide +kernel) (by rw [c13]; decide) (by rw [c13]; decide) (by rw [c13]; decide) (by decide) ?_
                refine h.run (o := [kd 3 = 1, kd 3 = 1, ¬ 2 = 0]) (ls' := [some (.ref 3)]) (st' := [.int (((σ.1 3 5) + (σ.1 3 10)) / 2), .ref 3]) (σ' := σ) [(.aload_n 0, 1, 0, 0, 0, 0), (.aload_n 0, 1, 0, 0, 0, 0), (.getfield 27, 3, 0, 0, 1, 5), (.aload_n 0, 1, 0, 0, 0, 0), (.getfield 56, 3, 0, 0, 1, 10), (.iadd, 1, 0, 0, 0, 0), (.iconst 2, 1, 2, 0, 0, 0), (.idiv, 1, 0, 0, 0, 0)] (pc2 := 139) (by decide +kernel) rfl (And.intro kd_3 (And.intro kd_3 (And.intro (by decide) trivial))) ?_
                obtain ⟨a12, e12, hf⟩ := bR_some hf
                refine h.callV (as := [.int (((σ.1 3 5) + (σ.1 3 10)) / 2)]) (rest := []) (by decide +kernel) lk1_30 cwX1_allIfHeld kd_3 (kmX1_allIfHeld l e12) rfl (Nat.le_of_ble_eq_true rfl) (Nat.le_of_ble_eq_true rfl) (Nat.le_of_ble_eq_true rfl) ?_
                show V 142 [some (.ref 3)] [.int a12] σ
                obtain ⟨rfl, rfl⟩ := Prod.mk.inj (Option.some.inj hf)
                exact hm.iret (by decide +kernel)
              · rw [if_neg c13] at hf
                by_cases c17 : (σ.1 3 3) = 7
                · rw [if_pos c17] at hf
                  refine h.tableIn (off := 139) (tgt := 143) (show decode cX1_sendNow 4 = .ok (.tableswitch 168 0 7 #[168, 48, 57, 71, 95, 118, 123, 139], 48) by decide +kernel) (by rw [c17]; decide) (by rw [c17]; decide) (by rw [c17]; decide) (by decide) ?_
                  refine h.run (o := [kd 3 = 1]) (ls' := [some (.ref 3)]) (st' := [.int 1, .int (σ.1 3 6)]) (σ' := σ) [(.aload_n 0, 1, 0, 0, 0, 0), (.getfield 59, 3, 0, 0, 1, 6), (.iconst 1, 1, 1, 0, 0, 0)] (pc2 := 148) (by decide +kernel) rfl (And.intro kd_3 trivial) ?_
                  refine h.icmp_ne (tgt := 158) (show decode cX1_sendNow 148 = .ok (.if_icmp .ne 10, 3) by decide +kernel) (by decide) (fun c16 => ?_) (fun c16 => ?_)
                  · rw [if_neg c16] at hf
                    refine h.run (o := []) (ls' := [some (.ref 3)]) (st' := [.ref 3]) (σ' := σ) [(.aload_n 0, 1, 0, 0, 0, 0)] (pc2 := 159) (by decide +kernel) rfl trivial ?_
                    obtain ⟨a14, σ14, e14, hf⟩ := bI_some hf
                    refine h.callV (as := []) (rest := []) (by decide +kernel) lk1_53 cwX1_allByLot kd_3 (kmX1_allByLot l e14) rfl (Nat.le_of_ble_eq_true rfl) (Nat.le_of_ble_eq_true rfl) (Nat.le_of_ble_eq_true rfl) ?_
                    show V 162 [some (.ref 3)] [.int a14] σ14
                    refine h.run (o := [kd 3 = 1, ¬ 2 = 0]) (ls' := [some (.ref 3)]) (st' := [.int ((σ14.1 3 0) / 2), .int a14]) (σ' := σ14) [(.aload_n 0, 1, 0, 0, 0, 0), (.getfield 37, 3, 0, 0, 1, 0), (.iconst 2, 1, 2, 0, 0, 0), (.idiv, 1, 0, 0, 0, 0)] (pc2 := 168) (by decide +kernel) rfl (And.intro kd_3 (And.intro (by decide) trivial)) ?_
                    refine h.nmin jw_l42 (by decide +kernel) (Nat.le_of_ble_eq_true rfl) (Nat.le_of_ble_eq_true rfl) ?_
                    show V 171 [some (.ref 3)] [.int (imin a14 ((σ14.1 3 0) / 2))] σ14
                    refine h.drop (ls' := [none]) trivial ?_
                    exact wX1_sendNow_171 hm hf
                  · rw [if_pos c16] at hf
                    show V 151 [some (.ref 3)] [] σ
                    refine h.run (o := []) (ls' := [some (.ref 3)]) (st' := [.ref 3]) (σ' := σ) [(.aload_n 0, 1, 0, 0, 0, 0)] (pc2 := 152) (by decide +kernel) rfl trivial ?_
                    obtain ⟨a15, σ15, e15, hf⟩ := bI_some hf
                    refine h.callV (as := []) (rest := []) (by decide +kernel) lk1_53 cwX1_allByLot kd_3 (kmX1_allByLot l e15) rfl (Nat.le_of_ble_eq_true rfl) (Nat.le_of_ble_eq_true rfl) (Nat.le_of_ble_eq_true rfl) ?_
                    show V 155 [some (.ref 3)] [.int a15] σ15
                    refine h.run (o := []) (ls' := [some (.ref 3)]) (st' := [.int a15]) (σ' := σ15) [(.goto 16, 3, 0, 0, 0, 171)] (pc2 := 171) (by decide +kernel) rfl trivial ?_
                    refine h.drop (ls' := [none]) trivial ?_
                    exact wX1_sendNow_171 hm hf
                · rw [if_neg c17] at hf
                  refine h.tableOut (tgt := 172) (show decode cX1_sendNow 4 = .ok (.tableswitch 168 0 7 #[168, 48, 57, 71, 95, 118, 123, 139], 48) by decide +kernel) (sw_out (fun i hl hh => ?_)) (by decide) ?_
                  · rcases (show i = 0 ∨ i = 1 ∨ i = 2 ∨ i = 3 ∨ i = 4 ∨ i = 5 ∨ i = 6 ∨ i = 7 by omega) with rfl | rfl | rfl | rfl | rfl | rfl | rfl | rfl
                    · exact sw_ne c1 (by decide)
                    · exact sw_ne c3 (by decide)
                    · exact sw_ne c4 (by decide)
                    · exact sw_ne c6 (by decide)
                    · exact sw_ne c9 (by decide)
                    · exact sw_ne c11 (by decide)
                    · exact sw_ne c13 (by decide)
                    · exact sw_ne c17 (by decide)
                  · refine h.run (o := [kd 3 = 1, kd 3 = 1]) (ls' := [some (.ref 3)]) (st' := [.int (σ.1 3 0), .int (σ.1 3 4)]) (σ' := σ) [(.aload_n 0, 1, 0, 0, 0, 0), (.getfield 34, 3, 0, 0, 1, 4), (.aload_n 0, 1, 0, 0, 0, 0), (.getfield 37, 3, 0, 0, 1, 0)] (pc2 := 180) (by decide +kernel) rfl (And.intro kd_3 (And.intro kd_3 trivial)) ?_
                    refine h.nmin jw_l42 (by decide +kernel) (Nat.le_of_ble_eq_true rfl) (Nat.le_of_ble_eq_true rfl) ?_
                    show V 183 [some (.ref 3)] [.int (imin (σ.1 3 4) (σ.1 3 0))] σ
                    obtain ⟨rfl, rfl⟩ := Prod.mk.inj (Option.some.inj hf)
                    exact hm.iret (by decide +kernel)
def fX1_wouldSend (σ : ST) : Option (Int32 × ST) :=
  bI (fX1_sendNow σ) fun a1 σ1 =>
  some (a1, setI σ1 3 2 (σ.1 3 2))
set_option maxHeartbeats 4000000 in
theorem kmX1_wouldSend (l : Launch) {σ : ST} {r : Int32} {τ : ST} (hf : fX1_wouldSend σ = some (r, τ)) : KM l yX1_wouldSend cX1_wouldSend 3 (some .int) 3 60 [.ref 3] σ (some (.int r)) τ := by
  refine KM.intro (ow := 1) (by decide +kernel) rfl (Nat.le_of_ble_eq_true rfl) (fun V hm => ?_)
  show V 0 [some (.ref 3), none, none] [] σ
  have h := hm.bd
  unfold fX1_wouldSend at hf
  refine h.run (o := [kd 3 = 1]) (ls' := [some (.ref 3), some (.int (σ.1 3 2)), none]) (st' := [.ref 3]) (σ' := σ) [(.aload_n 0, 1, 0, 0, 0, 0), (.getfield 18, 3, 0, 0, 1, 2), (.istore_n 1, 1, 0, 0, 0, 0), (.aload_n 0, 1, 0, 0, 0, 0)] (pc2 := 6) (by decide +kernel) rfl (And.intro kd_3 trivial) ?_
  obtain ⟨a1, σ1, e1, hf⟩ := bI_some hf
  refine h.callV (as := []) (rest := []) (by decide +kernel) lk1_68 cwX1_sendNow kd_3 (kmX1_sendNow l e1) rfl (Nat.le_of_ble_eq_true rfl) (Nat.le_of_ble_eq_true rfl) (Nat.le_of_ble_eq_true rfl) ?_
  show V 9 [some (.ref 3), some (.int (σ.1 3 2)), none] [.int a1] σ1
  refine h.run (o := [kd 3 = 1]) (ls' := [some (.ref 3), some (.int (σ.1 3 2)), some (.int a1)]) (st' := [.int a1]) (σ' := setI σ1 3 2 (σ.1 3 2)) [(.istore_n 2, 1, 0, 0, 0, 0), (.aload_n 0, 1, 0, 0, 0, 0), (.iload_n 1, 1, 0, 0, 0, 0), (.putfield 18, 3, 0, 0, 1, 2), (.iload_n 2, 1, 0, 0, 0, 0)] (pc2 := 16) (by decide +kernel) rfl (And.intro kd_3 trivial) ?_
  obtain ⟨rfl, rfl⟩ := Prod.mk.inj (Option.some.inj hf)
  exact hm.iret (by decide +kernel)
def fX1_sendBackOf_19 (σ : ST) : Option (Int32 × ST) :=
  some (0, σ)
set_option maxHeartbeats 4000000 in
theorem wX1_sendBackOf_19 {l : Launch} {V : Nat → List (Option Value) → List Value → ST → Prop} {r : Int32} {τ : ST} {σ : ST} (hm : BM l 1 cX1_sendBackOf 5 (some .int) 1 20 (some (.int r)) τ V) (hf : fX1_sendBackOf_19 σ = some (r, τ)) : V 19 [none, none, none, none, none] [] σ := by
  have h := hm.bd
  unfold fX1_sendBackOf_19 at hf
  refine h.run (o := []) (ls' := [none, none, none, none, none]) (st' := [.int 0]) (σ' := σ) [(.iconst 0, 1, 0, 0, 0, 0)] (pc2 := 20) (by decide +kernel) rfl trivial ?_
  obtain ⟨rfl, rfl⟩ := Prod.mk.inj (Option.some.inj hf)
  exact hm.iret (by decide +kernel)
def fX1_sendBackOf_71 (x3 : Int32) (t0 : Int32) (σ : ST) : Option (Int32 × ST) :=
  some ((x3 * t0) / 100, σ)
set_option maxHeartbeats 4000000 in
theorem wX1_sendBackOf_71 {l : Launch} {V : Nat → List (Option Value) → List Value → ST → Prop} {r : Int32} {τ : ST} {σ : ST} {x3 : Int32} {t0 : Int32} (hm : BM l 1 cX1_sendBackOf 5 (some .int) 1 20 (some (.int r)) τ V) (hf : fX1_sendBackOf_71 x3 t0 σ = some (r, τ)) : V 71 [none, none, none, some (.int x3), none] [.int t0] σ := by
  have h := hm.bd
  unfold fX1_sendBackOf_71 at hf
  refine h.run (o := [¬ 100 = 0]) (ls' := [none, none, none, some (.int x3), some (.int t0)]) (st' := [.int ((x3 * t0) / 100)]) (σ' := σ) [(.istore 4, 2, 0, 0, 0, 0), (.iload_n 3, 1, 0, 0, 0, 0), (.iload 4, 2, 0, 0, 0, 0), (.imul, 1, 0, 0, 0, 0), (.bipush 100, 2, 100, 0, 0, 0), (.idiv, 1, 0, 0, 0, 0)] (pc2 := 80) (by decide +kernel) rfl (And.intro (by decide) trivial) ?_
  obtain ⟨rfl, rfl⟩ := Prod.mk.inj (Option.some.inj hf)
  exact hm.iret (by decide +kernel)
def fX1_sendBackOf_45 (t0 : Int32) (σ : ST) : Option (Int32 × ST) :=
  some (t0, σ)
set_option maxHeartbeats 4000000 in
theorem wX1_sendBackOf_45 {l : Launch} {V : Nat → List (Option Value) → List Value → ST → Prop} {r : Int32} {τ : ST} {σ : ST} {t0 : Int32} (hm : BM l 1 cX1_sendBackOf 5 (some .int) 1 20 (some (.int r)) τ V) (hf : fX1_sendBackOf_45 t0 σ = some (r, τ)) : V 45 [none, none, none, none, none] [.int t0] σ := by
  have h := hm.bd
  unfold fX1_sendBackOf_45 at hf
  obtain ⟨rfl, rfl⟩ := Prod.mk.inj (Option.some.inj hf)
  exact hm.iret (by decide +kernel)
def fX1_sendBackOf (x1 : Int32) (x2 : Int32) (σ : ST) : Option (Int32 × ST) :=
  if (x1 * (σ.1 3 1)) = 0 then
    fX1_sendBackOf_19 σ
  else
    if (σ.1 3 8) ≤ (x1 * (σ.1 3 1)) then
      if (σ.1 3 6) = 1 then
        bI (fX1_draw σ) fun a2 σ2 =>
        if (σ2.1 3 7) ≤ a2 then
          fX1_sendBackOf_45 0 σ2
        else
          fX1_sendBackOf_45 (x1 * (σ.1 3 1)) σ2
      else
        if x2 = 0 then
          fX1_sendBackOf_71 (x1 * (σ.1 3 1)) (σ.1 3 7) σ
        else
          fX1_sendBackOf_71 (x1 * (σ.1 3 1)) (imin ((σ.1 3 7) + (σ.1 3 9)) 100) σ
    else
      fX1_sendBackOf_19 σ
set_option maxHeartbeats 4000000 in
theorem kmX1_sendBackOf (l : Launch) {x1 : Int32} {x2 : Int32} {σ : ST} {r : Int32} {τ : ST} (hf : fX1_sendBackOf x1 x2 σ = some (r, τ)) : KM l yX1_sendBackOf cX1_sendBackOf 5 (some .int) 1 20 [.ref 3, .int x1, .int x2] σ (some (.int r)) τ := by
  refine KM.intro (ow := 1) (by decide +kernel) rfl (Nat.le_of_ble_eq_true rfl) (fun V hm => ?_)
  show V 0 [some (.ref 3), some (.int x1), some (.int x2), none, none] [] σ
  have h := hm.bd
  unfold fX1_sendBackOf at hf
  refine h.run (o := [kd 3 = 1]) (ls' := [some (.ref 3), some (.int x1), some (.int x2), some (.int (x1 * (σ.1 3 1))), none]) (st' := [.int (x1 * (σ.1 3 1))]) (σ' := σ) [(.iload_n 1, 1, 0, 0, 0, 0), (.aload_n 0, 1, 0, 0, 0, 0), (.getfield 62, 3, 0, 0, 1, 1), (.imul, 1, 0, 0, 0, 0), (.istore_n 3, 1, 0, 0, 0, 0), (.iload_n 3, 1, 0, 0, 0, 0)] (pc2 := 8) (by decide +kernel) rfl (And.intro kd_3 trivial) ?_
  refine h.if_eq (tgt := 19) (show decode cX1_sendBackOf 8 = .ok (.ifCond .eq 11, 3) by decide +kernel) (by decide) (fun c6 => ?_) (fun c6 => ?_)
  · rw [if_pos c6] at hf
    refine h.drop (ls' := [none, none, none, none, none]) trivial ?_
    exact wX1_sendBackOf_19 hm hf
  · rw [if_neg c6] at hf
    show V 11 [some (.ref 3), some (.int x1), some (.int x2), some (.int (x1 * (σ.1 3 1))), none] [] σ
    refine h.run (o := [kd 3 = 1]) (ls' := [some (.ref 3), some (.int x1), some (.int x2), some (.int (x1 * (σ.1 3 1))), none]) (st' := [.int (σ.1 3 8), .int (x1 * (σ.1 3 1))]) (σ' := σ) [(.iload_n 3, 1, 0, 0, 0, 0), (.aload_n 0, 1, 0, 0, 0, 0), (.getfield 71, 3, 0, 0, 1, 8)] (pc2 := 16) (by decide +kernel) rfl (And.intro kd_3 trivial) ?_
    refine h.icmp_ge (tgt := 21) (show decode cX1_sendBackOf 16 = .ok (.if_icmp .ge 5, 3) by decide +kernel) (by decide) (fun c5 => ?_) (fun c5 => ?_)
    · rw [if_pos c5] at hf
      refine h.run (o := [kd 3 = 1]) (ls' := [some (.ref 3), some (.int x1), some (.int x2), some (.int (x1 * (σ.1 3 1))), none]) (st' := [.int 1, .int (σ.1 3 6)]) (σ' := σ) [(.aload_n 0, 1, 0, 0, 0, 0), (.getfield 59, 3, 0, 0, 1, 6), (.iconst 1, 1, 1, 0, 0, 0)] (pc2 := 26) (by decide +kernel) rfl (And.intro kd_3 trivial) ?_
      refine h.icmp_ne (tgt := 46) (show decode cX1_sendBackOf 26 = .ok (.if_icmp .ne 20, 3) by decide +kernel) (by decide) (fun c4 => ?_) (fun c4 => ?_)
      · rw [if_neg c4] at hf
        refine h.run (o := []) (ls' := [some (.ref 3), some (.int x1), some (.int x2), some (.int (x1 * (σ.1 3 1))), none]) (st' := [.int x2]) (σ' := σ) [(.iload_n 2, 1, 0, 0, 0, 0)] (pc2 := 47) (by decide +kernel) rfl trivial ?_
        refine h.if_eq (tgt := 67) (show decode cX1_sendBackOf 47 = .ok (.ifCond .eq 20, 3) by decide +kernel) (by decide) (fun c1 => ?_) (fun c1 => ?_)
        · rw [if_pos c1] at hf
          refine h.run (o := [kd 3 = 1]) (ls' := [some (.ref 3), some (.int x1), some (.int x2), some (.int (x1 * (σ.1 3 1))), none]) (st' := [.int (σ.1 3 7)]) (σ' := σ) [(.aload_n 0, 1, 0, 0, 0, 0), (.getfield 74, 3, 0, 0, 1, 7)] (pc2 := 71) (by decide +kernel) rfl (And.intro kd_3 trivial) ?_
          refine h.drop (ls' := [none, none, none, some (.int (x1 * (σ.1 3 1))), none]) (And.intro rfl trivial) ?_
          exact wX1_sendBackOf_71 hm hf
        · rw [if_neg c1] at hf
          show V 50 [some (.ref 3), some (.int x1), some (.int x2), some (.int (x1 * (σ.1 3 1))), none] [] σ
          refine h.run (o := [kd 3 = 1, kd 3 = 1]) (ls' := [some (.ref 3), some (.int x1), some (.int x2), some (.int (x1 * (σ.1 3 1))), none]) (st' := [.int 100, .int ((σ.1 3 7) + (σ.1 3 9))]) (σ' := σ) [(.aload_n 0, 1, 0, 0, 0, 0), (.getfield 74, 3, 0, 0, 1, 7), (.aload_n 0, 1, 0, 0, 0, 0), (.getfield 77, 3, 0, 0, 1, 9), (.iadd, 1, 0, 0, 0, 0), (.bipush 100, 2, 100, 0, 0, 0)] (pc2 := 61) (by decide +kernel) rfl (And.intro kd_3 (And.intro kd_3 trivial)) ?_
          refine h.nmin jw_l42 (by decide +kernel) (Nat.le_of_ble_eq_true rfl) (Nat.le_of_ble_eq_true rfl) ?_
          show V 64 [some (.ref 3), some (.int x1), some (.int x2), some (.int (x1 * (σ.1 3 1))), none] [.int (imin ((σ.1 3 7) + (σ.1 3 9)) 100)] σ
          refine h.run (o := []) (ls' := [some (.ref 3), some (.int x1), some (.int x2), some (.int (x1 * (σ.1 3 1))), none]) (st' := [.int (imin ((σ.1 3 7) + (σ.1 3 9)) 100)]) (σ' := σ) [(.goto 7, 3, 0, 0, 0, 71)] (pc2 := 71) (by decide +kernel) rfl trivial ?_
          refine h.drop (ls' := [none, none, none, some (.int (x1 * (σ.1 3 1))), none]) (And.intro rfl trivial) ?_
          exact wX1_sendBackOf_71 hm hf
      · rw [if_pos c4] at hf
        show V 29 [some (.ref 3), some (.int x1), some (.int x2), some (.int (x1 * (σ.1 3 1))), none] [] σ
        refine h.run (o := []) (ls' := [some (.ref 3), some (.int x1), some (.int x2), some (.int (x1 * (σ.1 3 1))), none]) (st' := [.ref 3]) (σ' := σ) [(.aload_n 0, 1, 0, 0, 0, 0)] (pc2 := 30) (by decide +kernel) rfl trivial ?_
        obtain ⟨a2, σ2, e2, hf⟩ := bI_some hf
        refine h.callV (as := []) (rest := []) (by decide +kernel) lk1_65 cwX1_draw kd_3 (kmX1_draw l e2) rfl (Nat.le_of_ble_eq_true rfl) (Nat.le_of_ble_eq_true rfl) (Nat.le_of_ble_eq_true rfl) ?_
        show V 33 [some (.ref 3), some (.int x1), some (.int x2), some (.int (x1 * (σ.1 3 1))), none] [.int a2] σ2
        refine h.run (o := [kd 3 = 1]) (ls' := [some (.ref 3), some (.int x1), some (.int x2), some (.int (x1 * (σ.1 3 1))), none]) (st' := [.int (σ2.1 3 7), .int a2]) (σ' := σ2) [(.aload_n 0, 1, 0, 0, 0, 0), (.getfield 74, 3, 0, 0, 1, 7)] (pc2 := 37) (by decide +kernel) rfl (And.intro kd_3 trivial) ?_
        refine h.icmp_ge (tgt := 44) (show decode cX1_sendBackOf 37 = .ok (.if_icmp .ge 7, 3) by decide +kernel) (by decide) (fun c3 => ?_) (fun c3 => ?_)
        · rw [if_pos c3] at hf
          refine h.run (o := []) (ls' := [some (.ref 3), some (.int x1), some (.int x2), some (.int (x1 * (σ.1 3 1))), none]) (st' := [.int 0]) (σ' := σ2) [(.iconst 0, 1, 0, 0, 0, 0)] (pc2 := 45) (by decide +kernel) rfl trivial ?_
          refine h.drop (ls' := [none, none, none, none, none]) trivial ?_
          exact wX1_sendBackOf_45 hm hf
        · rw [if_neg c3] at hf
          show V 40 [some (.ref 3), some (.int x1), some (.int x2), some (.int (x1 * (σ.1 3 1))), none] [] σ2
          refine h.run (o := []) (ls' := [some (.ref 3), some (.int x1), some (.int x2), some (.int (x1 * (σ.1 3 1))), none]) (st' := [.int (x1 * (σ.1 3 1))]) (σ' := σ2) [(.iload_n 3, 1, 0, 0, 0, 0), (.goto 4, 3, 0, 0, 0, 45)] (pc2 := 45) (by decide +kernel) rfl trivial ?_
          refine h.drop (ls' := [none, none, none, none, none]) trivial ?_
          exact wX1_sendBackOf_45 hm hf
    · rw [if_neg c5] at hf
      show V 19 [some (.ref 3), some (.int x1), some (.int x2), some (.int (x1 * (σ.1 3 1))), none] [] σ
      refine h.drop (ls' := [none, none, none, none, none]) trivial ?_
      exact wX1_sendBackOf_19 hm hf
def fX1_play (x1 : Int32) (σ : ST) : Option ST :=
  bI (fX1_sendNow σ) fun a1 σ1 =>
  bI (fX1_sendBackOf ((setI (setI σ1 3 14 a1) 3 15 (((setI σ1 3 14 a1).1 3 14) * ((setI σ1 3 14 a1).1 3 1))).1 3 14) x1 (setI (setI σ1 3 14 a1) 3 15 (((setI σ1 3 14 a1).1 3 14) * ((setI σ1 3 14 a1).1 3 1)))) fun a2 σ2 =>
  some (setI (setI (setI σ2 3 13 a2) 3 11 (((setI σ2 3 13 a2).1 3 11) + ((setI σ2 3 13 a2).1 3 15))) 3 12 (((setI (setI σ2 3 13 a2) 3 11 (((setI σ2 3 13 a2).1 3 11) + ((setI σ2 3 13 a2).1 3 15))).1 3 12) + ((setI (setI σ2 3 13 a2) 3 11 (((setI σ2 3 13 a2).1 3 11) + ((setI σ2 3 13 a2).1 3 15))).1 3 13)))
set_option maxHeartbeats 4000000 in
theorem kmX1_play (l : Launch) {x1 : Int32} {σ : ST} {τ : ST} (hf : fX1_play x1 σ = some τ) : KM l yX1_play cX1_play 2 none 3 60 [.ref 3, .int x1] σ none τ := by
  refine KM.intro (ow := 1) (by decide +kernel) rfl (Nat.le_of_ble_eq_true rfl) (fun V hm => ?_)
  show V 0 [some (.ref 3), some (.int x1)] [] σ
  have h := hm.bd
  unfold fX1_play at hf
  refine h.run (o := []) (ls' := [some (.ref 3), some (.int x1)]) (st' := [.ref 3, .ref 3]) (σ' := σ) [(.aload_n 0, 1, 0, 0, 0, 0), (.aload_n 0, 1, 0, 0, 0, 0)] (pc2 := 2) (by decide +kernel) rfl trivial ?_
  obtain ⟨a1, σ1, e1, hf⟩ := bI_some hf
  refine h.callV (as := []) (rest := [.ref 3]) (by decide +kernel) lk1_68 cwX1_sendNow kd_3 (kmX1_sendNow l e1) rfl (Nat.le_of_ble_eq_true rfl) (Nat.le_of_ble_eq_true rfl) (Nat.le_of_ble_eq_true rfl) ?_
  show V 5 [some (.ref 3), some (.int x1)] [.int a1, .ref 3] σ1
  refine h.run (o := [kd 3 = 1, kd 3 = 1, kd 3 = 1, kd 3 = 1, kd 3 = 1]) (ls' := [some (.ref 3), some (.int x1)]) (st' := [.int x1, .int ((setI (setI σ1 3 14 a1) 3 15 (((setI σ1 3 14 a1).1 3 14) * ((setI σ1 3 14 a1).1 3 1))).1 3 14), .ref 3, .ref 3]) (σ' := setI (setI σ1 3 14 a1) 3 15 (((setI σ1 3 14 a1).1 3 14) * ((setI σ1 3 14 a1).1 3 1))) [(.putfield 80, 3, 0, 0, 1, 14), (.aload_n 0, 1, 0, 0, 0, 0), (.aload_n 0, 1, 0, 0, 0, 0), (.getfield 80, 3, 0, 0, 1, 14), (.aload_n 0, 1, 0, 0, 0, 0), (.getfield 62, 3, 0, 0, 1, 1), (.imul, 1, 0, 0, 0, 0), (.putfield 83, 3, 0, 0, 1, 15), (.aload_n 0, 1, 0, 0, 0, 0), (.aload_n 0, 1, 0, 0, 0, 0), (.aload_n 0, 1, 0, 0, 0, 0), (.getfield 80, 3, 0, 0, 1, 14), (.iload_n 1, 1, 0, 0, 0, 0)] (pc2 := 28) (by decide +kernel) rfl (And.intro kd_3 (And.intro kd_3 (And.intro kd_3 (And.intro kd_3 (And.intro kd_3 trivial))))) ?_
  obtain ⟨a2, σ2, e2, hf⟩ := bI_some hf
  refine h.callV (as := [.int ((setI (setI σ1 3 14 a1) 3 15 (((setI σ1 3 14 a1).1 3 14) * ((setI σ1 3 14 a1).1 3 1))).1 3 14), .int x1]) (rest := [.ref 3]) (by decide +kernel) lk1_86 cwX1_sendBackOf kd_3 (kmX1_sendBackOf l e2) rfl (Nat.le_of_ble_eq_true rfl) (Nat.le_of_ble_eq_true rfl) (Nat.le_of_ble_eq_true rfl) ?_
  show V 31 [some (.ref 3), some (.int x1)] [.int a2, .ref 3] σ2
  refine h.run (o := [kd 3 = 1, kd 3 = 1, kd 3 = 1, kd 3 = 1, kd 3 = 1, kd 3 = 1, kd 3 = 1]) (ls' := [some (.ref 3), some (.int x1)]) (st' := []) (σ' := setI (setI (setI σ2 3 13 a2) 3 11 (((setI σ2 3 13 a2).1 3 11) + ((setI σ2 3 13 a2).1 3 15))) 3 12 (((setI (setI σ2 3 13 a2) 3 11 (((setI σ2 3 13 a2).1 3 11) + ((setI σ2 3 13 a2).1 3 15))).1 3 12) + ((setI (setI σ2 3 13 a2) 3 11 (((setI σ2 3 13 a2).1 3 11) + ((setI σ2 3 13 a2).1 3 15))).1 3 13))) [(.putfield 46, 3, 0, 0, 1, 13), (.aload_n 0, 1, 0, 0, 0, 0), (.dup, 1, 0, 0, 0, 0), (.getfield 9, 3, 0, 0, 1, 11), (.aload_n 0, 1, 0, 0, 0, 0), (.getfield 83, 3, 0, 0, 1, 15), (.iadd, 1, 0, 0, 0, 0), (.putfield 9, 3, 0, 0, 1, 11), (.aload_n 0, 1, 0, 0, 0, 0), (.dup, 1, 0, 0, 0, 0), (.getfield 15, 3, 0, 0, 1, 12), (.aload_n 0, 1, 0, 0, 0, 0), (.getfield 46, 3, 0, 0, 1, 13), (.iadd, 1, 0, 0, 0, 0), (.putfield 15, 3, 0, 0, 1, 12)] (pc2 := 60) (by decide +kernel) rfl (And.intro kd_3 (And.intro kd_3 (And.intro kd_3 (And.intro kd_3 (And.intro kd_3 (And.intro kd_3 (And.intro kd_3 trivial))))))) ?_
  obtain rfl := Option.some.inj hf
  exact hm.vret (by decide +kernel)
def fX1_keptOver_4 (n : Nat) (x1 : Int32) (x2 : Int32) (x3 : Int32) (σ : ST) : Option (Int32 × ST) := match n with
  | 0 => none
  | n + 1 =>
    if x1 ≤ x3 then
      some (x2, σ)
    else
      bR (fX1_play 0 σ) fun σ1 =>
      fX1_keptOver_4 n x1 (x2 + ((σ1.1 3 15) - (σ1.1 3 13))) (x3 + 1) σ1
set_option maxHeartbeats 4000000 in
theorem wX1_keptOver_4 {l : Launch} {V : Nat → List (Option Value) → List Value → ST → Prop} {r : Int32} {τ : ST} (hm : BM l 1 cX1_keptOver 4 (some .int) 4 81 (some (.int r)) τ V) : ∀ (n : Nat) (x1 : Int32) (x2 : Int32) (x3 : Int32) (σ : ST), fX1_keptOver_4 n x1 x2 x3 σ = some (r, τ) → V 4 [some (.ref 3), some (.int x1), some (.int x2), some (.int x3)] [] σ := by
  have h := hm.bd
  intro n
  induction n with
  | zero => intro x1 x2 x3 σ hf; cases hf
  | succ n ih =>
    intro x1 x2 x3 σ hf
    rw [fX1_keptOver_4] at hf
    refine h.run (o := []) (ls' := [some (.ref 3), some (.int x1), some (.int x2), some (.int x3)]) (st' := [.int x1, .int x3]) (σ' := σ) [(.iload_n 3, 1, 0, 0, 0, 0), (.iload_n 1, 1, 0, 0, 0, 0)] (pc2 := 6) (by decide +kernel) rfl trivial ?_
    refine h.icmp_ge (tgt := 32) (show decode cX1_keptOver 6 = .ok (.if_icmp .ge 26, 3) by decide +kernel) (by decide) (fun c2 => ?_) (fun c2 => ?_)
    · rw [if_pos c2] at hf
      refine h.run (o := []) (ls' := [some (.ref 3), some (.int x1), some (.int x2), some (.int x3)]) (st' := [.int x2]) (σ' := σ) [(.iload_n 2, 1, 0, 0, 0, 0)] (pc2 := 33) (by decide +kernel) rfl trivial ?_
      obtain ⟨rfl, rfl⟩ := Prod.mk.inj (Option.some.inj hf)
      exact hm.iret (by decide +kernel)
    · rw [if_neg c2] at hf
      show V 9 [some (.ref 3), some (.int x1), some (.int x2), some (.int x3)] [] σ
      refine h.run (o := []) (ls' := [some (.ref 3), some (.int x1), some (.int x2), some (.int x3)]) (st' := [.int 0, .ref 3]) (σ' := σ) [(.aload_n 0, 1, 0, 0, 0, 0), (.iconst 0, 1, 0, 0, 0, 0)] (pc2 := 11) (by decide +kernel) rfl trivial ?_
      obtain ⟨σ1, e1, hf⟩ := bR_some hf
      refine h.callV (as := [.int 0]) (rest := []) (by decide +kernel) lk1_90 cwX1_play kd_3 (kmX1_play l e1) rfl (Nat.le_of_ble_eq_true rfl) (Nat.le_of_ble_eq_true rfl) (Nat.le_of_ble_eq_true rfl) ?_
      show V 14 [some (.ref 3), some (.int x1), some (.int x2), some (.int x3)] [] σ1
      refine h.run (o := [kd 3 = 1, kd 3 = 1]) (ls' := [some (.ref 3), some (.int x1), some (.int (x2 + ((σ1.1 3 15) - (σ1.1 3 13)))), some (.int (x3 + 1))]) (st' := []) (σ' := σ1) [(.iload_n 2, 1, 0, 0, 0, 0), (.aload_n 0, 1, 0, 0, 0, 0), (.getfield 83, 3, 0, 0, 1, 15), (.aload_n 0, 1, 0, 0, 0, 0), (.getfield 46, 3, 0, 0, 1, 13), (.isub, 1, 0, 0, 0, 0), (.iadd, 1, 0, 0, 0, 0), (.istore_n 2, 1, 0, 0, 0, 0), (.iinc 3 1, 3, 1, 0, 0, 0), (.goto (-25), 3, 0, 0, 0, 4)] (pc2 := 4) (by decide +kernel) rfl (And.intro kd_3 (And.intro kd_3 trivial)) ?_
      exact ih x1 (x2 + ((σ1.1 3 15) - (σ1.1 3 13))) (x3 + 1) _ hf
def fX1_keptOver (x1 : Int32) (σ : ST) : Option (Int32 × ST) :=
  fX1_keptOver_4 FU x1 0 0 σ
set_option maxHeartbeats 4000000 in
theorem kmX1_keptOver (l : Launch) {x1 : Int32} {σ : ST} {r : Int32} {τ : ST} (hf : fX1_keptOver x1 σ = some (r, τ)) : KM l yX1_keptOver cX1_keptOver 4 (some .int) 4 81 [.ref 3, .int x1] σ (some (.int r)) τ := by
  refine KM.intro (ow := 1) (by decide +kernel) rfl (Nat.le_of_ble_eq_true rfl) (fun V hm => ?_)
  show V 0 [some (.ref 3), some (.int x1), none, none] [] σ
  have h := hm.bd
  unfold fX1_keptOver at hf
  refine h.run (o := []) (ls' := [some (.ref 3), some (.int x1), some (.int 0), some (.int 0)]) (st' := []) (σ' := σ) [(.iconst 0, 1, 0, 0, 0, 0), (.istore_n 2, 1, 0, 0, 0, 0), (.iconst 0, 1, 0, 0, 0, 0), (.istore_n 3, 1, 0, 0, 0, 0)] (pc2 := 4) (by decide +kernel) rfl trivial ?_
  exact wX1_keptOver_4 hm FU x1 0 0 _ hf
def fX1_senderHasBy_55 (t0 : Int32) (t1 : Int32) (σ : ST) : Option (Int32 × ST) :=
  some (t0 + t1, σ)
set_option maxHeartbeats 4000000 in
theorem wX1_senderHasBy_55 {l : Launch} {V : Nat → List (Option Value) → List Value → ST → Prop} {r : Int32} {τ : ST} {σ : ST} {t0 : Int32} {t1 : Int32} (hm : BM l 1 cX1_senderHasBy 3 (some .int) 2 44 (some (.int r)) τ V) (hf : fX1_senderHasBy_55 t0 t1 σ = some (r, τ)) : V 55 [none, none, none] [.int t1, .int t0] σ := by
  have h := hm.bd
  unfold fX1_senderHasBy_55 at hf
  refine h.run (o := []) (ls' := [none, none, none]) (st' := [.int (t0 + t1)]) (σ' := σ) [(.iadd, 1, 0, 0, 0, 0)] (pc2 := 56) (by decide +kernel) rfl trivial ?_
  obtain ⟨rfl, rfl⟩ := Prod.mk.inj (Option.some.inj hf)
  exact hm.iret (by decide +kernel)
def fX1_senderHasBy (x1 : Int32) (σ : ST) : Option (Int32 × ST) :=
  if (σ.1 3 6) = 0 then
    bI (fX1_sendBackOf x1 0 σ) fun a2 σ2 =>
    some (((σ.1 3 0) - x1) + a2, σ2)
  else
    if (σ.1 3 8) ≤ (x1 * (σ.1 3 1)) then
      fX1_senderHasBy_55 (100 * ((σ.1 3 0) - x1)) ((σ.1 3 7) * (x1 * (σ.1 3 1))) σ
    else
      fX1_senderHasBy_55 (100 * ((σ.1 3 0) - x1)) 0 σ
set_option maxHeartbeats 4000000 in
theorem kmX1_senderHasBy (l : Launch) {x1 : Int32} {σ : ST} {r : Int32} {τ : ST} (hf : fX1_senderHasBy x1 σ = some (r, τ)) : KM l yX1_senderHasBy cX1_senderHasBy 3 (some .int) 2 44 [.ref 3, .int x1] σ (some (.int r)) τ := by
  refine KM.intro (ow := 1) (by decide +kernel) rfl (Nat.le_of_ble_eq_true rfl) (fun V hm => ?_)
  show V 0 [some (.ref 3), some (.int x1), none] [] σ
  have h := hm.bd
  unfold fX1_senderHasBy at hf
  refine h.run (o := [kd 3 = 1]) (ls' := [some (.ref 3), some (.int x1), none]) (st' := [.int (σ.1 3 6)]) (σ' := σ) [(.aload_n 0, 1, 0, 0, 0, 0), (.getfield 59, 3, 0, 0, 1, 6)] (pc2 := 4) (by decide +kernel) rfl (And.intro kd_3 trivial) ?_
  refine h.if_ne (tgt := 21) (show decode cX1_senderHasBy 4 = .ok (.ifCond .ne 17, 3) by decide +kernel) (by decide) (fun c3 => ?_) (fun c3 => ?_)
  · rw [if_neg c3] at hf
    refine h.run (o := [kd 3 = 1, kd 3 = 1, kd 3 = 1]) (ls' := [some (.ref 3), some (.int x1), some (.int (x1 * (σ.1 3 1)))]) (st' := [.int (σ.1 3 8), .int (x1 * (σ.1 3 1)), .int (100 * ((σ.1 3 0) - x1))]) (σ' := σ) [(.iload_n 1, 1, 0, 0, 0, 0), (.aload_n 0, 1, 0, 0, 0, 0), (.getfield 62, 3, 0, 0, 1, 1), (.imul, 1, 0, 0, 0, 0), (.istore_n 2, 1, 0, 0, 0, 0), (.bipush 100, 2, 100, 0, 0, 0), (.aload_n 0, 1, 0, 0, 0, 0), (.getfield 37, 3, 0, 0, 1, 0), (.iload_n 1, 1, 0, 0, 0, 0), (.isub, 1, 0, 0, 0, 0), (.imul, 1, 0, 0, 0, 0), (.iload_n 2, 1, 0, 0, 0, 0), (.aload_n 0, 1, 0, 0, 0, 0), (.getfield 71, 3, 0, 0, 1, 8)] (pc2 := 42) (by decide +kernel) rfl (And.intro kd_3 (And.intro kd_3 (And.intro kd_3 trivial))) ?_
    refine h.icmp_ge (tgt := 49) (show decode cX1_senderHasBy 42 = .ok (.if_icmp .ge 7, 3) by decide +kernel) (by decide) (fun c1 => ?_) (fun c1 => ?_)
    · rw [if_pos c1] at hf
      refine h.run (o := [kd 3 = 1]) (ls' := [some (.ref 3), some (.int x1), some (.int (x1 * (σ.1 3 1)))]) (st' := [.int ((σ.1 3 7) * (x1 * (σ.1 3 1))), .int (100 * ((σ.1 3 0) - x1))]) (σ' := σ) [(.aload_n 0, 1, 0, 0, 0, 0), (.getfield 74, 3, 0, 0, 1, 7), (.iload_n 2, 1, 0, 0, 0, 0), (.imul, 1, 0, 0, 0, 0)] (pc2 := 55) (by decide +kernel) rfl (And.intro kd_3 trivial) ?_
      refine h.drop (ls' := [none, none, none]) trivial ?_
      exact wX1_senderHasBy_55 hm hf
    · rw [if_neg c1] at hf
      show V 45 [some (.ref 3), some (.int x1), some (.int (x1 * (σ.1 3 1)))] [.int (100 * ((σ.1 3 0) - x1))] σ
      refine h.run (o := []) (ls' := [some (.ref 3), some (.int x1), some (.int (x1 * (σ.1 3 1)))]) (st' := [.int 0, .int (100 * ((σ.1 3 0) - x1))]) (σ' := σ) [(.iconst 0, 1, 0, 0, 0, 0), (.goto 9, 3, 0, 0, 0, 55)] (pc2 := 55) (by decide +kernel) rfl trivial ?_
      refine h.drop (ls' := [none, none, none]) trivial ?_
      exact wX1_senderHasBy_55 hm hf
  · rw [if_pos c3] at hf
    show V 7 [some (.ref 3), some (.int x1), none] [] σ
    refine h.run (o := [kd 3 = 1]) (ls' := [some (.ref 3), some (.int x1), none]) (st' := [.int 0, .int x1, .ref 3, .int ((σ.1 3 0) - x1)]) (σ' := σ) [(.aload_n 0, 1, 0, 0, 0, 0), (.getfield 37, 3, 0, 0, 1, 0), (.iload_n 1, 1, 0, 0, 0, 0), (.isub, 1, 0, 0, 0, 0), (.aload_n 0, 1, 0, 0, 0, 0), (.iload_n 1, 1, 0, 0, 0, 0), (.iconst 0, 1, 0, 0, 0, 0)] (pc2 := 16) (by decide +kernel) rfl (And.intro kd_3 trivial) ?_
    obtain ⟨a2, σ2, e2, hf⟩ := bI_some hf
    refine h.callV (as := [.int x1, .int 0]) (rest := [.int ((σ.1 3 0) - x1)]) (by decide +kernel) lk1_86 cwX1_sendBackOf kd_3 (kmX1_sendBackOf l e2) rfl (Nat.le_of_ble_eq_true rfl) (Nat.le_of_ble_eq_true rfl) (Nat.le_of_ble_eq_true rfl) ?_
    show V 19 [some (.ref 3), some (.int x1), none] [.int a2, .int ((σ.1 3 0) - x1)] σ2
    refine h.run (o := []) (ls' := [some (.ref 3), some (.int x1), none]) (st' := [.int (((σ.1 3 0) - x1) + a2)]) (σ' := σ2) [(.iadd, 1, 0, 0, 0, 0)] (pc2 := 20) (by decide +kernel) rfl trivial ?_
    obtain ⟨rfl, rfl⟩ := Prod.mk.inj (Option.some.inj hf)
    exact hm.iret (by decide +kernel)
def fX1_faceOneWhoKeepsAll (σ : ST) : Option ST :=
  some (setI (setI (setI (setI (setI σ 3 6 0) 3 10 0) 3 11 1) 3 12 0) 3 13 (-1))
set_option maxHeartbeats 4000000 in
theorem kmX1_faceOneWhoKeepsAll (l : Launch) {σ : ST} {τ : ST} (hf : fX1_faceOneWhoKeepsAll σ = some τ) : KM l yX1_faceOneWhoKeepsAll cX1_faceOneWhoKeepsAll 1 none 0 0 [.ref 3] σ none τ := by
  refine KM.intro (ow := 1) (by decide +kernel) rfl (Nat.le_of_ble_eq_true rfl) (fun V hm => ?_)
  show V 0 [some (.ref 3)] [] σ
  have h := hm.bd
  unfold fX1_faceOneWhoKeepsAll at hf
  refine h.run (o := [kd 3 = 1, kd 3 = 1, kd 3 = 1, kd 3 = 1, kd 3 = 1]) (ls' := [some (.ref 3)]) (st' := []) (σ' := setI (setI (setI (setI (setI σ 3 6 0) 3 10 0) 3 11 1) 3 12 0) 3 13 (-1)) [(.aload_n 0, 1, 0, 0, 0, 0), (.iconst 0, 1, 0, 0, 0, 0), (.putfield 59, 3, 0, 0, 1, 6), (.aload_n 0, 1, 0, 0, 0, 0), (.iconst 0, 1, 0, 0, 0, 0), (.putfield 56, 3, 0, 0, 1, 10), (.aload_n 0, 1, 0, 0, 0, 0), (.iconst 1, 1, 1, 0, 0, 0), (.putfield 9, 3, 0, 0, 1, 11), (.aload_n 0, 1, 0, 0, 0, 0), (.iconst 0, 1, 0, 0, 0, 0), (.putfield 15, 3, 0, 0, 1, 12), (.aload_n 0, 1, 0, 0, 0, 0), (.iconst (-1), 1, (-1), 0, 0, 0), (.putfield 46, 3, 0, 0, 1, 13)] (pc2 := 25) (by decide +kernel) rfl (And.intro kd_3 (And.intro kd_3 (And.intro kd_3 (And.intro kd_3 (And.intro kd_3 trivial))))) ?_
  obtain rfl := Option.some.inj hf
  exact hm.vret (by decide +kernel)
