/-! Printed by wip/whole/prt.py: functions and walks. -/
def fX6_thrown (σ : ST) : Option Int32 :=
  some (σ.1 36 23)
set_option maxHeartbeats 4000000 in
theorem kmX6_thrown (l : Launch) {σ : ST} {r : Int32} (hf : fX6_thrown σ = some r) : KM l yX6_thrown cX6_thrown 1 (some .int) 0 0 [.ref 36] σ (some (.int r)) σ := by
  refine KM.intro (ow := 6) (by decide +kernel) rfl (Nat.le_of_ble_eq_true rfl) (fun V hm => ?_)
  show V 0 [some (.ref 36)] [] σ
  have h := hm.bd
  unfold fX6_thrown at hf
  refine h.run (o := [kd 36 = 6]) (ls' := [some (.ref 36)]) (st' := [.int (σ.1 36 23)]) (σ' := σ) [(.aload_n 0, 1, 0, 0, 0, 0), (.getfield 112, 3, 0, 0, 6, 23)] (pc2 := 4) (by decide +kernel) rfl (And.intro kd_36 trivial) ?_
  obtain rfl := Option.some.inj hf
  exact hm.iret (by decide +kernel)
def fX6_in_18 (t0 : Int32) (σ : ST) : Option Int32 :=
  gd (isb t0) <|
  some t0
set_option maxHeartbeats 4000000 in
theorem wX6_in_18 {l : Launch} {V : Nat → List (Option Value) → List Value → ST → Prop} {r : Int32} {σ : ST} {t0 : Int32} (hm : BM l 6 cX6_in 6 (some .boolean) 0 0 (some (.int r)) σ V) (hf : fX6_in_18 t0 σ = some r) : V 18 [none, none, none, none, none, none] [.int t0] σ := by
  have h := hm.bd
  unfold fX6_in_18 at hf
  obtain ⟨g1, hf⟩ := gd_some hf
  obtain rfl := Option.some.inj hf
  exact hm.zret (by decide +kernel) g1
def fX6_in_17 (σ : ST) : Option Int32 :=
  fX6_in_18 0 σ
set_option maxHeartbeats 4000000 in
theorem wX6_in_17 {l : Launch} {V : Nat → List (Option Value) → List Value → ST → Prop} {r : Int32} {σ : ST} (hm : BM l 6 cX6_in 6 (some .boolean) 0 0 (some (.int r)) σ V) (hf : fX6_in_17 σ = some r) : V 17 [none, none, none, none, none, none] [] σ := by
  have h := hm.bd
  unfold fX6_in_17 at hf
  refine h.run (o := []) (ls' := [none, none, none, none, none, none]) (st' := [.int 0]) (σ' := σ) [(.iconst 0, 1, 0, 0, 0, 0)] (pc2 := 18) (by decide +kernel) rfl trivial ?_
  exact wX6_in_18 hm hf
def fX6_in (x0 : Int64) (x2 : Int64) (x4 : Int64) (σ : ST) : Option Int32 :=
  if (lg_cmp x0 x2) < 0 then
    fX6_in_17 σ
  else
    if 0 < (lg_cmp x0 x4) then
      fX6_in_17 σ
    else
      fX6_in_18 1 σ
set_option maxHeartbeats 4000000 in
theorem kmX6_in (l : Launch) {x0 : Int64} {x2 : Int64} {x4 : Int64} {σ : ST} {r : Int32} (hf : fX6_in x0 x2 x4 σ = some r) : KM l yX6_in cX6_in 6 (some .boolean) 0 0 [.long x0, .long x2, .long x4] σ (some (.int r)) σ := by
  refine KM.intro (ow := 6) (by decide +kernel) rfl (Nat.le_of_ble_eq_true rfl) (fun V hm => ?_)
  show V 0 [some (.long x0), none, some (.long x2), none, some (.long x4), none] [] σ
  have h := hm.bd
  unfold fX6_in at hf
  refine h.run (o := []) (ls' := [some (.long x0), none, some (.long x2), none, some (.long x4), none]) (st' := [.int (lg_cmp x0 x2)]) (σ' := σ) [(.lload_n 0, 1, 0, 0, 0, 0), (.lload_n 2, 1, 0, 0, 0, 0), (.lcmp, 1, 0, 0, 0, 0)] (pc2 := 3) (by decide +kernel) rfl trivial ?_
  refine h.if_lt (tgt := 17) (show decode cX6_in 3 = .ok (.ifCond .lt 14, 3) by decide +kernel) (by decide) (fun c2 => ?_) (fun c2 => ?_)
  · rw [if_pos c2] at hf
    refine h.drop (ls' := [none, none, none, none, none, none]) trivial ?_
    exact wX6_in_17 hm hf
  · rw [if_neg c2] at hf
    show V 6 [some (.long x0), none, some (.long x2), none, some (.long x4), none] [] σ
    refine h.run (o := []) (ls' := [some (.long x0), none, some (.long x2), none, some (.long x4), none]) (st' := [.int (lg_cmp x0 x4)]) (σ' := σ) [(.lload_n 0, 1, 0, 0, 0, 0), (.lload 4, 2, 0, 0, 0, 0), (.lcmp, 1, 0, 0, 0, 0)] (pc2 := 10) (by decide +kernel) rfl trivial ?_
    refine h.if_gt (tgt := 17) (show decode cX6_in 10 = .ok (.ifCond .gt 7, 3) by decide +kernel) (by decide) (fun c1 => ?_) (fun c1 => ?_)
    · rw [if_pos c1] at hf
      refine h.drop (ls' := [none, none, none, none, none, none]) trivial ?_
      exact wX6_in_17 hm hf
    · rw [if_neg c1] at hf
      show V 13 [some (.long x0), none, some (.long x2), none, some (.long x4), none] [] σ
      refine h.run (o := []) (ls' := [some (.long x0), none, some (.long x2), none, some (.long x4), none]) (st' := [.int 1]) (σ' := σ) [(.iconst 1, 1, 1, 0, 0, 0), (.goto 4, 3, 0, 0, 0, 18)] (pc2 := 18) (by decide +kernel) rfl trivial ?_
      refine h.drop (ls' := [none, none, none, none, none, none]) trivial ?_
      exact wX6_in_18 hm hf
def fX6_far (x0 : Int32) (σ : ST) : Option Int32 :=
  some (x0 - 1000000000)
set_option maxHeartbeats 4000000 in
theorem kmX6_far (l : Launch) {x0 : Int32} {σ : ST} {r : Int32} (hf : fX6_far x0 σ = some r) : KM l yX6_far cX6_far 1 (some .int) 0 0 [.int x0] σ (some (.int r)) σ := by
  refine KM.intro (ow := 6) (by decide +kernel) rfl (Nat.le_of_ble_eq_true rfl) (fun V hm => ?_)
  show V 0 [some (.int x0)] [] σ
  have h := hm.bd
  unfold fX6_far at hf
  refine h.run (o := []) (ls' := [some (.int x0)]) (st' := [.int (x0 - 1000000000)]) (σ' := σ) [(.iload_n 0, 1, 0, 0, 0, 0), (.ldc 115, 2, 1000000000, 0, 0, 0), (.isub, 1, 0, 0, 0, 0)] (pc2 := 4) (by decide +kernel) rfl trivial ?_
  obtain rfl := Option.some.inj hf
  exact hm.iret (by decide +kernel)
def fX6_isSender (x1 : Int32) (σ : ST) : Option Int32 :=
  bR (fX6_in x1.toInt64 0 (((σ.1 36 3) - 1).toInt64) σ) fun a1 =>
  gd (isb a1) <|
  some a1
set_option maxHeartbeats 4000000 in
theorem kmX6_isSender (l : Launch) {x1 : Int32} {σ : ST} {r : Int32} (hf : fX6_isSender x1 σ = some r) : KM l yX6_isSender cX6_isSender 2 (some .boolean) 1 25 [.ref 36, .int x1] σ (some (.int r)) σ := by
  refine KM.intro (ow := 6) (by decide +kernel) rfl (Nat.le_of_ble_eq_true rfl) (fun V hm => ?_)
  show V 0 [some (.ref 36), some (.int x1)] [] σ
  have h := hm.bd
  unfold fX6_isSender at hf
  refine h.run (o := [kd 36 = 6]) (ls' := [some (.ref 36), some (.int x1)]) (st' := [.long (((σ.1 36 3) - 1).toInt64), .long 0, .long x1.toInt64]) (σ' := σ) [(.iload_n 1, 1, 0, 0, 0, 0), (.i2l, 1, 0, 0, 0, 0), (.lconst 0, 1, 0, 0, 0, 0), (.aload_n 0, 1, 0, 0, 0, 0), (.getfield 116, 3, 0, 0, 6, 3), (.iconst 1, 1, 1, 0, 0, 0), (.isub, 1, 0, 0, 0, 0), (.i2l, 1, 0, 0, 0, 0)] (pc2 := 10) (by decide +kernel) rfl (And.intro kd_36 trivial) ?_
  obtain ⟨a1, e1, hf⟩ := bR_some hf
  refine h.callS (as := [.long x1.toInt64, .long 0, .long (((σ.1 36 3) - 1).toInt64)]) (rest := []) (by decide +kernel) lk6_119 cwX6_in (kmX6_in l e1) rfl (Nat.le_of_ble_eq_true rfl) (Nat.le_of_ble_eq_true rfl) (Nat.le_of_ble_eq_true rfl) ?_
  show V 13 [some (.ref 36), some (.int x1)] [.int a1] σ
  obtain ⟨g2, hf⟩ := gd_some hf
  obtain rfl := Option.some.inj hf
  exact hm.zret (by decide +kernel) g2
def fX6_isReturner (x1 : Int32) (σ : ST) : Option Int32 :=
  bR (fX6_in x1.toInt64 0 (((σ.1 36 7) - 1).toInt64) σ) fun a1 =>
  gd (isb a1) <|
  some a1
set_option maxHeartbeats 4000000 in
theorem kmX6_isReturner (l : Launch) {x1 : Int32} {σ : ST} {r : Int32} (hf : fX6_isReturner x1 σ = some r) : KM l yX6_isReturner cX6_isReturner 2 (some .boolean) 1 25 [.ref 36, .int x1] σ (some (.int r)) σ := by
  refine KM.intro (ow := 6) (by decide +kernel) rfl (Nat.le_of_ble_eq_true rfl) (fun V hm => ?_)
  show V 0 [some (.ref 36), some (.int x1)] [] σ
  have h := hm.bd
  unfold fX6_isReturner at hf
  refine h.run (o := [kd 36 = 6]) (ls' := [some (.ref 36), some (.int x1)]) (st' := [.long (((σ.1 36 7) - 1).toInt64), .long 0, .long x1.toInt64]) (σ' := σ) [(.iload_n 1, 1, 0, 0, 0, 0), (.i2l, 1, 0, 0, 0, 0), (.lconst 0, 1, 0, 0, 0, 0), (.aload_n 0, 1, 0, 0, 0, 0), (.getfield 123, 3, 0, 0, 6, 7), (.iconst 1, 1, 1, 0, 0, 0), (.isub, 1, 0, 0, 0, 0), (.i2l, 1, 0, 0, 0, 0)] (pc2 := 10) (by decide +kernel) rfl (And.intro kd_36 trivial) ?_
  obtain ⟨a1, e1, hf⟩ := bR_some hf
  refine h.callS (as := [.long x1.toInt64, .long 0, .long (((σ.1 36 7) - 1).toInt64)]) (rest := []) (by decide +kernel) lk6_119 cwX6_in (kmX6_in l e1) rfl (Nat.le_of_ble_eq_true rfl) (Nat.le_of_ble_eq_true rfl) (Nat.le_of_ble_eq_true rfl) ?_
  show V 13 [some (.ref 36), some (.int x1)] [.int a1] σ
  obtain ⟨g2, hf⟩ := gd_some hf
  obtain rfl := Option.some.inj hf
  exact hm.zret (by decide +kernel) g2
def fX6_here_34 (t0 : Int32) (σ : ST) : Option Int32 :=
  some t0
set_option maxHeartbeats 4000000 in
theorem wX6_here_34 {l : Launch} {V : Nat → List (Option Value) → List Value → ST → Prop} {r : Int32} {σ : ST} {t0 : Int32} (hm : BM l 6 cX6_here 1 (some .int) 0 0 (some (.int r)) σ V) (hf : fX6_here_34 t0 σ = some r) : V 34 [none] [.int t0] σ := by
  have h := hm.bd
  unfold fX6_here_34 at hf
  obtain rfl := Option.some.inj hf
  exact hm.iret (by decide +kernel)
def fX6_here (σ : ST) : Option Int32 :=
  if (σ.1 36 26) < (σ.1 36 25) then
    gd (inb ((σ.1 36 24) + (σ.1 36 26)) (alen 65)) <|
    fX6_here_34 (((σ.2 65 (((σ.1 36 24) + (σ.1 36 26)).toNatClampNeg)).toInt32) &&& 255) σ
  else
    fX6_here_34 (-1) σ
set_option maxHeartbeats 4000000 in
theorem kmX6_here (l : Launch) {σ : ST} {r : Int32} (hf : fX6_here σ = some r) : KM l yX6_here cX6_here 1 (some .int) 0 0 [.ref 36] σ (some (.int r)) σ := by
  refine KM.intro (ow := 6) (by decide +kernel) rfl (Nat.le_of_ble_eq_true rfl) (fun V hm => ?_)
  show V 0 [some (.ref 36)] [] σ
  have h := hm.bd
  unfold fX6_here at hf
  refine h.run (o := [kd 36 = 6, kd 36 = 6]) (ls' := [some (.ref 36)]) (st' := [.int (σ.1 36 25), .int (σ.1 36 26)]) (σ' := σ) [(.aload_n 0, 1, 0, 0, 0, 0), (.getfield 126, 3, 0, 0, 6, 26), (.aload_n 0, 1, 0, 0, 0, 0), (.getfield 129, 3, 0, 0, 6, 25)] (pc2 := 8) (by decide +kernel) rfl (And.intro kd_36 (And.intro kd_36 trivial)) ?_
  refine h.icmp_lt (tgt := 15) (show decode cX6_here 8 = .ok (.if_icmp .lt 7, 3) by decide +kernel) (by decide) (fun c2 => ?_) (fun c2 => ?_)
  · rw [if_pos c2] at hf
    obtain ⟨g1, hf⟩ := gd_some hf
    refine h.run (o := [kd 36 = 6, kd 36 = 6, kd 36 = 6, kd 65 = 12, inb ((σ.1 36 24) + (σ.1 36 26)) (alen 65) = true]) (ls' := [some (.ref 36)]) (st' := [.int (((σ.2 65 (((σ.1 36 24) + (σ.1 36 26)).toNatClampNeg)).toInt32) &&& 255)]) (σ' := σ) [(.aload_n 0, 1, 0, 0, 0, 0), (.getfield 105, 3, 0, 0, 6, 45), (.aload_n 0, 1, 0, 0, 0, 0), (.getfield 132, 3, 0, 0, 6, 24), (.aload_n 0, 1, 0, 0, 0, 0), (.getfield 126, 3, 0, 0, 6, 26), (.iadd, 1, 0, 0, 0, 0), (.laload, 1, 0, 0, 0, 0), (.l2i, 1, 0, 0, 0, 0), (.sipush 255, 3, 255, 0, 0, 0), (.iand, 1, 0, 0, 0, 0)] (pc2 := 34) (by decide +kernel) rfl (And.intro kd_36 (And.intro kd_36 (And.intro kd_36 (And.intro kd_65 (And.intro g1 trivial))))) ?_
    refine h.drop (ls' := [none]) trivial ?_
    exact wX6_here_34 hm hf
  · rw [if_neg c2] at hf
    show V 11 [some (.ref 36)] [] σ
    refine h.run (o := []) (ls' := [some (.ref 36)]) (st' := [.int (-1)]) (σ' := σ) [(.iconst (-1), 1, (-1), 0, 0, 0), (.goto 22, 3, 0, 0, 0, 34)] (pc2 := 34) (by decide +kernel) rfl trivial ?_
    refine h.drop (ls' := [none]) trivial ?_
    exact wX6_here_34 hm hf
def fX6_take_41 (t1 : Int32) (t2 : Int32) (σ : ST) : Option ST :=
  some (setI σ 36 26 (t1 + t2))
set_option maxHeartbeats 4000000 in
theorem wX6_take_41 {l : Launch} {V : Nat → List (Option Value) → List Value → ST → Prop} {τ : ST} {σ : ST} {t1 : Int32} {t2 : Int32} (hm : BM l 6 cX6_take 2 none 1 20 none τ V) (hf : fX6_take_41 t1 t2 σ = some τ) : V 41 [none, none] [.int t2, .int t1, .ref 36] σ := by
  have h := hm.bd
  unfold fX6_take_41 at hf
  refine h.run (o := [kd 36 = 6]) (ls' := [none, none]) (st' := []) (σ' := setI σ 36 26 (t1 + t2)) [(.iadd, 1, 0, 0, 0, 0), (.putfield 126, 3, 0, 0, 6, 26)] (pc2 := 45) (by decide +kernel) rfl (And.intro kd_36 trivial) ?_
  obtain rfl := Option.some.inj hf
  exact hm.vret (by decide +kernel)
def fX6_take_21 (t1 : Int32) (σ : ST) : Option ST :=
  gd (isb t1) <|
  if ((setI σ 36 27 t1).1 36 27) = 0 then
    fX6_take_41 ((setI σ 36 27 t1).1 36 26) 1 (setI σ 36 27 t1)
  else
    fX6_take_41 ((setI σ 36 27 t1).1 36 26) 0 (setI σ 36 27 t1)
set_option maxHeartbeats 4000000 in
theorem wX6_take_21 {l : Launch} {V : Nat → List (Option Value) → List Value → ST → Prop} {τ : ST} {σ : ST} {t1 : Int32} (hm : BM l 6 cX6_take 2 none 1 20 none τ V) (hf : fX6_take_21 t1 σ = some τ) : V 21 [some (.ref 36), none] [.int t1, .ref 36] σ := by
  have h := hm.bd
  unfold fX6_take_21 at hf
  obtain ⟨g1, hf⟩ := gd_some hf
  refine h.run (o := [kd 36 = 6, isb t1 = true, kd 36 = 6, kd 36 = 6]) (ls' := [some (.ref 36), none]) (st' := [.int ((setI σ 36 27 t1).1 36 27), .int ((setI σ 36 27 t1).1 36 26), .ref 36]) (σ' := setI σ 36 27 t1) [(.putfield 135, 3, 0, 0, 106, 27), (.aload_n 0, 1, 0, 0, 0, 0), (.dup, 1, 0, 0, 0, 0), (.getfield 126, 3, 0, 0, 6, 26), (.aload_n 0, 1, 0, 0, 0, 0), (.getfield 135, 3, 0, 0, 6, 27)] (pc2 := 33) (by decide +kernel) rfl (And.intro kd_36 (And.intro g1 (And.intro kd_36 (And.intro kd_36 trivial)))) ?_
  refine h.if_eq (tgt := 40) (show decode cX6_take 33 = .ok (.ifCond .eq 7, 3) by decide +kernel) (by decide) (fun c2 => ?_) (fun c2 => ?_)
  · rw [if_pos c2] at hf
    refine h.run (o := []) (ls' := [some (.ref 36), none]) (st' := [.int 1, .int ((setI σ 36 27 t1).1 36 26), .ref 36]) (σ' := setI σ 36 27 t1) [(.iconst 1, 1, 1, 0, 0, 0)] (pc2 := 41) (by decide +kernel) rfl trivial ?_
    refine h.drop (ls' := [none, none]) trivial ?_
    exact wX6_take_41 hm hf
  · rw [if_neg c2] at hf
    show V 36 [some (.ref 36), none] [.int ((setI σ 36 27 t1).1 36 26), .ref 36] (setI σ 36 27 t1)
    refine h.run (o := []) (ls' := [some (.ref 36), none]) (st' := [.int 0, .int ((setI σ 36 27 t1).1 36 26), .ref 36]) (σ' := setI σ 36 27 t1) [(.iconst 0, 1, 0, 0, 0, 0), (.goto 4, 3, 0, 0, 0, 41)] (pc2 := 41) (by decide +kernel) rfl trivial ?_
    refine h.drop (ls' := [none, none]) trivial ?_
    exact wX6_take_41 hm hf
def fX6_take_16 (σ : ST) : Option ST :=
  fX6_take_21 1 σ
set_option maxHeartbeats 4000000 in
theorem wX6_take_16 {l : Launch} {V : Nat → List (Option Value) → List Value → ST → Prop} {τ : ST} {σ : ST} (hm : BM l 6 cX6_take 2 none 1 20 none τ V) (hf : fX6_take_16 σ = some τ) : V 16 [some (.ref 36), none] [.ref 36] σ := by
  have h := hm.bd
  unfold fX6_take_16 at hf
  refine h.run (o := []) (ls' := [some (.ref 36), none]) (st' := [.int 1, .ref 36]) (σ' := σ) [(.iconst 1, 1, 1, 0, 0, 0), (.goto 4, 3, 0, 0, 0, 21)] (pc2 := 21) (by decide +kernel) rfl trivial ?_
  exact wX6_take_21 hm hf
def fX6_take (x1 : Int32) (σ : ST) : Option ST :=
  if (σ.1 36 27) = 0 then
    bR (fX6_here σ) fun a1 =>
    if a1 = x1 then
      fX6_take_21 0 σ
    else
      fX6_take_16 σ
  else
    fX6_take_16 σ
set_option maxHeartbeats 4000000 in
theorem kmX6_take (l : Launch) {x1 : Int32} {σ : ST} {τ : ST} (hf : fX6_take x1 σ = some τ) : KM l yX6_take cX6_take 2 none 1 20 [.ref 36, .int x1] σ none τ := by
  refine KM.intro (ow := 6) (by decide +kernel) rfl (Nat.le_of_ble_eq_true rfl) (fun V hm => ?_)
  show V 0 [some (.ref 36), some (.int x1)] [] σ
  have h := hm.bd
  unfold fX6_take at hf
  refine h.run (o := [kd 36 = 6]) (ls' := [some (.ref 36), some (.int x1)]) (st' := [.int (σ.1 36 27), .ref 36]) (σ' := σ) [(.aload_n 0, 1, 0, 0, 0, 0), (.aload_n 0, 1, 0, 0, 0, 0), (.getfield 135, 3, 0, 0, 6, 27)] (pc2 := 5) (by decide +kernel) rfl (And.intro kd_36 trivial) ?_
  refine h.if_ne (tgt := 16) (show decode cX6_take 5 = .ok (.ifCond .ne 11, 3) by decide +kernel) (by decide) (fun c3 => ?_) (fun c3 => ?_)
  · rw [if_neg c3] at hf
    refine h.drop (ls' := [some (.ref 36), none]) (And.intro rfl trivial) ?_
    exact wX6_take_16 hm hf
  · rw [if_pos c3] at hf
    show V 8 [some (.ref 36), some (.int x1)] [.ref 36] σ
    refine h.run (o := []) (ls' := [some (.ref 36), some (.int x1)]) (st' := [.ref 36, .ref 36]) (σ' := σ) [(.aload_n 0, 1, 0, 0, 0, 0)] (pc2 := 9) (by decide +kernel) rfl trivial ?_
    obtain ⟨a1, e1, hf⟩ := bR_some hf
    refine h.callV (as := []) (rest := [.ref 36]) (by decide +kernel) lk6_139 cwX6_here kd_36 (kmX6_here l e1) rfl (Nat.le_of_ble_eq_true rfl) (Nat.le_of_ble_eq_true rfl) (Nat.le_of_ble_eq_true rfl) ?_
    show V 12 [some (.ref 36), some (.int x1)] [.int a1, .ref 36] σ
    refine h.run (o := []) (ls' := [some (.ref 36), some (.int x1)]) (st' := [.int x1, .int a1, .ref 36]) (σ' := σ) [(.iload_n 1, 1, 0, 0, 0, 0)] (pc2 := 13) (by decide +kernel) rfl trivial ?_
    refine h.icmp_eq (tgt := 20) (show decode cX6_take 13 = .ok (.if_icmp .eq 7, 3) by decide +kernel) (by decide) (fun c2 => ?_) (fun c2 => ?_)
    · rw [if_pos c2] at hf
      refine h.run (o := []) (ls' := [some (.ref 36), some (.int x1)]) (st' := [.int 0, .ref 36]) (σ' := σ) [(.iconst 0, 1, 0, 0, 0, 0)] (pc2 := 21) (by decide +kernel) rfl trivial ?_
      refine h.drop (ls' := [some (.ref 36), none]) (And.intro rfl trivial) ?_
      exact wX6_take_21 hm hf
    · rw [if_neg c2] at hf
      show V 16 [some (.ref 36), some (.int x1)] [.ref 36] σ
      refine h.drop (ls' := [some (.ref 36), none]) (And.intro rfl trivial) ?_
      exact wX6_take_16 hm hf
def fX6_readDigit_30 (t1 : Int32) (σ : ST) : Option (Int32 × ST) :=
  gd (isb t1) <|
  if ((setI σ 36 27 t1).1 36 27) = 0 then
    gd (inb ((((setI (setI σ 36 27 t1) 36 26 (((setI σ 36 27 t1).1 36 26) + 1)).1 36 24) + ((setI (setI σ 36 27 t1) 36 26 (((setI σ 36 27 t1).1 36 26) + 1)).1 36 26)) - 1) (alen 65)) <|
    some ((((setI (setI σ 36 27 t1) 36 26 (((setI σ 36 27 t1).1 36 26) + 1)).2 65 (((((setI (setI σ 36 27 t1) 36 26 (((setI σ 36 27 t1).1 36 26) + 1)).1 36 24) + ((setI (setI σ 36 27 t1) 36 26 (((setI σ 36 27 t1).1 36 26) + 1)).1 36 26)) - 1).toNatClampNeg)).toInt32) - 48, setI (setI σ 36 27 t1) 36 26 (((setI σ 36 27 t1).1 36 26) + 1))
  else
    some (0, setI σ 36 27 t1)
set_option maxHeartbeats 4000000 in
theorem wX6_readDigit_30 {l : Launch} {V : Nat → List (Option Value) → List Value → ST → Prop} {r : Int32} {τ : ST} {σ : ST} {t1 : Int32} (hm : BM l 6 cX6_readDigit 1 (some .int) 1 25 (some (.int r)) τ V) (hf : fX6_readDigit_30 t1 σ = some (r, τ)) : V 30 [some (.ref 36)] [.int t1, .ref 36] σ := by
  have h := hm.bd
  unfold fX6_readDigit_30 at hf
  obtain ⟨g1, hf⟩ := gd_some hf
  refine h.run (o := [kd 36 = 6, isb t1 = true, kd 36 = 6]) (ls' := [some (.ref 36)]) (st' := [.int ((setI σ 36 27 t1).1 36 27)]) (σ' := setI σ 36 27 t1) [(.putfield 135, 3, 0, 0, 106, 27), (.aload_n 0, 1, 0, 0, 0, 0), (.getfield 135, 3, 0, 0, 6, 27)] (pc2 := 37) (by decide +kernel) rfl (And.intro kd_36 (And.intro g1 (And.intro kd_36 trivial))) ?_
  refine h.if_eq (tgt := 42) (show decode cX6_readDigit 37 = .ok (.ifCond .eq 5, 3) by decide +kernel) (by decide) (fun c3 => ?_) (fun c3 => ?_)
  · rw [if_pos c3] at hf
    obtain ⟨g2, hf⟩ := gd_some hf
    refine h.run (o := [kd 36 = 6, kd 36 = 6, kd 36 = 6, kd 36 = 6, kd 36 = 6, kd 65 = 12, inb ((((setI (setI σ 36 27 t1) 36 26 (((setI σ 36 27 t1).1 36 26) + 1)).1 36 24) + ((setI (setI σ 36 27 t1) 36 26 (((setI σ 36 27 t1).1 36 26) + 1)).1 36 26)) - 1) (alen 65) = true]) (ls' := [some (.ref 36)]) (st' := [.int ((((setI (setI σ 36 27 t1) 36 26 (((setI σ 36 27 t1).1 36 26) + 1)).2 65 (((((setI (setI σ 36 27 t1) 36 26 (((setI σ 36 27 t1).1 36 26) + 1)).1 36 24) + ((setI (setI σ 36 27 t1) 36 26 (((setI σ 36 27 t1).1 36 26) + 1)).1 36 26)) - 1).toNatClampNeg)).toInt32) - 48)]) (σ' := setI (setI σ 36 27 t1) 36 26 (((setI σ 36 27 t1).1 36 26) + 1)) [(.aload_n 0, 1, 0, 0, 0, 0), (.dup, 1, 0, 0, 0, 0), (.getfield 126, 3, 0, 0, 6, 26), (.iconst 1, 1, 1, 0, 0, 0), (.iadd, 1, 0, 0, 0, 0), (.putfield 126, 3, 0, 0, 6, 26), (.aload_n 0, 1, 0, 0, 0, 0), (.getfield 105, 3, 0, 0, 6, 45), (.aload_n 0, 1, 0, 0, 0, 0), (.getfield 132, 3, 0, 0, 6, 24), (.aload_n 0, 1, 0, 0, 0, 0), (.getfield 126, 3, 0, 0, 6, 26), (.iadd, 1, 0, 0, 0, 0), (.iconst 1, 1, 1, 0, 0, 0), (.isub, 1, 0, 0, 0, 0), (.laload, 1, 0, 0, 0, 0), (.l2i, 1, 0, 0, 0, 0), (.bipush 48, 2, 48, 0, 0, 0), (.isub, 1, 0, 0, 0, 0)] (pc2 := 72) (by decide +kernel) rfl (And.intro kd_36 (And.intro kd_36 (And.intro kd_36 (And.intro kd_36 (And.intro kd_36 (And.intro kd_65 (And.intro g2 trivial))))))) ?_
    obtain ⟨rfl, rfl⟩ := Prod.mk.inj (Option.some.inj hf)
    exact hm.iret (by decide +kernel)
  · rw [if_neg c3] at hf
    show V 40 [some (.ref 36)] [] (setI σ 36 27 t1)
    refine h.run (o := []) (ls' := [some (.ref 36)]) (st' := [.int 0]) (σ' := setI σ 36 27 t1) [(.iconst 0, 1, 0, 0, 0, 0)] (pc2 := 41) (by decide +kernel) rfl trivial ?_
    obtain ⟨rfl, rfl⟩ := Prod.mk.inj (Option.some.inj hf)
    exact hm.iret (by decide +kernel)
def fX6_readDigit_25 (σ : ST) : Option (Int32 × ST) :=
  fX6_readDigit_30 1 σ
set_option maxHeartbeats 4000000 in
theorem wX6_readDigit_25 {l : Launch} {V : Nat → List (Option Value) → List Value → ST → Prop} {r : Int32} {τ : ST} {σ : ST} (hm : BM l 6 cX6_readDigit 1 (some .int) 1 25 (some (.int r)) τ V) (hf : fX6_readDigit_25 σ = some (r, τ)) : V 25 [some (.ref 36)] [.ref 36] σ := by
  have h := hm.bd
  unfold fX6_readDigit_25 at hf
  refine h.run (o := []) (ls' := [some (.ref 36)]) (st' := [.int 1, .ref 36]) (σ' := σ) [(.iconst 1, 1, 1, 0, 0, 0), (.goto 4, 3, 0, 0, 0, 30)] (pc2 := 30) (by decide +kernel) rfl trivial ?_
  exact wX6_readDigit_30 hm hf
def fX6_readDigit (σ : ST) : Option (Int32 × ST) :=
  if (σ.1 36 27) = 0 then
    bR (fX6_here σ) fun a1 =>
    bR (fX6_in a1.toInt64 48 57 σ) fun a2 =>
    if a2 = 0 then
      fX6_readDigit_25 σ
    else
      fX6_readDigit_30 0 σ
  else
    fX6_readDigit_25 σ
set_option maxHeartbeats 4000000 in
theorem kmX6_readDigit (l : Launch) {σ : ST} {r : Int32} {τ : ST} (hf : fX6_readDigit σ = some (r, τ)) : KM l yX6_readDigit cX6_readDigit 1 (some .int) 1 25 [.ref 36] σ (some (.int r)) τ := by
  refine KM.intro (ow := 6) (by decide +kernel) rfl (Nat.le_of_ble_eq_true rfl) (fun V hm => ?_)
  show V 0 [some (.ref 36)] [] σ
  have h := hm.bd
  unfold fX6_readDigit at hf
  refine h.run (o := [kd 36 = 6]) (ls' := [some (.ref 36)]) (st' := [.int (σ.1 36 27), .ref 36]) (σ' := σ) [(.aload_n 0, 1, 0, 0, 0, 0), (.aload_n 0, 1, 0, 0, 0, 0), (.getfield 135, 3, 0, 0, 6, 27)] (pc2 := 5) (by decide +kernel) rfl (And.intro kd_36 trivial) ?_
  refine h.if_ne (tgt := 25) (show decode cX6_readDigit 5 = .ok (.ifCond .ne 20, 3) by decide +kernel) (by decide) (fun c4 => ?_) (fun c4 => ?_)
  · rw [if_neg c4] at hf
    exact wX6_readDigit_25 hm hf
  · rw [if_pos c4] at hf
    show V 8 [some (.ref 36)] [.ref 36] σ
    refine h.run (o := []) (ls' := [some (.ref 36)]) (st' := [.ref 36, .ref 36]) (σ' := σ) [(.aload_n 0, 1, 0, 0, 0, 0)] (pc2 := 9) (by decide +kernel) rfl trivial ?_
    obtain ⟨a1, e1, hf⟩ := bR_some hf
    refine h.callV (as := []) (rest := [.ref 36]) (by decide +kernel) lk6_139 cwX6_here kd_36 (kmX6_here l e1) rfl (Nat.le_of_ble_eq_true rfl) (Nat.le_of_ble_eq_true rfl) (Nat.le_of_ble_eq_true rfl) ?_
    show V 12 [some (.ref 36)] [.int a1, .ref 36] σ
    refine h.run (o := []) (ls' := [some (.ref 36)]) (st' := [.long 57, .long 48, .long a1.toInt64, .ref 36]) (σ' := σ) [(.i2l, 1, 0, 0, 0, 0), (.ldc2_w 143, 3, 0, 48, 0, 0), (.ldc2_w 145, 3, 0, 57, 0, 0)] (pc2 := 19) (by decide +kernel) rfl trivial ?_
    obtain ⟨a2, e2, hf⟩ := bR_some hf
    refine h.callS (as := [.long a1.toInt64, .long 48, .long 57]) (rest := [.ref 36]) (by decide +kernel) lk6_119 cwX6_in (kmX6_in l e2) rfl (Nat.le_of_ble_eq_true rfl) (Nat.le_of_ble_eq_true rfl) (Nat.le_of_ble_eq_true rfl) ?_
    show V 22 [some (.ref 36)] [.int a2, .ref 36] σ
    refine h.if_ne (tgt := 29) (show decode cX6_readDigit 22 = .ok (.ifCond .ne 7, 3) by decide +kernel) (by decide) (fun c3 => ?_) (fun c3 => ?_)
    · rw [if_neg c3] at hf
      refine h.run (o := []) (ls' := [some (.ref 36)]) (st' := [.int 0, .ref 36]) (σ' := σ) [(.iconst 0, 1, 0, 0, 0, 0)] (pc2 := 30) (by decide +kernel) rfl trivial ?_
      exact wX6_readDigit_30 hm hf
    · rw [if_pos c3] at hf
      show V 25 [some (.ref 36)] [.ref 36] σ
      exact wX6_readDigit_25 hm hf
def fX6_readNumber_69 (x1 : Int32) (σ : ST) : Option (Int32 × ST) :=
  some (x1, σ)
set_option maxHeartbeats 4000000 in
theorem wX6_readNumber_69 {l : Launch} {V : Nat → List (Option Value) → List Value → ST → Prop} {r : Int32} {τ : ST} {σ : ST} {x1 : Int32} (hm : BM l 6 cX6_readNumber 3 (some .int) 2 45 (some (.int r)) τ V) (hf : fX6_readNumber_69 x1 σ = some (r, τ)) : V 69 [none, some (.int x1), none] [] σ := by
  have h := hm.bd
  unfold fX6_readNumber_69 at hf
  refine h.run (o := []) (ls' := [none, some (.int x1), none]) (st' := [.int x1]) (σ' := σ) [(.iload_n 1, 1, 0, 0, 0, 0)] (pc2 := 70) (by decide +kernel) rfl trivial ?_
  obtain ⟨rfl, rfl⟩ := Prod.mk.inj (Option.some.inj hf)
  exact hm.iret (by decide +kernel)
def fX6_readNumber_7 (n : Nat) (x1 : Int32) (x2 : Int32) (σ : ST) : Option (Int32 × ST) := match n with
  | 0 => none
  | n + 1 =>
    if 3 ≤ x2 then
      fX6_readNumber_69 x1 σ
    else
      if x1 ≤ 0 then
        fX6_readNumber_69 x1 σ
      else
        if (σ.1 36 27) = 0 then
          bR (fX6_here σ) fun a1 =>
          bR (fX6_in a1.toInt64 48 57 σ) fun a2 =>
          if a2 = 0 then
            fX6_readNumber_69 x1 σ
          else
            bR (fX6_here σ) fun a3 =>
            fX6_readNumber_7 n (((10 * x1) + a3) - 48) (x2 + 1) (setI σ 36 26 ((σ.1 36 26) + 1))
        else
          fX6_readNumber_69 x1 σ
set_option maxHeartbeats 4000000 in
theorem wX6_readNumber_7 {l : Launch} {V : Nat → List (Option Value) → List Value → ST → Prop} {r : Int32} {τ : ST} (hm : BM l 6 cX6_readNumber 3 (some .int) 2 45 (some (.int r)) τ V) : ∀ (n : Nat) (x1 : Int32) (x2 : Int32) (σ : ST), fX6_readNumber_7 n x1 x2 σ = some (r, τ) → V 7 [some (.ref 36), some (.int x1), some (.int x2)] [] σ := by
  have h := hm.bd
  intro n
  induction n with
  | zero => intro x1 x2 σ hf; cases hf
  | succ n ih =>
    intro x1 x2 σ hf
    rw [fX6_readNumber_7] at hf
    refine h.run (o := []) (ls' := [some (.ref 36), some (.int x1), some (.int x2)]) (st' := [.int 3, .int x2]) (σ' := σ) [(.iload_n 2, 1, 0, 0, 0, 0), (.iconst 3, 1, 3, 0, 0, 0)] (pc2 := 9) (by decide +kernel) rfl trivial ?_
    refine h.icmp_ge (tgt := 69) (show decode cX6_readNumber 9 = .ok (.if_icmp .ge 60, 3) by decide +kernel) (by decide) (fun c7 => ?_) (fun c7 => ?_)
    · rw [if_pos c7] at hf
      refine h.drop (ls' := [none, some (.int x1), none]) (And.intro rfl trivial) ?_
      exact wX6_readNumber_69 hm hf
    · rw [if_neg c7] at hf
      show V 12 [some (.ref 36), some (.int x1), some (.int x2)] [] σ
      refine h.run (o := []) (ls' := [some (.ref 36), some (.int x1), some (.int x2)]) (st' := [.int x1]) (σ' := σ) [(.iload_n 1, 1, 0, 0, 0, 0)] (pc2 := 13) (by decide +kernel) rfl trivial ?_
      refine h.if_le (tgt := 69) (show decode cX6_readNumber 13 = .ok (.ifCond .le 56, 3) by decide +kernel) (by decide) (fun c6 => ?_) (fun c6 => ?_)
      · rw [if_pos c6] at hf
        refine h.drop (ls' := [none, some (.int x1), none]) (And.intro rfl trivial) ?_
        exact wX6_readNumber_69 hm hf
      · rw [if_neg c6] at hf
        show V 16 [some (.ref 36), some (.int x1), some (.int x2)] [] σ
        refine h.run (o := [kd 36 = 6]) (ls' := [some (.ref 36), some (.int x1), some (.int x2)]) (st' := [.int (σ.1 36 27)]) (σ' := σ) [(.aload_n 0, 1, 0, 0, 0, 0), (.getfield 135, 3, 0, 0, 6, 27)] (pc2 := 20) (by decide +kernel) rfl (And.intro kd_36 trivial) ?_
        refine h.if_ne (tgt := 69) (show decode cX6_readNumber 20 = .ok (.ifCond .ne 49, 3) by decide +kernel) (by decide) (fun c5 => ?_) (fun c5 => ?_)
        · rw [if_neg c5] at hf
          refine h.drop (ls' := [none, some (.int x1), none]) (And.intro rfl trivial) ?_
          exact wX6_readNumber_69 hm hf
        · rw [if_pos c5] at hf
          show V 23 [some (.ref 36), some (.int x1), some (.int x2)] [] σ
          refine h.run (o := []) (ls' := [some (.ref 36), some (.int x1), some (.int x2)]) (st' := [.ref 36]) (σ' := σ) [(.aload_n 0, 1, 0, 0, 0, 0)] (pc2 := 24) (by decide +kernel) rfl trivial ?_
          obtain ⟨a1, e1, hf⟩ := bR_some hf
          refine h.callV (as := []) (rest := []) (by decide +kernel) lk6_139 cwX6_here kd_36 (kmX6_here l e1) rfl (Nat.le_of_ble_eq_true rfl) (Nat.le_of_ble_eq_true rfl) (Nat.le_of_ble_eq_true rfl) ?_
          show V 27 [some (.ref 36), some (.int x1), some (.int x2)] [.int a1] σ
          refine h.run (o := []) (ls' := [some (.ref 36), some (.int x1), some (.int x2)]) (st' := [.long 57, .long 48, .long a1.toInt64]) (σ' := σ) [(.i2l, 1, 0, 0, 0, 0), (.ldc2_w 143, 3, 0, 48, 0, 0), (.ldc2_w 145, 3, 0, 57, 0, 0)] (pc2 := 34) (by decide +kernel) rfl trivial ?_
          obtain ⟨a2, e2, hf⟩ := bR_some hf
          refine h.callS (as := [.long a1.toInt64, .long 48, .long 57]) (rest := []) (by decide +kernel) lk6_119 cwX6_in (kmX6_in l e2) rfl (Nat.le_of_ble_eq_true rfl) (Nat.le_of_ble_eq_true rfl) (Nat.le_of_ble_eq_true rfl) ?_
          show V 37 [some (.ref 36), some (.int x1), some (.int x2)] [.int a2] σ
          refine h.if_eq (tgt := 69) (show decode cX6_readNumber 37 = .ok (.ifCond .eq 32, 3) by decide +kernel) (by decide) (fun c4 => ?_) (fun c4 => ?_)
          · rw [if_pos c4] at hf
            refine h.drop (ls' := [none, some (.int x1), none]) (And.intro rfl trivial) ?_
            exact wX6_readNumber_69 hm hf
          · rw [if_neg c4] at hf
            show V 40 [some (.ref 36), some (.int x1), some (.int x2)] [] σ
            refine h.run (o := []) (ls' := [some (.ref 36), some (.int x1), some (.int x2)]) (st' := [.ref 36, .int (10 * x1)]) (σ' := σ) [(.bipush 10, 2, 10, 0, 0, 0), (.iload_n 1, 1, 0, 0, 0, 0), (.imul, 1, 0, 0, 0, 0), (.aload_n 0, 1, 0, 0, 0, 0)] (pc2 := 45) (by decide +kernel) rfl trivial ?_
            obtain ⟨a3, e3, hf⟩ := bR_some hf
            refine h.callV (as := []) (rest := [.int (10 * x1)]) (by decide +kernel) lk6_139 cwX6_here kd_36 (kmX6_here l e3) rfl (Nat.le_of_ble_eq_true rfl) (Nat.le_of_ble_eq_true rfl) (Nat.le_of_ble_eq_true rfl) ?_
            show V 48 [some (.ref 36), some (.int x1), some (.int x2)] [.int a3, .int (10 * x1)] σ
            refine h.run (o := [kd 36 = 6, kd 36 = 6]) (ls' := [some (.ref 36), some (.int (((10 * x1) + a3) - 48)), some (.int (x2 + 1))]) (st' := []) (σ' := setI σ 36 26 ((σ.1 36 26) + 1)) [(.iadd, 1, 0, 0, 0, 0), (.bipush 48, 2, 48, 0, 0, 0), (.isub, 1, 0, 0, 0, 0), (.istore_n 1, 1, 0, 0, 0, 0), (.aload_n 0, 1, 0, 0, 0, 0), (.dup, 1, 0, 0, 0, 0), (.getfield 126, 3, 0, 0, 6, 26), (.iconst 1, 1, 1, 0, 0, 0), (.iadd, 1, 0, 0, 0, 0), (.putfield 126, 3, 0, 0, 6, 26), (.iinc 2 1, 3, 1, 0, 0, 0), (.goto (-59), 3, 0, 0, 0, 7)] (pc2 := 7) (by decide +kernel) rfl (And.intro kd_36 (And.intro kd_36 trivial)) ?_
            exact ih (((10 * x1) + a3) - 48) (x2 + 1) _ hf
def fX6_readNumber (σ : ST) : Option (Int32 × ST) :=
  bI (fX6_readDigit σ) fun a1 σ1 =>
  fX6_readNumber_7 FU a1 1 σ1
set_option maxHeartbeats 4000000 in
theorem kmX6_readNumber (l : Launch) {σ : ST} {r : Int32} {τ : ST} (hf : fX6_readNumber σ = some (r, τ)) : KM l yX6_readNumber cX6_readNumber 3 (some .int) 2 45 [.ref 36] σ (some (.int r)) τ := by
  refine KM.intro (ow := 6) (by decide +kernel) rfl (Nat.le_of_ble_eq_true rfl) (fun V hm => ?_)
  show V 0 [some (.ref 36), none, none] [] σ
  have h := hm.bd
  unfold fX6_readNumber at hf
  refine h.run (o := []) (ls' := [some (.ref 36), none, none]) (st' := [.ref 36]) (σ' := σ) [(.aload_n 0, 1, 0, 0, 0, 0)] (pc2 := 1) (by decide +kernel) rfl trivial ?_
  obtain ⟨a1, σ1, e1, hf⟩ := bI_some hf
  refine h.callV (as := []) (rest := []) (by decide +kernel) lk6_147 cwX6_readDigit kd_36 (kmX6_readDigit l e1) rfl (Nat.le_of_ble_eq_true rfl) (Nat.le_of_ble_eq_true rfl) (Nat.le_of_ble_eq_true rfl) ?_
  show V 4 [some (.ref 36), none, none] [.int a1] σ1
  refine h.run (o := []) (ls' := [some (.ref 36), some (.int a1), some (.int 1)]) (st' := []) (σ' := σ1) [(.istore_n 1, 1, 0, 0, 0, 0), (.iconst 1, 1, 1, 0, 0, 0), (.istore_n 2, 1, 0, 0, 0, 0)] (pc2 := 7) (by decide +kernel) rfl trivial ?_
  exact wX6_readNumber_7 hm FU a1 1 _ hf
def fX6_readAfter_15 (σ : ST) : Option (Int32 × ST) :=
  some (0, σ)
set_option maxHeartbeats 4000000 in
theorem wX6_readAfter_15 {l : Launch} {V : Nat → List (Option Value) → List Value → ST → Prop} {r : Int32} {τ : ST} {σ : ST} (hm : BM l 6 cX6_readAfter 2 (some .int) 3 67 (some (.int r)) τ V) (hf : fX6_readAfter_15 σ = some (r, τ)) : V 15 [none, none] [] σ := by
  have h := hm.bd
  unfold fX6_readAfter_15 at hf
  refine h.run (o := []) (ls' := [none, none]) (st' := [.int 0]) (σ' := σ) [(.iconst 0, 1, 0, 0, 0, 0)] (pc2 := 16) (by decide +kernel) rfl trivial ?_
  obtain ⟨rfl, rfl⟩ := Prod.mk.inj (Option.some.inj hf)
  exact hm.iret (by decide +kernel)
def fX6_readAfter (x1 : Int32) (σ : ST) : Option (Int32 × ST) :=
  if (σ.1 36 27) = 0 then
    bR (fX6_here σ) fun a1 =>
    if a1 = x1 then
      bI (fX6_readNumber (setI σ 36 26 ((σ.1 36 26) + 1))) fun a2 σ2 =>
      some (a2, σ2)
    else
      fX6_readAfter_15 σ
  else
    fX6_readAfter_15 σ
set_option maxHeartbeats 4000000 in
theorem kmX6_readAfter (l : Launch) {x1 : Int32} {σ : ST} {r : Int32} {τ : ST} (hf : fX6_readAfter x1 σ = some (r, τ)) : KM l yX6_readAfter cX6_readAfter 2 (some .int) 3 67 [.ref 36, .int x1] σ (some (.int r)) τ := by
  refine KM.intro (ow := 6) (by decide +kernel) rfl (Nat.le_of_ble_eq_true rfl) (fun V hm => ?_)
  show V 0 [some (.ref 36), some (.int x1)] [] σ
  have h := hm.bd
  unfold fX6_readAfter at hf
  refine h.run (o := [kd 36 = 6]) (ls' := [some (.ref 36), some (.int x1)]) (st' := [.int (σ.1 36 27)]) (σ' := σ) [(.aload_n 0, 1, 0, 0, 0, 0), (.getfield 135, 3, 0, 0, 6, 27)] (pc2 := 4) (by decide +kernel) rfl (And.intro kd_36 trivial) ?_
  refine h.if_ne (tgt := 15) (show decode cX6_readAfter 4 = .ok (.ifCond .ne 11, 3) by decide +kernel) (by decide) (fun c4 => ?_) (fun c4 => ?_)
  · rw [if_neg c4] at hf
    refine h.drop (ls' := [none, none]) trivial ?_
    exact wX6_readAfter_15 hm hf
  · rw [if_pos c4] at hf
    show V 7 [some (.ref 36), some (.int x1)] [] σ
    refine h.run (o := []) (ls' := [some (.ref 36), some (.int x1)]) (st' := [.ref 36]) (σ' := σ) [(.aload_n 0, 1, 0, 0, 0, 0)] (pc2 := 8) (by decide +kernel) rfl trivial ?_
    obtain ⟨a1, e1, hf⟩ := bR_some hf
    refine h.callV (as := []) (rest := []) (by decide +kernel) lk6_139 cwX6_here kd_36 (kmX6_here l e1) rfl (Nat.le_of_ble_eq_true rfl) (Nat.le_of_ble_eq_true rfl) (Nat.le_of_ble_eq_true rfl) ?_
    show V 11 [some (.ref 36), some (.int x1)] [.int a1] σ
    refine h.run (o := []) (ls' := [some (.ref 36), some (.int x1)]) (st' := [.int x1, .int a1]) (σ' := σ) [(.iload_n 1, 1, 0, 0, 0, 0)] (pc2 := 12) (by decide +kernel) rfl trivial ?_
    refine h.icmp_eq (tgt := 17) (show decode cX6_readAfter 12 = .ok (.if_icmp .eq 5, 3) by decide +kernel) (by decide) (fun c3 => ?_) (fun c3 => ?_)
    · rw [if_pos c3] at hf
      refine h.run (o := [kd 36 = 6, kd 36 = 6]) (ls' := [some (.ref 36), some (.int x1)]) (st' := [.ref 36]) (σ' := setI σ 36 26 ((σ.1 36 26) + 1)) [(.aload_n 0, 1, 0, 0, 0, 0), (.dup, 1, 0, 0, 0, 0), (.getfield 126, 3, 0, 0, 6, 26), (.iconst 1, 1, 1, 0, 0, 0), (.iadd, 1, 0, 0, 0, 0), (.putfield 126, 3, 0, 0, 6, 26), (.aload_n 0, 1, 0, 0, 0, 0)] (pc2 := 28) (by decide +kernel) rfl (And.intro kd_36 (And.intro kd_36 trivial)) ?_
      obtain ⟨a2, σ2, e2, hf⟩ := bI_some hf
      refine h.callV (as := []) (rest := []) (by decide +kernel) lk6_150 cwX6_readNumber kd_36 (kmX6_readNumber l e2) rfl (Nat.le_of_ble_eq_true rfl) (Nat.le_of_ble_eq_true rfl) (Nat.le_of_ble_eq_true rfl) ?_
      show V 31 [some (.ref 36), some (.int x1)] [.int a2] σ2
      obtain ⟨rfl, rfl⟩ := Prod.mk.inj (Option.some.inj hf)
      exact hm.iret (by decide +kernel)
    · rw [if_neg c3] at hf
      show V 15 [some (.ref 36), some (.int x1)] [] σ
      refine h.drop (ls' := [none, none]) trivial ?_
      exact wX6_readAfter_15 hm hf
def fX6_readStatement_250 (σ : ST) : Option ST :=
  bR (fX6_take 59 σ) fun σ1 =>
  some (setI σ1 36 28 ((σ1.1 36 28) + 1))
set_option maxHeartbeats 4000000 in
theorem wX6_readStatement_250 {l : Launch} {V : Nat → List (Option Value) → List Value → ST → Prop} {τ : ST} {σ : ST} (hm : BM l 6 cX6_readStatement 3 none 4 88 none τ V) (hf : fX6_readStatement_250 σ = some τ) : V 250 [some (.ref 36), none, none] [] σ := by
  have h := hm.bd
  unfold fX6_readStatement_250 at hf
  refine h.run (o := []) (ls' := [some (.ref 36), none, none]) (st' := [.int 59, .ref 36]) (σ' := σ) [(.aload_n 0, 1, 0, 0, 0, 0), (.bipush 59, 2, 59, 0, 0, 0)] (pc2 := 253) (by decide +kernel) rfl trivial ?_
  obtain ⟨σ1, e1, hf⟩ := bR_some hf
  refine h.callV (as := [.int 59]) (rest := []) (by decide +kernel) lk6_156 cwX6_take kd_36 (kmX6_take l e1) rfl (Nat.le_of_ble_eq_true rfl) (Nat.le_of_ble_eq_true rfl) (Nat.le_of_ble_eq_true rfl) ?_
  show V 256 [some (.ref 36), none, none] [] σ1
  refine h.run (o := [kd 36 = 6, kd 36 = 6]) (ls' := [some (.ref 36), none, none]) (st' := []) (σ' := setI σ1 36 28 ((σ1.1 36 28) + 1)) [(.aload_n 0, 1, 0, 0, 0, 0), (.dup, 1, 0, 0, 0, 0), (.getfield 153, 3, 0, 0, 6, 28), (.iconst 1, 1, 1, 0, 0, 0), (.iadd, 1, 0, 0, 0, 0), (.putfield 153, 3, 0, 0, 6, 28)] (pc2 := 266) (by decide +kernel) rfl (And.intro kd_36 (And.intro kd_36 trivial)) ?_
  obtain rfl := Option.some.inj hf
  exact hm.vret (by decide +kernel)
def fX6_readStatement_208 (x2 : Int32) (σ : ST) : Option ST :=
  bI (fX6_readAfter 108 σ) fun a1 σ1 =>
  gd (inb (x2 + 1) (alen 56)) <|
  bI (fX6_readAfter 118 (setI σ1 56 ((x2 + 1).toNatClampNeg) a1)) fun a3 σ3 =>
  gd (inb (x2 + 2) (alen 56)) <|
  bI (fX6_readAfter 119 (setI σ3 56 ((x2 + 2).toNatClampNeg) a3)) fun a5 σ5 =>
  gd (inb (x2 + 3) (alen 56)) <|
  fX6_readStatement_250 (setI σ5 56 ((x2 + 3).toNatClampNeg) a5)
set_option maxHeartbeats 4000000 in
theorem wX6_readStatement_208 {l : Launch} {V : Nat → List (Option Value) → List Value → ST → Prop} {τ : ST} {σ : ST} {x2 : Int32} (hm : BM l 6 cX6_readStatement 3 none 4 88 none τ V) (hf : fX6_readStatement_208 x2 σ = some τ) : V 208 [some (.ref 36), none, some (.int x2)] [] σ := by
  have h := hm.bd
  unfold fX6_readStatement_208 at hf
  refine h.run (o := [kd 36 = 6]) (ls' := [some (.ref 36), none, some (.int x2)]) (st' := [.int 108, .ref 36, .int (x2 + 1), .ref 56]) (σ' := σ) [(.aload_n 0, 1, 0, 0, 0, 0), (.getfield 78, 3, 0, 0, 6, 31), (.iload_n 2, 1, 0, 0, 0, 0), (.iconst 1, 1, 1, 0, 0, 0), (.iadd, 1, 0, 0, 0, 0), (.aload_n 0, 1, 0, 0, 0, 0), (.bipush 108, 2, 108, 0, 0, 0)] (pc2 := 218) (by decide +kernel) rfl (And.intro kd_36 trivial) ?_
  obtain ⟨a1, σ1, e1, hf⟩ := bI_some hf
  refine h.callV (as := [.int 108]) (rest := [.int (x2 + 1), .ref 56]) (by decide +kernel) lk6_160 cwX6_readAfter kd_36 (kmX6_readAfter l e1) rfl (Nat.le_of_ble_eq_true rfl) (Nat.le_of_ble_eq_true rfl) (Nat.le_of_ble_eq_true rfl) ?_
  show V 221 [some (.ref 36), none, some (.int x2)] [.int a1, .int (x2 + 1), .ref 56] σ1
  obtain ⟨g2, hf⟩ := gd_some hf
  refine h.run (o := [kd 56 = 10, inb (x2 + 1) (alen 56) = true, kd 36 = 6]) (ls' := [some (.ref 36), none, some (.int x2)]) (st' := [.int 118, .ref 36, .int (x2 + 2), .ref 56]) (σ' := setI σ1 56 ((x2 + 1).toNatClampNeg) a1) [(.iastore, 1, 0, 0, 0, 0), (.aload_n 0, 1, 0, 0, 0, 0), (.getfield 78, 3, 0, 0, 6, 31), (.iload_n 2, 1, 0, 0, 0, 0), (.iconst 2, 1, 2, 0, 0, 0), (.iadd, 1, 0, 0, 0, 0), (.aload_n 0, 1, 0, 0, 0, 0), (.bipush 118, 2, 118, 0, 0, 0)] (pc2 := 232) (by decide +kernel) rfl (And.intro kd_56 (And.intro g2 (And.intro kd_36 trivial))) ?_
  obtain ⟨a3, σ3, e3, hf⟩ := bI_some hf
  refine h.callV (as := [.int 118]) (rest := [.int (x2 + 2), .ref 56]) (by decide +kernel) lk6_160 cwX6_readAfter kd_36 (kmX6_readAfter l e3) rfl (Nat.le_of_ble_eq_true rfl) (Nat.le_of_ble_eq_true rfl) (Nat.le_of_ble_eq_true rfl) ?_
  show V 235 [some (.ref 36), none, some (.int x2)] [.int a3, .int (x2 + 2), .ref 56] σ3
  obtain ⟨g4, hf⟩ := gd_some hf
  refine h.run (o := [kd 56 = 10, inb (x2 + 2) (alen 56) = true, kd 36 = 6]) (ls' := [some (.ref 36), none, some (.int x2)]) (st' := [.int 119, .ref 36, .int (x2 + 3), .ref 56]) (σ' := setI σ3 56 ((x2 + 2).toNatClampNeg) a3) [(.iastore, 1, 0, 0, 0, 0), (.aload_n 0, 1, 0, 0, 0, 0), (.getfield 78, 3, 0, 0, 6, 31), (.iload_n 2, 1, 0, 0, 0, 0), (.iconst 3, 1, 3, 0, 0, 0), (.iadd, 1, 0, 0, 0, 0), (.aload_n 0, 1, 0, 0, 0, 0), (.bipush 119, 2, 119, 0, 0, 0)] (pc2 := 246) (by decide +kernel) rfl (And.intro kd_56 (And.intro g4 (And.intro kd_36 trivial))) ?_
  obtain ⟨a5, σ5, e5, hf⟩ := bI_some hf
  refine h.callV (as := [.int 119]) (rest := [.int (x2 + 3), .ref 56]) (by decide +kernel) lk6_160 cwX6_readAfter kd_36 (kmX6_readAfter l e5) rfl (Nat.le_of_ble_eq_true rfl) (Nat.le_of_ble_eq_true rfl) (Nat.le_of_ble_eq_true rfl) ?_
  show V 249 [some (.ref 36), none, some (.int x2)] [.int a5, .int (x2 + 3), .ref 56] σ5
  obtain ⟨g6, hf⟩ := gd_some hf
  refine h.run (o := [kd 56 = 10, inb (x2 + 3) (alen 56) = true]) (ls' := [some (.ref 36), none, some (.int x2)]) (st' := []) (σ' := setI σ5 56 ((x2 + 3).toNatClampNeg) a5) [(.iastore, 1, 0, 0, 0, 0)] (pc2 := 250) (by decide +kernel) rfl (And.intro kd_56 (And.intro g6 trivial)) ?_
  refine h.drop (ls' := [some (.ref 36), none, none]) (And.intro rfl trivial) ?_
  exact wX6_readStatement_250 hm hf
def fX6_readStatement_189 (x1 : Int32) (x2 : Int32) (σ : ST) : Option ST :=
  if (σ.1 36 27) = 0 then
    if x1 = 109 then
      fX6_readStatement_208 x2 σ
    else
      if x1 = 120 then
        fX6_readStatement_208 x2 σ
      else
        fX6_readStatement_250 σ
  else
    fX6_readStatement_250 σ
set_option maxHeartbeats 4000000 in
theorem wX6_readStatement_189 {l : Launch} {V : Nat → List (Option Value) → List Value → ST → Prop} {τ : ST} {σ : ST} {x1 : Int32} {x2 : Int32} (hm : BM l 6 cX6_readStatement 3 none 4 88 none τ V) (hf : fX6_readStatement_189 x1 x2 σ = some τ) : V 189 [some (.ref 36), some (.int x1), some (.int x2)] [] σ := by
  have h := hm.bd
  unfold fX6_readStatement_189 at hf
  refine h.run (o := [kd 36 = 6]) (ls' := [some (.ref 36), some (.int x1), some (.int x2)]) (st' := [.int (σ.1 36 27)]) (σ' := σ) [(.aload_n 0, 1, 0, 0, 0, 0), (.getfield 135, 3, 0, 0, 6, 27)] (pc2 := 193) (by decide +kernel) rfl (And.intro kd_36 trivial) ?_
  refine h.if_ne (tgt := 250) (show decode cX6_readStatement 193 = .ok (.ifCond .ne 57, 3) by decide +kernel) (by decide) (fun c3 => ?_) (fun c3 => ?_)
  · rw [if_neg c3] at hf
    refine h.drop (ls' := [some (.ref 36), none, none]) (And.intro rfl trivial) ?_
    exact wX6_readStatement_250 hm hf
  · rw [if_pos c3] at hf
    show V 196 [some (.ref 36), some (.int x1), some (.int x2)] [] σ
    refine h.run (o := []) (ls' := [some (.ref 36), some (.int x1), some (.int x2)]) (st' := [.int 109, .int x1]) (σ' := σ) [(.iload_n 1, 1, 0, 0, 0, 0), (.bipush 109, 2, 109, 0, 0, 0)] (pc2 := 199) (by decide +kernel) rfl trivial ?_
    refine h.icmp_eq (tgt := 208) (show decode cX6_readStatement 199 = .ok (.if_icmp .eq 9, 3) by decide +kernel) (by decide) (fun c2 => ?_) (fun c2 => ?_)
    · rw [if_pos c2] at hf
      refine h.drop (ls' := [some (.ref 36), none, some (.int x2)]) (And.intro rfl (And.intro rfl trivial)) ?_
      exact wX6_readStatement_208 hm hf
    · rw [if_neg c2] at hf
      show V 202 [some (.ref 36), some (.int x1), some (.int x2)] [] σ
      refine h.run (o := []) (ls' := [some (.ref 36), some (.int x1), some (.int x2)]) (st' := [.int 120, .int x1]) (σ' := σ) [(.iload_n 1, 1, 0, 0, 0, 0), (.bipush 120, 2, 120, 0, 0, 0)] (pc2 := 205) (by decide +kernel) rfl trivial ?_
      refine h.icmp_ne (tgt := 250) (show decode cX6_readStatement 205 = .ok (.if_icmp .ne 45, 3) by decide +kernel) (by decide) (fun c1 => ?_) (fun c1 => ?_)
      · rw [if_neg c1] at hf
        refine h.drop (ls' := [some (.ref 36), none, none]) (And.intro rfl trivial) ?_
        exact wX6_readStatement_250 hm hf
      · rw [if_pos c1] at hf
        show V 208 [some (.ref 36), some (.int x1), some (.int x2)] [] σ
        refine h.drop (ls' := [some (.ref 36), none, some (.int x2)]) (And.intro rfl (And.intro rfl trivial)) ?_
        exact wX6_readStatement_208 hm hf
def fX6_readStatement_188 (x1 : Int32) (x2 : Int32) (t1 : Int32) (t2 : Int32) (σ : ST) : Option ST :=
  gd (inb t1 (alen 56)) <|
  fX6_readStatement_189 x1 x2 (setI σ 56 (t1.toNatClampNeg) t2)
set_option maxHeartbeats 4000000 in
theorem wX6_readStatement_188 {l : Launch} {V : Nat → List (Option Value) → List Value → ST → Prop} {τ : ST} {σ : ST} {x1 : Int32} {x2 : Int32} {t1 : Int32} {t2 : Int32} (hm : BM l 6 cX6_readStatement 3 none 4 88 none τ V) (hf : fX6_readStatement_188 x1 x2 t1 t2 σ = some τ) : V 188 [some (.ref 36), some (.int x1), some (.int x2)] [.int t2, .int t1, .ref 56] σ := by
  have h := hm.bd
  unfold fX6_readStatement_188 at hf
  obtain ⟨g1, hf⟩ := gd_some hf
  refine h.run (o := [kd 56 = 10, inb t1 (alen 56) = true]) (ls' := [some (.ref 36), some (.int x1), some (.int x2)]) (st' := []) (σ' := setI σ 56 (t1.toNatClampNeg) t2) [(.iastore, 1, 0, 0, 0, 0)] (pc2 := 189) (by decide +kernel) rfl (And.intro kd_56 (And.intro g1 trivial)) ?_
  exact wX6_readStatement_189 hm hf
def fX6_readStatement_128 (x1 : Int32) (x2 : Int32) (t1 : Int32) (t2 : Int32) (σ : ST) : Option ST :=
  gd (inb t1 (alen 56)) <|
  if ((setI σ 56 (t1.toNatClampNeg) t2).1 36 27) = 0 then
    if x1 = 115 then
      bR (fX6_take 32 (setI σ 56 (t1.toNatClampNeg) t2)) fun σ2 =>
      bI (fX6_readNumber σ2) fun a3 σ3 =>
      gd (inb (x2 + 1) (alen 56)) <|
      bR (fX6_take 32 (setI σ3 56 ((x2 + 1).toNatClampNeg) a3)) fun σ5 =>
      if (σ5.1 36 27) = 0 then
        bI (fX6_readNumber σ5) fun a6 σ6 =>
        fX6_readStatement_188 x1 x2 (x2 + 2) a6 σ6
      else
        fX6_readStatement_188 x1 x2 (x2 + 2) 0 σ5
    else
      fX6_readStatement_189 x1 x2 (setI σ 56 (t1.toNatClampNeg) t2)
  else
    fX6_readStatement_189 x1 x2 (setI σ 56 (t1.toNatClampNeg) t2)
set_option maxHeartbeats 4000000 in
theorem wX6_readStatement_128 {l : Launch} {V : Nat → List (Option Value) → List Value → ST → Prop} {τ : ST} {σ : ST} {x1 : Int32} {x2 : Int32} {t1 : Int32} {t2 : Int32} (hm : BM l 6 cX6_readStatement 3 none 4 88 none τ V) (hf : fX6_readStatement_128 x1 x2 t1 t2 σ = some τ) : V 128 [some (.ref 36), some (.int x1), some (.int x2)] [.int t2, .int t1, .ref 56] σ := by
  have h := hm.bd
  unfold fX6_readStatement_128 at hf
  obtain ⟨g1, hf⟩ := gd_some hf
  refine h.run (o := [kd 56 = 10, inb t1 (alen 56) = true, kd 36 = 6]) (ls' := [some (.ref 36), some (.int x1), some (.int x2)]) (st' := [.int ((setI σ 56 (t1.toNatClampNeg) t2).1 36 27)]) (σ' := setI σ 56 (t1.toNatClampNeg) t2) [(.iastore, 1, 0, 0, 0, 0), (.aload_n 0, 1, 0, 0, 0, 0), (.getfield 135, 3, 0, 0, 6, 27)] (pc2 := 133) (by decide +kernel) rfl (And.intro kd_56 (And.intro g1 (And.intro kd_36 trivial))) ?_
  refine h.if_ne (tgt := 189) (show decode cX6_readStatement 133 = .ok (.ifCond .ne 56, 3) by decide +kernel) (by decide) (fun c9 => ?_) (fun c9 => ?_)
  · rw [if_neg c9] at hf
    exact wX6_readStatement_189 hm hf
  · rw [if_pos c9] at hf
    show V 136 [some (.ref 36), some (.int x1), some (.int x2)] [] (setI σ 56 (t1.toNatClampNeg) t2)
    refine h.run (o := []) (ls' := [some (.ref 36), some (.int x1), some (.int x2)]) (st' := [.int 115, .int x1]) (σ' := setI σ 56 (t1.toNatClampNeg) t2) [(.iload_n 1, 1, 0, 0, 0, 0), (.bipush 115, 2, 115, 0, 0, 0)] (pc2 := 139) (by decide +kernel) rfl trivial ?_
    refine h.icmp_ne (tgt := 189) (show decode cX6_readStatement 139 = .ok (.if_icmp .ne 50, 3) by decide +kernel) (by decide) (fun c8 => ?_) (fun c8 => ?_)
    · rw [if_neg c8] at hf
      exact wX6_readStatement_189 hm hf
    · rw [if_pos c8] at hf
      show V 142 [some (.ref 36), some (.int x1), some (.int x2)] [] (setI σ 56 (t1.toNatClampNeg) t2)
      refine h.run (o := []) (ls' := [some (.ref 36), some (.int x1), some (.int x2)]) (st' := [.int 32, .ref 36]) (σ' := setI σ 56 (t1.toNatClampNeg) t2) [(.aload_n 0, 1, 0, 0, 0, 0), (.bipush 32, 2, 32, 0, 0, 0)] (pc2 := 145) (by decide +kernel) rfl trivial ?_
      obtain ⟨σ2, e2, hf⟩ := bR_some hf
      refine h.callV (as := [.int 32]) (rest := []) (by decide +kernel) lk6_156 cwX6_take kd_36 (kmX6_take l e2) rfl (Nat.le_of_ble_eq_true rfl) (Nat.le_of_ble_eq_true rfl) (Nat.le_of_ble_eq_true rfl) ?_
      show V 148 [some (.ref 36), some (.int x1), some (.int x2)] [] σ2
      refine h.run (o := [kd 36 = 6]) (ls' := [some (.ref 36), some (.int x1), some (.int x2)]) (st' := [.ref 36, .int (x2 + 1), .ref 56]) (σ' := σ2) [(.aload_n 0, 1, 0, 0, 0, 0), (.getfield 78, 3, 0, 0, 6, 31), (.iload_n 2, 1, 0, 0, 0, 0), (.iconst 1, 1, 1, 0, 0, 0), (.iadd, 1, 0, 0, 0, 0), (.aload_n 0, 1, 0, 0, 0, 0)] (pc2 := 156) (by decide +kernel) rfl (And.intro kd_36 trivial) ?_
      obtain ⟨a3, σ3, e3, hf⟩ := bI_some hf
      refine h.callV (as := []) (rest := [.int (x2 + 1), .ref 56]) (by decide +kernel) lk6_150 cwX6_readNumber kd_36 (kmX6_readNumber l e3) rfl (Nat.le_of_ble_eq_true rfl) (Nat.le_of_ble_eq_true rfl) (Nat.le_of_ble_eq_true rfl) ?_
      show V 159 [some (.ref 36), some (.int x1), some (.int x2)] [.int a3, .int (x2 + 1), .ref 56] σ3
      obtain ⟨g4, hf⟩ := gd_some hf
      refine h.run (o := [kd 56 = 10, inb (x2 + 1) (alen 56) = true]) (ls' := [some (.ref 36), some (.int x1), some (.int x2)]) (st' := [.int 32, .ref 36]) (σ' := setI σ3 56 ((x2 + 1).toNatClampNeg) a3) [(.iastore, 1, 0, 0, 0, 0), (.aload_n 0, 1, 0, 0, 0, 0), (.bipush 32, 2, 32, 0, 0, 0)] (pc2 := 163) (by decide +kernel) rfl (And.intro kd_56 (And.intro g4 trivial)) ?_
      obtain ⟨σ5, e5, hf⟩ := bR_some hf
      refine h.callV (as := [.int 32]) (rest := []) (by decide +kernel) lk6_156 cwX6_take kd_36 (kmX6_take l e5) rfl (Nat.le_of_ble_eq_true rfl) (Nat.le_of_ble_eq_true rfl) (Nat.le_of_ble_eq_true rfl) ?_
      show V 166 [some (.ref 36), some (.int x1), some (.int x2)] [] σ5
      refine h.run (o := [kd 36 = 6, kd 36 = 6]) (ls' := [some (.ref 36), some (.int x1), some (.int x2)]) (st' := [.int (σ5.1 36 27), .int (x2 + 2), .ref 56]) (σ' := σ5) [(.aload_n 0, 1, 0, 0, 0, 0), (.getfield 78, 3, 0, 0, 6, 31), (.iload_n 2, 1, 0, 0, 0, 0), (.iconst 2, 1, 2, 0, 0, 0), (.iadd, 1, 0, 0, 0, 0), (.aload_n 0, 1, 0, 0, 0, 0), (.getfield 135, 3, 0, 0, 6, 27)] (pc2 := 177) (by decide +kernel) rfl (And.intro kd_36 (And.intro kd_36 trivial)) ?_
      refine h.if_eq (tgt := 184) (show decode cX6_readStatement 177 = .ok (.ifCond .eq 7, 3) by decide +kernel) (by decide) (fun c7 => ?_) (fun c7 => ?_)
      · rw [if_pos c7] at hf
        refine h.run (o := []) (ls' := [some (.ref 36), some (.int x1), some (.int x2)]) (st' := [.ref 36, .int (x2 + 2), .ref 56]) (σ' := σ5) [(.aload_n 0, 1, 0, 0, 0, 0)] (pc2 := 185) (by decide +kernel) rfl trivial ?_
        obtain ⟨a6, σ6, e6, hf⟩ := bI_some hf
        refine h.callV (as := []) (rest := [.int (x2 + 2), .ref 56]) (by decide +kernel) lk6_150 cwX6_readNumber kd_36 (kmX6_readNumber l e6) rfl (Nat.le_of_ble_eq_true rfl) (Nat.le_of_ble_eq_true rfl) (Nat.le_of_ble_eq_true rfl) ?_
        show V 188 [some (.ref 36), some (.int x1), some (.int x2)] [.int a6, .int (x2 + 2), .ref 56] σ6
        exact wX6_readStatement_188 hm hf
      · rw [if_neg c7] at hf
        show V 180 [some (.ref 36), some (.int x1), some (.int x2)] [.int (x2 + 2), .ref 56] σ5
        refine h.run (o := []) (ls' := [some (.ref 36), some (.int x1), some (.int x2)]) (st' := [.int 0, .int (x2 + 2), .ref 56]) (σ' := σ5) [(.iconst 0, 1, 0, 0, 0, 0), (.goto 7, 3, 0, 0, 0, 188)] (pc2 := 188) (by decide +kernel) rfl trivial ?_
        exact wX6_readStatement_188 hm hf
def fX6_readStatement_91 (x1 : Int32) (x2 : Int32) (t1 : Int32) (t2 : Int32) (σ : ST) : Option ST :=
  if ((setI σ 36 26 (t1 + t2)).1 36 27) = 0 then
    if x1 = 115 then
      bI (fX6_readDigit (setI σ 36 26 (t1 + t2))) fun a2 σ2 =>
      fX6_readStatement_128 x1 x2 x2 a2 σ2
    else
      bI (fX6_readNumber (setI σ 36 26 (t1 + t2))) fun a1 σ1 =>
      fX6_readStatement_128 x1 x2 x2 a1 σ1
  else
    fX6_readStatement_128 x1 x2 x2 0 (setI σ 36 26 (t1 + t2))
set_option maxHeartbeats 4000000 in
theorem wX6_readStatement_91 {l : Launch} {V : Nat → List (Option Value) → List Value → ST → Prop} {τ : ST} {σ : ST} {x1 : Int32} {x2 : Int32} {t1 : Int32} {t2 : Int32} (hm : BM l 6 cX6_readStatement 3 none 4 88 none τ V) (hf : fX6_readStatement_91 x1 x2 t1 t2 σ = some τ) : V 91 [some (.ref 36), some (.int x1), some (.int x2)] [.int t2, .int t1, .ref 36] σ := by
  have h := hm.bd
  unfold fX6_readStatement_91 at hf
  refine h.run (o := [kd 36 = 6, kd 36 = 6, kd 36 = 6]) (ls' := [some (.ref 36), some (.int x1), some (.int x2)]) (st' := [.int ((setI σ 36 26 (t1 + t2)).1 36 27), .int x2, .ref 56]) (σ' := setI σ 36 26 (t1 + t2)) [(.iadd, 1, 0, 0, 0, 0), (.putfield 126, 3, 0, 0, 6, 26), (.aload_n 0, 1, 0, 0, 0, 0), (.getfield 78, 3, 0, 0, 6, 31), (.iload_n 2, 1, 0, 0, 0, 0), (.aload_n 0, 1, 0, 0, 0, 0), (.getfield 135, 3, 0, 0, 6, 27)] (pc2 := 104) (by decide +kernel) rfl (And.intro kd_36 (And.intro kd_36 (And.intro kd_36 trivial))) ?_
  refine h.if_eq (tgt := 111) (show decode cX6_readStatement 104 = .ok (.ifCond .eq 7, 3) by decide +kernel) (by decide) (fun c4 => ?_) (fun c4 => ?_)
  · rw [if_pos c4] at hf
    refine h.run (o := []) (ls' := [some (.ref 36), some (.int x1), some (.int x2)]) (st' := [.int 115, .int x1, .int x2, .ref 56]) (σ' := setI σ 36 26 (t1 + t2)) [(.iload_n 1, 1, 0, 0, 0, 0), (.bipush 115, 2, 115, 0, 0, 0)] (pc2 := 114) (by decide +kernel) rfl trivial ?_
    refine h.icmp_ne (tgt := 124) (show decode cX6_readStatement 114 = .ok (.if_icmp .ne 10, 3) by decide +kernel) (by decide) (fun c3 => ?_) (fun c3 => ?_)
    · rw [if_neg c3] at hf
      refine h.run (o := []) (ls' := [some (.ref 36), some (.int x1), some (.int x2)]) (st' := [.ref 36, .int x2, .ref 56]) (σ' := setI σ 36 26 (t1 + t2)) [(.aload_n 0, 1, 0, 0, 0, 0)] (pc2 := 125) (by decide +kernel) rfl trivial ?_
      obtain ⟨a1, σ1, e1, hf⟩ := bI_some hf
      refine h.callV (as := []) (rest := [.int x2, .ref 56]) (by decide +kernel) lk6_150 cwX6_readNumber kd_36 (kmX6_readNumber l e1) rfl (Nat.le_of_ble_eq_true rfl) (Nat.le_of_ble_eq_true rfl) (Nat.le_of_ble_eq_true rfl) ?_
      show V 128 [some (.ref 36), some (.int x1), some (.int x2)] [.int a1, .int x2, .ref 56] σ1
      exact wX6_readStatement_128 hm hf
    · rw [if_pos c3] at hf
      show V 117 [some (.ref 36), some (.int x1), some (.int x2)] [.int x2, .ref 56] (setI σ 36 26 (t1 + t2))
      refine h.run (o := []) (ls' := [some (.ref 36), some (.int x1), some (.int x2)]) (st' := [.ref 36, .int x2, .ref 56]) (σ' := setI σ 36 26 (t1 + t2)) [(.aload_n 0, 1, 0, 0, 0, 0)] (pc2 := 118) (by decide +kernel) rfl trivial ?_
      obtain ⟨a2, σ2, e2, hf⟩ := bI_some hf
      refine h.callV (as := []) (rest := [.int x2, .ref 56]) (by decide +kernel) lk6_147 cwX6_readDigit kd_36 (kmX6_readDigit l e2) rfl (Nat.le_of_ble_eq_true rfl) (Nat.le_of_ble_eq_true rfl) (Nat.le_of_ble_eq_true rfl) ?_
      show V 121 [some (.ref 36), some (.int x1), some (.int x2)] [.int a2, .int x2, .ref 56] σ2
      refine h.run (o := []) (ls' := [some (.ref 36), some (.int x1), some (.int x2)]) (st' := [.int a2, .int x2, .ref 56]) (σ' := σ2) [(.goto 7, 3, 0, 0, 0, 128)] (pc2 := 128) (by decide +kernel) rfl trivial ?_
      exact wX6_readStatement_128 hm hf
  · rw [if_neg c4] at hf
    show V 107 [some (.ref 36), some (.int x1), some (.int x2)] [.int x2, .ref 56] (setI σ 36 26 (t1 + t2))
    refine h.run (o := []) (ls' := [some (.ref 36), some (.int x1), some (.int x2)]) (st' := [.int 0, .int x2, .ref 56]) (σ' := setI σ 36 26 (t1 + t2)) [(.iconst 0, 1, 0, 0, 0, 0), (.goto 20, 3, 0, 0, 0, 128)] (pc2 := 128) (by decide +kernel) rfl trivial ?_
    exact wX6_readStatement_128 hm hf
def fX6_readStatement_48 (x1 : Int32) (x2 : Int32) (t1 : Int32) (σ : ST) : Option ST :=
  gd (isb t1) <|
  gd (inb ((setI σ 36 27 t1).1 36 28) (alen 54)) <|
  gd (inb ((setI (setI σ 36 27 t1) 54 (((setI σ 36 27 t1).1 36 28).toNatClampNeg) ((setI σ 36 27 t1).1 36 26)).1 36 28) (alen 55)) <|
  if ((setI (setI (setI σ 36 27 t1) 54 (((setI σ 36 27 t1).1 36 28).toNatClampNeg) ((setI σ 36 27 t1).1 36 26)) 55 (((setI (setI σ 36 27 t1) 54 (((setI σ 36 27 t1).1 36 28).toNatClampNeg) ((setI σ 36 27 t1).1 36 26)).1 36 28).toNatClampNeg) x1).1 36 27) = 0 then
    fX6_readStatement_91 x1 x2 ((setI (setI (setI σ 36 27 t1) 54 (((setI σ 36 27 t1).1 36 28).toNatClampNeg) ((setI σ 36 27 t1).1 36 26)) 55 (((setI (setI σ 36 27 t1) 54 (((setI σ 36 27 t1).1 36 28).toNatClampNeg) ((setI σ 36 27 t1).1 36 26)).1 36 28).toNatClampNeg) x1).1 36 26) 1 (setI (setI (setI σ 36 27 t1) 54 (((setI σ 36 27 t1).1 36 28).toNatClampNeg) ((setI σ 36 27 t1).1 36 26)) 55 (((setI (setI σ 36 27 t1) 54 (((setI σ 36 27 t1).1 36 28).toNatClampNeg) ((setI σ 36 27 t1).1 36 26)).1 36 28).toNatClampNeg) x1)
  else
    fX6_readStatement_91 x1 x2 ((setI (setI (setI σ 36 27 t1) 54 (((setI σ 36 27 t1).1 36 28).toNatClampNeg) ((setI σ 36 27 t1).1 36 26)) 55 (((setI (setI σ 36 27 t1) 54 (((setI σ 36 27 t1).1 36 28).toNatClampNeg) ((setI σ 36 27 t1).1 36 26)).1 36 28).toNatClampNeg) x1).1 36 26) 0 (setI (setI (setI σ 36 27 t1) 54 (((setI σ 36 27 t1).1 36 28).toNatClampNeg) ((setI σ 36 27 t1).1 36 26)) 55 (((setI (setI σ 36 27 t1) 54 (((setI σ 36 27 t1).1 36 28).toNatClampNeg) ((setI σ 36 27 t1).1 36 26)).1 36 28).toNatClampNeg) x1)
set_option maxHeartbeats 4000000 in
theorem wX6_readStatement_48 {l : Launch} {V : Nat → List (Option Value) → List Value → ST → Prop} {τ : ST} {σ : ST} {x1 : Int32} {x2 : Int32} {t1 : Int32} (hm : BM l 6 cX6_readStatement 3 none 4 88 none τ V) (hf : fX6_readStatement_48 x1 x2 t1 σ = some τ) : V 48 [some (.ref 36), some (.int x1), some (.int x2)] [.int t1, .ref 36] σ := by
  have h := hm.bd
  unfold fX6_readStatement_48 at hf
  obtain ⟨g1, hf⟩ := gd_some hf
  obtain ⟨g2, hf⟩ := gd_some hf
  obtain ⟨g3, hf⟩ := gd_some hf
  refine h.run (o := [kd 36 = 6, isb t1 = true, kd 36 = 6, kd 36 = 6, kd 36 = 6, kd 54 = 10, inb ((setI σ 36 27 t1).1 36 28) (alen 54) = true, kd 36 = 6, kd 36 = 6, kd 55 = 10, inb ((setI (setI σ 36 27 t1) 54 (((setI σ 36 27 t1).1 36 28).toNatClampNeg) ((setI σ 36 27 t1).1 36 26)).1 36 28) (alen 55) = true, kd 36 = 6, kd 36 = 6]) (ls' := [some (.ref 36), some (.int x1), some (.int x2)]) (st' := [.int ((setI (setI (setI σ 36 27 t1) 54 (((setI σ 36 27 t1).1 36 28).toNatClampNeg) ((setI σ 36 27 t1).1 36 26)) 55 (((setI (setI σ 36 27 t1) 54 (((setI σ 36 27 t1).1 36 28).toNatClampNeg) ((setI σ 36 27 t1).1 36 26)).1 36 28).toNatClampNeg) x1).1 36 27), .int ((setI (setI (setI σ 36 27 t1) 54 (((setI σ 36 27 t1).1 36 28).toNatClampNeg) ((setI σ 36 27 t1).1 36 26)) 55 (((setI (setI σ 36 27 t1) 54 (((setI σ 36 27 t1).1 36 28).toNatClampNeg) ((setI σ 36 27 t1).1 36 26)).1 36 28).toNatClampNeg) x1).1 36 26), .ref 36]) (σ' := setI (setI (setI σ 36 27 t1) 54 (((setI σ 36 27 t1).1 36 28).toNatClampNeg) ((setI σ 36 27 t1).1 36 26)) 55 (((setI (setI σ 36 27 t1) 54 (((setI σ 36 27 t1).1 36 28).toNatClampNeg) ((setI σ 36 27 t1).1 36 26)).1 36 28).toNatClampNeg) x1) [(.putfield 135, 3, 0, 0, 106, 27), (.aload_n 0, 1, 0, 0, 0, 0), (.getfield 72, 3, 0, 0, 6, 29), (.aload_n 0, 1, 0, 0, 0, 0), (.getfield 153, 3, 0, 0, 6, 28), (.aload_n 0, 1, 0, 0, 0, 0), (.getfield 126, 3, 0, 0, 6, 26), (.iastore, 1, 0, 0, 0, 0), (.aload_n 0, 1, 0, 0, 0, 0), (.getfield 75, 3, 0, 0, 6, 30), (.aload_n 0, 1, 0, 0, 0, 0), (.getfield 153, 3, 0, 0, 6, 28), (.iload_n 1, 1, 0, 0, 0, 0), (.iastore, 1, 0, 0, 0, 0), (.aload_n 0, 1, 0, 0, 0, 0), (.dup, 1, 0, 0, 0, 0), (.getfield 126, 3, 0, 0, 6, 26), (.aload_n 0, 1, 0, 0, 0, 0), (.getfield 135, 3, 0, 0, 6, 27)] (pc2 := 83) (by decide +kernel) rfl (And.intro kd_36 (And.intro g1 (And.intro kd_36 (And.intro kd_36 (And.intro kd_36 (And.intro kd_54 (And.intro g2 (And.intro kd_36 (And.intro kd_36 (And.intro kd_55 (And.intro g3 (And.intro kd_36 (And.intro kd_36 trivial))))))))))))) ?_
  refine h.if_eq (tgt := 90) (show decode cX6_readStatement 83 = .ok (.ifCond .eq 7, 3) by decide +kernel) (by decide) (fun c4 => ?_) (fun c4 => ?_)
  · rw [if_pos c4] at hf
    refine h.run (o := []) (ls' := [some (.ref 36), some (.int x1), some (.int x2)]) (st' := [.int 1, .int ((setI (setI (setI σ 36 27 t1) 54 (((setI σ 36 27 t1).1 36 28).toNatClampNeg) ((setI σ 36 27 t1).1 36 26)) 55 (((setI (setI σ 36 27 t1) 54 (((setI σ 36 27 t1).1 36 28).toNatClampNeg) ((setI σ 36 27 t1).1 36 26)).1 36 28).toNatClampNeg) x1).1 36 26), .ref 36]) (σ' := setI (setI (setI σ 36 27 t1) 54 (((setI σ 36 27 t1).1 36 28).toNatClampNeg) ((setI σ 36 27 t1).1 36 26)) 55 (((setI (setI σ 36 27 t1) 54 (((setI σ 36 27 t1).1 36 28).toNatClampNeg) ((setI σ 36 27 t1).1 36 26)).1 36 28).toNatClampNeg) x1) [(.iconst 1, 1, 1, 0, 0, 0)] (pc2 := 91) (by decide +kernel) rfl trivial ?_
    exact wX6_readStatement_91 hm hf
  · rw [if_neg c4] at hf
    show V 86 [some (.ref 36), some (.int x1), some (.int x2)] [.int ((setI (setI (setI σ 36 27 t1) 54 (((setI σ 36 27 t1).1 36 28).toNatClampNeg) ((setI σ 36 27 t1).1 36 26)) 55 (((setI (setI σ 36 27 t1) 54 (((setI σ 36 27 t1).1 36 28).toNatClampNeg) ((setI σ 36 27 t1).1 36 26)).1 36 28).toNatClampNeg) x1).1 36 26), .ref 36] (setI (setI (setI σ 36 27 t1) 54 (((setI σ 36 27 t1).1 36 28).toNatClampNeg) ((setI σ 36 27 t1).1 36 26)) 55 (((setI (setI σ 36 27 t1) 54 (((setI σ 36 27 t1).1 36 28).toNatClampNeg) ((setI σ 36 27 t1).1 36 26)).1 36 28).toNatClampNeg) x1)
    refine h.run (o := []) (ls' := [some (.ref 36), some (.int x1), some (.int x2)]) (st' := [.int 0, .int ((setI (setI (setI σ 36 27 t1) 54 (((setI σ 36 27 t1).1 36 28).toNatClampNeg) ((setI σ 36 27 t1).1 36 26)) 55 (((setI (setI σ 36 27 t1) 54 (((setI σ 36 27 t1).1 36 28).toNatClampNeg) ((setI σ 36 27 t1).1 36 26)).1 36 28).toNatClampNeg) x1).1 36 26), .ref 36]) (σ' := setI (setI (setI σ 36 27 t1) 54 (((setI σ 36 27 t1).1 36 28).toNatClampNeg) ((setI σ 36 27 t1).1 36 26)) 55 (((setI (setI σ 36 27 t1) 54 (((setI σ 36 27 t1).1 36 28).toNatClampNeg) ((setI σ 36 27 t1).1 36 26)).1 36 28).toNatClampNeg) x1) [(.iconst 0, 1, 0, 0, 0, 0), (.goto 4, 3, 0, 0, 0, 91)] (pc2 := 91) (by decide +kernel) rfl trivial ?_
    exact wX6_readStatement_91 hm hf
def fX6_readStatement_47 (x1 : Int32) (x2 : Int32) (σ : ST) : Option ST :=
  fX6_readStatement_48 x1 x2 0 σ
set_option maxHeartbeats 4000000 in
theorem wX6_readStatement_47 {l : Launch} {V : Nat → List (Option Value) → List Value → ST → Prop} {τ : ST} {σ : ST} {x1 : Int32} {x2 : Int32} (hm : BM l 6 cX6_readStatement 3 none 4 88 none τ V) (hf : fX6_readStatement_47 x1 x2 σ = some τ) : V 47 [some (.ref 36), some (.int x1), some (.int x2)] [.ref 36] σ := by
  have h := hm.bd
  unfold fX6_readStatement_47 at hf
  refine h.run (o := []) (ls' := [some (.ref 36), some (.int x1), some (.int x2)]) (st' := [.int 0, .ref 36]) (σ' := σ) [(.iconst 0, 1, 0, 0, 0, 0)] (pc2 := 48) (by decide +kernel) rfl trivial ?_
  exact wX6_readStatement_48 hm hf
def fX6_readStatement (σ : ST) : Option ST :=
  bR (fX6_here σ) fun a1 =>
  if a1 = 115 then
    fX6_readStatement_47 a1 (4 * (σ.1 36 28)) σ
  else
    if a1 = 109 then
      fX6_readStatement_47 a1 (4 * (σ.1 36 28)) σ
    else
      if a1 = 120 then
        fX6_readStatement_47 a1 (4 * (σ.1 36 28)) σ
      else
        if a1 = 99 then
          fX6_readStatement_47 a1 (4 * (σ.1 36 28)) σ
        else
          if a1 = 116 then
            fX6_readStatement_47 a1 (4 * (σ.1 36 28)) σ
          else
            fX6_readStatement_48 a1 (4 * (σ.1 36 28)) 1 σ
set_option maxHeartbeats 4000000 in
theorem kmX6_readStatement (l : Launch) {σ : ST} {τ : ST} (hf : fX6_readStatement σ = some τ) : KM l yX6_readStatement cX6_readStatement 3 none 4 88 [.ref 36] σ none τ := by
  refine KM.intro (ow := 6) (by decide +kernel) rfl (Nat.le_of_ble_eq_true rfl) (fun V hm => ?_)
  show V 0 [some (.ref 36), none, none] [] σ
  have h := hm.bd
  unfold fX6_readStatement at hf
  refine h.run (o := []) (ls' := [some (.ref 36), none, none]) (st' := [.ref 36]) (σ' := σ) [(.aload_n 0, 1, 0, 0, 0, 0)] (pc2 := 1) (by decide +kernel) rfl trivial ?_
  obtain ⟨a1, e1, hf⟩ := bR_some hf
  refine h.callV (as := []) (rest := []) (by decide +kernel) lk6_139 cwX6_here kd_36 (kmX6_here l e1) rfl (Nat.le_of_ble_eq_true rfl) (Nat.le_of_ble_eq_true rfl) (Nat.le_of_ble_eq_true rfl) ?_
  show V 4 [some (.ref 36), none, none] [.int a1] σ
  refine h.run (o := [kd 36 = 6]) (ls' := [some (.ref 36), some (.int a1), some (.int (4 * (σ.1 36 28)))]) (st' := [.int 115, .int a1, .ref 36]) (σ' := σ) [(.istore_n 1, 1, 0, 0, 0, 0), (.iconst 4, 1, 4, 0, 0, 0), (.aload_n 0, 1, 0, 0, 0, 0), (.getfield 153, 3, 0, 0, 6, 28), (.imul, 1, 0, 0, 0, 0), (.istore_n 2, 1, 0, 0, 0, 0), (.aload_n 0, 1, 0, 0, 0, 0), (.iload_n 1, 1, 0, 0, 0, 0), (.bipush 115, 2, 115, 0, 0, 0)] (pc2 := 16) (by decide +kernel) rfl (And.intro kd_36 trivial) ?_
  refine h.icmp_eq (tgt := 47) (show decode cX6_readStatement 16 = .ok (.if_icmp .eq 31, 3) by decide +kernel) (by decide) (fun c6 => ?_) (fun c6 => ?_)
  · rw [if_pos c6] at hf
    exact wX6_readStatement_47 hm hf
  · rw [if_neg c6] at hf
    show V 19 [some (.ref 36), some (.int a1), some (.int (4 * (σ.1 36 28)))] [.ref 36] σ
    refine h.run (o := []) (ls' := [some (.ref 36), some (.int a1), some (.int (4 * (σ.1 36 28)))]) (st' := [.int 109, .int a1, .ref 36]) (σ' := σ) [(.iload_n 1, 1, 0, 0, 0, 0), (.bipush 109, 2, 109, 0, 0, 0)] (pc2 := 22) (by decide +kernel) rfl trivial ?_
    refine h.icmp_eq (tgt := 47) (show decode cX6_readStatement 22 = .ok (.if_icmp .eq 25, 3) by decide +kernel) (by decide) (fun c5 => ?_) (fun c5 => ?_)
    · rw [if_pos c5] at hf
      exact wX6_readStatement_47 hm hf
    · rw [if_neg c5] at hf
      show V 25 [some (.ref 36), some (.int a1), some (.int (4 * (σ.1 36 28)))] [.ref 36] σ
      refine h.run (o := []) (ls' := [some (.ref 36), some (.int a1), some (.int (4 * (σ.1 36 28)))]) (st' := [.int 120, .int a1, .ref 36]) (σ' := σ) [(.iload_n 1, 1, 0, 0, 0, 0), (.bipush 120, 2, 120, 0, 0, 0)] (pc2 := 28) (by decide +kernel) rfl trivial ?_
      refine h.icmp_eq (tgt := 47) (show decode cX6_readStatement 28 = .ok (.if_icmp .eq 19, 3) by decide +kernel) (by decide) (fun c4 => ?_) (fun c4 => ?_)
      · rw [if_pos c4] at hf
        exact wX6_readStatement_47 hm hf
      · rw [if_neg c4] at hf
        show V 31 [some (.ref 36), some (.int a1), some (.int (4 * (σ.1 36 28)))] [.ref 36] σ
        refine h.run (o := []) (ls' := [some (.ref 36), some (.int a1), some (.int (4 * (σ.1 36 28)))]) (st' := [.int 99, .int a1, .ref 36]) (σ' := σ) [(.iload_n 1, 1, 0, 0, 0, 0), (.bipush 99, 2, 99, 0, 0, 0)] (pc2 := 34) (by decide +kernel) rfl trivial ?_
        refine h.icmp_eq (tgt := 47) (show decode cX6_readStatement 34 = .ok (.if_icmp .eq 13, 3) by decide +kernel) (by decide) (fun c3 => ?_) (fun c3 => ?_)
        · rw [if_pos c3] at hf
          exact wX6_readStatement_47 hm hf
        · rw [if_neg c3] at hf
          show V 37 [some (.ref 36), some (.int a1), some (.int (4 * (σ.1 36 28)))] [.ref 36] σ
          refine h.run (o := []) (ls' := [some (.ref 36), some (.int a1), some (.int (4 * (σ.1 36 28)))]) (st' := [.int 116, .int a1, .ref 36]) (σ' := σ) [(.iload_n 1, 1, 0, 0, 0, 0), (.bipush 116, 2, 116, 0, 0, 0)] (pc2 := 40) (by decide +kernel) rfl trivial ?_
          refine h.icmp_eq (tgt := 47) (show decode cX6_readStatement 40 = .ok (.if_icmp .eq 7, 3) by decide +kernel) (by decide) (fun c2 => ?_) (fun c2 => ?_)
          · rw [if_pos c2] at hf
            exact wX6_readStatement_47 hm hf
          · rw [if_neg c2] at hf
            show V 43 [some (.ref 36), some (.int a1), some (.int (4 * (σ.1 36 28)))] [.ref 36] σ
            refine h.run (o := []) (ls' := [some (.ref 36), some (.int a1), some (.int (4 * (σ.1 36 28)))]) (st' := [.int 1, .ref 36]) (σ' := σ) [(.iconst 1, 1, 1, 0, 0, 0), (.goto 4, 3, 0, 0, 0, 48)] (pc2 := 48) (by decide +kernel) rfl trivial ?_
            exact wX6_readStatement_48 hm hf
