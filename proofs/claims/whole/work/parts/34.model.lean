/-! Printed by wip/whole/prt.py: functions and walks. -/
def fX6_sends_21 (σ : ST) : Option (Int32 × ST) :=
  some ((-1), σ)
set_option maxHeartbeats 4000000 in
theorem wX6_sends_21 {l : Launch} {V : Nat → List (Option Value) → List Value → ST → Prop} {r : Int32} {τ : ST} {σ : ST} (hm : BM l 6 cX6_sends 5 (some .int) 3 70 (some (.int r)) τ V) (hf : fX6_sends_21 σ = some (r, τ)) : V 21 [none, none, none, none, none] [] σ := by
  have h := hm.bd
  unfold fX6_sends_21 at hf
  refine h.run (o := []) (ls' := [none, none, none, none, none]) (st' := [.int (-1)]) (σ' := σ) [(.iconst (-1), 1, (-1), 0, 0, 0)] (pc2 := 22) (by decide +kernel) rfl trivial ?_
  obtain ⟨rfl, rfl⟩ := Prod.mk.inj (Option.some.inj hf)
  exact hm.iret (by decide +kernel)
def fX6_sends (x1 : Int32) (x2 : Int32) (σ : ST) : Option (Int32 × ST) :=
  bR (fX6_isSender x1 (setI σ 36 23 0)) fun a1 =>
  if a1 = 0 then
    fX6_sends_21 (setI σ 36 23 0)
  else
    bR (fX6_isReturner x2 (setI σ 36 23 0)) fun a2 =>
    if a2 = 0 then
      fX6_sends_21 (setI σ 36 23 0)
    else
      bI (fX6_sendingTo x1 x2 (setI σ 36 23 0)) fun a3 σ3 =>
      some (a3, setI σ3 36 2 ((setI σ 36 23 0).1 36 2))
set_option maxHeartbeats 4000000 in
theorem kmX6_sends (l : Launch) {x1 : Int32} {x2 : Int32} {σ : ST} {r : Int32} {τ : ST} (hf : fX6_sends x1 x2 σ = some (r, τ)) : KM l yX6_sends cX6_sends 5 (some .int) 3 70 [.ref 36, .int x1, .int x2] σ (some (.int r)) τ := by
  refine KM.intro (ow := 6) (by decide +kernel) rfl (Nat.le_of_ble_eq_true rfl) (fun V hm => ?_)
  show V 0 [some (.ref 36), some (.int x1), some (.int x2), none, none] [] σ
  have h := hm.bd
  unfold fX6_sends at hf
  refine h.run (o := [kd 36 = 6]) (ls' := [some (.ref 36), some (.int x1), some (.int x2), none, none]) (st' := [.int x1, .ref 36]) (σ' := setI σ 36 23 0) [(.aload_n 0, 1, 0, 0, 0, 0), (.iconst 0, 1, 0, 0, 0, 0), (.putfield 112, 3, 0, 0, 6, 23), (.aload_n 0, 1, 0, 0, 0, 0), (.iload_n 1, 1, 0, 0, 0, 0)] (pc2 := 7) (by decide +kernel) rfl (And.intro kd_36 trivial) ?_
  obtain ⟨a1, e1, hf⟩ := bR_some hf
  refine h.callV (as := [.int x1]) (rest := []) (by decide +kernel) lk6_183 cwX6_isSender kd_36 (kmX6_isSender l e1) rfl (Nat.le_of_ble_eq_true rfl) (Nat.le_of_ble_eq_true rfl) (Nat.le_of_ble_eq_true rfl) ?_
  show V 10 [some (.ref 36), some (.int x1), some (.int x2), none, none] [.int a1] (setI σ 36 23 0)
  refine h.if_eq (tgt := 21) (show decode cX6_sends 10 = .ok (.ifCond .eq 11, 3) by decide +kernel) (by decide) (fun c5 => ?_) (fun c5 => ?_)
  · rw [if_pos c5] at hf
    refine h.drop (ls' := [none, none, none, none, none]) trivial ?_
    exact wX6_sends_21 hm hf
  · rw [if_neg c5] at hf
    show V 13 [some (.ref 36), some (.int x1), some (.int x2), none, none] [] (setI σ 36 23 0)
    refine h.run (o := []) (ls' := [some (.ref 36), some (.int x1), some (.int x2), none, none]) (st' := [.int x2, .ref 36]) (σ' := setI σ 36 23 0) [(.aload_n 0, 1, 0, 0, 0, 0), (.iload_n 2, 1, 0, 0, 0, 0)] (pc2 := 15) (by decide +kernel) rfl trivial ?_
    obtain ⟨a2, e2, hf⟩ := bR_some hf
    refine h.callV (as := [.int x2]) (rest := []) (by decide +kernel) lk6_188 cwX6_isReturner kd_36 (kmX6_isReturner l e2) rfl (Nat.le_of_ble_eq_true rfl) (Nat.le_of_ble_eq_true rfl) (Nat.le_of_ble_eq_true rfl) ?_
    show V 18 [some (.ref 36), some (.int x1), some (.int x2), none, none] [.int a2] (setI σ 36 23 0)
    refine h.if_ne (tgt := 23) (show decode cX6_sends 18 = .ok (.ifCond .ne 5, 3) by decide +kernel) (by decide) (fun c4 => ?_) (fun c4 => ?_)
    · rw [if_neg c4] at hf
      refine h.run (o := [kd 36 = 6]) (ls' := [some (.ref 36), some (.int x1), some (.int x2), some (.int ((setI σ 36 23 0).1 36 2)), none]) (st' := [.int x2, .int x1, .ref 36]) (σ' := setI σ 36 23 0) [(.aload_n 0, 1, 0, 0, 0, 0), (.getfield 16, 3, 0, 0, 6, 2), (.istore_n 3, 1, 0, 0, 0, 0), (.aload_n 0, 1, 0, 0, 0, 0), (.iload_n 1, 1, 0, 0, 0, 0), (.iload_n 2, 1, 0, 0, 0, 0)] (pc2 := 31) (by decide +kernel) rfl (And.intro kd_36 trivial) ?_
      obtain ⟨a3, σ3, e3, hf⟩ := bI_some hf
      refine h.callV (as := [.int x1, .int x2]) (rest := []) (by decide +kernel) lk6_210 cwX6_sendingTo kd_36 (kmX6_sendingTo l e3) rfl (Nat.le_of_ble_eq_true rfl) (Nat.le_of_ble_eq_true rfl) (Nat.le_of_ble_eq_true rfl) ?_
      show V 34 [some (.ref 36), some (.int x1), some (.int x2), some (.int ((setI σ 36 23 0).1 36 2)), none] [.int a3] σ3
      refine h.run (o := [kd 36 = 6]) (ls' := [some (.ref 36), some (.int x1), some (.int x2), some (.int ((setI σ 36 23 0).1 36 2)), some (.int a3)]) (st' := [.int a3]) (σ' := setI σ3 36 2 ((setI σ 36 23 0).1 36 2)) [(.istore 4, 2, 0, 0, 0, 0), (.aload_n 0, 1, 0, 0, 0, 0), (.iload_n 3, 1, 0, 0, 0, 0), (.putfield 16, 3, 0, 0, 6, 2), (.iload 4, 2, 0, 0, 0, 0)] (pc2 := 43) (by decide +kernel) rfl (And.intro kd_36 trivial) ?_
      obtain ⟨rfl, rfl⟩ := Prod.mk.inj (Option.some.inj hf)
      exact hm.iret (by decide +kernel)
    · rw [if_pos c4] at hf
      show V 21 [some (.ref 36), some (.int x1), some (.int x2), none, none] [] (setI σ 36 23 0)
      refine h.drop (ls' := [none, none, none, none, none]) trivial ?_
      exact wX6_sends_21 hm hf
def fX6_back_27 (σ : ST) : Option (Int32 × ST) :=
  some ((-1), σ)
set_option maxHeartbeats 4000000 in
theorem wX6_back_27 {l : Launch} {V : Nat → List (Option Value) → List Value → ST → Prop} {r : Int32} {τ : ST} {σ : ST} (hm : BM l 6 cX6_back 6 (some .int) 2 46 (some (.int r)) τ V) (hf : fX6_back_27 σ = some (r, τ)) : V 27 [none, none, none, none, none, none] [] σ := by
  have h := hm.bd
  unfold fX6_back_27 at hf
  refine h.run (o := []) (ls' := [none, none, none, none, none, none]) (st' := [.int (-1)]) (σ' := σ) [(.iconst (-1), 1, (-1), 0, 0, 0)] (pc2 := 28) (by decide +kernel) rfl trivial ?_
  obtain ⟨rfl, rfl⟩ := Prod.mk.inj (Option.some.inj hf)
  exact hm.iret (by decide +kernel)
def fX6_back (x1 : Int32) (x2 : Int32) (x3 : Int32) (σ : ST) : Option (Int32 × ST) :=
  bR (fX6_isReturner x1 (setI σ 36 23 0)) fun a1 =>
  if a1 = 0 then
    fX6_back_27 (setI σ 36 23 0)
  else
    bR (fX6_in x2.toInt64 0 (((setI σ 36 23 0).1 36 0).toInt64) (setI σ 36 23 0)) fun a2 =>
    if a2 = 0 then
      fX6_back_27 (setI σ 36 23 0)
    else
      gd (inb x1 (alen 41)) <|
      bI (fX6_backOf x1 (x2 * ((setI σ 36 23 0).1 36 1)) ((setI σ 36 23 0).1 41 x1.toNatClampNeg) x3 (setI σ 36 23 0)) fun a4 σ4 =>
      some (a4, setI σ4 36 2 ((setI σ 36 23 0).1 36 2))
set_option maxHeartbeats 4000000 in
theorem kmX6_back (l : Launch) {x1 : Int32} {x2 : Int32} {x3 : Int32} {σ : ST} {r : Int32} {τ : ST} (hf : fX6_back x1 x2 x3 σ = some (r, τ)) : KM l yX6_back cX6_back 6 (some .int) 2 46 [.ref 36, .int x1, .int x2, .int x3] σ (some (.int r)) τ := by
  refine KM.intro (ow := 6) (by decide +kernel) rfl (Nat.le_of_ble_eq_true rfl) (fun V hm => ?_)
  show V 0 [some (.ref 36), some (.int x1), some (.int x2), some (.int x3), none, none] [] σ
  have h := hm.bd
  unfold fX6_back at hf
  refine h.run (o := [kd 36 = 6]) (ls' := [some (.ref 36), some (.int x1), some (.int x2), some (.int x3), none, none]) (st' := [.int x1, .ref 36]) (σ' := setI σ 36 23 0) [(.aload_n 0, 1, 0, 0, 0, 0), (.iconst 0, 1, 0, 0, 0, 0), (.putfield 112, 3, 0, 0, 6, 23), (.aload_n 0, 1, 0, 0, 0, 0), (.iload_n 1, 1, 0, 0, 0, 0)] (pc2 := 7) (by decide +kernel) rfl (And.intro kd_36 trivial) ?_
  obtain ⟨a1, e1, hf⟩ := bR_some hf
  refine h.callV (as := [.int x1]) (rest := []) (by decide +kernel) lk6_188 cwX6_isReturner kd_36 (kmX6_isReturner l e1) rfl (Nat.le_of_ble_eq_true rfl) (Nat.le_of_ble_eq_true rfl) (Nat.le_of_ble_eq_true rfl) ?_
  show V 10 [some (.ref 36), some (.int x1), some (.int x2), some (.int x3), none, none] [.int a1] (setI σ 36 23 0)
  refine h.if_eq (tgt := 27) (show decode cX6_back 10 = .ok (.ifCond .eq 17, 3) by decide +kernel) (by decide) (fun c6 => ?_) (fun c6 => ?_)
  · rw [if_pos c6] at hf
    refine h.drop (ls' := [none, none, none, none, none, none]) trivial ?_
    exact wX6_back_27 hm hf
  · rw [if_neg c6] at hf
    show V 13 [some (.ref 36), some (.int x1), some (.int x2), some (.int x3), none, none] [] (setI σ 36 23 0)
    refine h.run (o := [kd 36 = 6]) (ls' := [some (.ref 36), some (.int x1), some (.int x2), some (.int x3), none, none]) (st' := [.long (((setI σ 36 23 0).1 36 0).toInt64), .long 0, .long x2.toInt64]) (σ' := setI σ 36 23 0) [(.iload_n 2, 1, 0, 0, 0, 0), (.i2l, 1, 0, 0, 0, 0), (.lconst 0, 1, 0, 0, 0, 0), (.aload_n 0, 1, 0, 0, 0, 0), (.getfield 7, 3, 0, 0, 6, 0), (.i2l, 1, 0, 0, 0, 0)] (pc2 := 21) (by decide +kernel) rfl (And.intro kd_36 trivial) ?_
    obtain ⟨a2, e2, hf⟩ := bR_some hf
    refine h.callS (as := [.long x2.toInt64, .long 0, .long (((setI σ 36 23 0).1 36 0).toInt64)]) (rest := []) (by decide +kernel) lk6_119 cwX6_in (kmX6_in l e2) rfl (Nat.le_of_ble_eq_true rfl) (Nat.le_of_ble_eq_true rfl) (Nat.le_of_ble_eq_true rfl) ?_
    show V 24 [some (.ref 36), some (.int x1), some (.int x2), some (.int x3), none, none] [.int a2] (setI σ 36 23 0)
    refine h.if_ne (tgt := 29) (show decode cX6_back 24 = .ok (.ifCond .ne 5, 3) by decide +kernel) (by decide) (fun c5 => ?_) (fun c5 => ?_)
    · rw [if_neg c5] at hf
      obtain ⟨g3, hf⟩ := gd_some hf
      refine h.run (o := [kd 36 = 6, kd 36 = 6, kd 36 = 6, kd 41 = 10, inb x1 (alen 41) = true]) (ls' := [some (.ref 36), some (.int x1), some (.int x2), some (.int x3), some (.int ((setI σ 36 23 0).1 36 2)), none]) (st' := [.int x3, .int ((setI σ 36 23 0).1 41 x1.toNatClampNeg), .int (x2 * ((setI σ 36 23 0).1 36 1)), .int x1, .ref 36]) (σ' := setI σ 36 23 0) [(.aload_n 0, 1, 0, 0, 0, 0), (.getfield 16, 3, 0, 0, 6, 2), (.istore 4, 2, 0, 0, 0, 0), (.aload_n 0, 1, 0, 0, 0, 0), (.iload_n 1, 1, 0, 0, 0, 0), (.iload_n 2, 1, 0, 0, 0, 0), (.aload_n 0, 1, 0, 0, 0, 0), (.getfield 13, 3, 0, 0, 6, 1), (.imul, 1, 0, 0, 0, 0), (.aload_n 0, 1, 0, 0, 0, 0), (.getfield 32, 3, 0, 0, 6, 9), (.iload_n 1, 1, 0, 0, 0, 0), (.iaload, 1, 0, 0, 0, 0), (.iload_n 3, 1, 0, 0, 0, 0)] (pc2 := 50) (by decide +kernel) rfl (And.intro kd_36 (And.intro kd_36 (And.intro kd_36 (And.intro kd_41 (And.intro g3 trivial))))) ?_
      obtain ⟨a4, σ4, e4, hf⟩ := bI_some hf
      refine h.callV (as := [.int x1, .int (x2 * ((setI σ 36 23 0).1 36 1)), .int ((setI σ 36 23 0).1 41 x1.toNatClampNeg), .int x3]) (rest := []) (by decide +kernel) lk6_217 cwX6_backOf kd_36 (kmX6_backOf l e4) rfl (Nat.le_of_ble_eq_true rfl) (Nat.le_of_ble_eq_true rfl) (Nat.le_of_ble_eq_true rfl) ?_
      show V 53 [some (.ref 36), some (.int x1), some (.int x2), some (.int x3), some (.int ((setI σ 36 23 0).1 36 2)), none] [.int a4] σ4
      refine h.run (o := [kd 36 = 6]) (ls' := [some (.ref 36), some (.int x1), some (.int x2), some (.int x3), some (.int ((setI σ 36 23 0).1 36 2)), some (.int a4)]) (st' := [.int a4]) (σ' := setI σ4 36 2 ((setI σ 36 23 0).1 36 2)) [(.istore 5, 2, 0, 0, 0, 0), (.aload_n 0, 1, 0, 0, 0, 0), (.iload 4, 2, 0, 0, 0, 0), (.putfield 16, 3, 0, 0, 6, 2), (.iload 5, 2, 0, 0, 0, 0)] (pc2 := 63) (by decide +kernel) rfl (And.intro kd_36 trivial) ?_
      obtain ⟨rfl, rfl⟩ := Prod.mk.inj (Option.some.inj hf)
      exact hm.iret (by decide +kernel)
    · rw [if_pos c5] at hf
      show V 27 [some (.ref 36), some (.int x1), some (.int x2), some (.int x3), none, none] [] (setI σ 36 23 0)
      refine h.drop (ls' := [none, none, none, none, none, none]) trivial ?_
      exact wX6_back_27 hm hf
def fX6_held_21 (σ : ST) : Option (Int32 × ST) :=
  bR (fX6_far (-1) σ) fun a1 =>
  some (a1, σ)
set_option maxHeartbeats 4000000 in
theorem wX6_held_21 {l : Launch} {V : Nat → List (Option Value) → List Value → ST → Prop} {r : Int32} {τ : ST} {σ : ST} (hm : BM l 6 cX6_held 3 (some .int) 2 46 (some (.int r)) τ V) (hf : fX6_held_21 σ = some (r, τ)) : V 21 [none, none, none] [] σ := by
  have h := hm.bd
  unfold fX6_held_21 at hf
  refine h.run (o := []) (ls' := [none, none, none]) (st' := [.int (-1)]) (σ' := σ) [(.iconst (-1), 1, (-1), 0, 0, 0)] (pc2 := 22) (by decide +kernel) rfl trivial ?_
  obtain ⟨a1, e1, hf⟩ := bR_some hf
  refine h.callS (as := [.int (-1)]) (rest := []) (by decide +kernel) lk6_238 cwX6_far (kmX6_far l e1) rfl (Nat.le_of_ble_eq_true rfl) (Nat.le_of_ble_eq_true rfl) (Nat.le_of_ble_eq_true rfl) ?_
  show V 25 [none, none, none] [.int a1] σ
  obtain ⟨rfl, rfl⟩ := Prod.mk.inj (Option.some.inj hf)
  exact hm.iret (by decide +kernel)
def fX6_held_54 (t0 : Int32) (σ : ST) : Option (Int32 × ST) :=
  some (t0, σ)
set_option maxHeartbeats 4000000 in
theorem wX6_held_54 {l : Launch} {V : Nat → List (Option Value) → List Value → ST → Prop} {r : Int32} {τ : ST} {σ : ST} {t0 : Int32} (hm : BM l 6 cX6_held 3 (some .int) 2 46 (some (.int r)) τ V) (hf : fX6_held_54 t0 σ = some (r, τ)) : V 54 [none, none, none] [.int t0] σ := by
  have h := hm.bd
  unfold fX6_held_54 at hf
  obtain ⟨rfl, rfl⟩ := Prod.mk.inj (Option.some.inj hf)
  exact hm.iret (by decide +kernel)
def fX6_held (x1 : Int32) (x2 : Int32) (σ : ST) : Option (Int32 × ST) :=
  bR (fX6_isSender x1 (setI σ 36 23 0)) fun a1 =>
  if a1 = 0 then
    fX6_held_21 (setI σ 36 23 0)
  else
    bR (fX6_isReturner x2 (setI σ 36 23 0)) fun a2 =>
    if a2 = 0 then
      fX6_held_21 (setI σ 36 23 0)
    else
      bR (fX6_nameOf x2 (setI σ 36 23 0)) fun a3 =>
      if 0 ≤ a3 then
        gd (inb x1 (alen 39)) <|
        bR (fX6_nameOf x2 (setI σ 36 23 0)) fun a5 =>
        fX6_held_54 (((setI σ 36 23 0).1 39 x1.toNatClampNeg) - a5) (setI σ 36 23 0)
      else
        bR (fX6_far (-3) (setI σ 36 23 0)) fun a6 =>
        fX6_held_54 a6 (setI σ 36 23 0)
set_option maxHeartbeats 4000000 in
theorem kmX6_held (l : Launch) {x1 : Int32} {x2 : Int32} {σ : ST} {r : Int32} {τ : ST} (hf : fX6_held x1 x2 σ = some (r, τ)) : KM l yX6_held cX6_held 3 (some .int) 2 46 [.ref 36, .int x1, .int x2] σ (some (.int r)) τ := by
  refine KM.intro (ow := 6) (by decide +kernel) rfl (Nat.le_of_ble_eq_true rfl) (fun V hm => ?_)
  show V 0 [some (.ref 36), some (.int x1), some (.int x2)] [] σ
  have h := hm.bd
  unfold fX6_held at hf
  refine h.run (o := [kd 36 = 6]) (ls' := [some (.ref 36), some (.int x1), some (.int x2)]) (st' := [.int x1, .ref 36]) (σ' := setI σ 36 23 0) [(.aload_n 0, 1, 0, 0, 0, 0), (.iconst 0, 1, 0, 0, 0, 0), (.putfield 112, 3, 0, 0, 6, 23), (.aload_n 0, 1, 0, 0, 0, 0), (.iload_n 1, 1, 0, 0, 0, 0)] (pc2 := 7) (by decide +kernel) rfl (And.intro kd_36 trivial) ?_
  obtain ⟨a1, e1, hf⟩ := bR_some hf
  refine h.callV (as := [.int x1]) (rest := []) (by decide +kernel) lk6_183 cwX6_isSender kd_36 (kmX6_isSender l e1) rfl (Nat.le_of_ble_eq_true rfl) (Nat.le_of_ble_eq_true rfl) (Nat.le_of_ble_eq_true rfl) ?_
  show V 10 [some (.ref 36), some (.int x1), some (.int x2)] [.int a1] (setI σ 36 23 0)
  refine h.if_eq (tgt := 21) (show decode cX6_held 10 = .ok (.ifCond .eq 11, 3) by decide +kernel) (by decide) (fun c9 => ?_) (fun c9 => ?_)
  · rw [if_pos c9] at hf
    refine h.drop (ls' := [none, none, none]) trivial ?_
    exact wX6_held_21 hm hf
  · rw [if_neg c9] at hf
    show V 13 [some (.ref 36), some (.int x1), some (.int x2)] [] (setI σ 36 23 0)
    refine h.run (o := []) (ls' := [some (.ref 36), some (.int x1), some (.int x2)]) (st' := [.int x2, .ref 36]) (σ' := setI σ 36 23 0) [(.aload_n 0, 1, 0, 0, 0, 0), (.iload_n 2, 1, 0, 0, 0, 0)] (pc2 := 15) (by decide +kernel) rfl trivial ?_
    obtain ⟨a2, e2, hf⟩ := bR_some hf
    refine h.callV (as := [.int x2]) (rest := []) (by decide +kernel) lk6_188 cwX6_isReturner kd_36 (kmX6_isReturner l e2) rfl (Nat.le_of_ble_eq_true rfl) (Nat.le_of_ble_eq_true rfl) (Nat.le_of_ble_eq_true rfl) ?_
    show V 18 [some (.ref 36), some (.int x1), some (.int x2)] [.int a2] (setI σ 36 23 0)
    refine h.if_ne (tgt := 26) (show decode cX6_held 18 = .ok (.ifCond .ne 8, 3) by decide +kernel) (by decide) (fun c8 => ?_) (fun c8 => ?_)
    · rw [if_neg c8] at hf
      refine h.run (o := []) (ls' := [some (.ref 36), some (.int x1), some (.int x2)]) (st' := [.int x2, .ref 36]) (σ' := setI σ 36 23 0) [(.aload_n 0, 1, 0, 0, 0, 0), (.iload_n 2, 1, 0, 0, 0, 0)] (pc2 := 28) (by decide +kernel) rfl trivial ?_
      obtain ⟨a3, e3, hf⟩ := bR_some hf
      refine h.callV (as := [.int x2]) (rest := []) (by decide +kernel) lk6_191 cwX6_nameOf kd_36 (kmX6_nameOf l e3) rfl (Nat.le_of_ble_eq_true rfl) (Nat.le_of_ble_eq_true rfl) (Nat.le_of_ble_eq_true rfl) ?_
      show V 31 [some (.ref 36), some (.int x1), some (.int x2)] [.int a3] (setI σ 36 23 0)
      refine h.if_ge (tgt := 42) (show decode cX6_held 31 = .ok (.ifCond .ge 11, 3) by decide +kernel) (by decide) (fun c7 => ?_) (fun c7 => ?_)
      · rw [if_pos c7] at hf
        obtain ⟨g4, hf⟩ := gd_some hf
        refine h.run (o := [kd 36 = 6, kd 39 = 10, inb x1 (alen 39) = true]) (ls' := [some (.ref 36), some (.int x1), some (.int x2)]) (st' := [.int x2, .ref 36, .int ((setI σ 36 23 0).1 39 x1.toNatClampNeg)]) (σ' := setI σ 36 23 0) [(.aload_n 0, 1, 0, 0, 0, 0), (.getfield 26, 3, 0, 0, 6, 6), (.iload_n 1, 1, 0, 0, 0, 0), (.iaload, 1, 0, 0, 0, 0), (.aload_n 0, 1, 0, 0, 0, 0), (.iload_n 2, 1, 0, 0, 0, 0)] (pc2 := 50) (by decide +kernel) rfl (And.intro kd_36 (And.intro kd_39 (And.intro g4 trivial))) ?_
        obtain ⟨a5, e5, hf⟩ := bR_some hf
        refine h.callV (as := [.int x2]) (rest := [.int ((setI σ 36 23 0).1 39 x1.toNatClampNeg)]) (by decide +kernel) lk6_191 cwX6_nameOf kd_36 (kmX6_nameOf l e5) rfl (Nat.le_of_ble_eq_true rfl) (Nat.le_of_ble_eq_true rfl) (Nat.le_of_ble_eq_true rfl) ?_
        show V 53 [some (.ref 36), some (.int x1), some (.int x2)] [.int a5, .int ((setI σ 36 23 0).1 39 x1.toNatClampNeg)] (setI σ 36 23 0)
        refine h.run (o := []) (ls' := [some (.ref 36), some (.int x1), some (.int x2)]) (st' := [.int (((setI σ 36 23 0).1 39 x1.toNatClampNeg) - a5)]) (σ' := setI σ 36 23 0) [(.isub, 1, 0, 0, 0, 0)] (pc2 := 54) (by decide +kernel) rfl trivial ?_
        refine h.drop (ls' := [none, none, none]) trivial ?_
        exact wX6_held_54 hm hf
      · rw [if_neg c7] at hf
        show V 34 [some (.ref 36), some (.int x1), some (.int x2)] [] (setI σ 36 23 0)
        refine h.run (o := []) (ls' := [some (.ref 36), some (.int x1), some (.int x2)]) (st' := [.int (-3)]) (σ' := setI σ 36 23 0) [(.bipush (-3), 2, (-3), 0, 0, 0)] (pc2 := 36) (by decide +kernel) rfl trivial ?_
        obtain ⟨a6, e6, hf⟩ := bR_some hf
        refine h.callS (as := [.int (-3)]) (rest := []) (by decide +kernel) lk6_238 cwX6_far (kmX6_far l e6) rfl (Nat.le_of_ble_eq_true rfl) (Nat.le_of_ble_eq_true rfl) (Nat.le_of_ble_eq_true rfl) ?_
        show V 39 [some (.ref 36), some (.int x1), some (.int x2)] [.int a6] (setI σ 36 23 0)
        refine h.run (o := []) (ls' := [some (.ref 36), some (.int x1), some (.int x2)]) (st' := [.int a6]) (σ' := setI σ 36 23 0) [(.goto 15, 3, 0, 0, 0, 54)] (pc2 := 54) (by decide +kernel) rfl trivial ?_
        refine h.drop (ls' := [none, none, none]) trivial ?_
        exact wX6_held_54 hm hf
    · rw [if_pos c8] at hf
      show V 21 [some (.ref 36), some (.int x1), some (.int x2)] [] (setI σ 36 23 0)
      refine h.drop (ls' := [none, none, none]) trivial ?_
      exact wX6_held_21 hm hf
def fX6_trust_21 (σ : ST) : Option (Int32 × ST) :=
  bR (fX6_far (-1) σ) fun a1 =>
  some (a1, σ)
set_option maxHeartbeats 4000000 in
theorem wX6_trust_21 {l : Launch} {V : Nat → List (Option Value) → List Value → ST → Prop} {r : Int32} {τ : ST} {σ : ST} (hm : BM l 6 cX6_trust 6 (some .int) 2 48 (some (.int r)) τ V) (hf : fX6_trust_21 σ = some (r, τ)) : V 21 [none, none, none, none, none, none] [] σ := by
  have h := hm.bd
  unfold fX6_trust_21 at hf
  refine h.run (o := []) (ls' := [none, none, none, none, none, none]) (st' := [.int (-1)]) (σ' := σ) [(.iconst (-1), 1, (-1), 0, 0, 0)] (pc2 := 22) (by decide +kernel) rfl trivial ?_
  obtain ⟨a1, e1, hf⟩ := bR_some hf
  refine h.callS (as := [.int (-1)]) (rest := []) (by decide +kernel) lk6_238 cwX6_far (kmX6_far l e1) rfl (Nat.le_of_ble_eq_true rfl) (Nat.le_of_ble_eq_true rfl) (Nat.le_of_ble_eq_true rfl) ?_
  show V 25 [none, none, none, none, none, none] [.int a1] σ
  obtain ⟨rfl, rfl⟩ := Prod.mk.inj (Option.some.inj hf)
  exact hm.iret (by decide +kernel)
def fX6_trust (x1 : Int32) (x2 : Int32) (σ : ST) : Option (Int32 × ST) :=
  bR (fX6_isSender x1 (setI σ 36 23 0)) fun a1 =>
  if a1 = 0 then
    fX6_trust_21 (setI σ 36 23 0)
  else
    bR (fX6_isReturner x2 (setI σ 36 23 0)) fun a2 =>
    if a2 = 0 then
      fX6_trust_21 (setI σ 36 23 0)
    else
      bR (fX6_nameOf x2 (setI σ 36 23 0)) fun a3 =>
      gd (inb x2 (alen 44)) <|
      gd (inb ((8 * x1) + x2) (alen 47)) <|
      bI (fX6_sending x1 0 a3 ((setI σ 36 23 0).1 44 x2.toNatClampNeg) ((setI σ 36 23 0).1 47 (((8 * x1) + x2).toNatClampNeg)) (setI σ 36 23 0)) fun a6 σ6 =>
      bR (fX6_nameOf x2 (setI σ6 36 2 ((setI σ 36 23 0).1 36 2))) fun a7 =>
      gd (inb x2 (alen 44)) <|
      gd (inb ((8 * x1) + x2) (alen 47)) <|
      bI (fX6_sending x1 1 a7 ((setI σ6 36 2 ((setI σ 36 23 0).1 36 2)).1 44 x2.toNatClampNeg) ((setI σ6 36 2 ((setI σ 36 23 0).1 36 2)).1 47 (((8 * x1) + x2).toNatClampNeg)) (setI σ6 36 2 ((setI σ 36 23 0).1 36 2))) fun a10 σ10 =>
      some (a6 - a10, setI σ10 36 2 ((setI σ 36 23 0).1 36 2))
set_option maxHeartbeats 4000000 in
theorem kmX6_trust (l : Launch) {x1 : Int32} {x2 : Int32} {σ : ST} {r : Int32} {τ : ST} (hf : fX6_trust x1 x2 σ = some (r, τ)) : KM l yX6_trust cX6_trust 6 (some .int) 2 48 [.ref 36, .int x1, .int x2] σ (some (.int r)) τ := by
  refine KM.intro (ow := 6) (by decide +kernel) rfl (Nat.le_of_ble_eq_true rfl) (fun V hm => ?_)
  show V 0 [some (.ref 36), some (.int x1), some (.int x2), none, none, none] [] σ
  have h := hm.bd
  unfold fX6_trust at hf
  refine h.run (o := [kd 36 = 6]) (ls' := [some (.ref 36), some (.int x1), some (.int x2), none, none, none]) (st' := [.int x1, .ref 36]) (σ' := setI σ 36 23 0) [(.aload_n 0, 1, 0, 0, 0, 0), (.iconst 0, 1, 0, 0, 0, 0), (.putfield 112, 3, 0, 0, 6, 23), (.aload_n 0, 1, 0, 0, 0, 0), (.iload_n 1, 1, 0, 0, 0, 0)] (pc2 := 7) (by decide +kernel) rfl (And.intro kd_36 trivial) ?_
  obtain ⟨a1, e1, hf⟩ := bR_some hf
  refine h.callV (as := [.int x1]) (rest := []) (by decide +kernel) lk6_183 cwX6_isSender kd_36 (kmX6_isSender l e1) rfl (Nat.le_of_ble_eq_true rfl) (Nat.le_of_ble_eq_true rfl) (Nat.le_of_ble_eq_true rfl) ?_
  show V 10 [some (.ref 36), some (.int x1), some (.int x2), none, none, none] [.int a1] (setI σ 36 23 0)
  refine h.if_eq (tgt := 21) (show decode cX6_trust 10 = .ok (.ifCond .eq 11, 3) by decide +kernel) (by decide) (fun c12 => ?_) (fun c12 => ?_)
  · rw [if_pos c12] at hf
    refine h.drop (ls' := [none, none, none, none, none, none]) trivial ?_
    exact wX6_trust_21 hm hf
  · rw [if_neg c12] at hf
    show V 13 [some (.ref 36), some (.int x1), some (.int x2), none, none, none] [] (setI σ 36 23 0)
    refine h.run (o := []) (ls' := [some (.ref 36), some (.int x1), some (.int x2), none, none, none]) (st' := [.int x2, .ref 36]) (σ' := setI σ 36 23 0) [(.aload_n 0, 1, 0, 0, 0, 0), (.iload_n 2, 1, 0, 0, 0, 0)] (pc2 := 15) (by decide +kernel) rfl trivial ?_
    obtain ⟨a2, e2, hf⟩ := bR_some hf
    refine h.callV (as := [.int x2]) (rest := []) (by decide +kernel) lk6_188 cwX6_isReturner kd_36 (kmX6_isReturner l e2) rfl (Nat.le_of_ble_eq_true rfl) (Nat.le_of_ble_eq_true rfl) (Nat.le_of_ble_eq_true rfl) ?_
    show V 18 [some (.ref 36), some (.int x1), some (.int x2), none, none, none] [.int a2] (setI σ 36 23 0)
    refine h.if_ne (tgt := 26) (show decode cX6_trust 18 = .ok (.ifCond .ne 8, 3) by decide +kernel) (by decide) (fun c11 => ?_) (fun c11 => ?_)
    · rw [if_neg c11] at hf
      refine h.run (o := [kd 36 = 6]) (ls' := [some (.ref 36), some (.int x1), some (.int x2), some (.int ((setI σ 36 23 0).1 36 2)), none, none]) (st' := [.int x2, .ref 36, .int 0, .int x1, .ref 36]) (σ' := setI σ 36 23 0) [(.aload_n 0, 1, 0, 0, 0, 0), (.getfield 16, 3, 0, 0, 6, 2), (.istore_n 3, 1, 0, 0, 0, 0), (.aload_n 0, 1, 0, 0, 0, 0), (.iload_n 1, 1, 0, 0, 0, 0), (.iconst 0, 1, 0, 0, 0, 0), (.aload_n 0, 1, 0, 0, 0, 0), (.iload_n 2, 1, 0, 0, 0, 0)] (pc2 := 36) (by decide +kernel) rfl (And.intro kd_36 trivial) ?_
      obtain ⟨a3, e3, hf⟩ := bR_some hf
      refine h.callV (as := [.int x2]) (rest := [.int 0, .int x1, .ref 36]) (by decide +kernel) lk6_191 cwX6_nameOf kd_36 (kmX6_nameOf l e3) rfl (Nat.le_of_ble_eq_true rfl) (Nat.le_of_ble_eq_true rfl) (Nat.le_of_ble_eq_true rfl) ?_
      show V 39 [some (.ref 36), some (.int x1), some (.int x2), some (.int ((setI σ 36 23 0).1 36 2)), none, none] [.int a3, .int 0, .int x1, .ref 36] (setI σ 36 23 0)
      obtain ⟨g4, hf⟩ := gd_some hf
      obtain ⟨g5, hf⟩ := gd_some hf
      refine h.run (o := [kd 36 = 6, kd 44 = 10, inb x2 (alen 44) = true, kd 36 = 6, kd 47 = 10, inb ((8 * x1) + x2) (alen 47) = true]) (ls' := [some (.ref 36), some (.int x1), some (.int x2), some (.int ((setI σ 36 23 0).1 36 2)), none, none]) (st' := [.int ((setI σ 36 23 0).1 47 (((8 * x1) + x2).toNatClampNeg)), .int ((setI σ 36 23 0).1 44 x2.toNatClampNeg), .int a3, .int 0, .int x1, .ref 36]) (σ' := setI σ 36 23 0) [(.aload_n 0, 1, 0, 0, 0, 0), (.getfield 41, 3, 0, 0, 6, 12), (.iload_n 2, 1, 0, 0, 0, 0), (.iaload, 1, 0, 0, 0, 0), (.aload_n 0, 1, 0, 0, 0, 0), (.getfield 50, 3, 0, 0, 6, 15), (.bipush 8, 2, 8, 0, 0, 0), (.iload_n 1, 1, 0, 0, 0, 0), (.imul, 1, 0, 0, 0, 0), (.iload_n 2, 1, 0, 0, 0, 0), (.iadd, 1, 0, 0, 0, 0), (.iaload, 1, 0, 0, 0, 0)] (pc2 := 56) (by decide +kernel) rfl (And.intro kd_36 (And.intro kd_44 (And.intro g4 (And.intro kd_36 (And.intro kd_47 (And.intro g5 trivial)))))) ?_
      obtain ⟨a6, σ6, e6, hf⟩ := bI_some hf
      refine h.callV (as := [.int x1, .int 0, .int a3, .int ((setI σ 36 23 0).1 44 x2.toNatClampNeg), .int ((setI σ 36 23 0).1 47 (((8 * x1) + x2).toNatClampNeg))]) (rest := []) (by decide +kernel) lk6_206 cwX6_sending kd_36 (kmX6_sending l e6) rfl (Nat.le_of_ble_eq_true rfl) (Nat.le_of_ble_eq_true rfl) (Nat.le_of_ble_eq_true rfl) ?_
      show V 59 [some (.ref 36), some (.int x1), some (.int x2), some (.int ((setI σ 36 23 0).1 36 2)), none, none] [.int a6] σ6
      refine h.run (o := [kd 36 = 6]) (ls' := [some (.ref 36), some (.int x1), some (.int x2), some (.int ((setI σ 36 23 0).1 36 2)), some (.int a6), none]) (st' := [.int x2, .ref 36, .int 1, .int x1, .ref 36]) (σ' := setI σ6 36 2 ((setI σ 36 23 0).1 36 2)) [(.istore 4, 2, 0, 0, 0, 0), (.aload_n 0, 1, 0, 0, 0, 0), (.iload_n 3, 1, 0, 0, 0, 0), (.putfield 16, 3, 0, 0, 6, 2), (.aload_n 0, 1, 0, 0, 0, 0), (.iload_n 1, 1, 0, 0, 0, 0), (.iconst 1, 1, 1, 0, 0, 0), (.aload_n 0, 1, 0, 0, 0, 0), (.iload_n 2, 1, 0, 0, 0, 0)] (pc2 := 71) (by decide +kernel) rfl (And.intro kd_36 trivial) ?_
      obtain ⟨a7, e7, hf⟩ := bR_some hf
      refine h.callV (as := [.int x2]) (rest := [.int 1, .int x1, .ref 36]) (by decide +kernel) lk6_191 cwX6_nameOf kd_36 (kmX6_nameOf l e7) rfl (Nat.le_of_ble_eq_true rfl) (Nat.le_of_ble_eq_true rfl) (Nat.le_of_ble_eq_true rfl) ?_
      show V 74 [some (.ref 36), some (.int x1), some (.int x2), some (.int ((setI σ 36 23 0).1 36 2)), some (.int a6), none] [.int a7, .int 1, .int x1, .ref 36] (setI σ6 36 2 ((setI σ 36 23 0).1 36 2))
      obtain ⟨g8, hf⟩ := gd_some hf
      obtain ⟨g9, hf⟩ := gd_some hf
      refine h.run (o := [kd 36 = 6, kd 44 = 10, inb x2 (alen 44) = true, kd 36 = 6, kd 47 = 10, inb ((8 * x1) + x2) (alen 47) = true]) (ls' := [some (.ref 36), some (.int x1), some (.int x2), some (.int ((setI σ 36 23 0).1 36 2)), some (.int a6), none]) (st' := [.int ((setI σ6 36 2 ((setI σ 36 23 0).1 36 2)).1 47 (((8 * x1) + x2).toNatClampNeg)), .int ((setI σ6 36 2 ((setI σ 36 23 0).1 36 2)).1 44 x2.toNatClampNeg), .int a7, .int 1, .int x1, .ref 36]) (σ' := setI σ6 36 2 ((setI σ 36 23 0).1 36 2)) [(.aload_n 0, 1, 0, 0, 0, 0), (.getfield 41, 3, 0, 0, 6, 12), (.iload_n 2, 1, 0, 0, 0, 0), (.iaload, 1, 0, 0, 0, 0), (.aload_n 0, 1, 0, 0, 0, 0), (.getfield 50, 3, 0, 0, 6, 15), (.bipush 8, 2, 8, 0, 0, 0), (.iload_n 1, 1, 0, 0, 0, 0), (.imul, 1, 0, 0, 0, 0), (.iload_n 2, 1, 0, 0, 0, 0), (.iadd, 1, 0, 0, 0, 0), (.iaload, 1, 0, 0, 0, 0)] (pc2 := 91) (by decide +kernel) rfl (And.intro kd_36 (And.intro kd_44 (And.intro g8 (And.intro kd_36 (And.intro kd_47 (And.intro g9 trivial)))))) ?_
      obtain ⟨a10, σ10, e10, hf⟩ := bI_some hf
      refine h.callV (as := [.int x1, .int 1, .int a7, .int ((setI σ6 36 2 ((setI σ 36 23 0).1 36 2)).1 44 x2.toNatClampNeg), .int ((setI σ6 36 2 ((setI σ 36 23 0).1 36 2)).1 47 (((8 * x1) + x2).toNatClampNeg))]) (rest := []) (by decide +kernel) lk6_206 cwX6_sending kd_36 (kmX6_sending l e10) rfl (Nat.le_of_ble_eq_true rfl) (Nat.le_of_ble_eq_true rfl) (Nat.le_of_ble_eq_true rfl) ?_
      show V 94 [some (.ref 36), some (.int x1), some (.int x2), some (.int ((setI σ 36 23 0).1 36 2)), some (.int a6), none] [.int a10] σ10
      refine h.run (o := [kd 36 = 6]) (ls' := [some (.ref 36), some (.int x1), some (.int x2), some (.int ((setI σ 36 23 0).1 36 2)), some (.int a6), some (.int a10)]) (st' := [.int (a6 - a10)]) (σ' := setI σ10 36 2 ((setI σ 36 23 0).1 36 2)) [(.istore 5, 2, 0, 0, 0, 0), (.aload_n 0, 1, 0, 0, 0, 0), (.iload_n 3, 1, 0, 0, 0, 0), (.putfield 16, 3, 0, 0, 6, 2), (.iload 4, 2, 0, 0, 0, 0), (.iload 5, 2, 0, 0, 0, 0), (.isub, 1, 0, 0, 0, 0)] (pc2 := 106) (by decide +kernel) rfl (And.intro kd_36 trivial) ?_
      obtain ⟨rfl, rfl⟩ := Prod.mk.inj (Option.some.inj hf)
      exact hm.iret (by decide +kernel)
    · rw [if_pos c11] at hf
      show V 21 [some (.ref 36), some (.int x1), some (.int x2), none, none, none] [] (setI σ 36 23 0)
      refine h.drop (ls' := [none, none, none, none, none, none]) trivial ?_
      exact wX6_trust_21 hm hf
def fX6_giving (x1 : Int32) (σ : ST) : Option (Int32 × ST) :=
  bR (fX6_isSender x1 (setI σ 36 23 0)) fun a1 =>
  if a1 = 0 then
    some ((-1), setI σ 36 23 0)
  else
    bI (fX6_sending x1 0 0 0 (-1) (setI σ 36 23 0)) fun a2 σ2 =>
    some (a2, setI σ2 36 2 ((setI σ 36 23 0).1 36 2))
set_option maxHeartbeats 4000000 in
theorem kmX6_giving (l : Launch) {x1 : Int32} {σ : ST} {r : Int32} {τ : ST} (hf : fX6_giving x1 σ = some (r, τ)) : KM l yX6_giving cX6_giving 4 (some .int) 2 48 [.ref 36, .int x1] σ (some (.int r)) τ := by
  refine KM.intro (ow := 6) (by decide +kernel) rfl (Nat.le_of_ble_eq_true rfl) (fun V hm => ?_)
  show V 0 [some (.ref 36), some (.int x1), none, none] [] σ
  have h := hm.bd
  unfold fX6_giving at hf
  refine h.run (o := [kd 36 = 6]) (ls' := [some (.ref 36), some (.int x1), none, none]) (st' := [.int x1, .ref 36]) (σ' := setI σ 36 23 0) [(.aload_n 0, 1, 0, 0, 0, 0), (.iconst 0, 1, 0, 0, 0, 0), (.putfield 112, 3, 0, 0, 6, 23), (.aload_n 0, 1, 0, 0, 0, 0), (.iload_n 1, 1, 0, 0, 0, 0)] (pc2 := 7) (by decide +kernel) rfl (And.intro kd_36 trivial) ?_
  obtain ⟨a1, e1, hf⟩ := bR_some hf
  refine h.callV (as := [.int x1]) (rest := []) (by decide +kernel) lk6_183 cwX6_isSender kd_36 (kmX6_isSender l e1) rfl (Nat.le_of_ble_eq_true rfl) (Nat.le_of_ble_eq_true rfl) (Nat.le_of_ble_eq_true rfl) ?_
  show V 10 [some (.ref 36), some (.int x1), none, none] [.int a1] (setI σ 36 23 0)
  refine h.if_ne (tgt := 15) (show decode cX6_giving 10 = .ok (.ifCond .ne 5, 3) by decide +kernel) (by decide) (fun c3 => ?_) (fun c3 => ?_)
  · rw [if_neg c3] at hf
    refine h.run (o := [kd 36 = 6]) (ls' := [some (.ref 36), some (.int x1), some (.int ((setI σ 36 23 0).1 36 2)), none]) (st' := [.int (-1), .int 0, .int 0, .int 0, .int x1, .ref 36]) (σ' := setI σ 36 23 0) [(.aload_n 0, 1, 0, 0, 0, 0), (.getfield 16, 3, 0, 0, 6, 2), (.istore_n 2, 1, 0, 0, 0, 0), (.aload_n 0, 1, 0, 0, 0, 0), (.iload_n 1, 1, 0, 0, 0, 0), (.iconst 0, 1, 0, 0, 0, 0), (.iconst 0, 1, 0, 0, 0, 0), (.iconst 0, 1, 0, 0, 0, 0), (.iconst (-1), 1, (-1), 0, 0, 0)] (pc2 := 26) (by decide +kernel) rfl (And.intro kd_36 trivial) ?_
    obtain ⟨a2, σ2, e2, hf⟩ := bI_some hf
    refine h.callV (as := [.int x1, .int 0, .int 0, .int 0, .int (-1)]) (rest := []) (by decide +kernel) lk6_206 cwX6_sending kd_36 (kmX6_sending l e2) rfl (Nat.le_of_ble_eq_true rfl) (Nat.le_of_ble_eq_true rfl) (Nat.le_of_ble_eq_true rfl) ?_
    show V 29 [some (.ref 36), some (.int x1), some (.int ((setI σ 36 23 0).1 36 2)), none] [.int a2] σ2
    refine h.run (o := [kd 36 = 6]) (ls' := [some (.ref 36), some (.int x1), some (.int ((setI σ 36 23 0).1 36 2)), some (.int a2)]) (st' := [.int a2]) (σ' := setI σ2 36 2 ((setI σ 36 23 0).1 36 2)) [(.istore_n 3, 1, 0, 0, 0, 0), (.aload_n 0, 1, 0, 0, 0, 0), (.iload_n 2, 1, 0, 0, 0, 0), (.putfield 16, 3, 0, 0, 6, 2), (.iload_n 3, 1, 0, 0, 0, 0)] (pc2 := 36) (by decide +kernel) rfl (And.intro kd_36 trivial) ?_
    obtain ⟨rfl, rfl⟩ := Prod.mk.inj (Option.some.inj hf)
    exact hm.iret (by decide +kernel)
  · rw [if_pos c3] at hf
    show V 13 [some (.ref 36), some (.int x1), none, none] [] (setI σ 36 23 0)
    refine h.run (o := []) (ls' := [some (.ref 36), some (.int x1), none, none]) (st' := [.int (-1)]) (σ' := setI σ 36 23 0) [(.iconst (-1), 1, (-1), 0, 0, 0)] (pc2 := 14) (by decide +kernel) rfl trivial ?_
    obtain ⟨rfl, rfl⟩ := Prod.mk.inj (Option.some.inj hf)
    exact hm.iret (by decide +kernel)
def fX6_best_23 (σ : ST) : Option (Int32 × ST) :=
  some ((-1), σ)
set_option maxHeartbeats 4000000 in
theorem wX6_best_23 {l : Launch} {V : Nat → List (Option Value) → List Value → ST → Prop} {r : Int32} {τ : ST} {σ : ST} (hm : BM l 6 cX6_best 9 (some .int) 2 46 (some (.int r)) τ V) (hf : fX6_best_23 σ = some (r, τ)) : V 23 [none, none, none, none, none, none, none, none, none] [] σ := by
  have h := hm.bd
  unfold fX6_best_23 at hf
  refine h.run (o := []) (ls' := [none, none, none, none, none, none, none, none, none]) (st' := [.int (-1)]) (σ' := σ) [(.iconst (-1), 1, (-1), 0, 0, 0)] (pc2 := 24) (by decide +kernel) rfl trivial ?_
  obtain ⟨rfl, rfl⟩ := Prod.mk.inj (Option.some.inj hf)
  exact hm.iret (by decide +kernel)
def fX6_best_169 (t0 : Int32) (σ : ST) : Option (Int32 × ST) :=
  some (t0, σ)
set_option maxHeartbeats 4000000 in
theorem wX6_best_169 {l : Launch} {V : Nat → List (Option Value) → List Value → ST → Prop} {r : Int32} {τ : ST} {σ : ST} {t0 : Int32} (hm : BM l 6 cX6_best 9 (some .int) 2 46 (some (.int r)) τ V) (hf : fX6_best_169 t0 σ = some (r, τ)) : V 169 [none, none, none, none, none, none, none, none, none] [.int t0] σ := by
  have h := hm.bd
  unfold fX6_best_169 at hf
  obtain ⟨rfl, rfl⟩ := Prod.mk.inj (Option.some.inj hf)
  exact hm.iret (by decide +kernel)
def fX6_best_151 (kt_33 : Int32 → Int32 → Int32 → Int32 → Int32 → ST → Option (Int32 × ST)) (x1 : Int32) (x2 : Int32) (x3 : Int32) (x5 : Int32) (t0 : Int32) (σ : ST) : Option (Int32 × ST) :=
  kt_33 x1 x2 x3 t0 (x5 + 1) σ
set_option maxHeartbeats 4000000 in
theorem wX6_best_151 {l : Launch} {V : Nat → List (Option Value) → List Value → ST → Prop} {r : Int32} {τ : ST} {σ : ST} {x1 : Int32} {x2 : Int32} {x3 : Int32} {x5 : Int32} {t0 : Int32} {kt_33 : Int32 → Int32 → Int32 → Int32 → Int32 → ST → Option (Int32 × ST)} (hm : BM l 6 cX6_best 9 (some .int) 2 46 (some (.int r)) τ V) (hkt_33 : ∀ (x1 : Int32) (x2 : Int32) (x3 : Int32) (x4 : Int32) (x5 : Int32) (σ : ST), kt_33 x1 x2 x3 x4 x5 σ = some (r, τ) → V 33 [some (.ref 36), some (.int x1), some (.int x2), some (.int x3), some (.int x4), some (.int x5), none, none, none] [] σ) (hf : fX6_best_151 kt_33 x1 x2 x3 x5 t0 σ = some (r, τ)) : V 151 [some (.ref 36), some (.int x1), some (.int x2), some (.int x3), none, some (.int x5), none, none, none] [.int t0] σ := by
  have h := hm.bd
  unfold fX6_best_151 at hf
  refine h.run (o := []) (ls' := [some (.ref 36), some (.int x1), some (.int x2), some (.int x3), some (.int t0), some (.int (x5 + 1)), none, none, none]) (st' := []) (σ' := σ) [(.istore 4, 2, 0, 0, 0, 0), (.iinc 5 1, 3, 1, 0, 0, 0), (.goto (-123), 3, 0, 0, 0, 33)] (pc2 := 33) (by decide +kernel) rfl trivial ?_
  exact hkt_33 x1 x2 x3 t0 (x5 + 1) _ hf
def fX6_best_136 (kt_33 : Int32 → Int32 → Int32 → Int32 → Int32 → ST → Option (Int32 × ST)) (x1 : Int32) (x2 : Int32) (x4 : Int32) (x5 : Int32) (x8 : Int32) (t0 : Int32) (σ : ST) : Option (Int32 × ST) :=
  if x8 ≤ x4 then
    fX6_best_151 kt_33 x1 x2 t0 x5 x4 σ
  else
    fX6_best_151 kt_33 x1 x2 t0 x5 x8 σ
set_option maxHeartbeats 4000000 in
theorem wX6_best_136 {l : Launch} {V : Nat → List (Option Value) → List Value → ST → Prop} {r : Int32} {τ : ST} {σ : ST} {x1 : Int32} {x2 : Int32} {x4 : Int32} {x5 : Int32} {x8 : Int32} {t0 : Int32} {kt_33 : Int32 → Int32 → Int32 → Int32 → Int32 → ST → Option (Int32 × ST)} (hm : BM l 6 cX6_best 9 (some .int) 2 46 (some (.int r)) τ V) (hkt_33 : ∀ (x1 : Int32) (x2 : Int32) (x3 : Int32) (x4 : Int32) (x5 : Int32) (σ : ST), kt_33 x1 x2 x3 x4 x5 σ = some (r, τ) → V 33 [some (.ref 36), some (.int x1), some (.int x2), some (.int x3), some (.int x4), some (.int x5), none, none, none] [] σ) (hf : fX6_best_136 kt_33 x1 x2 x4 x5 x8 t0 σ = some (r, τ)) : V 136 [some (.ref 36), some (.int x1), some (.int x2), none, some (.int x4), some (.int x5), none, none, some (.int x8)] [.int t0] σ := by
  have h := hm.bd
  unfold fX6_best_136 at hf
  refine h.run (o := []) (ls' := [some (.ref 36), some (.int x1), some (.int x2), some (.int t0), some (.int x4), some (.int x5), none, none, some (.int x8)]) (st' := [.int x4, .int x8]) (σ' := σ) [(.istore_n 3, 1, 0, 0, 0, 0), (.iload 8, 2, 0, 0, 0, 0), (.iload 4, 2, 0, 0, 0, 0)] (pc2 := 141) (by decide +kernel) rfl trivial ?_
  refine h.icmp_le (tgt := 149) (show decode cX6_best 141 = .ok (.if_icmp .le 8, 3) by decide +kernel) (by decide) (fun c1 => ?_) (fun c1 => ?_)
  · rw [if_pos c1] at hf
    refine h.run (o := []) (ls' := [some (.ref 36), some (.int x1), some (.int x2), some (.int t0), some (.int x4), some (.int x5), none, none, some (.int x8)]) (st' := [.int x4]) (σ' := σ) [(.iload 4, 2, 0, 0, 0, 0)] (pc2 := 151) (by decide +kernel) rfl trivial ?_
    refine h.drop (ls' := [some (.ref 36), some (.int x1), some (.int x2), some (.int t0), none, some (.int x5), none, none, none]) (And.intro rfl (And.intro rfl (And.intro rfl (And.intro rfl (And.intro rfl trivial))))) ?_
    exact wX6_best_151 hm hkt_33 hf
  · rw [if_neg c1] at hf
    show V 144 [some (.ref 36), some (.int x1), some (.int x2), some (.int t0), some (.int x4), some (.int x5), none, none, some (.int x8)] [] σ
    refine h.run (o := []) (ls' := [some (.ref 36), some (.int x1), some (.int x2), some (.int t0), some (.int x4), some (.int x5), none, none, some (.int x8)]) (st' := [.int x8]) (σ' := σ) [(.iload 8, 2, 0, 0, 0, 0), (.goto 5, 3, 0, 0, 0, 151)] (pc2 := 151) (by decide +kernel) rfl trivial ?_
    refine h.drop (ls' := [some (.ref 36), some (.int x1), some (.int x2), some (.int t0), none, some (.int x5), none, none, none]) (And.intro rfl (And.intro rfl (And.intro rfl (And.intro rfl (And.intro rfl trivial))))) ?_
    exact wX6_best_151 hm hkt_33 hf
def fX6_best_121 (kt_33 : Int32 → Int32 → Int32 → Int32 → Int32 → ST → Option (Int32 × ST)) (x1 : Int32) (x2 : Int32) (x3 : Int32) (x4 : Int32) (x5 : Int32) (t0 : Int32) (σ : ST) : Option (Int32 × ST) :=
  if t0 ≤ x4 then
    fX6_best_136 kt_33 x1 x2 x4 x5 t0 x3 σ
  else
    fX6_best_136 kt_33 x1 x2 x4 x5 t0 x5 σ
set_option maxHeartbeats 4000000 in
theorem wX6_best_121 {l : Launch} {V : Nat → List (Option Value) → List Value → ST → Prop} {r : Int32} {τ : ST} {σ : ST} {x1 : Int32} {x2 : Int32} {x3 : Int32} {x4 : Int32} {x5 : Int32} {t0 : Int32} {kt_33 : Int32 → Int32 → Int32 → Int32 → Int32 → ST → Option (Int32 × ST)} (hm : BM l 6 cX6_best 9 (some .int) 2 46 (some (.int r)) τ V) (hkt_33 : ∀ (x1 : Int32) (x2 : Int32) (x3 : Int32) (x4 : Int32) (x5 : Int32) (σ : ST), kt_33 x1 x2 x3 x4 x5 σ = some (r, τ) → V 33 [some (.ref 36), some (.int x1), some (.int x2), some (.int x3), some (.int x4), some (.int x5), none, none, none] [] σ) (hf : fX6_best_121 kt_33 x1 x2 x3 x4 x5 t0 σ = some (r, τ)) : V 121 [some (.ref 36), some (.int x1), some (.int x2), some (.int x3), some (.int x4), some (.int x5), none, none, none] [.int t0] σ := by
  have h := hm.bd
  unfold fX6_best_121 at hf
  refine h.run (o := []) (ls' := [some (.ref 36), some (.int x1), some (.int x2), some (.int x3), some (.int x4), some (.int x5), none, none, some (.int t0)]) (st' := [.int x4, .int t0]) (σ' := σ) [(.istore 8, 2, 0, 0, 0, 0), (.iload 8, 2, 0, 0, 0, 0), (.iload 4, 2, 0, 0, 0, 0)] (pc2 := 127) (by decide +kernel) rfl trivial ?_
  refine h.icmp_le (tgt := 135) (show decode cX6_best 127 = .ok (.if_icmp .le 8, 3) by decide +kernel) (by decide) (fun c1 => ?_) (fun c1 => ?_)
  · rw [if_pos c1] at hf
    refine h.run (o := []) (ls' := [some (.ref 36), some (.int x1), some (.int x2), some (.int x3), some (.int x4), some (.int x5), none, none, some (.int t0)]) (st' := [.int x3]) (σ' := σ) [(.iload_n 3, 1, 0, 0, 0, 0)] (pc2 := 136) (by decide +kernel) rfl trivial ?_
    refine h.drop (ls' := [some (.ref 36), some (.int x1), some (.int x2), none, some (.int x4), some (.int x5), none, none, some (.int t0)]) (And.intro rfl (And.intro rfl (And.intro rfl (And.intro rfl (And.intro rfl (And.intro rfl trivial)))))) ?_
    exact wX6_best_136 hm hkt_33 hf
  · rw [if_neg c1] at hf
    show V 130 [some (.ref 36), some (.int x1), some (.int x2), some (.int x3), some (.int x4), some (.int x5), none, none, some (.int t0)] [] σ
    refine h.run (o := []) (ls' := [some (.ref 36), some (.int x1), some (.int x2), some (.int x3), some (.int x4), some (.int x5), none, none, some (.int t0)]) (st' := [.int x5]) (σ' := σ) [(.iload 5, 2, 0, 0, 0, 0), (.goto 4, 3, 0, 0, 0, 136)] (pc2 := 136) (by decide +kernel) rfl trivial ?_
    refine h.drop (ls' := [some (.ref 36), some (.int x1), some (.int x2), none, some (.int x4), some (.int x5), none, none, some (.int t0)]) (And.intro rfl (And.intro rfl (And.intro rfl (And.intro rfl (And.intro rfl (And.intro rfl trivial)))))) ?_
    exact wX6_best_136 hm hkt_33 hf
def fX6_best_80 (kt_33 : Int32 → Int32 → Int32 → Int32 → Int32 → ST → Option (Int32 × ST)) (x1 : Int32) (x2 : Int32) (x3 : Int32) (x4 : Int32) (x5 : Int32) (t0 : Int32) (σ : ST) : Option (Int32 × ST) :=
  gd (inb x1 (alen 40)) <|
  if (σ.1 40 x1.toNatClampNeg) = 1 then
    fX6_best_121 kt_33 x1 x2 x3 x4 x5 ((100 * ((σ.1 36 0) - x5)) + t0) σ
  else
    fX6_best_121 kt_33 x1 x2 x3 x4 x5 (((σ.1 36 0) - x5) + (t0 / 100)) σ
set_option maxHeartbeats 4000000 in
theorem wX6_best_80 {l : Launch} {V : Nat → List (Option Value) → List Value → ST → Prop} {r : Int32} {τ : ST} {σ : ST} {x1 : Int32} {x2 : Int32} {x3 : Int32} {x4 : Int32} {x5 : Int32} {t0 : Int32} {kt_33 : Int32 → Int32 → Int32 → Int32 → Int32 → ST → Option (Int32 × ST)} (hm : BM l 6 cX6_best 9 (some .int) 2 46 (some (.int r)) τ V) (hkt_33 : ∀ (x1 : Int32) (x2 : Int32) (x3 : Int32) (x4 : Int32) (x5 : Int32) (σ : ST), kt_33 x1 x2 x3 x4 x5 σ = some (r, τ) → V 33 [some (.ref 36), some (.int x1), some (.int x2), some (.int x3), some (.int x4), some (.int x5), none, none, none] [] σ) (hf : fX6_best_80 kt_33 x1 x2 x3 x4 x5 t0 σ = some (r, τ)) : V 80 [some (.ref 36), some (.int x1), some (.int x2), some (.int x3), some (.int x4), some (.int x5), none, none, none] [.int t0] σ := by
  have h := hm.bd
  unfold fX6_best_80 at hf
  obtain ⟨g1, hf⟩ := gd_some hf
  refine h.run (o := [kd 36 = 6, kd 40 = 10, inb x1 (alen 40) = true]) (ls' := [some (.ref 36), some (.int x1), some (.int x2), some (.int x3), some (.int x4), some (.int x5), none, some (.int t0), none]) (st' := [.int 1, .int (σ.1 40 x1.toNatClampNeg)]) (σ' := σ) [(.istore 7, 2, 0, 0, 0, 0), (.aload_n 0, 1, 0, 0, 0, 0), (.getfield 29, 3, 0, 0, 6, 8), (.iload_n 1, 1, 0, 0, 0, 0), (.iaload, 1, 0, 0, 0, 0), (.iconst 1, 1, 1, 0, 0, 0)] (pc2 := 89) (by decide +kernel) rfl (And.intro kd_36 (And.intro kd_40 (And.intro g1 trivial))) ?_
  refine h.icmp_ne (tgt := 108) (show decode cX6_best 89 = .ok (.if_icmp .ne 19, 3) by decide +kernel) (by decide) (fun c2 => ?_) (fun c2 => ?_)
  · rw [if_neg c2] at hf
    refine h.run (o := [kd 36 = 6, ¬ 100 = 0]) (ls' := [some (.ref 36), some (.int x1), some (.int x2), some (.int x3), some (.int x4), some (.int x5), none, some (.int t0), none]) (st' := [.int (((σ.1 36 0) - x5) + (t0 / 100))]) (σ' := σ) [(.aload_n 0, 1, 0, 0, 0, 0), (.getfield 7, 3, 0, 0, 6, 0), (.iload 5, 2, 0, 0, 0, 0), (.isub, 1, 0, 0, 0, 0), (.iload 7, 2, 0, 0, 0, 0), (.bipush 100, 2, 100, 0, 0, 0), (.idiv, 1, 0, 0, 0, 0), (.iadd, 1, 0, 0, 0, 0)] (pc2 := 121) (by decide +kernel) rfl (And.intro kd_36 (And.intro (by decide) trivial)) ?_
    refine h.drop (ls' := [some (.ref 36), some (.int x1), some (.int x2), some (.int x3), some (.int x4), some (.int x5), none, none, none]) (And.intro rfl (And.intro rfl (And.intro rfl (And.intro rfl (And.intro rfl (And.intro rfl trivial)))))) ?_
    exact wX6_best_121 hm hkt_33 hf
  · rw [if_pos c2] at hf
    show V 92 [some (.ref 36), some (.int x1), some (.int x2), some (.int x3), some (.int x4), some (.int x5), none, some (.int t0), none] [] σ
    refine h.run (o := [kd 36 = 6]) (ls' := [some (.ref 36), some (.int x1), some (.int x2), some (.int x3), some (.int x4), some (.int x5), none, some (.int t0), none]) (st' := [.int ((100 * ((σ.1 36 0) - x5)) + t0)]) (σ' := σ) [(.bipush 100, 2, 100, 0, 0, 0), (.aload_n 0, 1, 0, 0, 0, 0), (.getfield 7, 3, 0, 0, 6, 0), (.iload 5, 2, 0, 0, 0, 0), (.isub, 1, 0, 0, 0, 0), (.imul, 1, 0, 0, 0, 0), (.iload 7, 2, 0, 0, 0, 0), (.iadd, 1, 0, 0, 0, 0), (.goto 16, 3, 0, 0, 0, 121)] (pc2 := 121) (by decide +kernel) rfl (And.intro kd_36 trivial) ?_
    refine h.drop (ls' := [some (.ref 36), some (.int x1), some (.int x2), some (.int x3), some (.int x4), some (.int x5), none, none, none]) (And.intro rfl (And.intro rfl (And.intro rfl (And.intro rfl (And.intro rfl (And.intro rfl trivial)))))) ?_
    exact wX6_best_121 hm hkt_33 hf
def fX6_best_79 (kt_33 : Int32 → Int32 → Int32 → Int32 → Int32 → ST → Option (Int32 × ST)) (x1 : Int32) (x2 : Int32) (x3 : Int32) (x4 : Int32) (x5 : Int32) (σ : ST) : Option (Int32 × ST) :=
  fX6_best_80 kt_33 x1 x2 x3 x4 x5 0 σ
set_option maxHeartbeats 4000000 in
theorem wX6_best_79 {l : Launch} {V : Nat → List (Option Value) → List Value → ST → Prop} {r : Int32} {τ : ST} {σ : ST} {x1 : Int32} {x2 : Int32} {x3 : Int32} {x4 : Int32} {x5 : Int32} {kt_33 : Int32 → Int32 → Int32 → Int32 → Int32 → ST → Option (Int32 × ST)} (hm : BM l 6 cX6_best 9 (some .int) 2 46 (some (.int r)) τ V) (hkt_33 : ∀ (x1 : Int32) (x2 : Int32) (x3 : Int32) (x4 : Int32) (x5 : Int32) (σ : ST), kt_33 x1 x2 x3 x4 x5 σ = some (r, τ) → V 33 [some (.ref 36), some (.int x1), some (.int x2), some (.int x3), some (.int x4), some (.int x5), none, none, none] [] σ) (hf : fX6_best_79 kt_33 x1 x2 x3 x4 x5 σ = some (r, τ)) : V 79 [some (.ref 36), some (.int x1), some (.int x2), some (.int x3), some (.int x4), some (.int x5), none, none, none] [] σ := by
  have h := hm.bd
  unfold fX6_best_79 at hf
  refine h.run (o := []) (ls' := [some (.ref 36), some (.int x1), some (.int x2), some (.int x3), some (.int x4), some (.int x5), none, none, none]) (st' := [.int 0]) (σ' := σ) [(.iconst 0, 1, 0, 0, 0, 0)] (pc2 := 80) (by decide +kernel) rfl trivial ?_
  exact wX6_best_80 hm hkt_33 hf
def fX6_best_33 (n : Nat) (x1 : Int32) (x2 : Int32) (x3 : Int32) (x4 : Int32) (x5 : Int32) (σ : ST) : Option (Int32 × ST) := match n with
  | 0 => none
  | n + 1 =>
    if (σ.1 36 0) < x5 then
      if x2 = 0 then
        fX6_best_169 x3 σ
      else
        fX6_best_169 x4 σ
    else
      if (x5 * (σ.1 36 1)) ≤ 0 then
        fX6_best_79 (fX6_best_33 n) x1 x2 x3 x4 x5 σ
      else
        gd (inb x1 (alen 42)) <|
        if (x5 * (σ.1 36 1)) < (σ.1 42 x1.toNatClampNeg) then
          fX6_best_79 (fX6_best_33 n) x1 x2 x3 x4 x5 σ
        else
          gd (inb x1 (alen 41)) <|
          fX6_best_80 (fX6_best_33 n) x1 x2 x3 x4 x5 ((σ.1 41 x1.toNatClampNeg) * (x5 * (σ.1 36 1))) σ
set_option maxHeartbeats 4000000 in
theorem wX6_best_33 {l : Launch} {V : Nat → List (Option Value) → List Value → ST → Prop} {r : Int32} {τ : ST} (hm : BM l 6 cX6_best 9 (some .int) 2 46 (some (.int r)) τ V) : ∀ (n : Nat) (x1 : Int32) (x2 : Int32) (x3 : Int32) (x4 : Int32) (x5 : Int32) (σ : ST), fX6_best_33 n x1 x2 x3 x4 x5 σ = some (r, τ) → V 33 [some (.ref 36), some (.int x1), some (.int x2), some (.int x3), some (.int x4), some (.int x5), none, none, none] [] σ := by
  have h := hm.bd
  intro n
  induction n with
  | zero => intro x1 x2 x3 x4 x5 σ hf; cases hf
  | succ n ih =>
    intro x1 x2 x3 x4 x5 σ hf
    rw [fX6_best_33] at hf
    refine h.run (o := [kd 36 = 6]) (ls' := [some (.ref 36), some (.int x1), some (.int x2), some (.int x3), some (.int x4), some (.int x5), none, none, none]) (st' := [.int (σ.1 36 0), .int x5]) (σ' := σ) [(.iload 5, 2, 0, 0, 0, 0), (.aload_n 0, 1, 0, 0, 0, 0), (.getfield 7, 3, 0, 0, 6, 0)] (pc2 := 39) (by decide +kernel) rfl (And.intro kd_36 trivial) ?_
    refine h.icmp_gt (tgt := 159) (show decode cX6_best 39 = .ok (.if_icmp .gt 120, 3) by decide +kernel) (by decide) (fun c6 => ?_) (fun c6 => ?_)
    · rw [if_pos c6] at hf
      refine h.run (o := []) (ls' := [some (.ref 36), some (.int x1), some (.int x2), some (.int x3), some (.int x4), some (.int x5), none, none, none]) (st' := [.int x2]) (σ' := σ) [(.iload_n 2, 1, 0, 0, 0, 0)] (pc2 := 160) (by decide +kernel) rfl trivial ?_
      refine h.if_ne (tgt := 167) (show decode cX6_best 160 = .ok (.ifCond .ne 7, 3) by decide +kernel) (by decide) (fun c1 => ?_) (fun c1 => ?_)
      · rw [if_neg c1] at hf
        refine h.run (o := []) (ls' := [some (.ref 36), some (.int x1), some (.int x2), some (.int x3), some (.int x4), some (.int x5), none, none, none]) (st' := [.int x4]) (σ' := σ) [(.iload 4, 2, 0, 0, 0, 0)] (pc2 := 169) (by decide +kernel) rfl trivial ?_
        refine h.drop (ls' := [none, none, none, none, none, none, none, none, none]) trivial ?_
        exact wX6_best_169 hm hf
      · rw [if_pos c1] at hf
        show V 163 [some (.ref 36), some (.int x1), some (.int x2), some (.int x3), some (.int x4), some (.int x5), none, none, none] [] σ
        refine h.run (o := []) (ls' := [some (.ref 36), some (.int x1), some (.int x2), some (.int x3), some (.int x4), some (.int x5), none, none, none]) (st' := [.int x3]) (σ' := σ) [(.iload_n 3, 1, 0, 0, 0, 0), (.goto 5, 3, 0, 0, 0, 169)] (pc2 := 169) (by decide +kernel) rfl trivial ?_
        refine h.drop (ls' := [none, none, none, none, none, none, none, none, none]) trivial ?_
        exact wX6_best_169 hm hf
    · rw [if_neg c6] at hf
      show V 42 [some (.ref 36), some (.int x1), some (.int x2), some (.int x3), some (.int x4), some (.int x5), none, none, none] [] σ
      refine h.run (o := [kd 36 = 6]) (ls' := [some (.ref 36), some (.int x1), some (.int x2), some (.int x3), some (.int x4), some (.int x5), some (.int (x5 * (σ.1 36 1))), none, none]) (st' := [.int (x5 * (σ.1 36 1))]) (σ' := σ) [(.iload 5, 2, 0, 0, 0, 0), (.aload_n 0, 1, 0, 0, 0, 0), (.getfield 13, 3, 0, 0, 6, 1), (.imul, 1, 0, 0, 0, 0), (.istore 6, 2, 0, 0, 0, 0), (.iload 6, 2, 0, 0, 0, 0)] (pc2 := 53) (by decide +kernel) rfl (And.intro kd_36 trivial) ?_
      refine h.if_le (tgt := 79) (show decode cX6_best 53 = .ok (.ifCond .le 26, 3) by decide +kernel) (by decide) (fun c5 => ?_) (fun c5 => ?_)
      · rw [if_pos c5] at hf
        refine h.drop (ls' := [some (.ref 36), some (.int x1), some (.int x2), some (.int x3), some (.int x4), some (.int x5), none, none, none]) (And.intro rfl (And.intro rfl (And.intro rfl (And.intro rfl (And.intro rfl (And.intro rfl trivial)))))) ?_
        exact wX6_best_79 hm ih hf
      · rw [if_neg c5] at hf
        show V 56 [some (.ref 36), some (.int x1), some (.int x2), some (.int x3), some (.int x4), some (.int x5), some (.int (x5 * (σ.1 36 1))), none, none] [] σ
        obtain ⟨g2, hf⟩ := gd_some hf
        refine h.run (o := [kd 36 = 6, kd 42 = 10, inb x1 (alen 42) = true]) (ls' := [some (.ref 36), some (.int x1), some (.int x2), some (.int x3), some (.int x4), some (.int x5), some (.int (x5 * (σ.1 36 1))), none, none]) (st' := [.int (σ.1 42 x1.toNatClampNeg), .int (x5 * (σ.1 36 1))]) (σ' := σ) [(.iload 6, 2, 0, 0, 0, 0), (.aload_n 0, 1, 0, 0, 0, 0), (.getfield 35, 3, 0, 0, 6, 10), (.iload_n 1, 1, 0, 0, 0, 0), (.iaload, 1, 0, 0, 0, 0)] (pc2 := 64) (by decide +kernel) rfl (And.intro kd_36 (And.intro kd_42 (And.intro g2 trivial))) ?_
        refine h.icmp_lt (tgt := 79) (show decode cX6_best 64 = .ok (.if_icmp .lt 15, 3) by decide +kernel) (by decide) (fun c4 => ?_) (fun c4 => ?_)
        · rw [if_pos c4] at hf
          refine h.drop (ls' := [some (.ref 36), some (.int x1), some (.int x2), some (.int x3), some (.int x4), some (.int x5), none, none, none]) (And.intro rfl (And.intro rfl (And.intro rfl (And.intro rfl (And.intro rfl (And.intro rfl trivial)))))) ?_
          exact wX6_best_79 hm ih hf
        · rw [if_neg c4] at hf
          show V 67 [some (.ref 36), some (.int x1), some (.int x2), some (.int x3), some (.int x4), some (.int x5), some (.int (x5 * (σ.1 36 1))), none, none] [] σ
          obtain ⟨g3, hf⟩ := gd_some hf
          refine h.run (o := [kd 36 = 6, kd 41 = 10, inb x1 (alen 41) = true]) (ls' := [some (.ref 36), some (.int x1), some (.int x2), some (.int x3), some (.int x4), some (.int x5), some (.int (x5 * (σ.1 36 1))), none, none]) (st' := [.int ((σ.1 41 x1.toNatClampNeg) * (x5 * (σ.1 36 1)))]) (σ' := σ) [(.aload_n 0, 1, 0, 0, 0, 0), (.getfield 32, 3, 0, 0, 6, 9), (.iload_n 1, 1, 0, 0, 0, 0), (.iaload, 1, 0, 0, 0, 0), (.iload 6, 2, 0, 0, 0, 0), (.imul, 1, 0, 0, 0, 0), (.goto 4, 3, 0, 0, 0, 80)] (pc2 := 80) (by decide +kernel) rfl (And.intro kd_36 (And.intro kd_41 (And.intro g3 trivial))) ?_
          refine h.drop (ls' := [some (.ref 36), some (.int x1), some (.int x2), some (.int x3), some (.int x4), some (.int x5), none, none, none]) (And.intro rfl (And.intro rfl (And.intro rfl (And.intro rfl (And.intro rfl (And.intro rfl trivial)))))) ?_
          exact wX6_best_80 hm ih hf
def fX6_best (x1 : Int32) (x2 : Int32) (σ : ST) : Option (Int32 × ST) :=
  bR (fX6_isReturner x1 (setI σ 36 23 0)) fun a1 =>
  if a1 = 0 then
    fX6_best_23 (setI σ 36 23 0)
  else
    bR (fX6_in x2.toInt64 0 1 (setI σ 36 23 0)) fun a2 =>
    if a2 = 0 then
      fX6_best_23 (setI σ 36 23 0)
    else
      fX6_best_33 FU x1 x2 0 (-1) 0 (setI σ 36 23 0)
set_option maxHeartbeats 4000000 in
theorem kmX6_best (l : Launch) {x1 : Int32} {x2 : Int32} {σ : ST} {r : Int32} {τ : ST} (hf : fX6_best x1 x2 σ = some (r, τ)) : KM l yX6_best cX6_best 9 (some .int) 2 46 [.ref 36, .int x1, .int x2] σ (some (.int r)) τ := by
  refine KM.intro (ow := 6) (by decide +kernel) rfl (Nat.le_of_ble_eq_true rfl) (fun V hm => ?_)
  show V 0 [some (.ref 36), some (.int x1), some (.int x2), none, none, none, none, none, none] [] σ
  have h := hm.bd
  unfold fX6_best at hf
  refine h.run (o := [kd 36 = 6]) (ls' := [some (.ref 36), some (.int x1), some (.int x2), none, none, none, none, none, none]) (st' := [.int x1, .ref 36]) (σ' := setI σ 36 23 0) [(.aload_n 0, 1, 0, 0, 0, 0), (.iconst 0, 1, 0, 0, 0, 0), (.putfield 112, 3, 0, 0, 6, 23), (.aload_n 0, 1, 0, 0, 0, 0), (.iload_n 1, 1, 0, 0, 0, 0)] (pc2 := 7) (by decide +kernel) rfl (And.intro kd_36 trivial) ?_
  obtain ⟨a1, e1, hf⟩ := bR_some hf
  refine h.callV (as := [.int x1]) (rest := []) (by decide +kernel) lk6_188 cwX6_isReturner kd_36 (kmX6_isReturner l e1) rfl (Nat.le_of_ble_eq_true rfl) (Nat.le_of_ble_eq_true rfl) (Nat.le_of_ble_eq_true rfl) ?_
  show V 10 [some (.ref 36), some (.int x1), some (.int x2), none, none, none, none, none, none] [.int a1] (setI σ 36 23 0)
  refine h.if_eq (tgt := 23) (show decode cX6_best 10 = .ok (.ifCond .eq 13, 3) by decide +kernel) (by decide) (fun c4 => ?_) (fun c4 => ?_)
  · rw [if_pos c4] at hf
    refine h.drop (ls' := [none, none, none, none, none, none, none, none, none]) trivial ?_
    exact wX6_best_23 hm hf
  · rw [if_neg c4] at hf
    show V 13 [some (.ref 36), some (.int x1), some (.int x2), none, none, none, none, none, none] [] (setI σ 36 23 0)
    refine h.run (o := []) (ls' := [some (.ref 36), some (.int x1), some (.int x2), none, none, none, none, none, none]) (st' := [.long 1, .long 0, .long x2.toInt64]) (σ' := setI σ 36 23 0) [(.iload_n 2, 1, 0, 0, 0, 0), (.i2l, 1, 0, 0, 0, 0), (.lconst 0, 1, 0, 0, 0, 0), (.lconst 1, 1, 0, 1, 0, 0)] (pc2 := 17) (by decide +kernel) rfl trivial ?_
    obtain ⟨a2, e2, hf⟩ := bR_some hf
    refine h.callS (as := [.long x2.toInt64, .long 0, .long 1]) (rest := []) (by decide +kernel) lk6_119 cwX6_in (kmX6_in l e2) rfl (Nat.le_of_ble_eq_true rfl) (Nat.le_of_ble_eq_true rfl) (Nat.le_of_ble_eq_true rfl) ?_
    show V 20 [some (.ref 36), some (.int x1), some (.int x2), none, none, none, none, none, none] [.int a2] (setI σ 36 23 0)
    refine h.if_ne (tgt := 25) (show decode cX6_best 20 = .ok (.ifCond .ne 5, 3) by decide +kernel) (by decide) (fun c3 => ?_) (fun c3 => ?_)
    · rw [if_neg c3] at hf
      refine h.run (o := []) (ls' := [some (.ref 36), some (.int x1), some (.int x2), some (.int 0), some (.int (-1)), some (.int 0), none, none, none]) (st' := []) (σ' := setI σ 36 23 0) [(.iconst 0, 1, 0, 0, 0, 0), (.istore_n 3, 1, 0, 0, 0, 0), (.iconst (-1), 1, (-1), 0, 0, 0), (.istore 4, 2, 0, 0, 0, 0), (.iconst 0, 1, 0, 0, 0, 0), (.istore 5, 2, 0, 0, 0, 0)] (pc2 := 33) (by decide +kernel) rfl trivial ?_
      exact wX6_best_33 hm FU x1 x2 0 (-1) 0 _ hf
    · rw [if_pos c3] at hf
      show V 23 [some (.ref 36), some (.int x1), some (.int x2), none, none, none, none, none, none] [] (setI σ 36 23 0)
      refine h.drop (ls' := [none, none, none, none, none, none, none, none, none]) trivial ?_
      exact wX6_best_23 hm hf
def fX6_hasWith_41 (n : Nat) (x1 : Int32) (x2 : Int32) (x3 : Int32) (x4 : Int32) (x5 : Int32) (x6 : Int32) (x7 : Int32) (x8 : Int32) (x9 : Int32) (x10 : Int32) (σ : ST) : Option (Int32 × ST) := match n with
  | 0 => none
  | n + 1 =>
    if x3 ≤ x10 then
      gd (inb x2 (alen 45)) <|
      gd (inb x2 (alen 46)) <|
      gd (inb ((8 * x1) + x2) (alen 47)) <|
      some (x9, setI (setI (setI (setI σ 36 2 x5) 45 (x2.toNatClampNeg) x6) 46 (x2.toNatClampNeg) x7) 47 (((8 * x1) + x2).toNatClampNeg) x8)
    else
      bR (fX6_pass x1 x2 x4 0 σ) fun σ4 =>
      fX6_hasWith_41 n x1 x2 x3 x4 x5 x6 x7 x8 (x9 + (((σ4.1 36 32) * (σ4.1 36 1)) - (σ4.1 36 33))) (x10 + 1) σ4
set_option maxHeartbeats 4000000 in
theorem wX6_hasWith_41 {l : Launch} {V : Nat → List (Option Value) → List Value → ST → Prop} {r : Int32} {τ : ST} (hm : BM l 6 cX6_hasWith 11 (some .int) 4 95 (some (.int r)) τ V) : ∀ (n : Nat) (x1 : Int32) (x2 : Int32) (x3 : Int32) (x4 : Int32) (x5 : Int32) (x6 : Int32) (x7 : Int32) (x8 : Int32) (x9 : Int32) (x10 : Int32) (σ : ST), fX6_hasWith_41 n x1 x2 x3 x4 x5 x6 x7 x8 x9 x10 σ = some (r, τ) → V 41 [some (.ref 36), some (.int x1), some (.int x2), some (.int x3), some (.int x4), some (.int x5), some (.int x6), some (.int x7), some (.int x8), some (.int x9), some (.int x10)] [] σ := by
  have h := hm.bd
  intro n
  induction n with
  | zero => intro x1 x2 x3 x4 x5 x6 x7 x8 x9 x10 σ hf; cases hf
  | succ n ih =>
    intro x1 x2 x3 x4 x5 x6 x7 x8 x9 x10 σ hf
    rw [fX6_hasWith_41] at hf
    refine h.run (o := []) (ls' := [some (.ref 36), some (.int x1), some (.int x2), some (.int x3), some (.int x4), some (.int x5), some (.int x6), some (.int x7), some (.int x8), some (.int x9), some (.int x10)]) (st' := [.int x3, .int x10]) (σ' := σ) [(.iload 10, 2, 0, 0, 0, 0), (.iload_n 3, 1, 0, 0, 0, 0)] (pc2 := 44) (by decide +kernel) rfl trivial ?_
    refine h.icmp_ge (tgt := 81) (show decode cX6_hasWith 44 = .ok (.if_icmp .ge 37, 3) by decide +kernel) (by decide) (fun c5 => ?_) (fun c5 => ?_)
    · rw [if_pos c5] at hf
      obtain ⟨g1, hf⟩ := gd_some hf
      obtain ⟨g2, hf⟩ := gd_some hf
      obtain ⟨g3, hf⟩ := gd_some hf
      refine h.run (o := [kd 36 = 6, kd 36 = 6, kd 45 = 10, inb x2 (alen 45) = true, kd 36 = 6, kd 46 = 10, inb x2 (alen 46) = true, kd 36 = 6, kd 47 = 10, inb ((8 * x1) + x2) (alen 47) = true]) (ls' := [some (.ref 36), some (.int x1), some (.int x2), some (.int x3), some (.int x4), some (.int x5), some (.int x6), some (.int x7), some (.int x8), some (.int x9), some (.int x10)]) (st' := [.int x9]) (σ' := setI (setI (setI (setI σ 36 2 x5) 45 (x2.toNatClampNeg) x6) 46 (x2.toNatClampNeg) x7) 47 (((8 * x1) + x2).toNatClampNeg) x8) [(.aload_n 0, 1, 0, 0, 0, 0), (.iload 5, 2, 0, 0, 0, 0), (.putfield 16, 3, 0, 0, 6, 2), (.aload_n 0, 1, 0, 0, 0, 0), (.getfield 44, 3, 0, 0, 6, 13), (.iload_n 2, 1, 0, 0, 0, 0), (.iload 6, 2, 0, 0, 0, 0), (.iastore, 1, 0, 0, 0, 0), (.aload_n 0, 1, 0, 0, 0, 0), (.getfield 47, 3, 0, 0, 6, 14), (.iload_n 2, 1, 0, 0, 0, 0), (.iload 7, 2, 0, 0, 0, 0), (.iastore, 1, 0, 0, 0, 0), (.aload_n 0, 1, 0, 0, 0, 0), (.getfield 50, 3, 0, 0, 6, 15), (.bipush 8, 2, 8, 0, 0, 0), (.iload_n 1, 1, 0, 0, 0, 0), (.imul, 1, 0, 0, 0, 0), (.iload_n 2, 1, 0, 0, 0, 0), (.iadd, 1, 0, 0, 0, 0), (.iload 8, 2, 0, 0, 0, 0), (.iastore, 1, 0, 0, 0, 0), (.iload 9, 2, 0, 0, 0, 0)] (pc2 := 118) (by decide +kernel) rfl (And.intro kd_36 (And.intro kd_36 (And.intro kd_45 (And.intro g1 (And.intro kd_36 (And.intro kd_46 (And.intro g2 (And.intro kd_36 (And.intro kd_47 (And.intro g3 trivial)))))))))) ?_
      obtain ⟨rfl, rfl⟩ := Prod.mk.inj (Option.some.inj hf)
      exact hm.iret (by decide +kernel)
    · rw [if_neg c5] at hf
      show V 47 [some (.ref 36), some (.int x1), some (.int x2), some (.int x3), some (.int x4), some (.int x5), some (.int x6), some (.int x7), some (.int x8), some (.int x9), some (.int x10)] [] σ
      refine h.run (o := []) (ls' := [some (.ref 36), some (.int x1), some (.int x2), some (.int x3), some (.int x4), some (.int x5), some (.int x6), some (.int x7), some (.int x8), some (.int x9), some (.int x10)]) (st' := [.int 0, .int x4, .int x2, .int x1, .ref 36]) (σ' := σ) [(.aload_n 0, 1, 0, 0, 0, 0), (.iload_n 1, 1, 0, 0, 0, 0), (.iload_n 2, 1, 0, 0, 0, 0), (.iload 4, 2, 0, 0, 0, 0), (.iconst 0, 1, 0, 0, 0, 0)] (pc2 := 53) (by decide +kernel) rfl trivial ?_
      obtain ⟨σ4, e4, hf⟩ := bR_some hf
      refine h.callV (as := [.int x1, .int x2, .int x4, .int 0]) (rest := []) (by decide +kernel) lk6_224 cwX6_pass kd_36 (kmX6_pass l e4) rfl (Nat.le_of_ble_eq_true rfl) (Nat.le_of_ble_eq_true rfl) (Nat.le_of_ble_eq_true rfl) ?_
      show V 56 [some (.ref 36), some (.int x1), some (.int x2), some (.int x3), some (.int x4), some (.int x5), some (.int x6), some (.int x7), some (.int x8), some (.int x9), some (.int x10)] [] σ4
      refine h.run (o := [kd 36 = 6, kd 36 = 6, kd 36 = 6]) (ls' := [some (.ref 36), some (.int x1), some (.int x2), some (.int x3), some (.int x4), some (.int x5), some (.int x6), some (.int x7), some (.int x8), some (.int (x9 + (((σ4.1 36 32) * (σ4.1 36 1)) - (σ4.1 36 33)))), some (.int (x10 + 1))]) (st' := []) (σ' := σ4) [(.iload 9, 2, 0, 0, 0, 0), (.aload_n 0, 1, 0, 0, 0, 0), (.getfield 214, 3, 0, 0, 6, 32), (.aload_n 0, 1, 0, 0, 0, 0), (.getfield 13, 3, 0, 0, 6, 1), (.imul, 1, 0, 0, 0, 0), (.aload_n 0, 1, 0, 0, 0, 0), (.getfield 221, 3, 0, 0, 6, 33), (.isub, 1, 0, 0, 0, 0), (.iadd, 1, 0, 0, 0, 0), (.istore 9, 2, 0, 0, 0, 0), (.iinc 10 1, 3, 1, 0, 0, 0), (.goto (-37), 3, 0, 0, 0, 41)] (pc2 := 41) (by decide +kernel) rfl (And.intro kd_36 (And.intro kd_36 (And.intro kd_36 trivial))) ?_
      exact ih x1 x2 x3 x4 x5 x6 x7 x8 (x9 + (((σ4.1 36 32) * (σ4.1 36 1)) - (σ4.1 36 33))) (x10 + 1) _ hf
def fX6_hasWith (x1 : Int32) (x2 : Int32) (x3 : Int32) (x4 : Int32) (σ : ST) : Option (Int32 × ST) :=
  gd (inb x2 (alen 45)) <|
  gd (inb x2 (alen 46)) <|
  gd (inb ((8 * x1) + x2) (alen 47)) <|
  fX6_hasWith_41 FU x1 x2 x3 x4 (σ.1 36 2) (σ.1 45 x2.toNatClampNeg) (σ.1 46 x2.toNatClampNeg) (σ.1 47 (((8 * x1) + x2).toNatClampNeg)) 0 0 σ
set_option maxHeartbeats 4000000 in
theorem kmX6_hasWith (l : Launch) {x1 : Int32} {x2 : Int32} {x3 : Int32} {x4 : Int32} {σ : ST} {r : Int32} {τ : ST} (hf : fX6_hasWith x1 x2 x3 x4 σ = some (r, τ)) : KM l yX6_hasWith cX6_hasWith 11 (some .int) 4 95 [.ref 36, .int x1, .int x2, .int x3, .int x4] σ (some (.int r)) τ := by
  refine KM.intro (ow := 6) (by decide +kernel) rfl (Nat.le_of_ble_eq_true rfl) (fun V hm => ?_)
  show V 0 [some (.ref 36), some (.int x1), some (.int x2), some (.int x3), some (.int x4), none, none, none, none, none, none] [] σ
  have h := hm.bd
  unfold fX6_hasWith at hf
  obtain ⟨g1, hf⟩ := gd_some hf
  obtain ⟨g2, hf⟩ := gd_some hf
  obtain ⟨g3, hf⟩ := gd_some hf
  refine h.run (o := [kd 36 = 6, kd 36 = 6, kd 45 = 10, inb x2 (alen 45) = true, kd 36 = 6, kd 46 = 10, inb x2 (alen 46) = true, kd 36 = 6, kd 47 = 10, inb ((8 * x1) + x2) (alen 47) = true]) (ls' := [some (.ref 36), some (.int x1), some (.int x2), some (.int x3), some (.int x4), some (.int (σ.1 36 2)), some (.int (σ.1 45 x2.toNatClampNeg)), some (.int (σ.1 46 x2.toNatClampNeg)), some (.int (σ.1 47 (((8 * x1) + x2).toNatClampNeg))), some (.int 0), some (.int 0)]) (st' := []) (σ' := σ) [(.aload_n 0, 1, 0, 0, 0, 0), (.getfield 16, 3, 0, 0, 6, 2), (.istore 5, 2, 0, 0, 0, 0), (.aload_n 0, 1, 0, 0, 0, 0), (.getfield 44, 3, 0, 0, 6, 13), (.iload_n 2, 1, 0, 0, 0, 0), (.iaload, 1, 0, 0, 0, 0), (.istore 6, 2, 0, 0, 0, 0), (.aload_n 0, 1, 0, 0, 0, 0), (.getfield 47, 3, 0, 0, 6, 14), (.iload_n 2, 1, 0, 0, 0, 0), (.iaload, 1, 0, 0, 0, 0), (.istore 7, 2, 0, 0, 0, 0), (.aload_n 0, 1, 0, 0, 0, 0), (.getfield 50, 3, 0, 0, 6, 15), (.bipush 8, 2, 8, 0, 0, 0), (.iload_n 1, 1, 0, 0, 0, 0), (.imul, 1, 0, 0, 0, 0), (.iload_n 2, 1, 0, 0, 0, 0), (.iadd, 1, 0, 0, 0, 0), (.iaload, 1, 0, 0, 0, 0), (.istore 8, 2, 0, 0, 0, 0), (.iconst 0, 1, 0, 0, 0, 0), (.istore 9, 2, 0, 0, 0, 0), (.iconst 0, 1, 0, 0, 0, 0), (.istore 10, 2, 0, 0, 0, 0)] (pc2 := 41) (by decide +kernel) rfl (And.intro kd_36 (And.intro kd_36 (And.intro kd_45 (And.intro g1 (And.intro kd_36 (And.intro kd_46 (And.intro g2 (And.intro kd_36 (And.intro kd_47 (And.intro g3 trivial)))))))))) ?_
  exact wX6_hasWith_41 hm FU x1 x2 x3 x4 (σ.1 36 2) (σ.1 45 x2.toNatClampNeg) (σ.1 46 x2.toNatClampNeg) (σ.1 47 (((8 * x1) + x2).toNatClampNeg)) 0 0 _ hf
def fX6_worth_33 (σ : ST) : Option (Int32 × ST) :=
  bR (fX6_far (-1) σ) fun a1 =>
  some (a1, σ)
set_option maxHeartbeats 4000000 in
theorem wX6_worth_33 {l : Launch} {V : Nat → List (Option Value) → List Value → ST → Prop} {r : Int32} {τ : ST} {σ : ST} (hm : BM l 6 cX6_worth 4 (some .int) 5 125 (some (.int r)) τ V) (hf : fX6_worth_33 σ = some (r, τ)) : V 33 [none, none, none, none] [] σ := by
  have h := hm.bd
  unfold fX6_worth_33 at hf
  refine h.run (o := []) (ls' := [none, none, none, none]) (st' := [.int (-1)]) (σ' := σ) [(.iconst (-1), 1, (-1), 0, 0, 0)] (pc2 := 34) (by decide +kernel) rfl trivial ?_
  obtain ⟨a1, e1, hf⟩ := bR_some hf
  refine h.callS (as := [.int (-1)]) (rest := []) (by decide +kernel) lk6_238 cwX6_far (kmX6_far l e1) rfl (Nat.le_of_ble_eq_true rfl) (Nat.le_of_ble_eq_true rfl) (Nat.le_of_ble_eq_true rfl) ?_
  show V 37 [none, none, none, none] [.int a1] σ
  obtain ⟨rfl, rfl⟩ := Prod.mk.inj (Option.some.inj hf)
  exact hm.iret (by decide +kernel)
def fX6_worth (x1 : Int32) (x2 : Int32) (x3 : Int32) (σ : ST) : Option (Int32 × ST) :=
  bR (fX6_isSender x1 (setI σ 36 23 0)) fun a1 =>
  if a1 = 0 then
    fX6_worth_33 (setI σ 36 23 0)
  else
    bR (fX6_isReturner x2 (setI σ 36 23 0)) fun a2 =>
    if a2 = 0 then
      fX6_worth_33 (setI σ 36 23 0)
    else
      bR (fX6_in x3.toInt64 1 20 (setI σ 36 23 0)) fun a3 =>
      if a3 = 0 then
        fX6_worth_33 (setI σ 36 23 0)
      else
        gd (inb x2 (alen 41)) <|
        bI (fX6_hasWith x1 x2 x3 ((setI σ 36 23 0).1 41 x2.toNatClampNeg) (setI σ 36 23 0)) fun a5 σ5 =>
        bI (fX6_hasWith x1 x2 x3 0 σ5) fun a6 σ6 =>
        some (a5 - a6, σ6)
set_option maxHeartbeats 4000000 in
theorem kmX6_worth (l : Launch) {x1 : Int32} {x2 : Int32} {x3 : Int32} {σ : ST} {r : Int32} {τ : ST} (hf : fX6_worth x1 x2 x3 σ = some (r, τ)) : KM l yX6_worth cX6_worth 4 (some .int) 5 125 [.ref 36, .int x1, .int x2, .int x3] σ (some (.int r)) τ := by
  refine KM.intro (ow := 6) (by decide +kernel) rfl (Nat.le_of_ble_eq_true rfl) (fun V hm => ?_)
  show V 0 [some (.ref 36), some (.int x1), some (.int x2), some (.int x3)] [] σ
  have h := hm.bd
  unfold fX6_worth at hf
  refine h.run (o := [kd 36 = 6]) (ls' := [some (.ref 36), some (.int x1), some (.int x2), some (.int x3)]) (st' := [.int x1, .ref 36]) (σ' := setI σ 36 23 0) [(.aload_n 0, 1, 0, 0, 0, 0), (.iconst 0, 1, 0, 0, 0, 0), (.putfield 112, 3, 0, 0, 6, 23), (.aload_n 0, 1, 0, 0, 0, 0), (.iload_n 1, 1, 0, 0, 0, 0)] (pc2 := 7) (by decide +kernel) rfl (And.intro kd_36 trivial) ?_
  obtain ⟨a1, e1, hf⟩ := bR_some hf
  refine h.callV (as := [.int x1]) (rest := []) (by decide +kernel) lk6_183 cwX6_isSender kd_36 (kmX6_isSender l e1) rfl (Nat.le_of_ble_eq_true rfl) (Nat.le_of_ble_eq_true rfl) (Nat.le_of_ble_eq_true rfl) ?_
  show V 10 [some (.ref 36), some (.int x1), some (.int x2), some (.int x3)] [.int a1] (setI σ 36 23 0)
  refine h.if_eq (tgt := 33) (show decode cX6_worth 10 = .ok (.ifCond .eq 23, 3) by decide +kernel) (by decide) (fun c9 => ?_) (fun c9 => ?_)
  · rw [if_pos c9] at hf
    refine h.drop (ls' := [none, none, none, none]) trivial ?_
    exact wX6_worth_33 hm hf
  · rw [if_neg c9] at hf
    show V 13 [some (.ref 36), some (.int x1), some (.int x2), some (.int x3)] [] (setI σ 36 23 0)
    refine h.run (o := []) (ls' := [some (.ref 36), some (.int x1), some (.int x2), some (.int x3)]) (st' := [.int x2, .ref 36]) (σ' := setI σ 36 23 0) [(.aload_n 0, 1, 0, 0, 0, 0), (.iload_n 2, 1, 0, 0, 0, 0)] (pc2 := 15) (by decide +kernel) rfl trivial ?_
    obtain ⟨a2, e2, hf⟩ := bR_some hf
    refine h.callV (as := [.int x2]) (rest := []) (by decide +kernel) lk6_188 cwX6_isReturner kd_36 (kmX6_isReturner l e2) rfl (Nat.le_of_ble_eq_true rfl) (Nat.le_of_ble_eq_true rfl) (Nat.le_of_ble_eq_true rfl) ?_
    show V 18 [some (.ref 36), some (.int x1), some (.int x2), some (.int x3)] [.int a2] (setI σ 36 23 0)
    refine h.if_eq (tgt := 33) (show decode cX6_worth 18 = .ok (.ifCond .eq 15, 3) by decide +kernel) (by decide) (fun c8 => ?_) (fun c8 => ?_)
    · rw [if_pos c8] at hf
      refine h.drop (ls' := [none, none, none, none]) trivial ?_
      exact wX6_worth_33 hm hf
    · rw [if_neg c8] at hf
      show V 21 [some (.ref 36), some (.int x1), some (.int x2), some (.int x3)] [] (setI σ 36 23 0)
      refine h.run (o := []) (ls' := [some (.ref 36), some (.int x1), some (.int x2), some (.int x3)]) (st' := [.long 20, .long 1, .long x3.toInt64]) (σ' := setI σ 36 23 0) [(.iload_n 3, 1, 0, 0, 0, 0), (.i2l, 1, 0, 0, 0, 0), (.lconst 1, 1, 0, 1, 0, 0), (.ldc2_w 164, 3, 0, 20, 0, 0)] (pc2 := 27) (by decide +kernel) rfl trivial ?_
      obtain ⟨a3, e3, hf⟩ := bR_some hf
      refine h.callS (as := [.long x3.toInt64, .long 1, .long 20]) (rest := []) (by decide +kernel) lk6_119 cwX6_in (kmX6_in l e3) rfl (Nat.le_of_ble_eq_true rfl) (Nat.le_of_ble_eq_true rfl) (Nat.le_of_ble_eq_true rfl) ?_
      show V 30 [some (.ref 36), some (.int x1), some (.int x2), some (.int x3)] [.int a3] (setI σ 36 23 0)
      refine h.if_ne (tgt := 38) (show decode cX6_worth 30 = .ok (.ifCond .ne 8, 3) by decide +kernel) (by decide) (fun c7 => ?_) (fun c7 => ?_)
      · rw [if_neg c7] at hf
        obtain ⟨g4, hf⟩ := gd_some hf
        refine h.run (o := [kd 36 = 6, kd 41 = 10, inb x2 (alen 41) = true]) (ls' := [some (.ref 36), some (.int x1), some (.int x2), some (.int x3)]) (st' := [.int ((setI σ 36 23 0).1 41 x2.toNatClampNeg), .int x3, .int x2, .int x1, .ref 36]) (σ' := setI σ 36 23 0) [(.aload_n 0, 1, 0, 0, 0, 0), (.iload_n 1, 1, 0, 0, 0, 0), (.iload_n 2, 1, 0, 0, 0, 0), (.iload_n 3, 1, 0, 0, 0, 0), (.aload_n 0, 1, 0, 0, 0, 0), (.getfield 32, 3, 0, 0, 6, 9), (.iload_n 2, 1, 0, 0, 0, 0), (.iaload, 1, 0, 0, 0, 0)] (pc2 := 48) (by decide +kernel) rfl (And.intro kd_36 (And.intro kd_41 (And.intro g4 trivial))) ?_
        obtain ⟨a5, σ5, e5, hf⟩ := bI_some hf
        refine h.callV (as := [.int x1, .int x2, .int x3, .int ((setI σ 36 23 0).1 41 x2.toNatClampNeg)]) (rest := []) (by decide +kernel) lk6_241 cwX6_hasWith kd_36 (kmX6_hasWith l e5) rfl (Nat.le_of_ble_eq_true rfl) (Nat.le_of_ble_eq_true rfl) (Nat.le_of_ble_eq_true rfl) ?_
        show V 51 [some (.ref 36), some (.int x1), some (.int x2), some (.int x3)] [.int a5] σ5
        refine h.run (o := []) (ls' := [some (.ref 36), some (.int x1), some (.int x2), some (.int x3)]) (st' := [.int 0, .int x3, .int x2, .int x1, .ref 36, .int a5]) (σ' := σ5) [(.aload_n 0, 1, 0, 0, 0, 0), (.iload_n 1, 1, 0, 0, 0, 0), (.iload_n 2, 1, 0, 0, 0, 0), (.iload_n 3, 1, 0, 0, 0, 0), (.iconst 0, 1, 0, 0, 0, 0)] (pc2 := 56) (by decide +kernel) rfl trivial ?_
        obtain ⟨a6, σ6, e6, hf⟩ := bI_some hf
        refine h.callV (as := [.int x1, .int x2, .int x3, .int 0]) (rest := [.int a5]) (by decide +kernel) lk6_241 cwX6_hasWith kd_36 (kmX6_hasWith l e6) rfl (Nat.le_of_ble_eq_true rfl) (Nat.le_of_ble_eq_true rfl) (Nat.le_of_ble_eq_true rfl) ?_
        show V 59 [some (.ref 36), some (.int x1), some (.int x2), some (.int x3)] [.int a6, .int a5] σ6
        refine h.run (o := []) (ls' := [some (.ref 36), some (.int x1), some (.int x2), some (.int x3)]) (st' := [.int (a5 - a6)]) (σ' := σ6) [(.isub, 1, 0, 0, 0, 0)] (pc2 := 60) (by decide +kernel) rfl trivial ?_
        obtain ⟨rfl, rfl⟩ := Prod.mk.inj (Option.some.inj hf)
        exact hm.iret (by decide +kernel)
      · rw [if_pos c7] at hf
        show V 33 [some (.ref 36), some (.int x1), some (.int x2), some (.int x3)] [] (setI σ 36 23 0)
        refine h.drop (ls' := [none, none, none, none]) trivial ?_
        exact wX6_worth_33 hm hf
