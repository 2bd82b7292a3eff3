/-! Printed by wip/whole/prt.py: functions and walks. -/
def fX6_promise_33 (σ : ST) : Option (Int32 × ST) :=
  bR (fX6_far (-1) σ) fun a1 =>
  some (a1, σ)
set_option maxHeartbeats 4000000 in
theorem wX6_promise_33 {l : Launch} {V : Nat → List (Option Value) → List Value → ST → Prop} {r : Int32} {τ : ST} {σ : ST} (hm : BM l 6 cX6_promise 7 (some .int) 2 48 (some (.int r)) τ V) (hf : fX6_promise_33 σ = some (r, τ)) : V 33 [none, none, none, none, none, none, none] [] σ := by
  have h := hm.bd
  unfold fX6_promise_33 at hf
  refine h.run (o := []) (ls' := [none, none, none, none, none, none, none]) (st' := [.int (-1)]) (σ' := σ) [(.iconst (-1), 1, (-1), 0, 0, 0)] (pc2 := 34) (by decide +kernel) rfl trivial ?_
  obtain ⟨a1, e1, hf⟩ := bR_some hf
  refine h.callS (as := [.int (-1)]) (rest := []) (by decide +kernel) lk6_238 cwX6_far (kmX6_far l e1) rfl (Nat.le_of_ble_eq_true rfl) (Nat.le_of_ble_eq_true rfl) (Nat.le_of_ble_eq_true rfl) ?_
  show V 37 [none, none, none, none, none, none, none] [.int a1] σ
  obtain ⟨rfl, rfl⟩ := Prod.mk.inj (Option.some.inj hf)
  exact hm.iret (by decide +kernel)
def fX6_promise_106 (x1 : Int32) (x2 : Int32) (x4 : Int32) (x5 : Int32) (t1 : Int32) (t2 : Int32) (σ : ST) : Option (Int32 × ST) :=
  bR (fX6_nameOf x2 σ) fun a1 =>
  gd (inb ((8 * x1) + x2) (alen 47)) <|
  bI (fX6_sending t1 t2 a1 0 (σ.1 47 (((8 * x1) + x2).toNatClampNeg)) σ) fun a3 σ3 =>
  some (x5 - a3, setI σ3 36 2 x4)
set_option maxHeartbeats 4000000 in
theorem wX6_promise_106 {l : Launch} {V : Nat → List (Option Value) → List Value → ST → Prop} {r : Int32} {τ : ST} {σ : ST} {x1 : Int32} {x2 : Int32} {x4 : Int32} {x5 : Int32} {t1 : Int32} {t2 : Int32} (hm : BM l 6 cX6_promise 7 (some .int) 2 48 (some (.int r)) τ V) (hf : fX6_promise_106 x1 x2 x4 x5 t1 t2 σ = some (r, τ)) : V 106 [some (.ref 36), some (.int x1), some (.int x2), none, some (.int x4), some (.int x5), none] [.int t2, .int t1, .ref 36] σ := by
  have h := hm.bd
  unfold fX6_promise_106 at hf
  refine h.run (o := []) (ls' := [some (.ref 36), some (.int x1), some (.int x2), none, some (.int x4), some (.int x5), none]) (st' := [.int x2, .ref 36, .int t2, .int t1, .ref 36]) (σ' := σ) [(.aload_n 0, 1, 0, 0, 0, 0), (.iload_n 2, 1, 0, 0, 0, 0)] (pc2 := 108) (by decide +kernel) rfl trivial ?_
  obtain ⟨a1, e1, hf⟩ := bR_some hf
  refine h.callV (as := [.int x2]) (rest := [.int t2, .int t1, .ref 36]) (by decide +kernel) lk6_191 cwX6_nameOf kd_36 (kmX6_nameOf l e1) rfl (Nat.le_of_ble_eq_true rfl) (Nat.le_of_ble_eq_true rfl) (Nat.le_of_ble_eq_true rfl) ?_
  show V 111 [some (.ref 36), some (.int x1), some (.int x2), none, some (.int x4), some (.int x5), none] [.int a1, .int t2, .int t1, .ref 36] σ
  obtain ⟨g2, hf⟩ := gd_some hf
  refine h.run (o := [kd 36 = 6, kd 47 = 10, inb ((8 * x1) + x2) (alen 47) = true]) (ls' := [some (.ref 36), some (.int x1), some (.int x2), none, some (.int x4), some (.int x5), none]) (st' := [.int (σ.1 47 (((8 * x1) + x2).toNatClampNeg)), .int 0, .int a1, .int t2, .int t1, .ref 36]) (σ' := σ) [(.iconst 0, 1, 0, 0, 0, 0), (.aload_n 0, 1, 0, 0, 0, 0), (.getfield 50, 3, 0, 0, 6, 15), (.bipush 8, 2, 8, 0, 0, 0), (.iload_n 1, 1, 0, 0, 0, 0), (.imul, 1, 0, 0, 0, 0), (.iload_n 2, 1, 0, 0, 0, 0), (.iadd, 1, 0, 0, 0, 0), (.iaload, 1, 0, 0, 0, 0)] (pc2 := 123) (by decide +kernel) rfl (And.intro kd_36 (And.intro kd_47 (And.intro g2 trivial))) ?_
  obtain ⟨a3, σ3, e3, hf⟩ := bI_some hf
  refine h.callV (as := [.int t1, .int t2, .int a1, .int 0, .int (σ.1 47 (((8 * x1) + x2).toNatClampNeg))]) (rest := []) (by decide +kernel) lk6_206 cwX6_sending kd_36 (kmX6_sending l e3) rfl (Nat.le_of_ble_eq_true rfl) (Nat.le_of_ble_eq_true rfl) (Nat.le_of_ble_eq_true rfl) ?_
  show V 126 [some (.ref 36), some (.int x1), some (.int x2), none, some (.int x4), some (.int x5), none] [.int a3] σ3
  refine h.run (o := [kd 36 = 6]) (ls' := [some (.ref 36), some (.int x1), some (.int x2), none, some (.int x4), some (.int x5), some (.int a3)]) (st' := [.int (x5 - a3)]) (σ' := setI σ3 36 2 x4) [(.istore 6, 2, 0, 0, 0, 0), (.aload_n 0, 1, 0, 0, 0, 0), (.iload 4, 2, 0, 0, 0, 0), (.putfield 16, 3, 0, 0, 6, 2), (.iload 5, 2, 0, 0, 0, 0), (.iload 6, 2, 0, 0, 0, 0), (.isub, 1, 0, 0, 0, 0)] (pc2 := 139) (by decide +kernel) rfl (And.intro kd_36 trivial) ?_
  obtain ⟨rfl, rfl⟩ := Prod.mk.inj (Option.some.inj hf)
  exact hm.iret (by decide +kernel)
def fX6_promise_61 (x1 : Int32) (x2 : Int32) (x3 : Int32) (x4 : Int32) (t1 : Int32) (t2 : Int32) (σ : ST) : Option (Int32 × ST) :=
  bR (fX6_nameOf x2 σ) fun a1 =>
  gd (inb ((8 * x1) + x2) (alen 47)) <|
  bI (fX6_sending t1 t2 a1 x3 (σ.1 47 (((8 * x1) + x2).toNatClampNeg)) σ) fun a3 σ3 =>
  gd (inb x2 (alen 40)) <|
  if ((setI σ3 36 2 x4).1 40 x2.toNatClampNeg) = 1 then
    fX6_promise_106 x1 x2 x4 a3 x1 1 (setI σ3 36 2 x4)
  else
    fX6_promise_106 x1 x2 x4 a3 x1 0 (setI σ3 36 2 x4)
set_option maxHeartbeats 4000000 in
theorem wX6_promise_61 {l : Launch} {V : Nat → List (Option Value) → List Value → ST → Prop} {r : Int32} {τ : ST} {σ : ST} {x1 : Int32} {x2 : Int32} {x3 : Int32} {x4 : Int32} {t1 : Int32} {t2 : Int32} (hm : BM l 6 cX6_promise 7 (some .int) 2 48 (some (.int r)) τ V) (hf : fX6_promise_61 x1 x2 x3 x4 t1 t2 σ = some (r, τ)) : V 61 [some (.ref 36), some (.int x1), some (.int x2), some (.int x3), some (.int x4), none, none] [.int t2, .int t1, .ref 36] σ := by
  have h := hm.bd
  unfold fX6_promise_61 at hf
  refine h.run (o := []) (ls' := [some (.ref 36), some (.int x1), some (.int x2), some (.int x3), some (.int x4), none, none]) (st' := [.int x2, .ref 36, .int t2, .int t1, .ref 36]) (σ' := σ) [(.aload_n 0, 1, 0, 0, 0, 0), (.iload_n 2, 1, 0, 0, 0, 0)] (pc2 := 63) (by decide +kernel) rfl trivial ?_
  obtain ⟨a1, e1, hf⟩ := bR_some hf
  refine h.callV (as := [.int x2]) (rest := [.int t2, .int t1, .ref 36]) (by decide +kernel) lk6_191 cwX6_nameOf kd_36 (kmX6_nameOf l e1) rfl (Nat.le_of_ble_eq_true rfl) (Nat.le_of_ble_eq_true rfl) (Nat.le_of_ble_eq_true rfl) ?_
  show V 66 [some (.ref 36), some (.int x1), some (.int x2), some (.int x3), some (.int x4), none, none] [.int a1, .int t2, .int t1, .ref 36] σ
  obtain ⟨g2, hf⟩ := gd_some hf
  refine h.run (o := [kd 36 = 6, kd 47 = 10, inb ((8 * x1) + x2) (alen 47) = true]) (ls' := [some (.ref 36), some (.int x1), some (.int x2), some (.int x3), some (.int x4), none, none]) (st' := [.int (σ.1 47 (((8 * x1) + x2).toNatClampNeg)), .int x3, .int a1, .int t2, .int t1, .ref 36]) (σ' := σ) [(.iload_n 3, 1, 0, 0, 0, 0), (.aload_n 0, 1, 0, 0, 0, 0), (.getfield 50, 3, 0, 0, 6, 15), (.bipush 8, 2, 8, 0, 0, 0), (.iload_n 1, 1, 0, 0, 0, 0), (.imul, 1, 0, 0, 0, 0), (.iload_n 2, 1, 0, 0, 0, 0), (.iadd, 1, 0, 0, 0, 0), (.iaload, 1, 0, 0, 0, 0)] (pc2 := 78) (by decide +kernel) rfl (And.intro kd_36 (And.intro kd_47 (And.intro g2 trivial))) ?_
  obtain ⟨a3, σ3, e3, hf⟩ := bI_some hf
  refine h.callV (as := [.int t1, .int t2, .int a1, .int x3, .int (σ.1 47 (((8 * x1) + x2).toNatClampNeg))]) (rest := []) (by decide +kernel) lk6_206 cwX6_sending kd_36 (kmX6_sending l e3) rfl (Nat.le_of_ble_eq_true rfl) (Nat.le_of_ble_eq_true rfl) (Nat.le_of_ble_eq_true rfl) ?_
  show V 81 [some (.ref 36), some (.int x1), some (.int x2), some (.int x3), some (.int x4), none, none] [.int a3] σ3
  obtain ⟨g4, hf⟩ := gd_some hf
  refine h.run (o := [kd 36 = 6, kd 36 = 6, kd 40 = 10, inb x2 (alen 40) = true]) (ls' := [some (.ref 36), some (.int x1), some (.int x2), some (.int x3), some (.int x4), some (.int a3), none]) (st' := [.int 1, .int ((setI σ3 36 2 x4).1 40 x2.toNatClampNeg), .int x1, .ref 36]) (σ' := setI σ3 36 2 x4) [(.istore 5, 2, 0, 0, 0, 0), (.aload_n 0, 1, 0, 0, 0, 0), (.iload 4, 2, 0, 0, 0, 0), (.putfield 16, 3, 0, 0, 6, 2), (.aload_n 0, 1, 0, 0, 0, 0), (.iload_n 1, 1, 0, 0, 0, 0), (.aload_n 0, 1, 0, 0, 0, 0), (.getfield 29, 3, 0, 0, 6, 8), (.iload_n 2, 1, 0, 0, 0, 0), (.iaload, 1, 0, 0, 0, 0), (.iconst 1, 1, 1, 0, 0, 0)] (pc2 := 98) (by decide +kernel) rfl (And.intro kd_36 (And.intro kd_36 (And.intro kd_40 (And.intro g4 trivial)))) ?_
  refine h.icmp_ne (tgt := 105) (show decode cX6_promise 98 = .ok (.if_icmp .ne 7, 3) by decide +kernel) (by decide) (fun c5 => ?_) (fun c5 => ?_)
  · rw [if_neg c5] at hf
    refine h.run (o := []) (ls' := [some (.ref 36), some (.int x1), some (.int x2), some (.int x3), some (.int x4), some (.int a3), none]) (st' := [.int 0, .int x1, .ref 36]) (σ' := setI σ3 36 2 x4) [(.iconst 0, 1, 0, 0, 0, 0)] (pc2 := 106) (by decide +kernel) rfl trivial ?_
    refine h.drop (ls' := [some (.ref 36), some (.int x1), some (.int x2), none, some (.int x4), some (.int a3), none]) (And.intro rfl (And.intro rfl (And.intro rfl (And.intro rfl (And.intro rfl trivial))))) ?_
    exact wX6_promise_106 hm hf
  · rw [if_pos c5] at hf
    show V 101 [some (.ref 36), some (.int x1), some (.int x2), some (.int x3), some (.int x4), some (.int a3), none] [.int x1, .ref 36] (setI σ3 36 2 x4)
    refine h.run (o := []) (ls' := [some (.ref 36), some (.int x1), some (.int x2), some (.int x3), some (.int x4), some (.int a3), none]) (st' := [.int 1, .int x1, .ref 36]) (σ' := setI σ3 36 2 x4) [(.iconst 1, 1, 1, 0, 0, 0), (.goto 4, 3, 0, 0, 0, 106)] (pc2 := 106) (by decide +kernel) rfl trivial ?_
    refine h.drop (ls' := [some (.ref 36), some (.int x1), some (.int x2), none, some (.int x4), some (.int a3), none]) (And.intro rfl (And.intro rfl (And.intro rfl (And.intro rfl (And.intro rfl trivial))))) ?_
    exact wX6_promise_106 hm hf
def fX6_promise (x1 : Int32) (x2 : Int32) (x3 : Int32) (σ : ST) : Option (Int32 × ST) :=
  bR (fX6_isSender x1 (setI σ 36 23 0)) fun a1 =>
  if a1 = 0 then
    fX6_promise_33 (setI σ 36 23 0)
  else
    bR (fX6_isReturner x2 (setI σ 36 23 0)) fun a2 =>
    if a2 = 0 then
      fX6_promise_33 (setI σ 36 23 0)
    else
      bR (fX6_in x3.toInt64 0 100 (setI σ 36 23 0)) fun a3 =>
      if a3 = 0 then
        fX6_promise_33 (setI σ 36 23 0)
      else
        gd (inb x2 (alen 40)) <|
        if ((setI σ 36 23 0).1 40 x2.toNatClampNeg) = 1 then
          fX6_promise_61 x1 x2 x3 ((setI σ 36 23 0).1 36 2) x1 1 (setI σ 36 23 0)
        else
          fX6_promise_61 x1 x2 x3 ((setI σ 36 23 0).1 36 2) x1 0 (setI σ 36 23 0)
set_option maxHeartbeats 4000000 in
theorem kmX6_promise (l : Launch) {x1 : Int32} {x2 : Int32} {x3 : Int32} {σ : ST} {r : Int32} {τ : ST} (hf : fX6_promise x1 x2 x3 σ = some (r, τ)) : KM l yX6_promise cX6_promise 7 (some .int) 2 48 [.ref 36, .int x1, .int x2, .int x3] σ (some (.int r)) τ := by
  refine KM.intro (ow := 6) (by decide +kernel) rfl (Nat.le_of_ble_eq_true rfl) (fun V hm => ?_)
  show V 0 [some (.ref 36), some (.int x1), some (.int x2), some (.int x3), none, none, none] [] σ
  have h := hm.bd
  unfold fX6_promise at hf
  refine h.run (o := [kd 36 = 6]) (ls' := [some (.ref 36), some (.int x1), some (.int x2), some (.int x3), none, none, none]) (st' := [.int x1, .ref 36]) (σ' := setI σ 36 23 0) [(.aload_n 0, 1, 0, 0, 0, 0), (.iconst 0, 1, 0, 0, 0, 0), (.putfield 112, 3, 0, 0, 6, 23), (.aload_n 0, 1, 0, 0, 0, 0), (.iload_n 1, 1, 0, 0, 0, 0)] (pc2 := 7) (by decide +kernel) rfl (And.intro kd_36 trivial) ?_
  obtain ⟨a1, e1, hf⟩ := bR_some hf
  refine h.callV (as := [.int x1]) (rest := []) (by decide +kernel) lk6_183 cwX6_isSender kd_36 (kmX6_isSender l e1) rfl (Nat.le_of_ble_eq_true rfl) (Nat.le_of_ble_eq_true rfl) (Nat.le_of_ble_eq_true rfl) ?_
  show V 10 [some (.ref 36), some (.int x1), some (.int x2), some (.int x3), none, none, none] [.int a1] (setI σ 36 23 0)
  refine h.if_eq (tgt := 33) (show decode cX6_promise 10 = .ok (.ifCond .eq 23, 3) by decide +kernel) (by decide) (fun c8 => ?_) (fun c8 => ?_)
  · rw [if_pos c8] at hf
    refine h.drop (ls' := [none, none, none, none, none, none, none]) trivial ?_
    exact wX6_promise_33 hm hf
  · rw [if_neg c8] at hf
    show V 13 [some (.ref 36), some (.int x1), some (.int x2), some (.int x3), none, none, none] [] (setI σ 36 23 0)
    refine h.run (o := []) (ls' := [some (.ref 36), some (.int x1), some (.int x2), some (.int x3), none, none, none]) (st' := [.int x2, .ref 36]) (σ' := setI σ 36 23 0) [(.aload_n 0, 1, 0, 0, 0, 0), (.iload_n 2, 1, 0, 0, 0, 0)] (pc2 := 15) (by decide +kernel) rfl trivial ?_
    obtain ⟨a2, e2, hf⟩ := bR_some hf
    refine h.callV (as := [.int x2]) (rest := []) (by decide +kernel) lk6_188 cwX6_isReturner kd_36 (kmX6_isReturner l e2) rfl (Nat.le_of_ble_eq_true rfl) (Nat.le_of_ble_eq_true rfl) (Nat.le_of_ble_eq_true rfl) ?_
    show V 18 [some (.ref 36), some (.int x1), some (.int x2), some (.int x3), none, none, none] [.int a2] (setI σ 36 23 0)
    refine h.if_eq (tgt := 33) (show decode cX6_promise 18 = .ok (.ifCond .eq 15, 3) by decide +kernel) (by decide) (fun c7 => ?_) (fun c7 => ?_)
    · rw [if_pos c7] at hf
      refine h.drop (ls' := [none, none, none, none, none, none, none]) trivial ?_
      exact wX6_promise_33 hm hf
    · rw [if_neg c7] at hf
      show V 21 [some (.ref 36), some (.int x1), some (.int x2), some (.int x3), none, none, none] [] (setI σ 36 23 0)
      refine h.run (o := []) (ls' := [some (.ref 36), some (.int x1), some (.int x2), some (.int x3), none, none, none]) (st' := [.long 100, .long 0, .long x3.toInt64]) (σ' := setI σ 36 23 0) [(.iload_n 3, 1, 0, 0, 0, 0), (.i2l, 1, 0, 0, 0, 0), (.lconst 0, 1, 0, 0, 0, 0), (.ldc2_w 181, 3, 0, 100, 0, 0)] (pc2 := 27) (by decide +kernel) rfl trivial ?_
      obtain ⟨a3, e3, hf⟩ := bR_some hf
      refine h.callS (as := [.long x3.toInt64, .long 0, .long 100]) (rest := []) (by decide +kernel) lk6_119 cwX6_in (kmX6_in l e3) rfl (Nat.le_of_ble_eq_true rfl) (Nat.le_of_ble_eq_true rfl) (Nat.le_of_ble_eq_true rfl) ?_
      show V 30 [some (.ref 36), some (.int x1), some (.int x2), some (.int x3), none, none, none] [.int a3] (setI σ 36 23 0)
      refine h.if_ne (tgt := 38) (show decode cX6_promise 30 = .ok (.ifCond .ne 8, 3) by decide +kernel) (by decide) (fun c6 => ?_) (fun c6 => ?_)
      · rw [if_neg c6] at hf
        obtain ⟨g4, hf⟩ := gd_some hf
        refine h.run (o := [kd 36 = 6, kd 36 = 6, kd 40 = 10, inb x2 (alen 40) = true]) (ls' := [some (.ref 36), some (.int x1), some (.int x2), some (.int x3), some (.int ((setI σ 36 23 0).1 36 2)), none, none]) (st' := [.int 1, .int ((setI σ 36 23 0).1 40 x2.toNatClampNeg), .int x1, .ref 36]) (σ' := setI σ 36 23 0) [(.aload_n 0, 1, 0, 0, 0, 0), (.getfield 16, 3, 0, 0, 6, 2), (.istore 4, 2, 0, 0, 0, 0), (.aload_n 0, 1, 0, 0, 0, 0), (.iload_n 1, 1, 0, 0, 0, 0), (.aload_n 0, 1, 0, 0, 0, 0), (.getfield 29, 3, 0, 0, 6, 8), (.iload_n 2, 1, 0, 0, 0, 0), (.iaload, 1, 0, 0, 0, 0), (.iconst 1, 1, 1, 0, 0, 0)] (pc2 := 53) (by decide +kernel) rfl (And.intro kd_36 (And.intro kd_36 (And.intro kd_40 (And.intro g4 trivial)))) ?_
        refine h.icmp_ne (tgt := 60) (show decode cX6_promise 53 = .ok (.if_icmp .ne 7, 3) by decide +kernel) (by decide) (fun c5 => ?_) (fun c5 => ?_)
        · rw [if_neg c5] at hf
          refine h.run (o := []) (ls' := [some (.ref 36), some (.int x1), some (.int x2), some (.int x3), some (.int ((setI σ 36 23 0).1 36 2)), none, none]) (st' := [.int 0, .int x1, .ref 36]) (σ' := setI σ 36 23 0) [(.iconst 0, 1, 0, 0, 0, 0)] (pc2 := 61) (by decide +kernel) rfl trivial ?_
          exact wX6_promise_61 hm hf
        · rw [if_pos c5] at hf
          show V 56 [some (.ref 36), some (.int x1), some (.int x2), some (.int x3), some (.int ((setI σ 36 23 0).1 36 2)), none, none] [.int x1, .ref 36] (setI σ 36 23 0)
          refine h.run (o := []) (ls' := [some (.ref 36), some (.int x1), some (.int x2), some (.int x3), some (.int ((setI σ 36 23 0).1 36 2)), none, none]) (st' := [.int 1, .int x1, .ref 36]) (σ' := setI σ 36 23 0) [(.iconst 1, 1, 1, 0, 0, 0), (.goto 4, 3, 0, 0, 0, 61)] (pc2 := 61) (by decide +kernel) rfl trivial ?_
          exact wX6_promise_61 hm hf
      · rw [if_pos c6] at hf
        show V 33 [some (.ref 36), some (.int x1), some (.int x2), some (.int x3), none, none, none] [] (setI σ 36 23 0)
        refine h.drop (ls' := [none, none, none, none, none, none, none]) trivial ?_
        exact wX6_promise_33 hm hf
def fX6_lastTurn_39 (σ : ST) : Option (Int32 × ST) :=
  some ((-1), σ)
set_option maxHeartbeats 4000000 in
theorem wX6_lastTurn_39 {l : Launch} {V : Nat → List (Option Value) → List Value → ST → Prop} {r : Int32} {τ : ST} {σ : ST} (hm : BM l 6 cX6_lastTurn 8 (some .int) 1 25 (some (.int r)) τ V) (hf : fX6_lastTurn_39 σ = some (r, τ)) : V 39 [none, none, none, none, none, none, none, none] [] σ := by
  have h := hm.bd
  unfold fX6_lastTurn_39 at hf
  refine h.run (o := []) (ls' := [none, none, none, none, none, none, none, none]) (st' := [.int (-1)]) (σ' := σ) [(.iconst (-1), 1, (-1), 0, 0, 0)] (pc2 := 40) (by decide +kernel) rfl trivial ?_
  obtain ⟨rfl, rfl⟩ := Prod.mk.inj (Option.some.inj hf)
  exact hm.iret (by decide +kernel)
def fX6_lastTurn_140 (t0 : Int32) (σ : ST) : Option (Int32 × ST) :=
  some (t0, σ)
set_option maxHeartbeats 4000000 in
theorem wX6_lastTurn_140 {l : Launch} {V : Nat → List (Option Value) → List Value → ST → Prop} {r : Int32} {τ : ST} {σ : ST} {t0 : Int32} (hm : BM l 6 cX6_lastTurn 8 (some .int) 1 25 (some (.int r)) τ V) (hf : fX6_lastTurn_140 t0 σ = some (r, τ)) : V 140 [none, none, none, none, none, none, none, none] [.int t0] σ := by
  have h := hm.bd
  unfold fX6_lastTurn_140 at hf
  obtain ⟨rfl, rfl⟩ := Prod.mk.inj (Option.some.inj hf)
  exact hm.iret (by decide +kernel)
def fX6_lastTurn_120 (kt_50 : Int32 → Int32 → Int32 → Int32 → Int32 → Int32 → ST → Option (Int32 × ST)) (x1 : Int32) (x2 : Int32) (x3 : Int32) (x4 : Int32) (x6 : Int32) (t0 : Int32) (t1 : Int32) (σ : ST) : Option (Int32 × ST) :=
  kt_50 x1 x2 x3 x4 (t0 + t1) (x6 + 1) σ
set_option maxHeartbeats 4000000 in
theorem wX6_lastTurn_120 {l : Launch} {V : Nat → List (Option Value) → List Value → ST → Prop} {r : Int32} {τ : ST} {σ : ST} {x1 : Int32} {x2 : Int32} {x3 : Int32} {x4 : Int32} {x6 : Int32} {t0 : Int32} {t1 : Int32} {kt_50 : Int32 → Int32 → Int32 → Int32 → Int32 → Int32 → ST → Option (Int32 × ST)} (hm : BM l 6 cX6_lastTurn 8 (some .int) 1 25 (some (.int r)) τ V) (hkt_50 : ∀ (x1 : Int32) (x2 : Int32) (x3 : Int32) (x4 : Int32) (x5 : Int32) (x6 : Int32) (σ : ST), kt_50 x1 x2 x3 x4 x5 x6 σ = some (r, τ) → V 50 [some (.ref 36), some (.int x1), some (.int x2), some (.int x3), some (.int x4), some (.int x5), some (.int x6), none] [] σ) (hf : fX6_lastTurn_120 kt_50 x1 x2 x3 x4 x6 t0 t1 σ = some (r, τ)) : V 120 [some (.ref 36), some (.int x1), some (.int x2), some (.int x3), some (.int x4), none, some (.int x6), none] [.int t1, .int t0] σ := by
  have h := hm.bd
  unfold fX6_lastTurn_120 at hf
  refine h.run (o := []) (ls' := [some (.ref 36), some (.int x1), some (.int x2), some (.int x3), some (.int x4), some (.int (t0 + t1)), some (.int (x6 + 1)), none]) (st' := []) (σ' := σ) [(.iadd, 1, 0, 0, 0, 0), (.istore 5, 2, 0, 0, 0, 0), (.iinc 6 1, 3, 1, 0, 0, 0), (.goto (-76), 3, 0, 0, 0, 50)] (pc2 := 50) (by decide +kernel) rfl trivial ?_
  exact hkt_50 x1 x2 x3 x4 (t0 + t1) (x6 + 1) _ hf
def fX6_lastTurn_97 (kt_50 : Int32 → Int32 → Int32 → Int32 → Int32 → Int32 → ST → Option (Int32 × ST)) (x1 : Int32) (x2 : Int32) (x3 : Int32) (x5 : Int32) (x6 : Int32) (x7 : Int32) (t0 : Int32) (t1 : Int32) (σ : ST) : Option (Int32 × ST) :=
  if x7 ≤ (σ.1 36 0) then
    fX6_lastTurn_120 kt_50 x1 x2 x3 (t0 + t1) x6 x5 (σ.1 36 0) σ
  else
    fX6_lastTurn_120 kt_50 x1 x2 x3 (t0 + t1) x6 x5 x7 σ
set_option maxHeartbeats 4000000 in
theorem wX6_lastTurn_97 {l : Launch} {V : Nat → List (Option Value) → List Value → ST → Prop} {r : Int32} {τ : ST} {σ : ST} {x1 : Int32} {x2 : Int32} {x3 : Int32} {x5 : Int32} {x6 : Int32} {x7 : Int32} {t0 : Int32} {t1 : Int32} {kt_50 : Int32 → Int32 → Int32 → Int32 → Int32 → Int32 → ST → Option (Int32 × ST)} (hm : BM l 6 cX6_lastTurn 8 (some .int) 1 25 (some (.int r)) τ V) (hkt_50 : ∀ (x1 : Int32) (x2 : Int32) (x3 : Int32) (x4 : Int32) (x5 : Int32) (x6 : Int32) (σ : ST), kt_50 x1 x2 x3 x4 x5 x6 σ = some (r, τ) → V 50 [some (.ref 36), some (.int x1), some (.int x2), some (.int x3), some (.int x4), some (.int x5), some (.int x6), none] [] σ) (hf : fX6_lastTurn_97 kt_50 x1 x2 x3 x5 x6 x7 t0 t1 σ = some (r, τ)) : V 97 [some (.ref 36), some (.int x1), some (.int x2), some (.int x3), none, some (.int x5), some (.int x6), some (.int x7)] [.int t1, .int t0] σ := by
  have h := hm.bd
  unfold fX6_lastTurn_97 at hf
  refine h.run (o := [kd 36 = 6]) (ls' := [some (.ref 36), some (.int x1), some (.int x2), some (.int x3), some (.int (t0 + t1)), some (.int x5), some (.int x6), some (.int x7)]) (st' := [.int (σ.1 36 0), .int x7, .int x5]) (σ' := σ) [(.iadd, 1, 0, 0, 0, 0), (.istore 4, 2, 0, 0, 0, 0), (.iload 5, 2, 0, 0, 0, 0), (.iload 7, 2, 0, 0, 0, 0), (.aload_n 0, 1, 0, 0, 0, 0), (.getfield 7, 3, 0, 0, 6, 0)] (pc2 := 108) (by decide +kernel) rfl (And.intro kd_36 trivial) ?_
  refine h.icmp_le (tgt := 116) (show decode cX6_lastTurn 108 = .ok (.if_icmp .le 8, 3) by decide +kernel) (by decide) (fun c1 => ?_) (fun c1 => ?_)
  · rw [if_pos c1] at hf
    refine h.run (o := [kd 36 = 6]) (ls' := [some (.ref 36), some (.int x1), some (.int x2), some (.int x3), some (.int (t0 + t1)), some (.int x5), some (.int x6), some (.int x7)]) (st' := [.int (σ.1 36 0), .int x5]) (σ' := σ) [(.aload_n 0, 1, 0, 0, 0, 0), (.getfield 7, 3, 0, 0, 6, 0)] (pc2 := 120) (by decide +kernel) rfl (And.intro kd_36 trivial) ?_
    refine h.drop (ls' := [some (.ref 36), some (.int x1), some (.int x2), some (.int x3), some (.int (t0 + t1)), none, some (.int x6), none]) (And.intro rfl (And.intro rfl (And.intro rfl (And.intro rfl (And.intro rfl (And.intro rfl trivial)))))) ?_
    exact wX6_lastTurn_120 hm hkt_50 hf
  · rw [if_neg c1] at hf
    show V 111 [some (.ref 36), some (.int x1), some (.int x2), some (.int x3), some (.int (t0 + t1)), some (.int x5), some (.int x6), some (.int x7)] [.int x5] σ
    refine h.run (o := []) (ls' := [some (.ref 36), some (.int x1), some (.int x2), some (.int x3), some (.int (t0 + t1)), some (.int x5), some (.int x6), some (.int x7)]) (st' := [.int x7, .int x5]) (σ' := σ) [(.iload 7, 2, 0, 0, 0, 0), (.goto 7, 3, 0, 0, 0, 120)] (pc2 := 120) (by decide +kernel) rfl trivial ?_
    refine h.drop (ls' := [some (.ref 36), some (.int x1), some (.int x2), some (.int x3), some (.int (t0 + t1)), none, some (.int x6), none]) (And.intro rfl (And.intro rfl (And.intro rfl (And.intro rfl (And.intro rfl (And.intro rfl trivial)))))) ?_
    exact wX6_lastTurn_120 hm hkt_50 hf
def fX6_lastTurn_79 (kt_50 : Int32 → Int32 → Int32 → Int32 → Int32 → Int32 → ST → Option (Int32 × ST)) (x1 : Int32) (x2 : Int32) (x3 : Int32) (x4 : Int32) (x5 : Int32) (x6 : Int32) (t0 : Int32) (σ : ST) : Option (Int32 × ST) :=
  if t0 ≤ (σ.1 36 0) then
    fX6_lastTurn_97 kt_50 x1 x2 x3 x5 x6 t0 x4 0 σ
  else
    fX6_lastTurn_97 kt_50 x1 x2 x3 x5 x6 t0 x4 1 σ
set_option maxHeartbeats 4000000 in
theorem wX6_lastTurn_79 {l : Launch} {V : Nat → List (Option Value) → List Value → ST → Prop} {r : Int32} {τ : ST} {σ : ST} {x1 : Int32} {x2 : Int32} {x3 : Int32} {x4 : Int32} {x5 : Int32} {x6 : Int32} {t0 : Int32} {kt_50 : Int32 → Int32 → Int32 → Int32 → Int32 → Int32 → ST → Option (Int32 × ST)} (hm : BM l 6 cX6_lastTurn 8 (some .int) 1 25 (some (.int r)) τ V) (hkt_50 : ∀ (x1 : Int32) (x2 : Int32) (x3 : Int32) (x4 : Int32) (x5 : Int32) (x6 : Int32) (σ : ST), kt_50 x1 x2 x3 x4 x5 x6 σ = some (r, τ) → V 50 [some (.ref 36), some (.int x1), some (.int x2), some (.int x3), some (.int x4), some (.int x5), some (.int x6), none] [] σ) (hf : fX6_lastTurn_79 kt_50 x1 x2 x3 x4 x5 x6 t0 σ = some (r, τ)) : V 79 [some (.ref 36), some (.int x1), some (.int x2), some (.int x3), some (.int x4), some (.int x5), some (.int x6), none] [.int t0] σ := by
  have h := hm.bd
  unfold fX6_lastTurn_79 at hf
  refine h.run (o := [kd 36 = 6]) (ls' := [some (.ref 36), some (.int x1), some (.int x2), some (.int x3), some (.int x4), some (.int x5), some (.int x6), some (.int t0)]) (st' := [.int (σ.1 36 0), .int t0, .int x4]) (σ' := σ) [(.istore 7, 2, 0, 0, 0, 0), (.iload 4, 2, 0, 0, 0, 0), (.iload 7, 2, 0, 0, 0, 0), (.aload_n 0, 1, 0, 0, 0, 0), (.getfield 7, 3, 0, 0, 6, 0)] (pc2 := 89) (by decide +kernel) rfl (And.intro kd_36 trivial) ?_
  refine h.icmp_le (tgt := 96) (show decode cX6_lastTurn 89 = .ok (.if_icmp .le 7, 3) by decide +kernel) (by decide) (fun c1 => ?_) (fun c1 => ?_)
  · rw [if_pos c1] at hf
    refine h.run (o := []) (ls' := [some (.ref 36), some (.int x1), some (.int x2), some (.int x3), some (.int x4), some (.int x5), some (.int x6), some (.int t0)]) (st' := [.int 0, .int x4]) (σ' := σ) [(.iconst 0, 1, 0, 0, 0, 0)] (pc2 := 97) (by decide +kernel) rfl trivial ?_
    refine h.drop (ls' := [some (.ref 36), some (.int x1), some (.int x2), some (.int x3), none, some (.int x5), some (.int x6), some (.int t0)]) (And.intro rfl (And.intro rfl (And.intro rfl (And.intro rfl (And.intro rfl (And.intro rfl (And.intro rfl trivial))))))) ?_
    exact wX6_lastTurn_97 hm hkt_50 hf
  · rw [if_neg c1] at hf
    show V 92 [some (.ref 36), some (.int x1), some (.int x2), some (.int x3), some (.int x4), some (.int x5), some (.int x6), some (.int t0)] [.int x4] σ
    refine h.run (o := []) (ls' := [some (.ref 36), some (.int x1), some (.int x2), some (.int x3), some (.int x4), some (.int x5), some (.int x6), some (.int t0)]) (st' := [.int 1, .int x4]) (σ' := σ) [(.iconst 1, 1, 1, 0, 0, 0), (.goto 4, 3, 0, 0, 0, 97)] (pc2 := 97) (by decide +kernel) rfl trivial ?_
    refine h.drop (ls' := [some (.ref 36), some (.int x1), some (.int x2), some (.int x3), none, some (.int x5), some (.int x6), some (.int t0)]) (And.intro rfl (And.intro rfl (And.intro rfl (And.intro rfl (And.intro rfl (And.intro rfl (And.intro rfl trivial))))))) ?_
    exact wX6_lastTurn_97 hm hkt_50 hf
def fX6_lastTurn_50 (n : Nat) (x1 : Int32) (x2 : Int32) (x3 : Int32) (x4 : Int32) (x5 : Int32) (x6 : Int32) (σ : ST) : Option (Int32 × ST) := match n with
  | 0 => none
  | n + 1 =>
    if x1 < x6 then
      if x3 = 0 then
        fX6_lastTurn_140 x4 σ
      else
        fX6_lastTurn_140 x5 σ
    else
      if (x1 - x6) < x2 then
        fX6_lastTurn_79 (fX6_lastTurn_50 n) x1 x2 x3 x4 x5 x6 0 σ
      else
        fX6_lastTurn_79 (fX6_lastTurn_50 n) x1 x2 x3 x4 x5 x6 (((σ.1 36 0) * (σ.1 36 1)) / 2) σ
set_option maxHeartbeats 4000000 in
theorem wX6_lastTurn_50 {l : Launch} {V : Nat → List (Option Value) → List Value → ST → Prop} {r : Int32} {τ : ST} (hm : BM l 6 cX6_lastTurn 8 (some .int) 1 25 (some (.int r)) τ V) : ∀ (n : Nat) (x1 : Int32) (x2 : Int32) (x3 : Int32) (x4 : Int32) (x5 : Int32) (x6 : Int32) (σ : ST), fX6_lastTurn_50 n x1 x2 x3 x4 x5 x6 σ = some (r, τ) → V 50 [some (.ref 36), some (.int x1), some (.int x2), some (.int x3), some (.int x4), some (.int x5), some (.int x6), none] [] σ := by
  have h := hm.bd
  intro n
  induction n with
  | zero => intro x1 x2 x3 x4 x5 x6 σ hf; cases hf
  | succ n ih =>
    intro x1 x2 x3 x4 x5 x6 σ hf
    rw [fX6_lastTurn_50] at hf
    refine h.run (o := []) (ls' := [some (.ref 36), some (.int x1), some (.int x2), some (.int x3), some (.int x4), some (.int x5), some (.int x6), none]) (st' := [.int x1, .int x6]) (σ' := σ) [(.iload 6, 2, 0, 0, 0, 0), (.iload_n 1, 1, 0, 0, 0, 0)] (pc2 := 53) (by decide +kernel) rfl trivial ?_
    refine h.icmp_gt (tgt := 129) (show decode cX6_lastTurn 53 = .ok (.if_icmp .gt 76, 3) by decide +kernel) (by decide) (fun c3 => ?_) (fun c3 => ?_)
    · rw [if_pos c3] at hf
      refine h.run (o := []) (ls' := [some (.ref 36), some (.int x1), some (.int x2), some (.int x3), some (.int x4), some (.int x5), some (.int x6), none]) (st' := [.int x3]) (σ' := σ) [(.iload_n 3, 1, 0, 0, 0, 0)] (pc2 := 130) (by decide +kernel) rfl trivial ?_
      refine h.if_ne (tgt := 138) (show decode cX6_lastTurn 130 = .ok (.ifCond .ne 8, 3) by decide +kernel) (by decide) (fun c1 => ?_) (fun c1 => ?_)
      · rw [if_neg c1] at hf
        refine h.run (o := []) (ls' := [some (.ref 36), some (.int x1), some (.int x2), some (.int x3), some (.int x4), some (.int x5), some (.int x6), none]) (st' := [.int x5]) (σ' := σ) [(.iload 5, 2, 0, 0, 0, 0)] (pc2 := 140) (by decide +kernel) rfl trivial ?_
        refine h.drop (ls' := [none, none, none, none, none, none, none, none]) trivial ?_
        exact wX6_lastTurn_140 hm hf
      · rw [if_pos c1] at hf
        show V 133 [some (.ref 36), some (.int x1), some (.int x2), some (.int x3), some (.int x4), some (.int x5), some (.int x6), none] [] σ
        refine h.run (o := []) (ls' := [some (.ref 36), some (.int x1), some (.int x2), some (.int x3), some (.int x4), some (.int x5), some (.int x6), none]) (st' := [.int x4]) (σ' := σ) [(.iload 4, 2, 0, 0, 0, 0), (.goto 5, 3, 0, 0, 0, 140)] (pc2 := 140) (by decide +kernel) rfl trivial ?_
        refine h.drop (ls' := [none, none, none, none, none, none, none, none]) trivial ?_
        exact wX6_lastTurn_140 hm hf
    · rw [if_neg c3] at hf
      show V 56 [some (.ref 36), some (.int x1), some (.int x2), some (.int x3), some (.int x4), some (.int x5), some (.int x6), none] [] σ
      refine h.run (o := []) (ls' := [some (.ref 36), some (.int x1), some (.int x2), some (.int x3), some (.int x4), some (.int x5), some (.int x6), none]) (st' := [.int x2, .int (x1 - x6)]) (σ' := σ) [(.iload_n 1, 1, 0, 0, 0, 0), (.iload 6, 2, 0, 0, 0, 0), (.isub, 1, 0, 0, 0, 0), (.iload_n 2, 1, 0, 0, 0, 0)] (pc2 := 61) (by decide +kernel) rfl trivial ?_
      refine h.icmp_lt (tgt := 78) (show decode cX6_lastTurn 61 = .ok (.if_icmp .lt 17, 3) by decide +kernel) (by decide) (fun c2 => ?_) (fun c2 => ?_)
      · rw [if_pos c2] at hf
        refine h.run (o := []) (ls' := [some (.ref 36), some (.int x1), some (.int x2), some (.int x3), some (.int x4), some (.int x5), some (.int x6), none]) (st' := [.int 0]) (σ' := σ) [(.iconst 0, 1, 0, 0, 0, 0)] (pc2 := 79) (by decide +kernel) rfl trivial ?_
        exact wX6_lastTurn_79 hm ih hf
      · rw [if_neg c2] at hf
        show V 64 [some (.ref 36), some (.int x1), some (.int x2), some (.int x3), some (.int x4), some (.int x5), some (.int x6), none] [] σ
        refine h.run (o := [kd 36 = 6, kd 36 = 6, ¬ 2 = 0]) (ls' := [some (.ref 36), some (.int x1), some (.int x2), some (.int x3), some (.int x4), some (.int x5), some (.int x6), none]) (st' := [.int (((σ.1 36 0) * (σ.1 36 1)) / 2)]) (σ' := σ) [(.aload_n 0, 1, 0, 0, 0, 0), (.getfield 7, 3, 0, 0, 6, 0), (.aload_n 0, 1, 0, 0, 0, 0), (.getfield 13, 3, 0, 0, 6, 1), (.imul, 1, 0, 0, 0, 0), (.iconst 2, 1, 2, 0, 0, 0), (.idiv, 1, 0, 0, 0, 0), (.goto 4, 3, 0, 0, 0, 79)] (pc2 := 79) (by decide +kernel) rfl (And.intro kd_36 (And.intro kd_36 (And.intro (by decide) trivial))) ?_
        exact wX6_lastTurn_79 hm ih hf
def fX6_lastTurn (x1 : Int32) (x2 : Int32) (x3 : Int32) (σ : ST) : Option (Int32 × ST) :=
  bR (fX6_in x1.toInt64 1 12 (setI σ 36 23 0)) fun a1 =>
  if a1 = 0 then
    fX6_lastTurn_39 (setI σ 36 23 0)
  else
    bR (fX6_in x2.toInt64 0 12 (setI σ 36 23 0)) fun a2 =>
    if a2 = 0 then
      fX6_lastTurn_39 (setI σ 36 23 0)
    else
      bR (fX6_in x3.toInt64 0 1 (setI σ 36 23 0)) fun a3 =>
      if a3 = 0 then
        fX6_lastTurn_39 (setI σ 36 23 0)
      else
        fX6_lastTurn_50 FU x1 x2 x3 0 0 1 (setI σ 36 23 0)
set_option maxHeartbeats 4000000 in
theorem kmX6_lastTurn (l : Launch) {x1 : Int32} {x2 : Int32} {x3 : Int32} {σ : ST} {r : Int32} {τ : ST} (hf : fX6_lastTurn x1 x2 x3 σ = some (r, τ)) : KM l yX6_lastTurn cX6_lastTurn 8 (some .int) 1 25 [.ref 36, .int x1, .int x2, .int x3] σ (some (.int r)) τ := by
  refine KM.intro (ow := 6) (by decide +kernel) rfl (Nat.le_of_ble_eq_true rfl) (fun V hm => ?_)
  show V 0 [some (.ref 36), some (.int x1), some (.int x2), some (.int x3), none, none, none, none] [] σ
  have h := hm.bd
  unfold fX6_lastTurn at hf
  refine h.run (o := [kd 36 = 6]) (ls' := [some (.ref 36), some (.int x1), some (.int x2), some (.int x3), none, none, none, none]) (st' := [.long 12, .long 1, .long x1.toInt64]) (σ' := setI σ 36 23 0) [(.aload_n 0, 1, 0, 0, 0, 0), (.iconst 0, 1, 0, 0, 0, 0), (.putfield 112, 3, 0, 0, 6, 23), (.iload_n 1, 1, 0, 0, 0, 0), (.i2l, 1, 0, 0, 0, 0), (.lconst 1, 1, 0, 1, 0, 0), (.ldc2_w 245, 3, 0, 12, 0, 0)] (pc2 := 11) (by decide +kernel) rfl (And.intro kd_36 trivial) ?_
  obtain ⟨a1, e1, hf⟩ := bR_some hf
  refine h.callS (as := [.long x1.toInt64, .long 1, .long 12]) (rest := []) (by decide +kernel) lk6_119 cwX6_in (kmX6_in l e1) rfl (Nat.le_of_ble_eq_true rfl) (Nat.le_of_ble_eq_true rfl) (Nat.le_of_ble_eq_true rfl) ?_
  show V 14 [some (.ref 36), some (.int x1), some (.int x2), some (.int x3), none, none, none, none] [.int a1] (setI σ 36 23 0)
  refine h.if_eq (tgt := 39) (show decode cX6_lastTurn 14 = .ok (.ifCond .eq 25, 3) by decide +kernel) (by decide) (fun c6 => ?_) (fun c6 => ?_)
  · rw [if_pos c6] at hf
    refine h.drop (ls' := [none, none, none, none, none, none, none, none]) trivial ?_
    exact wX6_lastTurn_39 hm hf
  · rw [if_neg c6] at hf
    show V 17 [some (.ref 36), some (.int x1), some (.int x2), some (.int x3), none, none, none, none] [] (setI σ 36 23 0)
    refine h.run (o := []) (ls' := [some (.ref 36), some (.int x1), some (.int x2), some (.int x3), none, none, none, none]) (st' := [.long 12, .long 0, .long x2.toInt64]) (σ' := setI σ 36 23 0) [(.iload_n 2, 1, 0, 0, 0, 0), (.i2l, 1, 0, 0, 0, 0), (.lconst 0, 1, 0, 0, 0, 0), (.ldc2_w 245, 3, 0, 12, 0, 0)] (pc2 := 23) (by decide +kernel) rfl trivial ?_
    obtain ⟨a2, e2, hf⟩ := bR_some hf
    refine h.callS (as := [.long x2.toInt64, .long 0, .long 12]) (rest := []) (by decide +kernel) lk6_119 cwX6_in (kmX6_in l e2) rfl (Nat.le_of_ble_eq_true rfl) (Nat.le_of_ble_eq_true rfl) (Nat.le_of_ble_eq_true rfl) ?_
    show V 26 [some (.ref 36), some (.int x1), some (.int x2), some (.int x3), none, none, none, none] [.int a2] (setI σ 36 23 0)
    refine h.if_eq (tgt := 39) (show decode cX6_lastTurn 26 = .ok (.ifCond .eq 13, 3) by decide +kernel) (by decide) (fun c5 => ?_) (fun c5 => ?_)
    · rw [if_pos c5] at hf
      refine h.drop (ls' := [none, none, none, none, none, none, none, none]) trivial ?_
      exact wX6_lastTurn_39 hm hf
    · rw [if_neg c5] at hf
      show V 29 [some (.ref 36), some (.int x1), some (.int x2), some (.int x3), none, none, none, none] [] (setI σ 36 23 0)
      refine h.run (o := []) (ls' := [some (.ref 36), some (.int x1), some (.int x2), some (.int x3), none, none, none, none]) (st' := [.long 1, .long 0, .long x3.toInt64]) (σ' := setI σ 36 23 0) [(.iload_n 3, 1, 0, 0, 0, 0), (.i2l, 1, 0, 0, 0, 0), (.lconst 0, 1, 0, 0, 0, 0), (.lconst 1, 1, 0, 1, 0, 0)] (pc2 := 33) (by decide +kernel) rfl trivial ?_
      obtain ⟨a3, e3, hf⟩ := bR_some hf
      refine h.callS (as := [.long x3.toInt64, .long 0, .long 1]) (rest := []) (by decide +kernel) lk6_119 cwX6_in (kmX6_in l e3) rfl (Nat.le_of_ble_eq_true rfl) (Nat.le_of_ble_eq_true rfl) (Nat.le_of_ble_eq_true rfl) ?_
      show V 36 [some (.ref 36), some (.int x1), some (.int x2), some (.int x3), none, none, none, none] [.int a3] (setI σ 36 23 0)
      refine h.if_ne (tgt := 41) (show decode cX6_lastTurn 36 = .ok (.ifCond .ne 5, 3) by decide +kernel) (by decide) (fun c4 => ?_) (fun c4 => ?_)
      · rw [if_neg c4] at hf
        refine h.run (o := []) (ls' := [some (.ref 36), some (.int x1), some (.int x2), some (.int x3), some (.int 0), some (.int 0), some (.int 1), none]) (st' := []) (σ' := setI σ 36 23 0) [(.iconst 0, 1, 0, 0, 0, 0), (.istore 4, 2, 0, 0, 0, 0), (.iconst 0, 1, 0, 0, 0, 0), (.istore 5, 2, 0, 0, 0, 0), (.iconst 1, 1, 1, 0, 0, 0), (.istore 6, 2, 0, 0, 0, 0)] (pc2 := 50) (by decide +kernel) rfl trivial ?_
        exact wX6_lastTurn_50 hm FU x1 x2 x3 0 0 1 _ hf
      · rw [if_pos c4] at hf
        show V 39 [some (.ref 36), some (.int x1), some (.int x2), some (.int x3), none, none, none, none] [] (setI σ 36 23 0)
        refine h.drop (ls' := [none, none, none, none, none, none, none, none]) trivial ?_
        exact wX6_lastTurn_39 hm hf
def fX6_wrongTwo_24 (σ : ST) : Option Int32 :=
  some (-1)
set_option maxHeartbeats 4000000 in
theorem wX6_wrongTwo_24 {l : Launch} {V : Nat → List (Option Value) → List Value → ST → Prop} {r : Int32} {σ : ST} (hm : BM l 6 cX6_wrongTwo 3 (some .int) 1 25 (some (.int r)) σ V) (hf : fX6_wrongTwo_24 σ = some r) : V 24 [none, none, none] [] σ := by
  have h := hm.bd
  unfold fX6_wrongTwo_24 at hf
  refine h.run (o := []) (ls' := [none, none, none]) (st' := [.int (-1)]) (σ' := σ) [(.iconst (-1), 1, (-1), 0, 0, 0)] (pc2 := 25) (by decide +kernel) rfl trivial ?_
  obtain rfl := Option.some.inj hf
  exact hm.iret (by decide +kernel)
def fX6_wrongTwo_44 (σ : ST) : Option Int32 :=
  some (-11)
set_option maxHeartbeats 4000000 in
theorem wX6_wrongTwo_44 {l : Launch} {V : Nat → List (Option Value) → List Value → ST → Prop} {r : Int32} {σ : ST} (hm : BM l 6 cX6_wrongTwo 3 (some .int) 1 25 (some (.int r)) σ V) (hf : fX6_wrongTwo_44 σ = some r) : V 44 [none, none, none] [] σ := by
  have h := hm.bd
  unfold fX6_wrongTwo_44 at hf
  refine h.run (o := []) (ls' := [none, none, none]) (st' := [.int (-11)]) (σ' := σ) [(.bipush (-11), 2, (-11), 0, 0, 0)] (pc2 := 46) (by decide +kernel) rfl trivial ?_
  obtain rfl := Option.some.inj hf
  exact hm.iret (by decide +kernel)
def fX6_wrongTwo_73 (t0 : Int32) (σ : ST) : Option Int32 :=
  some t0
set_option maxHeartbeats 4000000 in
theorem wX6_wrongTwo_73 {l : Launch} {V : Nat → List (Option Value) → List Value → ST → Prop} {r : Int32} {σ : ST} {t0 : Int32} (hm : BM l 6 cX6_wrongTwo 3 (some .int) 1 25 (some (.int r)) σ V) (hf : fX6_wrongTwo_73 t0 σ = some r) : V 73 [none, none, none] [.int t0] σ := by
  have h := hm.bd
  unfold fX6_wrongTwo_73 at hf
  obtain rfl := Option.some.inj hf
  exact hm.iret (by decide +kernel)
def fX6_wrongTwo_67 (σ : ST) : Option Int32 :=
  fX6_wrongTwo_73 (-12) σ
set_option maxHeartbeats 4000000 in
theorem wX6_wrongTwo_67 {l : Launch} {V : Nat → List (Option Value) → List Value → ST → Prop} {r : Int32} {σ : ST} (hm : BM l 6 cX6_wrongTwo 3 (some .int) 1 25 (some (.int r)) σ V) (hf : fX6_wrongTwo_67 σ = some r) : V 67 [none, none, none] [] σ := by
  have h := hm.bd
  unfold fX6_wrongTwo_67 at hf
  refine h.run (o := []) (ls' := [none, none, none]) (st' := [.int (-12)]) (σ' := σ) [(.bipush (-12), 2, (-12), 0, 0, 0), (.goto 4, 3, 0, 0, 0, 73)] (pc2 := 73) (by decide +kernel) rfl trivial ?_
  exact wX6_wrongTwo_73 hm hf
def fX6_wrongTwo (x1 : Int32) (x2 : Int32) (σ : ST) : Option Int32 :=
  bR (fX6_in x1.toInt64 0 7 σ) fun a1 =>
  if a1 = 0 then
    fX6_wrongTwo_24 σ
  else
    bR (fX6_in x2.toInt64 0 7 σ) fun a2 =>
    if a2 = 0 then
      fX6_wrongTwo_24 σ
    else
      gd (inb x1 (alen 58)) <|
      if (σ.1 58 x1.toNatClampNeg) = 0 then
        fX6_wrongTwo_44 σ
      else
        gd (inb x2 (alen 58)) <|
        if (σ.1 58 x2.toNatClampNeg) = 0 then
          fX6_wrongTwo_44 σ
        else
          gd (inb x1 (alen 58)) <|
          if (σ.1 58 x1.toNatClampNeg) = 2 then
            gd (inb x2 (alen 58)) <|
            if (σ.1 58 x2.toNatClampNeg) = 2 then
              fX6_wrongTwo_73 0 σ
            else
              fX6_wrongTwo_67 σ
          else
            fX6_wrongTwo_67 σ
set_option maxHeartbeats 4000000 in
theorem kmX6_wrongTwo (l : Launch) {x1 : Int32} {x2 : Int32} {σ : ST} {r : Int32} (hf : fX6_wrongTwo x1 x2 σ = some r) : KM l yX6_wrongTwo cX6_wrongTwo 3 (some .int) 1 25 [.ref 36, .int x1, .int x2] σ (some (.int r)) σ := by
  refine KM.intro (ow := 6) (by decide +kernel) rfl (Nat.le_of_ble_eq_true rfl) (fun V hm => ?_)
  show V 0 [some (.ref 36), some (.int x1), some (.int x2)] [] σ
  have h := hm.bd
  unfold fX6_wrongTwo at hf
  refine h.run (o := []) (ls' := [some (.ref 36), some (.int x1), some (.int x2)]) (st' := [.long 7, .long 0, .long x1.toInt64]) (σ' := σ) [(.iload_n 1, 1, 0, 0, 0, 0), (.i2l, 1, 0, 0, 0, 0), (.lconst 0, 1, 0, 0, 0, 0), (.ldc2_w 247, 3, 0, 7, 0, 0)] (pc2 := 6) (by decide +kernel) rfl trivial ?_
  obtain ⟨a1, e1, hf⟩ := bR_some hf
  refine h.callS (as := [.long x1.toInt64, .long 0, .long 7]) (rest := []) (by decide +kernel) lk6_119 cwX6_in (kmX6_in l e1) rfl (Nat.le_of_ble_eq_true rfl) (Nat.le_of_ble_eq_true rfl) (Nat.le_of_ble_eq_true rfl) ?_
  show V 9 [some (.ref 36), some (.int x1), some (.int x2)] [.int a1] σ
  refine h.if_eq (tgt := 24) (show decode cX6_wrongTwo 9 = .ok (.ifCond .eq 15, 3) by decide +kernel) (by decide) (fun c12 => ?_) (fun c12 => ?_)
  · rw [if_pos c12] at hf
    refine h.drop (ls' := [none, none, none]) trivial ?_
    exact wX6_wrongTwo_24 hm hf
  · rw [if_neg c12] at hf
    show V 12 [some (.ref 36), some (.int x1), some (.int x2)] [] σ
    refine h.run (o := []) (ls' := [some (.ref 36), some (.int x1), some (.int x2)]) (st' := [.long 7, .long 0, .long x2.toInt64]) (σ' := σ) [(.iload_n 2, 1, 0, 0, 0, 0), (.i2l, 1, 0, 0, 0, 0), (.lconst 0, 1, 0, 0, 0, 0), (.ldc2_w 247, 3, 0, 7, 0, 0)] (pc2 := 18) (by decide +kernel) rfl trivial ?_
    obtain ⟨a2, e2, hf⟩ := bR_some hf
    refine h.callS (as := [.long x2.toInt64, .long 0, .long 7]) (rest := []) (by decide +kernel) lk6_119 cwX6_in (kmX6_in l e2) rfl (Nat.le_of_ble_eq_true rfl) (Nat.le_of_ble_eq_true rfl) (Nat.le_of_ble_eq_true rfl) ?_
    show V 21 [some (.ref 36), some (.int x1), some (.int x2)] [.int a2] σ
    refine h.if_ne (tgt := 26) (show decode cX6_wrongTwo 21 = .ok (.ifCond .ne 5, 3) by decide +kernel) (by decide) (fun c11 => ?_) (fun c11 => ?_)
    · rw [if_neg c11] at hf
      obtain ⟨g3, hf⟩ := gd_some hf
      refine h.run (o := [kd 36 = 6, kd 58 = 10, inb x1 (alen 58) = true]) (ls' := [some (.ref 36), some (.int x1), some (.int x2)]) (st' := [.int (σ.1 58 x1.toNatClampNeg)]) (σ' := σ) [(.aload_n 0, 1, 0, 0, 0, 0), (.getfield 84, 3, 0, 0, 6, 38), (.iload_n 1, 1, 0, 0, 0, 0), (.iaload, 1, 0, 0, 0, 0)] (pc2 := 32) (by decide +kernel) rfl (And.intro kd_36 (And.intro kd_58 (And.intro g3 trivial))) ?_
      refine h.if_eq (tgt := 44) (show decode cX6_wrongTwo 32 = .ok (.ifCond .eq 12, 3) by decide +kernel) (by decide) (fun c10 => ?_) (fun c10 => ?_)
      · rw [if_pos c10] at hf
        refine h.drop (ls' := [none, none, none]) trivial ?_
        exact wX6_wrongTwo_44 hm hf
      · rw [if_neg c10] at hf
        show V 35 [some (.ref 36), some (.int x1), some (.int x2)] [] σ
        obtain ⟨g4, hf⟩ := gd_some hf
        refine h.run (o := [kd 36 = 6, kd 58 = 10, inb x2 (alen 58) = true]) (ls' := [some (.ref 36), some (.int x1), some (.int x2)]) (st' := [.int (σ.1 58 x2.toNatClampNeg)]) (σ' := σ) [(.aload_n 0, 1, 0, 0, 0, 0), (.getfield 84, 3, 0, 0, 6, 38), (.iload_n 2, 1, 0, 0, 0, 0), (.iaload, 1, 0, 0, 0, 0)] (pc2 := 41) (by decide +kernel) rfl (And.intro kd_36 (And.intro kd_58 (And.intro g4 trivial))) ?_
        refine h.if_ne (tgt := 47) (show decode cX6_wrongTwo 41 = .ok (.ifCond .ne 6, 3) by decide +kernel) (by decide) (fun c9 => ?_) (fun c9 => ?_)
        · rw [if_neg c9] at hf
          obtain ⟨g5, hf⟩ := gd_some hf
          refine h.run (o := [kd 36 = 6, kd 58 = 10, inb x1 (alen 58) = true]) (ls' := [some (.ref 36), some (.int x1), some (.int x2)]) (st' := [.int 2, .int (σ.1 58 x1.toNatClampNeg)]) (σ' := σ) [(.aload_n 0, 1, 0, 0, 0, 0), (.getfield 84, 3, 0, 0, 6, 38), (.iload_n 1, 1, 0, 0, 0, 0), (.iaload, 1, 0, 0, 0, 0), (.iconst 2, 1, 2, 0, 0, 0)] (pc2 := 54) (by decide +kernel) rfl (And.intro kd_36 (And.intro kd_58 (And.intro g5 trivial))) ?_
          refine h.icmp_ne (tgt := 67) (show decode cX6_wrongTwo 54 = .ok (.if_icmp .ne 13, 3) by decide +kernel) (by decide) (fun c8 => ?_) (fun c8 => ?_)
          · rw [if_neg c8] at hf
            refine h.drop (ls' := [none, none, none]) trivial ?_
            exact wX6_wrongTwo_67 hm hf
          · rw [if_pos c8] at hf
            show V 57 [some (.ref 36), some (.int x1), some (.int x2)] [] σ
            obtain ⟨g6, hf⟩ := gd_some hf
            refine h.run (o := [kd 36 = 6, kd 58 = 10, inb x2 (alen 58) = true]) (ls' := [some (.ref 36), some (.int x1), some (.int x2)]) (st' := [.int 2, .int (σ.1 58 x2.toNatClampNeg)]) (σ' := σ) [(.aload_n 0, 1, 0, 0, 0, 0), (.getfield 84, 3, 0, 0, 6, 38), (.iload_n 2, 1, 0, 0, 0, 0), (.iaload, 1, 0, 0, 0, 0), (.iconst 2, 1, 2, 0, 0, 0)] (pc2 := 64) (by decide +kernel) rfl (And.intro kd_36 (And.intro kd_58 (And.intro g6 trivial))) ?_
            refine h.icmp_eq (tgt := 72) (show decode cX6_wrongTwo 64 = .ok (.if_icmp .eq 8, 3) by decide +kernel) (by decide) (fun c7 => ?_) (fun c7 => ?_)
            · rw [if_pos c7] at hf
              refine h.run (o := []) (ls' := [some (.ref 36), some (.int x1), some (.int x2)]) (st' := [.int 0]) (σ' := σ) [(.iconst 0, 1, 0, 0, 0, 0)] (pc2 := 73) (by decide +kernel) rfl trivial ?_
              refine h.drop (ls' := [none, none, none]) trivial ?_
              exact wX6_wrongTwo_73 hm hf
            · rw [if_neg c7] at hf
              show V 67 [some (.ref 36), some (.int x1), some (.int x2)] [] σ
              refine h.drop (ls' := [none, none, none]) trivial ?_
              exact wX6_wrongTwo_67 hm hf
        · rw [if_pos c9] at hf
          show V 44 [some (.ref 36), some (.int x1), some (.int x2)] [] σ
          refine h.drop (ls' := [none, none, none]) trivial ?_
          exact wX6_wrongTwo_44 hm hf
    · rw [if_pos c11] at hf
      show V 24 [some (.ref 36), some (.int x1), some (.int x2)] [] σ
      refine h.drop (ls' := [none, none, none]) trivial ?_
      exact wX6_wrongTwo_24 hm hf
def fX6_areSendings_59 (kt_17 : Int32 → Int32 → Int32 → Option Int32) (x1 : Int32) (x3 : Int32) (t0 : Int32) (σ : ST) : Option Int32 :=
  kt_17 x1 t0 (x3 + 1)
set_option maxHeartbeats 4000000 in
theorem wX6_areSendings_59 {l : Launch} {V : Nat → List (Option Value) → List Value → ST → Prop} {r : Int32} {σ : ST} {x1 : Int32} {x3 : Int32} {t0 : Int32} {kt_17 : Int32 → Int32 → Int32 → Option Int32} (hm : BM l 6 cX6_areSendings 4 (some .boolean) 1 25 (some (.int r)) σ V) (hkt_17 : ∀ (x1 : Int32) (x2 : Int32) (x3 : Int32), kt_17 x1 x2 x3 = some r → V 17 [some (.ref 36), some (.int x1), some (.int x2), some (.int x3)] [] σ) (hf : fX6_areSendings_59 kt_17 x1 x3 t0 σ = some r) : V 59 [some (.ref 36), some (.int x1), none, some (.int x3)] [.int t0] σ := by
  have h := hm.bd
  unfold fX6_areSendings_59 at hf
  refine h.run (o := []) (ls' := [some (.ref 36), some (.int x1), some (.int t0), some (.int (x3 + 1))]) (st' := []) (σ' := σ) [(.istore_n 2, 1, 0, 0, 0, 0), (.iinc 3 1, 3, 1, 0, 0, 0), (.goto (-46), 3, 0, 0, 0, 17)] (pc2 := 17) (by decide +kernel) rfl trivial ?_
  exact hkt_17 x1 t0 (x3 + 1) hf
def fX6_areSendings_58 (kt_17 : Int32 → Int32 → Int32 → Option Int32) (x1 : Int32) (x3 : Int32) (σ : ST) : Option Int32 :=
  fX6_areSendings_59 kt_17 x1 x3 0 σ
set_option maxHeartbeats 4000000 in
theorem wX6_areSendings_58 {l : Launch} {V : Nat → List (Option Value) → List Value → ST → Prop} {r : Int32} {σ : ST} {x1 : Int32} {x3 : Int32} {kt_17 : Int32 → Int32 → Int32 → Option Int32} (hm : BM l 6 cX6_areSendings 4 (some .boolean) 1 25 (some (.int r)) σ V) (hkt_17 : ∀ (x1 : Int32) (x2 : Int32) (x3 : Int32), kt_17 x1 x2 x3 = some r → V 17 [some (.ref 36), some (.int x1), some (.int x2), some (.int x3)] [] σ) (hf : fX6_areSendings_58 kt_17 x1 x3 σ = some r) : V 58 [some (.ref 36), some (.int x1), none, some (.int x3)] [] σ := by
  have h := hm.bd
  unfold fX6_areSendings_58 at hf
  refine h.run (o := []) (ls' := [some (.ref 36), some (.int x1), none, some (.int x3)]) (st' := [.int 0]) (σ' := σ) [(.iconst 0, 1, 0, 0, 0, 0)] (pc2 := 59) (by decide +kernel) rfl trivial ?_
  exact wX6_areSendings_59 hm hkt_17 hf
def fX6_areSendings_17 (σ : ST) (n : Nat) (x1 : Int32) (x2 : Int32) (x3 : Int32) : Option Int32 := match n with
  | 0 => none
  | n + 1 =>
    gd (inb x1 (alen 64)) <|
    if (σ.1 64 x1.toNatClampNeg) ≤ x3 then
      gd (isb x2) <|
      some x2
    else
      if x2 = 0 then
        fX6_areSendings_58 (fX6_areSendings_17 σ n) x1 x3 σ
      else
        gd (inb ((100 * x1) + x3) (alen 65)) <|
        bR (fX6_in (σ.2 65 (((100 * x1) + x3).toNatClampNeg)) 0 ((σ.1 36 0).toInt64) σ) fun a4 =>
        if a4 = 0 then
          fX6_areSendings_58 (fX6_areSendings_17 σ n) x1 x3 σ
        else
          fX6_areSendings_59 (fX6_areSendings_17 σ n) x1 x3 1 σ
set_option maxHeartbeats 4000000 in
theorem wX6_areSendings_17 {l : Launch} {V : Nat → List (Option Value) → List Value → ST → Prop} {r : Int32} {σ : ST} (hm : BM l 6 cX6_areSendings 4 (some .boolean) 1 25 (some (.int r)) σ V) : ∀ (n : Nat) (x1 : Int32) (x2 : Int32) (x3 : Int32), fX6_areSendings_17 σ n x1 x2 x3 = some r → V 17 [some (.ref 36), some (.int x1), some (.int x2), some (.int x3)] [] σ := by
  have h := hm.bd
  intro n
  induction n with
  | zero => intro x1 x2 x3 hf; cases hf
  | succ n ih =>
    intro x1 x2 x3 hf
    rw [fX6_areSendings_17] at hf
    obtain ⟨g1, hf⟩ := gd_some hf
    refine h.run (o := [kd 36 = 6, kd 64 = 10, inb x1 (alen 64) = true]) (ls' := [some (.ref 36), some (.int x1), some (.int x2), some (.int x3)]) (st' := [.int (σ.1 64 x1.toNatClampNeg), .int x3]) (σ' := σ) [(.iload_n 3, 1, 0, 0, 0, 0), (.aload_n 0, 1, 0, 0, 0, 0), (.getfield 102, 3, 0, 0, 6, 44), (.iload_n 1, 1, 0, 0, 0, 0), (.iaload, 1, 0, 0, 0, 0)] (pc2 := 24) (by decide +kernel) rfl (And.intro kd_36 (And.intro kd_64 (And.intro g1 trivial))) ?_
    refine h.icmp_ge (tgt := 66) (show decode cX6_areSendings 24 = .ok (.if_icmp .ge 42, 3) by decide +kernel) (by decide) (fun c7 => ?_) (fun c7 => ?_)
    · rw [if_pos c7] at hf
      refine h.run (o := []) (ls' := [some (.ref 36), some (.int x1), some (.int x2), some (.int x3)]) (st' := [.int x2]) (σ' := σ) [(.iload_n 2, 1, 0, 0, 0, 0)] (pc2 := 67) (by decide +kernel) rfl trivial ?_
      obtain ⟨g2, hf⟩ := gd_some hf
      obtain rfl := Option.some.inj hf
      exact hm.zret (by decide +kernel) g2
    · rw [if_neg c7] at hf
      show V 27 [some (.ref 36), some (.int x1), some (.int x2), some (.int x3)] [] σ
      refine h.run (o := []) (ls' := [some (.ref 36), some (.int x1), some (.int x2), some (.int x3)]) (st' := [.int x2]) (σ' := σ) [(.iload_n 2, 1, 0, 0, 0, 0)] (pc2 := 28) (by decide +kernel) rfl trivial ?_
      refine h.if_eq (tgt := 58) (show decode cX6_areSendings 28 = .ok (.ifCond .eq 30, 3) by decide +kernel) (by decide) (fun c6 => ?_) (fun c6 => ?_)
      · rw [if_pos c6] at hf
        refine h.drop (ls' := [some (.ref 36), some (.int x1), none, some (.int x3)]) (And.intro rfl (And.intro rfl (And.intro rfl trivial))) ?_
        exact wX6_areSendings_58 hm ih hf
      · rw [if_neg c6] at hf
        show V 31 [some (.ref 36), some (.int x1), some (.int x2), some (.int x3)] [] σ
        obtain ⟨g3, hf⟩ := gd_some hf
        refine h.run (o := [kd 36 = 6, kd 65 = 12, inb ((100 * x1) + x3) (alen 65) = true, kd 36 = 6]) (ls' := [some (.ref 36), some (.int x1), some (.int x2), some (.int x3)]) (st' := [.long ((σ.1 36 0).toInt64), .long 0, .long (σ.2 65 (((100 * x1) + x3).toNatClampNeg))]) (σ' := σ) [(.aload_n 0, 1, 0, 0, 0, 0), (.getfield 105, 3, 0, 0, 6, 45), (.bipush 100, 2, 100, 0, 0, 0), (.iload_n 1, 1, 0, 0, 0, 0), (.imul, 1, 0, 0, 0, 0), (.iload_n 3, 1, 0, 0, 0, 0), (.iadd, 1, 0, 0, 0, 0), (.laload, 1, 0, 0, 0, 0), (.lconst 0, 1, 0, 0, 0, 0), (.aload_n 0, 1, 0, 0, 0, 0), (.getfield 7, 3, 0, 0, 6, 0), (.i2l, 1, 0, 0, 0, 0)] (pc2 := 48) (by decide +kernel) rfl (And.intro kd_36 (And.intro kd_65 (And.intro g3 (And.intro kd_36 trivial)))) ?_
        obtain ⟨a4, e4, hf⟩ := bR_some hf
        refine h.callS (as := [.long (σ.2 65 (((100 * x1) + x3).toNatClampNeg)), .long 0, .long ((σ.1 36 0).toInt64)]) (rest := []) (by decide +kernel) lk6_119 cwX6_in (kmX6_in l e4) rfl (Nat.le_of_ble_eq_true rfl) (Nat.le_of_ble_eq_true rfl) (Nat.le_of_ble_eq_true rfl) ?_
        show V 51 [some (.ref 36), some (.int x1), some (.int x2), some (.int x3)] [.int a4] σ
        refine h.if_eq (tgt := 58) (show decode cX6_areSendings 51 = .ok (.ifCond .eq 7, 3) by decide +kernel) (by decide) (fun c5 => ?_) (fun c5 => ?_)
        · rw [if_pos c5] at hf
          refine h.drop (ls' := [some (.ref 36), some (.int x1), none, some (.int x3)]) (And.intro rfl (And.intro rfl (And.intro rfl trivial))) ?_
          exact wX6_areSendings_58 hm ih hf
        · rw [if_neg c5] at hf
          show V 54 [some (.ref 36), some (.int x1), some (.int x2), some (.int x3)] [] σ
          refine h.run (o := []) (ls' := [some (.ref 36), some (.int x1), some (.int x2), some (.int x3)]) (st' := [.int 1]) (σ' := σ) [(.iconst 1, 1, 1, 0, 0, 0), (.goto 4, 3, 0, 0, 0, 59)] (pc2 := 59) (by decide +kernel) rfl trivial ?_
          refine h.drop (ls' := [some (.ref 36), some (.int x1), none, some (.int x3)]) (And.intro rfl (And.intro rfl (And.intro rfl trivial))) ?_
          exact wX6_areSendings_59 hm ih hf
def fX6_areSendings_14 (x1 : Int32) (t0 : Int32) (σ : ST) : Option Int32 :=
  fX6_areSendings_17 σ FU x1 t0 0
set_option maxHeartbeats 4000000 in
theorem wX6_areSendings_14 {l : Launch} {V : Nat → List (Option Value) → List Value → ST → Prop} {r : Int32} {σ : ST} {x1 : Int32} {t0 : Int32} (hm : BM l 6 cX6_areSendings 4 (some .boolean) 1 25 (some (.int r)) σ V) (hf : fX6_areSendings_14 x1 t0 σ = some r) : V 14 [some (.ref 36), some (.int x1), none, none] [.int t0] σ := by
  have h := hm.bd
  unfold fX6_areSendings_14 at hf
  refine h.run (o := []) (ls' := [some (.ref 36), some (.int x1), some (.int t0), some (.int 0)]) (st' := []) (σ' := σ) [(.istore_n 2, 1, 0, 0, 0, 0), (.iconst 0, 1, 0, 0, 0, 0), (.istore_n 3, 1, 0, 0, 0, 0)] (pc2 := 17) (by decide +kernel) rfl trivial ?_
  exact wX6_areSendings_17 hm FU x1 t0 0 hf
def fX6_areSendings (x1 : Int32) (σ : ST) : Option Int32 :=
  gd (inb x1 (alen 64)) <|
  if (σ.1 64 x1.toNatClampNeg) ≤ 0 then
    fX6_areSendings_14 x1 0 σ
  else
    fX6_areSendings_14 x1 1 σ
set_option maxHeartbeats 4000000 in
theorem kmX6_areSendings (l : Launch) {x1 : Int32} {σ : ST} {r : Int32} (hf : fX6_areSendings x1 σ = some r) : KM l yX6_areSendings cX6_areSendings 4 (some .boolean) 1 25 [.ref 36, .int x1] σ (some (.int r)) σ := by
  refine KM.intro (ow := 6) (by decide +kernel) rfl (Nat.le_of_ble_eq_true rfl) (fun V hm => ?_)
  show V 0 [some (.ref 36), some (.int x1), none, none] [] σ
  have h := hm.bd
  unfold fX6_areSendings at hf
  obtain ⟨g1, hf⟩ := gd_some hf
  refine h.run (o := [kd 36 = 6, kd 64 = 10, inb x1 (alen 64) = true]) (ls' := [some (.ref 36), some (.int x1), none, none]) (st' := [.int (σ.1 64 x1.toNatClampNeg)]) (σ' := σ) [(.aload_n 0, 1, 0, 0, 0, 0), (.getfield 102, 3, 0, 0, 6, 44), (.iload_n 1, 1, 0, 0, 0, 0), (.iaload, 1, 0, 0, 0, 0)] (pc2 := 6) (by decide +kernel) rfl (And.intro kd_36 (And.intro kd_64 (And.intro g1 trivial))) ?_
  refine h.if_le (tgt := 13) (show decode cX6_areSendings 6 = .ok (.ifCond .le 7, 3) by decide +kernel) (by decide) (fun c2 => ?_) (fun c2 => ?_)
  · rw [if_pos c2] at hf
    refine h.run (o := []) (ls' := [some (.ref 36), some (.int x1), none, none]) (st' := [.int 0]) (σ' := σ) [(.iconst 0, 1, 0, 0, 0, 0)] (pc2 := 14) (by decide +kernel) rfl trivial ?_
    exact wX6_areSendings_14 hm hf
  · rw [if_neg c2] at hf
    show V 9 [some (.ref 36), some (.int x1), none, none] [] σ
    refine h.run (o := []) (ls' := [some (.ref 36), some (.int x1), none, none]) (st' := [.int 1]) (σ' := σ) [(.iconst 1, 1, 1, 0, 0, 0), (.goto 4, 3, 0, 0, 0, 14)] (pc2 := 14) (by decide +kernel) rfl trivial ?_
    exact wX6_areSendings_14 hm hf
def fX6_sumOf_4 (σ : ST) (n : Nat) (x1 : Int32) (x2 : Int32) (x3 : Int32) : Option Int32 := match n with
  | 0 => none
  | n + 1 =>
    gd (inb x1 (alen 64)) <|
    if (σ.1 64 x1.toNatClampNeg) ≤ x3 then
      some x2
    else
      gd (inb ((100 * x1) + x3) (alen 65)) <|
      fX6_sumOf_4 σ n x1 (x2 + ((σ.2 65 (((100 * x1) + x3).toNatClampNeg)).toInt32)) (x3 + 1)
set_option maxHeartbeats 4000000 in
theorem wX6_sumOf_4 {l : Launch} {V : Nat → List (Option Value) → List Value → ST → Prop} {r : Int32} {σ : ST} (hm : BM l 6 cX6_sumOf 4 (some .int) 0 0 (some (.int r)) σ V) : ∀ (n : Nat) (x1 : Int32) (x2 : Int32) (x3 : Int32), fX6_sumOf_4 σ n x1 x2 x3 = some r → V 4 [some (.ref 36), some (.int x1), some (.int x2), some (.int x3)] [] σ := by
  have h := hm.bd
  intro n
  induction n with
  | zero => intro x1 x2 x3 hf; cases hf
  | succ n ih =>
    intro x1 x2 x3 hf
    rw [fX6_sumOf_4] at hf
    obtain ⟨g1, hf⟩ := gd_some hf
    refine h.run (o := [kd 36 = 6, kd 64 = 10, inb x1 (alen 64) = true]) (ls' := [some (.ref 36), some (.int x1), some (.int x2), some (.int x3)]) (st' := [.int (σ.1 64 x1.toNatClampNeg), .int x3]) (σ' := σ) [(.iload_n 3, 1, 0, 0, 0, 0), (.aload_n 0, 1, 0, 0, 0, 0), (.getfield 102, 3, 0, 0, 6, 44), (.iload_n 1, 1, 0, 0, 0, 0), (.iaload, 1, 0, 0, 0, 0)] (pc2 := 11) (by decide +kernel) rfl (And.intro kd_36 (And.intro kd_64 (And.intro g1 trivial))) ?_
    refine h.icmp_ge (tgt := 35) (show decode cX6_sumOf 11 = .ok (.if_icmp .ge 24, 3) by decide +kernel) (by decide) (fun c3 => ?_) (fun c3 => ?_)
    · rw [if_pos c3] at hf
      refine h.run (o := []) (ls' := [some (.ref 36), some (.int x1), some (.int x2), some (.int x3)]) (st' := [.int x2]) (σ' := σ) [(.iload_n 2, 1, 0, 0, 0, 0)] (pc2 := 36) (by decide +kernel) rfl trivial ?_
      obtain rfl := Option.some.inj hf
      exact hm.iret (by decide +kernel)
    · rw [if_neg c3] at hf
      show V 14 [some (.ref 36), some (.int x1), some (.int x2), some (.int x3)] [] σ
      obtain ⟨g2, hf⟩ := gd_some hf
      refine h.run (o := [kd 36 = 6, kd 65 = 12, inb ((100 * x1) + x3) (alen 65) = true]) (ls' := [some (.ref 36), some (.int x1), some (.int (x2 + ((σ.2 65 (((100 * x1) + x3).toNatClampNeg)).toInt32))), some (.int (x3 + 1))]) (st' := []) (σ' := σ) [(.iload_n 2, 1, 0, 0, 0, 0), (.aload_n 0, 1, 0, 0, 0, 0), (.getfield 105, 3, 0, 0, 6, 45), (.bipush 100, 2, 100, 0, 0, 0), (.iload_n 1, 1, 0, 0, 0, 0), (.imul, 1, 0, 0, 0, 0), (.iload_n 3, 1, 0, 0, 0, 0), (.iadd, 1, 0, 0, 0, 0), (.laload, 1, 0, 0, 0, 0), (.l2i, 1, 0, 0, 0, 0), (.iadd, 1, 0, 0, 0, 0), (.istore_n 2, 1, 0, 0, 0, 0), (.iinc 3 1, 3, 1, 0, 0, 0), (.goto (-28), 3, 0, 0, 0, 4)] (pc2 := 4) (by decide +kernel) rfl (And.intro kd_36 (And.intro kd_65 (And.intro g2 trivial))) ?_
      exact ih x1 (x2 + ((σ.2 65 (((100 * x1) + x3).toNatClampNeg)).toInt32)) (x3 + 1) hf
def fX6_sumOf (x1 : Int32) (σ : ST) : Option Int32 :=
  fX6_sumOf_4 σ FU x1 0 0
set_option maxHeartbeats 4000000 in
theorem kmX6_sumOf (l : Launch) {x1 : Int32} {σ : ST} {r : Int32} (hf : fX6_sumOf x1 σ = some r) : KM l yX6_sumOf cX6_sumOf 4 (some .int) 0 0 [.ref 36, .int x1] σ (some (.int r)) σ := by
  refine KM.intro (ow := 6) (by decide +kernel) rfl (Nat.le_of_ble_eq_true rfl) (fun V hm => ?_)
  show V 0 [some (.ref 36), some (.int x1), none, none] [] σ
  have h := hm.bd
  unfold fX6_sumOf at hf
  refine h.run (o := []) (ls' := [some (.ref 36), some (.int x1), some (.int 0), some (.int 0)]) (st' := []) (σ' := σ) [(.iconst 0, 1, 0, 0, 0, 0), (.istore_n 2, 1, 0, 0, 0, 0), (.iconst 0, 1, 0, 0, 0, 0), (.istore_n 3, 1, 0, 0, 0, 0)] (pc2 := 4) (by decide +kernel) rfl trivial ?_
  exact wX6_sumOf_4 hm FU x1 0 0 hf
def fX6_lands_40 (σ : ST) : Option (Int32 × ST) :=
  bR (fX6_far (-13) σ) fun a1 =>
  some (a1, σ)
set_option maxHeartbeats 4000000 in
theorem wX6_lands_40 {l : Launch} {V : Nat → List (Option Value) → List Value → ST → Prop} {r : Int32} {τ : ST} {σ : ST} (hm : BM l 6 cX6_lands 3 (some .int) 2 48 (some (.int r)) τ V) (hf : fX6_lands_40 σ = some (r, τ)) : V 40 [none, none, none] [] σ := by
  have h := hm.bd
  unfold fX6_lands_40 at hf
  refine h.run (o := []) (ls' := [none, none, none]) (st' := [.int (-13)]) (σ' := σ) [(.bipush (-13), 2, (-13), 0, 0, 0)] (pc2 := 42) (by decide +kernel) rfl trivial ?_
  obtain ⟨a1, e1, hf⟩ := bR_some hf
  refine h.callS (as := [.int (-13)]) (rest := []) (by decide +kernel) lk6_238 cwX6_far (kmX6_far l e1) rfl (Nat.le_of_ble_eq_true rfl) (Nat.le_of_ble_eq_true rfl) (Nat.le_of_ble_eq_true rfl) ?_
  show V 45 [none, none, none] [.int a1] σ
  obtain ⟨rfl, rfl⟩ := Prod.mk.inj (Option.some.inj hf)
  exact hm.iret (by decide +kernel)
def fX6_lands (x1 : Int32) (x2 : Int32) (σ : ST) : Option (Int32 × ST) :=
  bR (fX6_wrongTwo x1 x2 (setI σ 36 23 0)) fun a1 =>
  if 0 ≤ a1 then
    bR (fX6_areSendings x1 (setI σ 36 23 0)) fun a2 =>
    if a2 = 0 then
      fX6_lands_40 (setI σ 36 23 0)
    else
      bR (fX6_areSendings x2 (setI σ 36 23 0)) fun a3 =>
      if a3 = 0 then
        fX6_lands_40 (setI σ 36 23 0)
      else
        bR (fX6_sumOf x1 (setI σ 36 23 0)) fun a4 =>
        gd (inb x2 (alen 64)) <|
        bR (fX6_sumOf x2 (setI σ 36 23 0)) fun a6 =>
        gd (inb x1 (alen 64)) <|
        some ((a4 * ((setI σ 36 23 0).1 64 x2.toNatClampNeg)) - (a6 * ((setI σ 36 23 0).1 64 x1.toNatClampNeg)), setI σ 36 23 0)
  else
    bR (fX6_wrongTwo x1 x2 (setI σ 36 23 0)) fun a10 =>
    bR (fX6_far a10 (setI σ 36 23 0)) fun a11 =>
    some (a11, setI σ 36 23 0)
set_option maxHeartbeats 4000000 in
theorem kmX6_lands (l : Launch) {x1 : Int32} {x2 : Int32} {σ : ST} {r : Int32} {τ : ST} (hf : fX6_lands x1 x2 σ = some (r, τ)) : KM l yX6_lands cX6_lands 3 (some .int) 2 48 [.ref 36, .int x1, .int x2] σ (some (.int r)) τ := by
  refine KM.intro (ow := 6) (by decide +kernel) rfl (Nat.le_of_ble_eq_true rfl) (fun V hm => ?_)
  show V 0 [some (.ref 36), some (.int x1), some (.int x2)] [] σ
  have h := hm.bd
  unfold fX6_lands at hf
  refine h.run (o := [kd 36 = 6]) (ls' := [some (.ref 36), some (.int x1), some (.int x2)]) (st' := [.int x2, .int x1, .ref 36]) (σ' := setI σ 36 23 0) [(.aload_n 0, 1, 0, 0, 0, 0), (.iconst 0, 1, 0, 0, 0, 0), (.putfield 112, 3, 0, 0, 6, 23), (.aload_n 0, 1, 0, 0, 0, 0), (.iload_n 1, 1, 0, 0, 0, 0), (.iload_n 2, 1, 0, 0, 0, 0)] (pc2 := 8) (by decide +kernel) rfl (And.intro kd_36 trivial) ?_
  obtain ⟨a1, e1, hf⟩ := bR_some hf
  refine h.callV (as := [.int x1, .int x2]) (rest := []) (by decide +kernel) lk6_249 cwX6_wrongTwo kd_36 (kmX6_wrongTwo l e1) rfl (Nat.le_of_ble_eq_true rfl) (Nat.le_of_ble_eq_true rfl) (Nat.le_of_ble_eq_true rfl) ?_
  show V 11 [some (.ref 36), some (.int x1), some (.int x2)] [.int a1] (setI σ 36 23 0)
  refine h.if_ge (tgt := 24) (show decode cX6_lands 11 = .ok (.ifCond .ge 13, 3) by decide +kernel) (by decide) (fun c12 => ?_) (fun c12 => ?_)
  · rw [if_pos c12] at hf
    refine h.run (o := []) (ls' := [some (.ref 36), some (.int x1), some (.int x2)]) (st' := [.int x1, .ref 36]) (σ' := setI σ 36 23 0) [(.aload_n 0, 1, 0, 0, 0, 0), (.iload_n 1, 1, 0, 0, 0, 0)] (pc2 := 26) (by decide +kernel) rfl trivial ?_
    obtain ⟨a2, e2, hf⟩ := bR_some hf
    refine h.callV (as := [.int x1]) (rest := []) (by decide +kernel) lk6_252 cwX6_areSendings kd_36 (kmX6_areSendings l e2) rfl (Nat.le_of_ble_eq_true rfl) (Nat.le_of_ble_eq_true rfl) (Nat.le_of_ble_eq_true rfl) ?_
    show V 29 [some (.ref 36), some (.int x1), some (.int x2)] [.int a2] (setI σ 36 23 0)
    refine h.if_eq (tgt := 40) (show decode cX6_lands 29 = .ok (.ifCond .eq 11, 3) by decide +kernel) (by decide) (fun c9 => ?_) (fun c9 => ?_)
    · rw [if_pos c9] at hf
      refine h.drop (ls' := [none, none, none]) trivial ?_
      exact wX6_lands_40 hm hf
    · rw [if_neg c9] at hf
      show V 32 [some (.ref 36), some (.int x1), some (.int x2)] [] (setI σ 36 23 0)
      refine h.run (o := []) (ls' := [some (.ref 36), some (.int x1), some (.int x2)]) (st' := [.int x2, .ref 36]) (σ' := setI σ 36 23 0) [(.aload_n 0, 1, 0, 0, 0, 0), (.iload_n 2, 1, 0, 0, 0, 0)] (pc2 := 34) (by decide +kernel) rfl trivial ?_
      obtain ⟨a3, e3, hf⟩ := bR_some hf
      refine h.callV (as := [.int x2]) (rest := []) (by decide +kernel) lk6_252 cwX6_areSendings kd_36 (kmX6_areSendings l e3) rfl (Nat.le_of_ble_eq_true rfl) (Nat.le_of_ble_eq_true rfl) (Nat.le_of_ble_eq_true rfl) ?_
      show V 37 [some (.ref 36), some (.int x1), some (.int x2)] [.int a3] (setI σ 36 23 0)
      refine h.if_ne (tgt := 46) (show decode cX6_lands 37 = .ok (.ifCond .ne 9, 3) by decide +kernel) (by decide) (fun c8 => ?_) (fun c8 => ?_)
      · rw [if_neg c8] at hf
        refine h.run (o := []) (ls' := [some (.ref 36), some (.int x1), some (.int x2)]) (st' := [.int x1, .ref 36]) (σ' := setI σ 36 23 0) [(.aload_n 0, 1, 0, 0, 0, 0), (.iload_n 1, 1, 0, 0, 0, 0)] (pc2 := 48) (by decide +kernel) rfl trivial ?_
        obtain ⟨a4, e4, hf⟩ := bR_some hf
        refine h.callV (as := [.int x1]) (rest := []) (by decide +kernel) lk6_255 cwX6_sumOf kd_36 (kmX6_sumOf l e4) rfl (Nat.le_of_ble_eq_true rfl) (Nat.le_of_ble_eq_true rfl) (Nat.le_of_ble_eq_true rfl) ?_
        show V 51 [some (.ref 36), some (.int x1), some (.int x2)] [.int a4] (setI σ 36 23 0)
        obtain ⟨g5, hf⟩ := gd_some hf
        refine h.run (o := [kd 36 = 6, kd 64 = 10, inb x2 (alen 64) = true]) (ls' := [some (.ref 36), some (.int x1), some (.int x2)]) (st' := [.int x2, .ref 36, .int (a4 * ((setI σ 36 23 0).1 64 x2.toNatClampNeg))]) (σ' := setI σ 36 23 0) [(.aload_n 0, 1, 0, 0, 0, 0), (.getfield 102, 3, 0, 0, 6, 44), (.iload_n 2, 1, 0, 0, 0, 0), (.iaload, 1, 0, 0, 0, 0), (.imul, 1, 0, 0, 0, 0), (.aload_n 0, 1, 0, 0, 0, 0), (.iload_n 2, 1, 0, 0, 0, 0)] (pc2 := 60) (by decide +kernel) rfl (And.intro kd_36 (And.intro kd_64 (And.intro g5 trivial))) ?_
        obtain ⟨a6, e6, hf⟩ := bR_some hf
        refine h.callV (as := [.int x2]) (rest := [.int (a4 * ((setI σ 36 23 0).1 64 x2.toNatClampNeg))]) (by decide +kernel) lk6_255 cwX6_sumOf kd_36 (kmX6_sumOf l e6) rfl (Nat.le_of_ble_eq_true rfl) (Nat.le_of_ble_eq_true rfl) (Nat.le_of_ble_eq_true rfl) ?_
        show V 63 [some (.ref 36), some (.int x1), some (.int x2)] [.int a6, .int (a4 * ((setI σ 36 23 0).1 64 x2.toNatClampNeg))] (setI σ 36 23 0)
        obtain ⟨g7, hf⟩ := gd_some hf
        refine h.run (o := [kd 36 = 6, kd 64 = 10, inb x1 (alen 64) = true]) (ls' := [some (.ref 36), some (.int x1), some (.int x2)]) (st' := [.int ((a4 * ((setI σ 36 23 0).1 64 x2.toNatClampNeg)) - (a6 * ((setI σ 36 23 0).1 64 x1.toNatClampNeg)))]) (σ' := setI σ 36 23 0) [(.aload_n 0, 1, 0, 0, 0, 0), (.getfield 102, 3, 0, 0, 6, 44), (.iload_n 1, 1, 0, 0, 0, 0), (.iaload, 1, 0, 0, 0, 0), (.imul, 1, 0, 0, 0, 0), (.isub, 1, 0, 0, 0, 0)] (pc2 := 71) (by decide +kernel) rfl (And.intro kd_36 (And.intro kd_64 (And.intro g7 trivial))) ?_
        obtain ⟨rfl, rfl⟩ := Prod.mk.inj (Option.some.inj hf)
        exact hm.iret (by decide +kernel)
      · rw [if_pos c8] at hf
        show V 40 [some (.ref 36), some (.int x1), some (.int x2)] [] (setI σ 36 23 0)
        refine h.drop (ls' := [none, none, none]) trivial ?_
        exact wX6_lands_40 hm hf
  · rw [if_neg c12] at hf
    show V 14 [some (.ref 36), some (.int x1), some (.int x2)] [] (setI σ 36 23 0)
    refine h.run (o := []) (ls' := [some (.ref 36), some (.int x1), some (.int x2)]) (st' := [.int x2, .int x1, .ref 36]) (σ' := setI σ 36 23 0) [(.aload_n 0, 1, 0, 0, 0, 0), (.iload_n 1, 1, 0, 0, 0, 0), (.iload_n 2, 1, 0, 0, 0, 0)] (pc2 := 17) (by decide +kernel) rfl trivial ?_
    obtain ⟨a10, e10, hf⟩ := bR_some hf
    refine h.callV (as := [.int x1, .int x2]) (rest := []) (by decide +kernel) lk6_249 cwX6_wrongTwo kd_36 (kmX6_wrongTwo l e10) rfl (Nat.le_of_ble_eq_true rfl) (Nat.le_of_ble_eq_true rfl) (Nat.le_of_ble_eq_true rfl) ?_
    show V 20 [some (.ref 36), some (.int x1), some (.int x2)] [.int a10] (setI σ 36 23 0)
    obtain ⟨a11, e11, hf⟩ := bR_some hf
    refine h.callS (as := [.int a10]) (rest := []) (by decide +kernel) lk6_238 cwX6_far (kmX6_far l e11) rfl (Nat.le_of_ble_eq_true rfl) (Nat.le_of_ble_eq_true rfl) (Nat.le_of_ble_eq_true rfl) ?_
    show V 23 [some (.ref 36), some (.int x1), some (.int x2)] [.int a11] (setI σ 36 23 0)
    obtain ⟨rfl, rfl⟩ := Prod.mk.inj (Option.some.inj hf)
    exact hm.iret (by decide +kernel)
def fX6_signOf_51 (t0 : Int32) (σ : ST) : Option Int32 :=
  some t0
set_option maxHeartbeats 4000000 in
theorem wX6_signOf_51 {l : Launch} {V : Nat → List (Option Value) → List Value → ST → Prop} {r : Int32} {σ : ST} {t0 : Int32} (hm : BM l 6 cX6_signOf 8 (some .int) 0 0 (some (.int r)) σ V) (hf : fX6_signOf_51 t0 σ = some r) : V 51 [none, none, none, none, none, none, none, none] [.int t0] σ := by
  have h := hm.bd
  unfold fX6_signOf_51 at hf
  obtain rfl := Option.some.inj hf
  exact hm.iret (by decide +kernel)
def fX6_signOf (x1 : Int32) (x2 : Int32) (x3 : Int32) (σ : ST) : Option Int32 :=
  gd (inb ((100 * x1) + x2) (alen 65)) <|
  gd (inb ((100 * x1) + x3) (alen 65)) <|
  if (lg_cmp (σ.2 65 (((100 * x1) + x2).toNatClampNeg)) (σ.2 65 (((100 * x1) + x3).toNatClampNeg))) ≤ 0 then
    if 0 ≤ (lg_cmp (σ.2 65 (((100 * x1) + x2).toNatClampNeg)) (σ.2 65 (((100 * x1) + x3).toNatClampNeg))) then
      fX6_signOf_51 0 σ
    else
      fX6_signOf_51 (-1) σ
  else
    fX6_signOf_51 1 σ
set_option maxHeartbeats 4000000 in
theorem kmX6_signOf (l : Launch) {x1 : Int32} {x2 : Int32} {x3 : Int32} {σ : ST} {r : Int32} (hf : fX6_signOf x1 x2 x3 σ = some r) : KM l yX6_signOf cX6_signOf 8 (some .int) 0 0 [.ref 36, .int x1, .int x2, .int x3] σ (some (.int r)) σ := by
  refine KM.intro (ow := 6) (by decide +kernel) rfl (Nat.le_of_ble_eq_true rfl) (fun V hm => ?_)
  show V 0 [some (.ref 36), some (.int x1), some (.int x2), some (.int x3), none, none, none, none] [] σ
  have h := hm.bd
  unfold fX6_signOf at hf
  obtain ⟨g1, hf⟩ := gd_some hf
  obtain ⟨g2, hf⟩ := gd_some hf
  refine h.run (o := [kd 36 = 6, kd 65 = 12, inb ((100 * x1) + x2) (alen 65) = true, kd 36 = 6, kd 65 = 12, inb ((100 * x1) + x3) (alen 65) = true]) (ls' := [some (.ref 36), some (.int x1), some (.int x2), some (.int x3), some (.long (σ.2 65 (((100 * x1) + x2).toNatClampNeg))), none, some (.long (σ.2 65 (((100 * x1) + x3).toNatClampNeg))), none]) (st' := [.int (lg_cmp (σ.2 65 (((100 * x1) + x2).toNatClampNeg)) (σ.2 65 (((100 * x1) + x3).toNatClampNeg)))]) (σ' := σ) [(.aload_n 0, 1, 0, 0, 0, 0), (.getfield 105, 3, 0, 0, 6, 45), (.bipush 100, 2, 100, 0, 0, 0), (.iload_n 1, 1, 0, 0, 0, 0), (.imul, 1, 0, 0, 0, 0), (.iload_n 2, 1, 0, 0, 0, 0), (.iadd, 1, 0, 0, 0, 0), (.laload, 1, 0, 0, 0, 0), (.lstore 4, 2, 0, 0, 0, 0), (.aload_n 0, 1, 0, 0, 0, 0), (.getfield 105, 3, 0, 0, 6, 45), (.bipush 100, 2, 100, 0, 0, 0), (.iload_n 1, 1, 0, 0, 0, 0), (.imul, 1, 0, 0, 0, 0), (.iload_n 3, 1, 0, 0, 0, 0), (.iadd, 1, 0, 0, 0, 0), (.laload, 1, 0, 0, 0, 0), (.lstore 6, 2, 0, 0, 0, 0), (.lload 4, 2, 0, 0, 0, 0), (.lload 6, 2, 0, 0, 0, 0), (.lcmp, 1, 0, 0, 0, 0)] (pc2 := 31) (by decide +kernel) rfl (And.intro kd_36 (And.intro kd_65 (And.intro g1 (And.intro kd_36 (And.intro kd_65 (And.intro g2 trivial)))))) ?_
  refine h.if_le (tgt := 38) (show decode cX6_signOf 31 = .ok (.ifCond .le 7, 3) by decide +kernel) (by decide) (fun c4 => ?_) (fun c4 => ?_)
  · rw [if_pos c4] at hf
    refine h.run (o := []) (ls' := [some (.ref 36), some (.int x1), some (.int x2), some (.int x3), some (.long (σ.2 65 (((100 * x1) + x2).toNatClampNeg))), none, some (.long (σ.2 65 (((100 * x1) + x3).toNatClampNeg))), none]) (st' := [.int (lg_cmp (σ.2 65 (((100 * x1) + x2).toNatClampNeg)) (σ.2 65 (((100 * x1) + x3).toNatClampNeg)))]) (σ' := σ) [(.lload 4, 2, 0, 0, 0, 0), (.lload 6, 2, 0, 0, 0, 0), (.lcmp, 1, 0, 0, 0, 0)] (pc2 := 43) (by decide +kernel) rfl trivial ?_
    refine h.if_ge (tgt := 50) (show decode cX6_signOf 43 = .ok (.ifCond .ge 7, 3) by decide +kernel) (by decide) (fun c3 => ?_) (fun c3 => ?_)
    · rw [if_pos c3] at hf
      refine h.run (o := []) (ls' := [some (.ref 36), some (.int x1), some (.int x2), some (.int x3), some (.long (σ.2 65 (((100 * x1) + x2).toNatClampNeg))), none, some (.long (σ.2 65 (((100 * x1) + x3).toNatClampNeg))), none]) (st' := [.int 0]) (σ' := σ) [(.iconst 0, 1, 0, 0, 0, 0)] (pc2 := 51) (by decide +kernel) rfl trivial ?_
      refine h.drop (ls' := [none, none, none, none, none, none, none, none]) trivial ?_
      exact wX6_signOf_51 hm hf
    · rw [if_neg c3] at hf
      show V 46 [some (.ref 36), some (.int x1), some (.int x2), some (.int x3), some (.long (σ.2 65 (((100 * x1) + x2).toNatClampNeg))), none, some (.long (σ.2 65 (((100 * x1) + x3).toNatClampNeg))), none] [] σ
      refine h.run (o := []) (ls' := [some (.ref 36), some (.int x1), some (.int x2), some (.int x3), some (.long (σ.2 65 (((100 * x1) + x2).toNatClampNeg))), none, some (.long (σ.2 65 (((100 * x1) + x3).toNatClampNeg))), none]) (st' := [.int (-1)]) (σ' := σ) [(.iconst (-1), 1, (-1), 0, 0, 0), (.goto 4, 3, 0, 0, 0, 51)] (pc2 := 51) (by decide +kernel) rfl trivial ?_
      refine h.drop (ls' := [none, none, none, none, none, none, none, none]) trivial ?_
      exact wX6_signOf_51 hm hf
  · rw [if_neg c4] at hf
    show V 34 [some (.ref 36), some (.int x1), some (.int x2), some (.int x3), some (.long (σ.2 65 (((100 * x1) + x2).toNatClampNeg))), none, some (.long (σ.2 65 (((100 * x1) + x3).toNatClampNeg))), none] [] σ
    refine h.run (o := []) (ls' := [some (.ref 36), some (.int x1), some (.int x2), some (.int x3), some (.long (σ.2 65 (((100 * x1) + x2).toNatClampNeg))), none, some (.long (σ.2 65 (((100 * x1) + x3).toNatClampNeg))), none]) (st' := [.int 1]) (σ' := σ) [(.iconst 1, 1, 1, 0, 0, 0), (.goto 16, 3, 0, 0, 0, 51)] (pc2 := 51) (by decide +kernel) rfl trivial ?_
    refine h.drop (ls' := [none, none, none, none, none, none, none, none]) trivial ?_
    exact wX6_signOf_51 hm hf
def fX6_words_64 (kt_50 : Int32 → Int32 → Int32 → Int32 → ST → Option (Int32 × ST)) (n : Nat) (x1 : Int32) (x2 : Int32) (x3 : Int32) (x4 : Int32) (x5 : Int32) (σ : ST) : Option (Int32 × ST) := match n with
  | 0 => none
  | n + 1 =>
    if x4 ≤ x5 then
      kt_50 x1 x2 x3 (x4 + 1) σ
    else
      bR (fX6_signOf x1 x5 x4 σ) fun a1 =>
      bR (fX6_signOf x2 x5 x4 σ) fun a2 =>
      fX6_words_64 kt_50 n x1 x2 (x3 + (a1 * a2)) x4 (x5 + 1) σ
set_option maxHeartbeats 4000000 in
theorem wX6_words_64 {l : Launch} {V : Nat → List (Option Value) → List Value → ST → Prop} {r : Int32} {τ : ST} {kt_50 : Int32 → Int32 → Int32 → Int32 → ST → Option (Int32 × ST)} (hm : BM l 6 cX6_words 6 (some .int) 2 47 (some (.int r)) τ V) (hkt_50 : ∀ (x1 : Int32) (x2 : Int32) (x3 : Int32) (x4 : Int32) (σ : ST), kt_50 x1 x2 x3 x4 σ = some (r, τ) → V 50 [some (.ref 36), some (.int x1), some (.int x2), some (.int x3), some (.int x4), none] [] σ) : ∀ (n : Nat) (x1 : Int32) (x2 : Int32) (x3 : Int32) (x4 : Int32) (x5 : Int32) (σ : ST), fX6_words_64 kt_50 n x1 x2 x3 x4 x5 σ = some (r, τ) → V 64 [some (.ref 36), some (.int x1), some (.int x2), some (.int x3), some (.int x4), some (.int x5)] [] σ := by
  have h := hm.bd
  intro n
  induction n with
  | zero => intro x1 x2 x3 x4 x5 σ hf; cases hf
  | succ n ih =>
    intro x1 x2 x3 x4 x5 σ hf
    rw [fX6_words_64] at hf
    refine h.run (o := []) (ls' := [some (.ref 36), some (.int x1), some (.int x2), some (.int x3), some (.int x4), some (.int x5)]) (st' := [.int x4, .int x5]) (σ' := σ) [(.iload 5, 2, 0, 0, 0, 0), (.iload 4, 2, 0, 0, 0, 0)] (pc2 := 68) (by decide +kernel) rfl trivial ?_
    refine h.icmp_ge (tgt := 99) (show decode cX6_words 68 = .ok (.if_icmp .ge 31, 3) by decide +kernel) (by decide) (fun c3 => ?_) (fun c3 => ?_)
    · rw [if_pos c3] at hf
      refine h.run (o := []) (ls' := [some (.ref 36), some (.int x1), some (.int x2), some (.int x3), some (.int (x4 + 1)), some (.int x5)]) (st' := []) (σ' := σ) [(.iinc 4 1, 3, 1, 0, 0, 0), (.goto (-52), 3, 0, 0, 0, 50)] (pc2 := 50) (by decide +kernel) rfl trivial ?_
      refine h.drop (ls' := [some (.ref 36), some (.int x1), some (.int x2), some (.int x3), some (.int (x4 + 1)), none]) (And.intro rfl (And.intro rfl (And.intro rfl (And.intro rfl (And.intro rfl trivial))))) ?_
      exact hkt_50 x1 x2 x3 (x4 + 1) _ hf
    · rw [if_neg c3] at hf
      show V 71 [some (.ref 36), some (.int x1), some (.int x2), some (.int x3), some (.int x4), some (.int x5)] [] σ
      refine h.run (o := []) (ls' := [some (.ref 36), some (.int x1), some (.int x2), some (.int x3), some (.int x4), some (.int x5)]) (st' := [.int x4, .int x5, .int x1, .ref 36, .int x3]) (σ' := σ) [(.iload_n 3, 1, 0, 0, 0, 0), (.aload_n 0, 1, 0, 0, 0, 0), (.iload_n 1, 1, 0, 0, 0, 0), (.iload 5, 2, 0, 0, 0, 0), (.iload 4, 2, 0, 0, 0, 0)] (pc2 := 78) (by decide +kernel) rfl trivial ?_
      obtain ⟨a1, e1, hf⟩ := bR_some hf
      refine h.callV (as := [.int x1, .int x5, .int x4]) (rest := [.int x3]) (by decide +kernel) lk6_258 cwX6_signOf kd_36 (kmX6_signOf l e1) rfl (Nat.le_of_ble_eq_true rfl) (Nat.le_of_ble_eq_true rfl) (Nat.le_of_ble_eq_true rfl) ?_
      show V 81 [some (.ref 36), some (.int x1), some (.int x2), some (.int x3), some (.int x4), some (.int x5)] [.int a1, .int x3] σ
      refine h.run (o := []) (ls' := [some (.ref 36), some (.int x1), some (.int x2), some (.int x3), some (.int x4), some (.int x5)]) (st' := [.int x4, .int x5, .int x2, .ref 36, .int a1, .int x3]) (σ' := σ) [(.aload_n 0, 1, 0, 0, 0, 0), (.iload_n 2, 1, 0, 0, 0, 0), (.iload 5, 2, 0, 0, 0, 0), (.iload 4, 2, 0, 0, 0, 0)] (pc2 := 87) (by decide +kernel) rfl trivial ?_
      obtain ⟨a2, e2, hf⟩ := bR_some hf
      refine h.callV (as := [.int x2, .int x5, .int x4]) (rest := [.int a1, .int x3]) (by decide +kernel) lk6_258 cwX6_signOf kd_36 (kmX6_signOf l e2) rfl (Nat.le_of_ble_eq_true rfl) (Nat.le_of_ble_eq_true rfl) (Nat.le_of_ble_eq_true rfl) ?_
      show V 90 [some (.ref 36), some (.int x1), some (.int x2), some (.int x3), some (.int x4), some (.int x5)] [.int a2, .int a1, .int x3] σ
      refine h.run (o := []) (ls' := [some (.ref 36), some (.int x1), some (.int x2), some (.int (x3 + (a1 * a2))), some (.int x4), some (.int (x5 + 1))]) (st' := []) (σ' := σ) [(.imul, 1, 0, 0, 0, 0), (.iadd, 1, 0, 0, 0, 0), (.istore_n 3, 1, 0, 0, 0, 0), (.iinc 5 1, 3, 1, 0, 0, 0), (.goto (-32), 3, 0, 0, 0, 64)] (pc2 := 64) (by decide +kernel) rfl trivial ?_
      exact ih x1 x2 (x3 + (a1 * a2)) x4 (x5 + 1) _ hf
def fX6_words_50 (n : Nat) (x1 : Int32) (x2 : Int32) (x3 : Int32) (x4 : Int32) (σ : ST) : Option (Int32 × ST) := match n with
  | 0 => none
  | n + 1 =>
    gd (inb x1 (alen 64)) <|
    if (σ.1 64 x1.toNatClampNeg) ≤ x4 then
      some (x3, σ)
    else
      fX6_words_64 (fX6_words_50 n) FU x1 x2 x3 x4 0 σ
set_option maxHeartbeats 4000000 in
theorem wX6_words_50 {l : Launch} {V : Nat → List (Option Value) → List Value → ST → Prop} {r : Int32} {τ : ST} (hm : BM l 6 cX6_words 6 (some .int) 2 47 (some (.int r)) τ V) : ∀ (n : Nat) (x1 : Int32) (x2 : Int32) (x3 : Int32) (x4 : Int32) (σ : ST), fX6_words_50 n x1 x2 x3 x4 σ = some (r, τ) → V 50 [some (.ref 36), some (.int x1), some (.int x2), some (.int x3), some (.int x4), none] [] σ := by
  have h := hm.bd
  intro n
  induction n with
  | zero => intro x1 x2 x3 x4 σ hf; cases hf
  | succ n ih =>
    intro x1 x2 x3 x4 σ hf
    rw [fX6_words_50] at hf
    obtain ⟨g1, hf⟩ := gd_some hf
    refine h.run (o := [kd 36 = 6, kd 64 = 10, inb x1 (alen 64) = true]) (ls' := [some (.ref 36), some (.int x1), some (.int x2), some (.int x3), some (.int x4), none]) (st' := [.int (σ.1 64 x1.toNatClampNeg), .int x4]) (σ' := σ) [(.iload 4, 2, 0, 0, 0, 0), (.aload_n 0, 1, 0, 0, 0, 0), (.getfield 102, 3, 0, 0, 6, 44), (.iload_n 1, 1, 0, 0, 0, 0), (.iaload, 1, 0, 0, 0, 0)] (pc2 := 58) (by decide +kernel) rfl (And.intro kd_36 (And.intro kd_64 (And.intro g1 trivial))) ?_
    refine h.icmp_ge (tgt := 105) (show decode cX6_words 58 = .ok (.if_icmp .ge 47, 3) by decide +kernel) (by decide) (fun c2 => ?_) (fun c2 => ?_)
    · rw [if_pos c2] at hf
      refine h.run (o := []) (ls' := [some (.ref 36), some (.int x1), some (.int x2), some (.int x3), some (.int x4), none]) (st' := [.int x3]) (σ' := σ) [(.iload_n 3, 1, 0, 0, 0, 0)] (pc2 := 106) (by decide +kernel) rfl trivial ?_
      obtain ⟨rfl, rfl⟩ := Prod.mk.inj (Option.some.inj hf)
      exact hm.iret (by decide +kernel)
    · rw [if_neg c2] at hf
      show V 61 [some (.ref 36), some (.int x1), some (.int x2), some (.int x3), some (.int x4), none] [] σ
      refine h.run (o := []) (ls' := [some (.ref 36), some (.int x1), some (.int x2), some (.int x3), some (.int x4), some (.int 0)]) (st' := []) (σ' := σ) [(.iconst 0, 1, 0, 0, 0, 0), (.istore 5, 2, 0, 0, 0, 0)] (pc2 := 64) (by decide +kernel) rfl trivial ?_
      exact wX6_words_64 hm ih FU x1 x2 x3 x4 0 _ hf
def fX6_words (x1 : Int32) (x2 : Int32) (σ : ST) : Option (Int32 × ST) :=
  bR (fX6_wrongTwo x1 x2 (setI σ 36 23 0)) fun a1 =>
  if 0 ≤ a1 then
    gd (inb x1 (alen 64)) <|
    gd (inb x2 (alen 64)) <|
    if ((setI σ 36 23 0).1 64 x1.toNatClampNeg) = ((setI σ 36 23 0).1 64 x2.toNatClampNeg) then
      fX6_words_50 FU x1 x2 0 0 (setI σ 36 23 0)
    else
      bR (fX6_far (-13) (setI σ 36 23 0)) fun a4 =>
      some (a4, setI σ 36 23 0)
  else
    bR (fX6_wrongTwo x1 x2 (setI σ 36 23 0)) fun a6 =>
    bR (fX6_far a6 (setI σ 36 23 0)) fun a7 =>
    some (a7, setI σ 36 23 0)
set_option maxHeartbeats 4000000 in
theorem kmX6_words (l : Launch) {x1 : Int32} {x2 : Int32} {σ : ST} {r : Int32} {τ : ST} (hf : fX6_words x1 x2 σ = some (r, τ)) : KM l yX6_words cX6_words 6 (some .int) 2 47 [.ref 36, .int x1, .int x2] σ (some (.int r)) τ := by
  refine KM.intro (ow := 6) (by decide +kernel) rfl (Nat.le_of_ble_eq_true rfl) (fun V hm => ?_)
  show V 0 [some (.ref 36), some (.int x1), some (.int x2), none, none, none] [] σ
  have h := hm.bd
  unfold fX6_words at hf
  refine h.run (o := [kd 36 = 6]) (ls' := [some (.ref 36), some (.int x1), some (.int x2), none, none, none]) (st' := [.int x2, .int x1, .ref 36]) (σ' := setI σ 36 23 0) [(.aload_n 0, 1, 0, 0, 0, 0), (.iconst 0, 1, 0, 0, 0, 0), (.putfield 112, 3, 0, 0, 6, 23), (.aload_n 0, 1, 0, 0, 0, 0), (.iload_n 1, 1, 0, 0, 0, 0), (.iload_n 2, 1, 0, 0, 0, 0)] (pc2 := 8) (by decide +kernel) rfl (And.intro kd_36 trivial) ?_
  obtain ⟨a1, e1, hf⟩ := bR_some hf
  refine h.callV (as := [.int x1, .int x2]) (rest := []) (by decide +kernel) lk6_249 cwX6_wrongTwo kd_36 (kmX6_wrongTwo l e1) rfl (Nat.le_of_ble_eq_true rfl) (Nat.le_of_ble_eq_true rfl) (Nat.le_of_ble_eq_true rfl) ?_
  show V 11 [some (.ref 36), some (.int x1), some (.int x2), none, none, none] [.int a1] (setI σ 36 23 0)
  refine h.if_ge (tgt := 24) (show decode cX6_words 11 = .ok (.ifCond .ge 13, 3) by decide +kernel) (by decide) (fun c8 => ?_) (fun c8 => ?_)
  · rw [if_pos c8] at hf
    obtain ⟨g2, hf⟩ := gd_some hf
    obtain ⟨g3, hf⟩ := gd_some hf
    refine h.run (o := [kd 36 = 6, kd 64 = 10, inb x1 (alen 64) = true, kd 36 = 6, kd 64 = 10, inb x2 (alen 64) = true]) (ls' := [some (.ref 36), some (.int x1), some (.int x2), none, none, none]) (st' := [.int ((setI σ 36 23 0).1 64 x2.toNatClampNeg), .int ((setI σ 36 23 0).1 64 x1.toNatClampNeg)]) (σ' := setI σ 36 23 0) [(.aload_n 0, 1, 0, 0, 0, 0), (.getfield 102, 3, 0, 0, 6, 44), (.iload_n 1, 1, 0, 0, 0, 0), (.iaload, 1, 0, 0, 0, 0), (.aload_n 0, 1, 0, 0, 0, 0), (.getfield 102, 3, 0, 0, 6, 44), (.iload_n 2, 1, 0, 0, 0, 0), (.iaload, 1, 0, 0, 0, 0)] (pc2 := 36) (by decide +kernel) rfl (And.intro kd_36 (And.intro kd_64 (And.intro g2 (And.intro kd_36 (And.intro kd_64 (And.intro g3 trivial)))))) ?_
    refine h.icmp_eq (tgt := 45) (show decode cX6_words 36 = .ok (.if_icmp .eq 9, 3) by decide +kernel) (by decide) (fun c5 => ?_) (fun c5 => ?_)
    · rw [if_pos c5] at hf
      refine h.run (o := []) (ls' := [some (.ref 36), some (.int x1), some (.int x2), some (.int 0), some (.int 0), none]) (st' := []) (σ' := setI σ 36 23 0) [(.iconst 0, 1, 0, 0, 0, 0), (.istore_n 3, 1, 0, 0, 0, 0), (.iconst 0, 1, 0, 0, 0, 0), (.istore 4, 2, 0, 0, 0, 0)] (pc2 := 50) (by decide +kernel) rfl trivial ?_
      exact wX6_words_50 hm FU x1 x2 0 0 _ hf
    · rw [if_neg c5] at hf
      show V 39 [some (.ref 36), some (.int x1), some (.int x2), none, none, none] [] (setI σ 36 23 0)
      refine h.run (o := []) (ls' := [some (.ref 36), some (.int x1), some (.int x2), none, none, none]) (st' := [.int (-13)]) (σ' := setI σ 36 23 0) [(.bipush (-13), 2, (-13), 0, 0, 0)] (pc2 := 41) (by decide +kernel) rfl trivial ?_
      obtain ⟨a4, e4, hf⟩ := bR_some hf
      refine h.callS (as := [.int (-13)]) (rest := []) (by decide +kernel) lk6_238 cwX6_far (kmX6_far l e4) rfl (Nat.le_of_ble_eq_true rfl) (Nat.le_of_ble_eq_true rfl) (Nat.le_of_ble_eq_true rfl) ?_
      show V 44 [some (.ref 36), some (.int x1), some (.int x2), none, none, none] [.int a4] (setI σ 36 23 0)
      obtain ⟨rfl, rfl⟩ := Prod.mk.inj (Option.some.inj hf)
      exact hm.iret (by decide +kernel)
  · rw [if_neg c8] at hf
    show V 14 [some (.ref 36), some (.int x1), some (.int x2), none, none, none] [] (setI σ 36 23 0)
    refine h.run (o := []) (ls' := [some (.ref 36), some (.int x1), some (.int x2), none, none, none]) (st' := [.int x2, .int x1, .ref 36]) (σ' := setI σ 36 23 0) [(.aload_n 0, 1, 0, 0, 0, 0), (.iload_n 1, 1, 0, 0, 0, 0), (.iload_n 2, 1, 0, 0, 0, 0)] (pc2 := 17) (by decide +kernel) rfl trivial ?_
    obtain ⟨a6, e6, hf⟩ := bR_some hf
    refine h.callV (as := [.int x1, .int x2]) (rest := []) (by decide +kernel) lk6_249 cwX6_wrongTwo kd_36 (kmX6_wrongTwo l e6) rfl (Nat.le_of_ble_eq_true rfl) (Nat.le_of_ble_eq_true rfl) (Nat.le_of_ble_eq_true rfl) ?_
    show V 20 [some (.ref 36), some (.int x1), some (.int x2), none, none, none] [.int a6] (setI σ 36 23 0)
    obtain ⟨a7, e7, hf⟩ := bR_some hf
    refine h.callS (as := [.int a6]) (rest := []) (by decide +kernel) lk6_238 cwX6_far (kmX6_far l e7) rfl (Nat.le_of_ble_eq_true rfl) (Nat.le_of_ble_eq_true rfl) (Nat.le_of_ble_eq_true rfl) ?_
    show V 23 [some (.ref 36), some (.int x1), some (.int x2), none, none, none] [.int a7] (setI σ 36 23 0)
    obtain ⟨rfl, rfl⟩ := Prod.mk.inj (Option.some.inj hf)
    exact hm.iret (by decide +kernel)
