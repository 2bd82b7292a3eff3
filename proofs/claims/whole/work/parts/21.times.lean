/-! Printed by wip/whole/prt.py: functions and walks. -/
def fX5_returner_23 (σ : ST) : Option (Int32 × ST) :=
  some ((-1), σ)
set_option maxHeartbeats 4000000 in
theorem wX5_returner_23 {l : Launch} {V : Nat → List (Option Value) → List Value → ST → Prop} {r : Int32} {τ : ST} {σ : ST} (hm : BM l 5 cX5_returner 4 (some .int) 4 92 (some (.int r)) τ V) (hf : fX5_returner_23 σ = some (r, τ)) : V 23 [none, none, none, none] [] σ := by
  have h := hm.bd
  unfold fX5_returner_23 at hf
  refine h.run (o := []) (ls' := [none, none, none, none]) (st' := [.int (-1)]) (σ' := σ) [(.iconst (-1), 1, (-1), 0, 0, 0)] (pc2 := 24) (by decide +kernel) rfl trivial ?_
  obtain ⟨rfl, rfl⟩ := Prod.mk.inj (Option.some.inj hf)
  exact hm.iret (by decide +kernel)
def fX5_returner_67 (t0 : Int32) (σ : ST) : Option (Int32 × ST) :=
  some (t0, σ)
set_option maxHeartbeats 4000000 in
theorem wX5_returner_67 {l : Launch} {V : Nat → List (Option Value) → List Value → ST → Prop} {r : Int32} {τ : ST} {σ : ST} {t0 : Int32} (hm : BM l 5 cX5_returner 4 (some .int) 4 92 (some (.int r)) τ V) (hf : fX5_returner_67 t0 σ = some (r, τ)) : V 67 [none, none, none, none] [.int t0] σ := by
  have h := hm.bd
  unfold fX5_returner_67 at hf
  obtain ⟨rfl, rfl⟩ := Prod.mk.inj (Option.some.inj hf)
  exact hm.iret (by decide +kernel)
def fX5_returner (x1 : Int32) (x2 : Int32) (σ : ST) : Option (Int32 × ST) :=
  bR (fX4_has 8 x1 σ) fun a1 =>
  if a1 = 0 then
    fX5_returner_23 σ
  else
    if x2 < 0 then
      fX5_returner_23 σ
    else
      if x2 ≤ 5 then
        if 5 ≤ x2 then
          bR (fX5_bringPastOf x1 σ) fun σ2 =>
          bR (fX1_nameOfReturner σ2) fun a3 =>
          if a3 = (-1) then
            fX5_returner_67 (-4) σ2
          else
            fX5_returner_67 a3 σ2
        else
          bR (fX4_read 8 x1 x2 σ) fun a5 =>
          some (a5, σ)
      else
        fX5_returner_23 σ
set_option maxHeartbeats 4000000 in
theorem kmX5_returner (l : Launch) {x1 : Int32} {x2 : Int32} {σ : ST} {r : Int32} {τ : ST} (hf : fX5_returner x1 x2 σ = some (r, τ)) : KM l yX5_returner cX5_returner 4 (some .int) 4 92 [.ref 0, .int x1, .int x2] σ (some (.int r)) τ := by
  refine KM.intro (ow := 5) (by decide +kernel) rfl (Nat.le_of_ble_eq_true rfl) (fun V hm => ?_)
  show V 0 [some (.ref 0), some (.int x1), some (.int x2), none] [] σ
  have h := hm.bd
  unfold fX5_returner at hf
  refine h.run (o := [kd 0 = 5, kd 1 = 0]) (ls' := [some (.ref 0), some (.int x1), some (.int x2), none]) (st' := [.int x1, .ref 8]) (σ' := σ) [(.aload_n 0, 1, 0, 0, 0, 0), (.getfield 10, 3, 0, 0, 5, 0), (.getfield 91, 3, 0, 0, 0, 4), (.iload_n 1, 1, 0, 0, 0, 0)] (pc2 := 8) (by decide +kernel) rfl (And.intro kd_0 (And.intro kd_1 trivial)) ?_
  obtain ⟨a1, e1, hf⟩ := bR_some hf
  refine h.callV (as := [.int x1]) (rest := []) (by decide +kernel) lk5_83 cwX4_has kd_8 (kmX4_has l kd_8 e1) rfl (Nat.le_of_ble_eq_true rfl) (Nat.le_of_ble_eq_true rfl) (Nat.le_of_ble_eq_true rfl) ?_
  show V 11 [some (.ref 0), some (.int x1), some (.int x2), none] [.int a1] σ
  refine h.if_eq (tgt := 23) (show decode cX5_returner 11 = .ok (.ifCond .eq 12, 3) by decide +kernel) (by decide) (fun c9 => ?_) (fun c9 => ?_)
  · rw [if_pos c9] at hf
    refine h.drop (ls' := [none, none, none, none]) trivial ?_
    exact wX5_returner_23 hm hf
  · rw [if_neg c9] at hf
    show V 14 [some (.ref 0), some (.int x1), some (.int x2), none] [] σ
    refine h.run (o := []) (ls' := [some (.ref 0), some (.int x1), some (.int x2), none]) (st' := [.int x2]) (σ' := σ) [(.iload_n 2, 1, 0, 0, 0, 0)] (pc2 := 15) (by decide +kernel) rfl trivial ?_
    refine h.if_lt (tgt := 23) (show decode cX5_returner 15 = .ok (.ifCond .lt 8, 3) by decide +kernel) (by decide) (fun c8 => ?_) (fun c8 => ?_)
    · rw [if_pos c8] at hf
      refine h.drop (ls' := [none, none, none, none]) trivial ?_
      exact wX5_returner_23 hm hf
    · rw [if_neg c8] at hf
      show V 18 [some (.ref 0), some (.int x1), some (.int x2), none] [] σ
      refine h.run (o := []) (ls' := [some (.ref 0), some (.int x1), some (.int x2), none]) (st' := [.int 5, .int x2]) (σ' := σ) [(.iload_n 2, 1, 0, 0, 0, 0), (.iconst 5, 1, 5, 0, 0, 0)] (pc2 := 20) (by decide +kernel) rfl trivial ?_
      refine h.icmp_le (tgt := 25) (show decode cX5_returner 20 = .ok (.if_icmp .le 5, 3) by decide +kernel) (by decide) (fun c7 => ?_) (fun c7 => ?_)
      · rw [if_pos c7] at hf
        refine h.run (o := []) (ls' := [some (.ref 0), some (.int x1), some (.int x2), none]) (st' := [.int 5, .int x2]) (σ' := σ) [(.iload_n 2, 1, 0, 0, 0, 0), (.iconst 5, 1, 5, 0, 0, 0)] (pc2 := 27) (by decide +kernel) rfl trivial ?_
        refine h.icmp_ge (tgt := 43) (show decode cX5_returner 27 = .ok (.if_icmp .ge 16, 3) by decide +kernel) (by decide) (fun c6 => ?_) (fun c6 => ?_)
        · rw [if_pos c6] at hf
          refine h.run (o := []) (ls' := [some (.ref 0), some (.int x1), some (.int x2), none]) (st' := [.int x1, .ref 0]) (σ' := σ) [(.aload_n 0, 1, 0, 0, 0, 0), (.iload_n 1, 1, 0, 0, 0, 0)] (pc2 := 45) (by decide +kernel) rfl trivial ?_
          obtain ⟨σ2, e2, hf⟩ := bR_some hf
          refine h.callV (as := [.int x1]) (rest := []) (by decide +kernel) lk5_94 cwX5_bringPastOf kd_0 (kmX5_bringPastOf l e2) rfl (Nat.le_of_ble_eq_true rfl) (Nat.le_of_ble_eq_true rfl) (Nat.le_of_ble_eq_true rfl) ?_
          show V 48 [some (.ref 0), some (.int x1), some (.int x2), none] [] σ2
          refine h.run (o := [kd 0 = 5]) (ls' := [some (.ref 0), some (.int x1), some (.int x2), none]) (st' := [.ref 3]) (σ' := σ2) [(.aload_n 0, 1, 0, 0, 0, 0), (.getfield 26, 3, 0, 0, 5, 3)] (pc2 := 52) (by decide +kernel) rfl (And.intro kd_0 trivial) ?_
          obtain ⟨a3, e3, hf⟩ := bR_some hf
          refine h.callV (as := []) (rest := []) (by decide +kernel) lk5_98 cwX1_nameOfReturner kd_3 (kmX1_nameOfReturner l e3) rfl (Nat.le_of_ble_eq_true rfl) (Nat.le_of_ble_eq_true rfl) (Nat.le_of_ble_eq_true rfl) ?_
          show V 55 [some (.ref 0), some (.int x1), some (.int x2), none] [.int a3] σ2
          refine h.run (o := []) (ls' := [some (.ref 0), some (.int x1), some (.int x2), some (.int a3)]) (st' := [.int (-1), .int a3]) (σ' := σ2) [(.istore_n 3, 1, 0, 0, 0, 0), (.iload_n 3, 1, 0, 0, 0, 0), (.iconst (-1), 1, (-1), 0, 0, 0)] (pc2 := 58) (by decide +kernel) rfl trivial ?_
          refine h.icmp_ne (tgt := 66) (show decode cX5_returner 58 = .ok (.if_icmp .ne 8, 3) by decide +kernel) (by decide) (fun c4 => ?_) (fun c4 => ?_)
          · rw [if_neg c4] at hf
            refine h.run (o := []) (ls' := [some (.ref 0), some (.int x1), some (.int x2), some (.int a3)]) (st' := [.int a3]) (σ' := σ2) [(.iload_n 3, 1, 0, 0, 0, 0)] (pc2 := 67) (by decide +kernel) rfl trivial ?_
            refine h.drop (ls' := [none, none, none, none]) trivial ?_
            exact wX5_returner_67 hm hf
          · rw [if_pos c4] at hf
            show V 61 [some (.ref 0), some (.int x1), some (.int x2), some (.int a3)] [] σ2
            refine h.run (o := []) (ls' := [some (.ref 0), some (.int x1), some (.int x2), some (.int a3)]) (st' := [.int (-4)]) (σ' := σ2) [(.bipush (-4), 2, (-4), 0, 0, 0), (.goto 4, 3, 0, 0, 0, 67)] (pc2 := 67) (by decide +kernel) rfl trivial ?_
            refine h.drop (ls' := [none, none, none, none]) trivial ?_
            exact wX5_returner_67 hm hf
        · rw [if_neg c6] at hf
          show V 30 [some (.ref 0), some (.int x1), some (.int x2), none] [] σ
          refine h.run (o := [kd 0 = 5, kd 1 = 0]) (ls' := [some (.ref 0), some (.int x1), some (.int x2), none]) (st' := [.int x2, .int x1, .ref 8]) (σ' := σ) [(.aload_n 0, 1, 0, 0, 0, 0), (.getfield 10, 3, 0, 0, 5, 0), (.getfield 91, 3, 0, 0, 0, 4), (.iload_n 1, 1, 0, 0, 0, 0), (.iload_n 2, 1, 0, 0, 0, 0)] (pc2 := 39) (by decide +kernel) rfl (And.intro kd_0 (And.intro kd_1 trivial)) ?_
          obtain ⟨a5, e5, hf⟩ := bR_some hf
          refine h.callV (as := [.int x1, .int x2]) (rest := []) (by decide +kernel) lk5_87 cwX4_read kd_8 (kmX4_read l kd_8 e5) rfl (Nat.le_of_ble_eq_true rfl) (Nat.le_of_ble_eq_true rfl) (Nat.le_of_ble_eq_true rfl) ?_
          show V 42 [some (.ref 0), some (.int x1), some (.int x2), none] [.int a5] σ
          obtain ⟨rfl, rfl⟩ := Prod.mk.inj (Option.some.inj hf)
          exact hm.iret (by decide +kernel)
      · rw [if_neg c7] at hf
        show V 23 [some (.ref 0), some (.int x1), some (.int x2), none] [] σ
        refine h.drop (ls' := [none, none, none, none]) trivial ?_
        exact wX5_returner_23 hm hf
def fX5_set_53 (σ : ST) : Option (Int32 × ST) :=
  some ((-1), σ)
set_option maxHeartbeats 4000000 in
theorem wX5_set_53 {l : Launch} {V : Nat → List (Option Value) → List Value → ST → Prop} {r : Int32} {τ : ST} {σ : ST} (hm : BM l 5 cX5_set 5 (some .int) 0 0 (some (.int r)) τ V) (hf : fX5_set_53 σ = some (r, τ)) : V 53 [none, none, none, none, none] [] σ := by
  have h := hm.bd
  unfold fX5_set_53 at hf
  refine h.run (o := []) (ls' := [none, none, none, none, none]) (st' := [.int (-1)]) (σ' := σ) [(.iconst (-1), 1, (-1), 0, 0, 0)] (pc2 := 54) (by decide +kernel) rfl trivial ?_
  obtain ⟨rfl, rfl⟩ := Prod.mk.inj (Option.some.inj hf)
  exact hm.iret (by decide +kernel)
def fX5_set_117 (x4 : Int32) (σ : ST) : Option (Int32 × ST) :=
  some (x4, σ)
set_option maxHeartbeats 4000000 in
theorem wX5_set_117 {l : Launch} {V : Nat → List (Option Value) → List Value → ST → Prop} {r : Int32} {τ : ST} {σ : ST} {x4 : Int32} (hm : BM l 5 cX5_set 5 (some .int) 0 0 (some (.int r)) τ V) (hf : fX5_set_117 x4 σ = some (r, τ)) : V 117 [none, none, none, none, some (.int x4)] [] σ := by
  have h := hm.bd
  unfold fX5_set_117 at hf
  refine h.run (o := []) (ls' := [none, none, none, none, some (.int x4)]) (st' := [.int x4]) (σ' := σ) [(.iload 4, 2, 0, 0, 0, 0)] (pc2 := 119) (by decide +kernel) rfl trivial ?_
  obtain ⟨rfl, rfl⟩ := Prod.mk.inj (Option.some.inj hf)
  exact hm.iret (by decide +kernel)
def fX5_set_92 (x1 : Int32) (x2 : Int32) (t0 : Int32) (σ : ST) : Option (Int32 × ST) :=
  if x1 = 0 then
    fX5_set_117 t0 (setI σ 1 0 x2)
  else
    fX5_set_117 t0 (setI σ 1 1 x2)
set_option maxHeartbeats 4000000 in
theorem wX5_set_92 {l : Launch} {V : Nat → List (Option Value) → List Value → ST → Prop} {r : Int32} {τ : ST} {σ : ST} {x1 : Int32} {x2 : Int32} {t0 : Int32} (hm : BM l 5 cX5_set 5 (some .int) 0 0 (some (.int r)) τ V) (hf : fX5_set_92 x1 x2 t0 σ = some (r, τ)) : V 92 [some (.ref 0), some (.int x1), some (.int x2), none, none] [.int t0] σ := by
  have h := hm.bd
  unfold fX5_set_92 at hf
  refine h.run (o := []) (ls' := [some (.ref 0), some (.int x1), some (.int x2), none, some (.int t0)]) (st' := [.int x1]) (σ' := σ) [(.istore 4, 2, 0, 0, 0, 0), (.iload_n 1, 1, 0, 0, 0, 0)] (pc2 := 95) (by decide +kernel) rfl trivial ?_
  refine h.if_ne (tgt := 109) (show decode cX5_set 95 = .ok (.ifCond .ne 14, 3) by decide +kernel) (by decide) (fun c1 => ?_) (fun c1 => ?_)
  · rw [if_neg c1] at hf
    refine h.run (o := [kd 0 = 5, kd 1 = 0]) (ls' := [some (.ref 0), some (.int x1), some (.int x2), none, some (.int t0)]) (st' := []) (σ' := setI σ 1 1 x2) [(.aload_n 0, 1, 0, 0, 0, 0), (.getfield 10, 3, 0, 0, 5, 0), (.iload_n 2, 1, 0, 0, 0, 0), (.putfield 110, 3, 0, 0, 0, 1)] (pc2 := 117) (by decide +kernel) rfl (And.intro kd_0 (And.intro kd_1 trivial)) ?_
    refine h.drop (ls' := [none, none, none, none, some (.int t0)]) (And.intro rfl trivial) ?_
    exact wX5_set_117 hm hf
  · rw [if_pos c1] at hf
    show V 98 [some (.ref 0), some (.int x1), some (.int x2), none, some (.int t0)] [] σ
    refine h.run (o := [kd 0 = 5, kd 1 = 0]) (ls' := [some (.ref 0), some (.int x1), some (.int x2), none, some (.int t0)]) (st' := []) (σ' := setI σ 1 0 x2) [(.aload_n 0, 1, 0, 0, 0, 0), (.getfield 10, 3, 0, 0, 5, 0), (.iload_n 2, 1, 0, 0, 0, 0), (.putfield 107, 3, 0, 0, 0, 0), (.goto 11, 3, 0, 0, 0, 117)] (pc2 := 117) (by decide +kernel) rfl (And.intro kd_0 (And.intro kd_1 trivial)) ?_
    refine h.drop (ls' := [none, none, none, none, some (.int t0)]) (And.intro rfl trivial) ?_
    exact wX5_set_117 hm hf
def fX5_set_33 (x1 : Int32) (x2 : Int32) (t0 : Int32) (σ : ST) : Option (Int32 × ST) :=
  if x1 < 0 then
    fX5_set_53 σ
  else
    if 1 < x1 then
      fX5_set_53 σ
    else
      if x2 < 1 then
        fX5_set_53 σ
      else
        if x2 ≤ t0 then
          if (σ.1 10 3) ≤ 0 then
            if x1 = 0 then
              fX5_set_92 x1 x2 (σ.1 1 0) σ
            else
              fX5_set_92 x1 x2 (σ.1 1 1) σ
          else
            some ((-3), σ)
        else
          fX5_set_53 σ
set_option maxHeartbeats 4000000 in
theorem wX5_set_33 {l : Launch} {V : Nat → List (Option Value) → List Value → ST → Prop} {r : Int32} {τ : ST} {σ : ST} {x1 : Int32} {x2 : Int32} {t0 : Int32} (hm : BM l 5 cX5_set 5 (some .int) 0 0 (some (.int r)) τ V) (hf : fX5_set_33 x1 x2 t0 σ = some (r, τ)) : V 33 [some (.ref 0), some (.int x1), some (.int x2), none, none] [.int t0] σ := by
  have h := hm.bd
  unfold fX5_set_33 at hf
  refine h.run (o := []) (ls' := [some (.ref 0), some (.int x1), some (.int x2), some (.int t0), none]) (st' := [.int x1]) (σ' := σ) [(.istore_n 3, 1, 0, 0, 0, 0), (.iload_n 1, 1, 0, 0, 0, 0)] (pc2 := 35) (by decide +kernel) rfl trivial ?_
  refine h.if_lt (tgt := 53) (show decode cX5_set 35 = .ok (.ifCond .lt 18, 3) by decide +kernel) (by decide) (fun c6 => ?_) (fun c6 => ?_)
  · rw [if_pos c6] at hf
    refine h.drop (ls' := [none, none, none, none, none]) trivial ?_
    exact wX5_set_53 hm hf
  · rw [if_neg c6] at hf
    show V 38 [some (.ref 0), some (.int x1), some (.int x2), some (.int t0), none] [] σ
    refine h.run (o := []) (ls' := [some (.ref 0), some (.int x1), some (.int x2), some (.int t0), none]) (st' := [.int 1, .int x1]) (σ' := σ) [(.iload_n 1, 1, 0, 0, 0, 0), (.iconst 1, 1, 1, 0, 0, 0)] (pc2 := 40) (by decide +kernel) rfl trivial ?_
    refine h.icmp_gt (tgt := 53) (show decode cX5_set 40 = .ok (.if_icmp .gt 13, 3) by decide +kernel) (by decide) (fun c5 => ?_) (fun c5 => ?_)
    · rw [if_pos c5] at hf
      refine h.drop (ls' := [none, none, none, none, none]) trivial ?_
      exact wX5_set_53 hm hf
    · rw [if_neg c5] at hf
      show V 43 [some (.ref 0), some (.int x1), some (.int x2), some (.int t0), none] [] σ
      refine h.run (o := []) (ls' := [some (.ref 0), some (.int x1), some (.int x2), some (.int t0), none]) (st' := [.int 1, .int x2]) (σ' := σ) [(.iload_n 2, 1, 0, 0, 0, 0), (.iconst 1, 1, 1, 0, 0, 0)] (pc2 := 45) (by decide +kernel) rfl trivial ?_
      refine h.icmp_lt (tgt := 53) (show decode cX5_set 45 = .ok (.if_icmp .lt 8, 3) by decide +kernel) (by decide) (fun c4 => ?_) (fun c4 => ?_)
      · rw [if_pos c4] at hf
        refine h.drop (ls' := [none, none, none, none, none]) trivial ?_
        exact wX5_set_53 hm hf
      · rw [if_neg c4] at hf
        show V 48 [some (.ref 0), some (.int x1), some (.int x2), some (.int t0), none] [] σ
        refine h.run (o := []) (ls' := [some (.ref 0), some (.int x1), some (.int x2), some (.int t0), none]) (st' := [.int t0, .int x2]) (σ' := σ) [(.iload_n 2, 1, 0, 0, 0, 0), (.iload_n 3, 1, 0, 0, 0, 0)] (pc2 := 50) (by decide +kernel) rfl trivial ?_
        refine h.icmp_le (tgt := 55) (show decode cX5_set 50 = .ok (.if_icmp .le 5, 3) by decide +kernel) (by decide) (fun c3 => ?_) (fun c3 => ?_)
        · rw [if_pos c3] at hf
          refine h.run (o := [kd 0 = 5, kd 1 = 0, kd 10 = 4]) (ls' := [some (.ref 0), some (.int x1), some (.int x2), some (.int t0), none]) (st' := [.int (σ.1 10 3)]) (σ' := σ) [(.aload_n 0, 1, 0, 0, 0, 0), (.getfield 10, 3, 0, 0, 5, 0), (.getfield 104, 3, 0, 0, 0, 5), (.getfield 71, 3, 0, 0, 4, 3)] (pc2 := 65) (by decide +kernel) rfl (And.intro kd_0 (And.intro kd_1 (And.intro kd_10 trivial))) ?_
          refine h.if_le (tgt := 71) (show decode cX5_set 65 = .ok (.ifCond .le 6, 3) by decide +kernel) (by decide) (fun c2 => ?_) (fun c2 => ?_)
          · rw [if_pos c2] at hf
            refine h.run (o := []) (ls' := [some (.ref 0), some (.int x1), some (.int x2), some (.int t0), none]) (st' := [.int x1]) (σ' := σ) [(.iload_n 1, 1, 0, 0, 0, 0)] (pc2 := 72) (by decide +kernel) rfl trivial ?_
            refine h.if_ne (tgt := 85) (show decode cX5_set 72 = .ok (.ifCond .ne 13, 3) by decide +kernel) (by decide) (fun c1 => ?_) (fun c1 => ?_)
            · rw [if_neg c1] at hf
              refine h.run (o := [kd 0 = 5, kd 1 = 0]) (ls' := [some (.ref 0), some (.int x1), some (.int x2), some (.int t0), none]) (st' := [.int (σ.1 1 1)]) (σ' := σ) [(.aload_n 0, 1, 0, 0, 0, 0), (.getfield 10, 3, 0, 0, 5, 0), (.getfield 110, 3, 0, 0, 0, 1)] (pc2 := 92) (by decide +kernel) rfl (And.intro kd_0 (And.intro kd_1 trivial)) ?_
              refine h.drop (ls' := [some (.ref 0), some (.int x1), some (.int x2), none, none]) (And.intro rfl (And.intro rfl (And.intro rfl trivial))) ?_
              exact wX5_set_92 hm hf
            · rw [if_pos c1] at hf
              show V 75 [some (.ref 0), some (.int x1), some (.int x2), some (.int t0), none] [] σ
              refine h.run (o := [kd 0 = 5, kd 1 = 0]) (ls' := [some (.ref 0), some (.int x1), some (.int x2), some (.int t0), none]) (st' := [.int (σ.1 1 0)]) (σ' := σ) [(.aload_n 0, 1, 0, 0, 0, 0), (.getfield 10, 3, 0, 0, 5, 0), (.getfield 107, 3, 0, 0, 0, 0), (.goto 10, 3, 0, 0, 0, 92)] (pc2 := 92) (by decide +kernel) rfl (And.intro kd_0 (And.intro kd_1 trivial)) ?_
              refine h.drop (ls' := [some (.ref 0), some (.int x1), some (.int x2), none, none]) (And.intro rfl (And.intro rfl (And.intro rfl trivial))) ?_
              exact wX5_set_92 hm hf
          · rw [if_neg c2] at hf
            show V 68 [some (.ref 0), some (.int x1), some (.int x2), some (.int t0), none] [] σ
            refine h.run (o := []) (ls' := [some (.ref 0), some (.int x1), some (.int x2), some (.int t0), none]) (st' := [.int (-3)]) (σ' := σ) [(.bipush (-3), 2, (-3), 0, 0, 0)] (pc2 := 70) (by decide +kernel) rfl trivial ?_
            obtain ⟨rfl, rfl⟩ := Prod.mk.inj (Option.some.inj hf)
            exact hm.iret (by decide +kernel)
        · rw [if_neg c3] at hf
          show V 53 [some (.ref 0), some (.int x1), some (.int x2), some (.int t0), none] [] σ
          refine h.drop (ls' := [none, none, none, none, none]) trivial ?_
          exact wX5_set_53 hm hf
def fX5_set (x1 : Int32) (x2 : Int32) (σ : ST) : Option (Int32 × ST) :=
  if x1 = 2 then
    some (σ.1 1 2, setI σ 1 2 x2)
  else
    if x1 = 0 then
      fX5_set_33 x1 x2 20 σ
    else
      fX5_set_33 x1 x2 5 σ
set_option maxHeartbeats 4000000 in
theorem kmX5_set (l : Launch) {x1 : Int32} {x2 : Int32} {σ : ST} {r : Int32} {τ : ST} (hf : fX5_set x1 x2 σ = some (r, τ)) : KM l yX5_set cX5_set 5 (some .int) 0 0 [.ref 0, .int x1, .int x2] σ (some (.int r)) τ := by
  refine KM.intro (ow := 5) (by decide +kernel) rfl (Nat.le_of_ble_eq_true rfl) (fun V hm => ?_)
  show V 0 [some (.ref 0), some (.int x1), some (.int x2), none, none] [] σ
  have h := hm.bd
  unfold fX5_set at hf
  refine h.run (o := []) (ls' := [some (.ref 0), some (.int x1), some (.int x2), none, none]) (st' := [.int 2, .int x1]) (σ' := σ) [(.iload_n 1, 1, 0, 0, 0, 0), (.iconst 2, 1, 2, 0, 0, 0)] (pc2 := 2) (by decide +kernel) rfl trivial ?_
  refine h.icmp_ne (tgt := 23) (show decode cX5_set 2 = .ok (.if_icmp .ne 21, 3) by decide +kernel) (by decide) (fun c2 => ?_) (fun c2 => ?_)
  · rw [if_neg c2] at hf
    refine h.run (o := []) (ls' := [some (.ref 0), some (.int x1), some (.int x2), none, none]) (st' := [.int x1]) (σ' := σ) [(.iload_n 1, 1, 0, 0, 0, 0)] (pc2 := 24) (by decide +kernel) rfl trivial ?_
    refine h.if_ne (tgt := 32) (show decode cX5_set 24 = .ok (.ifCond .ne 8, 3) by decide +kernel) (by decide) (fun c1 => ?_) (fun c1 => ?_)
    · rw [if_neg c1] at hf
      refine h.run (o := []) (ls' := [some (.ref 0), some (.int x1), some (.int x2), none, none]) (st' := [.int 5]) (σ' := σ) [(.iconst 5, 1, 5, 0, 0, 0)] (pc2 := 33) (by decide +kernel) rfl trivial ?_
      exact wX5_set_33 hm hf
    · rw [if_pos c1] at hf
      show V 27 [some (.ref 0), some (.int x1), some (.int x2), none, none] [] σ
      refine h.run (o := []) (ls' := [some (.ref 0), some (.int x1), some (.int x2), none, none]) (st' := [.int 20]) (σ' := σ) [(.bipush 20, 2, 20, 0, 0, 0), (.goto 4, 3, 0, 0, 0, 33)] (pc2 := 33) (by decide +kernel) rfl trivial ?_
      exact wX5_set_33 hm hf
  · rw [if_pos c2] at hf
    show V 5 [some (.ref 0), some (.int x1), some (.int x2), none, none] [] σ
    refine h.run (o := [kd 0 = 5, kd 1 = 0, kd 0 = 5, kd 1 = 0]) (ls' := [some (.ref 0), some (.int x1), some (.int x2), some (.int (σ.1 1 2)), none]) (st' := [.int (σ.1 1 2)]) (σ' := setI σ 1 2 x2) [(.aload_n 0, 1, 0, 0, 0, 0), (.getfield 10, 3, 0, 0, 5, 0), (.getfield 101, 3, 0, 0, 0, 2), (.istore_n 3, 1, 0, 0, 0, 0), (.aload_n 0, 1, 0, 0, 0, 0), (.getfield 10, 3, 0, 0, 5, 0), (.iload_n 2, 1, 0, 0, 0, 0), (.putfield 101, 3, 0, 0, 0, 2), (.iload_n 3, 1, 0, 0, 0, 0)] (pc2 := 22) (by decide +kernel) rfl (And.intro kd_0 (And.intro kd_1 (And.intro kd_0 (And.intro kd_1 trivial)))) ?_
    obtain ⟨rfl, rfl⟩ := Prod.mk.inj (Option.some.inj hf)
    exact hm.iret (by decide +kernel)
def fX5_holds_24 (σ : ST) : Option (Int32 × ST) :=
  some ((-1), σ)
set_option maxHeartbeats 4000000 in
theorem wX5_holds_24 {l : Launch} {V : Nat → List (Option Value) → List Value → ST → Prop} {r : Int32} {τ : ST} {σ : ST} (hm : BM l 5 cX5_holds 4 (some .int) 2 47 (some (.int r)) τ V) (hf : fX5_holds_24 σ = some (r, τ)) : V 24 [none, none, none, none] [] σ := by
  have h := hm.bd
  unfold fX5_holds_24 at hf
  refine h.run (o := []) (ls' := [none, none, none, none]) (st' := [.int (-1)]) (σ' := σ) [(.iconst (-1), 1, (-1), 0, 0, 0)] (pc2 := 25) (by decide +kernel) rfl trivial ?_
  obtain ⟨rfl, rfl⟩ := Prod.mk.inj (Option.some.inj hf)
  exact hm.iret (by decide +kernel)
def fX5_holds (x1 : Int32) (x2 : Int32) (σ : ST) : Option (Int32 × ST) :=
  bR (fX4_has 6 x1 σ) fun a1 =>
  if a1 = 0 then
    fX5_holds_24 σ
  else
    if x2 < 0 then
      fX5_holds_24 σ
    else
      if x2 ≤ 100 then
        bR (fX4_read 6 x1 2 σ) fun a2 =>
        bR (fX4_write 6 x1 2 x2 σ) fun σ3 =>
        some (a2, σ3)
      else
        fX5_holds_24 σ
set_option maxHeartbeats 4000000 in
theorem kmX5_holds (l : Launch) {x1 : Int32} {x2 : Int32} {σ : ST} {r : Int32} {τ : ST} (hf : fX5_holds x1 x2 σ = some (r, τ)) : KM l yX5_holds cX5_holds 4 (some .int) 2 47 [.ref 0, .int x1, .int x2] σ (some (.int r)) τ := by
  refine KM.intro (ow := 5) (by decide +kernel) rfl (Nat.le_of_ble_eq_true rfl) (fun V hm => ?_)
  show V 0 [some (.ref 0), some (.int x1), some (.int x2), none] [] σ
  have h := hm.bd
  unfold fX5_holds at hf
  refine h.run (o := [kd 0 = 5, kd 1 = 0]) (ls' := [some (.ref 0), some (.int x1), some (.int x2), none]) (st' := [.int x1, .ref 6]) (σ' := σ) [(.aload_n 0, 1, 0, 0, 0, 0), (.getfield 10, 3, 0, 0, 5, 0), (.getfield 80, 3, 0, 0, 0, 3), (.iload_n 1, 1, 0, 0, 0, 0)] (pc2 := 8) (by decide +kernel) rfl (And.intro kd_0 (And.intro kd_1 trivial)) ?_
  obtain ⟨a1, e1, hf⟩ := bR_some hf
  refine h.callV (as := [.int x1]) (rest := []) (by decide +kernel) lk5_83 cwX4_has kd_6 (kmX4_has l kd_6 e1) rfl (Nat.le_of_ble_eq_true rfl) (Nat.le_of_ble_eq_true rfl) (Nat.le_of_ble_eq_true rfl) ?_
  show V 11 [some (.ref 0), some (.int x1), some (.int x2), none] [.int a1] σ
  refine h.if_eq (tgt := 24) (show decode cX5_holds 11 = .ok (.ifCond .eq 13, 3) by decide +kernel) (by decide) (fun c6 => ?_) (fun c6 => ?_)
  · rw [if_pos c6] at hf
    refine h.drop (ls' := [none, none, none, none]) trivial ?_
    exact wX5_holds_24 hm hf
  · rw [if_neg c6] at hf
    show V 14 [some (.ref 0), some (.int x1), some (.int x2), none] [] σ
    refine h.run (o := []) (ls' := [some (.ref 0), some (.int x1), some (.int x2), none]) (st' := [.int x2]) (σ' := σ) [(.iload_n 2, 1, 0, 0, 0, 0)] (pc2 := 15) (by decide +kernel) rfl trivial ?_
    refine h.if_lt (tgt := 24) (show decode cX5_holds 15 = .ok (.ifCond .lt 9, 3) by decide +kernel) (by decide) (fun c5 => ?_) (fun c5 => ?_)
    · rw [if_pos c5] at hf
      refine h.drop (ls' := [none, none, none, none]) trivial ?_
      exact wX5_holds_24 hm hf
    · rw [if_neg c5] at hf
      show V 18 [some (.ref 0), some (.int x1), some (.int x2), none] [] σ
      refine h.run (o := []) (ls' := [some (.ref 0), some (.int x1), some (.int x2), none]) (st' := [.int 100, .int x2]) (σ' := σ) [(.iload_n 2, 1, 0, 0, 0, 0), (.bipush 100, 2, 100, 0, 0, 0)] (pc2 := 21) (by decide +kernel) rfl trivial ?_
      refine h.icmp_le (tgt := 26) (show decode cX5_holds 21 = .ok (.if_icmp .le 5, 3) by decide +kernel) (by decide) (fun c4 => ?_) (fun c4 => ?_)
      · rw [if_pos c4] at hf
        refine h.run (o := [kd 0 = 5, kd 1 = 0]) (ls' := [some (.ref 0), some (.int x1), some (.int x2), none]) (st' := [.int 2, .int x1, .ref 6]) (σ' := σ) [(.aload_n 0, 1, 0, 0, 0, 0), (.getfield 10, 3, 0, 0, 5, 0), (.getfield 80, 3, 0, 0, 0, 3), (.iload_n 1, 1, 0, 0, 0, 0), (.iconst 2, 1, 2, 0, 0, 0)] (pc2 := 35) (by decide +kernel) rfl (And.intro kd_0 (And.intro kd_1 trivial)) ?_
        obtain ⟨a2, e2, hf⟩ := bR_some hf
        refine h.callV (as := [.int x1, .int 2]) (rest := []) (by decide +kernel) lk5_87 cwX4_read kd_6 (kmX4_read l kd_6 e2) rfl (Nat.le_of_ble_eq_true rfl) (Nat.le_of_ble_eq_true rfl) (Nat.le_of_ble_eq_true rfl) ?_
        show V 38 [some (.ref 0), some (.int x1), some (.int x2), none] [.int a2] σ
        refine h.run (o := [kd 0 = 5, kd 1 = 0]) (ls' := [some (.ref 0), some (.int x1), some (.int x2), some (.int a2)]) (st' := [.int x2, .int 2, .int x1, .ref 6]) (σ' := σ) [(.istore_n 3, 1, 0, 0, 0, 0), (.aload_n 0, 1, 0, 0, 0, 0), (.getfield 10, 3, 0, 0, 5, 0), (.getfield 80, 3, 0, 0, 0, 3), (.iload_n 1, 1, 0, 0, 0, 0), (.iconst 2, 1, 2, 0, 0, 0), (.iload_n 2, 1, 0, 0, 0, 0)] (pc2 := 49) (by decide +kernel) rfl (And.intro kd_0 (And.intro kd_1 trivial)) ?_
        obtain ⟨σ3, e3, hf⟩ := bR_some hf
        refine h.callV (as := [.int x1, .int 2, .int x2]) (rest := []) (by decide +kernel) lk5_113 cwX4_write kd_6 (kmX4_write l kd_6 e3) rfl (Nat.le_of_ble_eq_true rfl) (Nat.le_of_ble_eq_true rfl) (Nat.le_of_ble_eq_true rfl) ?_
        show V 52 [some (.ref 0), some (.int x1), some (.int x2), some (.int a2)] [] σ3
        refine h.run (o := []) (ls' := [some (.ref 0), some (.int x1), some (.int x2), some (.int a2)]) (st' := [.int a2]) (σ' := σ3) [(.iload_n 3, 1, 0, 0, 0, 0)] (pc2 := 53) (by decide +kernel) rfl trivial ?_
        obtain ⟨rfl, rfl⟩ := Prod.mk.inj (Option.some.inj hf)
        exact hm.iret (by decide +kernel)
      · rw [if_neg c4] at hf
        show V 24 [some (.ref 0), some (.int x1), some (.int x2), none] [] σ
        refine h.drop (ls' := [none, none, none, none]) trivial ?_
        exact wX5_holds_24 hm hf
def fX5_areThere_33 (t0 : Int32) (σ : ST) : Option Int32 :=
  gd (isb t0) <|
  some t0
set_option maxHeartbeats 4000000 in
theorem wX5_areThere_33 {l : Launch} {V : Nat → List (Option Value) → List Value → ST → Prop} {r : Int32} {σ : ST} {t0 : Int32} (hm : BM l 5 cX5_areThere 3 (some .boolean) 1 21 (some (.int r)) σ V) (hf : fX5_areThere_33 t0 σ = some r) : V 33 [none, none, none] [.int t0] σ := by
  have h := hm.bd
  unfold fX5_areThere_33 at hf
  obtain ⟨g1, hf⟩ := gd_some hf
  obtain rfl := Option.some.inj hf
  exact hm.zret (by decide +kernel) g1
def fX5_areThere_32 (σ : ST) : Option Int32 :=
  fX5_areThere_33 0 σ
set_option maxHeartbeats 4000000 in
theorem wX5_areThere_32 {l : Launch} {V : Nat → List (Option Value) → List Value → ST → Prop} {r : Int32} {σ : ST} (hm : BM l 5 cX5_areThere 3 (some .boolean) 1 21 (some (.int r)) σ V) (hf : fX5_areThere_32 σ = some r) : V 32 [none, none, none] [] σ := by
  have h := hm.bd
  unfold fX5_areThere_32 at hf
  refine h.run (o := []) (ls' := [none, none, none]) (st' := [.int 0]) (σ' := σ) [(.iconst 0, 1, 0, 0, 0, 0)] (pc2 := 33) (by decide +kernel) rfl trivial ?_
  exact wX5_areThere_33 hm hf
def fX5_areThere (x1 : Int32) (x2 : Int32) (σ : ST) : Option Int32 :=
  bR (fX4_has 6 x1 σ) fun a1 =>
  if a1 = 0 then
    fX5_areThere_32 σ
  else
    bR (fX4_has 8 x2 σ) fun a2 =>
    if a2 = 0 then
      fX5_areThere_32 σ
    else
      fX5_areThere_33 1 σ
set_option maxHeartbeats 4000000 in
theorem kmX5_areThere (l : Launch) {x1 : Int32} {x2 : Int32} {σ : ST} {r : Int32} (hf : fX5_areThere x1 x2 σ = some r) : KM l yX5_areThere cX5_areThere 3 (some .boolean) 1 21 [.ref 0, .int x1, .int x2] σ (some (.int r)) σ := by
  refine KM.intro (ow := 5) (by decide +kernel) rfl (Nat.le_of_ble_eq_true rfl) (fun V hm => ?_)
  show V 0 [some (.ref 0), some (.int x1), some (.int x2)] [] σ
  have h := hm.bd
  unfold fX5_areThere at hf
  refine h.run (o := [kd 0 = 5, kd 1 = 0]) (ls' := [some (.ref 0), some (.int x1), some (.int x2)]) (st' := [.int x1, .ref 6]) (σ' := σ) [(.aload_n 0, 1, 0, 0, 0, 0), (.getfield 10, 3, 0, 0, 5, 0), (.getfield 80, 3, 0, 0, 0, 3), (.iload_n 1, 1, 0, 0, 0, 0)] (pc2 := 8) (by decide +kernel) rfl (And.intro kd_0 (And.intro kd_1 trivial)) ?_
  obtain ⟨a1, e1, hf⟩ := bR_some hf
  refine h.callV (as := [.int x1]) (rest := []) (by decide +kernel) lk5_83 cwX4_has kd_6 (kmX4_has l kd_6 e1) rfl (Nat.le_of_ble_eq_true rfl) (Nat.le_of_ble_eq_true rfl) (Nat.le_of_ble_eq_true rfl) ?_
  show V 11 [some (.ref 0), some (.int x1), some (.int x2)] [.int a1] σ
  refine h.if_eq (tgt := 32) (show decode cX5_areThere 11 = .ok (.ifCond .eq 21, 3) by decide +kernel) (by decide) (fun c4 => ?_) (fun c4 => ?_)
  · rw [if_pos c4] at hf
    refine h.drop (ls' := [none, none, none]) trivial ?_
    exact wX5_areThere_32 hm hf
  · rw [if_neg c4] at hf
    show V 14 [some (.ref 0), some (.int x1), some (.int x2)] [] σ
    refine h.run (o := [kd 0 = 5, kd 1 = 0]) (ls' := [some (.ref 0), some (.int x1), some (.int x2)]) (st' := [.int x2, .ref 8]) (σ' := σ) [(.aload_n 0, 1, 0, 0, 0, 0), (.getfield 10, 3, 0, 0, 5, 0), (.getfield 91, 3, 0, 0, 0, 4), (.iload_n 2, 1, 0, 0, 0, 0)] (pc2 := 22) (by decide +kernel) rfl (And.intro kd_0 (And.intro kd_1 trivial)) ?_
    obtain ⟨a2, e2, hf⟩ := bR_some hf
    refine h.callV (as := [.int x2]) (rest := []) (by decide +kernel) lk5_83 cwX4_has kd_8 (kmX4_has l kd_8 e2) rfl (Nat.le_of_ble_eq_true rfl) (Nat.le_of_ble_eq_true rfl) (Nat.le_of_ble_eq_true rfl) ?_
    show V 25 [some (.ref 0), some (.int x1), some (.int x2)] [.int a2] σ
    refine h.if_eq (tgt := 32) (show decode cX5_areThere 25 = .ok (.ifCond .eq 7, 3) by decide +kernel) (by decide) (fun c3 => ?_) (fun c3 => ?_)
    · rw [if_pos c3] at hf
      refine h.drop (ls' := [none, none, none]) trivial ?_
      exact wX5_areThere_32 hm hf
    · rw [if_neg c3] at hf
      show V 28 [some (.ref 0), some (.int x1), some (.int x2)] [] σ
      refine h.run (o := []) (ls' := [some (.ref 0), some (.int x1), some (.int x2)]) (st' := [.int 1]) (σ' := σ) [(.iconst 1, 1, 1, 0, 0, 0), (.goto 4, 3, 0, 0, 0, 33)] (pc2 := 33) (by decide +kernel) rfl trivial ?_
      refine h.drop (ls' := [none, none, none]) trivial ?_
      exact wX5_areThere_33 hm hf
def fX5_bringSettings (σ : ST) : Option ST :=
  some (setI (setI (setI σ 3 0 (σ.1 1 0)) 3 1 ((setI σ 3 0 (σ.1 1 0)).1 1 1)) 3 2 ((setI (setI σ 3 0 (σ.1 1 0)) 3 1 ((setI σ 3 0 (σ.1 1 0)).1 1 1)).1 1 2))
set_option maxHeartbeats 4000000 in
theorem kmX5_bringSettings (l : Launch) {σ : ST} {τ : ST} (hf : fX5_bringSettings σ = some τ) : KM l yX5_bringSettings cX5_bringSettings 1 none 0 0 [.ref 0] σ none τ := by
  refine KM.intro (ow := 5) (by decide +kernel) rfl (Nat.le_of_ble_eq_true rfl) (fun V hm => ?_)
  show V 0 [some (.ref 0)] [] σ
  have h := hm.bd
  unfold fX5_bringSettings at hf
  refine h.run (o := [kd 0 = 5, kd 0 = 5, kd 1 = 0, kd 3 = 1, kd 0 = 5, kd 0 = 5, kd 1 = 0, kd 3 = 1, kd 0 = 5, kd 0 = 5, kd 1 = 0, kd 3 = 1]) (ls' := [some (.ref 0)]) (st' := []) (σ' := setI (setI (setI σ 3 0 (σ.1 1 0)) 3 1 ((setI σ 3 0 (σ.1 1 0)).1 1 1)) 3 2 ((setI (setI σ 3 0 (σ.1 1 0)) 3 1 ((setI σ 3 0 (σ.1 1 0)).1 1 1)).1 1 2)) [(.aload_n 0, 1, 0, 0, 0, 0), (.getfield 26, 3, 0, 0, 5, 3), (.aload_n 0, 1, 0, 0, 0, 0), (.getfield 10, 3, 0, 0, 5, 0), (.getfield 107, 3, 0, 0, 0, 0), (.putfield 273, 3, 0, 0, 1, 0), (.aload_n 0, 1, 0, 0, 0, 0), (.getfield 26, 3, 0, 0, 5, 3), (.aload_n 0, 1, 0, 0, 0, 0), (.getfield 10, 3, 0, 0, 5, 0), (.getfield 110, 3, 0, 0, 0, 1), (.putfield 274, 3, 0, 0, 1, 1), (.aload_n 0, 1, 0, 0, 0, 0), (.getfield 26, 3, 0, 0, 5, 3), (.aload_n 0, 1, 0, 0, 0, 0), (.getfield 10, 3, 0, 0, 5, 0), (.getfield 101, 3, 0, 0, 0, 2), (.putfield 275, 3, 0, 0, 1, 2)] (pc2 := 42) (by decide +kernel) rfl (And.intro kd_0 (And.intro kd_0 (And.intro kd_1 (And.intro kd_3 (And.intro kd_0 (And.intro kd_0 (And.intro kd_1 (And.intro kd_3 (And.intro kd_0 (And.intro kd_0 (And.intro kd_1 (And.intro kd_3 trivial)))))))))))) ?_
  obtain rfl := Option.some.inj hf
  exact hm.vret (by decide +kernel)
def fX5_bringSender (x1 : Int32) (σ : ST) : Option ST :=
  bR (fX5_bringSettings σ) fun σ1 =>
  bR (fX4_read 6 x1 0 σ1) fun a2 =>
  bR (fX4_read 6 x1 1 (setI σ1 3 3 a2)) fun a3 =>
  bR (fX4_read 6 x1 2 (setI (setI σ1 3 3 a2) 3 4 a3)) fun a4 =>
  some (setI (setI (setI σ1 3 3 a2) 3 4 a3) 3 5 a4)
set_option maxHeartbeats 4000000 in
theorem kmX5_bringSender (l : Launch) {x1 : Int32} {σ : ST} {τ : ST} (hf : fX5_bringSender x1 σ = some τ) : KM l yX5_bringSender cX5_bringSender 2 none 2 46 [.ref 0, .int x1] σ none τ := by
  refine KM.intro (ow := 5) (by decide +kernel) rfl (Nat.le_of_ble_eq_true rfl) (fun V hm => ?_)
  show V 0 [some (.ref 0), some (.int x1)] [] σ
  have h := hm.bd
  unfold fX5_bringSender at hf
  refine h.run (o := []) (ls' := [some (.ref 0), some (.int x1)]) (st' := [.ref 0]) (σ' := σ) [(.aload_n 0, 1, 0, 0, 0, 0)] (pc2 := 1) (by decide +kernel) rfl trivial ?_
  obtain ⟨σ1, e1, hf⟩ := bR_some hf
  refine h.callV (as := []) (rest := []) (by decide +kernel) lk5_262 cwX5_bringSettings kd_0 (kmX5_bringSettings l e1) rfl (Nat.le_of_ble_eq_true rfl) (Nat.le_of_ble_eq_true rfl) (Nat.le_of_ble_eq_true rfl) ?_
  show V 4 [some (.ref 0), some (.int x1)] [] σ1
  refine h.run (o := [kd 0 = 5, kd 0 = 5, kd 1 = 0]) (ls' := [some (.ref 0), some (.int x1)]) (st' := [.int 0, .int x1, .ref 6, .ref 3]) (σ' := σ1) [(.aload_n 0, 1, 0, 0, 0, 0), (.getfield 26, 3, 0, 0, 5, 3), (.aload_n 0, 1, 0, 0, 0, 0), (.getfield 10, 3, 0, 0, 5, 0), (.getfield 80, 3, 0, 0, 0, 3), (.iload_n 1, 1, 0, 0, 0, 0), (.iconst 0, 1, 0, 0, 0, 0)] (pc2 := 17) (by decide +kernel) rfl (And.intro kd_0 (And.intro kd_0 (And.intro kd_1 trivial))) ?_
  obtain ⟨a2, e2, hf⟩ := bR_some hf
  refine h.callV (as := [.int x1, .int 0]) (rest := [.ref 3]) (by decide +kernel) lk5_87 cwX4_read kd_6 (kmX4_read l kd_6 e2) rfl (Nat.le_of_ble_eq_true rfl) (Nat.le_of_ble_eq_true rfl) (Nat.le_of_ble_eq_true rfl) ?_
  show V 20 [some (.ref 0), some (.int x1)] [.int a2, .ref 3] σ1
  refine h.run (o := [kd 3 = 1, kd 0 = 5, kd 0 = 5, kd 1 = 0]) (ls' := [some (.ref 0), some (.int x1)]) (st' := [.int 1, .int x1, .ref 6, .ref 3]) (σ' := setI σ1 3 3 a2) [(.putfield 265, 3, 0, 0, 1, 3), (.aload_n 0, 1, 0, 0, 0, 0), (.getfield 26, 3, 0, 0, 5, 3), (.aload_n 0, 1, 0, 0, 0, 0), (.getfield 10, 3, 0, 0, 5, 0), (.getfield 80, 3, 0, 0, 0, 3), (.iload_n 1, 1, 0, 0, 0, 0), (.iconst 1, 1, 1, 0, 0, 0)] (pc2 := 36) (by decide +kernel) rfl (And.intro kd_3 (And.intro kd_0 (And.intro kd_0 (And.intro kd_1 trivial)))) ?_
  obtain ⟨a3, e3, hf⟩ := bR_some hf
  refine h.callV (as := [.int x1, .int 1]) (rest := [.ref 3]) (by decide +kernel) lk5_87 cwX4_read kd_6 (kmX4_read l kd_6 e3) rfl (Nat.le_of_ble_eq_true rfl) (Nat.le_of_ble_eq_true rfl) (Nat.le_of_ble_eq_true rfl) ?_
  show V 39 [some (.ref 0), some (.int x1)] [.int a3, .ref 3] (setI σ1 3 3 a2)
  refine h.run (o := [kd 3 = 1, kd 0 = 5, kd 0 = 5, kd 1 = 0]) (ls' := [some (.ref 0), some (.int x1)]) (st' := [.int 2, .int x1, .ref 6, .ref 3]) (σ' := setI (setI σ1 3 3 a2) 3 4 a3) [(.putfield 266, 3, 0, 0, 1, 4), (.aload_n 0, 1, 0, 0, 0, 0), (.getfield 26, 3, 0, 0, 5, 3), (.aload_n 0, 1, 0, 0, 0, 0), (.getfield 10, 3, 0, 0, 5, 0), (.getfield 80, 3, 0, 0, 0, 3), (.iload_n 1, 1, 0, 0, 0, 0), (.iconst 2, 1, 2, 0, 0, 0)] (pc2 := 55) (by decide +kernel) rfl (And.intro kd_3 (And.intro kd_0 (And.intro kd_0 (And.intro kd_1 trivial)))) ?_
  obtain ⟨a4, e4, hf⟩ := bR_some hf
  refine h.callV (as := [.int x1, .int 2]) (rest := [.ref 3]) (by decide +kernel) lk5_87 cwX4_read kd_6 (kmX4_read l kd_6 e4) rfl (Nat.le_of_ble_eq_true rfl) (Nat.le_of_ble_eq_true rfl) (Nat.le_of_ble_eq_true rfl) ?_
  show V 58 [some (.ref 0), some (.int x1)] [.int a4, .ref 3] (setI (setI σ1 3 3 a2) 3 4 a3)
  refine h.run (o := [kd 3 = 1]) (ls' := [some (.ref 0), some (.int x1)]) (st' := []) (σ' := setI (setI (setI σ1 3 3 a2) 3 4 a3) 3 5 a4) [(.putfield 155, 3, 0, 0, 1, 5)] (pc2 := 61) (by decide +kernel) rfl (And.intro kd_3 trivial) ?_
  obtain rfl := Option.some.inj hf
  exact hm.vret (by decide +kernel)
def fX5_bringReturner (x1 : Int32) (σ : ST) : Option ST :=
  bR (fX5_bringSettings σ) fun σ1 =>
  bR (fX4_read 8 x1 0 σ1) fun a2 =>
  bR (fX4_read 8 x1 1 (setI σ1 3 6 a2)) fun a3 =>
  bR (fX4_read 8 x1 2 (setI (setI σ1 3 6 a2) 3 7 a3)) fun a4 =>
  bR (fX4_read 8 x1 3 (setI (setI (setI σ1 3 6 a2) 3 7 a3) 3 8 a4)) fun a5 =>
  bR (fX4_read 8 x1 4 (setI (setI (setI (setI σ1 3 6 a2) 3 7 a3) 3 8 a4) 3 9 a5)) fun a6 =>
  some (setI (setI (setI (setI (setI σ1 3 6 a2) 3 7 a3) 3 8 a4) 3 9 a5) 3 10 a6)
set_option maxHeartbeats 4000000 in
theorem kmX5_bringReturner (l : Launch) {x1 : Int32} {σ : ST} {τ : ST} (hf : fX5_bringReturner x1 σ = some τ) : KM l yX5_bringReturner cX5_bringReturner 2 none 2 46 [.ref 0, .int x1] σ none τ := by
  refine KM.intro (ow := 5) (by decide +kernel) rfl (Nat.le_of_ble_eq_true rfl) (fun V hm => ?_)
  show V 0 [some (.ref 0), some (.int x1)] [] σ
  have h := hm.bd
  unfold fX5_bringReturner at hf
  refine h.run (o := []) (ls' := [some (.ref 0), some (.int x1)]) (st' := [.ref 0]) (σ' := σ) [(.aload_n 0, 1, 0, 0, 0, 0)] (pc2 := 1) (by decide +kernel) rfl trivial ?_
  obtain ⟨σ1, e1, hf⟩ := bR_some hf
  refine h.callV (as := []) (rest := []) (by decide +kernel) lk5_262 cwX5_bringSettings kd_0 (kmX5_bringSettings l e1) rfl (Nat.le_of_ble_eq_true rfl) (Nat.le_of_ble_eq_true rfl) (Nat.le_of_ble_eq_true rfl) ?_
  show V 4 [some (.ref 0), some (.int x1)] [] σ1
  refine h.run (o := [kd 0 = 5, kd 0 = 5, kd 1 = 0]) (ls' := [some (.ref 0), some (.int x1)]) (st' := [.int 0, .int x1, .ref 8, .ref 3]) (σ' := σ1) [(.aload_n 0, 1, 0, 0, 0, 0), (.getfield 26, 3, 0, 0, 5, 3), (.aload_n 0, 1, 0, 0, 0, 0), (.getfield 10, 3, 0, 0, 5, 0), (.getfield 91, 3, 0, 0, 0, 4), (.iload_n 1, 1, 0, 0, 0, 0), (.iconst 0, 1, 0, 0, 0, 0)] (pc2 := 17) (by decide +kernel) rfl (And.intro kd_0 (And.intro kd_0 (And.intro kd_1 trivial))) ?_
  obtain ⟨a2, e2, hf⟩ := bR_some hf
  refine h.callV (as := [.int x1, .int 0]) (rest := [.ref 3]) (by decide +kernel) lk5_87 cwX4_read kd_8 (kmX4_read l kd_8 e2) rfl (Nat.le_of_ble_eq_true rfl) (Nat.le_of_ble_eq_true rfl) (Nat.le_of_ble_eq_true rfl) ?_
  show V 20 [some (.ref 0), some (.int x1)] [.int a2, .ref 3] σ1
  refine h.run (o := [kd 3 = 1, kd 0 = 5, kd 0 = 5, kd 1 = 0]) (ls' := [some (.ref 0), some (.int x1)]) (st' := [.int 1, .int x1, .ref 8, .ref 3]) (σ' := setI σ1 3 6 a2) [(.putfield 158, 3, 0, 0, 1, 6), (.aload_n 0, 1, 0, 0, 0, 0), (.getfield 26, 3, 0, 0, 5, 3), (.aload_n 0, 1, 0, 0, 0, 0), (.getfield 10, 3, 0, 0, 5, 0), (.getfield 91, 3, 0, 0, 0, 4), (.iload_n 1, 1, 0, 0, 0, 0), (.iconst 1, 1, 1, 0, 0, 0)] (pc2 := 36) (by decide +kernel) rfl (And.intro kd_3 (And.intro kd_0 (And.intro kd_0 (And.intro kd_1 trivial)))) ?_
  obtain ⟨a3, e3, hf⟩ := bR_some hf
  refine h.callV (as := [.int x1, .int 1]) (rest := [.ref 3]) (by decide +kernel) lk5_87 cwX4_read kd_8 (kmX4_read l kd_8 e3) rfl (Nat.le_of_ble_eq_true rfl) (Nat.le_of_ble_eq_true rfl) (Nat.le_of_ble_eq_true rfl) ?_
  show V 39 [some (.ref 0), some (.int x1)] [.int a3, .ref 3] (setI σ1 3 6 a2)
  refine h.run (o := [kd 3 = 1, kd 0 = 5, kd 0 = 5, kd 1 = 0]) (ls' := [some (.ref 0), some (.int x1)]) (st' := [.int 2, .int x1, .ref 8, .ref 3]) (σ' := setI (setI σ1 3 6 a2) 3 7 a3) [(.putfield 173, 3, 0, 0, 1, 7), (.aload_n 0, 1, 0, 0, 0, 0), (.getfield 26, 3, 0, 0, 5, 3), (.aload_n 0, 1, 0, 0, 0, 0), (.getfield 10, 3, 0, 0, 5, 0), (.getfield 91, 3, 0, 0, 0, 4), (.iload_n 1, 1, 0, 0, 0, 0), (.iconst 2, 1, 2, 0, 0, 0)] (pc2 := 55) (by decide +kernel) rfl (And.intro kd_3 (And.intro kd_0 (And.intro kd_0 (And.intro kd_1 trivial)))) ?_
  obtain ⟨a4, e4, hf⟩ := bR_some hf
  refine h.callV (as := [.int x1, .int 2]) (rest := [.ref 3]) (by decide +kernel) lk5_87 cwX4_read kd_8 (kmX4_read l kd_8 e4) rfl (Nat.le_of_ble_eq_true rfl) (Nat.le_of_ble_eq_true rfl) (Nat.le_of_ble_eq_true rfl) ?_
  show V 58 [some (.ref 0), some (.int x1)] [.int a4, .ref 3] (setI (setI σ1 3 6 a2) 3 7 a3)
  refine h.run (o := [kd 3 = 1, kd 0 = 5, kd 0 = 5, kd 1 = 0]) (ls' := [some (.ref 0), some (.int x1)]) (st' := [.int 3, .int x1, .ref 8, .ref 3]) (σ' := setI (setI (setI σ1 3 6 a2) 3 7 a3) 3 8 a4) [(.putfield 267, 3, 0, 0, 1, 8), (.aload_n 0, 1, 0, 0, 0, 0), (.getfield 26, 3, 0, 0, 5, 3), (.aload_n 0, 1, 0, 0, 0, 0), (.getfield 10, 3, 0, 0, 5, 0), (.getfield 91, 3, 0, 0, 0, 4), (.iload_n 1, 1, 0, 0, 0, 0), (.iconst 3, 1, 3, 0, 0, 0)] (pc2 := 74) (by decide +kernel) rfl (And.intro kd_3 (And.intro kd_0 (And.intro kd_0 (And.intro kd_1 trivial)))) ?_
  obtain ⟨a5, e5, hf⟩ := bR_some hf
  refine h.callV (as := [.int x1, .int 3]) (rest := [.ref 3]) (by decide +kernel) lk5_87 cwX4_read kd_8 (kmX4_read l kd_8 e5) rfl (Nat.le_of_ble_eq_true rfl) (Nat.le_of_ble_eq_true rfl) (Nat.le_of_ble_eq_true rfl) ?_
  show V 77 [some (.ref 0), some (.int x1)] [.int a5, .ref 3] (setI (setI (setI σ1 3 6 a2) 3 7 a3) 3 8 a4)
  refine h.run (o := [kd 3 = 1, kd 0 = 5, kd 0 = 5, kd 1 = 0]) (ls' := [some (.ref 0), some (.int x1)]) (st' := [.int 4, .int x1, .ref 8, .ref 3]) (σ' := setI (setI (setI (setI σ1 3 6 a2) 3 7 a3) 3 8 a4) 3 9 a5) [(.putfield 270, 3, 0, 0, 1, 9), (.aload_n 0, 1, 0, 0, 0, 0), (.getfield 26, 3, 0, 0, 5, 3), (.aload_n 0, 1, 0, 0, 0, 0), (.getfield 10, 3, 0, 0, 5, 0), (.getfield 91, 3, 0, 0, 0, 4), (.iload_n 1, 1, 0, 0, 0, 0), (.iconst 4, 1, 4, 0, 0, 0)] (pc2 := 93) (by decide +kernel) rfl (And.intro kd_3 (And.intro kd_0 (And.intro kd_0 (And.intro kd_1 trivial)))) ?_
  obtain ⟨a6, e6, hf⟩ := bR_some hf
  refine h.callV (as := [.int x1, .int 4]) (rest := [.ref 3]) (by decide +kernel) lk5_87 cwX4_read kd_8 (kmX4_read l kd_8 e6) rfl (Nat.le_of_ble_eq_true rfl) (Nat.le_of_ble_eq_true rfl) (Nat.le_of_ble_eq_true rfl) ?_
  show V 96 [some (.ref 0), some (.int x1)] [.int a6, .ref 3] (setI (setI (setI (setI σ1 3 6 a2) 3 7 a3) 3 8 a4) 3 9 a5)
  refine h.run (o := [kd 3 = 1]) (ls' := [some (.ref 0), some (.int x1)]) (st' := []) (σ' := setI (setI (setI (setI (setI σ1 3 6 a2) 3 7 a3) 3 8 a4) 3 9 a5) 3 10 a6) [(.putfield 176, 3, 0, 0, 1, 10)] (pc2 := 99) (by decide +kernel) rfl (And.intro kd_3 trivial) ?_
  obtain rfl := Option.some.inj hf
  exact hm.vret (by decide +kernel)
def fX5_bringLastOf_77 (kt_21 : Int32 → Int32 → Int32 → ST → Option ST) (x1 : Int32) (x2 : Int32) (x3 : Int32) (σ : ST) : Option ST :=
  kt_21 x1 x2 (x3 + (-1)) σ
set_option maxHeartbeats 4000000 in
theorem wX5_bringLastOf_77 {l : Launch} {V : Nat → List (Option Value) → List Value → ST → Prop} {τ : ST} {σ : ST} {x1 : Int32} {x2 : Int32} {x3 : Int32} {kt_21 : Int32 → Int32 → Int32 → ST → Option ST} (hm : BM l 5 cX5_bringLastOf 4 none 2 46 none τ V) (hkt_21 : ∀ (x1 : Int32) (x2 : Int32) (x3 : Int32) (σ : ST), kt_21 x1 x2 x3 σ = some τ → V 21 [some (.ref 0), some (.int x1), some (.int x2), some (.int x3)] [] σ) (hf : fX5_bringLastOf_77 kt_21 x1 x2 x3 σ = some τ) : V 77 [some (.ref 0), some (.int x1), some (.int x2), some (.int x3)] [] σ := by
  have h := hm.bd
  unfold fX5_bringLastOf_77 at hf
  refine h.run (o := []) (ls' := [some (.ref 0), some (.int x1), some (.int x2), some (.int (x3 + (-1)))]) (st' := []) (σ' := σ) [(.iinc 3 (-1), 3, (-1), 0, 0, 0), (.goto (-59), 3, 0, 0, 0, 21)] (pc2 := 21) (by decide +kernel) rfl trivial ?_
  exact hkt_21 x1 x2 (x3 + (-1)) _ hf
def fX5_bringLastOf_21 (n : Nat) (x1 : Int32) (x2 : Int32) (x3 : Int32) (σ : ST) : Option ST := match n with
  | 0 => none
  | n + 1 =>
    if x3 < 0 then
      some σ
    else
      bR (fX4_read 10 x3 0 σ) fun a1 =>
      if a1 = x1 then
        bR (fX4_read 10 x3 1 σ) fun a2 =>
        if a2 = x2 then
          bR (fX4_read 10 x3 4 σ) fun a3 =>
          some (setI σ 3 13 a3)
        else
          fX5_bringLastOf_77 (fX5_bringLastOf_21 n) x1 x2 x3 σ
      else
        fX5_bringLastOf_77 (fX5_bringLastOf_21 n) x1 x2 x3 σ
set_option maxHeartbeats 4000000 in
theorem wX5_bringLastOf_21 {l : Launch} {V : Nat → List (Option Value) → List Value → ST → Prop} {τ : ST} (hm : BM l 5 cX5_bringLastOf 4 none 2 46 none τ V) : ∀ (n : Nat) (x1 : Int32) (x2 : Int32) (x3 : Int32) (σ : ST), fX5_bringLastOf_21 n x1 x2 x3 σ = some τ → V 21 [some (.ref 0), some (.int x1), some (.int x2), some (.int x3)] [] σ := by
  have h := hm.bd
  intro n
  induction n with
  | zero => intro x1 x2 x3 σ hf; cases hf
  | succ n ih =>
    intro x1 x2 x3 σ hf
    rw [fX5_bringLastOf_21] at hf
    refine h.run (o := []) (ls' := [some (.ref 0), some (.int x1), some (.int x2), some (.int x3)]) (st' := [.int x3]) (σ' := σ) [(.iload_n 3, 1, 0, 0, 0, 0)] (pc2 := 22) (by decide +kernel) rfl trivial ?_
    refine h.if_lt (tgt := 83) (show decode cX5_bringLastOf 22 = .ok (.ifCond .lt 61, 3) by decide +kernel) (by decide) (fun c6 => ?_) (fun c6 => ?_)
    · rw [if_pos c6] at hf
      obtain rfl := Option.some.inj hf
      exact hm.vret (by decide +kernel)
    · rw [if_neg c6] at hf
      show V 25 [some (.ref 0), some (.int x1), some (.int x2), some (.int x3)] [] σ
      refine h.run (o := [kd 0 = 5, kd 1 = 0]) (ls' := [some (.ref 0), some (.int x1), some (.int x2), some (.int x3)]) (st' := [.int 0, .int x3, .ref 10]) (σ' := σ) [(.aload_n 0, 1, 0, 0, 0, 0), (.getfield 10, 3, 0, 0, 5, 0), (.getfield 104, 3, 0, 0, 0, 5), (.iload_n 3, 1, 0, 0, 0, 0), (.iconst 0, 1, 0, 0, 0, 0)] (pc2 := 34) (by decide +kernel) rfl (And.intro kd_0 (And.intro kd_1 trivial)) ?_
      obtain ⟨a1, e1, hf⟩ := bR_some hf
      refine h.callV (as := [.int x3, .int 0]) (rest := []) (by decide +kernel) lk5_87 cwX4_read kd_10 (kmX4_read l kd_10 e1) rfl (Nat.le_of_ble_eq_true rfl) (Nat.le_of_ble_eq_true rfl) (Nat.le_of_ble_eq_true rfl) ?_
      show V 37 [some (.ref 0), some (.int x1), some (.int x2), some (.int x3)] [.int a1] σ
      refine h.run (o := []) (ls' := [some (.ref 0), some (.int x1), some (.int x2), some (.int x3)]) (st' := [.int x1, .int a1]) (σ' := σ) [(.iload_n 1, 1, 0, 0, 0, 0)] (pc2 := 38) (by decide +kernel) rfl trivial ?_
      refine h.icmp_ne (tgt := 77) (show decode cX5_bringLastOf 38 = .ok (.if_icmp .ne 39, 3) by decide +kernel) (by decide) (fun c5 => ?_) (fun c5 => ?_)
      · rw [if_neg c5] at hf
        exact wX5_bringLastOf_77 hm ih hf
      · rw [if_pos c5] at hf
        show V 41 [some (.ref 0), some (.int x1), some (.int x2), some (.int x3)] [] σ
        refine h.run (o := [kd 0 = 5, kd 1 = 0]) (ls' := [some (.ref 0), some (.int x1), some (.int x2), some (.int x3)]) (st' := [.int 1, .int x3, .ref 10]) (σ' := σ) [(.aload_n 0, 1, 0, 0, 0, 0), (.getfield 10, 3, 0, 0, 5, 0), (.getfield 104, 3, 0, 0, 0, 5), (.iload_n 3, 1, 0, 0, 0, 0), (.iconst 1, 1, 1, 0, 0, 0)] (pc2 := 50) (by decide +kernel) rfl (And.intro kd_0 (And.intro kd_1 trivial)) ?_
        obtain ⟨a2, e2, hf⟩ := bR_some hf
        refine h.callV (as := [.int x3, .int 1]) (rest := []) (by decide +kernel) lk5_87 cwX4_read kd_10 (kmX4_read l kd_10 e2) rfl (Nat.le_of_ble_eq_true rfl) (Nat.le_of_ble_eq_true rfl) (Nat.le_of_ble_eq_true rfl) ?_
        show V 53 [some (.ref 0), some (.int x1), some (.int x2), some (.int x3)] [.int a2] σ
        refine h.run (o := []) (ls' := [some (.ref 0), some (.int x1), some (.int x2), some (.int x3)]) (st' := [.int x2, .int a2]) (σ' := σ) [(.iload_n 2, 1, 0, 0, 0, 0)] (pc2 := 54) (by decide +kernel) rfl trivial ?_
        refine h.icmp_ne (tgt := 77) (show decode cX5_bringLastOf 54 = .ok (.if_icmp .ne 23, 3) by decide +kernel) (by decide) (fun c4 => ?_) (fun c4 => ?_)
        · rw [if_neg c4] at hf
          exact wX5_bringLastOf_77 hm ih hf
        · rw [if_pos c4] at hf
          show V 57 [some (.ref 0), some (.int x1), some (.int x2), some (.int x3)] [] σ
          refine h.run (o := [kd 0 = 5, kd 0 = 5, kd 1 = 0]) (ls' := [some (.ref 0), some (.int x1), some (.int x2), some (.int x3)]) (st' := [.int 4, .int x3, .ref 10, .ref 3]) (σ' := σ) [(.aload_n 0, 1, 0, 0, 0, 0), (.getfield 26, 3, 0, 0, 5, 3), (.aload_n 0, 1, 0, 0, 0, 0), (.getfield 10, 3, 0, 0, 5, 0), (.getfield 104, 3, 0, 0, 0, 5), (.iload_n 3, 1, 0, 0, 0, 0), (.iconst 4, 1, 4, 0, 0, 0)] (pc2 := 70) (by decide +kernel) rfl (And.intro kd_0 (And.intro kd_0 (And.intro kd_1 trivial))) ?_
          obtain ⟨a3, e3, hf⟩ := bR_some hf
          refine h.callV (as := [.int x3, .int 4]) (rest := [.ref 3]) (by decide +kernel) lk5_87 cwX4_read kd_10 (kmX4_read l kd_10 e3) rfl (Nat.le_of_ble_eq_true rfl) (Nat.le_of_ble_eq_true rfl) (Nat.le_of_ble_eq_true rfl) ?_
          show V 73 [some (.ref 0), some (.int x1), some (.int x2), some (.int x3)] [.int a3, .ref 3] σ
          refine h.run (o := [kd 3 = 1]) (ls' := [some (.ref 0), some (.int x1), some (.int x2), some (.int x3)]) (st' := []) (σ' := setI σ 3 13 a3) [(.putfield 282, 3, 0, 0, 1, 13)] (pc2 := 76) (by decide +kernel) rfl (And.intro kd_3 trivial) ?_
          obtain rfl := Option.some.inj hf
          exact hm.vret (by decide +kernel)
def fX5_bringLastOf (x1 : Int32) (x2 : Int32) (σ : ST) : Option ST :=
  fX5_bringLastOf_21 FU x1 x2 (((setI σ 3 13 (-1)).1 10 3) - 1) (setI σ 3 13 (-1))
set_option maxHeartbeats 4000000 in
theorem kmX5_bringLastOf (l : Launch) {x1 : Int32} {x2 : Int32} {σ : ST} {τ : ST} (hf : fX5_bringLastOf x1 x2 σ = some τ) : KM l yX5_bringLastOf cX5_bringLastOf 4 none 2 46 [.ref 0, .int x1, .int x2] σ none τ := by
  refine KM.intro (ow := 5) (by decide +kernel) rfl (Nat.le_of_ble_eq_true rfl) (fun V hm => ?_)
  show V 0 [some (.ref 0), some (.int x1), some (.int x2), none] [] σ
  have h := hm.bd
  unfold fX5_bringLastOf at hf
  refine h.run (o := [kd 0 = 5, kd 3 = 1, kd 0 = 5, kd 1 = 0, kd 10 = 4]) (ls' := [some (.ref 0), some (.int x1), some (.int x2), some (.int (((setI σ 3 13 (-1)).1 10 3) - 1))]) (st' := []) (σ' := setI σ 3 13 (-1)) [(.aload_n 0, 1, 0, 0, 0, 0), (.getfield 26, 3, 0, 0, 5, 3), (.iconst (-1), 1, (-1), 0, 0, 0), (.putfield 282, 3, 0, 0, 1, 13), (.aload_n 0, 1, 0, 0, 0, 0), (.getfield 10, 3, 0, 0, 5, 0), (.getfield 104, 3, 0, 0, 0, 5), (.getfield 71, 3, 0, 0, 4, 3), (.iconst 1, 1, 1, 0, 0, 0), (.isub, 1, 0, 0, 0, 0), (.istore_n 3, 1, 0, 0, 0, 0)] (pc2 := 21) (by decide +kernel) rfl (And.intro kd_0 (And.intro kd_3 (And.intro kd_0 (And.intro kd_1 (And.intro kd_10 trivial))))) ?_
  exact wX5_bringLastOf_21 hm FU x1 x2 (((setI σ 3 13 (-1)).1 10 3) - 1) _ hf
def fX5_bring (x1 : Int32) (x2 : Int32) (σ : ST) : Option ST :=
  bR (fX5_bringSender x1 σ) fun σ1 =>
  bR (fX5_bringReturner x2 σ1) fun σ2 =>
  bR (fX5_bringPastOf x2 σ2) fun σ3 =>
  bR (fX5_bringLastOf x1 x2 σ3) fun σ4 =>
  some σ4
set_option maxHeartbeats 4000000 in
theorem kmX5_bring (l : Launch) {x1 : Int32} {x2 : Int32} {σ : ST} {τ : ST} (hf : fX5_bring x1 x2 σ = some τ) : KM l yX5_bring cX5_bring 3 none 4 92 [.ref 0, .int x1, .int x2] σ none τ := by
  refine KM.intro (ow := 5) (by decide +kernel) rfl (Nat.le_of_ble_eq_true rfl) (fun V hm => ?_)
  show V 0 [some (.ref 0), some (.int x1), some (.int x2)] [] σ
  have h := hm.bd
  unfold fX5_bring at hf
  refine h.run (o := []) (ls' := [some (.ref 0), some (.int x1), some (.int x2)]) (st' := [.int x1, .ref 0]) (σ' := σ) [(.aload_n 0, 1, 0, 0, 0, 0), (.iload_n 1, 1, 0, 0, 0, 0)] (pc2 := 2) (by decide +kernel) rfl trivial ?_
  obtain ⟨σ1, e1, hf⟩ := bR_some hf
  refine h.callV (as := [.int x1]) (rest := []) (by decide +kernel) lk5_161 cwX5_bringSender kd_0 (kmX5_bringSender l e1) rfl (Nat.le_of_ble_eq_true rfl) (Nat.le_of_ble_eq_true rfl) (Nat.le_of_ble_eq_true rfl) ?_
  show V 5 [some (.ref 0), some (.int x1), some (.int x2)] [] σ1
  refine h.run (o := []) (ls' := [some (.ref 0), some (.int x1), some (.int x2)]) (st' := [.int x2, .ref 0]) (σ' := σ1) [(.aload_n 0, 1, 0, 0, 0, 0), (.iload_n 2, 1, 0, 0, 0, 0)] (pc2 := 7) (by decide +kernel) rfl trivial ?_
  obtain ⟨σ2, e2, hf⟩ := bR_some hf
  refine h.callV (as := [.int x2]) (rest := []) (by decide +kernel) lk5_146 cwX5_bringReturner kd_0 (kmX5_bringReturner l e2) rfl (Nat.le_of_ble_eq_true rfl) (Nat.le_of_ble_eq_true rfl) (Nat.le_of_ble_eq_true rfl) ?_
  show V 10 [some (.ref 0), some (.int x1), some (.int x2)] [] σ2
  refine h.run (o := []) (ls' := [some (.ref 0), some (.int x1), some (.int x2)]) (st' := [.int x2, .ref 0]) (σ' := σ2) [(.aload_n 0, 1, 0, 0, 0, 0), (.iload_n 2, 1, 0, 0, 0, 0)] (pc2 := 12) (by decide +kernel) rfl trivial ?_
  obtain ⟨σ3, e3, hf⟩ := bR_some hf
  refine h.callV (as := [.int x2]) (rest := []) (by decide +kernel) lk5_94 cwX5_bringPastOf kd_0 (kmX5_bringPastOf l e3) rfl (Nat.le_of_ble_eq_true rfl) (Nat.le_of_ble_eq_true rfl) (Nat.le_of_ble_eq_true rfl) ?_
  show V 15 [some (.ref 0), some (.int x1), some (.int x2)] [] σ3
  refine h.run (o := []) (ls' := [some (.ref 0), some (.int x1), some (.int x2)]) (st' := [.int x2, .int x1, .ref 0]) (σ' := σ3) [(.aload_n 0, 1, 0, 0, 0, 0), (.iload_n 1, 1, 0, 0, 0, 0), (.iload_n 2, 1, 0, 0, 0, 0)] (pc2 := 18) (by decide +kernel) rfl trivial ?_
  obtain ⟨σ4, e4, hf⟩ := bR_some hf
  refine h.callV (as := [.int x1, .int x2]) (rest := []) (by decide +kernel) lk5_259 cwX5_bringLastOf kd_0 (kmX5_bringLastOf l e4) rfl (Nat.le_of_ble_eq_true rfl) (Nat.le_of_ble_eq_true rfl) (Nat.le_of_ble_eq_true rfl) ?_
  show V 21 [some (.ref 0), some (.int x1), some (.int x2)] [] σ4
  obtain rfl := Option.some.inj hf
  exact hm.vret (by decide +kernel)
def fX5_playAndWriteDown_147 (t1 : Int32) (t2 : Int32) (t3 : Int32) (σ : ST) : Option (Int32 × ST) :=
  bR (fX4_write 10 t1 t2 t3 σ) fun σ1 =>
  some (σ1.1 3 14, σ1)
set_option maxHeartbeats 4000000 in
theorem wX5_playAndWriteDown_147 {l : Launch} {V : Nat → List (Option Value) → List Value → ST → Prop} {r : Int32} {τ : ST} {σ : ST} {t1 : Int32} {t2 : Int32} {t3 : Int32} (hm : BM l 5 cX5_playAndWriteDown 5 (some .int) 5 114 (some (.int r)) τ V) (hf : fX5_playAndWriteDown_147 t1 t2 t3 σ = some (r, τ)) : V 147 [some (.ref 0), none, none, none, none] [.int t3, .int t2, .int t1, .ref 10] σ := by
  have h := hm.bd
  unfold fX5_playAndWriteDown_147 at hf
  obtain ⟨σ1, e1, hf⟩ := bR_some hf
  refine h.callV (as := [.int t1, .int t2, .int t3]) (rest := []) (by decide +kernel) lk5_113 cwX4_write kd_10 (kmX4_write l kd_10 e1) rfl (Nat.le_of_ble_eq_true rfl) (Nat.le_of_ble_eq_true rfl) (Nat.le_of_ble_eq_true rfl) ?_
  show V 150 [some (.ref 0), none, none, none, none] [] σ1
  refine h.run (o := [kd 0 = 5, kd 3 = 1]) (ls' := [some (.ref 0), none, none, none, none]) (st' := [.int (σ1.1 3 14)]) (σ' := σ1) [(.aload_n 0, 1, 0, 0, 0, 0), (.getfield 26, 3, 0, 0, 5, 3), (.getfield 292, 3, 0, 0, 1, 14)] (pc2 := 157) (by decide +kernel) rfl (And.intro kd_0 (And.intro kd_3 trivial)) ?_
  obtain ⟨rfl, rfl⟩ := Prod.mk.inj (Option.some.inj hf)
  exact hm.iret (by decide +kernel)
def fX5_playAndWriteDown (x1 : Int32) (x2 : Int32) (x3 : Int32) (σ : ST) : Option (Int32 × ST) :=
  bR (fX5_bring x1 x2 σ) fun σ1 =>
  bR (fX1_play x3 σ1) fun σ2 =>
  bI (fX4_open 10 (setI σ2 1 2 (σ2.1 3 2))) fun a3 σ3 =>
  bR (fX4_write 10 a3 0 x1 σ3) fun σ4 =>
  bR (fX4_write 10 a3 1 x2 σ4) fun σ5 =>
  bR (fX4_write 10 a3 2 (σ5.1 3 14) σ5) fun σ6 =>
  bR (fX4_write 10 a3 3 (σ6.1 3 15) σ6) fun σ7 =>
  bR (fX4_write 10 a3 4 (σ7.1 3 13) σ7) fun σ8 =>
  if x3 = 0 then
    fX5_playAndWriteDown_147 a3 5 0 σ8
  else
    fX5_playAndWriteDown_147 a3 5 1 σ8
set_option maxHeartbeats 4000000 in
theorem kmX5_playAndWriteDown (l : Launch) {x1 : Int32} {x2 : Int32} {x3 : Int32} {σ : ST} {r : Int32} {τ : ST} (hf : fX5_playAndWriteDown x1 x2 x3 σ = some (r, τ)) : KM l yX5_playAndWriteDown cX5_playAndWriteDown 5 (some .int) 5 114 [.ref 0, .int x1, .int x2, .int x3] σ (some (.int r)) τ := by
  refine KM.intro (ow := 5) (by decide +kernel) rfl (Nat.le_of_ble_eq_true rfl) (fun V hm => ?_)
  show V 0 [some (.ref 0), some (.int x1), some (.int x2), some (.int x3), none] [] σ
  have h := hm.bd
  unfold fX5_playAndWriteDown at hf
  refine h.run (o := []) (ls' := [some (.ref 0), some (.int x1), some (.int x2), some (.int x3), none]) (st' := [.int x2, .int x1, .ref 0]) (σ' := σ) [(.aload_n 0, 1, 0, 0, 0, 0), (.iload_n 1, 1, 0, 0, 0, 0), (.iload_n 2, 1, 0, 0, 0, 0)] (pc2 := 3) (by decide +kernel) rfl trivial ?_
  obtain ⟨σ1, e1, hf⟩ := bR_some hf
  refine h.callV (as := [.int x1, .int x2]) (rest := []) (by decide +kernel) lk5_139 cwX5_bring kd_0 (kmX5_bring l e1) rfl (Nat.le_of_ble_eq_true rfl) (Nat.le_of_ble_eq_true rfl) (Nat.le_of_ble_eq_true rfl) ?_
  show V 6 [some (.ref 0), some (.int x1), some (.int x2), some (.int x3), none] [] σ1
  refine h.run (o := [kd 0 = 5]) (ls' := [some (.ref 0), some (.int x1), some (.int x2), some (.int x3), none]) (st' := [.int x3, .ref 3]) (σ' := σ1) [(.aload_n 0, 1, 0, 0, 0, 0), (.getfield 26, 3, 0, 0, 5, 3), (.iload_n 3, 1, 0, 0, 0, 0)] (pc2 := 11) (by decide +kernel) rfl (And.intro kd_0 trivial) ?_
  obtain ⟨σ2, e2, hf⟩ := bR_some hf
  refine h.callV (as := [.int x3]) (rest := []) (by decide +kernel) lk5_285 cwX1_play kd_3 (kmX1_play l e2) rfl (Nat.le_of_ble_eq_true rfl) (Nat.le_of_ble_eq_true rfl) (Nat.le_of_ble_eq_true rfl) ?_
  show V 14 [some (.ref 0), some (.int x1), some (.int x2), some (.int x3), none] [] σ2
  refine h.run (o := [kd 0 = 5, kd 0 = 5, kd 3 = 1, kd 1 = 0, kd 0 = 5, kd 1 = 0]) (ls' := [some (.ref 0), some (.int x1), some (.int x2), some (.int x3), none]) (st' := [.ref 10]) (σ' := setI σ2 1 2 (σ2.1 3 2)) [(.aload_n 0, 1, 0, 0, 0, 0), (.getfield 10, 3, 0, 0, 5, 0), (.aload_n 0, 1, 0, 0, 0, 0), (.getfield 26, 3, 0, 0, 5, 3), (.getfield 275, 3, 0, 0, 1, 2), (.putfield 101, 3, 0, 0, 0, 2), (.aload_n 0, 1, 0, 0, 0, 0), (.getfield 10, 3, 0, 0, 5, 0), (.getfield 104, 3, 0, 0, 0, 5)] (pc2 := 35) (by decide +kernel) rfl (And.intro kd_0 (And.intro kd_0 (And.intro kd_3 (And.intro kd_1 (And.intro kd_0 (And.intro kd_1 trivial)))))) ?_
  obtain ⟨a3, σ3, e3, hf⟩ := bI_some hf
  refine h.callV (as := []) (rest := []) (by decide +kernel) lk5_289 cwX4_open kd_10 (kmX4_open l kd_10 e3) rfl (Nat.le_of_ble_eq_true rfl) (Nat.le_of_ble_eq_true rfl) (Nat.le_of_ble_eq_true rfl) ?_
  show V 38 [some (.ref 0), some (.int x1), some (.int x2), some (.int x3), none] [.int a3] σ3
  refine h.run (o := [kd 0 = 5, kd 1 = 0]) (ls' := [some (.ref 0), some (.int x1), some (.int x2), some (.int x3), some (.int a3)]) (st' := [.int x1, .int 0, .int a3, .ref 10]) (σ' := σ3) [(.istore 4, 2, 0, 0, 0, 0), (.aload_n 0, 1, 0, 0, 0, 0), (.getfield 10, 3, 0, 0, 5, 0), (.getfield 104, 3, 0, 0, 0, 5), (.iload 4, 2, 0, 0, 0, 0), (.iconst 0, 1, 0, 0, 0, 0), (.iload_n 1, 1, 0, 0, 0, 0)] (pc2 := 51) (by decide +kernel) rfl (And.intro kd_0 (And.intro kd_1 trivial)) ?_
  obtain ⟨σ4, e4, hf⟩ := bR_some hf
  refine h.callV (as := [.int a3, .int 0, .int x1]) (rest := []) (by decide +kernel) lk5_113 cwX4_write kd_10 (kmX4_write l kd_10 e4) rfl (Nat.le_of_ble_eq_true rfl) (Nat.le_of_ble_eq_true rfl) (Nat.le_of_ble_eq_true rfl) ?_
  show V 54 [some (.ref 0), some (.int x1), some (.int x2), some (.int x3), some (.int a3)] [] σ4
  refine h.run (o := [kd 0 = 5, kd 1 = 0]) (ls' := [some (.ref 0), some (.int x1), some (.int x2), some (.int x3), some (.int a3)]) (st' := [.int x2, .int 1, .int a3, .ref 10]) (σ' := σ4) [(.aload_n 0, 1, 0, 0, 0, 0), (.getfield 10, 3, 0, 0, 5, 0), (.getfield 104, 3, 0, 0, 0, 5), (.iload 4, 2, 0, 0, 0, 0), (.iconst 1, 1, 1, 0, 0, 0), (.iload_n 2, 1, 0, 0, 0, 0)] (pc2 := 65) (by decide +kernel) rfl (And.intro kd_0 (And.intro kd_1 trivial)) ?_
  obtain ⟨σ5, e5, hf⟩ := bR_some hf
  refine h.callV (as := [.int a3, .int 1, .int x2]) (rest := []) (by decide +kernel) lk5_113 cwX4_write kd_10 (kmX4_write l kd_10 e5) rfl (Nat.le_of_ble_eq_true rfl) (Nat.le_of_ble_eq_true rfl) (Nat.le_of_ble_eq_true rfl) ?_
  show V 68 [some (.ref 0), some (.int x1), some (.int x2), some (.int x3), some (.int a3)] [] σ5
  refine h.run (o := [kd 0 = 5, kd 1 = 0, kd 0 = 5, kd 3 = 1]) (ls' := [some (.ref 0), some (.int x1), some (.int x2), some (.int x3), some (.int a3)]) (st' := [.int (σ5.1 3 14), .int 2, .int a3, .ref 10]) (σ' := σ5) [(.aload_n 0, 1, 0, 0, 0, 0), (.getfield 10, 3, 0, 0, 5, 0), (.getfield 104, 3, 0, 0, 0, 5), (.iload 4, 2, 0, 0, 0, 0), (.iconst 2, 1, 2, 0, 0, 0), (.aload_n 0, 1, 0, 0, 0, 0), (.getfield 26, 3, 0, 0, 5, 3), (.getfield 292, 3, 0, 0, 1, 14)] (pc2 := 85) (by decide +kernel) rfl (And.intro kd_0 (And.intro kd_1 (And.intro kd_0 (And.intro kd_3 trivial)))) ?_
  obtain ⟨σ6, e6, hf⟩ := bR_some hf
  refine h.callV (as := [.int a3, .int 2, .int (σ5.1 3 14)]) (rest := []) (by decide +kernel) lk5_113 cwX4_write kd_10 (kmX4_write l kd_10 e6) rfl (Nat.le_of_ble_eq_true rfl) (Nat.le_of_ble_eq_true rfl) (Nat.le_of_ble_eq_true rfl) ?_
  show V 88 [some (.ref 0), some (.int x1), some (.int x2), some (.int x3), some (.int a3)] [] σ6
  refine h.run (o := [kd 0 = 5, kd 1 = 0, kd 0 = 5, kd 3 = 1]) (ls' := [some (.ref 0), some (.int x1), some (.int x2), some (.int x3), some (.int a3)]) (st' := [.int (σ6.1 3 15), .int 3, .int a3, .ref 10]) (σ' := σ6) [(.aload_n 0, 1, 0, 0, 0, 0), (.getfield 10, 3, 0, 0, 5, 0), (.getfield 104, 3, 0, 0, 0, 5), (.iload 4, 2, 0, 0, 0, 0), (.iconst 3, 1, 3, 0, 0, 0), (.aload_n 0, 1, 0, 0, 0, 0), (.getfield 26, 3, 0, 0, 5, 3), (.getfield 295, 3, 0, 0, 1, 15)] (pc2 := 105) (by decide +kernel) rfl (And.intro kd_0 (And.intro kd_1 (And.intro kd_0 (And.intro kd_3 trivial)))) ?_
  obtain ⟨σ7, e7, hf⟩ := bR_some hf
  refine h.callV (as := [.int a3, .int 3, .int (σ6.1 3 15)]) (rest := []) (by decide +kernel) lk5_113 cwX4_write kd_10 (kmX4_write l kd_10 e7) rfl (Nat.le_of_ble_eq_true rfl) (Nat.le_of_ble_eq_true rfl) (Nat.le_of_ble_eq_true rfl) ?_
  show V 108 [some (.ref 0), some (.int x1), some (.int x2), some (.int x3), some (.int a3)] [] σ7
  refine h.run (o := [kd 0 = 5, kd 1 = 0, kd 0 = 5, kd 3 = 1]) (ls' := [some (.ref 0), some (.int x1), some (.int x2), some (.int x3), some (.int a3)]) (st' := [.int (σ7.1 3 13), .int 4, .int a3, .ref 10]) (σ' := σ7) [(.aload_n 0, 1, 0, 0, 0, 0), (.getfield 10, 3, 0, 0, 5, 0), (.getfield 104, 3, 0, 0, 0, 5), (.iload 4, 2, 0, 0, 0, 0), (.iconst 4, 1, 4, 0, 0, 0), (.aload_n 0, 1, 0, 0, 0, 0), (.getfield 26, 3, 0, 0, 5, 3), (.getfield 282, 3, 0, 0, 1, 13)] (pc2 := 125) (by decide +kernel) rfl (And.intro kd_0 (And.intro kd_1 (And.intro kd_0 (And.intro kd_3 trivial)))) ?_
  obtain ⟨σ8, e8, hf⟩ := bR_some hf
  refine h.callV (as := [.int a3, .int 4, .int (σ7.1 3 13)]) (rest := []) (by decide +kernel) lk5_113 cwX4_write kd_10 (kmX4_write l kd_10 e8) rfl (Nat.le_of_ble_eq_true rfl) (Nat.le_of_ble_eq_true rfl) (Nat.le_of_ble_eq_true rfl) ?_
  show V 128 [some (.ref 0), some (.int x1), some (.int x2), some (.int x3), some (.int a3)] [] σ8
  refine h.run (o := [kd 0 = 5, kd 1 = 0]) (ls' := [some (.ref 0), some (.int x1), some (.int x2), some (.int x3), some (.int a3)]) (st' := [.int x3, .int 5, .int a3, .ref 10]) (σ' := σ8) [(.aload_n 0, 1, 0, 0, 0, 0), (.getfield 10, 3, 0, 0, 5, 0), (.getfield 104, 3, 0, 0, 0, 5), (.iload 4, 2, 0, 0, 0, 0), (.iconst 5, 1, 5, 0, 0, 0), (.iload_n 3, 1, 0, 0, 0, 0)] (pc2 := 139) (by decide +kernel) rfl (And.intro kd_0 (And.intro kd_1 trivial)) ?_
  refine h.if_eq (tgt := 146) (show decode cX5_playAndWriteDown 139 = .ok (.ifCond .eq 7, 3) by decide +kernel) (by decide) (fun c9 => ?_) (fun c9 => ?_)
  · rw [if_pos c9] at hf
    refine h.run (o := []) (ls' := [some (.ref 0), some (.int x1), some (.int x2), some (.int x3), some (.int a3)]) (st' := [.int 0, .int 5, .int a3, .ref 10]) (σ' := σ8) [(.iconst 0, 1, 0, 0, 0, 0)] (pc2 := 147) (by decide +kernel) rfl trivial ?_
    refine h.drop (ls' := [some (.ref 0), none, none, none, none]) (And.intro rfl trivial) ?_
    exact wX5_playAndWriteDown_147 hm hf
  · rw [if_neg c9] at hf
    show V 142 [some (.ref 0), some (.int x1), some (.int x2), some (.int x3), some (.int a3)] [.int 5, .int a3, .ref 10] σ8
    refine h.run (o := []) (ls' := [some (.ref 0), some (.int x1), some (.int x2), some (.int x3), some (.int a3)]) (st' := [.int 1, .int 5, .int a3, .ref 10]) (σ' := σ8) [(.iconst 1, 1, 1, 0, 0, 0), (.goto 4, 3, 0, 0, 0, 147)] (pc2 := 147) (by decide +kernel) rfl trivial ?_
    refine h.drop (ls' := [some (.ref 0), none, none, none, none]) (And.intro rfl trivial) ?_
    exact wX5_playAndWriteDown_147 hm hf
def fX5_pair (x1 : Int32) (x2 : Int32) (x3 : Int32) (σ : ST) : Option (Int32 × ST) :=
  bR (fX5_areThere x1 x2 σ) fun a1 =>
  if a1 = 0 then
    some ((-1), σ)
  else
    if (σ.1 10 3) < 100 then
      bI (fX5_playAndWriteDown x1 x2 x3 σ) fun a2 σ2 =>
      some (a2, σ2)
    else
      some ((-2), σ)
set_option maxHeartbeats 4000000 in
theorem kmX5_pair (l : Launch) {x1 : Int32} {x2 : Int32} {x3 : Int32} {σ : ST} {r : Int32} {τ : ST} (hf : fX5_pair x1 x2 x3 σ = some (r, τ)) : KM l yX5_pair cX5_pair 4 (some .int) 6 138 [.ref 0, .int x1, .int x2, .int x3] σ (some (.int r)) τ := by
  refine KM.intro (ow := 5) (by decide +kernel) rfl (Nat.le_of_ble_eq_true rfl) (fun V hm => ?_)
  show V 0 [some (.ref 0), some (.int x1), some (.int x2), some (.int x3)] [] σ
  have h := hm.bd
  unfold fX5_pair at hf
  refine h.run (o := []) (ls' := [some (.ref 0), some (.int x1), some (.int x2), some (.int x3)]) (st' := [.int x2, .int x1, .ref 0]) (σ' := σ) [(.aload_n 0, 1, 0, 0, 0, 0), (.iload_n 1, 1, 0, 0, 0, 0), (.iload_n 2, 1, 0, 0, 0, 0)] (pc2 := 3) (by decide +kernel) rfl trivial ?_
  obtain ⟨a1, e1, hf⟩ := bR_some hf
  refine h.callV (as := [.int x1, .int x2]) (rest := []) (by decide +kernel) lk5_117 cwX5_areThere kd_0 (kmX5_areThere l e1) rfl (Nat.le_of_ble_eq_true rfl) (Nat.le_of_ble_eq_true rfl) (Nat.le_of_ble_eq_true rfl) ?_
  show V 6 [some (.ref 0), some (.int x1), some (.int x2), some (.int x3)] [.int a1] σ
  refine h.if_ne (tgt := 11) (show decode cX5_pair 6 = .ok (.ifCond .ne 5, 3) by decide +kernel) (by decide) (fun c4 => ?_) (fun c4 => ?_)
  · rw [if_neg c4] at hf
    refine h.run (o := [kd 0 = 5, kd 1 = 0, kd 10 = 4]) (ls' := [some (.ref 0), some (.int x1), some (.int x2), some (.int x3)]) (st' := [.int 100, .int (σ.1 10 3)]) (σ' := σ) [(.aload_n 0, 1, 0, 0, 0, 0), (.getfield 10, 3, 0, 0, 5, 0), (.getfield 104, 3, 0, 0, 0, 5), (.getfield 71, 3, 0, 0, 4, 3), (.bipush 100, 2, 100, 0, 0, 0)] (pc2 := 23) (by decide +kernel) rfl (And.intro kd_0 (And.intro kd_1 (And.intro kd_10 trivial))) ?_
    refine h.icmp_lt (tgt := 29) (show decode cX5_pair 23 = .ok (.if_icmp .lt 6, 3) by decide +kernel) (by decide) (fun c3 => ?_) (fun c3 => ?_)
    · rw [if_pos c3] at hf
      refine h.run (o := []) (ls' := [some (.ref 0), some (.int x1), some (.int x2), some (.int x3)]) (st' := [.int x3, .int x2, .int x1, .ref 0]) (σ' := σ) [(.aload_n 0, 1, 0, 0, 0, 0), (.iload_n 1, 1, 0, 0, 0, 0), (.iload_n 2, 1, 0, 0, 0, 0), (.iload_n 3, 1, 0, 0, 0, 0)] (pc2 := 33) (by decide +kernel) rfl trivial ?_
      obtain ⟨a2, σ2, e2, hf⟩ := bI_some hf
      refine h.callV (as := [.int x1, .int x2, .int x3]) (rest := []) (by decide +kernel) lk5_121 cwX5_playAndWriteDown kd_0 (kmX5_playAndWriteDown l e2) rfl (Nat.le_of_ble_eq_true rfl) (Nat.le_of_ble_eq_true rfl) (Nat.le_of_ble_eq_true rfl) ?_
      show V 36 [some (.ref 0), some (.int x1), some (.int x2), some (.int x3)] [.int a2] σ2
      obtain ⟨rfl, rfl⟩ := Prod.mk.inj (Option.some.inj hf)
      exact hm.iret (by decide +kernel)
    · rw [if_neg c3] at hf
      show V 26 [some (.ref 0), some (.int x1), some (.int x2), some (.int x3)] [] σ
      refine h.run (o := []) (ls' := [some (.ref 0), some (.int x1), some (.int x2), some (.int x3)]) (st' := [.int (-2)]) (σ' := σ) [(.bipush (-2), 2, (-2), 0, 0, 0)] (pc2 := 28) (by decide +kernel) rfl trivial ?_
      obtain ⟨rfl, rfl⟩ := Prod.mk.inj (Option.some.inj hf)
      exact hm.iret (by decide +kernel)
  · rw [if_pos c4] at hf
    show V 9 [some (.ref 0), some (.int x1), some (.int x2), some (.int x3)] [] σ
    refine h.run (o := []) (ls' := [some (.ref 0), some (.int x1), some (.int x2), some (.int x3)]) (st' := [.int (-1)]) (σ' := σ) [(.iconst (-1), 1, (-1), 0, 0, 0)] (pc2 := 10) (by decide +kernel) rfl trivial ?_
    obtain ⟨rfl, rfl⟩ := Prod.mk.inj (Option.some.inj hf)
    exact hm.iret (by decide +kernel)
