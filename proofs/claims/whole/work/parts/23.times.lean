/-! Printed by wip/whole/prt.py: functions and walks. -/
def fX5_worth_20 (σ : ST) : Option (Int32 × ST) :=
  some ((-1000000001), σ)
set_option maxHeartbeats 4000000 in
theorem wX5_worth_20 {l : Launch} {V : Nat → List (Option Value) → List Value → ST → Prop} {r : Int32} {τ : ST} {σ : ST} (hm : BM l 5 cX5_worth 5 (some .int) 5 114 (some (.int r)) τ V) (hf : fX5_worth_20 σ = some (r, τ)) : V 20 [none, none, none, none, none] [] σ := by
  have h := hm.bd
  unfold fX5_worth_20 at hf
  refine h.run (o := []) (ls' := [none, none, none, none, none]) (st' := [.int (-1000000001)]) (σ' := σ) [(.ldc 153, 2, (-1000000001), 0, 0, 0)] (pc2 := 22) (by decide +kernel) rfl trivial ?_
  obtain ⟨rfl, rfl⟩ := Prod.mk.inj (Option.some.inj hf)
  exact hm.iret (by decide +kernel)
def fX5_worth (x1 : Int32) (x2 : Int32) (x3 : Int32) (σ : ST) : Option (Int32 × ST) :=
  bR (fX5_areThere x1 x2 σ) fun a1 =>
  if a1 = 0 then
    fX5_worth_20 σ
  else
    if x3 < 1 then
      fX5_worth_20 σ
    else
      if x3 ≤ 20 then
        bR (fX5_bring x1 x2 σ) fun σ2 =>
        bI (fX1_keptOver x3 σ2) fun a3 σ3 =>
        bR (fX5_bring x1 x2 σ3) fun σ4 =>
        bI (fX1_keptOver x3 (setI σ4 3 7 0)) fun a5 σ5 =>
        some (a3 - a5, σ5)
      else
        fX5_worth_20 σ
set_option maxHeartbeats 4000000 in
theorem kmX5_worth (l : Launch) {x1 : Int32} {x2 : Int32} {x3 : Int32} {σ : ST} {r : Int32} {τ : ST} (hf : fX5_worth x1 x2 x3 σ = some (r, τ)) : KM l yX5_worth cX5_worth 5 (some .int) 5 114 [.ref 0, .int x1, .int x2, .int x3] σ (some (.int r)) τ := by
  refine KM.intro (ow := 5) (by decide +kernel) rfl (Nat.le_of_ble_eq_true rfl) (fun V hm => ?_)
  show V 0 [some (.ref 0), some (.int x1), some (.int x2), some (.int x3), none] [] σ
  have h := hm.bd
  unfold fX5_worth at hf
  refine h.run (o := []) (ls' := [some (.ref 0), some (.int x1), some (.int x2), some (.int x3), none]) (st' := [.int x2, .int x1, .ref 0]) (σ' := σ) [(.aload_n 0, 1, 0, 0, 0, 0), (.iload_n 1, 1, 0, 0, 0, 0), (.iload_n 2, 1, 0, 0, 0, 0)] (pc2 := 3) (by decide +kernel) rfl trivial ?_
  obtain ⟨a1, e1, hf⟩ := bR_some hf
  refine h.callV (as := [.int x1, .int x2]) (rest := []) (by decide +kernel) lk5_117 cwX5_areThere kd_0 (kmX5_areThere l e1) rfl (Nat.le_of_ble_eq_true rfl) (Nat.le_of_ble_eq_true rfl) (Nat.le_of_ble_eq_true rfl) ?_
  show V 6 [some (.ref 0), some (.int x1), some (.int x2), some (.int x3), none] [.int a1] σ
  refine h.if_eq (tgt := 20) (show decode cX5_worth 6 = .ok (.ifCond .eq 14, 3) by decide +kernel) (by decide) (fun c8 => ?_) (fun c8 => ?_)
  · rw [if_pos c8] at hf
    refine h.drop (ls' := [none, none, none, none, none]) trivial ?_
    exact wX5_worth_20 hm hf
  · rw [if_neg c8] at hf
    show V 9 [some (.ref 0), some (.int x1), some (.int x2), some (.int x3), none] [] σ
    refine h.run (o := []) (ls' := [some (.ref 0), some (.int x1), some (.int x2), some (.int x3), none]) (st' := [.int 1, .int x3]) (σ' := σ) [(.iload_n 3, 1, 0, 0, 0, 0), (.iconst 1, 1, 1, 0, 0, 0)] (pc2 := 11) (by decide +kernel) rfl trivial ?_
    refine h.icmp_lt (tgt := 20) (show decode cX5_worth 11 = .ok (.if_icmp .lt 9, 3) by decide +kernel) (by decide) (fun c7 => ?_) (fun c7 => ?_)
    · rw [if_pos c7] at hf
      refine h.drop (ls' := [none, none, none, none, none]) trivial ?_
      exact wX5_worth_20 hm hf
    · rw [if_neg c7] at hf
      show V 14 [some (.ref 0), some (.int x1), some (.int x2), some (.int x3), none] [] σ
      refine h.run (o := []) (ls' := [some (.ref 0), some (.int x1), some (.int x2), some (.int x3), none]) (st' := [.int 20, .int x3]) (σ' := σ) [(.iload_n 3, 1, 0, 0, 0, 0), (.bipush 20, 2, 20, 0, 0, 0)] (pc2 := 17) (by decide +kernel) rfl trivial ?_
      refine h.icmp_le (tgt := 23) (show decode cX5_worth 17 = .ok (.if_icmp .le 6, 3) by decide +kernel) (by decide) (fun c6 => ?_) (fun c6 => ?_)
      · rw [if_pos c6] at hf
        refine h.run (o := []) (ls' := [some (.ref 0), some (.int x1), some (.int x2), some (.int x3), none]) (st' := [.int x2, .int x1, .ref 0]) (σ' := σ) [(.aload_n 0, 1, 0, 0, 0, 0), (.iload_n 1, 1, 0, 0, 0, 0), (.iload_n 2, 1, 0, 0, 0, 0)] (pc2 := 26) (by decide +kernel) rfl trivial ?_
        obtain ⟨σ2, e2, hf⟩ := bR_some hf
        refine h.callV (as := [.int x1, .int x2]) (rest := []) (by decide +kernel) lk5_139 cwX5_bring kd_0 (kmX5_bring l e2) rfl (Nat.le_of_ble_eq_true rfl) (Nat.le_of_ble_eq_true rfl) (Nat.le_of_ble_eq_true rfl) ?_
        show V 29 [some (.ref 0), some (.int x1), some (.int x2), some (.int x3), none] [] σ2
        refine h.run (o := [kd 0 = 5]) (ls' := [some (.ref 0), some (.int x1), some (.int x2), some (.int x3), none]) (st' := [.int x3, .ref 3]) (σ' := σ2) [(.aload_n 0, 1, 0, 0, 0, 0), (.getfield 26, 3, 0, 0, 5, 3), (.iload_n 3, 1, 0, 0, 0, 0)] (pc2 := 34) (by decide +kernel) rfl (And.intro kd_0 trivial) ?_
        obtain ⟨a3, σ3, e3, hf⟩ := bI_some hf
        refine h.callV (as := [.int x3]) (rest := []) (by decide +kernel) lk5_170 cwX1_keptOver kd_3 (kmX1_keptOver l e3) rfl (Nat.le_of_ble_eq_true rfl) (Nat.le_of_ble_eq_true rfl) (Nat.le_of_ble_eq_true rfl) ?_
        show V 37 [some (.ref 0), some (.int x1), some (.int x2), some (.int x3), none] [.int a3] σ3
        refine h.run (o := []) (ls' := [some (.ref 0), some (.int x1), some (.int x2), some (.int x3), some (.int a3)]) (st' := [.int x2, .int x1, .ref 0]) (σ' := σ3) [(.istore 4, 2, 0, 0, 0, 0), (.aload_n 0, 1, 0, 0, 0, 0), (.iload_n 1, 1, 0, 0, 0, 0), (.iload_n 2, 1, 0, 0, 0, 0)] (pc2 := 42) (by decide +kernel) rfl trivial ?_
        obtain ⟨σ4, e4, hf⟩ := bR_some hf
        refine h.callV (as := [.int x1, .int x2]) (rest := []) (by decide +kernel) lk5_139 cwX5_bring kd_0 (kmX5_bring l e4) rfl (Nat.le_of_ble_eq_true rfl) (Nat.le_of_ble_eq_true rfl) (Nat.le_of_ble_eq_true rfl) ?_
        show V 45 [some (.ref 0), some (.int x1), some (.int x2), some (.int x3), some (.int a3)] [] σ4
        refine h.run (o := [kd 0 = 5, kd 3 = 1, kd 0 = 5]) (ls' := [some (.ref 0), some (.int x1), some (.int x2), some (.int x3), some (.int a3)]) (st' := [.int x3, .ref 3, .int a3]) (σ' := setI σ4 3 7 0) [(.aload_n 0, 1, 0, 0, 0, 0), (.getfield 26, 3, 0, 0, 5, 3), (.iconst 0, 1, 0, 0, 0, 0), (.putfield 173, 3, 0, 0, 1, 7), (.iload 4, 2, 0, 0, 0, 0), (.aload_n 0, 1, 0, 0, 0, 0), (.getfield 26, 3, 0, 0, 5, 3), (.iload_n 3, 1, 0, 0, 0, 0)] (pc2 := 60) (by decide +kernel) rfl (And.intro kd_0 (And.intro kd_3 (And.intro kd_0 trivial))) ?_
        obtain ⟨a5, σ5, e5, hf⟩ := bI_some hf
        refine h.callV (as := [.int x3]) (rest := [.int a3]) (by decide +kernel) lk5_170 cwX1_keptOver kd_3 (kmX1_keptOver l e5) rfl (Nat.le_of_ble_eq_true rfl) (Nat.le_of_ble_eq_true rfl) (Nat.le_of_ble_eq_true rfl) ?_
        show V 63 [some (.ref 0), some (.int x1), some (.int x2), some (.int x3), some (.int a3)] [.int a5, .int a3] σ5
        refine h.run (o := []) (ls' := [some (.ref 0), some (.int x1), some (.int x2), some (.int x3), some (.int a3)]) (st' := [.int (a3 - a5)]) (σ' := σ5) [(.isub, 1, 0, 0, 0, 0)] (pc2 := 64) (by decide +kernel) rfl trivial ?_
        obtain ⟨rfl, rfl⟩ := Prod.mk.inj (Option.some.inj hf)
        exact hm.iret (by decide +kernel)
      · rw [if_neg c6] at hf
        show V 20 [some (.ref 0), some (.int x1), some (.int x2), some (.int x3), none] [] σ
        refine h.drop (ls' := [none, none, none, none, none]) trivial ?_
        exact wX5_worth_20 hm hf
def fX5_promise_19 (σ : ST) : Option (Int32 × ST) :=
  some ((-1000000001), σ)
set_option maxHeartbeats 4000000 in
theorem wX5_promise_19 {l : Launch} {V : Nat → List (Option Value) → List Value → ST → Prop} {r : Int32} {τ : ST} {σ : ST} (hm : BM l 5 cX5_promise 5 (some .int) 5 114 (some (.int r)) τ V) (hf : fX5_promise_19 σ = some (r, τ)) : V 19 [none, none, none, none, none] [] σ := by
  have h := hm.bd
  unfold fX5_promise_19 at hf
  refine h.run (o := []) (ls' := [none, none, none, none, none]) (st' := [.int (-1000000001)]) (σ' := σ) [(.ldc 153, 2, (-1000000001), 0, 0, 0)] (pc2 := 21) (by decide +kernel) rfl trivial ?_
  obtain ⟨rfl, rfl⟩ := Prod.mk.inj (Option.some.inj hf)
  exact hm.iret (by decide +kernel)
def fX5_promise (x1 : Int32) (x2 : Int32) (x3 : Int32) (σ : ST) : Option (Int32 × ST) :=
  bR (fX5_areThere x1 x2 σ) fun a1 =>
  if a1 = 0 then
    fX5_promise_19 σ
  else
    if x3 < 0 then
      fX5_promise_19 σ
    else
      if x3 ≤ 100 then
        bR (fX5_bring x1 x2 σ) fun σ2 =>
        bI (fX1_wouldSend (setI σ2 3 10 x3)) fun a3 σ3 =>
        bI (fX1_wouldSend (setI σ3 3 10 0)) fun a4 σ4 =>
        some (a3 - a4, σ4)
      else
        fX5_promise_19 σ
set_option maxHeartbeats 4000000 in
theorem kmX5_promise (l : Launch) {x1 : Int32} {x2 : Int32} {x3 : Int32} {σ : ST} {r : Int32} {τ : ST} (hf : fX5_promise x1 x2 x3 σ = some (r, τ)) : KM l yX5_promise cX5_promise 5 (some .int) 5 114 [.ref 0, .int x1, .int x2, .int x3] σ (some (.int r)) τ := by
  refine KM.intro (ow := 5) (by decide +kernel) rfl (Nat.le_of_ble_eq_true rfl) (fun V hm => ?_)
  show V 0 [some (.ref 0), some (.int x1), some (.int x2), some (.int x3), none] [] σ
  have h := hm.bd
  unfold fX5_promise at hf
  refine h.run (o := []) (ls' := [some (.ref 0), some (.int x1), some (.int x2), some (.int x3), none]) (st' := [.int x2, .int x1, .ref 0]) (σ' := σ) [(.aload_n 0, 1, 0, 0, 0, 0), (.iload_n 1, 1, 0, 0, 0, 0), (.iload_n 2, 1, 0, 0, 0, 0)] (pc2 := 3) (by decide +kernel) rfl trivial ?_
  obtain ⟨a1, e1, hf⟩ := bR_some hf
  refine h.callV (as := [.int x1, .int x2]) (rest := []) (by decide +kernel) lk5_117 cwX5_areThere kd_0 (kmX5_areThere l e1) rfl (Nat.le_of_ble_eq_true rfl) (Nat.le_of_ble_eq_true rfl) (Nat.le_of_ble_eq_true rfl) ?_
  show V 6 [some (.ref 0), some (.int x1), some (.int x2), some (.int x3), none] [.int a1] σ
  refine h.if_eq (tgt := 19) (show decode cX5_promise 6 = .ok (.ifCond .eq 13, 3) by decide +kernel) (by decide) (fun c7 => ?_) (fun c7 => ?_)
  · rw [if_pos c7] at hf
    refine h.drop (ls' := [none, none, none, none, none]) trivial ?_
    exact wX5_promise_19 hm hf
  · rw [if_neg c7] at hf
    show V 9 [some (.ref 0), some (.int x1), some (.int x2), some (.int x3), none] [] σ
    refine h.run (o := []) (ls' := [some (.ref 0), some (.int x1), some (.int x2), some (.int x3), none]) (st' := [.int x3]) (σ' := σ) [(.iload_n 3, 1, 0, 0, 0, 0)] (pc2 := 10) (by decide +kernel) rfl trivial ?_
    refine h.if_lt (tgt := 19) (show decode cX5_promise 10 = .ok (.ifCond .lt 9, 3) by decide +kernel) (by decide) (fun c6 => ?_) (fun c6 => ?_)
    · rw [if_pos c6] at hf
      refine h.drop (ls' := [none, none, none, none, none]) trivial ?_
      exact wX5_promise_19 hm hf
    · rw [if_neg c6] at hf
      show V 13 [some (.ref 0), some (.int x1), some (.int x2), some (.int x3), none] [] σ
      refine h.run (o := []) (ls' := [some (.ref 0), some (.int x1), some (.int x2), some (.int x3), none]) (st' := [.int 100, .int x3]) (σ' := σ) [(.iload_n 3, 1, 0, 0, 0, 0), (.bipush 100, 2, 100, 0, 0, 0)] (pc2 := 16) (by decide +kernel) rfl trivial ?_
      refine h.icmp_le (tgt := 22) (show decode cX5_promise 16 = .ok (.if_icmp .le 6, 3) by decide +kernel) (by decide) (fun c5 => ?_) (fun c5 => ?_)
      · rw [if_pos c5] at hf
        refine h.run (o := []) (ls' := [some (.ref 0), some (.int x1), some (.int x2), some (.int x3), none]) (st' := [.int x2, .int x1, .ref 0]) (σ' := σ) [(.aload_n 0, 1, 0, 0, 0, 0), (.iload_n 1, 1, 0, 0, 0, 0), (.iload_n 2, 1, 0, 0, 0, 0)] (pc2 := 25) (by decide +kernel) rfl trivial ?_
        obtain ⟨σ2, e2, hf⟩ := bR_some hf
        refine h.callV (as := [.int x1, .int x2]) (rest := []) (by decide +kernel) lk5_139 cwX5_bring kd_0 (kmX5_bring l e2) rfl (Nat.le_of_ble_eq_true rfl) (Nat.le_of_ble_eq_true rfl) (Nat.le_of_ble_eq_true rfl) ?_
        show V 28 [some (.ref 0), some (.int x1), some (.int x2), some (.int x3), none] [] σ2
        refine h.run (o := [kd 0 = 5, kd 3 = 1, kd 0 = 5]) (ls' := [some (.ref 0), some (.int x1), some (.int x2), some (.int x3), none]) (st' := [.ref 3]) (σ' := setI σ2 3 10 x3) [(.aload_n 0, 1, 0, 0, 0, 0), (.getfield 26, 3, 0, 0, 5, 3), (.iload_n 3, 1, 0, 0, 0, 0), (.putfield 176, 3, 0, 0, 1, 10), (.aload_n 0, 1, 0, 0, 0, 0), (.getfield 26, 3, 0, 0, 5, 3)] (pc2 := 40) (by decide +kernel) rfl (And.intro kd_0 (And.intro kd_3 (And.intro kd_0 trivial))) ?_
        obtain ⟨a3, σ3, e3, hf⟩ := bI_some hf
        refine h.callV (as := []) (rest := []) (by decide +kernel) lk5_143 cwX1_wouldSend kd_3 (kmX1_wouldSend l e3) rfl (Nat.le_of_ble_eq_true rfl) (Nat.le_of_ble_eq_true rfl) (Nat.le_of_ble_eq_true rfl) ?_
        show V 43 [some (.ref 0), some (.int x1), some (.int x2), some (.int x3), none] [.int a3] σ3
        refine h.run (o := [kd 0 = 5, kd 3 = 1, kd 0 = 5]) (ls' := [some (.ref 0), some (.int x1), some (.int x2), some (.int x3), some (.int a3)]) (st' := [.ref 3, .int a3]) (σ' := setI σ3 3 10 0) [(.istore 4, 2, 0, 0, 0, 0), (.aload_n 0, 1, 0, 0, 0, 0), (.getfield 26, 3, 0, 0, 5, 3), (.iconst 0, 1, 0, 0, 0, 0), (.putfield 176, 3, 0, 0, 1, 10), (.iload 4, 2, 0, 0, 0, 0), (.aload_n 0, 1, 0, 0, 0, 0), (.getfield 26, 3, 0, 0, 5, 3)] (pc2 := 59) (by decide +kernel) rfl (And.intro kd_0 (And.intro kd_3 (And.intro kd_0 trivial))) ?_
        obtain ⟨a4, σ4, e4, hf⟩ := bI_some hf
        refine h.callV (as := []) (rest := [.int a3]) (by decide +kernel) lk5_143 cwX1_wouldSend kd_3 (kmX1_wouldSend l e4) rfl (Nat.le_of_ble_eq_true rfl) (Nat.le_of_ble_eq_true rfl) (Nat.le_of_ble_eq_true rfl) ?_
        show V 62 [some (.ref 0), some (.int x1), some (.int x2), some (.int x3), some (.int a3)] [.int a4, .int a3] σ4
        refine h.run (o := []) (ls' := [some (.ref 0), some (.int x1), some (.int x2), some (.int x3), some (.int a3)]) (st' := [.int (a3 - a4)]) (σ' := σ4) [(.isub, 1, 0, 0, 0, 0)] (pc2 := 63) (by decide +kernel) rfl trivial ?_
        obtain ⟨rfl, rfl⟩ := Prod.mk.inj (Option.some.inj hf)
        exact hm.iret (by decide +kernel)
      · rw [if_neg c5] at hf
        show V 19 [some (.ref 0), some (.int x1), some (.int x2), some (.int x3), none] [] σ
        refine h.drop (ls' := [none, none, none, none, none]) trivial ?_
        exact wX5_promise_19 hm hf
def fX5_lastTurn_30 (σ : ST) : Option Int32 :=
  some (-1)
set_option maxHeartbeats 4000000 in
theorem wX5_lastTurn_30 {l : Launch} {V : Nat → List (Option Value) → List Value → ST → Prop} {r : Int32} {σ : ST} (hm : BM l 5 cX5_lastTurn 9 (some .int) 0 0 (some (.int r)) σ V) (hf : fX5_lastTurn_30 σ = some r) : V 30 [none, none, none, none, none, none, none, none, none] [] σ := by
  have h := hm.bd
  unfold fX5_lastTurn_30 at hf
  refine h.run (o := []) (ls' := [none, none, none, none, none, none, none, none, none]) (st' := [.int (-1)]) (σ' := σ) [(.iconst (-1), 1, (-1), 0, 0, 0)] (pc2 := 31) (by decide +kernel) rfl trivial ?_
  obtain rfl := Option.some.inj hf
  exact hm.iret (by decide +kernel)
def fX5_lastTurn_135 (t0 : Int32) (σ : ST) : Option Int32 :=
  some t0
set_option maxHeartbeats 4000000 in
theorem wX5_lastTurn_135 {l : Launch} {V : Nat → List (Option Value) → List Value → ST → Prop} {r : Int32} {σ : ST} {t0 : Int32} (hm : BM l 5 cX5_lastTurn 9 (some .int) 0 0 (some (.int r)) σ V) (hf : fX5_lastTurn_135 t0 σ = some r) : V 135 [none, none, none, none, none, none, none, none, none] [.int t0] σ := by
  have h := hm.bd
  unfold fX5_lastTurn_135 at hf
  obtain rfl := Option.some.inj hf
  exact hm.iret (by decide +kernel)
def fX5_lastTurn_118 (kt_62 : Int32 → Int32 → Int32 → Int32 → Int32 → Int32 → Option Int32) (x2 : Int32) (x3 : Int32) (x4 : Int32) (x5 : Int32) (x6 : Int32) (x7 : Int32) (σ : ST) : Option Int32 :=
  kt_62 x2 x3 x4 x5 x6 (x7 + (-1))
set_option maxHeartbeats 4000000 in
theorem wX5_lastTurn_118 {l : Launch} {V : Nat → List (Option Value) → List Value → ST → Prop} {r : Int32} {σ : ST} {x2 : Int32} {x3 : Int32} {x4 : Int32} {x5 : Int32} {x6 : Int32} {x7 : Int32} {kt_62 : Int32 → Int32 → Int32 → Int32 → Int32 → Int32 → Option Int32} (hm : BM l 5 cX5_lastTurn 9 (some .int) 0 0 (some (.int r)) σ V) (hkt_62 : ∀ (x2 : Int32) (x3 : Int32) (x4 : Int32) (x5 : Int32) (x6 : Int32) (x7 : Int32), kt_62 x2 x3 x4 x5 x6 x7 = some r → V 62 [some (.ref 0), none, some (.int x2), some (.int x3), some (.int x4), some (.int x5), some (.int x6), some (.int x7), none] [] σ) (hf : fX5_lastTurn_118 kt_62 x2 x3 x4 x5 x6 x7 σ = some r) : V 118 [some (.ref 0), none, some (.int x2), some (.int x3), some (.int x4), some (.int x5), some (.int x6), some (.int x7), none] [] σ := by
  have h := hm.bd
  unfold fX5_lastTurn_118 at hf
  refine h.run (o := []) (ls' := [some (.ref 0), none, some (.int x2), some (.int x3), some (.int x4), some (.int x5), some (.int x6), some (.int (x7 + (-1))), none]) (st' := []) (σ' := σ) [(.iinc 7 (-1), 3, (-1), 0, 0, 0), (.goto (-59), 3, 0, 0, 0, 62)] (pc2 := 62) (by decide +kernel) rfl trivial ?_
  exact hkt_62 x2 x3 x4 x5 x6 (x7 + (-1)) hf
def fX5_lastTurn_79 (kt_62 : Int32 → Int32 → Int32 → Int32 → Int32 → Int32 → Option Int32) (x2 : Int32) (x3 : Int32) (x4 : Int32) (x5 : Int32) (x6 : Int32) (x7 : Int32) (t0 : Int32) (σ : ST) : Option Int32 :=
  if t0 ≤ (σ.1 1 0) then
    fX5_lastTurn_118 kt_62 x2 x3 x4 x5 (x6 + (σ.1 1 0)) x7 σ
  else
    fX5_lastTurn_118 kt_62 x2 x3 x4 (x5 + 1) (x6 + t0) x7 σ
set_option maxHeartbeats 4000000 in
theorem wX5_lastTurn_79 {l : Launch} {V : Nat → List (Option Value) → List Value → ST → Prop} {r : Int32} {σ : ST} {x2 : Int32} {x3 : Int32} {x4 : Int32} {x5 : Int32} {x6 : Int32} {x7 : Int32} {t0 : Int32} {kt_62 : Int32 → Int32 → Int32 → Int32 → Int32 → Int32 → Option Int32} (hm : BM l 5 cX5_lastTurn 9 (some .int) 0 0 (some (.int r)) σ V) (hkt_62 : ∀ (x2 : Int32) (x3 : Int32) (x4 : Int32) (x5 : Int32) (x6 : Int32) (x7 : Int32), kt_62 x2 x3 x4 x5 x6 x7 = some r → V 62 [some (.ref 0), none, some (.int x2), some (.int x3), some (.int x4), some (.int x5), some (.int x6), some (.int x7), none] [] σ) (hf : fX5_lastTurn_79 kt_62 x2 x3 x4 x5 x6 x7 t0 σ = some r) : V 79 [some (.ref 0), none, some (.int x2), some (.int x3), some (.int x4), some (.int x5), some (.int x6), some (.int x7), none] [.int t0] σ := by
  have h := hm.bd
  unfold fX5_lastTurn_79 at hf
  refine h.run (o := [kd 0 = 5, kd 1 = 0]) (ls' := [some (.ref 0), none, some (.int x2), some (.int x3), some (.int x4), some (.int x5), some (.int x6), some (.int x7), some (.int t0)]) (st' := [.int (σ.1 1 0), .int t0]) (σ' := σ) [(.istore 8, 2, 0, 0, 0, 0), (.iload 8, 2, 0, 0, 0, 0), (.aload_n 0, 1, 0, 0, 0, 0), (.getfield 10, 3, 0, 0, 5, 0), (.getfield 107, 3, 0, 0, 0, 0)] (pc2 := 90) (by decide +kernel) rfl (And.intro kd_0 (And.intro kd_1 trivial)) ?_
  refine h.icmp_le (tgt := 106) (show decode cX5_lastTurn 90 = .ok (.if_icmp .le 16, 3) by decide +kernel) (by decide) (fun c1 => ?_) (fun c1 => ?_)
  · rw [if_pos c1] at hf
    refine h.run (o := [kd 0 = 5, kd 1 = 0]) (ls' := [some (.ref 0), none, some (.int x2), some (.int x3), some (.int x4), some (.int x5), some (.int (x6 + (σ.1 1 0))), some (.int x7), some (.int t0)]) (st' := []) (σ' := σ) [(.iload 6, 2, 0, 0, 0, 0), (.aload_n 0, 1, 0, 0, 0, 0), (.getfield 10, 3, 0, 0, 5, 0), (.getfield 107, 3, 0, 0, 0, 0), (.iadd, 1, 0, 0, 0, 0), (.istore 6, 2, 0, 0, 0, 0)] (pc2 := 118) (by decide +kernel) rfl (And.intro kd_0 (And.intro kd_1 trivial)) ?_
    refine h.drop (ls' := [some (.ref 0), none, some (.int x2), some (.int x3), some (.int x4), some (.int x5), some (.int (x6 + (σ.1 1 0))), some (.int x7), none]) (And.intro rfl (And.intro rfl (And.intro rfl (And.intro rfl (And.intro rfl (And.intro rfl (And.intro rfl trivial))))))) ?_
    exact wX5_lastTurn_118 hm hkt_62 hf
  · rw [if_neg c1] at hf
    show V 93 [some (.ref 0), none, some (.int x2), some (.int x3), some (.int x4), some (.int x5), some (.int x6), some (.int x7), some (.int t0)] [] σ
    refine h.run (o := []) (ls' := [some (.ref 0), none, some (.int x2), some (.int x3), some (.int x4), some (.int (x5 + 1)), some (.int (x6 + t0)), some (.int x7), some (.int t0)]) (st' := []) (σ' := σ) [(.iinc 5 1, 3, 1, 0, 0, 0), (.iload 6, 2, 0, 0, 0, 0), (.iload 8, 2, 0, 0, 0, 0), (.iadd, 1, 0, 0, 0, 0), (.istore 6, 2, 0, 0, 0, 0), (.goto 15, 3, 0, 0, 0, 118)] (pc2 := 118) (by decide +kernel) rfl trivial ?_
    refine h.drop (ls' := [some (.ref 0), none, some (.int x2), some (.int x3), some (.int x4), some (.int (x5 + 1)), some (.int (x6 + t0)), some (.int x7), none]) (And.intro rfl (And.intro rfl (And.intro rfl (And.intro rfl (And.intro rfl (And.intro rfl (And.intro rfl trivial))))))) ?_
    exact wX5_lastTurn_118 hm hkt_62 hf
def fX5_lastTurn_62 (σ : ST) (n : Nat) (x2 : Int32) (x3 : Int32) (x4 : Int32) (x5 : Int32) (x6 : Int32) (x7 : Int32) : Option Int32 := match n with
  | 0 => none
  | n + 1 =>
    if x7 < 0 then
      if x3 = 0 then
        fX5_lastTurn_135 x5 σ
      else
        fX5_lastTurn_135 x6 σ
    else
      if x7 < x2 then
        fX5_lastTurn_79 (fX5_lastTurn_62 σ n) x2 x3 x4 x5 x6 x7 0 σ
      else
        fX5_lastTurn_79 (fX5_lastTurn_62 σ n) x2 x3 x4 x5 x6 x7 x4 σ
set_option maxHeartbeats 4000000 in
theorem wX5_lastTurn_62 {l : Launch} {V : Nat → List (Option Value) → List Value → ST → Prop} {r : Int32} {σ : ST} (hm : BM l 5 cX5_lastTurn 9 (some .int) 0 0 (some (.int r)) σ V) : ∀ (n : Nat) (x2 : Int32) (x3 : Int32) (x4 : Int32) (x5 : Int32) (x6 : Int32) (x7 : Int32), fX5_lastTurn_62 σ n x2 x3 x4 x5 x6 x7 = some r → V 62 [some (.ref 0), none, some (.int x2), some (.int x3), some (.int x4), some (.int x5), some (.int x6), some (.int x7), none] [] σ := by
  have h := hm.bd
  intro n
  induction n with
  | zero => intro x2 x3 x4 x5 x6 x7 hf; cases hf
  | succ n ih =>
    intro x2 x3 x4 x5 x6 x7 hf
    rw [fX5_lastTurn_62] at hf
    refine h.run (o := []) (ls' := [some (.ref 0), none, some (.int x2), some (.int x3), some (.int x4), some (.int x5), some (.int x6), some (.int x7), none]) (st' := [.int x7]) (σ' := σ) [(.iload 7, 2, 0, 0, 0, 0)] (pc2 := 64) (by decide +kernel) rfl trivial ?_
    refine h.if_lt (tgt := 124) (show decode cX5_lastTurn 64 = .ok (.ifCond .lt 60, 3) by decide +kernel) (by decide) (fun c3 => ?_) (fun c3 => ?_)
    · rw [if_pos c3] at hf
      refine h.run (o := []) (ls' := [some (.ref 0), none, some (.int x2), some (.int x3), some (.int x4), some (.int x5), some (.int x6), some (.int x7), none]) (st' := [.int x3]) (σ' := σ) [(.iload_n 3, 1, 0, 0, 0, 0)] (pc2 := 125) (by decide +kernel) rfl trivial ?_
      refine h.if_ne (tgt := 133) (show decode cX5_lastTurn 125 = .ok (.ifCond .ne 8, 3) by decide +kernel) (by decide) (fun c1 => ?_) (fun c1 => ?_)
      · rw [if_neg c1] at hf
        refine h.run (o := []) (ls' := [some (.ref 0), none, some (.int x2), some (.int x3), some (.int x4), some (.int x5), some (.int x6), some (.int x7), none]) (st' := [.int x6]) (σ' := σ) [(.iload 6, 2, 0, 0, 0, 0)] (pc2 := 135) (by decide +kernel) rfl trivial ?_
        refine h.drop (ls' := [none, none, none, none, none, none, none, none, none]) trivial ?_
        exact wX5_lastTurn_135 hm hf
      · rw [if_pos c1] at hf
        show V 128 [some (.ref 0), none, some (.int x2), some (.int x3), some (.int x4), some (.int x5), some (.int x6), some (.int x7), none] [] σ
        refine h.run (o := []) (ls' := [some (.ref 0), none, some (.int x2), some (.int x3), some (.int x4), some (.int x5), some (.int x6), some (.int x7), none]) (st' := [.int x5]) (σ' := σ) [(.iload 5, 2, 0, 0, 0, 0), (.goto 5, 3, 0, 0, 0, 135)] (pc2 := 135) (by decide +kernel) rfl trivial ?_
        refine h.drop (ls' := [none, none, none, none, none, none, none, none, none]) trivial ?_
        exact wX5_lastTurn_135 hm hf
    · rw [if_neg c3] at hf
      show V 67 [some (.ref 0), none, some (.int x2), some (.int x3), some (.int x4), some (.int x5), some (.int x6), some (.int x7), none] [] σ
      refine h.run (o := []) (ls' := [some (.ref 0), none, some (.int x2), some (.int x3), some (.int x4), some (.int x5), some (.int x6), some (.int x7), none]) (st' := [.int x2, .int x7]) (σ' := σ) [(.iload 7, 2, 0, 0, 0, 0), (.iload_n 2, 1, 0, 0, 0, 0)] (pc2 := 70) (by decide +kernel) rfl trivial ?_
      refine h.icmp_lt (tgt := 78) (show decode cX5_lastTurn 70 = .ok (.if_icmp .lt 8, 3) by decide +kernel) (by decide) (fun c2 => ?_) (fun c2 => ?_)
      · rw [if_pos c2] at hf
        refine h.run (o := []) (ls' := [some (.ref 0), none, some (.int x2), some (.int x3), some (.int x4), some (.int x5), some (.int x6), some (.int x7), none]) (st' := [.int 0]) (σ' := σ) [(.iconst 0, 1, 0, 0, 0, 0)] (pc2 := 79) (by decide +kernel) rfl trivial ?_
        exact wX5_lastTurn_79 hm ih hf
      · rw [if_neg c2] at hf
        show V 73 [some (.ref 0), none, some (.int x2), some (.int x3), some (.int x4), some (.int x5), some (.int x6), some (.int x7), none] [] σ
        refine h.run (o := []) (ls' := [some (.ref 0), none, some (.int x2), some (.int x3), some (.int x4), some (.int x5), some (.int x6), some (.int x7), none]) (st' := [.int x4]) (σ' := σ) [(.iload 4, 2, 0, 0, 0, 0), (.goto 4, 3, 0, 0, 0, 79)] (pc2 := 79) (by decide +kernel) rfl trivial ?_
        exact wX5_lastTurn_79 hm ih hf
def fX5_lastTurn (x1 : Int32) (x2 : Int32) (x3 : Int32) (σ : ST) : Option Int32 :=
  if x1 < 1 then
    fX5_lastTurn_30 σ
  else
    if 12 < x1 then
      fX5_lastTurn_30 σ
    else
      if x2 < 0 then
        fX5_lastTurn_30 σ
      else
        if 12 < x2 then
          fX5_lastTurn_30 σ
        else
          if x3 < 0 then
            fX5_lastTurn_30 σ
          else
            if x3 ≤ 1 then
              fX5_lastTurn_62 σ FU x2 x3 (((σ.1 1 0) * (σ.1 1 1)) / 2) 0 0 (x1 - 1)
            else
              fX5_lastTurn_30 σ
set_option maxHeartbeats 4000000 in
theorem kmX5_lastTurn (l : Launch) {x1 : Int32} {x2 : Int32} {x3 : Int32} {σ : ST} {r : Int32} (hf : fX5_lastTurn x1 x2 x3 σ = some r) : KM l yX5_lastTurn cX5_lastTurn 9 (some .int) 0 0 [.ref 0, .int x1, .int x2, .int x3] σ (some (.int r)) σ := by
  refine KM.intro (ow := 5) (by decide +kernel) rfl (Nat.le_of_ble_eq_true rfl) (fun V hm => ?_)
  show V 0 [some (.ref 0), some (.int x1), some (.int x2), some (.int x3), none, none, none, none, none] [] σ
  have h := hm.bd
  unfold fX5_lastTurn at hf
  refine h.run (o := []) (ls' := [some (.ref 0), some (.int x1), some (.int x2), some (.int x3), none, none, none, none, none]) (st' := [.int 1, .int x1]) (σ' := σ) [(.iload_n 1, 1, 0, 0, 0, 0), (.iconst 1, 1, 1, 0, 0, 0)] (pc2 := 2) (by decide +kernel) rfl trivial ?_
  refine h.icmp_lt (tgt := 30) (show decode cX5_lastTurn 2 = .ok (.if_icmp .lt 28, 3) by decide +kernel) (by decide) (fun c6 => ?_) (fun c6 => ?_)
  · rw [if_pos c6] at hf
    refine h.drop (ls' := [none, none, none, none, none, none, none, none, none]) trivial ?_
    exact wX5_lastTurn_30 hm hf
  · rw [if_neg c6] at hf
    show V 5 [some (.ref 0), some (.int x1), some (.int x2), some (.int x3), none, none, none, none, none] [] σ
    refine h.run (o := []) (ls' := [some (.ref 0), some (.int x1), some (.int x2), some (.int x3), none, none, none, none, none]) (st' := [.int 12, .int x1]) (σ' := σ) [(.iload_n 1, 1, 0, 0, 0, 0), (.bipush 12, 2, 12, 0, 0, 0)] (pc2 := 8) (by decide +kernel) rfl trivial ?_
    refine h.icmp_gt (tgt := 30) (show decode cX5_lastTurn 8 = .ok (.if_icmp .gt 22, 3) by decide +kernel) (by decide) (fun c5 => ?_) (fun c5 => ?_)
    · rw [if_pos c5] at hf
      refine h.drop (ls' := [none, none, none, none, none, none, none, none, none]) trivial ?_
      exact wX5_lastTurn_30 hm hf
    · rw [if_neg c5] at hf
      show V 11 [some (.ref 0), some (.int x1), some (.int x2), some (.int x3), none, none, none, none, none] [] σ
      refine h.run (o := []) (ls' := [some (.ref 0), some (.int x1), some (.int x2), some (.int x3), none, none, none, none, none]) (st' := [.int x2]) (σ' := σ) [(.iload_n 2, 1, 0, 0, 0, 0)] (pc2 := 12) (by decide +kernel) rfl trivial ?_
      refine h.if_lt (tgt := 30) (show decode cX5_lastTurn 12 = .ok (.ifCond .lt 18, 3) by decide +kernel) (by decide) (fun c4 => ?_) (fun c4 => ?_)
      · rw [if_pos c4] at hf
        refine h.drop (ls' := [none, none, none, none, none, none, none, none, none]) trivial ?_
        exact wX5_lastTurn_30 hm hf
      · rw [if_neg c4] at hf
        show V 15 [some (.ref 0), some (.int x1), some (.int x2), some (.int x3), none, none, none, none, none] [] σ
        refine h.run (o := []) (ls' := [some (.ref 0), some (.int x1), some (.int x2), some (.int x3), none, none, none, none, none]) (st' := [.int 12, .int x2]) (σ' := σ) [(.iload_n 2, 1, 0, 0, 0, 0), (.bipush 12, 2, 12, 0, 0, 0)] (pc2 := 18) (by decide +kernel) rfl trivial ?_
        refine h.icmp_gt (tgt := 30) (show decode cX5_lastTurn 18 = .ok (.if_icmp .gt 12, 3) by decide +kernel) (by decide) (fun c3 => ?_) (fun c3 => ?_)
        · rw [if_pos c3] at hf
          refine h.drop (ls' := [none, none, none, none, none, none, none, none, none]) trivial ?_
          exact wX5_lastTurn_30 hm hf
        · rw [if_neg c3] at hf
          show V 21 [some (.ref 0), some (.int x1), some (.int x2), some (.int x3), none, none, none, none, none] [] σ
          refine h.run (o := []) (ls' := [some (.ref 0), some (.int x1), some (.int x2), some (.int x3), none, none, none, none, none]) (st' := [.int x3]) (σ' := σ) [(.iload_n 3, 1, 0, 0, 0, 0)] (pc2 := 22) (by decide +kernel) rfl trivial ?_
          refine h.if_lt (tgt := 30) (show decode cX5_lastTurn 22 = .ok (.ifCond .lt 8, 3) by decide +kernel) (by decide) (fun c2 => ?_) (fun c2 => ?_)
          · rw [if_pos c2] at hf
            refine h.drop (ls' := [none, none, none, none, none, none, none, none, none]) trivial ?_
            exact wX5_lastTurn_30 hm hf
          · rw [if_neg c2] at hf
            show V 25 [some (.ref 0), some (.int x1), some (.int x2), some (.int x3), none, none, none, none, none] [] σ
            refine h.run (o := []) (ls' := [some (.ref 0), some (.int x1), some (.int x2), some (.int x3), none, none, none, none, none]) (st' := [.int 1, .int x3]) (σ' := σ) [(.iload_n 3, 1, 0, 0, 0, 0), (.iconst 1, 1, 1, 0, 0, 0)] (pc2 := 27) (by decide +kernel) rfl trivial ?_
            refine h.icmp_le (tgt := 32) (show decode cX5_lastTurn 27 = .ok (.if_icmp .le 5, 3) by decide +kernel) (by decide) (fun c1 => ?_) (fun c1 => ?_)
            · rw [if_pos c1] at hf
              refine h.run (o := [kd 0 = 5, kd 1 = 0, kd 0 = 5, kd 1 = 0, ¬ 2 = 0]) (ls' := [some (.ref 0), some (.int x1), some (.int x2), some (.int x3), some (.int (((σ.1 1 0) * (σ.1 1 1)) / 2)), some (.int 0), some (.int 0), some (.int (x1 - 1)), none]) (st' := []) (σ' := σ) [(.aload_n 0, 1, 0, 0, 0, 0), (.getfield 10, 3, 0, 0, 5, 0), (.getfield 107, 3, 0, 0, 0, 0), (.aload_n 0, 1, 0, 0, 0, 0), (.getfield 10, 3, 0, 0, 5, 0), (.getfield 110, 3, 0, 0, 0, 1), (.imul, 1, 0, 0, 0, 0), (.iconst 2, 1, 2, 0, 0, 0), (.idiv, 1, 0, 0, 0, 0), (.istore 4, 2, 0, 0, 0, 0), (.iconst 0, 1, 0, 0, 0, 0), (.istore 5, 2, 0, 0, 0, 0), (.iconst 0, 1, 0, 0, 0, 0), (.istore 6, 2, 0, 0, 0, 0), (.iload_n 1, 1, 0, 0, 0, 0), (.iconst 1, 1, 1, 0, 0, 0), (.isub, 1, 0, 0, 0, 0), (.istore 7, 2, 0, 0, 0, 0)] (pc2 := 62) (by decide +kernel) rfl (And.intro kd_0 (And.intro kd_1 (And.intro kd_0 (And.intro kd_1 (And.intro (by decide) trivial))))) ?_
              refine h.drop (ls' := [some (.ref 0), none, some (.int x2), some (.int x3), some (.int (((σ.1 1 0) * (σ.1 1 1)) / 2)), some (.int 0), some (.int 0), some (.int (x1 - 1)), none]) (And.intro rfl (And.intro rfl (And.intro rfl (And.intro rfl (And.intro rfl (And.intro rfl (And.intro rfl trivial))))))) ?_
              exact wX5_lastTurn_62 hm FU x2 x3 (((σ.1 1 0) * (σ.1 1 1)) / 2) 0 0 (x1 - 1) hf
            · rw [if_neg c1] at hf
              show V 30 [some (.ref 0), some (.int x1), some (.int x2), some (.int x3), none, none, none, none, none] [] σ
              refine h.drop (ls' := [none, none, none, none, none, none, none, none, none]) trivial ?_
              exact wX5_lastTurn_30 hm hf
def fX5_refusalAsRows_14 (σ : ST) : Option Int32 :=
  some (-11)
set_option maxHeartbeats 4000000 in
theorem wX5_refusalAsRows_14 {l : Launch} {V : Nat → List (Option Value) → List Value → ST → Prop} {r : Int32} {σ : ST} (hm : BM l 5 cX5_refusalAsRows 2 (some .int) 0 0 (some (.int r)) σ V) (hf : fX5_refusalAsRows_14 σ = some r) : V 14 [none, none] [] σ := by
  have h := hm.bd
  unfold fX5_refusalAsRows_14 at hf
  refine h.run (o := []) (ls' := [none, none]) (st' := [.int (-11)]) (σ' := σ) [(.bipush (-11), 2, (-11), 0, 0, 0)] (pc2 := 16) (by decide +kernel) rfl trivial ?_
  obtain rfl := Option.some.inj hf
  exact hm.iret (by decide +kernel)
def fX5_refusalAsRows_39 (t0 : Int32) (σ : ST) : Option Int32 :=
  some t0
set_option maxHeartbeats 4000000 in
theorem wX5_refusalAsRows_39 {l : Launch} {V : Nat → List (Option Value) → List Value → ST → Prop} {r : Int32} {σ : ST} {t0 : Int32} (hm : BM l 5 cX5_refusalAsRows 2 (some .int) 0 0 (some (.int r)) σ V) (hf : fX5_refusalAsRows_39 t0 σ = some r) : V 39 [none, none] [.int t0] σ := by
  have h := hm.bd
  unfold fX5_refusalAsRows_39 at hf
  obtain rfl := Option.some.inj hf
  exact hm.iret (by decide +kernel)
def fX5_refusalAsRows_33 (σ : ST) : Option Int32 :=
  fX5_refusalAsRows_39 (-12) σ
set_option maxHeartbeats 4000000 in
theorem wX5_refusalAsRows_33 {l : Launch} {V : Nat → List (Option Value) → List Value → ST → Prop} {r : Int32} {σ : ST} (hm : BM l 5 cX5_refusalAsRows 2 (some .int) 0 0 (some (.int r)) σ V) (hf : fX5_refusalAsRows_33 σ = some r) : V 33 [none, none] [] σ := by
  have h := hm.bd
  unfold fX5_refusalAsRows_33 at hf
  refine h.run (o := []) (ls' := [none, none]) (st' := [.int (-12)]) (σ' := σ) [(.bipush (-12), 2, (-12), 0, 0, 0), (.goto 4, 3, 0, 0, 0, 39)] (pc2 := 39) (by decide +kernel) rfl trivial ?_
  exact wX5_refusalAsRows_39 hm hf
def fX5_refusalAsRows (k0 : Nat) (k1 : Nat) (σ : ST) : Option Int32 :=
  if (σ.1 k0 0) = 0 then
    fX5_refusalAsRows_14 σ
  else
    if (σ.1 k1 0) = 0 then
      fX5_refusalAsRows_14 σ
    else
      if (σ.1 k0 0) = 2 then
        if (σ.1 k1 0) = 2 then
          fX5_refusalAsRows_39 0 σ
        else
          fX5_refusalAsRows_33 σ
      else
        fX5_refusalAsRows_33 σ
set_option maxHeartbeats 4000000 in
theorem kmX5_refusalAsRows (l : Launch) {k0 : Nat} {k1 : Nat} {σ : ST} {r : Int32} (hk0 : kd k0 = 3) (hk1 : kd k1 = 3) (hf : fX5_refusalAsRows k0 k1 σ = some r) : KM l yX5_refusalAsRows cX5_refusalAsRows 2 (some .int) 0 0 [.ref k0, .ref k1] σ (some (.int r)) σ := by
  refine KM.intro (ow := 5) (by decide +kernel) rfl (Nat.le_of_ble_eq_true rfl) (fun V hm => ?_)
  show V 0 [some (.ref k0), some (.ref k1)] [] σ
  have h := hm.bd
  unfold fX5_refusalAsRows at hf
  refine h.run (o := [kd k0 = 3]) (ls' := [some (.ref k0), some (.ref k1)]) (st' := [.int (σ.1 k0 0)]) (σ' := σ) [(.aload_n 0, 1, 0, 0, 0, 0), (.getfield 204, 3, 0, 0, 3, 0)] (pc2 := 4) (by decide +kernel) rfl (And.intro hk0 trivial) ?_
  refine h.if_eq (tgt := 14) (show decode cX5_refusalAsRows 4 = .ok (.ifCond .eq 10, 3) by decide +kernel) (by decide) (fun c4 => ?_) (fun c4 => ?_)
  · rw [if_pos c4] at hf
    refine h.drop (ls' := [none, none]) trivial ?_
    exact wX5_refusalAsRows_14 hm hf
  · rw [if_neg c4] at hf
    show V 7 [some (.ref k0), some (.ref k1)] [] σ
    refine h.run (o := [kd k1 = 3]) (ls' := [some (.ref k0), some (.ref k1)]) (st' := [.int (σ.1 k1 0)]) (σ' := σ) [(.aload_n 1, 1, 0, 0, 0, 0), (.getfield 204, 3, 0, 0, 3, 0)] (pc2 := 11) (by decide +kernel) rfl (And.intro hk1 trivial) ?_
    refine h.if_ne (tgt := 17) (show decode cX5_refusalAsRows 11 = .ok (.ifCond .ne 6, 3) by decide +kernel) (by decide) (fun c3 => ?_) (fun c3 => ?_)
    · rw [if_neg c3] at hf
      refine h.run (o := [kd k0 = 3]) (ls' := [some (.ref k0), some (.ref k1)]) (st' := [.int 2, .int (σ.1 k0 0)]) (σ' := σ) [(.aload_n 0, 1, 0, 0, 0, 0), (.getfield 204, 3, 0, 0, 3, 0), (.iconst 2, 1, 2, 0, 0, 0)] (pc2 := 22) (by decide +kernel) rfl (And.intro hk0 trivial) ?_
      refine h.icmp_ne (tgt := 33) (show decode cX5_refusalAsRows 22 = .ok (.if_icmp .ne 11, 3) by decide +kernel) (by decide) (fun c2 => ?_) (fun c2 => ?_)
      · rw [if_neg c2] at hf
        refine h.drop (ls' := [none, none]) trivial ?_
        exact wX5_refusalAsRows_33 hm hf
      · rw [if_pos c2] at hf
        show V 25 [some (.ref k0), some (.ref k1)] [] σ
        refine h.run (o := [kd k1 = 3]) (ls' := [some (.ref k0), some (.ref k1)]) (st' := [.int 2, .int (σ.1 k1 0)]) (σ' := σ) [(.aload_n 1, 1, 0, 0, 0, 0), (.getfield 204, 3, 0, 0, 3, 0), (.iconst 2, 1, 2, 0, 0, 0)] (pc2 := 30) (by decide +kernel) rfl (And.intro hk1 trivial) ?_
        refine h.icmp_eq (tgt := 38) (show decode cX5_refusalAsRows 30 = .ok (.if_icmp .eq 8, 3) by decide +kernel) (by decide) (fun c1 => ?_) (fun c1 => ?_)
        · rw [if_pos c1] at hf
          refine h.run (o := []) (ls' := [some (.ref k0), some (.ref k1)]) (st' := [.int 0]) (σ' := σ) [(.iconst 0, 1, 0, 0, 0, 0)] (pc2 := 39) (by decide +kernel) rfl trivial ?_
          refine h.drop (ls' := [none, none]) trivial ?_
          exact wX5_refusalAsRows_39 hm hf
        · rw [if_neg c1] at hf
          show V 33 [some (.ref k0), some (.ref k1)] [] σ
          refine h.drop (ls' := [none, none]) trivial ?_
          exact wX5_refusalAsRows_33 hm hf
    · rw [if_pos c3] at hf
      show V 14 [some (.ref k0), some (.ref k1)] [] σ
      refine h.drop (ls' := [none, none]) trivial ?_
      exact wX5_refusalAsRows_14 hm hf
def fX5_lands_22 (σ : ST) : Option Int32 :=
  some (-1000000001)
set_option maxHeartbeats 4000000 in
theorem wX5_lands_22 {l : Launch} {V : Nat → List (Option Value) → List Value → ST → Prop} {r : Int32} {σ : ST} (hm : BM l 5 cX5_lands 6 (some .int) 3 65 (some (.int r)) σ V) (hf : fX5_lands_22 σ = some r) : V 22 [none, none, none, none, none, none] [] σ := by
  have h := hm.bd
  unfold fX5_lands_22 at hf
  refine h.run (o := []) (ls' := [none, none, none, none, none, none]) (st' := [.int (-1000000001)]) (σ' := σ) [(.ldc 153, 2, (-1000000001), 0, 0, 0)] (pc2 := 24) (by decide +kernel) rfl trivial ?_
  obtain rfl := Option.some.inj hf
  exact hm.iret (by decide +kernel)
def fX5_lands_73 (σ : ST) : Option Int32 :=
  some (-1000000013)
set_option maxHeartbeats 4000000 in
theorem wX5_lands_73 {l : Launch} {V : Nat → List (Option Value) → List Value → ST → Prop} {r : Int32} {σ : ST} (hm : BM l 5 cX5_lands 6 (some .int) 3 65 (some (.int r)) σ V) (hf : fX5_lands_73 σ = some r) : V 73 [none, none, none, none, none, none] [] σ := by
  have h := hm.bd
  unfold fX5_lands_73 at hf
  refine h.run (o := []) (ls' := [none, none, none, none, none, none]) (st' := [.int (-1000000013)]) (σ' := σ) [(.ldc 187, 2, (-1000000013), 0, 0, 0)] (pc2 := 75) (by decide +kernel) rfl trivial ?_
  obtain rfl := Option.some.inj hf
  exact hm.iret (by decide +kernel)
def fX5_lands (x1 : Int32) (x2 : Int32) (σ : ST) : Option Int32 :=
  bR (fX5_shelfAt x1 σ) fun o1 =>
  match o1 with
  | none =>
    bR (fX5_shelfAt x2 σ) fun o2 =>
    match o2 with
    | none =>
      fX5_lands_22 σ
    | some s2 =>
      fX5_lands_22 σ
  | some s1 =>
    bR (fX5_shelfAt x2 σ) fun o3 =>
    match o3 with
    | none =>
      fX5_lands_22 σ
    | some s3 =>
      bR (fX5_refusalAsRows s1 s3 σ) fun a4 =>
      if a4 = 0 then
        bR (fX3_isOfSendings s1 (σ.1 1 0) σ) fun a5 =>
        if a5 = 0 then
          fX5_lands_73 σ
        else
          bR (fX3_isOfSendings s3 (σ.1 1 0) σ) fun a6 =>
          if a6 = 0 then
            fX5_lands_73 σ
          else
            bR (fX3_sum s1 σ) fun a7 =>
            bR (fX3_sum s3 σ) fun a8 =>
            some ((a7 * (σ.1 s3 6)) - (a8 * (σ.1 s1 6)))
      else
        some ((-1000000000) + a4)
set_option maxHeartbeats 4000000 in
theorem kmX5_lands (l : Launch) {x1 : Int32} {x2 : Int32} {σ : ST} {r : Int32} (hf : fX5_lands x1 x2 σ = some r) : KM l yX5_lands cX5_lands 6 (some .int) 3 65 [.ref 0, .int x1, .int x2] σ (some (.int r)) σ := by
  refine KM.intro (ow := 5) (by decide +kernel) rfl (Nat.le_of_ble_eq_true rfl) (fun V hm => ?_)
  show V 0 [some (.ref 0), some (.int x1), some (.int x2), none, none, none] [] σ
  have h := hm.bd
  unfold fX5_lands at hf
  refine h.run (o := []) (ls' := [some (.ref 0), some (.int x1), some (.int x2), none, none, none]) (st' := [.int x1, .ref 0]) (σ' := σ) [(.aload_n 0, 1, 0, 0, 0, 0), (.iload_n 1, 1, 0, 0, 0, 0)] (pc2 := 2) (by decide +kernel) rfl trivial ?_
  obtain ⟨o1, e1, hf⟩ := bR_some hf
  refine h.callV (as := [.int x1]) (rest := []) (by decide +kernel) lk5_44 cwX5_shelfAt kd_0 (kmX5_shelfAt l e1) rfl (Nat.le_of_ble_eq_true rfl) (Nat.le_of_ble_eq_true rfl) (Nat.le_of_ble_eq_true rfl) ?_
  cases o1 with
  | none =>
    dsimp only at hf
    show V 5 [some (.ref 0), some (.int x1), some (.int x2), none, none, none] [.null] σ
    refine h.run (o := []) (ls' := [some (.ref 0), some (.int x1), some (.int x2), some (.null), none, none]) (st' := [.int x2, .ref 0]) (σ' := σ) [(.astore_n 3, 1, 0, 0, 0, 0), (.aload_n 0, 1, 0, 0, 0, 0), (.iload_n 2, 1, 0, 0, 0, 0)] (pc2 := 8) (by decide +kernel) rfl trivial ?_
    obtain ⟨o2, e2, hf⟩ := bR_some hf
    refine h.callV (as := [.int x2]) (rest := []) (by decide +kernel) lk5_44 cwX5_shelfAt kd_0 (kmX5_shelfAt l e2) rfl (Nat.le_of_ble_eq_true rfl) (Nat.le_of_ble_eq_true rfl) (Nat.le_of_ble_eq_true rfl) ?_
    cases o2 with
    | none =>
      dsimp only at hf
      show V 11 [some (.ref 0), some (.int x1), some (.int x2), some (.null), none, none] [.null] σ
      refine h.run (o := []) (ls' := [some (.ref 0), some (.int x1), some (.int x2), some (.null), some (.null), none]) (st' := [.null]) (σ' := σ) [(.astore 4, 2, 0, 0, 0, 0), (.aload_n 3, 1, 0, 0, 0, 0)] (pc2 := 14) (by decide +kernel) rfl trivial ?_
      refine h.ifnullN (show decode cX5_lands 14 = .ok (.ifnull 8, 3) by decide +kernel) (tgt := 22) (by decide) ?_
      refine h.drop (ls' := [none, none, none, none, none, none]) trivial ?_
      exact wX5_lands_22 hm hf
    | some s2 =>
      dsimp only at hf
      have hs2 : kd s2 = 3 := shelfAt_kd e2
      show V 11 [some (.ref 0), some (.int x1), some (.int x2), some (.null), none, none] [.ref s2] σ
      refine h.run (o := []) (ls' := [some (.ref 0), some (.int x1), some (.int x2), some (.null), some (.ref s2), none]) (st' := [.null]) (σ' := σ) [(.astore 4, 2, 0, 0, 0, 0), (.aload_n 3, 1, 0, 0, 0, 0)] (pc2 := 14) (by decide +kernel) rfl trivial ?_
      refine h.ifnullN (show decode cX5_lands 14 = .ok (.ifnull 8, 3) by decide +kernel) (tgt := 22) (by decide) ?_
      refine h.drop (ls' := [none, none, none, none, none, none]) trivial ?_
      exact wX5_lands_22 hm hf
  | some s1 =>
    dsimp only at hf
    have hs1 : kd s1 = 3 := shelfAt_kd e1
    show V 5 [some (.ref 0), some (.int x1), some (.int x2), none, none, none] [.ref s1] σ
    refine h.run (o := []) (ls' := [some (.ref 0), some (.int x1), some (.int x2), some (.ref s1), none, none]) (st' := [.int x2, .ref 0]) (σ' := σ) [(.astore_n 3, 1, 0, 0, 0, 0), (.aload_n 0, 1, 0, 0, 0, 0), (.iload_n 2, 1, 0, 0, 0, 0)] (pc2 := 8) (by decide +kernel) rfl trivial ?_
    obtain ⟨o3, e3, hf⟩ := bR_some hf
    refine h.callV (as := [.int x2]) (rest := []) (by decide +kernel) lk5_44 cwX5_shelfAt kd_0 (kmX5_shelfAt l e3) rfl (Nat.le_of_ble_eq_true rfl) (Nat.le_of_ble_eq_true rfl) (Nat.le_of_ble_eq_true rfl) ?_
    cases o3 with
    | none =>
      dsimp only at hf
      show V 11 [some (.ref 0), some (.int x1), some (.int x2), some (.ref s1), none, none] [.null] σ
      refine h.run (o := []) (ls' := [some (.ref 0), some (.int x1), some (.int x2), some (.ref s1), some (.null), none]) (st' := [.ref s1]) (σ' := σ) [(.astore 4, 2, 0, 0, 0, 0), (.aload_n 3, 1, 0, 0, 0, 0)] (pc2 := 14) (by decide +kernel) rfl trivial ?_
      refine h.ifnull (show decode cX5_lands 14 = .ok (.ifnull 8, 3) by decide +kernel) ?_
      show V 17 [some (.ref 0), some (.int x1), some (.int x2), some (.ref s1), some (.null), none] [] σ
      refine h.run (o := []) (ls' := [some (.ref 0), some (.int x1), some (.int x2), some (.ref s1), some (.null), none]) (st' := [.null]) (σ' := σ) [(.aload 4, 2, 0, 0, 0, 0)] (pc2 := 19) (by decide +kernel) rfl trivial ?_
      refine h.ifnonnullN (show decode cX5_lands 19 = .ok (.ifnonnull 6, 3) by decide +kernel) ?_
      show V 22 [some (.ref 0), some (.int x1), some (.int x2), some (.ref s1), some (.null), none] [] σ
      refine h.drop (ls' := [none, none, none, none, none, none]) trivial ?_
      exact wX5_lands_22 hm hf
    | some s3 =>
      dsimp only at hf
      have hs3 : kd s3 = 3 := shelfAt_kd e3
      show V 11 [some (.ref 0), some (.int x1), some (.int x2), some (.ref s1), none, none] [.ref s3] σ
      refine h.run (o := []) (ls' := [some (.ref 0), some (.int x1), some (.int x2), some (.ref s1), some (.ref s3), none]) (st' := [.ref s1]) (σ' := σ) [(.astore 4, 2, 0, 0, 0, 0), (.aload_n 3, 1, 0, 0, 0, 0)] (pc2 := 14) (by decide +kernel) rfl trivial ?_
      refine h.ifnull (show decode cX5_lands 14 = .ok (.ifnull 8, 3) by decide +kernel) ?_
      show V 17 [some (.ref 0), some (.int x1), some (.int x2), some (.ref s1), some (.ref s3), none] [] σ
      refine h.run (o := []) (ls' := [some (.ref 0), some (.int x1), some (.int x2), some (.ref s1), some (.ref s3), none]) (st' := [.ref s3]) (σ' := σ) [(.aload 4, 2, 0, 0, 0, 0)] (pc2 := 19) (by decide +kernel) rfl trivial ?_
      refine h.ifnonnull (show decode cX5_lands 19 = .ok (.ifnonnull 6, 3) by decide +kernel) (tgt := 25) (by decide) ?_
      refine h.run (o := []) (ls' := [some (.ref 0), some (.int x1), some (.int x2), some (.ref s1), some (.ref s3), none]) (st' := [.ref s3, .ref s1]) (σ' := σ) [(.aload_n 3, 1, 0, 0, 0, 0), (.aload 4, 2, 0, 0, 0, 0)] (pc2 := 28) (by decide +kernel) rfl trivial ?_
      obtain ⟨a4, e4, hf⟩ := bR_some hf
      refine h.callS (as := [.ref s1, .ref s3]) (rest := []) (by decide +kernel) lk5_179 cwX5_refusalAsRows (kmX5_refusalAsRows l hs1 hs3 e4) rfl (Nat.le_of_ble_eq_true rfl) (Nat.le_of_ble_eq_true rfl) (Nat.le_of_ble_eq_true rfl) ?_
      show V 31 [some (.ref 0), some (.int x1), some (.int x2), some (.ref s1), some (.ref s3), none] [.int a4] σ
      refine h.run (o := []) (ls' := [some (.ref 0), some (.int x1), some (.int x2), some (.ref s1), some (.ref s3), some (.int a4)]) (st' := [.int a4]) (σ' := σ) [(.istore 5, 2, 0, 0, 0, 0), (.iload 5, 2, 0, 0, 0, 0)] (pc2 := 35) (by decide +kernel) rfl trivial ?_
      refine h.if_eq (tgt := 44) (show decode cX5_lands 35 = .ok (.ifCond .eq 9, 3) by decide +kernel) (by decide) (fun c11 => ?_) (fun c11 => ?_)
      · rw [if_pos c11] at hf
        refine h.run (o := [kd 0 = 5, kd 1 = 0]) (ls' := [some (.ref 0), some (.int x1), some (.int x2), some (.ref s1), some (.ref s3), some (.int a4)]) (st' := [.int (σ.1 1 0), .ref s1]) (σ' := σ) [(.aload_n 3, 1, 0, 0, 0, 0), (.aload_n 0, 1, 0, 0, 0, 0), (.getfield 10, 3, 0, 0, 5, 0), (.getfield 107, 3, 0, 0, 0, 0)] (pc2 := 52) (by decide +kernel) rfl (And.intro kd_0 (And.intro kd_1 trivial)) ?_
        obtain ⟨a5, e5, hf⟩ := bR_some hf
        refine h.callV (as := [.int (σ.1 1 0)]) (rest := []) (by decide +kernel) lk5_184 cwX3_isOfSendings hs1 (kmX3_isOfSendings l hs1 e5) rfl (Nat.le_of_ble_eq_true rfl) (Nat.le_of_ble_eq_true rfl) (Nat.le_of_ble_eq_true rfl) ?_
        show V 55 [some (.ref 0), some (.int x1), some (.int x2), some (.ref s1), some (.ref s3), some (.int a4)] [.int a5] σ
        refine h.if_eq (tgt := 73) (show decode cX5_lands 55 = .ok (.ifCond .eq 18, 3) by decide +kernel) (by decide) (fun c10 => ?_) (fun c10 => ?_)
        · rw [if_pos c10] at hf
          refine h.drop (ls' := [none, none, none, none, none, none]) trivial ?_
          exact wX5_lands_73 hm hf
        · rw [if_neg c10] at hf
          show V 58 [some (.ref 0), some (.int x1), some (.int x2), some (.ref s1), some (.ref s3), some (.int a4)] [] σ
          refine h.run (o := [kd 0 = 5, kd 1 = 0]) (ls' := [some (.ref 0), some (.int x1), some (.int x2), some (.ref s1), some (.ref s3), some (.int a4)]) (st' := [.int (σ.1 1 0), .ref s3]) (σ' := σ) [(.aload 4, 2, 0, 0, 0, 0), (.aload_n 0, 1, 0, 0, 0, 0), (.getfield 10, 3, 0, 0, 5, 0), (.getfield 107, 3, 0, 0, 0, 0)] (pc2 := 67) (by decide +kernel) rfl (And.intro kd_0 (And.intro kd_1 trivial)) ?_
          obtain ⟨a6, e6, hf⟩ := bR_some hf
          refine h.callV (as := [.int (σ.1 1 0)]) (rest := []) (by decide +kernel) lk5_184 cwX3_isOfSendings hs3 (kmX3_isOfSendings l hs3 e6) rfl (Nat.le_of_ble_eq_true rfl) (Nat.le_of_ble_eq_true rfl) (Nat.le_of_ble_eq_true rfl) ?_
          show V 70 [some (.ref 0), some (.int x1), some (.int x2), some (.ref s1), some (.ref s3), some (.int a4)] [.int a6] σ
          refine h.if_ne (tgt := 76) (show decode cX5_lands 70 = .ok (.ifCond .ne 6, 3) by decide +kernel) (by decide) (fun c9 => ?_) (fun c9 => ?_)
          · rw [if_neg c9] at hf
            refine h.run (o := []) (ls' := [some (.ref 0), some (.int x1), some (.int x2), some (.ref s1), some (.ref s3), some (.int a4)]) (st' := [.ref s1]) (σ' := σ) [(.aload_n 3, 1, 0, 0, 0, 0)] (pc2 := 77) (by decide +kernel) rfl trivial ?_
            obtain ⟨a7, e7, hf⟩ := bR_some hf
            refine h.callV (as := []) (rest := []) (by decide +kernel) lk5_188 cwX3_sum hs1 (kmX3_sum l hs1 e7) rfl (Nat.le_of_ble_eq_true rfl) (Nat.le_of_ble_eq_true rfl) (Nat.le_of_ble_eq_true rfl) ?_
            show V 80 [some (.ref 0), some (.int x1), some (.int x2), some (.ref s1), some (.ref s3), some (.int a4)] [.int a7] σ
            refine h.run (o := [kd s3 = 3]) (ls' := [some (.ref 0), some (.int x1), some (.int x2), some (.ref s1), some (.ref s3), some (.int a4)]) (st' := [.ref s3, .int (a7 * (σ.1 s3 6))]) (σ' := σ) [(.aload 4, 2, 0, 0, 0, 0), (.getfield 135, 3, 0, 0, 3, 6), (.imul, 1, 0, 0, 0, 0), (.aload 4, 2, 0, 0, 0, 0)] (pc2 := 88) (by decide +kernel) rfl (And.intro hs3 trivial) ?_
            obtain ⟨a8, e8, hf⟩ := bR_some hf
            refine h.callV (as := []) (rest := [.int (a7 * (σ.1 s3 6))]) (by decide +kernel) lk5_188 cwX3_sum hs3 (kmX3_sum l hs3 e8) rfl (Nat.le_of_ble_eq_true rfl) (Nat.le_of_ble_eq_true rfl) (Nat.le_of_ble_eq_true rfl) ?_
            show V 91 [some (.ref 0), some (.int x1), some (.int x2), some (.ref s1), some (.ref s3), some (.int a4)] [.int a8, .int (a7 * (σ.1 s3 6))] σ
            refine h.run (o := [kd s1 = 3]) (ls' := [some (.ref 0), some (.int x1), some (.int x2), some (.ref s1), some (.ref s3), some (.int a4)]) (st' := [.int ((a7 * (σ.1 s3 6)) - (a8 * (σ.1 s1 6)))]) (σ' := σ) [(.aload_n 3, 1, 0, 0, 0, 0), (.getfield 135, 3, 0, 0, 3, 6), (.imul, 1, 0, 0, 0, 0), (.isub, 1, 0, 0, 0, 0)] (pc2 := 97) (by decide +kernel) rfl (And.intro hs1 trivial) ?_
            obtain rfl := Option.some.inj hf
            exact hm.iret (by decide +kernel)
          · rw [if_pos c9] at hf
            show V 73 [some (.ref 0), some (.int x1), some (.int x2), some (.ref s1), some (.ref s3), some (.int a4)] [] σ
            refine h.drop (ls' := [none, none, none, none, none, none]) trivial ?_
            exact wX5_lands_73 hm hf
      · rw [if_neg c11] at hf
        show V 38 [some (.ref 0), some (.int x1), some (.int x2), some (.ref s1), some (.ref s3), some (.int a4)] [] σ
        refine h.run (o := []) (ls' := [some (.ref 0), some (.int x1), some (.int x2), some (.ref s1), some (.ref s3), some (.int a4)]) (st' := [.int ((-1000000000) + a4)]) (σ' := σ) [(.ldc 183, 2, (-1000000000), 0, 0, 0), (.iload 5, 2, 0, 0, 0, 0), (.iadd, 1, 0, 0, 0, 0)] (pc2 := 43) (by decide +kernel) rfl trivial ?_
        obtain rfl := Option.some.inj hf
        exact hm.iret (by decide +kernel)
def fX5_words_22 (σ : ST) : Option Int32 :=
  some (-1000000001)
set_option maxHeartbeats 4000000 in
theorem wX5_words_22 {l : Launch} {V : Nat → List (Option Value) → List Value → ST → Prop} {r : Int32} {σ : ST} (hm : BM l 5 cX5_words 9 (some .int) 3 66 (some (.int r)) σ V) (hf : fX5_words_22 σ = some r) : V 22 [none, none, none, none, none, none, none, none, none] [] σ := by
  have h := hm.bd
  unfold fX5_words_22 at hf
  refine h.run (o := []) (ls' := [none, none, none, none, none, none, none, none, none]) (st' := [.int (-1000000001)]) (σ' := σ) [(.ldc 153, 2, (-1000000001), 0, 0, 0)] (pc2 := 24) (by decide +kernel) rfl trivial ?_
  obtain rfl := Option.some.inj hf
  exact hm.iret (by decide +kernel)
def fX5_words_80 (σ : ST) (kt_65 : Nat → Nat → Int32 → Int32 → Option Int32) (n : Nat) (k3 : Nat) (k4 : Nat) (x6 : Int32) (x7 : Int32) (x8 : Int32) : Option Int32 := match n with
  | 0 => none
  | n + 1 =>
    if (σ.1 k3 6) ≤ x8 then
      kt_65 k3 k4 x6 (x7 + 1)
    else
      bR (fX3_signOf k3 x7 x8 σ) fun a1 =>
      bR (fX3_signOf k4 x7 x8 σ) fun a2 =>
      fX5_words_80 σ kt_65 n k3 k4 (x6 + (a1 * a2)) x7 (x8 + 1)
set_option maxHeartbeats 4000000 in
theorem wX5_words_80 {l : Launch} {V : Nat → List (Option Value) → List Value → ST → Prop} {r : Int32} {σ : ST} {kt_65 : Nat → Nat → Int32 → Int32 → Option Int32} (hm : BM l 5 cX5_words 9 (some .int) 3 66 (some (.int r)) σ V) (hkt_65 : ∀ (k3 : Nat) (k4 : Nat) (x6 : Int32) (x7 : Int32), kd k3 = 3 → kd k4 = 3 → kt_65 k3 k4 x6 x7 = some r → V 65 [none, none, none, some (.ref k3), some (.ref k4), none, some (.int x6), some (.int x7), none] [] σ) : ∀ (n : Nat) (k3 : Nat) (k4 : Nat) (x6 : Int32) (x7 : Int32) (x8 : Int32) (hk3 : kd k3 = 3) (hk4 : kd k4 = 3), fX5_words_80 σ kt_65 n k3 k4 x6 x7 x8 = some r → V 80 [none, none, none, some (.ref k3), some (.ref k4), none, some (.int x6), some (.int x7), some (.int x8)] [] σ := by
  have h := hm.bd
  intro n
  induction n with
  | zero => intro k3 k4 x6 x7 x8 hk3 hk4 hf; cases hf
  | succ n ih =>
    intro k3 k4 x6 x7 x8 hk3 hk4 hf
    rw [fX5_words_80] at hf
    refine h.run (o := [kd k3 = 3]) (ls' := [none, none, none, some (.ref k3), some (.ref k4), none, some (.int x6), some (.int x7), some (.int x8)]) (st' := [.int (σ.1 k3 6), .int x8]) (σ' := σ) [(.iload 8, 2, 0, 0, 0, 0), (.aload_n 3, 1, 0, 0, 0, 0), (.getfield 135, 3, 0, 0, 3, 6)] (pc2 := 86) (by decide +kernel) rfl (And.intro hk3 trivial) ?_
    refine h.icmp_ge (tgt := 118) (show decode cX5_words 86 = .ok (.if_icmp .ge 32, 3) by decide +kernel) (by decide) (fun c3 => ?_) (fun c3 => ?_)
    · rw [if_pos c3] at hf
      refine h.run (o := []) (ls' := [none, none, none, some (.ref k3), some (.ref k4), none, some (.int x6), some (.int (x7 + 1)), some (.int x8)]) (st' := []) (σ' := σ) [(.iinc 7 1, 3, 1, 0, 0, 0), (.goto (-56), 3, 0, 0, 0, 65)] (pc2 := 65) (by decide +kernel) rfl trivial ?_
      refine h.drop (ls' := [none, none, none, some (.ref k3), some (.ref k4), none, some (.int x6), some (.int (x7 + 1)), none]) (And.intro rfl (And.intro rfl (And.intro rfl (And.intro rfl trivial)))) ?_
      exact hkt_65 k3 k4 x6 (x7 + 1) hk3 hk4 hf
    · rw [if_neg c3] at hf
      show V 89 [none, none, none, some (.ref k3), some (.ref k4), none, some (.int x6), some (.int x7), some (.int x8)] [] σ
      refine h.run (o := []) (ls' := [none, none, none, some (.ref k3), some (.ref k4), none, some (.int x6), some (.int x7), some (.int x8)]) (st' := [.int x8, .int x7, .ref k3, .int x6]) (σ' := σ) [(.iload 6, 2, 0, 0, 0, 0), (.aload_n 3, 1, 0, 0, 0, 0), (.iload 7, 2, 0, 0, 0, 0), (.iload 8, 2, 0, 0, 0, 0)] (pc2 := 96) (by decide +kernel) rfl trivial ?_
      obtain ⟨a1, e1, hf⟩ := bR_some hf
      refine h.callV (as := [.int x7, .int x8]) (rest := [.int x6]) (by decide +kernel) lk5_191 cwX3_signOf hk3 (kmX3_signOf l hk3 e1) rfl (Nat.le_of_ble_eq_true rfl) (Nat.le_of_ble_eq_true rfl) (Nat.le_of_ble_eq_true rfl) ?_
      show V 99 [none, none, none, some (.ref k3), some (.ref k4), none, some (.int x6), some (.int x7), some (.int x8)] [.int a1, .int x6] σ
      refine h.run (o := []) (ls' := [none, none, none, some (.ref k3), some (.ref k4), none, some (.int x6), some (.int x7), some (.int x8)]) (st' := [.int x8, .int x7, .ref k4, .int a1, .int x6]) (σ' := σ) [(.aload 4, 2, 0, 0, 0, 0), (.iload 7, 2, 0, 0, 0, 0), (.iload 8, 2, 0, 0, 0, 0)] (pc2 := 105) (by decide +kernel) rfl trivial ?_
      obtain ⟨a2, e2, hf⟩ := bR_some hf
      refine h.callV (as := [.int x7, .int x8]) (rest := [.int a1, .int x6]) (by decide +kernel) lk5_191 cwX3_signOf hk4 (kmX3_signOf l hk4 e2) rfl (Nat.le_of_ble_eq_true rfl) (Nat.le_of_ble_eq_true rfl) (Nat.le_of_ble_eq_true rfl) ?_
      show V 108 [none, none, none, some (.ref k3), some (.ref k4), none, some (.int x6), some (.int x7), some (.int x8)] [.int a2, .int a1, .int x6] σ
      refine h.run (o := []) (ls' := [none, none, none, some (.ref k3), some (.ref k4), none, some (.int (x6 + (a1 * a2))), some (.int x7), some (.int (x8 + 1))]) (st' := []) (σ' := σ) [(.imul, 1, 0, 0, 0, 0), (.iadd, 1, 0, 0, 0, 0), (.istore 6, 2, 0, 0, 0, 0), (.iinc 8 1, 3, 1, 0, 0, 0), (.goto (-35), 3, 0, 0, 0, 80)] (pc2 := 80) (by decide +kernel) rfl trivial ?_
      exact ih k3 k4 (x6 + (a1 * a2)) x7 (x8 + 1) hk3 hk4 hf
def fX5_words_65 (σ : ST) (n : Nat) (k3 : Nat) (k4 : Nat) (x6 : Int32) (x7 : Int32) : Option Int32 := match n with
  | 0 => none
  | n + 1 =>
    if (σ.1 k3 6) ≤ x7 then
      some x6
    else
      fX5_words_80 σ (fX5_words_65 σ n) FU k3 k4 x6 x7 (x7 + 1)
set_option maxHeartbeats 4000000 in
theorem wX5_words_65 {l : Launch} {V : Nat → List (Option Value) → List Value → ST → Prop} {r : Int32} {σ : ST} (hm : BM l 5 cX5_words 9 (some .int) 3 66 (some (.int r)) σ V) : ∀ (n : Nat) (k3 : Nat) (k4 : Nat) (x6 : Int32) (x7 : Int32) (hk3 : kd k3 = 3) (hk4 : kd k4 = 3), fX5_words_65 σ n k3 k4 x6 x7 = some r → V 65 [none, none, none, some (.ref k3), some (.ref k4), none, some (.int x6), some (.int x7), none] [] σ := by
  have h := hm.bd
  intro n
  induction n with
  | zero => intro k3 k4 x6 x7 hk3 hk4 hf; cases hf
  | succ n ih =>
    intro k3 k4 x6 x7 hk3 hk4 hf
    rw [fX5_words_65] at hf
    refine h.run (o := [kd k3 = 3]) (ls' := [none, none, none, some (.ref k3), some (.ref k4), none, some (.int x6), some (.int x7), none]) (st' := [.int (σ.1 k3 6), .int x7]) (σ' := σ) [(.iload 7, 2, 0, 0, 0, 0), (.aload_n 3, 1, 0, 0, 0, 0), (.getfield 135, 3, 0, 0, 3, 6)] (pc2 := 71) (by decide +kernel) rfl (And.intro hk3 trivial) ?_
    refine h.icmp_ge (tgt := 124) (show decode cX5_words 71 = .ok (.if_icmp .ge 53, 3) by decide +kernel) (by decide) (fun c1 => ?_) (fun c1 => ?_)
    · rw [if_pos c1] at hf
      refine h.run (o := []) (ls' := [none, none, none, some (.ref k3), some (.ref k4), none, some (.int x6), some (.int x7), none]) (st' := [.int x6]) (σ' := σ) [(.iload 6, 2, 0, 0, 0, 0)] (pc2 := 126) (by decide +kernel) rfl trivial ?_
      obtain rfl := Option.some.inj hf
      exact hm.iret (by decide +kernel)
    · rw [if_neg c1] at hf
      show V 74 [none, none, none, some (.ref k3), some (.ref k4), none, some (.int x6), some (.int x7), none] [] σ
      refine h.run (o := []) (ls' := [none, none, none, some (.ref k3), some (.ref k4), none, some (.int x6), some (.int x7), some (.int (x7 + 1))]) (st' := []) (σ' := σ) [(.iload 7, 2, 0, 0, 0, 0), (.iconst 1, 1, 1, 0, 0, 0), (.iadd, 1, 0, 0, 0, 0), (.istore 8, 2, 0, 0, 0, 0)] (pc2 := 80) (by decide +kernel) rfl trivial ?_
      exact wX5_words_80 hm ih FU k3 k4 x6 x7 (x7 + 1) hk3 hk4 hf
def fX5_words (x1 : Int32) (x2 : Int32) (σ : ST) : Option Int32 :=
  bR (fX5_shelfAt x1 σ) fun o1 =>
  match o1 with
  | none =>
    bR (fX5_shelfAt x2 σ) fun o2 =>
    match o2 with
    | none =>
      fX5_words_22 σ
    | some s2 =>
      fX5_words_22 σ
  | some s1 =>
    bR (fX5_shelfAt x2 σ) fun o3 =>
    match o3 with
    | none =>
      fX5_words_22 σ
    | some s3 =>
      bR (fX5_refusalAsRows s1 s3 σ) fun a4 =>
      if a4 = 0 then
        if (σ.1 s1 6) = (σ.1 s3 6) then
          fX5_words_65 σ FU s1 s3 0 0
        else
          some (-1000000013)
      else
        some ((-1000000000) + a4)
set_option maxHeartbeats 4000000 in
theorem kmX5_words (l : Launch) {x1 : Int32} {x2 : Int32} {σ : ST} {r : Int32} (hf : fX5_words x1 x2 σ = some r) : KM l yX5_words cX5_words 9 (some .int) 3 66 [.ref 0, .int x1, .int x2] σ (some (.int r)) σ := by
  refine KM.intro (ow := 5) (by decide +kernel) rfl (Nat.le_of_ble_eq_true rfl) (fun V hm => ?_)
  show V 0 [some (.ref 0), some (.int x1), some (.int x2), none, none, none, none, none, none] [] σ
  have h := hm.bd
  unfold fX5_words at hf
  refine h.run (o := []) (ls' := [some (.ref 0), some (.int x1), some (.int x2), none, none, none, none, none, none]) (st' := [.int x1, .ref 0]) (σ' := σ) [(.aload_n 0, 1, 0, 0, 0, 0), (.iload_n 1, 1, 0, 0, 0, 0)] (pc2 := 2) (by decide +kernel) rfl trivial ?_
  obtain ⟨o1, e1, hf⟩ := bR_some hf
  refine h.callV (as := [.int x1]) (rest := []) (by decide +kernel) lk5_44 cwX5_shelfAt kd_0 (kmX5_shelfAt l e1) rfl (Nat.le_of_ble_eq_true rfl) (Nat.le_of_ble_eq_true rfl) (Nat.le_of_ble_eq_true rfl) ?_
  cases o1 with
  | none =>
    dsimp only at hf
    show V 5 [some (.ref 0), some (.int x1), some (.int x2), none, none, none, none, none, none] [.null] σ
    refine h.run (o := []) (ls' := [some (.ref 0), some (.int x1), some (.int x2), some (.null), none, none, none, none, none]) (st' := [.int x2, .ref 0]) (σ' := σ) [(.astore_n 3, 1, 0, 0, 0, 0), (.aload_n 0, 1, 0, 0, 0, 0), (.iload_n 2, 1, 0, 0, 0, 0)] (pc2 := 8) (by decide +kernel) rfl trivial ?_
    obtain ⟨o2, e2, hf⟩ := bR_some hf
    refine h.callV (as := [.int x2]) (rest := []) (by decide +kernel) lk5_44 cwX5_shelfAt kd_0 (kmX5_shelfAt l e2) rfl (Nat.le_of_ble_eq_true rfl) (Nat.le_of_ble_eq_true rfl) (Nat.le_of_ble_eq_true rfl) ?_
    cases o2 with
    | none =>
      dsimp only at hf
      show V 11 [some (.ref 0), some (.int x1), some (.int x2), some (.null), none, none, none, none, none] [.null] σ
      refine h.run (o := []) (ls' := [some (.ref 0), some (.int x1), some (.int x2), some (.null), some (.null), none, none, none, none]) (st' := [.null]) (σ' := σ) [(.astore 4, 2, 0, 0, 0, 0), (.aload_n 3, 1, 0, 0, 0, 0)] (pc2 := 14) (by decide +kernel) rfl trivial ?_
      refine h.ifnullN (show decode cX5_words 14 = .ok (.ifnull 8, 3) by decide +kernel) (tgt := 22) (by decide) ?_
      refine h.drop (ls' := [none, none, none, none, none, none, none, none, none]) trivial ?_
      exact wX5_words_22 hm hf
    | some s2 =>
      dsimp only at hf
      have hs2 : kd s2 = 3 := shelfAt_kd e2
      show V 11 [some (.ref 0), some (.int x1), some (.int x2), some (.null), none, none, none, none, none] [.ref s2] σ
      refine h.run (o := []) (ls' := [some (.ref 0), some (.int x1), some (.int x2), some (.null), some (.ref s2), none, none, none, none]) (st' := [.null]) (σ' := σ) [(.astore 4, 2, 0, 0, 0, 0), (.aload_n 3, 1, 0, 0, 0, 0)] (pc2 := 14) (by decide +kernel) rfl trivial ?_
      refine h.ifnullN (show decode cX5_words 14 = .ok (.ifnull 8, 3) by decide +kernel) (tgt := 22) (by decide) ?_
      refine h.drop (ls' := [none, none, none, none, none, none, none, none, none]) trivial ?_
      exact wX5_words_22 hm hf
  | some s1 =>
    dsimp only at hf
    have hs1 : kd s1 = 3 := shelfAt_kd e1
    show V 5 [some (.ref 0), some (.int x1), some (.int x2), none, none, none, none, none, none] [.ref s1] σ
    refine h.run (o := []) (ls' := [some (.ref 0), some (.int x1), some (.int x2), some (.ref s1), none, none, none, none, none]) (st' := [.int x2, .ref 0]) (σ' := σ) [(.astore_n 3, 1, 0, 0, 0, 0), (.aload_n 0, 1, 0, 0, 0, 0), (.iload_n 2, 1, 0, 0, 0, 0)] (pc2 := 8) (by decide +kernel) rfl trivial ?_
    obtain ⟨o3, e3, hf⟩ := bR_some hf
    refine h.callV (as := [.int x2]) (rest := []) (by decide +kernel) lk5_44 cwX5_shelfAt kd_0 (kmX5_shelfAt l e3) rfl (Nat.le_of_ble_eq_true rfl) (Nat.le_of_ble_eq_true rfl) (Nat.le_of_ble_eq_true rfl) ?_
    cases o3 with
    | none =>
      dsimp only at hf
      show V 11 [some (.ref 0), some (.int x1), some (.int x2), some (.ref s1), none, none, none, none, none] [.null] σ
      refine h.run (o := []) (ls' := [some (.ref 0), some (.int x1), some (.int x2), some (.ref s1), some (.null), none, none, none, none]) (st' := [.ref s1]) (σ' := σ) [(.astore 4, 2, 0, 0, 0, 0), (.aload_n 3, 1, 0, 0, 0, 0)] (pc2 := 14) (by decide +kernel) rfl trivial ?_
      refine h.ifnull (show decode cX5_words 14 = .ok (.ifnull 8, 3) by decide +kernel) ?_
      show V 17 [some (.ref 0), some (.int x1), some (.int x2), some (.ref s1), some (.null), none, none, none, none] [] σ
      refine h.run (o := []) (ls' := [some (.ref 0), some (.int x1), some (.int x2), some (.ref s1), some (.null), none, none, none, none]) (st' := [.null]) (σ' := σ) [(.aload 4, 2, 0, 0, 0, 0)] (pc2 := 19) (by decide +kernel) rfl trivial ?_
      refine h.ifnonnullN (show decode cX5_words 19 = .ok (.ifnonnull 6, 3) by decide +kernel) ?_
      show V 22 [some (.ref 0), some (.int x1), some (.int x2), some (.ref s1), some (.null), none, none, none, none] [] σ
      refine h.drop (ls' := [none, none, none, none, none, none, none, none, none]) trivial ?_
      exact wX5_words_22 hm hf
    | some s3 =>
      dsimp only at hf
      have hs3 : kd s3 = 3 := shelfAt_kd e3
      show V 11 [some (.ref 0), some (.int x1), some (.int x2), some (.ref s1), none, none, none, none, none] [.ref s3] σ
      refine h.run (o := []) (ls' := [some (.ref 0), some (.int x1), some (.int x2), some (.ref s1), some (.ref s3), none, none, none, none]) (st' := [.ref s1]) (σ' := σ) [(.astore 4, 2, 0, 0, 0, 0), (.aload_n 3, 1, 0, 0, 0, 0)] (pc2 := 14) (by decide +kernel) rfl trivial ?_
      refine h.ifnull (show decode cX5_words 14 = .ok (.ifnull 8, 3) by decide +kernel) ?_
      show V 17 [some (.ref 0), some (.int x1), some (.int x2), some (.ref s1), some (.ref s3), none, none, none, none] [] σ
      refine h.run (o := []) (ls' := [some (.ref 0), some (.int x1), some (.int x2), some (.ref s1), some (.ref s3), none, none, none, none]) (st' := [.ref s3]) (σ' := σ) [(.aload 4, 2, 0, 0, 0, 0)] (pc2 := 19) (by decide +kernel) rfl trivial ?_
      refine h.ifnonnull (show decode cX5_words 19 = .ok (.ifnonnull 6, 3) by decide +kernel) (tgt := 25) (by decide) ?_
      refine h.run (o := []) (ls' := [some (.ref 0), some (.int x1), some (.int x2), some (.ref s1), some (.ref s3), none, none, none, none]) (st' := [.ref s3, .ref s1]) (σ' := σ) [(.aload_n 3, 1, 0, 0, 0, 0), (.aload 4, 2, 0, 0, 0, 0)] (pc2 := 28) (by decide +kernel) rfl trivial ?_
      obtain ⟨a4, e4, hf⟩ := bR_some hf
      refine h.callS (as := [.ref s1, .ref s3]) (rest := []) (by decide +kernel) lk5_179 cwX5_refusalAsRows (kmX5_refusalAsRows l hs1 hs3 e4) rfl (Nat.le_of_ble_eq_true rfl) (Nat.le_of_ble_eq_true rfl) (Nat.le_of_ble_eq_true rfl) ?_
      show V 31 [some (.ref 0), some (.int x1), some (.int x2), some (.ref s1), some (.ref s3), none, none, none, none] [.int a4] σ
      refine h.run (o := []) (ls' := [some (.ref 0), some (.int x1), some (.int x2), some (.ref s1), some (.ref s3), some (.int a4), none, none, none]) (st' := [.int a4]) (σ' := σ) [(.istore 5, 2, 0, 0, 0, 0), (.iload 5, 2, 0, 0, 0, 0)] (pc2 := 35) (by decide +kernel) rfl trivial ?_
      refine h.if_eq (tgt := 44) (show decode cX5_words 35 = .ok (.ifCond .eq 9, 3) by decide +kernel) (by decide) (fun c6 => ?_) (fun c6 => ?_)
      · rw [if_pos c6] at hf
        refine h.run (o := [kd s1 = 3, kd s3 = 3]) (ls' := [some (.ref 0), some (.int x1), some (.int x2), some (.ref s1), some (.ref s3), some (.int a4), none, none, none]) (st' := [.int (σ.1 s3 6), .int (σ.1 s1 6)]) (σ' := σ) [(.aload_n 3, 1, 0, 0, 0, 0), (.getfield 135, 3, 0, 0, 3, 6), (.aload 4, 2, 0, 0, 0, 0), (.getfield 135, 3, 0, 0, 3, 6)] (pc2 := 53) (by decide +kernel) rfl (And.intro hs1 (And.intro hs3 trivial)) ?_
        refine h.icmp_eq (tgt := 59) (show decode cX5_words 53 = .ok (.if_icmp .eq 6, 3) by decide +kernel) (by decide) (fun c5 => ?_) (fun c5 => ?_)
        · rw [if_pos c5] at hf
          refine h.run (o := []) (ls' := [some (.ref 0), some (.int x1), some (.int x2), some (.ref s1), some (.ref s3), some (.int a4), some (.int 0), some (.int 0), none]) (st' := []) (σ' := σ) [(.iconst 0, 1, 0, 0, 0, 0), (.istore 6, 2, 0, 0, 0, 0), (.iconst 0, 1, 0, 0, 0, 0), (.istore 7, 2, 0, 0, 0, 0)] (pc2 := 65) (by decide +kernel) rfl trivial ?_
          refine h.drop (ls' := [none, none, none, some (.ref s1), some (.ref s3), none, some (.int 0), some (.int 0), none]) (And.intro rfl (And.intro rfl (And.intro rfl (And.intro rfl trivial)))) ?_
          exact wX5_words_65 hm FU s1 s3 0 0 hs1 hs3 hf
        · rw [if_neg c5] at hf
          show V 56 [some (.ref 0), some (.int x1), some (.int x2), some (.ref s1), some (.ref s3), some (.int a4), none, none, none] [] σ
          refine h.run (o := []) (ls' := [some (.ref 0), some (.int x1), some (.int x2), some (.ref s1), some (.ref s3), some (.int a4), none, none, none]) (st' := [.int (-1000000013)]) (σ' := σ) [(.ldc 187, 2, (-1000000013), 0, 0, 0)] (pc2 := 58) (by decide +kernel) rfl trivial ?_
          obtain rfl := Option.some.inj hf
          exact hm.iret (by decide +kernel)
      · rw [if_neg c6] at hf
        show V 38 [some (.ref 0), some (.int x1), some (.int x2), some (.ref s1), some (.ref s3), some (.int a4), none, none, none] [] σ
        refine h.run (o := []) (ls' := [some (.ref 0), some (.int x1), some (.int x2), some (.ref s1), some (.ref s3), some (.int a4), none, none, none]) (st' := [.int ((-1000000000) + a4)]) (σ' := σ) [(.ldc 183, 2, (-1000000000), 0, 0, 0), (.iload 5, 2, 0, 0, 0, 0), (.iadd, 1, 0, 0, 0, 0)] (pc2 := 43) (by decide +kernel) rfl trivial ?_
        obtain rfl := Option.some.inj hf
        exact hm.iret (by decide +kernel)
def fX5_howUnlike (x1 : Int32) (x2 : Int32) (x3 : Int32) (x4 : Int32) (σ : ST) : Option (Int32 × ST) :=
  bR (fX5_bring x1 x3 σ) fun σ1 =>
  bI (fX1_wouldSend (setI σ1 3 1 x4)) fun a2 σ2 =>
  bR (fX5_bring x2 x3 σ2) fun σ3 =>
  bI (fX1_wouldSend (setI σ3 3 1 x4)) fun a4 σ4 =>
  some (iabs (a2 - a4), σ4)
set_option maxHeartbeats 4000000 in
theorem kmX5_howUnlike (l : Launch) {x1 : Int32} {x2 : Int32} {x3 : Int32} {x4 : Int32} {σ : ST} {r : Int32} {τ : ST} (hf : fX5_howUnlike x1 x2 x3 x4 σ = some (r, τ)) : KM l yX5_howUnlike cX5_howUnlike 6 (some .int) 5 114 [.ref 0, .int x1, .int x2, .int x3, .int x4] σ (some (.int r)) τ := by
  refine KM.intro (ow := 5) (by decide +kernel) rfl (Nat.le_of_ble_eq_true rfl) (fun V hm => ?_)
  show V 0 [some (.ref 0), some (.int x1), some (.int x2), some (.int x3), some (.int x4), none] [] σ
  have h := hm.bd
  unfold fX5_howUnlike at hf
  refine h.run (o := []) (ls' := [some (.ref 0), some (.int x1), some (.int x2), some (.int x3), some (.int x4), none]) (st' := [.int x3, .int x1, .ref 0]) (σ' := σ) [(.aload_n 0, 1, 0, 0, 0, 0), (.iload_n 1, 1, 0, 0, 0, 0), (.iload_n 3, 1, 0, 0, 0, 0)] (pc2 := 3) (by decide +kernel) rfl trivial ?_
  obtain ⟨σ1, e1, hf⟩ := bR_some hf
  refine h.callV (as := [.int x1, .int x3]) (rest := []) (by decide +kernel) lk5_139 cwX5_bring kd_0 (kmX5_bring l e1) rfl (Nat.le_of_ble_eq_true rfl) (Nat.le_of_ble_eq_true rfl) (Nat.le_of_ble_eq_true rfl) ?_
  show V 6 [some (.ref 0), some (.int x1), some (.int x2), some (.int x3), some (.int x4), none] [] σ1
  refine h.run (o := [kd 0 = 5, kd 3 = 1, kd 0 = 5]) (ls' := [some (.ref 0), some (.int x1), some (.int x2), some (.int x3), some (.int x4), none]) (st' := [.ref 3]) (σ' := setI σ1 3 1 x4) [(.aload_n 0, 1, 0, 0, 0, 0), (.getfield 26, 3, 0, 0, 5, 3), (.iload 4, 2, 0, 0, 0, 0), (.putfield 274, 3, 0, 0, 1, 1), (.aload_n 0, 1, 0, 0, 0, 0), (.getfield 26, 3, 0, 0, 5, 3)] (pc2 := 19) (by decide +kernel) rfl (And.intro kd_0 (And.intro kd_3 (And.intro kd_0 trivial))) ?_
  obtain ⟨a2, σ2, e2, hf⟩ := bI_some hf
  refine h.callV (as := []) (rest := []) (by decide +kernel) lk5_143 cwX1_wouldSend kd_3 (kmX1_wouldSend l e2) rfl (Nat.le_of_ble_eq_true rfl) (Nat.le_of_ble_eq_true rfl) (Nat.le_of_ble_eq_true rfl) ?_
  show V 22 [some (.ref 0), some (.int x1), some (.int x2), some (.int x3), some (.int x4), none] [.int a2] σ2
  refine h.run (o := []) (ls' := [some (.ref 0), some (.int x1), some (.int x2), some (.int x3), some (.int x4), some (.int a2)]) (st' := [.int x3, .int x2, .ref 0]) (σ' := σ2) [(.istore 5, 2, 0, 0, 0, 0), (.aload_n 0, 1, 0, 0, 0, 0), (.iload_n 2, 1, 0, 0, 0, 0), (.iload_n 3, 1, 0, 0, 0, 0)] (pc2 := 27) (by decide +kernel) rfl trivial ?_
  obtain ⟨σ3, e3, hf⟩ := bR_some hf
  refine h.callV (as := [.int x2, .int x3]) (rest := []) (by decide +kernel) lk5_139 cwX5_bring kd_0 (kmX5_bring l e3) rfl (Nat.le_of_ble_eq_true rfl) (Nat.le_of_ble_eq_true rfl) (Nat.le_of_ble_eq_true rfl) ?_
  show V 30 [some (.ref 0), some (.int x1), some (.int x2), some (.int x3), some (.int x4), some (.int a2)] [] σ3
  refine h.run (o := [kd 0 = 5, kd 3 = 1, kd 0 = 5]) (ls' := [some (.ref 0), some (.int x1), some (.int x2), some (.int x3), some (.int x4), some (.int a2)]) (st' := [.ref 3, .int a2]) (σ' := setI σ3 3 1 x4) [(.aload_n 0, 1, 0, 0, 0, 0), (.getfield 26, 3, 0, 0, 5, 3), (.iload 4, 2, 0, 0, 0, 0), (.putfield 274, 3, 0, 0, 1, 1), (.iload 5, 2, 0, 0, 0, 0), (.aload_n 0, 1, 0, 0, 0, 0), (.getfield 26, 3, 0, 0, 5, 3)] (pc2 := 45) (by decide +kernel) rfl (And.intro kd_0 (And.intro kd_3 (And.intro kd_0 trivial))) ?_
  obtain ⟨a4, σ4, e4, hf⟩ := bI_some hf
  refine h.callV (as := []) (rest := [.int a2]) (by decide +kernel) lk5_143 cwX1_wouldSend kd_3 (kmX1_wouldSend l e4) rfl (Nat.le_of_ble_eq_true rfl) (Nat.le_of_ble_eq_true rfl) (Nat.le_of_ble_eq_true rfl) ?_
  show V 48 [some (.ref 0), some (.int x1), some (.int x2), some (.int x3), some (.int x4), some (.int a2)] [.int a4, .int a2] σ4
  refine h.run (o := []) (ls' := [some (.ref 0), some (.int x1), some (.int x2), some (.int x3), some (.int x4), some (.int a2)]) (st' := [.int (a2 - a4)]) (σ' := σ4) [(.isub, 1, 0, 0, 0, 0)] (pc2 := 49) (by decide +kernel) rfl trivial ?_
  refine h.nabs jw_l298 (by decide +kernel) (Nat.le_of_ble_eq_true rfl) (Nat.le_of_ble_eq_true rfl) ?_
  show V 52 [some (.ref 0), some (.int x1), some (.int x2), some (.int x3), some (.int x4), some (.int a2)] [.int (iabs (a2 - a4))] σ4
  obtain ⟨rfl, rfl⟩ := Prod.mk.inj (Option.some.inj hf)
  exact hm.iret (by decide +kernel)
def fX5_parts_34 (σ : ST) : Option (Int32 × ST) :=
  some ((-1), σ)
set_option maxHeartbeats 4000000 in
theorem wX5_parts_34 {l : Launch} {V : Nat → List (Option Value) → List Value → ST → Prop} {r : Int32} {τ : ST} {σ : ST} (hm : BM l 5 cX5_parts 9 (some .int) 6 139 (some (.int r)) τ V) (hf : fX5_parts_34 σ = some (r, τ)) : V 34 [none, none, none, none, none, none, none, none, none] [] σ := by
  have h := hm.bd
  unfold fX5_parts_34 at hf
  refine h.run (o := []) (ls' := [none, none, none, none, none, none, none, none, none]) (st' := [.int (-1)]) (σ' := σ) [(.iconst (-1), 1, (-1), 0, 0, 0)] (pc2 := 35) (by decide +kernel) rfl trivial ?_
  obtain ⟨rfl, rfl⟩ := Prod.mk.inj (Option.some.inj hf)
  exact hm.iret (by decide +kernel)
def fX5_parts_102 (t0 : Int32) (σ : ST) : Option (Int32 × ST) :=
  some (t0, σ)
set_option maxHeartbeats 4000000 in
theorem wX5_parts_102 {l : Launch} {V : Nat → List (Option Value) → List Value → ST → Prop} {r : Int32} {τ : ST} {σ : ST} {t0 : Int32} (hm : BM l 5 cX5_parts 9 (some .int) 6 139 (some (.int r)) τ V) (hf : fX5_parts_102 t0 σ = some (r, τ)) : V 102 [none, none, none, none, none, none, none, none, none] [.int t0] σ := by
  have h := hm.bd
  unfold fX5_parts_102 at hf
  obtain ⟨rfl, rfl⟩ := Prod.mk.inj (Option.some.inj hf)
  exact hm.iret (by decide +kernel)
def fX5_parts_84 (kt_52 : Int32 → Int32 → Int32 → Int32 → Int32 → Int32 → Int32 → ST → Option (Int32 × ST)) (x1 : Int32) (x2 : Int32) (x3 : Int32) (x4 : Int32) (x5 : Int32) (x6 : Int32) (x7 : Int32) (σ : ST) : Option (Int32 × ST) :=
  kt_52 x1 x2 x3 x4 x5 x6 (x7 + 1) σ
set_option maxHeartbeats 4000000 in
theorem wX5_parts_84 {l : Launch} {V : Nat → List (Option Value) → List Value → ST → Prop} {r : Int32} {τ : ST} {σ : ST} {x1 : Int32} {x2 : Int32} {x3 : Int32} {x4 : Int32} {x5 : Int32} {x6 : Int32} {x7 : Int32} {kt_52 : Int32 → Int32 → Int32 → Int32 → Int32 → Int32 → Int32 → ST → Option (Int32 × ST)} (hm : BM l 5 cX5_parts 9 (some .int) 6 139 (some (.int r)) τ V) (hkt_52 : ∀ (x1 : Int32) (x2 : Int32) (x3 : Int32) (x4 : Int32) (x5 : Int32) (x6 : Int32) (x7 : Int32) (σ : ST), kt_52 x1 x2 x3 x4 x5 x6 x7 σ = some (r, τ) → V 52 [some (.ref 0), some (.int x1), some (.int x2), some (.int x3), some (.int x4), some (.int x5), some (.int x6), some (.int x7), none] [] σ) (hf : fX5_parts_84 kt_52 x1 x2 x3 x4 x5 x6 x7 σ = some (r, τ)) : V 84 [some (.ref 0), some (.int x1), some (.int x2), some (.int x3), some (.int x4), some (.int x5), some (.int x6), some (.int x7), none] [] σ := by
  have h := hm.bd
  unfold fX5_parts_84 at hf
  refine h.run (o := []) (ls' := [some (.ref 0), some (.int x1), some (.int x2), some (.int x3), some (.int x4), some (.int x5), some (.int x6), some (.int (x7 + 1)), none]) (st' := []) (σ' := σ) [(.iinc 7 1, 3, 1, 0, 0, 0), (.goto (-35), 3, 0, 0, 0, 52)] (pc2 := 52) (by decide +kernel) rfl trivial ?_
  exact hkt_52 x1 x2 x3 x4 x5 x6 (x7 + 1) _ hf
def fX5_parts_52 (n : Nat) (x1 : Int32) (x2 : Int32) (x3 : Int32) (x4 : Int32) (x5 : Int32) (x6 : Int32) (x7 : Int32) (σ : ST) : Option (Int32 × ST) := match n with
  | 0 => none
  | n + 1 =>
    if 5 < x7 then
      if x4 = 0 then
        fX5_parts_102 x5 σ
      else
        fX5_parts_102 x6 σ
    else
      bI (fX5_howUnlike x1 x2 x3 x7 σ) fun a2 σ2 =>
      if a2 ≤ x6 then
        fX5_parts_84 (fX5_parts_52 n) x1 x2 x3 x4 x5 x6 x7 σ2
      else
        fX5_parts_84 (fX5_parts_52 n) x1 x2 x3 x4 x7 a2 x7 σ2
set_option maxHeartbeats 4000000 in
theorem wX5_parts_52 {l : Launch} {V : Nat → List (Option Value) → List Value → ST → Prop} {r : Int32} {τ : ST} (hm : BM l 5 cX5_parts 9 (some .int) 6 139 (some (.int r)) τ V) : ∀ (n : Nat) (x1 : Int32) (x2 : Int32) (x3 : Int32) (x4 : Int32) (x5 : Int32) (x6 : Int32) (x7 : Int32) (σ : ST), fX5_parts_52 n x1 x2 x3 x4 x5 x6 x7 σ = some (r, τ) → V 52 [some (.ref 0), some (.int x1), some (.int x2), some (.int x3), some (.int x4), some (.int x5), some (.int x6), some (.int x7), none] [] σ := by
  have h := hm.bd
  intro n
  induction n with
  | zero => intro x1 x2 x3 x4 x5 x6 x7 σ hf; cases hf
  | succ n ih =>
    intro x1 x2 x3 x4 x5 x6 x7 σ hf
    rw [fX5_parts_52] at hf
    refine h.run (o := []) (ls' := [some (.ref 0), some (.int x1), some (.int x2), some (.int x3), some (.int x4), some (.int x5), some (.int x6), some (.int x7), none]) (st' := [.int 5, .int x7]) (σ' := σ) [(.iload 7, 2, 0, 0, 0, 0), (.iconst 5, 1, 5, 0, 0, 0)] (pc2 := 55) (by decide +kernel) rfl trivial ?_
    refine h.icmp_gt (tgt := 90) (show decode cX5_parts 55 = .ok (.if_icmp .gt 35, 3) by decide +kernel) (by decide) (fun c4 => ?_) (fun c4 => ?_)
    · rw [if_pos c4] at hf
      refine h.run (o := []) (ls' := [some (.ref 0), some (.int x1), some (.int x2), some (.int x3), some (.int x4), some (.int x5), some (.int x6), some (.int x7), none]) (st' := [.int x4]) (σ' := σ) [(.iload 4, 2, 0, 0, 0, 0)] (pc2 := 92) (by decide +kernel) rfl trivial ?_
      refine h.if_ne (tgt := 100) (show decode cX5_parts 92 = .ok (.ifCond .ne 8, 3) by decide +kernel) (by decide) (fun c1 => ?_) (fun c1 => ?_)
      · rw [if_neg c1] at hf
        refine h.run (o := []) (ls' := [some (.ref 0), some (.int x1), some (.int x2), some (.int x3), some (.int x4), some (.int x5), some (.int x6), some (.int x7), none]) (st' := [.int x6]) (σ' := σ) [(.iload 6, 2, 0, 0, 0, 0)] (pc2 := 102) (by decide +kernel) rfl trivial ?_
        refine h.drop (ls' := [none, none, none, none, none, none, none, none, none]) trivial ?_
        exact wX5_parts_102 hm hf
      · rw [if_pos c1] at hf
        show V 95 [some (.ref 0), some (.int x1), some (.int x2), some (.int x3), some (.int x4), some (.int x5), some (.int x6), some (.int x7), none] [] σ
        refine h.run (o := []) (ls' := [some (.ref 0), some (.int x1), some (.int x2), some (.int x3), some (.int x4), some (.int x5), some (.int x6), some (.int x7), none]) (st' := [.int x5]) (σ' := σ) [(.iload 5, 2, 0, 0, 0, 0), (.goto 5, 3, 0, 0, 0, 102)] (pc2 := 102) (by decide +kernel) rfl trivial ?_
        refine h.drop (ls' := [none, none, none, none, none, none, none, none, none]) trivial ?_
        exact wX5_parts_102 hm hf
    · rw [if_neg c4] at hf
      show V 58 [some (.ref 0), some (.int x1), some (.int x2), some (.int x3), some (.int x4), some (.int x5), some (.int x6), some (.int x7), none] [] σ
      refine h.run (o := []) (ls' := [some (.ref 0), some (.int x1), some (.int x2), some (.int x3), some (.int x4), some (.int x5), some (.int x6), some (.int x7), none]) (st' := [.int x7, .int x3, .int x2, .int x1, .ref 0]) (σ' := σ) [(.aload_n 0, 1, 0, 0, 0, 0), (.iload_n 1, 1, 0, 0, 0, 0), (.iload_n 2, 1, 0, 0, 0, 0), (.iload_n 3, 1, 0, 0, 0, 0), (.iload 7, 2, 0, 0, 0, 0)] (pc2 := 64) (by decide +kernel) rfl trivial ?_
      obtain ⟨a2, σ2, e2, hf⟩ := bI_some hf
      refine h.callV (as := [.int x1, .int x2, .int x3, .int x7]) (rest := []) (by decide +kernel) lk5_194 cwX5_howUnlike kd_0 (kmX5_howUnlike l e2) rfl (Nat.le_of_ble_eq_true rfl) (Nat.le_of_ble_eq_true rfl) (Nat.le_of_ble_eq_true rfl) ?_
      show V 67 [some (.ref 0), some (.int x1), some (.int x2), some (.int x3), some (.int x4), some (.int x5), some (.int x6), some (.int x7), none] [.int a2] σ2
      refine h.run (o := []) (ls' := [some (.ref 0), some (.int x1), some (.int x2), some (.int x3), some (.int x4), some (.int x5), some (.int x6), some (.int x7), some (.int a2)]) (st' := [.int x6, .int a2]) (σ' := σ2) [(.istore 8, 2, 0, 0, 0, 0), (.iload 8, 2, 0, 0, 0, 0), (.iload 6, 2, 0, 0, 0, 0)] (pc2 := 73) (by decide +kernel) rfl trivial ?_
      refine h.icmp_le (tgt := 84) (show decode cX5_parts 73 = .ok (.if_icmp .le 11, 3) by decide +kernel) (by decide) (fun c3 => ?_) (fun c3 => ?_)
      · rw [if_pos c3] at hf
        refine h.drop (ls' := [some (.ref 0), some (.int x1), some (.int x2), some (.int x3), some (.int x4), some (.int x5), some (.int x6), some (.int x7), none]) (And.intro rfl (And.intro rfl (And.intro rfl (And.intro rfl (And.intro rfl (And.intro rfl (And.intro rfl (And.intro rfl trivial)))))))) ?_
        exact wX5_parts_84 hm ih hf
      · rw [if_neg c3] at hf
        show V 76 [some (.ref 0), some (.int x1), some (.int x2), some (.int x3), some (.int x4), some (.int x5), some (.int x6), some (.int x7), some (.int a2)] [] σ2
        refine h.run (o := []) (ls' := [some (.ref 0), some (.int x1), some (.int x2), some (.int x3), some (.int x4), some (.int x7), some (.int a2), some (.int x7), some (.int a2)]) (st' := []) (σ' := σ2) [(.iload 8, 2, 0, 0, 0, 0), (.istore 6, 2, 0, 0, 0, 0), (.iload 7, 2, 0, 0, 0, 0), (.istore 5, 2, 0, 0, 0, 0)] (pc2 := 84) (by decide +kernel) rfl trivial ?_
        refine h.drop (ls' := [some (.ref 0), some (.int x1), some (.int x2), some (.int x3), some (.int x4), some (.int x7), some (.int a2), some (.int x7), none]) (And.intro rfl (And.intro rfl (And.intro rfl (And.intro rfl (And.intro rfl (And.intro rfl (And.intro rfl (And.intro rfl trivial)))))))) ?_
        exact wX5_parts_84 hm ih hf
def fX5_parts (x1 : Int32) (x2 : Int32) (x3 : Int32) (x4 : Int32) (σ : ST) : Option (Int32 × ST) :=
  bR (fX5_areThere x1 x3 σ) fun a1 =>
  if a1 = 0 then
    fX5_parts_34 σ
  else
    bR (fX5_areThere x2 x3 σ) fun a2 =>
    if a2 = 0 then
      fX5_parts_34 σ
    else
      if x1 = x2 then
        fX5_parts_34 σ
      else
        if x4 < 0 then
          fX5_parts_34 σ
        else
          if x4 ≤ 1 then
            bI (fX5_howUnlike x1 x2 x3 1 σ) fun a3 σ3 =>
            fX5_parts_52 FU x1 x2 x3 x4 1 a3 2 σ3
          else
            fX5_parts_34 σ
set_option maxHeartbeats 4000000 in
theorem kmX5_parts (l : Launch) {x1 : Int32} {x2 : Int32} {x3 : Int32} {x4 : Int32} {σ : ST} {r : Int32} {τ : ST} (hf : fX5_parts x1 x2 x3 x4 σ = some (r, τ)) : KM l yX5_parts cX5_parts 9 (some .int) 6 139 [.ref 0, .int x1, .int x2, .int x3, .int x4] σ (some (.int r)) τ := by
  refine KM.intro (ow := 5) (by decide +kernel) rfl (Nat.le_of_ble_eq_true rfl) (fun V hm => ?_)
  show V 0 [some (.ref 0), some (.int x1), some (.int x2), some (.int x3), some (.int x4), none, none, none, none] [] σ
  have h := hm.bd
  unfold fX5_parts at hf
  refine h.run (o := []) (ls' := [some (.ref 0), some (.int x1), some (.int x2), some (.int x3), some (.int x4), none, none, none, none]) (st' := [.int x3, .int x1, .ref 0]) (σ' := σ) [(.aload_n 0, 1, 0, 0, 0, 0), (.iload_n 1, 1, 0, 0, 0, 0), (.iload_n 3, 1, 0, 0, 0, 0)] (pc2 := 3) (by decide +kernel) rfl trivial ?_
  obtain ⟨a1, e1, hf⟩ := bR_some hf
  refine h.callV (as := [.int x1, .int x3]) (rest := []) (by decide +kernel) lk5_117 cwX5_areThere kd_0 (kmX5_areThere l e1) rfl (Nat.le_of_ble_eq_true rfl) (Nat.le_of_ble_eq_true rfl) (Nat.le_of_ble_eq_true rfl) ?_
  show V 6 [some (.ref 0), some (.int x1), some (.int x2), some (.int x3), some (.int x4), none, none, none, none] [.int a1] σ
  refine h.if_eq (tgt := 34) (show decode cX5_parts 6 = .ok (.ifCond .eq 28, 3) by decide +kernel) (by decide) (fun c8 => ?_) (fun c8 => ?_)
  · rw [if_pos c8] at hf
    refine h.drop (ls' := [none, none, none, none, none, none, none, none, none]) trivial ?_
    exact wX5_parts_34 hm hf
  · rw [if_neg c8] at hf
    show V 9 [some (.ref 0), some (.int x1), some (.int x2), some (.int x3), some (.int x4), none, none, none, none] [] σ
    refine h.run (o := []) (ls' := [some (.ref 0), some (.int x1), some (.int x2), some (.int x3), some (.int x4), none, none, none, none]) (st' := [.int x3, .int x2, .ref 0]) (σ' := σ) [(.aload_n 0, 1, 0, 0, 0, 0), (.iload_n 2, 1, 0, 0, 0, 0), (.iload_n 3, 1, 0, 0, 0, 0)] (pc2 := 12) (by decide +kernel) rfl trivial ?_
    obtain ⟨a2, e2, hf⟩ := bR_some hf
    refine h.callV (as := [.int x2, .int x3]) (rest := []) (by decide +kernel) lk5_117 cwX5_areThere kd_0 (kmX5_areThere l e2) rfl (Nat.le_of_ble_eq_true rfl) (Nat.le_of_ble_eq_true rfl) (Nat.le_of_ble_eq_true rfl) ?_
    show V 15 [some (.ref 0), some (.int x1), some (.int x2), some (.int x3), some (.int x4), none, none, none, none] [.int a2] σ
    refine h.if_eq (tgt := 34) (show decode cX5_parts 15 = .ok (.ifCond .eq 19, 3) by decide +kernel) (by decide) (fun c7 => ?_) (fun c7 => ?_)
    · rw [if_pos c7] at hf
      refine h.drop (ls' := [none, none, none, none, none, none, none, none, none]) trivial ?_
      exact wX5_parts_34 hm hf
    · rw [if_neg c7] at hf
      show V 18 [some (.ref 0), some (.int x1), some (.int x2), some (.int x3), some (.int x4), none, none, none, none] [] σ
      refine h.run (o := []) (ls' := [some (.ref 0), some (.int x1), some (.int x2), some (.int x3), some (.int x4), none, none, none, none]) (st' := [.int x2, .int x1]) (σ' := σ) [(.iload_n 1, 1, 0, 0, 0, 0), (.iload_n 2, 1, 0, 0, 0, 0)] (pc2 := 20) (by decide +kernel) rfl trivial ?_
      refine h.icmp_eq (tgt := 34) (show decode cX5_parts 20 = .ok (.if_icmp .eq 14, 3) by decide +kernel) (by decide) (fun c6 => ?_) (fun c6 => ?_)
      · rw [if_pos c6] at hf
        refine h.drop (ls' := [none, none, none, none, none, none, none, none, none]) trivial ?_
        exact wX5_parts_34 hm hf
      · rw [if_neg c6] at hf
        show V 23 [some (.ref 0), some (.int x1), some (.int x2), some (.int x3), some (.int x4), none, none, none, none] [] σ
        refine h.run (o := []) (ls' := [some (.ref 0), some (.int x1), some (.int x2), some (.int x3), some (.int x4), none, none, none, none]) (st' := [.int x4]) (σ' := σ) [(.iload 4, 2, 0, 0, 0, 0)] (pc2 := 25) (by decide +kernel) rfl trivial ?_
        refine h.if_lt (tgt := 34) (show decode cX5_parts 25 = .ok (.ifCond .lt 9, 3) by decide +kernel) (by decide) (fun c5 => ?_) (fun c5 => ?_)
        · rw [if_pos c5] at hf
          refine h.drop (ls' := [none, none, none, none, none, none, none, none, none]) trivial ?_
          exact wX5_parts_34 hm hf
        · rw [if_neg c5] at hf
          show V 28 [some (.ref 0), some (.int x1), some (.int x2), some (.int x3), some (.int x4), none, none, none, none] [] σ
          refine h.run (o := []) (ls' := [some (.ref 0), some (.int x1), some (.int x2), some (.int x3), some (.int x4), none, none, none, none]) (st' := [.int 1, .int x4]) (σ' := σ) [(.iload 4, 2, 0, 0, 0, 0), (.iconst 1, 1, 1, 0, 0, 0)] (pc2 := 31) (by decide +kernel) rfl trivial ?_
          refine h.icmp_le (tgt := 36) (show decode cX5_parts 31 = .ok (.if_icmp .le 5, 3) by decide +kernel) (by decide) (fun c4 => ?_) (fun c4 => ?_)
          · rw [if_pos c4] at hf
            refine h.run (o := []) (ls' := [some (.ref 0), some (.int x1), some (.int x2), some (.int x3), some (.int x4), some (.int 1), none, none, none]) (st' := [.int 1, .int x3, .int x2, .int x1, .ref 0]) (σ' := σ) [(.iconst 1, 1, 1, 0, 0, 0), (.istore 5, 2, 0, 0, 0, 0), (.aload_n 0, 1, 0, 0, 0, 0), (.iload_n 1, 1, 0, 0, 0, 0), (.iload_n 2, 1, 0, 0, 0, 0), (.iload_n 3, 1, 0, 0, 0, 0), (.iconst 1, 1, 1, 0, 0, 0)] (pc2 := 44) (by decide +kernel) rfl trivial ?_
            obtain ⟨a3, σ3, e3, hf⟩ := bI_some hf
            refine h.callV (as := [.int x1, .int x2, .int x3, .int 1]) (rest := []) (by decide +kernel) lk5_194 cwX5_howUnlike kd_0 (kmX5_howUnlike l e3) rfl (Nat.le_of_ble_eq_true rfl) (Nat.le_of_ble_eq_true rfl) (Nat.le_of_ble_eq_true rfl) ?_
            show V 47 [some (.ref 0), some (.int x1), some (.int x2), some (.int x3), some (.int x4), some (.int 1), none, none, none] [.int a3] σ3
            refine h.run (o := []) (ls' := [some (.ref 0), some (.int x1), some (.int x2), some (.int x3), some (.int x4), some (.int 1), some (.int a3), some (.int 2), none]) (st' := []) (σ' := σ3) [(.istore 6, 2, 0, 0, 0, 0), (.iconst 2, 1, 2, 0, 0, 0), (.istore 7, 2, 0, 0, 0, 0)] (pc2 := 52) (by decide +kernel) rfl trivial ?_
            exact wX5_parts_52 hm FU x1 x2 x3 x4 1 a3 2 _ hf
          · rw [if_neg c4] at hf
            show V 34 [some (.ref 0), some (.int x1), some (.int x2), some (.int x3), some (.int x4), none, none, none, none] [] σ
            refine h.drop (ls' := [none, none, none, none, none, none, none, none, none]) trivial ?_
            exact wX5_parts_34 hm hf
def fX5_image (σ : ST) : Option (Int32 × ST) :=
  bR (fX0_become 2 1 σ) fun σ1 =>
  some ((setI σ1 0 2 1).1 10 3, setI σ1 0 2 1)
set_option maxHeartbeats 4000000 in
theorem kmX5_image (l : Launch) {σ : ST} {r : Int32} {τ : ST} (hf : fX5_image σ = some (r, τ)) : KM l yX5_image cX5_image 1 (some .int) 3 82 [.ref 0] σ (some (.int r)) τ := by
  refine KM.intro (ow := 5) (by decide +kernel) rfl (Nat.le_of_ble_eq_true rfl) (fun V hm => ?_)
  show V 0 [some (.ref 0)] [] σ
  have h := hm.bd
  unfold fX5_image at hf
  refine h.run (o := [kd 0 = 5, kd 0 = 5]) (ls' := [some (.ref 0)]) (st' := [.ref 1, .ref 2]) (σ' := σ) [(.aload_n 0, 1, 0, 0, 0, 0), (.getfield 16, 3, 0, 0, 5, 1), (.aload_n 0, 1, 0, 0, 0, 0), (.getfield 10, 3, 0, 0, 5, 0)] (pc2 := 8) (by decide +kernel) rfl (And.intro kd_0 (And.intro kd_0 trivial)) ?_
  obtain ⟨σ1, e1, hf⟩ := bR_some hf
  refine h.callV (as := [.ref 1]) (rest := []) (by decide +kernel) lk5_198 cwX0_become kd_2 (kmX0_become l kd_2 kd_1 e1) rfl (Nat.le_of_ble_eq_true rfl) (Nat.le_of_ble_eq_true rfl) (Nat.le_of_ble_eq_true rfl) ?_
  show V 11 [some (.ref 0)] [] σ1
  refine h.run (o := [kd 0 = 5, isb 1 = true, kd 0 = 5, kd 1 = 0, kd 10 = 4]) (ls' := [some (.ref 0)]) (st' := [.int ((setI σ1 0 2 1).1 10 3)]) (σ' := setI σ1 0 2 1) [(.aload_n 0, 1, 0, 0, 0, 0), (.iconst 1, 1, 1, 0, 0, 0), (.putfield 19, 3, 0, 0, 105, 2), (.aload_n 0, 1, 0, 0, 0, 0), (.getfield 10, 3, 0, 0, 5, 0), (.getfield 104, 3, 0, 0, 0, 5), (.getfield 71, 3, 0, 0, 4, 3)] (pc2 := 26) (by decide +kernel) rfl (And.intro kd_0 (And.intro rfl (And.intro kd_0 (And.intro kd_1 (And.intro kd_10 trivial))))) ?_
  obtain ⟨rfl, rfl⟩ := Prod.mk.inj (Option.some.inj hf)
  exact hm.iret (by decide +kernel)
def fX5_restore (σ : ST) : Option (Int32 × ST) :=
  if (σ.1 0 2) = 0 then
    some ((-3), σ)
  else
    bR (fX0_become 1 2 σ) fun σ1 =>
    some (σ1.1 10 3, σ1)
set_option maxHeartbeats 4000000 in
theorem kmX5_restore (l : Launch) {σ : ST} {r : Int32} {τ : ST} (hf : fX5_restore σ = some (r, τ)) : KM l yX5_restore cX5_restore 1 (some .int) 3 82 [.ref 0] σ (some (.int r)) τ := by
  refine KM.intro (ow := 5) (by decide +kernel) rfl (Nat.le_of_ble_eq_true rfl) (fun V hm => ?_)
  show V 0 [some (.ref 0)] [] σ
  have h := hm.bd
  unfold fX5_restore at hf
  refine h.run (o := [kd 0 = 5]) (ls' := [some (.ref 0)]) (st' := [.int (σ.1 0 2)]) (σ' := σ) [(.aload_n 0, 1, 0, 0, 0, 0), (.getfield 19, 3, 0, 0, 5, 2)] (pc2 := 4) (by decide +kernel) rfl (And.intro kd_0 trivial) ?_
  refine h.if_ne (tgt := 10) (show decode cX5_restore 4 = .ok (.ifCond .ne 6, 3) by decide +kernel) (by decide) (fun c2 => ?_) (fun c2 => ?_)
  · rw [if_neg c2] at hf
    refine h.run (o := [kd 0 = 5, kd 0 = 5]) (ls' := [some (.ref 0)]) (st' := [.ref 2, .ref 1]) (σ' := σ) [(.aload_n 0, 1, 0, 0, 0, 0), (.getfield 10, 3, 0, 0, 5, 0), (.aload_n 0, 1, 0, 0, 0, 0), (.getfield 16, 3, 0, 0, 5, 1)] (pc2 := 18) (by decide +kernel) rfl (And.intro kd_0 (And.intro kd_0 trivial)) ?_
    obtain ⟨σ1, e1, hf⟩ := bR_some hf
    refine h.callV (as := [.ref 2]) (rest := []) (by decide +kernel) lk5_198 cwX0_become kd_1 (kmX0_become l kd_1 kd_2 e1) rfl (Nat.le_of_ble_eq_true rfl) (Nat.le_of_ble_eq_true rfl) (Nat.le_of_ble_eq_true rfl) ?_
    show V 21 [some (.ref 0)] [] σ1
    refine h.run (o := [kd 0 = 5, kd 1 = 0, kd 10 = 4]) (ls' := [some (.ref 0)]) (st' := [.int (σ1.1 10 3)]) (σ' := σ1) [(.aload_n 0, 1, 0, 0, 0, 0), (.getfield 10, 3, 0, 0, 5, 0), (.getfield 104, 3, 0, 0, 0, 5), (.getfield 71, 3, 0, 0, 4, 3)] (pc2 := 31) (by decide +kernel) rfl (And.intro kd_0 (And.intro kd_1 (And.intro kd_10 trivial))) ?_
    obtain ⟨rfl, rfl⟩ := Prod.mk.inj (Option.some.inj hf)
    exact hm.iret (by decide +kernel)
  · rw [if_pos c2] at hf
    show V 7 [some (.ref 0)] [] σ
    refine h.run (o := []) (ls' := [some (.ref 0)]) (st' := [.int (-3)]) (σ' := σ) [(.bipush (-3), 2, (-3), 0, 0, 0)] (pc2 := 9) (by decide +kernel) rfl trivial ?_
    obtain ⟨rfl, rfl⟩ := Prod.mk.inj (Option.some.inj hf)
    exact hm.iret (by decide +kernel)
