/-! Printed by wip/whole/prt.py: functions and walks. -/
def fX3_has_26 (t0 : Int32) (σ : ST) : Option Int32 :=
  gd (isb t0) <|
  some t0
set_option maxHeartbeats 4000000 in
theorem wX3_has_26 {l : Launch} {V : Nat → List (Option Value) → List Value → ST → Prop} {r : Int32} {σ : ST} {t0 : Int32} (hm : BM l 3 cX3_has 2 (some .boolean) 0 0 (some (.int r)) σ V) (hf : fX3_has_26 t0 σ = some r) : V 26 [none, none] [.int t0] σ := by
  have h := hm.bd
  unfold fX3_has_26 at hf
  obtain ⟨g1, hf⟩ := gd_some hf
  obtain rfl := Option.some.inj hf
  exact hm.zret (by decide +kernel) g1
def fX3_has_25 (σ : ST) : Option Int32 :=
  fX3_has_26 0 σ
set_option maxHeartbeats 4000000 in
theorem wX3_has_25 {l : Launch} {V : Nat → List (Option Value) → List Value → ST → Prop} {r : Int32} {σ : ST} (hm : BM l 3 cX3_has 2 (some .boolean) 0 0 (some (.int r)) σ V) (hf : fX3_has_25 σ = some r) : V 25 [none, none] [] σ := by
  have h := hm.bd
  unfold fX3_has_25 at hf
  refine h.run (o := []) (ls' := [none, none]) (st' := [.int 0]) (σ' := σ) [(.iconst 0, 1, 0, 0, 0, 0)] (pc2 := 26) (by decide +kernel) rfl trivial ?_
  exact wX3_has_26 hm hf
def fX3_has (k0 : Nat) (x1 : Int32) (σ : ST) : Option Int32 :=
  if x1 < 0 then
    fX3_has_25 σ
  else
    if (σ.1 k0 6) ≤ x1 then
      fX3_has_25 σ
    else
      if (Int32.ofNat (alen (k0 + 1))) ≤ x1 then
        fX3_has_25 σ
      else
        fX3_has_26 1 σ
set_option maxHeartbeats 4000000 in
theorem kmX3_has (l : Launch) {k0 : Nat} {x1 : Int32} {σ : ST} {r : Int32} (hk0 : kd k0 = 3) (hf : fX3_has k0 x1 σ = some r) : KM l yX3_has cX3_has 2 (some .boolean) 0 0 [.ref k0, .int x1] σ (some (.int r)) σ := by
  refine KM.intro (ow := 3) (by decide +kernel) rfl (Nat.le_of_ble_eq_true rfl) (fun V hm => ?_)
  show V 0 [some (.ref k0), some (.int x1)] [] σ
  have h := hm.bd
  unfold fX3_has at hf
  refine h.run (o := []) (ls' := [some (.ref k0), some (.int x1)]) (st' := [.int x1]) (σ' := σ) [(.iload_n 1, 1, 0, 0, 0, 0)] (pc2 := 1) (by decide +kernel) rfl trivial ?_
  refine h.if_lt (tgt := 25) (show decode cX3_has 1 = .ok (.ifCond .lt 24, 3) by decide +kernel) (by decide) (fun c3 => ?_) (fun c3 => ?_)
  · rw [if_pos c3] at hf
    refine h.drop (ls' := [none, none]) trivial ?_
    exact wX3_has_25 hm hf
  · rw [if_neg c3] at hf
    show V 4 [some (.ref k0), some (.int x1)] [] σ
    refine h.run (o := [kd k0 = 3]) (ls' := [some (.ref k0), some (.int x1)]) (st' := [.int (σ.1 k0 6), .int x1]) (σ' := σ) [(.iload_n 1, 1, 0, 0, 0, 0), (.aload_n 0, 1, 0, 0, 0, 0), (.getfield 22, 3, 0, 0, 3, 6)] (pc2 := 9) (by decide +kernel) rfl (And.intro hk0 trivial) ?_
    refine h.icmp_ge (tgt := 25) (show decode cX3_has 9 = .ok (.if_icmp .ge 16, 3) by decide +kernel) (by decide) (fun c2 => ?_) (fun c2 => ?_)
    · rw [if_pos c2] at hf
      refine h.drop (ls' := [none, none]) trivial ?_
      exact wX3_has_25 hm hf
    · rw [if_neg c2] at hf
      show V 12 [some (.ref k0), some (.int x1)] [] σ
      refine h.run (o := [kd k0 = 3, kd (k0 + 1) = 10]) (ls' := [some (.ref k0), some (.int x1)]) (st' := [.int (Int32.ofNat (alen (k0 + 1))), .int x1]) (σ' := σ) [(.iload_n 1, 1, 0, 0, 0, 0), (.aload_n 0, 1, 0, 0, 0, 0), (.getfield 15, 3, 0, 0, 3, 7), (.arraylength, 1, 0, 0, 10, 0)] (pc2 := 18) (by decide +kernel) rfl (And.intro hk0 (And.intro (kd_S hk0).1 trivial)) ?_
      refine h.icmp_ge (tgt := 25) (show decode cX3_has 18 = .ok (.if_icmp .ge 7, 3) by decide +kernel) (by decide) (fun c1 => ?_) (fun c1 => ?_)
      · rw [if_pos c1] at hf
        refine h.drop (ls' := [none, none]) trivial ?_
        exact wX3_has_25 hm hf
      · rw [if_neg c1] at hf
        show V 21 [some (.ref k0), some (.int x1)] [] σ
        refine h.run (o := []) (ls' := [some (.ref k0), some (.int x1)]) (st' := [.int 1]) (σ' := σ) [(.iconst 1, 1, 1, 0, 0, 0), (.goto 4, 3, 0, 0, 0, 26)] (pc2 := 26) (by decide +kernel) rfl trivial ?_
        refine h.drop (ls' := [none, none]) trivial ?_
        exact wX3_has_26 hm hf
def fX3_read_18 (t0 : Int32) (σ : ST) : Option Int32 :=
  some t0
set_option maxHeartbeats 4000000 in
theorem wX3_read_18 {l : Launch} {V : Nat → List (Option Value) → List Value → ST → Prop} {r : Int32} {σ : ST} {t0 : Int32} (hm : BM l 3 cX3_read 2 (some .int) 1 21 (some (.int r)) σ V) (hf : fX3_read_18 t0 σ = some r) : V 18 [none, none] [.int t0] σ := by
  have h := hm.bd
  unfold fX3_read_18 at hf
  obtain rfl := Option.some.inj hf
  exact hm.iret (by decide +kernel)
def fX3_read (k0 : Nat) (x1 : Int32) (σ : ST) : Option Int32 :=
  bR (fX3_has k0 x1 σ) fun a1 =>
  if a1 = 0 then
    fX3_read_18 0 σ
  else
    gd (inb x1 (alen (k0 + 1))) <|
    fX3_read_18 (σ.1 (k0 + 1) x1.toNatClampNeg) σ
set_option maxHeartbeats 4000000 in
theorem kmX3_read (l : Launch) {k0 : Nat} {x1 : Int32} {σ : ST} {r : Int32} (hk0 : kd k0 = 3) (hf : fX3_read k0 x1 σ = some r) : KM l yX3_read cX3_read 2 (some .int) 1 21 [.ref k0, .int x1] σ (some (.int r)) σ := by
  refine KM.intro (ow := 3) (by decide +kernel) rfl (Nat.le_of_ble_eq_true rfl) (fun V hm => ?_)
  show V 0 [some (.ref k0), some (.int x1)] [] σ
  have h := hm.bd
  unfold fX3_read at hf
  refine h.run (o := []) (ls' := [some (.ref k0), some (.int x1)]) (st' := [.int x1, .ref k0]) (σ' := σ) [(.aload_n 0, 1, 0, 0, 0, 0), (.iload_n 1, 1, 0, 0, 0, 0)] (pc2 := 2) (by decide +kernel) rfl trivial ?_
  obtain ⟨a1, e1, hf⟩ := bR_some hf
  refine h.callV (as := [.int x1]) (rest := []) (by decide +kernel) lk3_25 cwX3_has hk0 (kmX3_has l hk0 e1) rfl (Nat.le_of_ble_eq_true rfl) (Nat.le_of_ble_eq_true rfl) (Nat.le_of_ble_eq_true rfl) ?_
  show V 5 [some (.ref k0), some (.int x1)] [.int a1] σ
  refine h.if_eq (tgt := 17) (show decode cX3_read 5 = .ok (.ifCond .eq 12, 3) by decide +kernel) (by decide) (fun c3 => ?_) (fun c3 => ?_)
  · rw [if_pos c3] at hf
    refine h.run (o := []) (ls' := [some (.ref k0), some (.int x1)]) (st' := [.int 0]) (σ' := σ) [(.iconst 0, 1, 0, 0, 0, 0)] (pc2 := 18) (by decide +kernel) rfl trivial ?_
    refine h.drop (ls' := [none, none]) trivial ?_
    exact wX3_read_18 hm hf
  · rw [if_neg c3] at hf
    show V 8 [some (.ref k0), some (.int x1)] [] σ
    obtain ⟨g2, hf⟩ := gd_some hf
    refine h.run (o := [kd k0 = 3, kd (k0 + 1) = 10, inb x1 (alen (k0 + 1)) = true]) (ls' := [some (.ref k0), some (.int x1)]) (st' := [.int (σ.1 (k0 + 1) x1.toNatClampNeg)]) (σ' := σ) [(.aload_n 0, 1, 0, 0, 0, 0), (.getfield 15, 3, 0, 0, 3, 7), (.iload_n 1, 1, 0, 0, 0, 0), (.iaload, 1, 0, 0, 0, 0), (.goto 4, 3, 0, 0, 0, 18)] (pc2 := 18) (by decide +kernel) rfl (And.intro hk0 (And.intro (kd_S hk0).1 (And.intro g2 trivial))) ?_
    refine h.drop (ls' := [none, none]) trivial ?_
    exact wX3_read_18 hm hf
def fX3_refusalAsRow_24 (t0 : Int32) (σ : ST) : Option Int32 :=
  some t0
set_option maxHeartbeats 4000000 in
theorem wX3_refusalAsRow_24 {l : Launch} {V : Nat → List (Option Value) → List Value → ST → Prop} {r : Int32} {σ : ST} {t0 : Int32} (hm : BM l 3 cX3_refusalAsRow 1 (some .int) 0 0 (some (.int r)) σ V) (hf : fX3_refusalAsRow_24 t0 σ = some r) : V 24 [none] [.int t0] σ := by
  have h := hm.bd
  unfold fX3_refusalAsRow_24 at hf
  obtain rfl := Option.some.inj hf
  exact hm.iret (by decide +kernel)
def fX3_refusalAsRow (k0 : Nat) (σ : ST) : Option Int32 :=
  if (σ.1 k0 0) = 0 then
    some (-11)
  else
    if (σ.1 k0 0) = 2 then
      fX3_refusalAsRow_24 0 σ
    else
      fX3_refusalAsRow_24 (-12) σ
set_option maxHeartbeats 4000000 in
theorem kmX3_refusalAsRow (l : Launch) {k0 : Nat} {σ : ST} {r : Int32} (hk0 : kd k0 = 3) (hf : fX3_refusalAsRow k0 σ = some r) : KM l yX3_refusalAsRow cX3_refusalAsRow 1 (some .int) 0 0 [.ref k0] σ (some (.int r)) σ := by
  refine KM.intro (ow := 3) (by decide +kernel) rfl (Nat.le_of_ble_eq_true rfl) (fun V hm => ?_)
  show V 0 [some (.ref k0)] [] σ
  have h := hm.bd
  unfold fX3_refusalAsRow at hf
  refine h.run (o := [kd k0 = 3]) (ls' := [some (.ref k0)]) (st' := [.int (σ.1 k0 0)]) (σ' := σ) [(.aload_n 0, 1, 0, 0, 0, 0), (.getfield 9, 3, 0, 0, 3, 0)] (pc2 := 4) (by decide +kernel) rfl (And.intro hk0 trivial) ?_
  refine h.if_ne (tgt := 10) (show decode cX3_refusalAsRow 4 = .ok (.ifCond .ne 6, 3) by decide +kernel) (by decide) (fun c2 => ?_) (fun c2 => ?_)
  · rw [if_neg c2] at hf
    refine h.run (o := [kd k0 = 3]) (ls' := [some (.ref k0)]) (st' := [.int 2, .int (σ.1 k0 0)]) (σ' := σ) [(.aload_n 0, 1, 0, 0, 0, 0), (.getfield 9, 3, 0, 0, 3, 0), (.iconst 2, 1, 2, 0, 0, 0)] (pc2 := 15) (by decide +kernel) rfl (And.intro hk0 trivial) ?_
    refine h.icmp_ne (tgt := 22) (show decode cX3_refusalAsRow 15 = .ok (.if_icmp .ne 7, 3) by decide +kernel) (by decide) (fun c1 => ?_) (fun c1 => ?_)
    · rw [if_neg c1] at hf
      refine h.run (o := []) (ls' := [some (.ref k0)]) (st' := [.int (-12)]) (σ' := σ) [(.bipush (-12), 2, (-12), 0, 0, 0)] (pc2 := 24) (by decide +kernel) rfl trivial ?_
      refine h.drop (ls' := [none]) trivial ?_
      exact wX3_refusalAsRow_24 hm hf
    · rw [if_pos c1] at hf
      show V 18 [some (.ref k0)] [] σ
      refine h.run (o := []) (ls' := [some (.ref k0)]) (st' := [.int 0]) (σ' := σ) [(.iconst 0, 1, 0, 0, 0, 0), (.goto 5, 3, 0, 0, 0, 24)] (pc2 := 24) (by decide +kernel) rfl trivial ?_
      refine h.drop (ls' := [none]) trivial ?_
      exact wX3_refusalAsRow_24 hm hf
  · rw [if_pos c2] at hf
    show V 7 [some (.ref k0)] [] σ
    refine h.run (o := []) (ls' := [some (.ref k0)]) (st' := [.int (-11)]) (σ' := σ) [(.bipush (-11), 2, (-11), 0, 0, 0)] (pc2 := 9) (by decide +kernel) rfl trivial ?_
    obtain rfl := Option.some.inj hf
    exact hm.iret (by decide +kernel)
def fX3_refusalAsSender_24 (t0 : Int32) (σ : ST) : Option Int32 :=
  some t0
set_option maxHeartbeats 4000000 in
theorem wX3_refusalAsSender_24 {l : Launch} {V : Nat → List (Option Value) → List Value → ST → Prop} {r : Int32} {σ : ST} {t0 : Int32} (hm : BM l 3 cX3_refusalAsSender 1 (some .int) 0 0 (some (.int r)) σ V) (hf : fX3_refusalAsSender_24 t0 σ = some r) : V 24 [none] [.int t0] σ := by
  have h := hm.bd
  unfold fX3_refusalAsSender_24 at hf
  obtain rfl := Option.some.inj hf
  exact hm.iret (by decide +kernel)
def fX3_refusalAsSender (k0 : Nat) (σ : ST) : Option Int32 :=
  if (σ.1 k0 0) = 0 then
    some (-11)
  else
    if (σ.1 k0 0) = 1 then
      fX3_refusalAsSender_24 0 σ
    else
      fX3_refusalAsSender_24 (-12) σ
set_option maxHeartbeats 4000000 in
theorem kmX3_refusalAsSender (l : Launch) {k0 : Nat} {σ : ST} {r : Int32} (hk0 : kd k0 = 3) (hf : fX3_refusalAsSender k0 σ = some r) : KM l yX3_refusalAsSender cX3_refusalAsSender 1 (some .int) 0 0 [.ref k0] σ (some (.int r)) σ := by
  refine KM.intro (ow := 3) (by decide +kernel) rfl (Nat.le_of_ble_eq_true rfl) (fun V hm => ?_)
  show V 0 [some (.ref k0)] [] σ
  have h := hm.bd
  unfold fX3_refusalAsSender at hf
  refine h.run (o := [kd k0 = 3]) (ls' := [some (.ref k0)]) (st' := [.int (σ.1 k0 0)]) (σ' := σ) [(.aload_n 0, 1, 0, 0, 0, 0), (.getfield 9, 3, 0, 0, 3, 0)] (pc2 := 4) (by decide +kernel) rfl (And.intro hk0 trivial) ?_
  refine h.if_ne (tgt := 10) (show decode cX3_refusalAsSender 4 = .ok (.ifCond .ne 6, 3) by decide +kernel) (by decide) (fun c2 => ?_) (fun c2 => ?_)
  · rw [if_neg c2] at hf
    refine h.run (o := [kd k0 = 3]) (ls' := [some (.ref k0)]) (st' := [.int 1, .int (σ.1 k0 0)]) (σ' := σ) [(.aload_n 0, 1, 0, 0, 0, 0), (.getfield 9, 3, 0, 0, 3, 0), (.iconst 1, 1, 1, 0, 0, 0)] (pc2 := 15) (by decide +kernel) rfl (And.intro hk0 trivial) ?_
    refine h.icmp_ne (tgt := 22) (show decode cX3_refusalAsSender 15 = .ok (.if_icmp .ne 7, 3) by decide +kernel) (by decide) (fun c1 => ?_) (fun c1 => ?_)
    · rw [if_neg c1] at hf
      refine h.run (o := []) (ls' := [some (.ref k0)]) (st' := [.int (-12)]) (σ' := σ) [(.bipush (-12), 2, (-12), 0, 0, 0)] (pc2 := 24) (by decide +kernel) rfl trivial ?_
      refine h.drop (ls' := [none]) trivial ?_
      exact wX3_refusalAsSender_24 hm hf
    · rw [if_pos c1] at hf
      show V 18 [some (.ref k0)] [] σ
      refine h.run (o := []) (ls' := [some (.ref k0)]) (st' := [.int 0]) (σ' := σ) [(.iconst 0, 1, 0, 0, 0, 0), (.goto 5, 3, 0, 0, 0, 24)] (pc2 := 24) (by decide +kernel) rfl trivial ?_
      refine h.drop (ls' := [none]) trivial ?_
      exact wX3_refusalAsSender_24 hm hf
  · rw [if_pos c2] at hf
    show V 7 [some (.ref k0)] [] σ
    refine h.run (o := []) (ls' := [some (.ref k0)]) (st' := [.int (-11)]) (σ' := σ) [(.bipush (-11), 2, (-11), 0, 0, 0)] (pc2 := 9) (by decide +kernel) rfl trivial ?_
    obtain rfl := Option.some.inj hf
    exact hm.iret (by decide +kernel)
def fX3_becomeRow_17 (n : Nat) (k0 : Nat) (x3 : Int32) (σ : ST) : Option ST := match n with
  | 0 => none
  | n + 1 =>
    if (Int32.ofNat (alen (k0 + 1))) ≤ x3 then
      some σ
    else
      gd (inb x3 (alen (k0 + 1))) <|
      fX3_becomeRow_17 n k0 (x3 + 1) (setI σ (k0 + 1) (x3.toNatClampNeg) 0)
set_option maxHeartbeats 4000000 in
theorem wX3_becomeRow_17 {l : Launch} {V : Nat → List (Option Value) → List Value → ST → Prop} {τ : ST} (hm : BM l 3 cX3_becomeRow 4 none 0 0 none τ V) : ∀ (n : Nat) (k0 : Nat) (x3 : Int32) (σ : ST) (hk0 : kd k0 = 3), fX3_becomeRow_17 n k0 x3 σ = some τ → V 17 [some (.ref k0), none, none, some (.int x3)] [] σ := by
  have h := hm.bd
  intro n
  induction n with
  | zero => intro k0 x3 σ hk0 hf; cases hf
  | succ n ih =>
    intro k0 x3 σ hk0 hf
    rw [fX3_becomeRow_17] at hf
    refine h.run (o := [kd k0 = 3, kd (k0 + 1) = 10]) (ls' := [some (.ref k0), none, none, some (.int x3)]) (st' := [.int (Int32.ofNat (alen (k0 + 1))), .int x3]) (σ' := σ) [(.iload_n 3, 1, 0, 0, 0, 0), (.aload_n 0, 1, 0, 0, 0, 0), (.getfield 15, 3, 0, 0, 3, 7), (.arraylength, 1, 0, 0, 10, 0)] (pc2 := 23) (by decide +kernel) rfl (And.intro hk0 (And.intro (kd_S hk0).1 trivial)) ?_
    refine h.icmp_ge (tgt := 39) (show decode cX3_becomeRow 23 = .ok (.if_icmp .ge 16, 3) by decide +kernel) (by decide) (fun c2 => ?_) (fun c2 => ?_)
    · rw [if_pos c2] at hf
      obtain rfl := Option.some.inj hf
      exact hm.vret (by decide +kernel)
    · rw [if_neg c2] at hf
      show V 26 [some (.ref k0), none, none, some (.int x3)] [] σ
      obtain ⟨g1, hf⟩ := gd_some hf
      refine h.run (o := [kd k0 = 3, kd (k0 + 1) = 10, inb x3 (alen (k0 + 1)) = true]) (ls' := [some (.ref k0), none, none, some (.int (x3 + 1))]) (st' := []) (σ' := setI σ (k0 + 1) (x3.toNatClampNeg) 0) [(.aload_n 0, 1, 0, 0, 0, 0), (.getfield 15, 3, 0, 0, 3, 7), (.iload_n 3, 1, 0, 0, 0, 0), (.iconst 0, 1, 0, 0, 0, 0), (.iastore, 1, 0, 0, 0, 0), (.iinc 3 1, 3, 1, 0, 0, 0), (.goto (-19), 3, 0, 0, 0, 17)] (pc2 := 17) (by decide +kernel) rfl (And.intro hk0 (And.intro (kd_S hk0).1 (And.intro g1 trivial))) ?_
      exact ih k0 (x3 + 1) _ hk0 hf
def fX3_becomeRow (k0 : Nat) (x1 : Int32) (x2 : Int32) (σ : ST) : Option ST :=
  fX3_becomeRow_17 FU k0 0 (setI (setI (setI σ k0 0 2) k0 5 x1) k0 6 x2)
set_option maxHeartbeats 4000000 in
theorem kmX3_becomeRow (l : Launch) {k0 : Nat} {x1 : Int32} {x2 : Int32} {σ : ST} {τ : ST} (hk0 : kd k0 = 3) (hf : fX3_becomeRow k0 x1 x2 σ = some τ) : KM l yX3_becomeRow cX3_becomeRow 4 none 0 0 [.ref k0, .int x1, .int x2] σ none τ := by
  refine KM.intro (ow := 3) (by decide +kernel) rfl (Nat.le_of_ble_eq_true rfl) (fun V hm => ?_)
  show V 0 [some (.ref k0), some (.int x1), some (.int x2), none] [] σ
  have h := hm.bd
  unfold fX3_becomeRow at hf
  refine h.run (o := [kd k0 = 3, kd k0 = 3, kd k0 = 3]) (ls' := [some (.ref k0), some (.int x1), some (.int x2), some (.int 0)]) (st' := []) (σ' := setI (setI (setI σ k0 0 2) k0 5 x1) k0 6 x2) [(.aload_n 0, 1, 0, 0, 0, 0), (.iconst 2, 1, 2, 0, 0, 0), (.putfield 9, 3, 0, 0, 3, 0), (.aload_n 0, 1, 0, 0, 0, 0), (.iload_n 1, 1, 0, 0, 0, 0), (.putfield 19, 3, 0, 0, 3, 5), (.aload_n 0, 1, 0, 0, 0, 0), (.iload_n 2, 1, 0, 0, 0, 0), (.putfield 22, 3, 0, 0, 3, 6), (.iconst 0, 1, 0, 0, 0, 0), (.istore_n 3, 1, 0, 0, 0, 0)] (pc2 := 17) (by decide +kernel) rfl (And.intro hk0 (And.intro hk0 (And.intro hk0 trivial))) ?_
  refine h.drop (ls' := [some (.ref k0), none, none, some (.int 0)]) (And.intro rfl (And.intro rfl trivial)) ?_
  exact wX3_becomeRow_17 hm FU k0 0 _ hk0 hf
def fX3_hasRun_34 (t0 : Int32) (σ : ST) : Option Int32 :=
  gd (isb t0) <|
  some t0
set_option maxHeartbeats 4000000 in
theorem wX3_hasRun_34 {l : Launch} {V : Nat → List (Option Value) → List Value → ST → Prop} {r : Int32} {σ : ST} {t0 : Int32} (hm : BM l 3 cX3_hasRun 3 (some .boolean) 0 0 (some (.int r)) σ V) (hf : fX3_hasRun_34 t0 σ = some r) : V 34 [none, none, none] [.int t0] σ := by
  have h := hm.bd
  unfold fX3_hasRun_34 at hf
  obtain ⟨g1, hf⟩ := gd_some hf
  obtain rfl := Option.some.inj hf
  exact hm.zret (by decide +kernel) g1
def fX3_hasRun_33 (σ : ST) : Option Int32 :=
  fX3_hasRun_34 0 σ
set_option maxHeartbeats 4000000 in
theorem wX3_hasRun_33 {l : Launch} {V : Nat → List (Option Value) → List Value → ST → Prop} {r : Int32} {σ : ST} (hm : BM l 3 cX3_hasRun 3 (some .boolean) 0 0 (some (.int r)) σ V) (hf : fX3_hasRun_33 σ = some r) : V 33 [none, none, none] [] σ := by
  have h := hm.bd
  unfold fX3_hasRun_33 at hf
  refine h.run (o := []) (ls' := [none, none, none]) (st' := [.int 0]) (σ' := σ) [(.iconst 0, 1, 0, 0, 0, 0)] (pc2 := 34) (by decide +kernel) rfl trivial ?_
  exact wX3_hasRun_34 hm hf
def fX3_hasRun (k0 : Nat) (x1 : Int32) (x2 : Int32) (σ : ST) : Option Int32 :=
  if x1 < 0 then
    fX3_hasRun_33 σ
  else
    if x2 < 0 then
      fX3_hasRun_33 σ
    else
      if ((σ.1 k0 6) - x1) < x2 then
        fX3_hasRun_33 σ
      else
        if ((Int32.ofNat (alen (k0 + 1))) - x1) < x2 then
          fX3_hasRun_33 σ
        else
          fX3_hasRun_34 1 σ
set_option maxHeartbeats 4000000 in
theorem kmX3_hasRun (l : Launch) {k0 : Nat} {x1 : Int32} {x2 : Int32} {σ : ST} {r : Int32} (hk0 : kd k0 = 3) (hf : fX3_hasRun k0 x1 x2 σ = some r) : KM l yX3_hasRun cX3_hasRun 3 (some .boolean) 0 0 [.ref k0, .int x1, .int x2] σ (some (.int r)) σ := by
  refine KM.intro (ow := 3) (by decide +kernel) rfl (Nat.le_of_ble_eq_true rfl) (fun V hm => ?_)
  show V 0 [some (.ref k0), some (.int x1), some (.int x2)] [] σ
  have h := hm.bd
  unfold fX3_hasRun at hf
  refine h.run (o := []) (ls' := [some (.ref k0), some (.int x1), some (.int x2)]) (st' := [.int x1]) (σ' := σ) [(.iload_n 1, 1, 0, 0, 0, 0)] (pc2 := 1) (by decide +kernel) rfl trivial ?_
  refine h.if_lt (tgt := 33) (show decode cX3_hasRun 1 = .ok (.ifCond .lt 32, 3) by decide +kernel) (by decide) (fun c4 => ?_) (fun c4 => ?_)
  · rw [if_pos c4] at hf
    refine h.drop (ls' := [none, none, none]) trivial ?_
    exact wX3_hasRun_33 hm hf
  · rw [if_neg c4] at hf
    show V 4 [some (.ref k0), some (.int x1), some (.int x2)] [] σ
    refine h.run (o := []) (ls' := [some (.ref k0), some (.int x1), some (.int x2)]) (st' := [.int x2]) (σ' := σ) [(.iload_n 2, 1, 0, 0, 0, 0)] (pc2 := 5) (by decide +kernel) rfl trivial ?_
    refine h.if_lt (tgt := 33) (show decode cX3_hasRun 5 = .ok (.ifCond .lt 28, 3) by decide +kernel) (by decide) (fun c3 => ?_) (fun c3 => ?_)
    · rw [if_pos c3] at hf
      refine h.drop (ls' := [none, none, none]) trivial ?_
      exact wX3_hasRun_33 hm hf
    · rw [if_neg c3] at hf
      show V 8 [some (.ref k0), some (.int x1), some (.int x2)] [] σ
      refine h.run (o := [kd k0 = 3]) (ls' := [some (.ref k0), some (.int x1), some (.int x2)]) (st' := [.int ((σ.1 k0 6) - x1), .int x2]) (σ' := σ) [(.iload_n 2, 1, 0, 0, 0, 0), (.aload_n 0, 1, 0, 0, 0, 0), (.getfield 22, 3, 0, 0, 3, 6), (.iload_n 1, 1, 0, 0, 0, 0), (.isub, 1, 0, 0, 0, 0)] (pc2 := 15) (by decide +kernel) rfl (And.intro hk0 trivial) ?_
      refine h.icmp_gt (tgt := 33) (show decode cX3_hasRun 15 = .ok (.if_icmp .gt 18, 3) by decide +kernel) (by decide) (fun c2 => ?_) (fun c2 => ?_)
      · rw [if_pos c2] at hf
        refine h.drop (ls' := [none, none, none]) trivial ?_
        exact wX3_hasRun_33 hm hf
      · rw [if_neg c2] at hf
        show V 18 [some (.ref k0), some (.int x1), some (.int x2)] [] σ
        refine h.run (o := [kd k0 = 3, kd (k0 + 1) = 10]) (ls' := [some (.ref k0), some (.int x1), some (.int x2)]) (st' := [.int ((Int32.ofNat (alen (k0 + 1))) - x1), .int x2]) (σ' := σ) [(.iload_n 2, 1, 0, 0, 0, 0), (.aload_n 0, 1, 0, 0, 0, 0), (.getfield 15, 3, 0, 0, 3, 7), (.arraylength, 1, 0, 0, 10, 0), (.iload_n 1, 1, 0, 0, 0, 0), (.isub, 1, 0, 0, 0, 0)] (pc2 := 26) (by decide +kernel) rfl (And.intro hk0 (And.intro (kd_S hk0).1 trivial)) ?_
        refine h.icmp_gt (tgt := 33) (show decode cX3_hasRun 26 = .ok (.if_icmp .gt 7, 3) by decide +kernel) (by decide) (fun c1 => ?_) (fun c1 => ?_)
        · rw [if_pos c1] at hf
          refine h.drop (ls' := [none, none, none]) trivial ?_
          exact wX3_hasRun_33 hm hf
        · rw [if_neg c1] at hf
          show V 29 [some (.ref k0), some (.int x1), some (.int x2)] [] σ
          refine h.run (o := []) (ls' := [some (.ref k0), some (.int x1), some (.int x2)]) (st' := [.int 1]) (σ' := σ) [(.iconst 1, 1, 1, 0, 0, 0), (.goto 4, 3, 0, 0, 0, 34)] (pc2 := 34) (by decide +kernel) rfl trivial ?_
          refine h.drop (ls' := [none, none, none]) trivial ?_
          exact wX3_hasRun_34 hm hf
def fX3_write_53 (σ : ST) : Option ST :=
  some σ
set_option maxHeartbeats 4000000 in
theorem wX3_write_53 {l : Launch} {V : Nat → List (Option Value) → List Value → ST → Prop} {τ : ST} {σ : ST} (hm : BM l 3 cX3_write 3 none 1 21 none τ V) (hf : fX3_write_53 σ = some τ) : V 53 [none, none, none] [] σ := by
  have h := hm.bd
  unfold fX3_write_53 at hf
  obtain rfl := Option.some.inj hf
  exact hm.vret (by decide +kernel)
def fX3_write (k0 : Nat) (x1 : Int32) (x2 : Int32) (σ : ST) : Option ST :=
  bR (fX3_has k0 x1 σ) fun a1 =>
  if a1 = 0 then
    some σ
  else
    if (σ.1 k0 5) = 0 then
      gd (inb x1 (alen (k0 + 1))) <|
      fX3_write_53 (setI σ (k0 + 1) (x1.toNatClampNeg) x2.toInt8.toInt32)
    else
      if (σ.1 k0 5) = 1 then
        gd (inb x1 (alen (k0 + 1))) <|
        fX3_write_53 (setI σ (k0 + 1) (x1.toNatClampNeg) x2.toInt16.toInt32)
      else
        gd (inb x1 (alen (k0 + 1))) <|
        fX3_write_53 (setI σ (k0 + 1) (x1.toNatClampNeg) x2)
set_option maxHeartbeats 4000000 in
theorem kmX3_write (l : Launch) {k0 : Nat} {x1 : Int32} {x2 : Int32} {σ : ST} {τ : ST} (hk0 : kd k0 = 3) (hf : fX3_write k0 x1 x2 σ = some τ) : KM l yX3_write cX3_write 3 none 1 21 [.ref k0, .int x1, .int x2] σ none τ := by
  refine KM.intro (ow := 3) (by decide +kernel) rfl (Nat.le_of_ble_eq_true rfl) (fun V hm => ?_)
  show V 0 [some (.ref k0), some (.int x1), some (.int x2)] [] σ
  have h := hm.bd
  unfold fX3_write at hf
  refine h.run (o := []) (ls' := [some (.ref k0), some (.int x1), some (.int x2)]) (st' := [.int x1, .ref k0]) (σ' := σ) [(.aload_n 0, 1, 0, 0, 0, 0), (.iload_n 1, 1, 0, 0, 0, 0)] (pc2 := 2) (by decide +kernel) rfl trivial ?_
  obtain ⟨a1, e1, hf⟩ := bR_some hf
  refine h.callV (as := [.int x1]) (rest := []) (by decide +kernel) lk3_25 cwX3_has hk0 (kmX3_has l hk0 e1) rfl (Nat.le_of_ble_eq_true rfl) (Nat.le_of_ble_eq_true rfl) (Nat.le_of_ble_eq_true rfl) ?_
  show V 5 [some (.ref k0), some (.int x1), some (.int x2)] [.int a1] σ
  refine h.if_ne (tgt := 9) (show decode cX3_write 5 = .ok (.ifCond .ne 4, 3) by decide +kernel) (by decide) (fun c7 => ?_) (fun c7 => ?_)
  · rw [if_neg c7] at hf
    refine h.run (o := [kd k0 = 3]) (ls' := [some (.ref k0), some (.int x1), some (.int x2)]) (st' := [.int (σ.1 k0 5)]) (σ' := σ) [(.aload_n 0, 1, 0, 0, 0, 0), (.getfield 19, 3, 0, 0, 3, 5)] (pc2 := 13) (by decide +kernel) rfl (And.intro hk0 trivial) ?_
    refine h.if_ne (tgt := 27) (show decode cX3_write 13 = .ok (.ifCond .ne 14, 3) by decide +kernel) (by decide) (fun c6 => ?_) (fun c6 => ?_)
    · rw [if_neg c6] at hf
      refine h.run (o := [kd k0 = 3]) (ls' := [some (.ref k0), some (.int x1), some (.int x2)]) (st' := [.int 1, .int (σ.1 k0 5)]) (σ' := σ) [(.aload_n 0, 1, 0, 0, 0, 0), (.getfield 19, 3, 0, 0, 3, 5), (.iconst 1, 1, 1, 0, 0, 0)] (pc2 := 32) (by decide +kernel) rfl (And.intro hk0 trivial) ?_
      refine h.icmp_ne (tgt := 46) (show decode cX3_write 32 = .ok (.if_icmp .ne 14, 3) by decide +kernel) (by decide) (fun c4 => ?_) (fun c4 => ?_)
      · rw [if_neg c4] at hf
        obtain ⟨g2, hf⟩ := gd_some hf
        refine h.run (o := [kd k0 = 3, kd (k0 + 1) = 10, inb x1 (alen (k0 + 1)) = true]) (ls' := [some (.ref k0), some (.int x1), some (.int x2)]) (st' := []) (σ' := setI σ (k0 + 1) (x1.toNatClampNeg) x2) [(.aload_n 0, 1, 0, 0, 0, 0), (.getfield 15, 3, 0, 0, 3, 7), (.iload_n 1, 1, 0, 0, 0, 0), (.iload_n 2, 1, 0, 0, 0, 0), (.iastore, 1, 0, 0, 0, 0)] (pc2 := 53) (by decide +kernel) rfl (And.intro hk0 (And.intro (kd_S hk0).1 (And.intro g2 trivial))) ?_
        refine h.drop (ls' := [none, none, none]) trivial ?_
        exact wX3_write_53 hm hf
      · rw [if_pos c4] at hf
        show V 35 [some (.ref k0), some (.int x1), some (.int x2)] [] σ
        obtain ⟨g3, hf⟩ := gd_some hf
        refine h.run (o := [kd k0 = 3, kd (k0 + 1) = 10, inb x1 (alen (k0 + 1)) = true]) (ls' := [some (.ref k0), some (.int x1), some (.int x2)]) (st' := []) (σ' := setI σ (k0 + 1) (x1.toNatClampNeg) x2.toInt16.toInt32) [(.aload_n 0, 1, 0, 0, 0, 0), (.getfield 15, 3, 0, 0, 3, 7), (.iload_n 1, 1, 0, 0, 0, 0), (.iload_n 2, 1, 0, 0, 0, 0), (.i2s, 1, 0, 0, 0, 0), (.iastore, 1, 0, 0, 0, 0), (.goto 10, 3, 0, 0, 0, 53)] (pc2 := 53) (by decide +kernel) rfl (And.intro hk0 (And.intro (kd_S hk0).1 (And.intro g3 trivial))) ?_
        refine h.drop (ls' := [none, none, none]) trivial ?_
        exact wX3_write_53 hm hf
    · rw [if_pos c6] at hf
      show V 16 [some (.ref k0), some (.int x1), some (.int x2)] [] σ
      obtain ⟨g5, hf⟩ := gd_some hf
      refine h.run (o := [kd k0 = 3, kd (k0 + 1) = 10, inb x1 (alen (k0 + 1)) = true]) (ls' := [some (.ref k0), some (.int x1), some (.int x2)]) (st' := []) (σ' := setI σ (k0 + 1) (x1.toNatClampNeg) x2.toInt8.toInt32) [(.aload_n 0, 1, 0, 0, 0, 0), (.getfield 15, 3, 0, 0, 3, 7), (.iload_n 1, 1, 0, 0, 0, 0), (.iload_n 2, 1, 0, 0, 0, 0), (.i2b, 1, 0, 0, 0, 0), (.iastore, 1, 0, 0, 0, 0), (.goto 29, 3, 0, 0, 0, 53)] (pc2 := 53) (by decide +kernel) rfl (And.intro hk0 (And.intro (kd_S hk0).1 (And.intro g5 trivial))) ?_
      refine h.drop (ls' := [none, none, none]) trivial ?_
      exact wX3_write_53 hm hf
  · rw [if_pos c7] at hf
    show V 8 [some (.ref k0), some (.int x1), some (.int x2)] [] σ
    obtain rfl := Option.some.inj hf
    exact hm.vret (by decide +kernel)
def fX3_leastNumber_26 (t0 : Int32) (σ : ST) : Option Int32 :=
  some t0
set_option maxHeartbeats 4000000 in
theorem wX3_leastNumber_26 {l : Launch} {V : Nat → List (Option Value) → List Value → ST → Prop} {r : Int32} {σ : ST} {t0 : Int32} (hm : BM l 3 cX3_leastNumber 1 (some .int) 0 0 (some (.int r)) σ V) (hf : fX3_leastNumber_26 t0 σ = some r) : V 26 [none] [.int t0] σ := by
  have h := hm.bd
  unfold fX3_leastNumber_26 at hf
  obtain rfl := Option.some.inj hf
  exact hm.iret (by decide +kernel)
def fX3_leastNumber (k0 : Nat) (σ : ST) : Option Int32 :=
  if (σ.1 k0 5) = 0 then
    some (-128)
  else
    if (σ.1 k0 5) = 1 then
      fX3_leastNumber_26 (-32768) σ
    else
      fX3_leastNumber_26 (-2147483648) σ
set_option maxHeartbeats 4000000 in
theorem kmX3_leastNumber (l : Launch) {k0 : Nat} {σ : ST} {r : Int32} (hk0 : kd k0 = 3) (hf : fX3_leastNumber k0 σ = some r) : KM l yX3_leastNumber cX3_leastNumber 1 (some .int) 0 0 [.ref k0] σ (some (.int r)) σ := by
  refine KM.intro (ow := 3) (by decide +kernel) rfl (Nat.le_of_ble_eq_true rfl) (fun V hm => ?_)
  show V 0 [some (.ref k0)] [] σ
  have h := hm.bd
  unfold fX3_leastNumber at hf
  refine h.run (o := [kd k0 = 3]) (ls' := [some (.ref k0)]) (st' := [.int (σ.1 k0 5)]) (σ' := σ) [(.aload_n 0, 1, 0, 0, 0, 0), (.getfield 19, 3, 0, 0, 3, 5)] (pc2 := 4) (by decide +kernel) rfl (And.intro hk0 trivial) ?_
  refine h.if_ne (tgt := 10) (show decode cX3_leastNumber 4 = .ok (.ifCond .ne 6, 3) by decide +kernel) (by decide) (fun c2 => ?_) (fun c2 => ?_)
  · rw [if_neg c2] at hf
    refine h.run (o := [kd k0 = 3]) (ls' := [some (.ref k0)]) (st' := [.int 1, .int (σ.1 k0 5)]) (σ' := σ) [(.aload_n 0, 1, 0, 0, 0, 0), (.getfield 19, 3, 0, 0, 3, 5), (.iconst 1, 1, 1, 0, 0, 0)] (pc2 := 15) (by decide +kernel) rfl (And.intro hk0 trivial) ?_
    refine h.icmp_ne (tgt := 24) (show decode cX3_leastNumber 15 = .ok (.if_icmp .ne 9, 3) by decide +kernel) (by decide) (fun c1 => ?_) (fun c1 => ?_)
    · rw [if_neg c1] at hf
      refine h.run (o := []) (ls' := [some (.ref k0)]) (st' := [.int (-2147483648)]) (σ' := σ) [(.ldc 29, 2, (-2147483648), 0, 0, 0)] (pc2 := 26) (by decide +kernel) rfl trivial ?_
      refine h.drop (ls' := [none]) trivial ?_
      exact wX3_leastNumber_26 hm hf
    · rw [if_pos c1] at hf
      show V 18 [some (.ref k0)] [] σ
      refine h.run (o := []) (ls' := [some (.ref k0)]) (st' := [.int (-32768)]) (σ' := σ) [(.sipush (-32768), 3, (-32768), 0, 0, 0), (.goto 5, 3, 0, 0, 0, 26)] (pc2 := 26) (by decide +kernel) rfl trivial ?_
      refine h.drop (ls' := [none]) trivial ?_
      exact wX3_leastNumber_26 hm hf
  · rw [if_pos c2] at hf
    show V 7 [some (.ref k0)] [] σ
    refine h.run (o := []) (ls' := [some (.ref k0)]) (st' := [.int (-128)]) (σ' := σ) [(.bipush (-128), 2, (-128), 0, 0, 0)] (pc2 := 9) (by decide +kernel) rfl trivial ?_
    obtain rfl := Option.some.inj hf
    exact hm.iret (by decide +kernel)
def fX3_isOfSendings_45 (t0 : Int32) (σ : ST) : Option Int32 :=
  gd (isb t0) <|
  some t0
set_option maxHeartbeats 4000000 in
theorem wX3_isOfSendings_45 {l : Launch} {V : Nat → List (Option Value) → List Value → ST → Prop} {r : Int32} {σ : ST} {t0 : Int32} (hm : BM l 3 cX3_isOfSendings 4 (some .boolean) 2 42 (some (.int r)) σ V) (hf : fX3_isOfSendings_45 t0 σ = some r) : V 45 [none, none, none, none] [.int t0] σ := by
  have h := hm.bd
  unfold fX3_isOfSendings_45 at hf
  obtain ⟨g1, hf⟩ := gd_some hf
  obtain rfl := Option.some.inj hf
  exact hm.zret (by decide +kernel) g1
def fX3_isOfSendings_25 (σ : ST) : Option Int32 :=
  some 0
set_option maxHeartbeats 4000000 in
theorem wX3_isOfSendings_25 {l : Launch} {V : Nat → List (Option Value) → List Value → ST → Prop} {r : Int32} {σ : ST} (hm : BM l 3 cX3_isOfSendings 4 (some .boolean) 2 42 (some (.int r)) σ V) (hf : fX3_isOfSendings_25 σ = some r) : V 25 [none, none, none, none] [] σ := by
  have h := hm.bd
  unfold fX3_isOfSendings_25 at hf
  refine h.run (o := []) (ls' := [none, none, none, none]) (st' := [.int 0]) (σ' := σ) [(.iconst 0, 1, 0, 0, 0, 0)] (pc2 := 26) (by decide +kernel) rfl trivial ?_
  obtain rfl := Option.some.inj hf
  exact hm.zret (by decide +kernel) rfl
def fX3_isOfSendings_2 (σ : ST) (n : Nat) (k0 : Nat) (x1 : Int32) (x2 : Int32) : Option Int32 := match n with
  | 0 => none
  | n + 1 =>
    if (σ.1 k0 6) ≤ x2 then
      if (σ.1 k0 6) ≤ 0 then
        fX3_isOfSendings_45 0 σ
      else
        fX3_isOfSendings_45 1 σ
    else
      bR (fX3_read k0 x2 σ) fun a2 =>
      if a2 < 0 then
        fX3_isOfSendings_25 σ
      else
        if a2 ≤ x1 then
          fX3_isOfSendings_2 σ n k0 x1 (x2 + 1)
        else
          fX3_isOfSendings_25 σ
set_option maxHeartbeats 4000000 in
theorem wX3_isOfSendings_2 {l : Launch} {V : Nat → List (Option Value) → List Value → ST → Prop} {r : Int32} {σ : ST} (hm : BM l 3 cX3_isOfSendings 4 (some .boolean) 2 42 (some (.int r)) σ V) : ∀ (n : Nat) (k0 : Nat) (x1 : Int32) (x2 : Int32) (hk0 : kd k0 = 3), fX3_isOfSendings_2 σ n k0 x1 x2 = some r → V 2 [some (.ref k0), some (.int x1), some (.int x2), none] [] σ := by
  have h := hm.bd
  intro n
  induction n with
  | zero => intro k0 x1 x2 hk0 hf; cases hf
  | succ n ih =>
    intro k0 x1 x2 hk0 hf
    rw [fX3_isOfSendings_2] at hf
    refine h.run (o := [kd k0 = 3]) (ls' := [some (.ref k0), some (.int x1), some (.int x2), none]) (st' := [.int (σ.1 k0 6), .int x2]) (σ' := σ) [(.iload_n 2, 1, 0, 0, 0, 0), (.aload_n 0, 1, 0, 0, 0, 0), (.getfield 22, 3, 0, 0, 3, 6)] (pc2 := 7) (by decide +kernel) rfl (And.intro hk0 trivial) ?_
    refine h.icmp_ge (tgt := 33) (show decode cX3_isOfSendings 7 = .ok (.if_icmp .ge 26, 3) by decide +kernel) (by decide) (fun c5 => ?_) (fun c5 => ?_)
    · rw [if_pos c5] at hf
      refine h.run (o := [kd k0 = 3]) (ls' := [some (.ref k0), some (.int x1), some (.int x2), none]) (st' := [.int (σ.1 k0 6)]) (σ' := σ) [(.aload_n 0, 1, 0, 0, 0, 0), (.getfield 22, 3, 0, 0, 3, 6)] (pc2 := 37) (by decide +kernel) rfl (And.intro hk0 trivial) ?_
      refine h.if_le (tgt := 44) (show decode cX3_isOfSendings 37 = .ok (.ifCond .le 7, 3) by decide +kernel) (by decide) (fun c1 => ?_) (fun c1 => ?_)
      · rw [if_pos c1] at hf
        refine h.run (o := []) (ls' := [some (.ref k0), some (.int x1), some (.int x2), none]) (st' := [.int 0]) (σ' := σ) [(.iconst 0, 1, 0, 0, 0, 0)] (pc2 := 45) (by decide +kernel) rfl trivial ?_
        refine h.drop (ls' := [none, none, none, none]) trivial ?_
        exact wX3_isOfSendings_45 hm hf
      · rw [if_neg c1] at hf
        show V 40 [some (.ref k0), some (.int x1), some (.int x2), none] [] σ
        refine h.run (o := []) (ls' := [some (.ref k0), some (.int x1), some (.int x2), none]) (st' := [.int 1]) (σ' := σ) [(.iconst 1, 1, 1, 0, 0, 0), (.goto 4, 3, 0, 0, 0, 45)] (pc2 := 45) (by decide +kernel) rfl trivial ?_
        refine h.drop (ls' := [none, none, none, none]) trivial ?_
        exact wX3_isOfSendings_45 hm hf
    · rw [if_neg c5] at hf
      show V 10 [some (.ref k0), some (.int x1), some (.int x2), none] [] σ
      refine h.run (o := []) (ls' := [some (.ref k0), some (.int x1), some (.int x2), none]) (st' := [.int x2, .ref k0]) (σ' := σ) [(.aload_n 0, 1, 0, 0, 0, 0), (.iload_n 2, 1, 0, 0, 0, 0)] (pc2 := 12) (by decide +kernel) rfl trivial ?_
      obtain ⟨a2, e2, hf⟩ := bR_some hf
      refine h.callV (as := [.int x2]) (rest := []) (by decide +kernel) lk3_30 cwX3_read hk0 (kmX3_read l hk0 e2) rfl (Nat.le_of_ble_eq_true rfl) (Nat.le_of_ble_eq_true rfl) (Nat.le_of_ble_eq_true rfl) ?_
      show V 15 [some (.ref k0), some (.int x1), some (.int x2), none] [.int a2] σ
      refine h.run (o := []) (ls' := [some (.ref k0), some (.int x1), some (.int x2), some (.int a2)]) (st' := [.int a2]) (σ' := σ) [(.istore_n 3, 1, 0, 0, 0, 0), (.iload_n 3, 1, 0, 0, 0, 0)] (pc2 := 17) (by decide +kernel) rfl trivial ?_
      refine h.if_lt (tgt := 25) (show decode cX3_isOfSendings 17 = .ok (.ifCond .lt 8, 3) by decide +kernel) (by decide) (fun c4 => ?_) (fun c4 => ?_)
      · rw [if_pos c4] at hf
        refine h.drop (ls' := [none, none, none, none]) trivial ?_
        exact wX3_isOfSendings_25 hm hf
      · rw [if_neg c4] at hf
        show V 20 [some (.ref k0), some (.int x1), some (.int x2), some (.int a2)] [] σ
        refine h.run (o := []) (ls' := [some (.ref k0), some (.int x1), some (.int x2), some (.int a2)]) (st' := [.int x1, .int a2]) (σ' := σ) [(.iload_n 3, 1, 0, 0, 0, 0), (.iload_n 1, 1, 0, 0, 0, 0)] (pc2 := 22) (by decide +kernel) rfl trivial ?_
        refine h.icmp_le (tgt := 27) (show decode cX3_isOfSendings 22 = .ok (.if_icmp .le 5, 3) by decide +kernel) (by decide) (fun c3 => ?_) (fun c3 => ?_)
        · rw [if_pos c3] at hf
          refine h.run (o := []) (ls' := [some (.ref k0), some (.int x1), some (.int (x2 + 1)), some (.int a2)]) (st' := []) (σ' := σ) [(.iinc 2 1, 3, 1, 0, 0, 0), (.goto (-28), 3, 0, 0, 0, 2)] (pc2 := 2) (by decide +kernel) rfl trivial ?_
          refine h.drop (ls' := [some (.ref k0), some (.int x1), some (.int (x2 + 1)), none]) (And.intro rfl (And.intro rfl (And.intro rfl trivial))) ?_
          exact ih k0 x1 (x2 + 1) hk0 hf
        · rw [if_neg c3] at hf
          show V 25 [some (.ref k0), some (.int x1), some (.int x2), some (.int a2)] [] σ
          refine h.drop (ls' := [none, none, none, none]) trivial ?_
          exact wX3_isOfSendings_25 hm hf
def fX3_isOfSendings (k0 : Nat) (x1 : Int32) (σ : ST) : Option Int32 :=
  fX3_isOfSendings_2 σ FU k0 x1 0
set_option maxHeartbeats 4000000 in
theorem kmX3_isOfSendings (l : Launch) {k0 : Nat} {x1 : Int32} {σ : ST} {r : Int32} (hk0 : kd k0 = 3) (hf : fX3_isOfSendings k0 x1 σ = some r) : KM l yX3_isOfSendings cX3_isOfSendings 4 (some .boolean) 2 42 [.ref k0, .int x1] σ (some (.int r)) σ := by
  refine KM.intro (ow := 3) (by decide +kernel) rfl (Nat.le_of_ble_eq_true rfl) (fun V hm => ?_)
  show V 0 [some (.ref k0), some (.int x1), none, none] [] σ
  have h := hm.bd
  unfold fX3_isOfSendings at hf
  refine h.run (o := []) (ls' := [some (.ref k0), some (.int x1), some (.int 0), none]) (st' := []) (σ' := σ) [(.iconst 0, 1, 0, 0, 0, 0), (.istore_n 2, 1, 0, 0, 0, 0)] (pc2 := 2) (by decide +kernel) rfl trivial ?_
  exact wX3_isOfSendings_2 hm FU k0 x1 0 hk0 hf
def fX3_sum_4 (σ : ST) (n : Nat) (k0 : Nat) (x1 : Int32) (x2 : Int32) : Option Int32 := match n with
  | 0 => none
  | n + 1 =>
    if (σ.1 k0 6) ≤ x2 then
      some x1
    else
      bR (fX3_read k0 x2 σ) fun a1 =>
      fX3_sum_4 σ n k0 (x1 + a1) (x2 + 1)
set_option maxHeartbeats 4000000 in
theorem wX3_sum_4 {l : Launch} {V : Nat → List (Option Value) → List Value → ST → Prop} {r : Int32} {σ : ST} (hm : BM l 3 cX3_sum 3 (some .int) 2 42 (some (.int r)) σ V) : ∀ (n : Nat) (k0 : Nat) (x1 : Int32) (x2 : Int32) (hk0 : kd k0 = 3), fX3_sum_4 σ n k0 x1 x2 = some r → V 4 [some (.ref k0), some (.int x1), some (.int x2)] [] σ := by
  have h := hm.bd
  intro n
  induction n with
  | zero => intro k0 x1 x2 hk0 hf; cases hf
  | succ n ih =>
    intro k0 x1 x2 hk0 hf
    rw [fX3_sum_4] at hf
    refine h.run (o := [kd k0 = 3]) (ls' := [some (.ref k0), some (.int x1), some (.int x2)]) (st' := [.int (σ.1 k0 6), .int x2]) (σ' := σ) [(.iload_n 2, 1, 0, 0, 0, 0), (.aload_n 0, 1, 0, 0, 0, 0), (.getfield 22, 3, 0, 0, 3, 6)] (pc2 := 9) (by decide +kernel) rfl (And.intro hk0 trivial) ?_
    refine h.icmp_ge (tgt := 26) (show decode cX3_sum 9 = .ok (.if_icmp .ge 17, 3) by decide +kernel) (by decide) (fun c2 => ?_) (fun c2 => ?_)
    · rw [if_pos c2] at hf
      refine h.run (o := []) (ls' := [some (.ref k0), some (.int x1), some (.int x2)]) (st' := [.int x1]) (σ' := σ) [(.iload_n 1, 1, 0, 0, 0, 0)] (pc2 := 27) (by decide +kernel) rfl trivial ?_
      obtain rfl := Option.some.inj hf
      exact hm.iret (by decide +kernel)
    · rw [if_neg c2] at hf
      show V 12 [some (.ref k0), some (.int x1), some (.int x2)] [] σ
      refine h.run (o := []) (ls' := [some (.ref k0), some (.int x1), some (.int x2)]) (st' := [.int x2, .ref k0, .int x1]) (σ' := σ) [(.iload_n 1, 1, 0, 0, 0, 0), (.aload_n 0, 1, 0, 0, 0, 0), (.iload_n 2, 1, 0, 0, 0, 0)] (pc2 := 15) (by decide +kernel) rfl trivial ?_
      obtain ⟨a1, e1, hf⟩ := bR_some hf
      refine h.callV (as := [.int x2]) (rest := [.int x1]) (by decide +kernel) lk3_30 cwX3_read hk0 (kmX3_read l hk0 e1) rfl (Nat.le_of_ble_eq_true rfl) (Nat.le_of_ble_eq_true rfl) (Nat.le_of_ble_eq_true rfl) ?_
      show V 18 [some (.ref k0), some (.int x1), some (.int x2)] [.int a1, .int x1] σ
      refine h.run (o := []) (ls' := [some (.ref k0), some (.int (x1 + a1)), some (.int (x2 + 1))]) (st' := []) (σ' := σ) [(.iadd, 1, 0, 0, 0, 0), (.istore_n 1, 1, 0, 0, 0, 0), (.iinc 2 1, 3, 1, 0, 0, 0), (.goto (-19), 3, 0, 0, 0, 4)] (pc2 := 4) (by decide +kernel) rfl trivial ?_
      exact ih k0 (x1 + a1) (x2 + 1) hk0 hf
def fX3_sum (k0 : Nat) (σ : ST) : Option Int32 :=
  fX3_sum_4 σ FU k0 0 0
set_option maxHeartbeats 4000000 in
theorem kmX3_sum (l : Launch) {k0 : Nat} {σ : ST} {r : Int32} (hk0 : kd k0 = 3) (hf : fX3_sum k0 σ = some r) : KM l yX3_sum cX3_sum 3 (some .int) 2 42 [.ref k0] σ (some (.int r)) σ := by
  refine KM.intro (ow := 3) (by decide +kernel) rfl (Nat.le_of_ble_eq_true rfl) (fun V hm => ?_)
  show V 0 [some (.ref k0), none, none] [] σ
  have h := hm.bd
  unfold fX3_sum at hf
  refine h.run (o := []) (ls' := [some (.ref k0), some (.int 0), some (.int 0)]) (st' := []) (σ' := σ) [(.iconst 0, 1, 0, 0, 0, 0), (.istore_n 1, 1, 0, 0, 0, 0), (.iconst 0, 1, 0, 0, 0, 0), (.istore_n 2, 1, 0, 0, 0, 0)] (pc2 := 4) (by decide +kernel) rfl trivial ?_
  exact wX3_sum_4 hm FU k0 0 0 hk0 hf
def fX3_signOf_32 (t0 : Int32) (σ : ST) : Option Int32 :=
  some t0
set_option maxHeartbeats 4000000 in
theorem wX3_signOf_32 {l : Launch} {V : Nat → List (Option Value) → List Value → ST → Prop} {r : Int32} {σ : ST} {t0 : Int32} (hm : BM l 3 cX3_signOf 5 (some .int) 2 42 (some (.int r)) σ V) (hf : fX3_signOf_32 t0 σ = some r) : V 32 [none, none, none, none, none] [.int t0] σ := by
  have h := hm.bd
  unfold fX3_signOf_32 at hf
  obtain rfl := Option.some.inj hf
  exact hm.iret (by decide +kernel)
def fX3_signOf (k0 : Nat) (x1 : Int32) (x2 : Int32) (σ : ST) : Option Int32 :=
  bR (fX3_read k0 x1 σ) fun a1 =>
  bR (fX3_read k0 x2 σ) fun a2 =>
  if a1 = a2 then
    some 0
  else
    if a2 ≤ a1 then
      fX3_signOf_32 1 σ
    else
      fX3_signOf_32 (-1) σ
set_option maxHeartbeats 4000000 in
theorem kmX3_signOf (l : Launch) {k0 : Nat} {x1 : Int32} {x2 : Int32} {σ : ST} {r : Int32} (hk0 : kd k0 = 3) (hf : fX3_signOf k0 x1 x2 σ = some r) : KM l yX3_signOf cX3_signOf 5 (some .int) 2 42 [.ref k0, .int x1, .int x2] σ (some (.int r)) σ := by
  refine KM.intro (ow := 3) (by decide +kernel) rfl (Nat.le_of_ble_eq_true rfl) (fun V hm => ?_)
  show V 0 [some (.ref k0), some (.int x1), some (.int x2), none, none] [] σ
  have h := hm.bd
  unfold fX3_signOf at hf
  refine h.run (o := []) (ls' := [some (.ref k0), some (.int x1), some (.int x2), none, none]) (st' := [.int x1, .ref k0]) (σ' := σ) [(.aload_n 0, 1, 0, 0, 0, 0), (.iload_n 1, 1, 0, 0, 0, 0)] (pc2 := 2) (by decide +kernel) rfl trivial ?_
  obtain ⟨a1, e1, hf⟩ := bR_some hf
  refine h.callV (as := [.int x1]) (rest := []) (by decide +kernel) lk3_30 cwX3_read hk0 (kmX3_read l hk0 e1) rfl (Nat.le_of_ble_eq_true rfl) (Nat.le_of_ble_eq_true rfl) (Nat.le_of_ble_eq_true rfl) ?_
  show V 5 [some (.ref k0), some (.int x1), some (.int x2), none, none] [.int a1] σ
  refine h.run (o := []) (ls' := [some (.ref k0), some (.int x1), some (.int x2), some (.int a1), none]) (st' := [.int x2, .ref k0]) (σ' := σ) [(.istore_n 3, 1, 0, 0, 0, 0), (.aload_n 0, 1, 0, 0, 0, 0), (.iload_n 2, 1, 0, 0, 0, 0)] (pc2 := 8) (by decide +kernel) rfl trivial ?_
  obtain ⟨a2, e2, hf⟩ := bR_some hf
  refine h.callV (as := [.int x2]) (rest := []) (by decide +kernel) lk3_30 cwX3_read hk0 (kmX3_read l hk0 e2) rfl (Nat.le_of_ble_eq_true rfl) (Nat.le_of_ble_eq_true rfl) (Nat.le_of_ble_eq_true rfl) ?_
  show V 11 [some (.ref k0), some (.int x1), some (.int x2), some (.int a1), none] [.int a2] σ
  refine h.run (o := []) (ls' := [some (.ref k0), some (.int x1), some (.int x2), some (.int a1), some (.int a2)]) (st' := [.int a2, .int a1]) (σ' := σ) [(.istore 4, 2, 0, 0, 0, 0), (.iload_n 3, 1, 0, 0, 0, 0), (.iload 4, 2, 0, 0, 0, 0)] (pc2 := 16) (by decide +kernel) rfl trivial ?_
  refine h.icmp_ne (tgt := 21) (show decode cX3_signOf 16 = .ok (.if_icmp .ne 5, 3) by decide +kernel) (by decide) (fun c4 => ?_) (fun c4 => ?_)
  · rw [if_neg c4] at hf
    refine h.run (o := []) (ls' := [some (.ref k0), some (.int x1), some (.int x2), some (.int a1), some (.int a2)]) (st' := [.int a2, .int a1]) (σ' := σ) [(.iload_n 3, 1, 0, 0, 0, 0), (.iload 4, 2, 0, 0, 0, 0)] (pc2 := 24) (by decide +kernel) rfl trivial ?_
    refine h.icmp_ge (tgt := 31) (show decode cX3_signOf 24 = .ok (.if_icmp .ge 7, 3) by decide +kernel) (by decide) (fun c3 => ?_) (fun c3 => ?_)
    · rw [if_pos c3] at hf
      refine h.run (o := []) (ls' := [some (.ref k0), some (.int x1), some (.int x2), some (.int a1), some (.int a2)]) (st' := [.int 1]) (σ' := σ) [(.iconst 1, 1, 1, 0, 0, 0)] (pc2 := 32) (by decide +kernel) rfl trivial ?_
      refine h.drop (ls' := [none, none, none, none, none]) trivial ?_
      exact wX3_signOf_32 hm hf
    · rw [if_neg c3] at hf
      show V 27 [some (.ref k0), some (.int x1), some (.int x2), some (.int a1), some (.int a2)] [] σ
      refine h.run (o := []) (ls' := [some (.ref k0), some (.int x1), some (.int x2), some (.int a1), some (.int a2)]) (st' := [.int (-1)]) (σ' := σ) [(.iconst (-1), 1, (-1), 0, 0, 0), (.goto 4, 3, 0, 0, 0, 32)] (pc2 := 32) (by decide +kernel) rfl trivial ?_
      refine h.drop (ls' := [none, none, none, none, none]) trivial ?_
      exact wX3_signOf_32 hm hf
  · rw [if_pos c4] at hf
    show V 19 [some (.ref k0), some (.int x1), some (.int x2), some (.int a1), some (.int a2)] [] σ
    refine h.run (o := []) (ls' := [some (.ref k0), some (.int x1), some (.int x2), some (.int a1), some (.int a2)]) (st' := [.int 0]) (σ' := σ) [(.iconst 0, 1, 0, 0, 0, 0)] (pc2 := 20) (by decide +kernel) rfl trivial ?_
    obtain rfl := Option.some.inj hf
    exact hm.iret (by decide +kernel)
def fX3_faithOfSender (k0 : Nat) (σ : ST) : Option Int32 :=
  if (σ.1 k0 2) = 0 then
    some 10
  else
    if (σ.1 k0 2) = 1 then
      some (10 + (σ.1 k0 4))
    else
      if (σ.1 k0 2) = 2 then
        some (10 + (2 * (σ.1 k0 3)))
      else
        if (σ.1 k0 2) = 3 then
          some (10 - (σ.1 k0 3))
        else
          if (σ.1 k0 2) = 4 then
            some (2 * (10 + (σ.1 k0 4)))
          else
            if (σ.1 k0 2) = 5 then
              some (10 / 2)
            else
              if (σ.1 k0 2) = 6 then
                some ((10 + (σ.1 k0 4)) + 7)
              else
                if (σ.1 k0 2) = 7 then
                  some ((10 / 2) - (σ.1 k0 3))
                else
                  some 10
set_option maxHeartbeats 4000000 in
theorem kmX3_faithOfSender (l : Launch) {k0 : Nat} {σ : ST} {r : Int32} (hk0 : kd k0 = 3) (hf : fX3_faithOfSender k0 σ = some r) : KM l yX3_faithOfSender cX3_faithOfSender 4 (some .int) 0 0 [.ref k0] σ (some (.int r)) σ := by
  refine KM.intro (ow := 3) (by decide +kernel) rfl (Nat.le_of_ble_eq_true rfl) (fun V hm => ?_)
  show V 0 [some (.ref k0), none, none, none] [] σ
  have h := hm.bd
  unfold fX3_faithOfSender at hf
  refine h.run (o := [kd k0 = 3, ¬ 2 = 0, kd k0 = 3]) (ls' := [some (.ref k0), some (.int 10), some (.int (10 + (σ.1 k0 4))), some (.int (10 / 2))]) (st' := [.int (σ.1 k0 2)]) (σ' := σ) [(.bipush 10, 2, 10, 0, 0, 0), (.istore_n 1, 1, 0, 0, 0, 0), (.iload_n 1, 1, 0, 0, 0, 0), (.aload_n 0, 1, 0, 0, 0, 0), (.getfield 34, 3, 0, 0, 3, 4), (.iadd, 1, 0, 0, 0, 0), (.istore_n 2, 1, 0, 0, 0, 0), (.iload_n 1, 1, 0, 0, 0, 0), (.iconst 2, 1, 2, 0, 0, 0), (.idiv, 1, 0, 0, 0, 0), (.istore_n 3, 1, 0, 0, 0, 0), (.aload_n 0, 1, 0, 0, 0, 0), (.getfield 37, 3, 0, 0, 3, 2)] (pc2 := 18) (by decide +kernel) rfl (And.intro hk0 (And.intro (by decide) (And.intro hk0 trivial))) ?_
  by_cases c1 : (σ.1 k0 2) = 0
  · rw [if_pos c1] at hf
    refine h.tableIn (off := 82) (tgt := 100) (show decode cX3_faithOfSender 18 = .ok (.tableswitch 82 0 7 #[82, 46, 48, 57, 64, 68, 70, 75], 46) by decide +kernel) (by rw [c1]; decide) (by rw [c1]; decide) (by rw [c1]; decide) (by decide) ?_
    refine h.run (o := []) (ls' := [some (.ref k0), some (.int 10), some (.int (10 + (σ.1 k0 4))), some (.int (10 / 2))]) (st' := [.int 10]) (σ' := σ) [(.iload_n 1, 1, 0, 0, 0, 0)] (pc2 := 101) (by decide +kernel) rfl trivial ?_
    obtain rfl := Option.some.inj hf
    exact hm.iret (by decide +kernel)
  · rw [if_neg c1] at hf
    by_cases c2 : (σ.1 k0 2) = 1
    · rw [if_pos c2] at hf
      refine h.tableIn (off := 46) (tgt := 64) (show decode cX3_faithOfSender 18 = .ok (.tableswitch 82 0 7 #[82, 46, 48, 57, 64, 68, 70, 75], 46) by decide +kernel) (by rw [c2]; decide) (by rw [c2]; decide) (by rw [c2]; decide) (by decide) ?_
      refine h.run (o := []) (ls' := [some (.ref k0), some (.int 10), some (.int (10 + (σ.1 k0 4))), some (.int (10 / 2))]) (st' := [.int (10 + (σ.1 k0 4))]) (σ' := σ) [(.iload_n 2, 1, 0, 0, 0, 0)] (pc2 := 65) (by decide +kernel) rfl trivial ?_
      obtain rfl := Option.some.inj hf
      exact hm.iret (by decide +kernel)
    · rw [if_neg c2] at hf
      by_cases c3 : (σ.1 k0 2) = 2
      · rw [if_pos c3] at hf
        refine h.tableIn (off := 48) (tgt := 66) (show decode cX3_faithOfSender 18 = .ok (.tableswitch 82 0 7 #[82, 46, 48, 57, 64, 68, 70, 75], 46) by decide +kernel) (by rw [c3]; decide) (by rw [c3]; decide) (by rw [c3]; decide) (by decide) ?_
        refine h.run (o := [kd k0 = 3]) (ls' := [some (.ref k0), some (.int 10), some (.int (10 + (σ.1 k0 4))), some (.int (10 / 2))]) (st' := [.int (10 + (2 * (σ.1 k0 3)))]) (σ' := σ) [(.iload_n 1, 1, 0, 0, 0, 0), (.iconst 2, 1, 2, 0, 0, 0), (.aload_n 0, 1, 0, 0, 0, 0), (.getfield 40, 3, 0, 0, 3, 3), (.imul, 1, 0, 0, 0, 0), (.iadd, 1, 0, 0, 0, 0)] (pc2 := 74) (by decide +kernel) rfl (And.intro hk0 trivial) ?_
        obtain rfl := Option.some.inj hf
        exact hm.iret (by decide +kernel)
      · rw [if_neg c3] at hf
        by_cases c4 : (σ.1 k0 2) = 3
        · rw [if_pos c4] at hf
          refine h.tableIn (off := 57) (tgt := 75) (show decode cX3_faithOfSender 18 = .ok (.tableswitch 82 0 7 #[82, 46, 48, 57, 64, 68, 70, 75], 46) by decide +kernel) (by rw [c4]; decide) (by rw [c4]; decide) (by rw [c4]; decide) (by decide) ?_
          refine h.run (o := [kd k0 = 3]) (ls' := [some (.ref k0), some (.int 10), some (.int (10 + (σ.1 k0 4))), some (.int (10 / 2))]) (st' := [.int (10 - (σ.1 k0 3))]) (σ' := σ) [(.iload_n 1, 1, 0, 0, 0, 0), (.aload_n 0, 1, 0, 0, 0, 0), (.getfield 40, 3, 0, 0, 3, 3), (.isub, 1, 0, 0, 0, 0)] (pc2 := 81) (by decide +kernel) rfl (And.intro hk0 trivial) ?_
          obtain rfl := Option.some.inj hf
          exact hm.iret (by decide +kernel)
        · rw [if_neg c4] at hf
          by_cases c5 : (σ.1 k0 2) = 4
          · rw [if_pos c5] at hf
            refine h.tableIn (off := 64) (tgt := 82) (show decode cX3_faithOfSender 18 = .ok (.tableswitch 82 0 7 #[82, 46, 48, 57, 64, 68, 70, 75], 46) by decide +kernel) (by rw [c5]; decide) (by rw [c5]; decide) (by rw [c5]; decide) (by decide) ?_
            refine h.run (o := []) (ls' := [some (.ref k0), some (.int 10), some (.int (10 + (σ.1 k0 4))), some (.int (10 / 2))]) (st' := [.int (2 * (10 + (σ.1 k0 4)))]) (σ' := σ) [(.iconst 2, 1, 2, 0, 0, 0), (.iload_n 2, 1, 0, 0, 0, 0), (.imul, 1, 0, 0, 0, 0)] (pc2 := 85) (by decide +kernel) rfl trivial ?_
            obtain rfl := Option.some.inj hf
            exact hm.iret (by decide +kernel)
          · rw [if_neg c5] at hf
            by_cases c6 : (σ.1 k0 2) = 5
            · rw [if_pos c6] at hf
              refine h.tableIn (off := 68) (tgt := 86) (show decode cX3_faithOfSender 18 = .ok (.tableswitch 82 0 7 #[82, 46, 48, 57, 64, 68, 70, 75], 46) by decide +kernel) (by rw [c6]; decide) (by rw [c6]; decide) (by rw [c6]; decide) (by decide) ?_
              refine h.run (o := []) (ls' := [some (.ref k0), some (.int 10), some (.int (10 + (σ.1 k0 4))), some (.int (10 / 2))]) (st' := [.int (10 / 2)]) (σ' := σ) [(.iload_n 3, 1, 0, 0, 0, 0)] (pc2 := 87) (by decide +kernel) rfl trivial ?_
              obtain rfl := Option.some.inj hf
              exact hm.iret (by decide +kernel)
            · rw [if_neg c6] at hf
              by_cases c7 : (σ.1 k0 2) = 6
              · rw [if_pos c7] at hf
                refine h.tableIn (off := 70) (tgt := 88) (show decode cX3_faithOfSender 18 = .ok (.tableswitch 82 0 7 #[82, 46, 48, 57, 64, 68, 70, 75], 46) by decide +kernel) (by rw [c7]; decide) (by rw [c7]; decide) (by rw [c7]; decide) (by decide) ?_
                refine h.run (o := []) (ls' := [some (.ref k0), some (.int 10), some (.int (10 + (σ.1 k0 4))), some (.int (10 / 2))]) (st' := [.int ((10 + (σ.1 k0 4)) + 7)]) (σ' := σ) [(.iload_n 2, 1, 0, 0, 0, 0), (.bipush 7, 2, 7, 0, 0, 0), (.iadd, 1, 0, 0, 0, 0)] (pc2 := 92) (by decide +kernel) rfl trivial ?_
                obtain rfl := Option.some.inj hf
                exact hm.iret (by decide +kernel)
              · rw [if_neg c7] at hf
                by_cases c8 : (σ.1 k0 2) = 7
                · rw [if_pos c8] at hf
                  refine h.tableIn (off := 75) (tgt := 93) (show decode cX3_faithOfSender 18 = .ok (.tableswitch 82 0 7 #[82, 46, 48, 57, 64, 68, 70, 75], 46) by decide +kernel) (by rw [c8]; decide) (by rw [c8]; decide) (by rw [c8]; decide) (by decide) ?_
                  refine h.run (o := [kd k0 = 3]) (ls' := [some (.ref k0), some (.int 10), some (.int (10 + (σ.1 k0 4))), some (.int (10 / 2))]) (st' := [.int ((10 / 2) - (σ.1 k0 3))]) (σ' := σ) [(.iload_n 3, 1, 0, 0, 0, 0), (.aload_n 0, 1, 0, 0, 0, 0), (.getfield 40, 3, 0, 0, 3, 3), (.isub, 1, 0, 0, 0, 0)] (pc2 := 99) (by decide +kernel) rfl (And.intro hk0 trivial) ?_
                  obtain rfl := Option.some.inj hf
                  exact hm.iret (by decide +kernel)
                · rw [if_neg c8] at hf
                  refine h.tableOut (tgt := 100) (show decode cX3_faithOfSender 18 = .ok (.tableswitch 82 0 7 #[82, 46, 48, 57, 64, 68, 70, 75], 46) by decide +kernel) (sw_out (fun i hl hh => ?_)) (by decide) ?_
                  · rcases (show i = 0 ∨ i = 1 ∨ i = 2 ∨ i = 3 ∨ i = 4 ∨ i = 5 ∨ i = 6 ∨ i = 7 by omega) with rfl | rfl | rfl | rfl | rfl | rfl | rfl | rfl
                    · exact sw_ne c1 (by decide)
                    · exact sw_ne c2 (by decide)
                    · exact sw_ne c3 (by decide)
                    · exact sw_ne c4 (by decide)
                    · exact sw_ne c5 (by decide)
                    · exact sw_ne c6 (by decide)
                    · exact sw_ne c7 (by decide)
                    · exact sw_ne c8 (by decide)
                  · refine h.run (o := []) (ls' := [some (.ref k0), some (.int 10), some (.int (10 + (σ.1 k0 4))), some (.int (10 / 2))]) (st' := [.int 10]) (σ' := σ) [(.iload_n 1, 1, 0, 0, 0, 0)] (pc2 := 101) (by decide +kernel) rfl trivial ?_
                    obtain rfl := Option.some.inj hf
                    exact hm.iret (by decide +kernel)
