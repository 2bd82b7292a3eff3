/-! Printed by wip/whole/prt.py: functions and walks. -/
def fX4_become (k0 : Nat) (k1 : Nat) (σ : ST) : Option ST :=
  gd (okCpy 0 0 (imin (Int32.ofNat (alen (k0 + 1))) (Int32.ofNat (alen (k1 + 1)))) (alen (k1 + 1)) (alen (k0 + 1))) <|
  some (cpyI (setI σ k0 3 (σ.1 k1 3)) (k1 + 1) (k0 + 1) (0 : Int32).toNatClampNeg (0 : Int32).toNatClampNeg (imin (Int32.ofNat (alen (k0 + 1))) (Int32.ofNat (alen (k1 + 1))) : Int32).toNatClampNeg)
set_option maxHeartbeats 4000000 in
theorem kmX4_become (l : Launch) {k0 : Nat} {k1 : Nat} {σ : ST} {τ : ST} (hk0 : kd k0 = 4) (hk1 : kd k1 = 4) (hf : fX4_become k0 k1 σ = some τ) : KM l yX4_become cX4_become 2 none 1 40 [.ref k0, .ref k1] σ none τ := by
  refine KM.intro (ow := 4) (by decide +kernel) rfl (Nat.le_of_ble_eq_true rfl) (fun V hm => ?_)
  show V 0 [some (.ref k0), some (.ref k1)] [] σ
  have h := hm.bd
  unfold fX4_become at hf
  refine h.run (o := [kd k1 = 4, kd k0 = 4, kd k1 = 4, kd k0 = 4, kd k0 = 4, kd (k0 + 1) = 10, kd k1 = 4, kd (k1 + 1) = 10]) (ls' := [some (.ref k0), some (.ref k1)]) (st' := [.int (Int32.ofNat (alen (k1 + 1))), .int (Int32.ofNat (alen (k0 + 1))), .int 0, .ref (k0 + 1), .int 0, .ref (k1 + 1)]) (σ' := setI σ k0 3 (σ.1 k1 3)) [(.aload_n 0, 1, 0, 0, 0, 0), (.aload_n 1, 1, 0, 0, 0, 0), (.getfield 7, 3, 0, 0, 4, 3), (.putfield 7, 3, 0, 0, 4, 3), (.aload_n 1, 1, 0, 0, 0, 0), (.getfield 25, 3, 0, 0, 4, 2), (.iconst 0, 1, 0, 0, 0, 0), (.aload_n 0, 1, 0, 0, 0, 0), (.getfield 25, 3, 0, 0, 4, 2), (.iconst 0, 1, 0, 0, 0, 0), (.aload_n 0, 1, 0, 0, 0, 0), (.getfield 25, 3, 0, 0, 4, 2), (.arraylength, 1, 0, 0, 10, 0), (.aload_n 1, 1, 0, 0, 0, 0), (.getfield 25, 3, 0, 0, 4, 2), (.arraylength, 1, 0, 0, 10, 0)] (pc2 := 28) (by decide +kernel) rfl (And.intro hk1 (And.intro hk0 (And.intro hk1 (And.intro hk0 (And.intro hk0 (And.intro (kd_T hk0) (And.intro hk1 (And.intro (kd_T hk1) trivial)))))))) ?_
  refine h.nmin jw_l39 (by decide +kernel) (Nat.le_of_ble_eq_true rfl) (Nat.le_of_ble_eq_true rfl) ?_
  show V 31 [some (.ref k0), some (.ref k1)] [.int (imin (Int32.ofNat (alen (k0 + 1))) (Int32.ofNat (alen (k1 + 1)))), .int 0, .ref (k0 + 1), .int 0, .ref (k1 + 1)] (setI σ k0 3 (σ.1 k1 3))
  obtain ⟨g1, hf⟩ := gd_some hf
  refine h.cpy jw_lc4 (by decide +kernel) (kd_T hk1) (kd_T hk0) g1 (Nat.le_of_ble_eq_true rfl) (Nat.le_of_ble_eq_true rfl) ?_
  show V 34 [some (.ref k0), some (.ref k1)] [] (cpyI (setI σ k0 3 (σ.1 k1 3)) (k1 + 1) (k0 + 1) (0 : Int32).toNatClampNeg (0 : Int32).toNatClampNeg (imin (Int32.ofNat (alen (k0 + 1))) (Int32.ofNat (alen (k1 + 1))) : Int32).toNatClampNeg)
  obtain rfl := Option.some.inj hf
  exact hm.vret (by decide +kernel)
def fX4_placeOf_46 (t0 : Int32) (σ : ST) : Option Int32 :=
  some t0
set_option maxHeartbeats 4000000 in
theorem wX4_placeOf_46 {l : Launch} {V : Nat → List (Option Value) → List Value → ST → Prop} {r : Int32} {σ : ST} {t0 : Int32} (hm : BM l 4 cX4_placeOf 4 (some .int) 0 0 (some (.int r)) σ V) (hf : fX4_placeOf_46 t0 σ = some r) : V 46 [none, none, none, none] [.int t0] σ := by
  have h := hm.bd
  unfold fX4_placeOf_46 at hf
  obtain rfl := Option.some.inj hf
  exact hm.iret (by decide +kernel)
def fX4_placeOf_29 (k0 : Nat) (x1 : Int32) (x2 : Int32) (t0 : Int32) (σ : ST) : Option Int32 :=
  if t0 = 0 then
    fX4_placeOf_46 (-1) σ
  else
    fX4_placeOf_46 ((x1 * (σ.1 k0 1)) + x2) σ
set_option maxHeartbeats 4000000 in
theorem wX4_placeOf_29 {l : Launch} {V : Nat → List (Option Value) → List Value → ST → Prop} {r : Int32} {σ : ST} {k0 : Nat} {x1 : Int32} {x2 : Int32} {t0 : Int32} (hm : BM l 4 cX4_placeOf 4 (some .int) 0 0 (some (.int r)) σ V) (hk0 : kd k0 = 4) (hf : fX4_placeOf_29 k0 x1 x2 t0 σ = some r) : V 29 [some (.ref k0), some (.int x1), some (.int x2), none] [.int t0] σ := by
  have h := hm.bd
  unfold fX4_placeOf_29 at hf
  refine h.run (o := []) (ls' := [some (.ref k0), some (.int x1), some (.int x2), some (.int t0)]) (st' := [.int t0]) (σ' := σ) [(.istore_n 3, 1, 0, 0, 0, 0), (.iload_n 3, 1, 0, 0, 0, 0)] (pc2 := 31) (by decide +kernel) rfl trivial ?_
  refine h.if_eq (tgt := 45) (show decode cX4_placeOf 31 = .ok (.ifCond .eq 14, 3) by decide +kernel) (by decide) (fun c1 => ?_) (fun c1 => ?_)
  · rw [if_pos c1] at hf
    refine h.run (o := []) (ls' := [some (.ref k0), some (.int x1), some (.int x2), some (.int t0)]) (st' := [.int (-1)]) (σ' := σ) [(.iconst (-1), 1, (-1), 0, 0, 0)] (pc2 := 46) (by decide +kernel) rfl trivial ?_
    refine h.drop (ls' := [none, none, none, none]) trivial ?_
    exact wX4_placeOf_46 hm hf
  · rw [if_neg c1] at hf
    show V 34 [some (.ref k0), some (.int x1), some (.int x2), some (.int t0)] [] σ
    refine h.run (o := [kd k0 = 4]) (ls' := [some (.ref k0), some (.int x1), some (.int x2), some (.int t0)]) (st' := [.int ((x1 * (σ.1 k0 1)) + x2)]) (σ' := σ) [(.iload_n 1, 1, 0, 0, 0, 0), (.aload_n 0, 1, 0, 0, 0, 0), (.getfield 16, 3, 0, 0, 4, 1), (.imul, 1, 0, 0, 0, 0), (.iload_n 2, 1, 0, 0, 0, 0), (.iadd, 1, 0, 0, 0, 0), (.goto 4, 3, 0, 0, 0, 46)] (pc2 := 46) (by decide +kernel) rfl (And.intro hk0 trivial) ?_
    refine h.drop (ls' := [none, none, none, none]) trivial ?_
    exact wX4_placeOf_46 hm hf
def fX4_placeOf_28 (k0 : Nat) (x1 : Int32) (x2 : Int32) (σ : ST) : Option Int32 :=
  fX4_placeOf_29 k0 x1 x2 0 σ
set_option maxHeartbeats 4000000 in
theorem wX4_placeOf_28 {l : Launch} {V : Nat → List (Option Value) → List Value → ST → Prop} {r : Int32} {σ : ST} {k0 : Nat} {x1 : Int32} {x2 : Int32} (hm : BM l 4 cX4_placeOf 4 (some .int) 0 0 (some (.int r)) σ V) (hk0 : kd k0 = 4) (hf : fX4_placeOf_28 k0 x1 x2 σ = some r) : V 28 [some (.ref k0), some (.int x1), some (.int x2), none] [] σ := by
  have h := hm.bd
  unfold fX4_placeOf_28 at hf
  refine h.run (o := []) (ls' := [some (.ref k0), some (.int x1), some (.int x2), none]) (st' := [.int 0]) (σ' := σ) [(.iconst 0, 1, 0, 0, 0, 0)] (pc2 := 29) (by decide +kernel) rfl trivial ?_
  exact wX4_placeOf_29 hm hk0 hf
def fX4_placeOf (k0 : Nat) (x1 : Int32) (x2 : Int32) (σ : ST) : Option Int32 :=
  if x1 < 0 then
    fX4_placeOf_28 k0 x1 x2 σ
  else
    if (σ.1 k0 3) ≤ x1 then
      fX4_placeOf_28 k0 x1 x2 σ
    else
      if x2 < 0 then
        fX4_placeOf_28 k0 x1 x2 σ
      else
        if (σ.1 k0 1) ≤ x2 then
          fX4_placeOf_28 k0 x1 x2 σ
        else
          fX4_placeOf_29 k0 x1 x2 1 σ
set_option maxHeartbeats 4000000 in
theorem kmX4_placeOf (l : Launch) {k0 : Nat} {x1 : Int32} {x2 : Int32} {σ : ST} {r : Int32} (hk0 : kd k0 = 4) (hf : fX4_placeOf k0 x1 x2 σ = some r) : KM l yX4_placeOf cX4_placeOf 4 (some .int) 0 0 [.ref k0, .int x1, .int x2] σ (some (.int r)) σ := by
  refine KM.intro (ow := 4) (by decide +kernel) rfl (Nat.le_of_ble_eq_true rfl) (fun V hm => ?_)
  show V 0 [some (.ref k0), some (.int x1), some (.int x2), none] [] σ
  have h := hm.bd
  unfold fX4_placeOf at hf
  refine h.run (o := []) (ls' := [some (.ref k0), some (.int x1), some (.int x2), none]) (st' := [.int x1]) (σ' := σ) [(.iload_n 1, 1, 0, 0, 0, 0)] (pc2 := 1) (by decide +kernel) rfl trivial ?_
  refine h.if_lt (tgt := 28) (show decode cX4_placeOf 1 = .ok (.ifCond .lt 27, 3) by decide +kernel) (by decide) (fun c4 => ?_) (fun c4 => ?_)
  · rw [if_pos c4] at hf
    exact wX4_placeOf_28 hm hk0 hf
  · rw [if_neg c4] at hf
    show V 4 [some (.ref k0), some (.int x1), some (.int x2), none] [] σ
    refine h.run (o := [kd k0 = 4]) (ls' := [some (.ref k0), some (.int x1), some (.int x2), none]) (st' := [.int (σ.1 k0 3), .int x1]) (σ' := σ) [(.iload_n 1, 1, 0, 0, 0, 0), (.aload_n 0, 1, 0, 0, 0, 0), (.getfield 7, 3, 0, 0, 4, 3)] (pc2 := 9) (by decide +kernel) rfl (And.intro hk0 trivial) ?_
    refine h.icmp_ge (tgt := 28) (show decode cX4_placeOf 9 = .ok (.if_icmp .ge 19, 3) by decide +kernel) (by decide) (fun c3 => ?_) (fun c3 => ?_)
    · rw [if_pos c3] at hf
      exact wX4_placeOf_28 hm hk0 hf
    · rw [if_neg c3] at hf
      show V 12 [some (.ref k0), some (.int x1), some (.int x2), none] [] σ
      refine h.run (o := []) (ls' := [some (.ref k0), some (.int x1), some (.int x2), none]) (st' := [.int x2]) (σ' := σ) [(.iload_n 2, 1, 0, 0, 0, 0)] (pc2 := 13) (by decide +kernel) rfl trivial ?_
      refine h.if_lt (tgt := 28) (show decode cX4_placeOf 13 = .ok (.ifCond .lt 15, 3) by decide +kernel) (by decide) (fun c2 => ?_) (fun c2 => ?_)
      · rw [if_pos c2] at hf
        exact wX4_placeOf_28 hm hk0 hf
      · rw [if_neg c2] at hf
        show V 16 [some (.ref k0), some (.int x1), some (.int x2), none] [] σ
        refine h.run (o := [kd k0 = 4]) (ls' := [some (.ref k0), some (.int x1), some (.int x2), none]) (st' := [.int (σ.1 k0 1), .int x2]) (σ' := σ) [(.iload_n 2, 1, 0, 0, 0, 0), (.aload_n 0, 1, 0, 0, 0, 0), (.getfield 16, 3, 0, 0, 4, 1)] (pc2 := 21) (by decide +kernel) rfl (And.intro hk0 trivial) ?_
        refine h.icmp_ge (tgt := 28) (show decode cX4_placeOf 21 = .ok (.if_icmp .ge 7, 3) by decide +kernel) (by decide) (fun c1 => ?_) (fun c1 => ?_)
        · rw [if_pos c1] at hf
          exact wX4_placeOf_28 hm hk0 hf
        · rw [if_neg c1] at hf
          show V 24 [some (.ref k0), some (.int x1), some (.int x2), none] [] σ
          refine h.run (o := []) (ls' := [some (.ref k0), some (.int x1), some (.int x2), none]) (st' := [.int 1]) (σ' := σ) [(.iconst 1, 1, 1, 0, 0, 0), (.goto 4, 3, 0, 0, 0, 29)] (pc2 := 29) (by decide +kernel) rfl trivial ?_
          exact wX4_placeOf_29 hm hk0 hf
def fX4_write_31 (σ : ST) : Option ST :=
  some σ
set_option maxHeartbeats 4000000 in
theorem wX4_write_31 {l : Launch} {V : Nat → List (Option Value) → List Value → ST → Prop} {τ : ST} {σ : ST} (hm : BM l 4 cX4_write 5 none 1 23 none τ V) (hf : fX4_write_31 σ = some τ) : V 31 [none, none, none, none, none] [] σ := by
  have h := hm.bd
  unfold fX4_write_31 at hf
  obtain rfl := Option.some.inj hf
  exact hm.vret (by decide +kernel)
def fX4_write (k0 : Nat) (x1 : Int32) (x2 : Int32) (x3 : Int32) (σ : ST) : Option ST :=
  bR (fX4_placeOf k0 x1 x2 σ) fun a1 =>
  if a1 < 0 then
    fX4_write_31 σ
  else
    if (Int32.ofNat (alen (k0 + 1))) ≤ a1 then
      fX4_write_31 σ
    else
      gd (inb a1 (alen (k0 + 1))) <|
      fX4_write_31 (setI σ (k0 + 1) (a1.toNatClampNeg) x3)
set_option maxHeartbeats 4000000 in
theorem kmX4_write (l : Launch) {k0 : Nat} {x1 : Int32} {x2 : Int32} {x3 : Int32} {σ : ST} {τ : ST} (hk0 : kd k0 = 4) (hf : fX4_write k0 x1 x2 x3 σ = some τ) : KM l yX4_write cX4_write 5 none 1 23 [.ref k0, .int x1, .int x2, .int x3] σ none τ := by
  refine KM.intro (ow := 4) (by decide +kernel) rfl (Nat.le_of_ble_eq_true rfl) (fun V hm => ?_)
  show V 0 [some (.ref k0), some (.int x1), some (.int x2), some (.int x3), none] [] σ
  have h := hm.bd
  unfold fX4_write at hf
  refine h.run (o := []) (ls' := [some (.ref k0), some (.int x1), some (.int x2), some (.int x3), none]) (st' := [.int x2, .int x1, .ref k0]) (σ' := σ) [(.aload_n 0, 1, 0, 0, 0, 0), (.iload_n 1, 1, 0, 0, 0, 0), (.iload_n 2, 1, 0, 0, 0, 0)] (pc2 := 3) (by decide +kernel) rfl trivial ?_
  obtain ⟨a1, e1, hf⟩ := bR_some hf
  refine h.callV (as := [.int x1, .int x2]) (rest := []) (by decide +kernel) lk4_29 cwX4_placeOf hk0 (kmX4_placeOf l hk0 e1) rfl (Nat.le_of_ble_eq_true rfl) (Nat.le_of_ble_eq_true rfl) (Nat.le_of_ble_eq_true rfl) ?_
  show V 6 [some (.ref k0), some (.int x1), some (.int x2), some (.int x3), none] [.int a1] σ
  refine h.run (o := []) (ls' := [some (.ref k0), some (.int x1), some (.int x2), some (.int x3), some (.int a1)]) (st' := [.int a1]) (σ' := σ) [(.istore 4, 2, 0, 0, 0, 0), (.iload 4, 2, 0, 0, 0, 0)] (pc2 := 10) (by decide +kernel) rfl trivial ?_
  refine h.if_lt (tgt := 31) (show decode cX4_write 10 = .ok (.ifCond .lt 21, 3) by decide +kernel) (by decide) (fun c4 => ?_) (fun c4 => ?_)
  · rw [if_pos c4] at hf
    refine h.drop (ls' := [none, none, none, none, none]) trivial ?_
    exact wX4_write_31 hm hf
  · rw [if_neg c4] at hf
    show V 13 [some (.ref k0), some (.int x1), some (.int x2), some (.int x3), some (.int a1)] [] σ
    refine h.run (o := [kd k0 = 4, kd (k0 + 1) = 10]) (ls' := [some (.ref k0), some (.int x1), some (.int x2), some (.int x3), some (.int a1)]) (st' := [.int (Int32.ofNat (alen (k0 + 1))), .int a1]) (σ' := σ) [(.iload 4, 2, 0, 0, 0, 0), (.aload_n 0, 1, 0, 0, 0, 0), (.getfield 25, 3, 0, 0, 4, 2), (.arraylength, 1, 0, 0, 10, 0)] (pc2 := 20) (by decide +kernel) rfl (And.intro hk0 (And.intro (kd_T hk0) trivial)) ?_
    refine h.icmp_ge (tgt := 31) (show decode cX4_write 20 = .ok (.if_icmp .ge 11, 3) by decide +kernel) (by decide) (fun c3 => ?_) (fun c3 => ?_)
    · rw [if_pos c3] at hf
      refine h.drop (ls' := [none, none, none, none, none]) trivial ?_
      exact wX4_write_31 hm hf
    · rw [if_neg c3] at hf
      show V 23 [some (.ref k0), some (.int x1), some (.int x2), some (.int x3), some (.int a1)] [] σ
      obtain ⟨g2, hf⟩ := gd_some hf
      refine h.run (o := [kd k0 = 4, kd (k0 + 1) = 10, inb a1 (alen (k0 + 1)) = true]) (ls' := [some (.ref k0), some (.int x1), some (.int x2), some (.int x3), some (.int a1)]) (st' := []) (σ' := setI σ (k0 + 1) (a1.toNatClampNeg) x3) [(.aload_n 0, 1, 0, 0, 0, 0), (.getfield 25, 3, 0, 0, 4, 2), (.iload 4, 2, 0, 0, 0, 0), (.iload_n 3, 1, 0, 0, 0, 0), (.iastore, 1, 0, 0, 0, 0)] (pc2 := 31) (by decide +kernel) rfl (And.intro hk0 (And.intro (kd_T hk0) (And.intro g2 trivial))) ?_
      refine h.drop (ls' := [none, none, none, none, none]) trivial ?_
      exact wX4_write_31 hm hf
def fX4_open_25 (n : Nat) (k0 : Nat) (x1 : Int32) (σ : ST) : Option (Int32 × ST) := match n with
  | 0 => none
  | n + 1 =>
    if (σ.1 k0 1) ≤ x1 then
      some ((σ.1 k0 3) - 1, σ)
    else
      bR (fX4_write k0 ((σ.1 k0 3) - 1) x1 0 σ) fun σ1 =>
      fX4_open_25 n k0 (x1 + 1) σ1
set_option maxHeartbeats 4000000 in
theorem wX4_open_25 {l : Launch} {V : Nat → List (Option Value) → List Value → ST → Prop} {r : Int32} {τ : ST} (hm : BM l 4 cX4_open 2 (some .int) 2 47 (some (.int r)) τ V) : ∀ (n : Nat) (k0 : Nat) (x1 : Int32) (σ : ST) (hk0 : kd k0 = 4), fX4_open_25 n k0 x1 σ = some (r, τ) → V 25 [some (.ref k0), some (.int x1)] [] σ := by
  have h := hm.bd
  intro n
  induction n with
  | zero => intro k0 x1 σ hk0 hf; cases hf
  | succ n ih =>
    intro k0 x1 σ hk0 hf
    rw [fX4_open_25] at hf
    refine h.run (o := [kd k0 = 4]) (ls' := [some (.ref k0), some (.int x1)]) (st' := [.int (σ.1 k0 1), .int x1]) (σ' := σ) [(.iload_n 1, 1, 0, 0, 0, 0), (.aload_n 0, 1, 0, 0, 0, 0), (.getfield 16, 3, 0, 0, 4, 1)] (pc2 := 30) (by decide +kernel) rfl (And.intro hk0 trivial) ?_
    refine h.icmp_ge (tgt := 51) (show decode cX4_open 30 = .ok (.if_icmp .ge 21, 3) by decide +kernel) (by decide) (fun c2 => ?_) (fun c2 => ?_)
    · rw [if_pos c2] at hf
      refine h.run (o := [kd k0 = 4]) (ls' := [some (.ref k0), some (.int x1)]) (st' := [.int ((σ.1 k0 3) - 1)]) (σ' := σ) [(.aload_n 0, 1, 0, 0, 0, 0), (.getfield 7, 3, 0, 0, 4, 3), (.iconst 1, 1, 1, 0, 0, 0), (.isub, 1, 0, 0, 0, 0)] (pc2 := 57) (by decide +kernel) rfl (And.intro hk0 trivial) ?_
      obtain ⟨rfl, rfl⟩ := Prod.mk.inj (Option.some.inj hf)
      exact hm.iret (by decide +kernel)
    · rw [if_neg c2] at hf
      show V 33 [some (.ref k0), some (.int x1)] [] σ
      refine h.run (o := [kd k0 = 4]) (ls' := [some (.ref k0), some (.int x1)]) (st' := [.int 0, .int x1, .int ((σ.1 k0 3) - 1), .ref k0]) (σ' := σ) [(.aload_n 0, 1, 0, 0, 0, 0), (.aload_n 0, 1, 0, 0, 0, 0), (.getfield 7, 3, 0, 0, 4, 3), (.iconst 1, 1, 1, 0, 0, 0), (.isub, 1, 0, 0, 0, 0), (.iload_n 1, 1, 0, 0, 0, 0), (.iconst 0, 1, 0, 0, 0, 0)] (pc2 := 42) (by decide +kernel) rfl (And.intro hk0 trivial) ?_
      obtain ⟨σ1, e1, hf⟩ := bR_some hf
      refine h.callV (as := [.int ((σ.1 k0 3) - 1), .int x1, .int 0]) (rest := []) (by decide +kernel) lk4_32 cwX4_write hk0 (kmX4_write l hk0 e1) rfl (Nat.le_of_ble_eq_true rfl) (Nat.le_of_ble_eq_true rfl) (Nat.le_of_ble_eq_true rfl) ?_
      show V 45 [some (.ref k0), some (.int x1)] [] σ1
      refine h.run (o := []) (ls' := [some (.ref k0), some (.int (x1 + 1))]) (st' := []) (σ' := σ1) [(.iinc 1 1, 3, 1, 0, 0, 0), (.goto (-23), 3, 0, 0, 0, 25)] (pc2 := 25) (by decide +kernel) rfl trivial ?_
      exact ih k0 (x1 + 1) _ hk0 hf
def fX4_open (k0 : Nat) (σ : ST) : Option (Int32 × ST) :=
  if (σ.1 k0 3) < (σ.1 k0 0) then
    fX4_open_25 FU k0 0 (setI σ k0 3 ((σ.1 k0 3) + 1))
  else
    some ((-1), σ)
set_option maxHeartbeats 4000000 in
theorem kmX4_open (l : Launch) {k0 : Nat} {σ : ST} {r : Int32} {τ : ST} (hk0 : kd k0 = 4) (hf : fX4_open k0 σ = some (r, τ)) : KM l yX4_open cX4_open 2 (some .int) 2 47 [.ref k0] σ (some (.int r)) τ := by
  refine KM.intro (ow := 4) (by decide +kernel) rfl (Nat.le_of_ble_eq_true rfl) (fun V hm => ?_)
  show V 0 [some (.ref k0), none] [] σ
  have h := hm.bd
  unfold fX4_open at hf
  refine h.run (o := [kd k0 = 4, kd k0 = 4]) (ls' := [some (.ref k0), none]) (st' := [.int (σ.1 k0 0), .int (σ.1 k0 3)]) (σ' := σ) [(.aload_n 0, 1, 0, 0, 0, 0), (.getfield 7, 3, 0, 0, 4, 3), (.aload_n 0, 1, 0, 0, 0, 0), (.getfield 13, 3, 0, 0, 4, 0)] (pc2 := 8) (by decide +kernel) rfl (And.intro hk0 (And.intro hk0 trivial)) ?_
  refine h.icmp_lt (tgt := 13) (show decode cX4_open 8 = .ok (.if_icmp .lt 5, 3) by decide +kernel) (by decide) (fun c1 => ?_) (fun c1 => ?_)
  · rw [if_pos c1] at hf
    refine h.run (o := [kd k0 = 4, kd k0 = 4]) (ls' := [some (.ref k0), some (.int 0)]) (st' := []) (σ' := setI σ k0 3 ((σ.1 k0 3) + 1)) [(.aload_n 0, 1, 0, 0, 0, 0), (.dup, 1, 0, 0, 0, 0), (.getfield 7, 3, 0, 0, 4, 3), (.iconst 1, 1, 1, 0, 0, 0), (.iadd, 1, 0, 0, 0, 0), (.putfield 7, 3, 0, 0, 4, 3), (.iconst 0, 1, 0, 0, 0, 0), (.istore_n 1, 1, 0, 0, 0, 0)] (pc2 := 25) (by decide +kernel) rfl (And.intro hk0 (And.intro hk0 trivial)) ?_
    exact wX4_open_25 hm FU k0 0 _ hk0 hf
  · rw [if_neg c1] at hf
    show V 11 [some (.ref k0), none] [] σ
    refine h.run (o := []) (ls' := [some (.ref k0), none]) (st' := [.int (-1)]) (σ' := σ) [(.iconst (-1), 1, (-1), 0, 0, 0)] (pc2 := 12) (by decide +kernel) rfl trivial ?_
    obtain ⟨rfl, rfl⟩ := Prod.mk.inj (Option.some.inj hf)
    exact hm.iret (by decide +kernel)
def fX4_has_17 (t0 : Int32) (σ : ST) : Option Int32 :=
  gd (isb t0) <|
  some t0
set_option maxHeartbeats 4000000 in
theorem wX4_has_17 {l : Launch} {V : Nat → List (Option Value) → List Value → ST → Prop} {r : Int32} {σ : ST} {t0 : Int32} (hm : BM l 4 cX4_has 2 (some .boolean) 0 0 (some (.int r)) σ V) (hf : fX4_has_17 t0 σ = some r) : V 17 [none, none] [.int t0] σ := by
  have h := hm.bd
  unfold fX4_has_17 at hf
  obtain ⟨g1, hf⟩ := gd_some hf
  obtain rfl := Option.some.inj hf
  exact hm.zret (by decide +kernel) g1
def fX4_has_16 (σ : ST) : Option Int32 :=
  fX4_has_17 0 σ
set_option maxHeartbeats 4000000 in
theorem wX4_has_16 {l : Launch} {V : Nat → List (Option Value) → List Value → ST → Prop} {r : Int32} {σ : ST} (hm : BM l 4 cX4_has 2 (some .boolean) 0 0 (some (.int r)) σ V) (hf : fX4_has_16 σ = some r) : V 16 [none, none] [] σ := by
  have h := hm.bd
  unfold fX4_has_16 at hf
  refine h.run (o := []) (ls' := [none, none]) (st' := [.int 0]) (σ' := σ) [(.iconst 0, 1, 0, 0, 0, 0)] (pc2 := 17) (by decide +kernel) rfl trivial ?_
  exact wX4_has_17 hm hf
def fX4_has (k0 : Nat) (x1 : Int32) (σ : ST) : Option Int32 :=
  if x1 < 0 then
    fX4_has_16 σ
  else
    if (σ.1 k0 3) ≤ x1 then
      fX4_has_16 σ
    else
      fX4_has_17 1 σ
set_option maxHeartbeats 4000000 in
theorem kmX4_has (l : Launch) {k0 : Nat} {x1 : Int32} {σ : ST} {r : Int32} (hk0 : kd k0 = 4) (hf : fX4_has k0 x1 σ = some r) : KM l yX4_has cX4_has 2 (some .boolean) 0 0 [.ref k0, .int x1] σ (some (.int r)) σ := by
  refine KM.intro (ow := 4) (by decide +kernel) rfl (Nat.le_of_ble_eq_true rfl) (fun V hm => ?_)
  show V 0 [some (.ref k0), some (.int x1)] [] σ
  have h := hm.bd
  unfold fX4_has at hf
  refine h.run (o := []) (ls' := [some (.ref k0), some (.int x1)]) (st' := [.int x1]) (σ' := σ) [(.iload_n 1, 1, 0, 0, 0, 0)] (pc2 := 1) (by decide +kernel) rfl trivial ?_
  refine h.if_lt (tgt := 16) (show decode cX4_has 1 = .ok (.ifCond .lt 15, 3) by decide +kernel) (by decide) (fun c2 => ?_) (fun c2 => ?_)
  · rw [if_pos c2] at hf
    refine h.drop (ls' := [none, none]) trivial ?_
    exact wX4_has_16 hm hf
  · rw [if_neg c2] at hf
    show V 4 [some (.ref k0), some (.int x1)] [] σ
    refine h.run (o := [kd k0 = 4]) (ls' := [some (.ref k0), some (.int x1)]) (st' := [.int (σ.1 k0 3), .int x1]) (σ' := σ) [(.iload_n 1, 1, 0, 0, 0, 0), (.aload_n 0, 1, 0, 0, 0, 0), (.getfield 7, 3, 0, 0, 4, 3)] (pc2 := 9) (by decide +kernel) rfl (And.intro hk0 trivial) ?_
    refine h.icmp_ge (tgt := 16) (show decode cX4_has 9 = .ok (.if_icmp .ge 7, 3) by decide +kernel) (by decide) (fun c1 => ?_) (fun c1 => ?_)
    · rw [if_pos c1] at hf
      refine h.drop (ls' := [none, none]) trivial ?_
      exact wX4_has_16 hm hf
    · rw [if_neg c1] at hf
      show V 12 [some (.ref k0), some (.int x1)] [] σ
      refine h.run (o := []) (ls' := [some (.ref k0), some (.int x1)]) (st' := [.int 1]) (σ' := σ) [(.iconst 1, 1, 1, 0, 0, 0), (.goto 4, 3, 0, 0, 0, 17)] (pc2 := 17) (by decide +kernel) rfl trivial ?_
      refine h.drop (ls' := [none, none]) trivial ?_
      exact wX4_has_17 hm hf
def fX4_read_30 (t0 : Int32) (σ : ST) : Option Int32 :=
  some t0
set_option maxHeartbeats 4000000 in
theorem wX4_read_30 {l : Launch} {V : Nat → List (Option Value) → List Value → ST → Prop} {r : Int32} {σ : ST} {t0 : Int32} (hm : BM l 4 cX4_read 4 (some .int) 1 23 (some (.int r)) σ V) (hf : fX4_read_30 t0 σ = some r) : V 30 [none, none, none, none] [.int t0] σ := by
  have h := hm.bd
  unfold fX4_read_30 at hf
  obtain rfl := Option.some.inj hf
  exact hm.iret (by decide +kernel)
def fX4_read_29 (σ : ST) : Option Int32 :=
  fX4_read_30 0 σ
set_option maxHeartbeats 4000000 in
theorem wX4_read_29 {l : Launch} {V : Nat → List (Option Value) → List Value → ST → Prop} {r : Int32} {σ : ST} (hm : BM l 4 cX4_read 4 (some .int) 1 23 (some (.int r)) σ V) (hf : fX4_read_29 σ = some r) : V 29 [none, none, none, none] [] σ := by
  have h := hm.bd
  unfold fX4_read_29 at hf
  refine h.run (o := []) (ls' := [none, none, none, none]) (st' := [.int 0]) (σ' := σ) [(.iconst 0, 1, 0, 0, 0, 0)] (pc2 := 30) (by decide +kernel) rfl trivial ?_
  exact wX4_read_30 hm hf
def fX4_read (k0 : Nat) (x1 : Int32) (x2 : Int32) (σ : ST) : Option Int32 :=
  bR (fX4_placeOf k0 x1 x2 σ) fun a1 =>
  if a1 < 0 then
    fX4_read_29 σ
  else
    if (Int32.ofNat (alen (k0 + 1))) ≤ a1 then
      fX4_read_29 σ
    else
      gd (inb a1 (alen (k0 + 1))) <|
      fX4_read_30 (σ.1 (k0 + 1) a1.toNatClampNeg) σ
set_option maxHeartbeats 4000000 in
theorem kmX4_read (l : Launch) {k0 : Nat} {x1 : Int32} {x2 : Int32} {σ : ST} {r : Int32} (hk0 : kd k0 = 4) (hf : fX4_read k0 x1 x2 σ = some r) : KM l yX4_read cX4_read 4 (some .int) 1 23 [.ref k0, .int x1, .int x2] σ (some (.int r)) σ := by
  refine KM.intro (ow := 4) (by decide +kernel) rfl (Nat.le_of_ble_eq_true rfl) (fun V hm => ?_)
  show V 0 [some (.ref k0), some (.int x1), some (.int x2), none] [] σ
  have h := hm.bd
  unfold fX4_read at hf
  refine h.run (o := []) (ls' := [some (.ref k0), some (.int x1), some (.int x2), none]) (st' := [.int x2, .int x1, .ref k0]) (σ' := σ) [(.aload_n 0, 1, 0, 0, 0, 0), (.iload_n 1, 1, 0, 0, 0, 0), (.iload_n 2, 1, 0, 0, 0, 0)] (pc2 := 3) (by decide +kernel) rfl trivial ?_
  obtain ⟨a1, e1, hf⟩ := bR_some hf
  refine h.callV (as := [.int x1, .int x2]) (rest := []) (by decide +kernel) lk4_29 cwX4_placeOf hk0 (kmX4_placeOf l hk0 e1) rfl (Nat.le_of_ble_eq_true rfl) (Nat.le_of_ble_eq_true rfl) (Nat.le_of_ble_eq_true rfl) ?_
  show V 6 [some (.ref k0), some (.int x1), some (.int x2), none] [.int a1] σ
  refine h.run (o := []) (ls' := [some (.ref k0), some (.int x1), some (.int x2), some (.int a1)]) (st' := [.int a1]) (σ' := σ) [(.istore_n 3, 1, 0, 0, 0, 0), (.iload_n 3, 1, 0, 0, 0, 0)] (pc2 := 8) (by decide +kernel) rfl trivial ?_
  refine h.if_lt (tgt := 29) (show decode cX4_read 8 = .ok (.ifCond .lt 21, 3) by decide +kernel) (by decide) (fun c4 => ?_) (fun c4 => ?_)
  · rw [if_pos c4] at hf
    refine h.drop (ls' := [none, none, none, none]) trivial ?_
    exact wX4_read_29 hm hf
  · rw [if_neg c4] at hf
    show V 11 [some (.ref k0), some (.int x1), some (.int x2), some (.int a1)] [] σ
    refine h.run (o := [kd k0 = 4, kd (k0 + 1) = 10]) (ls' := [some (.ref k0), some (.int x1), some (.int x2), some (.int a1)]) (st' := [.int (Int32.ofNat (alen (k0 + 1))), .int a1]) (σ' := σ) [(.iload_n 3, 1, 0, 0, 0, 0), (.aload_n 0, 1, 0, 0, 0, 0), (.getfield 25, 3, 0, 0, 4, 2), (.arraylength, 1, 0, 0, 10, 0)] (pc2 := 17) (by decide +kernel) rfl (And.intro hk0 (And.intro (kd_T hk0) trivial)) ?_
    refine h.icmp_ge (tgt := 29) (show decode cX4_read 17 = .ok (.if_icmp .ge 12, 3) by decide +kernel) (by decide) (fun c3 => ?_) (fun c3 => ?_)
    · rw [if_pos c3] at hf
      refine h.drop (ls' := [none, none, none, none]) trivial ?_
      exact wX4_read_29 hm hf
    · rw [if_neg c3] at hf
      show V 20 [some (.ref k0), some (.int x1), some (.int x2), some (.int a1)] [] σ
      obtain ⟨g2, hf⟩ := gd_some hf
      refine h.run (o := [kd k0 = 4, kd (k0 + 1) = 10, inb a1 (alen (k0 + 1)) = true]) (ls' := [some (.ref k0), some (.int x1), some (.int x2), some (.int a1)]) (st' := [.int (σ.1 (k0 + 1) a1.toNatClampNeg)]) (σ' := σ) [(.aload_n 0, 1, 0, 0, 0, 0), (.getfield 25, 3, 0, 0, 4, 2), (.iload_n 3, 1, 0, 0, 0, 0), (.iaload, 1, 0, 0, 0, 0), (.goto 4, 3, 0, 0, 0, 30)] (pc2 := 30) (by decide +kernel) rfl (And.intro hk0 (And.intro (kd_T hk0) (And.intro g2 trivial))) ?_
      refine h.drop (ls' := [none, none, none, none]) trivial ?_
      exact wX4_read_30 hm hf
def fX4_sum_4 (σ : ST) (n : Nat) (k0 : Nat) (x1 : Int32) (x2 : Int32) (x3 : Int32) : Option Int32 := match n with
  | 0 => none
  | n + 1 =>
    if (σ.1 k0 3) ≤ x3 then
      some x2
    else
      bR (fX4_read k0 x3 x1 σ) fun a1 =>
      fX4_sum_4 σ n k0 x1 (x2 + a1) (x3 + 1)
set_option maxHeartbeats 4000000 in
theorem wX4_sum_4 {l : Launch} {V : Nat → List (Option Value) → List Value → ST → Prop} {r : Int32} {σ : ST} (hm : BM l 4 cX4_sum 4 (some .int) 2 46 (some (.int r)) σ V) : ∀ (n : Nat) (k0 : Nat) (x1 : Int32) (x2 : Int32) (x3 : Int32) (hk0 : kd k0 = 4), fX4_sum_4 σ n k0 x1 x2 x3 = some r → V 4 [some (.ref k0), some (.int x1), some (.int x2), some (.int x3)] [] σ := by
  have h := hm.bd
  intro n
  induction n with
  | zero => intro k0 x1 x2 x3 hk0 hf; cases hf
  | succ n ih =>
    intro k0 x1 x2 x3 hk0 hf
    rw [fX4_sum_4] at hf
    refine h.run (o := [kd k0 = 4]) (ls' := [some (.ref k0), some (.int x1), some (.int x2), some (.int x3)]) (st' := [.int (σ.1 k0 3), .int x3]) (σ' := σ) [(.iload_n 3, 1, 0, 0, 0, 0), (.aload_n 0, 1, 0, 0, 0, 0), (.getfield 7, 3, 0, 0, 4, 3)] (pc2 := 9) (by decide +kernel) rfl (And.intro hk0 trivial) ?_
    refine h.icmp_ge (tgt := 27) (show decode cX4_sum 9 = .ok (.if_icmp .ge 18, 3) by decide +kernel) (by decide) (fun c2 => ?_) (fun c2 => ?_)
    · rw [if_pos c2] at hf
      refine h.run (o := []) (ls' := [some (.ref k0), some (.int x1), some (.int x2), some (.int x3)]) (st' := [.int x2]) (σ' := σ) [(.iload_n 2, 1, 0, 0, 0, 0)] (pc2 := 28) (by decide +kernel) rfl trivial ?_
      obtain rfl := Option.some.inj hf
      exact hm.iret (by decide +kernel)
    · rw [if_neg c2] at hf
      show V 12 [some (.ref k0), some (.int x1), some (.int x2), some (.int x3)] [] σ
      refine h.run (o := []) (ls' := [some (.ref k0), some (.int x1), some (.int x2), some (.int x3)]) (st' := [.int x1, .int x3, .ref k0, .int x2]) (σ' := σ) [(.iload_n 2, 1, 0, 0, 0, 0), (.aload_n 0, 1, 0, 0, 0, 0), (.iload_n 3, 1, 0, 0, 0, 0), (.iload_n 1, 1, 0, 0, 0, 0)] (pc2 := 16) (by decide +kernel) rfl trivial ?_
      obtain ⟨a1, e1, hf⟩ := bR_some hf
      refine h.callV (as := [.int x3, .int x1]) (rest := [.int x2]) (by decide +kernel) lk4_36 cwX4_read hk0 (kmX4_read l hk0 e1) rfl (Nat.le_of_ble_eq_true rfl) (Nat.le_of_ble_eq_true rfl) (Nat.le_of_ble_eq_true rfl) ?_
      show V 19 [some (.ref k0), some (.int x1), some (.int x2), some (.int x3)] [.int a1, .int x2] σ
      refine h.run (o := []) (ls' := [some (.ref k0), some (.int x1), some (.int (x2 + a1)), some (.int (x3 + 1))]) (st' := []) (σ' := σ) [(.iadd, 1, 0, 0, 0, 0), (.istore_n 2, 1, 0, 0, 0, 0), (.iinc 3 1, 3, 1, 0, 0, 0), (.goto (-20), 3, 0, 0, 0, 4)] (pc2 := 4) (by decide +kernel) rfl trivial ?_
      exact ih k0 x1 (x2 + a1) (x3 + 1) hk0 hf
def fX4_sum (k0 : Nat) (x1 : Int32) (σ : ST) : Option Int32 :=
  fX4_sum_4 σ FU k0 x1 0 0
set_option maxHeartbeats 4000000 in
theorem kmX4_sum (l : Launch) {k0 : Nat} {x1 : Int32} {σ : ST} {r : Int32} (hk0 : kd k0 = 4) (hf : fX4_sum k0 x1 σ = some r) : KM l yX4_sum cX4_sum 4 (some .int) 2 46 [.ref k0, .int x1] σ (some (.int r)) σ := by
  refine KM.intro (ow := 4) (by decide +kernel) rfl (Nat.le_of_ble_eq_true rfl) (fun V hm => ?_)
  show V 0 [some (.ref k0), some (.int x1), none, none] [] σ
  have h := hm.bd
  unfold fX4_sum at hf
  refine h.run (o := []) (ls' := [some (.ref k0), some (.int x1), some (.int 0), some (.int 0)]) (st' := []) (σ' := σ) [(.iconst 0, 1, 0, 0, 0, 0), (.istore_n 2, 1, 0, 0, 0, 0), (.iconst 0, 1, 0, 0, 0, 0), (.istore_n 3, 1, 0, 0, 0, 0)] (pc2 := 4) (by decide +kernel) rfl trivial ?_
  exact wX4_sum_4 hm FU k0 x1 0 0 hk0 hf
def fX4_sumWhere_38 (kt_6 : Nat → Int32 → Int32 → Int32 → Int32 → Int32 → Option Int32) (k0 : Nat) (x1 : Int32) (x2 : Int32) (x3 : Int32) (x4 : Int32) (x5 : Int32) (σ : ST) : Option Int32 :=
  kt_6 k0 x1 x2 x3 x4 (x5 + 1)
set_option maxHeartbeats 4000000 in
theorem wX4_sumWhere_38 {l : Launch} {V : Nat → List (Option Value) → List Value → ST → Prop} {r : Int32} {σ : ST} {k0 : Nat} {x1 : Int32} {x2 : Int32} {x3 : Int32} {x4 : Int32} {x5 : Int32} {kt_6 : Nat → Int32 → Int32 → Int32 → Int32 → Int32 → Option Int32} (hm : BM l 4 cX4_sumWhere 6 (some .int) 2 46 (some (.int r)) σ V) (hkt_6 : ∀ (k0 : Nat) (x1 : Int32) (x2 : Int32) (x3 : Int32) (x4 : Int32) (x5 : Int32), kd k0 = 4 → kt_6 k0 x1 x2 x3 x4 x5 = some r → V 6 [some (.ref k0), some (.int x1), some (.int x2), some (.int x3), some (.int x4), some (.int x5)] [] σ) (hk0 : kd k0 = 4) (hf : fX4_sumWhere_38 kt_6 k0 x1 x2 x3 x4 x5 σ = some r) : V 38 [some (.ref k0), some (.int x1), some (.int x2), some (.int x3), some (.int x4), some (.int x5)] [] σ := by
  have h := hm.bd
  unfold fX4_sumWhere_38 at hf
  refine h.run (o := []) (ls' := [some (.ref k0), some (.int x1), some (.int x2), some (.int x3), some (.int x4), some (.int (x5 + 1))]) (st' := []) (σ' := σ) [(.iinc 5 1, 3, 1, 0, 0, 0), (.goto (-35), 3, 0, 0, 0, 6)] (pc2 := 6) (by decide +kernel) rfl trivial ?_
  exact hkt_6 k0 x1 x2 x3 x4 (x5 + 1) hk0 hf
def fX4_sumWhere_6 (σ : ST) (n : Nat) (k0 : Nat) (x1 : Int32) (x2 : Int32) (x3 : Int32) (x4 : Int32) (x5 : Int32) : Option Int32 := match n with
  | 0 => none
  | n + 1 =>
    if (σ.1 k0 3) ≤ x5 then
      some x4
    else
      bR (fX4_read k0 x5 x1 σ) fun a1 =>
      if a1 = x2 then
        bR (fX4_read k0 x5 x3 σ) fun a2 =>
        fX4_sumWhere_38 (fX4_sumWhere_6 σ n) k0 x1 x2 x3 (x4 + a2) x5 σ
      else
        fX4_sumWhere_38 (fX4_sumWhere_6 σ n) k0 x1 x2 x3 x4 x5 σ
set_option maxHeartbeats 4000000 in
theorem wX4_sumWhere_6 {l : Launch} {V : Nat → List (Option Value) → List Value → ST → Prop} {r : Int32} {σ : ST} (hm : BM l 4 cX4_sumWhere 6 (some .int) 2 46 (some (.int r)) σ V) : ∀ (n : Nat) (k0 : Nat) (x1 : Int32) (x2 : Int32) (x3 : Int32) (x4 : Int32) (x5 : Int32) (hk0 : kd k0 = 4), fX4_sumWhere_6 σ n k0 x1 x2 x3 x4 x5 = some r → V 6 [some (.ref k0), some (.int x1), some (.int x2), some (.int x3), some (.int x4), some (.int x5)] [] σ := by
  have h := hm.bd
  intro n
  induction n with
  | zero => intro k0 x1 x2 x3 x4 x5 hk0 hf; cases hf
  | succ n ih =>
    intro k0 x1 x2 x3 x4 x5 hk0 hf
    rw [fX4_sumWhere_6] at hf
    refine h.run (o := [kd k0 = 4]) (ls' := [some (.ref k0), some (.int x1), some (.int x2), some (.int x3), some (.int x4), some (.int x5)]) (st' := [.int (σ.1 k0 3), .int x5]) (σ' := σ) [(.iload 5, 2, 0, 0, 0, 0), (.aload_n 0, 1, 0, 0, 0, 0), (.getfield 7, 3, 0, 0, 4, 3)] (pc2 := 12) (by decide +kernel) rfl (And.intro hk0 trivial) ?_
    refine h.icmp_ge (tgt := 44) (show decode cX4_sumWhere 12 = .ok (.if_icmp .ge 32, 3) by decide +kernel) (by decide) (fun c4 => ?_) (fun c4 => ?_)
    · rw [if_pos c4] at hf
      refine h.run (o := []) (ls' := [some (.ref k0), some (.int x1), some (.int x2), some (.int x3), some (.int x4), some (.int x5)]) (st' := [.int x4]) (σ' := σ) [(.iload 4, 2, 0, 0, 0, 0)] (pc2 := 46) (by decide +kernel) rfl trivial ?_
      obtain rfl := Option.some.inj hf
      exact hm.iret (by decide +kernel)
    · rw [if_neg c4] at hf
      show V 15 [some (.ref k0), some (.int x1), some (.int x2), some (.int x3), some (.int x4), some (.int x5)] [] σ
      refine h.run (o := []) (ls' := [some (.ref k0), some (.int x1), some (.int x2), some (.int x3), some (.int x4), some (.int x5)]) (st' := [.int x1, .int x5, .ref k0]) (σ' := σ) [(.aload_n 0, 1, 0, 0, 0, 0), (.iload 5, 2, 0, 0, 0, 0), (.iload_n 1, 1, 0, 0, 0, 0)] (pc2 := 19) (by decide +kernel) rfl trivial ?_
      obtain ⟨a1, e1, hf⟩ := bR_some hf
      refine h.callV (as := [.int x5, .int x1]) (rest := []) (by decide +kernel) lk4_36 cwX4_read hk0 (kmX4_read l hk0 e1) rfl (Nat.le_of_ble_eq_true rfl) (Nat.le_of_ble_eq_true rfl) (Nat.le_of_ble_eq_true rfl) ?_
      show V 22 [some (.ref k0), some (.int x1), some (.int x2), some (.int x3), some (.int x4), some (.int x5)] [.int a1] σ
      refine h.run (o := []) (ls' := [some (.ref k0), some (.int x1), some (.int x2), some (.int x3), some (.int x4), some (.int x5)]) (st' := [.int x2, .int a1]) (σ' := σ) [(.iload_n 2, 1, 0, 0, 0, 0)] (pc2 := 23) (by decide +kernel) rfl trivial ?_
      refine h.icmp_ne (tgt := 38) (show decode cX4_sumWhere 23 = .ok (.if_icmp .ne 15, 3) by decide +kernel) (by decide) (fun c3 => ?_) (fun c3 => ?_)
      · rw [if_neg c3] at hf
        exact wX4_sumWhere_38 hm ih hk0 hf
      · rw [if_pos c3] at hf
        show V 26 [some (.ref k0), some (.int x1), some (.int x2), some (.int x3), some (.int x4), some (.int x5)] [] σ
        refine h.run (o := []) (ls' := [some (.ref k0), some (.int x1), some (.int x2), some (.int x3), some (.int x4), some (.int x5)]) (st' := [.int x3, .int x5, .ref k0, .int x4]) (σ' := σ) [(.iload 4, 2, 0, 0, 0, 0), (.aload_n 0, 1, 0, 0, 0, 0), (.iload 5, 2, 0, 0, 0, 0), (.iload_n 3, 1, 0, 0, 0, 0)] (pc2 := 32) (by decide +kernel) rfl trivial ?_
        obtain ⟨a2, e2, hf⟩ := bR_some hf
        refine h.callV (as := [.int x5, .int x3]) (rest := [.int x4]) (by decide +kernel) lk4_36 cwX4_read hk0 (kmX4_read l hk0 e2) rfl (Nat.le_of_ble_eq_true rfl) (Nat.le_of_ble_eq_true rfl) (Nat.le_of_ble_eq_true rfl) ?_
        show V 35 [some (.ref k0), some (.int x1), some (.int x2), some (.int x3), some (.int x4), some (.int x5)] [.int a2, .int x4] σ
        refine h.run (o := []) (ls' := [some (.ref k0), some (.int x1), some (.int x2), some (.int x3), some (.int (x4 + a2)), some (.int x5)]) (st' := []) (σ' := σ) [(.iadd, 1, 0, 0, 0, 0), (.istore 4, 2, 0, 0, 0, 0)] (pc2 := 38) (by decide +kernel) rfl trivial ?_
        exact wX4_sumWhere_38 hm ih hk0 hf
def fX4_sumWhere (k0 : Nat) (x1 : Int32) (x2 : Int32) (x3 : Int32) (σ : ST) : Option Int32 :=
  fX4_sumWhere_6 σ FU k0 x1 x2 x3 0 0
set_option maxHeartbeats 4000000 in
theorem kmX4_sumWhere (l : Launch) {k0 : Nat} {x1 : Int32} {x2 : Int32} {x3 : Int32} {σ : ST} {r : Int32} (hk0 : kd k0 = 4) (hf : fX4_sumWhere k0 x1 x2 x3 σ = some r) : KM l yX4_sumWhere cX4_sumWhere 6 (some .int) 2 46 [.ref k0, .int x1, .int x2, .int x3] σ (some (.int r)) σ := by
  refine KM.intro (ow := 4) (by decide +kernel) rfl (Nat.le_of_ble_eq_true rfl) (fun V hm => ?_)
  show V 0 [some (.ref k0), some (.int x1), some (.int x2), some (.int x3), none, none] [] σ
  have h := hm.bd
  unfold fX4_sumWhere at hf
  refine h.run (o := []) (ls' := [some (.ref k0), some (.int x1), some (.int x2), some (.int x3), some (.int 0), some (.int 0)]) (st' := []) (σ' := σ) [(.iconst 0, 1, 0, 0, 0, 0), (.istore 4, 2, 0, 0, 0, 0), (.iconst 0, 1, 0, 0, 0, 0), (.istore 5, 2, 0, 0, 0, 0)] (pc2 := 6) (by decide +kernel) rfl trivial ?_
  exact wX4_sumWhere_6 hm FU k0 x1 x2 x3 0 0 hk0 hf
def fX4_rowsWhere_28 (kt_5 : Nat → Int32 → Int32 → Int32 → Int32 → Option Int32) (k0 : Nat) (x1 : Int32) (x2 : Int32) (x3 : Int32) (x4 : Int32) (σ : ST) : Option Int32 :=
  kt_5 k0 x1 x2 x3 (x4 + 1)
set_option maxHeartbeats 4000000 in
theorem wX4_rowsWhere_28 {l : Launch} {V : Nat → List (Option Value) → List Value → ST → Prop} {r : Int32} {σ : ST} {k0 : Nat} {x1 : Int32} {x2 : Int32} {x3 : Int32} {x4 : Int32} {kt_5 : Nat → Int32 → Int32 → Int32 → Int32 → Option Int32} (hm : BM l 4 cX4_rowsWhere 5 (some .int) 2 46 (some (.int r)) σ V) (hkt_5 : ∀ (k0 : Nat) (x1 : Int32) (x2 : Int32) (x3 : Int32) (x4 : Int32), kd k0 = 4 → kt_5 k0 x1 x2 x3 x4 = some r → V 5 [some (.ref k0), some (.int x1), some (.int x2), some (.int x3), some (.int x4)] [] σ) (hk0 : kd k0 = 4) (hf : fX4_rowsWhere_28 kt_5 k0 x1 x2 x3 x4 σ = some r) : V 28 [some (.ref k0), some (.int x1), some (.int x2), some (.int x3), some (.int x4)] [] σ := by
  have h := hm.bd
  unfold fX4_rowsWhere_28 at hf
  refine h.run (o := []) (ls' := [some (.ref k0), some (.int x1), some (.int x2), some (.int x3), some (.int (x4 + 1))]) (st' := []) (σ' := σ) [(.iinc 4 1, 3, 1, 0, 0, 0), (.goto (-26), 3, 0, 0, 0, 5)] (pc2 := 5) (by decide +kernel) rfl trivial ?_
  exact hkt_5 k0 x1 x2 x3 (x4 + 1) hk0 hf
def fX4_rowsWhere_5 (σ : ST) (n : Nat) (k0 : Nat) (x1 : Int32) (x2 : Int32) (x3 : Int32) (x4 : Int32) : Option Int32 := match n with
  | 0 => none
  | n + 1 =>
    if (σ.1 k0 3) ≤ x4 then
      some x3
    else
      bR (fX4_read k0 x4 x1 σ) fun a1 =>
      if a1 = x2 then
        fX4_rowsWhere_28 (fX4_rowsWhere_5 σ n) k0 x1 x2 (x3 + 1) x4 σ
      else
        fX4_rowsWhere_28 (fX4_rowsWhere_5 σ n) k0 x1 x2 x3 x4 σ
set_option maxHeartbeats 4000000 in
theorem wX4_rowsWhere_5 {l : Launch} {V : Nat → List (Option Value) → List Value → ST → Prop} {r : Int32} {σ : ST} (hm : BM l 4 cX4_rowsWhere 5 (some .int) 2 46 (some (.int r)) σ V) : ∀ (n : Nat) (k0 : Nat) (x1 : Int32) (x2 : Int32) (x3 : Int32) (x4 : Int32) (hk0 : kd k0 = 4), fX4_rowsWhere_5 σ n k0 x1 x2 x3 x4 = some r → V 5 [some (.ref k0), some (.int x1), some (.int x2), some (.int x3), some (.int x4)] [] σ := by
  have h := hm.bd
  intro n
  induction n with
  | zero => intro k0 x1 x2 x3 x4 hk0 hf; cases hf
  | succ n ih =>
    intro k0 x1 x2 x3 x4 hk0 hf
    rw [fX4_rowsWhere_5] at hf
    refine h.run (o := [kd k0 = 4]) (ls' := [some (.ref k0), some (.int x1), some (.int x2), some (.int x3), some (.int x4)]) (st' := [.int (σ.1 k0 3), .int x4]) (σ' := σ) [(.iload 4, 2, 0, 0, 0, 0), (.aload_n 0, 1, 0, 0, 0, 0), (.getfield 7, 3, 0, 0, 4, 3)] (pc2 := 11) (by decide +kernel) rfl (And.intro hk0 trivial) ?_
    refine h.icmp_ge (tgt := 34) (show decode cX4_rowsWhere 11 = .ok (.if_icmp .ge 23, 3) by decide +kernel) (by decide) (fun c3 => ?_) (fun c3 => ?_)
    · rw [if_pos c3] at hf
      refine h.run (o := []) (ls' := [some (.ref k0), some (.int x1), some (.int x2), some (.int x3), some (.int x4)]) (st' := [.int x3]) (σ' := σ) [(.iload_n 3, 1, 0, 0, 0, 0)] (pc2 := 35) (by decide +kernel) rfl trivial ?_
      obtain rfl := Option.some.inj hf
      exact hm.iret (by decide +kernel)
    · rw [if_neg c3] at hf
      show V 14 [some (.ref k0), some (.int x1), some (.int x2), some (.int x3), some (.int x4)] [] σ
      refine h.run (o := []) (ls' := [some (.ref k0), some (.int x1), some (.int x2), some (.int x3), some (.int x4)]) (st' := [.int x1, .int x4, .ref k0]) (σ' := σ) [(.aload_n 0, 1, 0, 0, 0, 0), (.iload 4, 2, 0, 0, 0, 0), (.iload_n 1, 1, 0, 0, 0, 0)] (pc2 := 18) (by decide +kernel) rfl trivial ?_
      obtain ⟨a1, e1, hf⟩ := bR_some hf
      refine h.callV (as := [.int x4, .int x1]) (rest := []) (by decide +kernel) lk4_36 cwX4_read hk0 (kmX4_read l hk0 e1) rfl (Nat.le_of_ble_eq_true rfl) (Nat.le_of_ble_eq_true rfl) (Nat.le_of_ble_eq_true rfl) ?_
      show V 21 [some (.ref k0), some (.int x1), some (.int x2), some (.int x3), some (.int x4)] [.int a1] σ
      refine h.run (o := []) (ls' := [some (.ref k0), some (.int x1), some (.int x2), some (.int x3), some (.int x4)]) (st' := [.int x2, .int a1]) (σ' := σ) [(.iload_n 2, 1, 0, 0, 0, 0)] (pc2 := 22) (by decide +kernel) rfl trivial ?_
      refine h.icmp_ne (tgt := 28) (show decode cX4_rowsWhere 22 = .ok (.if_icmp .ne 6, 3) by decide +kernel) (by decide) (fun c2 => ?_) (fun c2 => ?_)
      · rw [if_neg c2] at hf
        exact wX4_rowsWhere_28 hm ih hk0 hf
      · rw [if_pos c2] at hf
        show V 25 [some (.ref k0), some (.int x1), some (.int x2), some (.int x3), some (.int x4)] [] σ
        refine h.run (o := []) (ls' := [some (.ref k0), some (.int x1), some (.int x2), some (.int (x3 + 1)), some (.int x4)]) (st' := []) (σ' := σ) [(.iinc 3 1, 3, 1, 0, 0, 0)] (pc2 := 28) (by decide +kernel) rfl trivial ?_
        exact wX4_rowsWhere_28 hm ih hk0 hf
def fX4_rowsWhere (k0 : Nat) (x1 : Int32) (x2 : Int32) (σ : ST) : Option Int32 :=
  fX4_rowsWhere_5 σ FU k0 x1 x2 0 0
set_option maxHeartbeats 4000000 in
theorem kmX4_rowsWhere (l : Launch) {k0 : Nat} {x1 : Int32} {x2 : Int32} {σ : ST} {r : Int32} (hk0 : kd k0 = 4) (hf : fX4_rowsWhere k0 x1 x2 σ = some r) : KM l yX4_rowsWhere cX4_rowsWhere 5 (some .int) 2 46 [.ref k0, .int x1, .int x2] σ (some (.int r)) σ := by
  refine KM.intro (ow := 4) (by decide +kernel) rfl (Nat.le_of_ble_eq_true rfl) (fun V hm => ?_)
  show V 0 [some (.ref k0), some (.int x1), some (.int x2), none, none] [] σ
  have h := hm.bd
  unfold fX4_rowsWhere at hf
  refine h.run (o := []) (ls' := [some (.ref k0), some (.int x1), some (.int x2), some (.int 0), some (.int 0)]) (st' := []) (σ' := σ) [(.iconst 0, 1, 0, 0, 0, 0), (.istore_n 3, 1, 0, 0, 0, 0), (.iconst 0, 1, 0, 0, 0, 0), (.istore 4, 2, 0, 0, 0, 0)] (pc2 := 5) (by decide +kernel) rfl trivial ?_
  exact wX4_rowsWhere_5 hm FU k0 x1 x2 0 0 hk0 hf
