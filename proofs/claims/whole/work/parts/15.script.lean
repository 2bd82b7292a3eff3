/-! Printed by wip/whole/prt.py: functions and walks. -/
def fX2_digitOf_20 (t0 : Int32) (σ : ST) : Option Int32 :=
  some t0
set_option maxHeartbeats 4000000 in
theorem wX2_digitOf_20 {l : Launch} {V : Nat → List (Option Value) → List Value → ST → Prop} {r : Int32} {σ : ST} {t0 : Int32} (hm : BM l 2 cX2_digitOf 1 (some .int) 0 0 (some (.int r)) σ V) (hf : fX2_digitOf_20 t0 σ = some r) : V 20 [none] [.int t0] σ := by
  have h := hm.bd
  unfold fX2_digitOf_20 at hf
  obtain rfl := Option.some.inj hf
  exact hm.iret (by decide +kernel)
def fX2_digitOf_19 (σ : ST) : Option Int32 :=
  fX2_digitOf_20 (-1) σ
set_option maxHeartbeats 4000000 in
theorem wX2_digitOf_19 {l : Launch} {V : Nat → List (Option Value) → List Value → ST → Prop} {r : Int32} {σ : ST} (hm : BM l 2 cX2_digitOf 1 (some .int) 0 0 (some (.int r)) σ V) (hf : fX2_digitOf_19 σ = some r) : V 19 [none] [] σ := by
  have h := hm.bd
  unfold fX2_digitOf_19 at hf
  refine h.run (o := []) (ls' := [none]) (st' := [.int (-1)]) (σ' := σ) [(.iconst (-1), 1, (-1), 0, 0, 0)] (pc2 := 20) (by decide +kernel) rfl trivial ?_
  exact wX2_digitOf_20 hm hf
def fX2_digitOf (x0 : Int32) (σ : ST) : Option Int32 :=
  if x0 < 48 then
    fX2_digitOf_19 σ
  else
    if 57 < x0 then
      fX2_digitOf_19 σ
    else
      fX2_digitOf_20 (x0 - 48) σ
set_option maxHeartbeats 4000000 in
theorem kmX2_digitOf (l : Launch) {x0 : Int32} {σ : ST} {r : Int32} (hf : fX2_digitOf x0 σ = some r) : KM l yX2_digitOf cX2_digitOf 1 (some .int) 0 0 [.int x0] σ (some (.int r)) σ := by
  refine KM.intro (ow := 2) (by decide +kernel) rfl (Nat.le_of_ble_eq_true rfl) (fun V hm => ?_)
  show V 0 [some (.int x0)] [] σ
  have h := hm.bd
  unfold fX2_digitOf at hf
  refine h.run (o := []) (ls' := [some (.int x0)]) (st' := [.int 48, .int x0]) (σ' := σ) [(.iload_n 0, 1, 0, 0, 0, 0), (.bipush 48, 2, 48, 0, 0, 0)] (pc2 := 3) (by decide +kernel) rfl trivial ?_
  refine h.icmp_lt (tgt := 19) (show decode cX2_digitOf 3 = .ok (.if_icmp .lt 16, 3) by decide +kernel) (by decide) (fun c2 => ?_) (fun c2 => ?_)
  · rw [if_pos c2] at hf
    refine h.drop (ls' := [none]) trivial ?_
    exact wX2_digitOf_19 hm hf
  · rw [if_neg c2] at hf
    show V 6 [some (.int x0)] [] σ
    refine h.run (o := []) (ls' := [some (.int x0)]) (st' := [.int 57, .int x0]) (σ' := σ) [(.iload_n 0, 1, 0, 0, 0, 0), (.bipush 57, 2, 57, 0, 0, 0)] (pc2 := 9) (by decide +kernel) rfl trivial ?_
    refine h.icmp_gt (tgt := 19) (show decode cX2_digitOf 9 = .ok (.if_icmp .gt 10, 3) by decide +kernel) (by decide) (fun c1 => ?_) (fun c1 => ?_)
    · rw [if_pos c1] at hf
      refine h.drop (ls' := [none]) trivial ?_
      exact wX2_digitOf_19 hm hf
    · rw [if_neg c1] at hf
      show V 12 [some (.int x0)] [] σ
      refine h.run (o := []) (ls' := [some (.int x0)]) (st' := [.int (x0 - 48)]) (σ' := σ) [(.iload_n 0, 1, 0, 0, 0, 0), (.bipush 48, 2, 48, 0, 0, 0), (.isub, 1, 0, 0, 0, 0), (.goto 4, 3, 0, 0, 0, 20)] (pc2 := 20) (by decide +kernel) rfl trivial ?_
      refine h.drop (ls' := [none]) trivial ?_
      exact wX2_digitOf_20 hm hf
def fX2_takesNumber_92 (t0 : Int32) (σ : ST) : Option (Int32 × ST) :=
  gd (isb t0) <|
  some (t0, σ)
set_option maxHeartbeats 4000000 in
theorem wX2_takesNumber_92 {l : Launch} {V : Nat → List (Option Value) → List Value → ST → Prop} {r : Int32} {τ : ST} {σ : ST} {t0 : Int32} (hm : BM l 2 cX2_takesNumber 6 (some .boolean) 2 47 (some (.int r)) τ V) (hf : fX2_takesNumber_92 t0 σ = some (r, τ)) : V 92 [none, none, none, none, none, none] [.int t0] σ := by
  have h := hm.bd
  unfold fX2_takesNumber_92 at hf
  obtain ⟨g1, hf⟩ := gd_some hf
  obtain ⟨rfl, rfl⟩ := Prod.mk.inj (Option.some.inj hf)
  exact hm.zret (by decide +kernel) g1
def fX2_takesNumber_71 (x2 : Int32) (x3 : Int32) (x4 : Int32) (x5 : Int32) (σ : ST) : Option (Int32 × ST) :=
  bR (fX4_write 18 x2 x3 x4 σ) fun σ1 =>
  if x5 ≤ 0 then
    fX2_takesNumber_92 0 σ1
  else
    fX2_takesNumber_92 1 σ1
set_option maxHeartbeats 4000000 in
theorem wX2_takesNumber_71 {l : Launch} {V : Nat → List (Option Value) → List Value → ST → Prop} {r : Int32} {τ : ST} {σ : ST} {x2 : Int32} {x3 : Int32} {x4 : Int32} {x5 : Int32} (hm : BM l 2 cX2_takesNumber 6 (some .boolean) 2 47 (some (.int r)) τ V) (hf : fX2_takesNumber_71 x2 x3 x4 x5 σ = some (r, τ)) : V 71 [some (.ref 4), none, some (.int x2), some (.int x3), some (.int x4), some (.int x5)] [] σ := by
  have h := hm.bd
  unfold fX2_takesNumber_71 at hf
  refine h.run (o := [kd 4 = 2]) (ls' := [some (.ref 4), none, some (.int x2), some (.int x3), some (.int x4), some (.int x5)]) (st' := [.int x4, .int x3, .int x2, .ref 18]) (σ' := σ) [(.aload_n 0, 1, 0, 0, 0, 0), (.getfield 14, 3, 0, 0, 2, 0), (.iload_n 2, 1, 0, 0, 0, 0), (.iload_n 3, 1, 0, 0, 0, 0), (.iload 4, 2, 0, 0, 0, 0)] (pc2 := 79) (by decide +kernel) rfl (And.intro kd_4 trivial) ?_
  obtain ⟨σ1, e1, hf⟩ := bR_some hf
  refine h.callV (as := [.int x2, .int x3, .int x4]) (rest := []) (by decide +kernel) lk2_42 cwX4_write kd_18 (kmX4_write l kd_18 e1) rfl (Nat.le_of_ble_eq_true rfl) (Nat.le_of_ble_eq_true rfl) (Nat.le_of_ble_eq_true rfl) ?_
  show V 82 [some (.ref 4), none, some (.int x2), some (.int x3), some (.int x4), some (.int x5)] [] σ1
  refine h.run (o := []) (ls' := [some (.ref 4), none, some (.int x2), some (.int x3), some (.int x4), some (.int x5)]) (st' := [.int x5]) (σ' := σ1) [(.iload 5, 2, 0, 0, 0, 0)] (pc2 := 84) (by decide +kernel) rfl trivial ?_
  refine h.if_le (tgt := 91) (show decode cX2_takesNumber 84 = .ok (.ifCond .le 7, 3) by decide +kernel) (by decide) (fun c2 => ?_) (fun c2 => ?_)
  · rw [if_pos c2] at hf
    refine h.run (o := []) (ls' := [some (.ref 4), none, some (.int x2), some (.int x3), some (.int x4), some (.int x5)]) (st' := [.int 0]) (σ' := σ1) [(.iconst 0, 1, 0, 0, 0, 0)] (pc2 := 92) (by decide +kernel) rfl trivial ?_
    refine h.drop (ls' := [none, none, none, none, none, none]) trivial ?_
    exact wX2_takesNumber_92 hm hf
  · rw [if_neg c2] at hf
    show V 87 [some (.ref 4), none, some (.int x2), some (.int x3), some (.int x4), some (.int x5)] [] σ1
    refine h.run (o := []) (ls' := [some (.ref 4), none, some (.int x2), some (.int x3), some (.int x4), some (.int x5)]) (st' := [.int 1]) (σ' := σ1) [(.iconst 1, 1, 1, 0, 0, 0), (.goto 4, 3, 0, 0, 0, 92)] (pc2 := 92) (by decide +kernel) rfl trivial ?_
    refine h.drop (ls' := [none, none, none, none, none, none]) trivial ?_
    exact wX2_takesNumber_92 hm hf
def fX2_takesNumber_36 (kt_6 : Nat → Int32 → Int32 → Int32 → Int32 → ST → Option (Int32 × ST)) (k1 : Nat) (x2 : Int32) (x3 : Int32) (x4 : Int32) (x5 : Int32) (σ : ST) : Option (Int32 × ST) :=
  bR (fX3_read k1 (σ.1 4 1) σ) fun a1 =>
  bR (fX2_digitOf a1 σ) fun a2 =>
  kt_6 k1 x2 x3 ((10 * x4) + a2) (x5 + 1) (setI σ 4 1 ((σ.1 4 1) + 1))
set_option maxHeartbeats 4000000 in
theorem wX2_takesNumber_36 {l : Launch} {V : Nat → List (Option Value) → List Value → ST → Prop} {r : Int32} {τ : ST} {σ : ST} {k1 : Nat} {x2 : Int32} {x3 : Int32} {x4 : Int32} {x5 : Int32} {kt_6 : Nat → Int32 → Int32 → Int32 → Int32 → ST → Option (Int32 × ST)} (hm : BM l 2 cX2_takesNumber 6 (some .boolean) 2 47 (some (.int r)) τ V) (hkt_6 : ∀ (k1 : Nat) (x2 : Int32) (x3 : Int32) (x4 : Int32) (x5 : Int32) (σ : ST), kd k1 = 3 → kt_6 k1 x2 x3 x4 x5 σ = some (r, τ) → V 6 [some (.ref 4), some (.ref k1), some (.int x2), some (.int x3), some (.int x4), some (.int x5)] [] σ) (hk1 : kd k1 = 3) (hf : fX2_takesNumber_36 kt_6 k1 x2 x3 x4 x5 σ = some (r, τ)) : V 36 [some (.ref 4), some (.ref k1), some (.int x2), some (.int x3), some (.int x4), some (.int x5)] [] σ := by
  have h := hm.bd
  unfold fX2_takesNumber_36 at hf
  refine h.run (o := [kd 4 = 2]) (ls' := [some (.ref 4), some (.ref k1), some (.int x2), some (.int x3), some (.int x4), some (.int x5)]) (st' := [.int (σ.1 4 1), .ref k1, .int (10 * x4)]) (σ' := σ) [(.bipush 10, 2, 10, 0, 0, 0), (.iload 4, 2, 0, 0, 0, 0), (.imul, 1, 0, 0, 0, 0), (.aload_n 1, 1, 0, 0, 0, 0), (.aload_n 0, 1, 0, 0, 0, 0), (.getfield 24, 3, 0, 0, 2, 1)] (pc2 := 46) (by decide +kernel) rfl (And.intro kd_4 trivial) ?_
  obtain ⟨a1, e1, hf⟩ := bR_some hf
  refine h.callV (as := [.int (σ.1 4 1)]) (rest := [.int (10 * x4)]) (by decide +kernel) lk2_34 cwX3_read hk1 (kmX3_read l hk1 e1) rfl (Nat.le_of_ble_eq_true rfl) (Nat.le_of_ble_eq_true rfl) (Nat.le_of_ble_eq_true rfl) ?_
  show V 49 [some (.ref 4), some (.ref k1), some (.int x2), some (.int x3), some (.int x4), some (.int x5)] [.int a1, .int (10 * x4)] σ
  obtain ⟨a2, e2, hf⟩ := bR_some hf
  refine h.callS (as := [.int a1]) (rest := [.int (10 * x4)]) (by decide +kernel) lk2_61 cwX2_digitOf (kmX2_digitOf l e2) rfl (Nat.le_of_ble_eq_true rfl) (Nat.le_of_ble_eq_true rfl) (Nat.le_of_ble_eq_true rfl) ?_
  show V 52 [some (.ref 4), some (.ref k1), some (.int x2), some (.int x3), some (.int x4), some (.int x5)] [.int a2, .int (10 * x4)] σ
  refine h.run (o := [kd 4 = 2, kd 4 = 2]) (ls' := [some (.ref 4), some (.ref k1), some (.int x2), some (.int x3), some (.int ((10 * x4) + a2)), some (.int (x5 + 1))]) (st' := []) (σ' := setI σ 4 1 ((σ.1 4 1) + 1)) [(.iadd, 1, 0, 0, 0, 0), (.istore 4, 2, 0, 0, 0, 0), (.iinc 5 1, 3, 1, 0, 0, 0), (.aload_n 0, 1, 0, 0, 0, 0), (.dup, 1, 0, 0, 0, 0), (.getfield 24, 3, 0, 0, 2, 1), (.iconst 1, 1, 1, 0, 0, 0), (.iadd, 1, 0, 0, 0, 0), (.putfield 24, 3, 0, 0, 2, 1), (.goto (-62), 3, 0, 0, 0, 6)] (pc2 := 6) (by decide +kernel) rfl (And.intro kd_4 (And.intro kd_4 trivial)) ?_
  exact hkt_6 k1 x2 x3 ((10 * x4) + a2) (x5 + 1) _ hk1 hf
def fX2_takesNumber_6 (n : Nat) (k1 : Nat) (x2 : Int32) (x3 : Int32) (x4 : Int32) (x5 : Int32) (σ : ST) : Option (Int32 × ST) := match n with
  | 0 => none
  | n + 1 =>
    if 3 ≤ x5 then
      fX2_takesNumber_71 x2 x3 x4 x5 σ
    else
      bR (fX3_read k1 (σ.1 4 1) σ) fun a1 =>
      bR (fX2_digitOf a1 σ) fun a2 =>
      if a2 < 0 then
        fX2_takesNumber_71 x2 x3 x4 x5 σ
      else
        if x5 = 0 then
          fX2_takesNumber_36 (fX2_takesNumber_6 n) k1 x2 x3 x4 x5 σ
        else
          if x4 ≤ 0 then
            fX2_takesNumber_71 x2 x3 x4 x5 σ
          else
            fX2_takesNumber_36 (fX2_takesNumber_6 n) k1 x2 x3 x4 x5 σ
set_option maxHeartbeats 4000000 in
theorem wX2_takesNumber_6 {l : Launch} {V : Nat → List (Option Value) → List Value → ST → Prop} {r : Int32} {τ : ST} (hm : BM l 2 cX2_takesNumber 6 (some .boolean) 2 47 (some (.int r)) τ V) : ∀ (n : Nat) (k1 : Nat) (x2 : Int32) (x3 : Int32) (x4 : Int32) (x5 : Int32) (σ : ST) (hk1 : kd k1 = 3), fX2_takesNumber_6 n k1 x2 x3 x4 x5 σ = some (r, τ) → V 6 [some (.ref 4), some (.ref k1), some (.int x2), some (.int x3), some (.int x4), some (.int x5)] [] σ := by
  have h := hm.bd
  intro n
  induction n with
  | zero => intro k1 x2 x3 x4 x5 σ hk1 hf; cases hf
  | succ n ih =>
    intro k1 x2 x3 x4 x5 σ hk1 hf
    rw [fX2_takesNumber_6] at hf
    refine h.run (o := []) (ls' := [some (.ref 4), some (.ref k1), some (.int x2), some (.int x3), some (.int x4), some (.int x5)]) (st' := [.int 3, .int x5]) (σ' := σ) [(.iload 5, 2, 0, 0, 0, 0), (.iconst 3, 1, 3, 0, 0, 0)] (pc2 := 9) (by decide +kernel) rfl trivial ?_
    refine h.icmp_ge (tgt := 71) (show decode cX2_takesNumber 9 = .ok (.if_icmp .ge 62, 3) by decide +kernel) (by decide) (fun c6 => ?_) (fun c6 => ?_)
    · rw [if_pos c6] at hf
      refine h.drop (ls' := [some (.ref 4), none, some (.int x2), some (.int x3), some (.int x4), some (.int x5)]) (And.intro rfl (And.intro rfl (And.intro rfl (And.intro rfl (And.intro rfl trivial))))) ?_
      exact wX2_takesNumber_71 hm hf
    · rw [if_neg c6] at hf
      show V 12 [some (.ref 4), some (.ref k1), some (.int x2), some (.int x3), some (.int x4), some (.int x5)] [] σ
      refine h.run (o := [kd 4 = 2]) (ls' := [some (.ref 4), some (.ref k1), some (.int x2), some (.int x3), some (.int x4), some (.int x5)]) (st' := [.int (σ.1 4 1), .ref k1]) (σ' := σ) [(.aload_n 1, 1, 0, 0, 0, 0), (.aload_n 0, 1, 0, 0, 0, 0), (.getfield 24, 3, 0, 0, 2, 1)] (pc2 := 17) (by decide +kernel) rfl (And.intro kd_4 trivial) ?_
      obtain ⟨a1, e1, hf⟩ := bR_some hf
      refine h.callV (as := [.int (σ.1 4 1)]) (rest := []) (by decide +kernel) lk2_34 cwX3_read hk1 (kmX3_read l hk1 e1) rfl (Nat.le_of_ble_eq_true rfl) (Nat.le_of_ble_eq_true rfl) (Nat.le_of_ble_eq_true rfl) ?_
      show V 20 [some (.ref 4), some (.ref k1), some (.int x2), some (.int x3), some (.int x4), some (.int x5)] [.int a1] σ
      obtain ⟨a2, e2, hf⟩ := bR_some hf
      refine h.callS (as := [.int a1]) (rest := []) (by decide +kernel) lk2_61 cwX2_digitOf (kmX2_digitOf l e2) rfl (Nat.le_of_ble_eq_true rfl) (Nat.le_of_ble_eq_true rfl) (Nat.le_of_ble_eq_true rfl) ?_
      show V 23 [some (.ref 4), some (.ref k1), some (.int x2), some (.int x3), some (.int x4), some (.int x5)] [.int a2] σ
      refine h.if_lt (tgt := 71) (show decode cX2_takesNumber 23 = .ok (.ifCond .lt 48, 3) by decide +kernel) (by decide) (fun c5 => ?_) (fun c5 => ?_)
      · rw [if_pos c5] at hf
        refine h.drop (ls' := [some (.ref 4), none, some (.int x2), some (.int x3), some (.int x4), some (.int x5)]) (And.intro rfl (And.intro rfl (And.intro rfl (And.intro rfl (And.intro rfl trivial))))) ?_
        exact wX2_takesNumber_71 hm hf
      · rw [if_neg c5] at hf
        show V 26 [some (.ref 4), some (.ref k1), some (.int x2), some (.int x3), some (.int x4), some (.int x5)] [] σ
        refine h.run (o := []) (ls' := [some (.ref 4), some (.ref k1), some (.int x2), some (.int x3), some (.int x4), some (.int x5)]) (st' := [.int x5]) (σ' := σ) [(.iload 5, 2, 0, 0, 0, 0)] (pc2 := 28) (by decide +kernel) rfl trivial ?_
        refine h.if_eq (tgt := 36) (show decode cX2_takesNumber 28 = .ok (.ifCond .eq 8, 3) by decide +kernel) (by decide) (fun c4 => ?_) (fun c4 => ?_)
        · rw [if_pos c4] at hf
          exact wX2_takesNumber_36 hm ih hk1 hf
        · rw [if_neg c4] at hf
          show V 31 [some (.ref 4), some (.ref k1), some (.int x2), some (.int x3), some (.int x4), some (.int x5)] [] σ
          refine h.run (o := []) (ls' := [some (.ref 4), some (.ref k1), some (.int x2), some (.int x3), some (.int x4), some (.int x5)]) (st' := [.int x4]) (σ' := σ) [(.iload 4, 2, 0, 0, 0, 0)] (pc2 := 33) (by decide +kernel) rfl trivial ?_
          refine h.if_le (tgt := 71) (show decode cX2_takesNumber 33 = .ok (.ifCond .le 38, 3) by decide +kernel) (by decide) (fun c3 => ?_) (fun c3 => ?_)
          · rw [if_pos c3] at hf
            refine h.drop (ls' := [some (.ref 4), none, some (.int x2), some (.int x3), some (.int x4), some (.int x5)]) (And.intro rfl (And.intro rfl (And.intro rfl (And.intro rfl (And.intro rfl trivial))))) ?_
            exact wX2_takesNumber_71 hm hf
          · rw [if_neg c3] at hf
            show V 36 [some (.ref 4), some (.ref k1), some (.int x2), some (.int x3), some (.int x4), some (.int x5)] [] σ
            exact wX2_takesNumber_36 hm ih hk1 hf
def fX2_takesNumber (k1 : Nat) (x2 : Int32) (x3 : Int32) (σ : ST) : Option (Int32 × ST) :=
  fX2_takesNumber_6 FU k1 x2 x3 0 0 σ
set_option maxHeartbeats 4000000 in
theorem kmX2_takesNumber (l : Launch) {k1 : Nat} {x2 : Int32} {x3 : Int32} {σ : ST} {r : Int32} {τ : ST} (hk1 : kd k1 = 3) (hf : fX2_takesNumber k1 x2 x3 σ = some (r, τ)) : KM l yX2_takesNumber cX2_takesNumber 6 (some .boolean) 2 47 [.ref 4, .ref k1, .int x2, .int x3] σ (some (.int r)) τ := by
  refine KM.intro (ow := 2) (by decide +kernel) rfl (Nat.le_of_ble_eq_true rfl) (fun V hm => ?_)
  show V 0 [some (.ref 4), some (.ref k1), some (.int x2), some (.int x3), none, none] [] σ
  have h := hm.bd
  unfold fX2_takesNumber at hf
  refine h.run (o := []) (ls' := [some (.ref 4), some (.ref k1), some (.int x2), some (.int x3), some (.int 0), some (.int 0)]) (st' := []) (σ' := σ) [(.iconst 0, 1, 0, 0, 0, 0), (.istore 4, 2, 0, 0, 0, 0), (.iconst 0, 1, 0, 0, 0, 0), (.istore 5, 2, 0, 0, 0, 0)] (pc2 := 6) (by decide +kernel) rfl trivial ?_
  exact wX2_takesNumber_6 hm FU k1 x2 x3 0 0 _ hk1 hf
def fX2_takesDigit (k1 : Nat) (x2 : Int32) (σ : ST) : Option (Int32 × ST) :=
  bR (fX3_read k1 (σ.1 4 1) σ) fun a1 =>
  bR (fX2_digitOf a1 σ) fun a2 =>
  if 0 ≤ a2 then
    bR (fX4_write 18 x2 2 a2 (setI σ 4 1 ((σ.1 4 1) + 1))) fun σ3 =>
    some (1, σ3)
  else
    some (0, σ)
set_option maxHeartbeats 4000000 in
theorem kmX2_takesDigit (l : Launch) {k1 : Nat} {x2 : Int32} {σ : ST} {r : Int32} {τ : ST} (hk1 : kd k1 = 3) (hf : fX2_takesDigit k1 x2 σ = some (r, τ)) : KM l yX2_takesDigit cX2_takesDigit 4 (some .boolean) 2 47 [.ref 4, .ref k1, .int x2] σ (some (.int r)) τ := by
  refine KM.intro (ow := 2) (by decide +kernel) rfl (Nat.le_of_ble_eq_true rfl) (fun V hm => ?_)
  show V 0 [some (.ref 4), some (.ref k1), some (.int x2), none] [] σ
  have h := hm.bd
  unfold fX2_takesDigit at hf
  refine h.run (o := [kd 4 = 2]) (ls' := [some (.ref 4), some (.ref k1), some (.int x2), none]) (st' := [.int (σ.1 4 1), .ref k1]) (σ' := σ) [(.aload_n 1, 1, 0, 0, 0, 0), (.aload_n 0, 1, 0, 0, 0, 0), (.getfield 24, 3, 0, 0, 2, 1)] (pc2 := 5) (by decide +kernel) rfl (And.intro kd_4 trivial) ?_
  obtain ⟨a1, e1, hf⟩ := bR_some hf
  refine h.callV (as := [.int (σ.1 4 1)]) (rest := []) (by decide +kernel) lk2_34 cwX3_read hk1 (kmX3_read l hk1 e1) rfl (Nat.le_of_ble_eq_true rfl) (Nat.le_of_ble_eq_true rfl) (Nat.le_of_ble_eq_true rfl) ?_
  show V 8 [some (.ref 4), some (.ref k1), some (.int x2), none] [.int a1] σ
  obtain ⟨a2, e2, hf⟩ := bR_some hf
  refine h.callS (as := [.int a1]) (rest := []) (by decide +kernel) lk2_61 cwX2_digitOf (kmX2_digitOf l e2) rfl (Nat.le_of_ble_eq_true rfl) (Nat.le_of_ble_eq_true rfl) (Nat.le_of_ble_eq_true rfl) ?_
  show V 11 [some (.ref 4), some (.ref k1), some (.int x2), none] [.int a2] σ
  refine h.run (o := []) (ls' := [some (.ref 4), some (.ref k1), some (.int x2), some (.int a2)]) (st' := [.int a2]) (σ' := σ) [(.istore_n 3, 1, 0, 0, 0, 0), (.iload_n 3, 1, 0, 0, 0, 0)] (pc2 := 13) (by decide +kernel) rfl trivial ?_
  refine h.if_ge (tgt := 18) (show decode cX2_takesDigit 13 = .ok (.ifCond .ge 5, 3) by decide +kernel) (by decide) (fun c4 => ?_) (fun c4 => ?_)
  · rw [if_pos c4] at hf
    refine h.run (o := [kd 4 = 2, kd 4 = 2, kd 4 = 2]) (ls' := [some (.ref 4), some (.ref k1), some (.int x2), some (.int a2)]) (st' := [.int a2, .int 2, .int x2, .ref 18]) (σ' := setI σ 4 1 ((σ.1 4 1) + 1)) [(.aload_n 0, 1, 0, 0, 0, 0), (.dup, 1, 0, 0, 0, 0), (.getfield 24, 3, 0, 0, 2, 1), (.iconst 1, 1, 1, 0, 0, 0), (.iadd, 1, 0, 0, 0, 0), (.putfield 24, 3, 0, 0, 2, 1), (.aload_n 0, 1, 0, 0, 0, 0), (.getfield 14, 3, 0, 0, 2, 0), (.iload_n 2, 1, 0, 0, 0, 0), (.iconst 2, 1, 2, 0, 0, 0), (.iload_n 3, 1, 0, 0, 0, 0)] (pc2 := 35) (by decide +kernel) rfl (And.intro kd_4 (And.intro kd_4 (And.intro kd_4 trivial))) ?_
    obtain ⟨σ3, e3, hf⟩ := bR_some hf
    refine h.callV (as := [.int x2, .int 2, .int a2]) (rest := []) (by decide +kernel) lk2_42 cwX4_write kd_18 (kmX4_write l kd_18 e3) rfl (Nat.le_of_ble_eq_true rfl) (Nat.le_of_ble_eq_true rfl) (Nat.le_of_ble_eq_true rfl) ?_
    show V 38 [some (.ref 4), some (.ref k1), some (.int x2), some (.int a2)] [] σ3
    refine h.run (o := []) (ls' := [some (.ref 4), some (.ref k1), some (.int x2), some (.int a2)]) (st' := [.int 1]) (σ' := σ3) [(.iconst 1, 1, 1, 0, 0, 0)] (pc2 := 39) (by decide +kernel) rfl trivial ?_
    obtain ⟨rfl, rfl⟩ := Prod.mk.inj (Option.some.inj hf)
    exact hm.zret (by decide +kernel) rfl
  · rw [if_neg c4] at hf
    show V 16 [some (.ref 4), some (.ref k1), some (.int x2), some (.int a2)] [] σ
    refine h.run (o := []) (ls' := [some (.ref 4), some (.ref k1), some (.int x2), some (.int a2)]) (st' := [.int 0]) (σ' := σ) [(.iconst 0, 1, 0, 0, 0, 0)] (pc2 := 17) (by decide +kernel) rfl trivial ?_
    obtain ⟨rfl, rfl⟩ := Prod.mk.inj (Option.some.inj hf)
    exact hm.zret (by decide +kernel) rfl
def fX2_takes (k1 : Nat) (x2 : Int32) (σ : ST) : Option (Int32 × ST) :=
  bR (fX3_read k1 (σ.1 4 1) σ) fun a1 =>
  if a1 = x2 then
    some (1, setI σ 4 1 ((σ.1 4 1) + 1))
  else
    some (0, σ)
set_option maxHeartbeats 4000000 in
theorem kmX2_takes (l : Launch) {k1 : Nat} {x2 : Int32} {σ : ST} {r : Int32} {τ : ST} (hk1 : kd k1 = 3) (hf : fX2_takes k1 x2 σ = some (r, τ)) : KM l yX2_takes cX2_takes 3 (some .boolean) 2 42 [.ref 4, .ref k1, .int x2] σ (some (.int r)) τ := by
  refine KM.intro (ow := 2) (by decide +kernel) rfl (Nat.le_of_ble_eq_true rfl) (fun V hm => ?_)
  show V 0 [some (.ref 4), some (.ref k1), some (.int x2)] [] σ
  have h := hm.bd
  unfold fX2_takes at hf
  refine h.run (o := [kd 4 = 2]) (ls' := [some (.ref 4), some (.ref k1), some (.int x2)]) (st' := [.int (σ.1 4 1), .ref k1]) (σ' := σ) [(.aload_n 1, 1, 0, 0, 0, 0), (.aload_n 0, 1, 0, 0, 0, 0), (.getfield 24, 3, 0, 0, 2, 1)] (pc2 := 5) (by decide +kernel) rfl (And.intro kd_4 trivial) ?_
  obtain ⟨a1, e1, hf⟩ := bR_some hf
  refine h.callV (as := [.int (σ.1 4 1)]) (rest := []) (by decide +kernel) lk2_34 cwX3_read hk1 (kmX3_read l hk1 e1) rfl (Nat.le_of_ble_eq_true rfl) (Nat.le_of_ble_eq_true rfl) (Nat.le_of_ble_eq_true rfl) ?_
  show V 8 [some (.ref 4), some (.ref k1), some (.int x2)] [.int a1] σ
  refine h.run (o := []) (ls' := [some (.ref 4), some (.ref k1), some (.int x2)]) (st' := [.int x2, .int a1]) (σ' := σ) [(.iload_n 2, 1, 0, 0, 0, 0)] (pc2 := 9) (by decide +kernel) rfl trivial ?_
  refine h.icmp_eq (tgt := 14) (show decode cX2_takes 9 = .ok (.if_icmp .eq 5, 3) by decide +kernel) (by decide) (fun c2 => ?_) (fun c2 => ?_)
  · rw [if_pos c2] at hf
    refine h.run (o := [kd 4 = 2, kd 4 = 2]) (ls' := [some (.ref 4), some (.ref k1), some (.int x2)]) (st' := [.int 1]) (σ' := setI σ 4 1 ((σ.1 4 1) + 1)) [(.aload_n 0, 1, 0, 0, 0, 0), (.dup, 1, 0, 0, 0, 0), (.getfield 24, 3, 0, 0, 2, 1), (.iconst 1, 1, 1, 0, 0, 0), (.iadd, 1, 0, 0, 0, 0), (.putfield 24, 3, 0, 0, 2, 1), (.iconst 1, 1, 1, 0, 0, 0)] (pc2 := 25) (by decide +kernel) rfl (And.intro kd_4 (And.intro kd_4 trivial)) ?_
    obtain ⟨rfl, rfl⟩ := Prod.mk.inj (Option.some.inj hf)
    exact hm.zret (by decide +kernel) rfl
  · rw [if_neg c2] at hf
    show V 12 [some (.ref 4), some (.ref k1), some (.int x2)] [] σ
    refine h.run (o := []) (ls' := [some (.ref 4), some (.ref k1), some (.int x2)]) (st' := [.int 0]) (σ' := σ) [(.iconst 0, 1, 0, 0, 0, 0)] (pc2 := 13) (by decide +kernel) rfl trivial ?_
    obtain ⟨rfl, rfl⟩ := Prod.mk.inj (Option.some.inj hf)
    exact hm.zret (by decide +kernel) rfl
def fX2_takesPart_25 (t0 : Int32) (σ : ST) : Option (Int32 × ST) :=
  gd (isb t0) <|
  some (t0, σ)
set_option maxHeartbeats 4000000 in
theorem wX2_takesPart_25 {l : Launch} {V : Nat → List (Option Value) → List Value → ST → Prop} {r : Int32} {τ : ST} {σ : ST} {t0 : Int32} (hm : BM l 2 cX2_takesPart 5 (some .boolean) 3 72 (some (.int r)) τ V) (hf : fX2_takesPart_25 t0 σ = some (r, τ)) : V 25 [none, none, none, none, none] [.int t0] σ := by
  have h := hm.bd
  unfold fX2_takesPart_25 at hf
  obtain ⟨g1, hf⟩ := gd_some hf
  obtain ⟨rfl, rfl⟩ := Prod.mk.inj (Option.some.inj hf)
  exact hm.zret (by decide +kernel) g1
def fX2_takesPart_20 (σ : ST) : Option (Int32 × ST) :=
  fX2_takesPart_25 1 σ
set_option maxHeartbeats 4000000 in
theorem wX2_takesPart_20 {l : Launch} {V : Nat → List (Option Value) → List Value → ST → Prop} {r : Int32} {τ : ST} {σ : ST} (hm : BM l 2 cX2_takesPart 5 (some .boolean) 3 72 (some (.int r)) τ V) (hf : fX2_takesPart_20 σ = some (r, τ)) : V 20 [none, none, none, none, none] [] σ := by
  have h := hm.bd
  unfold fX2_takesPart_20 at hf
  refine h.run (o := []) (ls' := [none, none, none, none, none]) (st' := [.int 1]) (σ' := σ) [(.iconst 1, 1, 1, 0, 0, 0), (.goto 4, 3, 0, 0, 0, 25)] (pc2 := 25) (by decide +kernel) rfl trivial ?_
  exact wX2_takesPart_25 hm hf
def fX2_takesPart (k1 : Nat) (x2 : Int32) (x3 : Int32) (x4 : Int32) (σ : ST) : Option (Int32 × ST) :=
  bI (fX2_takes k1 x3 σ) fun a1 σ1 =>
  if a1 = 0 then
    fX2_takesPart_20 σ1
  else
    bI (fX2_takesNumber k1 x2 x4 σ1) fun a2 σ2 =>
    if a2 = 0 then
      fX2_takesPart_25 0 σ2
    else
      fX2_takesPart_20 σ2
set_option maxHeartbeats 4000000 in
theorem kmX2_takesPart (l : Launch) {k1 : Nat} {x2 : Int32} {x3 : Int32} {x4 : Int32} {σ : ST} {r : Int32} {τ : ST} (hk1 : kd k1 = 3) (hf : fX2_takesPart k1 x2 x3 x4 σ = some (r, τ)) : KM l yX2_takesPart cX2_takesPart 5 (some .boolean) 3 72 [.ref 4, .ref k1, .int x2, .int x3, .int x4] σ (some (.int r)) τ := by
  refine KM.intro (ow := 2) (by decide +kernel) rfl (Nat.le_of_ble_eq_true rfl) (fun V hm => ?_)
  show V 0 [some (.ref 4), some (.ref k1), some (.int x2), some (.int x3), some (.int x4)] [] σ
  have h := hm.bd
  unfold fX2_takesPart at hf
  refine h.run (o := []) (ls' := [some (.ref 4), some (.ref k1), some (.int x2), some (.int x3), some (.int x4)]) (st' := [.int x3, .ref k1, .ref 4]) (σ' := σ) [(.aload_n 0, 1, 0, 0, 0, 0), (.aload_n 1, 1, 0, 0, 0, 0), (.iload_n 3, 1, 0, 0, 0, 0)] (pc2 := 3) (by decide +kernel) rfl trivial ?_
  obtain ⟨a1, σ1, e1, hf⟩ := bI_some hf
  refine h.callV (as := [.ref k1, .int x3]) (rest := []) (by decide +kernel) lk2_50 cwX2_takes kd_4 (kmX2_takes l hk1 e1) rfl (Nat.le_of_ble_eq_true rfl) (Nat.le_of_ble_eq_true rfl) (Nat.le_of_ble_eq_true rfl) ?_
  show V 6 [some (.ref 4), some (.ref k1), some (.int x2), some (.int x3), some (.int x4)] [.int a1] σ1
  refine h.if_eq (tgt := 20) (show decode cX2_takesPart 6 = .ok (.ifCond .eq 14, 3) by decide +kernel) (by decide) (fun c4 => ?_) (fun c4 => ?_)
  · rw [if_pos c4] at hf
    refine h.drop (ls' := [none, none, none, none, none]) trivial ?_
    exact wX2_takesPart_20 hm hf
  · rw [if_neg c4] at hf
    show V 9 [some (.ref 4), some (.ref k1), some (.int x2), some (.int x3), some (.int x4)] [] σ1
    refine h.run (o := []) (ls' := [some (.ref 4), some (.ref k1), some (.int x2), some (.int x3), some (.int x4)]) (st' := [.int x4, .int x2, .ref k1, .ref 4]) (σ' := σ1) [(.aload_n 0, 1, 0, 0, 0, 0), (.aload_n 1, 1, 0, 0, 0, 0), (.iload_n 2, 1, 0, 0, 0, 0), (.iload 4, 2, 0, 0, 0, 0)] (pc2 := 14) (by decide +kernel) rfl trivial ?_
    obtain ⟨a2, σ2, e2, hf⟩ := bI_some hf
    refine h.callV (as := [.ref k1, .int x2, .int x4]) (rest := []) (by decide +kernel) lk2_53 cwX2_takesNumber kd_4 (kmX2_takesNumber l hk1 e2) rfl (Nat.le_of_ble_eq_true rfl) (Nat.le_of_ble_eq_true rfl) (Nat.le_of_ble_eq_true rfl) ?_
    show V 17 [some (.ref 4), some (.ref k1), some (.int x2), some (.int x3), some (.int x4)] [.int a2] σ2
    refine h.if_eq (tgt := 24) (show decode cX2_takesPart 17 = .ok (.ifCond .eq 7, 3) by decide +kernel) (by decide) (fun c3 => ?_) (fun c3 => ?_)
    · rw [if_pos c3] at hf
      refine h.run (o := []) (ls' := [some (.ref 4), some (.ref k1), some (.int x2), some (.int x3), some (.int x4)]) (st' := [.int 0]) (σ' := σ2) [(.iconst 0, 1, 0, 0, 0, 0)] (pc2 := 25) (by decide +kernel) rfl trivial ?_
      refine h.drop (ls' := [none, none, none, none, none]) trivial ?_
      exact wX2_takesPart_25 hm hf
    · rw [if_neg c3] at hf
      show V 20 [some (.ref 4), some (.ref k1), some (.int x2), some (.int x3), some (.int x4)] [] σ2
      refine h.drop (ls' := [none, none, none, none, none]) trivial ?_
      exact wX2_takesPart_20 hm hf
def fX2_takesStatement_257 (t0 : Int32) (σ : ST) : Option (Int32 × ST) :=
  gd (isb t0) <|
  some (t0, σ)
set_option maxHeartbeats 4000000 in
theorem wX2_takesStatement_257 {l : Launch} {V : Nat → List (Option Value) → List Value → ST → Prop} {r : Int32} {τ : ST} {σ : ST} {t0 : Int32} (hm : BM l 2 cX2_takesStatement 6 (some .boolean) 4 96 (some (.int r)) τ V) (hf : fX2_takesStatement_257 t0 σ = some (r, τ)) : V 257 [none, none, none, none, none, none] [.int t0] σ := by
  have h := hm.bd
  unfold fX2_takesStatement_257 at hf
  obtain ⟨g1, hf⟩ := gd_some hf
  obtain ⟨rfl, rfl⟩ := Prod.mk.inj (Option.some.inj hf)
  exact hm.zret (by decide +kernel) g1
def fX2_takesStatement_256 (σ : ST) : Option (Int32 × ST) :=
  fX2_takesStatement_257 0 σ
set_option maxHeartbeats 4000000 in
theorem wX2_takesStatement_256 {l : Launch} {V : Nat → List (Option Value) → List Value → ST → Prop} {r : Int32} {τ : ST} {σ : ST} (hm : BM l 2 cX2_takesStatement 6 (some .boolean) 4 96 (some (.int r)) τ V) (hf : fX2_takesStatement_256 σ = some (r, τ)) : V 256 [none, none, none, none, none, none] [] σ := by
  have h := hm.bd
  unfold fX2_takesStatement_256 at hf
  refine h.run (o := []) (ls' := [none, none, none, none, none, none]) (st' := [.int 0]) (σ' := σ) [(.iconst 0, 1, 0, 0, 0, 0)] (pc2 := 257) (by decide +kernel) rfl trivial ?_
  exact wX2_takesStatement_257 hm hf
def fX2_takesStatement_237 (k1 : Nat) (x5 : Int32) (σ : ST) : Option (Int32 × ST) :=
  if x5 = 0 then
    fX2_takesStatement_256 σ
  else
    bI (fX2_takes k1 59 σ) fun a1 σ1 =>
    if a1 = 0 then
      fX2_takesStatement_256 σ1
    else
      fX2_takesStatement_257 1 σ1
set_option maxHeartbeats 4000000 in
theorem wX2_takesStatement_237 {l : Launch} {V : Nat → List (Option Value) → List Value → ST → Prop} {r : Int32} {τ : ST} {σ : ST} {k1 : Nat} {x5 : Int32} (hm : BM l 2 cX2_takesStatement 6 (some .boolean) 4 96 (some (.int r)) τ V) (hk1 : kd k1 = 3) (hf : fX2_takesStatement_237 k1 x5 σ = some (r, τ)) : V 237 [some (.ref 4), some (.ref k1), none, none, none, some (.int x5)] [] σ := by
  have h := hm.bd
  unfold fX2_takesStatement_237 at hf
  refine h.run (o := []) (ls' := [some (.ref 4), some (.ref k1), none, none, none, some (.int x5)]) (st' := [.int x5]) (σ' := σ) [(.iload 5, 2, 0, 0, 0, 0)] (pc2 := 239) (by decide +kernel) rfl trivial ?_
  refine h.if_eq (tgt := 256) (show decode cX2_takesStatement 239 = .ok (.ifCond .eq 17, 3) by decide +kernel) (by decide) (fun c3 => ?_) (fun c3 => ?_)
  · rw [if_pos c3] at hf
    refine h.drop (ls' := [none, none, none, none, none, none]) trivial ?_
    exact wX2_takesStatement_256 hm hf
  · rw [if_neg c3] at hf
    show V 242 [some (.ref 4), some (.ref k1), none, none, none, some (.int x5)] [] σ
    refine h.run (o := []) (ls' := [some (.ref 4), some (.ref k1), none, none, none, some (.int x5)]) (st' := [.int 59, .ref k1, .ref 4]) (σ' := σ) [(.aload_n 0, 1, 0, 0, 0, 0), (.aload_n 1, 1, 0, 0, 0, 0), (.bipush 59, 2, 59, 0, 0, 0)] (pc2 := 246) (by decide +kernel) rfl trivial ?_
    obtain ⟨a1, σ1, e1, hf⟩ := bI_some hf
    refine h.callV (as := [.ref k1, .int 59]) (rest := []) (by decide +kernel) lk2_50 cwX2_takes kd_4 (kmX2_takes l hk1 e1) rfl (Nat.le_of_ble_eq_true rfl) (Nat.le_of_ble_eq_true rfl) (Nat.le_of_ble_eq_true rfl) ?_
    show V 249 [some (.ref 4), some (.ref k1), none, none, none, some (.int x5)] [.int a1] σ1
    refine h.if_eq (tgt := 256) (show decode cX2_takesStatement 249 = .ok (.ifCond .eq 7, 3) by decide +kernel) (by decide) (fun c2 => ?_) (fun c2 => ?_)
    · rw [if_pos c2] at hf
      refine h.drop (ls' := [none, none, none, none, none, none]) trivial ?_
      exact wX2_takesStatement_256 hm hf
    · rw [if_neg c2] at hf
      show V 252 [some (.ref 4), some (.ref k1), none, none, none, some (.int x5)] [] σ1
      refine h.run (o := []) (ls' := [some (.ref 4), some (.ref k1), none, none, none, some (.int x5)]) (st' := [.int 1]) (σ' := σ1) [(.iconst 1, 1, 1, 0, 0, 0), (.goto 4, 3, 0, 0, 0, 257)] (pc2 := 257) (by decide +kernel) rfl trivial ?_
      refine h.drop (ls' := [none, none, none, none, none, none]) trivial ?_
      exact wX2_takesStatement_257 hm hf
def fX2_takesStatement_222 (k1 : Nat) (t0 : Int32) (σ : ST) : Option (Int32 × ST) :=
  fX2_takesStatement_237 k1 t0 σ
set_option maxHeartbeats 4000000 in
theorem wX2_takesStatement_222 {l : Launch} {V : Nat → List (Option Value) → List Value → ST → Prop} {r : Int32} {τ : ST} {σ : ST} {k1 : Nat} {t0 : Int32} (hm : BM l 2 cX2_takesStatement 6 (some .boolean) 4 96 (some (.int r)) τ V) (hk1 : kd k1 = 3) (hf : fX2_takesStatement_222 k1 t0 σ = some (r, τ)) : V 222 [some (.ref 4), some (.ref k1), none, none, none, none] [.int t0] σ := by
  have h := hm.bd
  unfold fX2_takesStatement_222 at hf
  refine h.run (o := []) (ls' := [some (.ref 4), some (.ref k1), none, none, none, some (.int t0)]) (st' := []) (σ' := σ) [(.istore 5, 2, 0, 0, 0, 0), (.goto 13, 3, 0, 0, 0, 237)] (pc2 := 237) (by decide +kernel) rfl trivial ?_
  exact wX2_takesStatement_237 hm hk1 hf
def fX2_takesStatement_221 (k1 : Nat) (σ : ST) : Option (Int32 × ST) :=
  fX2_takesStatement_222 k1 0 σ
set_option maxHeartbeats 4000000 in
theorem wX2_takesStatement_221 {l : Launch} {V : Nat → List (Option Value) → List Value → ST → Prop} {r : Int32} {τ : ST} {σ : ST} {k1 : Nat} (hm : BM l 2 cX2_takesStatement 6 (some .boolean) 4 96 (some (.int r)) τ V) (hk1 : kd k1 = 3) (hf : fX2_takesStatement_221 k1 σ = some (r, τ)) : V 221 [some (.ref 4), some (.ref k1), none, none, none, none] [] σ := by
  have h := hm.bd
  unfold fX2_takesStatement_221 at hf
  refine h.run (o := []) (ls' := [some (.ref 4), some (.ref k1), none, none, none, none]) (st' := [.int 0]) (σ' := σ) [(.iconst 0, 1, 0, 0, 0, 0)] (pc2 := 222) (by decide +kernel) rfl trivial ?_
  exact wX2_takesStatement_222 hm hk1 hf
def fX2_takesStatement_167 (k1 : Nat) (x4 : Int32) (σ : ST) : Option (Int32 × ST) :=
  bI (fX2_takesNumber k1 x4 2 σ) fun a1 σ1 =>
  if a1 = 0 then
    fX2_takesStatement_221 k1 σ1
  else
    bI (fX2_takesPart k1 x4 108 3 σ1) fun a2 σ2 =>
    if a2 = 0 then
      fX2_takesStatement_221 k1 σ2
    else
      bI (fX2_takesPart k1 x4 118 4 σ2) fun a3 σ3 =>
      if a3 = 0 then
        fX2_takesStatement_221 k1 σ3
      else
        bI (fX2_takesPart k1 x4 119 5 σ3) fun a4 σ4 =>
        if a4 = 0 then
          fX2_takesStatement_221 k1 σ4
        else
          fX2_takesStatement_222 k1 1 σ4
set_option maxHeartbeats 4000000 in
theorem wX2_takesStatement_167 {l : Launch} {V : Nat → List (Option Value) → List Value → ST → Prop} {r : Int32} {τ : ST} {σ : ST} {k1 : Nat} {x4 : Int32} (hm : BM l 2 cX2_takesStatement 6 (some .boolean) 4 96 (some (.int r)) τ V) (hk1 : kd k1 = 3) (hf : fX2_takesStatement_167 k1 x4 σ = some (r, τ)) : V 167 [some (.ref 4), some (.ref k1), none, none, some (.int x4), none] [] σ := by
  have h := hm.bd
  unfold fX2_takesStatement_167 at hf
  refine h.run (o := []) (ls' := [some (.ref 4), some (.ref k1), none, none, some (.int x4), none]) (st' := [.int 2, .int x4, .ref k1, .ref 4]) (σ' := σ) [(.aload_n 0, 1, 0, 0, 0, 0), (.aload_n 1, 1, 0, 0, 0, 0), (.iload 4, 2, 0, 0, 0, 0), (.iconst 2, 1, 2, 0, 0, 0)] (pc2 := 172) (by decide +kernel) rfl trivial ?_
  obtain ⟨a1, σ1, e1, hf⟩ := bI_some hf
  refine h.callV (as := [.ref k1, .int x4, .int 2]) (rest := []) (by decide +kernel) lk2_53 cwX2_takesNumber kd_4 (kmX2_takesNumber l hk1 e1) rfl (Nat.le_of_ble_eq_true rfl) (Nat.le_of_ble_eq_true rfl) (Nat.le_of_ble_eq_true rfl) ?_
  show V 175 [some (.ref 4), some (.ref k1), none, none, some (.int x4), none] [.int a1] σ1
  refine h.if_eq (tgt := 221) (show decode cX2_takesStatement 175 = .ok (.ifCond .eq 46, 3) by decide +kernel) (by decide) (fun c8 => ?_) (fun c8 => ?_)
  · rw [if_pos c8] at hf
    refine h.drop (ls' := [some (.ref 4), some (.ref k1), none, none, none, none]) (And.intro rfl (And.intro rfl trivial)) ?_
    exact wX2_takesStatement_221 hm hk1 hf
  · rw [if_neg c8] at hf
    show V 178 [some (.ref 4), some (.ref k1), none, none, some (.int x4), none] [] σ1
    refine h.run (o := []) (ls' := [some (.ref 4), some (.ref k1), none, none, some (.int x4), none]) (st' := [.int 3, .int 108, .int x4, .ref k1, .ref 4]) (σ' := σ1) [(.aload_n 0, 1, 0, 0, 0, 0), (.aload_n 1, 1, 0, 0, 0, 0), (.iload 4, 2, 0, 0, 0, 0), (.bipush 108, 2, 108, 0, 0, 0), (.iconst 3, 1, 3, 0, 0, 0)] (pc2 := 185) (by decide +kernel) rfl trivial ?_
    obtain ⟨a2, σ2, e2, hf⟩ := bI_some hf
    refine h.callV (as := [.ref k1, .int x4, .int 108, .int 3]) (rest := []) (by decide +kernel) lk2_57 cwX2_takesPart kd_4 (kmX2_takesPart l hk1 e2) rfl (Nat.le_of_ble_eq_true rfl) (Nat.le_of_ble_eq_true rfl) (Nat.le_of_ble_eq_true rfl) ?_
    show V 188 [some (.ref 4), some (.ref k1), none, none, some (.int x4), none] [.int a2] σ2
    refine h.if_eq (tgt := 221) (show decode cX2_takesStatement 188 = .ok (.ifCond .eq 33, 3) by decide +kernel) (by decide) (fun c7 => ?_) (fun c7 => ?_)
    · rw [if_pos c7] at hf
      refine h.drop (ls' := [some (.ref 4), some (.ref k1), none, none, none, none]) (And.intro rfl (And.intro rfl trivial)) ?_
      exact wX2_takesStatement_221 hm hk1 hf
    · rw [if_neg c7] at hf
      show V 191 [some (.ref 4), some (.ref k1), none, none, some (.int x4), none] [] σ2
      refine h.run (o := []) (ls' := [some (.ref 4), some (.ref k1), none, none, some (.int x4), none]) (st' := [.int 4, .int 118, .int x4, .ref k1, .ref 4]) (σ' := σ2) [(.aload_n 0, 1, 0, 0, 0, 0), (.aload_n 1, 1, 0, 0, 0, 0), (.iload 4, 2, 0, 0, 0, 0), (.bipush 118, 2, 118, 0, 0, 0), (.iconst 4, 1, 4, 0, 0, 0)] (pc2 := 198) (by decide +kernel) rfl trivial ?_
      obtain ⟨a3, σ3, e3, hf⟩ := bI_some hf
      refine h.callV (as := [.ref k1, .int x4, .int 118, .int 4]) (rest := []) (by decide +kernel) lk2_57 cwX2_takesPart kd_4 (kmX2_takesPart l hk1 e3) rfl (Nat.le_of_ble_eq_true rfl) (Nat.le_of_ble_eq_true rfl) (Nat.le_of_ble_eq_true rfl) ?_
      show V 201 [some (.ref 4), some (.ref k1), none, none, some (.int x4), none] [.int a3] σ3
      refine h.if_eq (tgt := 221) (show decode cX2_takesStatement 201 = .ok (.ifCond .eq 20, 3) by decide +kernel) (by decide) (fun c6 => ?_) (fun c6 => ?_)
      · rw [if_pos c6] at hf
        refine h.drop (ls' := [some (.ref 4), some (.ref k1), none, none, none, none]) (And.intro rfl (And.intro rfl trivial)) ?_
        exact wX2_takesStatement_221 hm hk1 hf
      · rw [if_neg c6] at hf
        show V 204 [some (.ref 4), some (.ref k1), none, none, some (.int x4), none] [] σ3
        refine h.run (o := []) (ls' := [some (.ref 4), some (.ref k1), none, none, some (.int x4), none]) (st' := [.int 5, .int 119, .int x4, .ref k1, .ref 4]) (σ' := σ3) [(.aload_n 0, 1, 0, 0, 0, 0), (.aload_n 1, 1, 0, 0, 0, 0), (.iload 4, 2, 0, 0, 0, 0), (.bipush 119, 2, 119, 0, 0, 0), (.iconst 5, 1, 5, 0, 0, 0)] (pc2 := 211) (by decide +kernel) rfl trivial ?_
        obtain ⟨a4, σ4, e4, hf⟩ := bI_some hf
        refine h.callV (as := [.ref k1, .int x4, .int 119, .int 5]) (rest := []) (by decide +kernel) lk2_57 cwX2_takesPart kd_4 (kmX2_takesPart l hk1 e4) rfl (Nat.le_of_ble_eq_true rfl) (Nat.le_of_ble_eq_true rfl) (Nat.le_of_ble_eq_true rfl) ?_
        show V 214 [some (.ref 4), some (.ref k1), none, none, some (.int x4), none] [.int a4] σ4
        refine h.if_eq (tgt := 221) (show decode cX2_takesStatement 214 = .ok (.ifCond .eq 7, 3) by decide +kernel) (by decide) (fun c5 => ?_) (fun c5 => ?_)
        · rw [if_pos c5] at hf
          refine h.drop (ls' := [some (.ref 4), some (.ref k1), none, none, none, none]) (And.intro rfl (And.intro rfl trivial)) ?_
          exact wX2_takesStatement_221 hm hk1 hf
        · rw [if_neg c5] at hf
          show V 217 [some (.ref 4), some (.ref k1), none, none, some (.int x4), none] [] σ4
          refine h.run (o := []) (ls' := [some (.ref 4), some (.ref k1), none, none, some (.int x4), none]) (st' := [.int 1]) (σ' := σ4) [(.iconst 1, 1, 1, 0, 0, 0), (.goto 4, 3, 0, 0, 0, 222)] (pc2 := 222) (by decide +kernel) rfl trivial ?_
          refine h.drop (ls' := [some (.ref 4), some (.ref k1), none, none, none, none]) (And.intro rfl (And.intro rfl trivial)) ?_
          exact wX2_takesStatement_222 hm hk1 hf
def fX2_takesStatement_150 (k1 : Nat) (t0 : Int32) (σ : ST) : Option (Int32 × ST) :=
  fX2_takesStatement_237 k1 t0 σ
set_option maxHeartbeats 4000000 in
theorem wX2_takesStatement_150 {l : Launch} {V : Nat → List (Option Value) → List Value → ST → Prop} {r : Int32} {τ : ST} {σ : ST} {k1 : Nat} {t0 : Int32} (hm : BM l 2 cX2_takesStatement 6 (some .boolean) 4 96 (some (.int r)) τ V) (hk1 : kd k1 = 3) (hf : fX2_takesStatement_150 k1 t0 σ = some (r, τ)) : V 150 [some (.ref 4), some (.ref k1), none, none, none, none] [.int t0] σ := by
  have h := hm.bd
  unfold fX2_takesStatement_150 at hf
  refine h.run (o := []) (ls' := [some (.ref 4), some (.ref k1), none, none, none, some (.int t0)]) (st' := []) (σ' := σ) [(.istore 5, 2, 0, 0, 0, 0), (.goto 85, 3, 0, 0, 0, 237)] (pc2 := 237) (by decide +kernel) rfl trivial ?_
  exact wX2_takesStatement_237 hm hk1 hf
def fX2_takesStatement_149 (k1 : Nat) (σ : ST) : Option (Int32 × ST) :=
  fX2_takesStatement_150 k1 0 σ
set_option maxHeartbeats 4000000 in
theorem wX2_takesStatement_149 {l : Launch} {V : Nat → List (Option Value) → List Value → ST → Prop} {r : Int32} {τ : ST} {σ : ST} {k1 : Nat} (hm : BM l 2 cX2_takesStatement 6 (some .boolean) 4 96 (some (.int r)) τ V) (hk1 : kd k1 = 3) (hf : fX2_takesStatement_149 k1 σ = some (r, τ)) : V 149 [some (.ref 4), some (.ref k1), none, none, none, none] [] σ := by
  have h := hm.bd
  unfold fX2_takesStatement_149 at hf
  refine h.run (o := []) (ls' := [some (.ref 4), some (.ref k1), none, none, none, none]) (st' := [.int 0]) (σ' := σ) [(.iconst 0, 1, 0, 0, 0, 0)] (pc2 := 150) (by decide +kernel) rfl trivial ?_
  exact wX2_takesStatement_150 hm hk1 hf
def fX2_takesStatement_46 (k1 : Nat) (x2 : Int32) (x3 : Int32) (σ : ST) : Option (Int32 × ST) :=
  bI (fX4_open 18 (setI σ 4 1 ((σ.1 4 1) + 1))) fun a1 σ1 =>
  bR (fX4_write 18 a1 0 x2 σ1) fun σ2 =>
  bR (fX4_write 18 a1 1 x3 σ2) fun σ3 =>
  if x3 = 115 then
    bI (fX2_takesDigit k1 a1 σ3) fun a7 σ7 =>
    if a7 = 0 then
      fX2_takesStatement_149 k1 σ7
    else
      bI (fX2_takes k1 32 σ7) fun a8 σ8 =>
      if a8 = 0 then
        fX2_takesStatement_149 k1 σ8
      else
        bI (fX2_takesNumber k1 a1 3 σ8) fun a9 σ9 =>
        if a9 = 0 then
          fX2_takesStatement_149 k1 σ9
        else
          bI (fX2_takes k1 32 σ9) fun a10 σ10 =>
          if a10 = 0 then
            fX2_takesStatement_149 k1 σ10
          else
            bI (fX2_takesNumber k1 a1 4 σ10) fun a11 σ11 =>
            if a11 = 0 then
              fX2_takesStatement_149 k1 σ11
            else
              fX2_takesStatement_150 k1 1 σ11
  else
    if x3 = 109 then
      fX2_takesStatement_167 k1 a1 σ3
    else
      if x3 = 120 then
        fX2_takesStatement_167 k1 a1 σ3
      else
        bI (fX2_takesNumber k1 a1 2 σ3) fun a4 σ4 =>
        fX2_takesStatement_237 k1 a4 σ4
set_option maxHeartbeats 4000000 in
theorem wX2_takesStatement_46 {l : Launch} {V : Nat → List (Option Value) → List Value → ST → Prop} {r : Int32} {τ : ST} {σ : ST} {k1 : Nat} {x2 : Int32} {x3 : Int32} (hm : BM l 2 cX2_takesStatement 6 (some .boolean) 4 96 (some (.int r)) τ V) (hk1 : kd k1 = 3) (hf : fX2_takesStatement_46 k1 x2 x3 σ = some (r, τ)) : V 46 [some (.ref 4), some (.ref k1), some (.int x2), some (.int x3), none, none] [] σ := by
  have h := hm.bd
  unfold fX2_takesStatement_46 at hf
  refine h.run (o := [kd 4 = 2, kd 4 = 2, kd 4 = 2]) (ls' := [some (.ref 4), some (.ref k1), some (.int x2), some (.int x3), none, none]) (st' := [.ref 18]) (σ' := setI σ 4 1 ((σ.1 4 1) + 1)) [(.aload_n 0, 1, 0, 0, 0, 0), (.dup, 1, 0, 0, 0, 0), (.getfield 24, 3, 0, 0, 2, 1), (.iconst 1, 1, 1, 0, 0, 0), (.iadd, 1, 0, 0, 0, 0), (.putfield 24, 3, 0, 0, 2, 1), (.aload_n 0, 1, 0, 0, 0, 0), (.getfield 14, 3, 0, 0, 2, 0)] (pc2 := 60) (by decide +kernel) rfl (And.intro kd_4 (And.intro kd_4 (And.intro kd_4 trivial))) ?_
  obtain ⟨a1, σ1, e1, hf⟩ := bI_some hf
  refine h.callV (as := []) (rest := []) (by decide +kernel) lk2_38 cwX4_open kd_18 (kmX4_open l kd_18 e1) rfl (Nat.le_of_ble_eq_true rfl) (Nat.le_of_ble_eq_true rfl) (Nat.le_of_ble_eq_true rfl) ?_
  show V 63 [some (.ref 4), some (.ref k1), some (.int x2), some (.int x3), none, none] [.int a1] σ1
  refine h.run (o := [kd 4 = 2]) (ls' := [some (.ref 4), some (.ref k1), some (.int x2), some (.int x3), some (.int a1), none]) (st' := [.int x2, .int 0, .int a1, .ref 18]) (σ' := σ1) [(.istore 4, 2, 0, 0, 0, 0), (.aload_n 0, 1, 0, 0, 0, 0), (.getfield 14, 3, 0, 0, 2, 0), (.iload 4, 2, 0, 0, 0, 0), (.iconst 0, 1, 0, 0, 0, 0), (.iload_n 2, 1, 0, 0, 0, 0)] (pc2 := 73) (by decide +kernel) rfl (And.intro kd_4 trivial) ?_
  obtain ⟨σ2, e2, hf⟩ := bR_some hf
  refine h.callV (as := [.int a1, .int 0, .int x2]) (rest := []) (by decide +kernel) lk2_42 cwX4_write kd_18 (kmX4_write l kd_18 e2) rfl (Nat.le_of_ble_eq_true rfl) (Nat.le_of_ble_eq_true rfl) (Nat.le_of_ble_eq_true rfl) ?_
  show V 76 [some (.ref 4), some (.ref k1), some (.int x2), some (.int x3), some (.int a1), none] [] σ2
  refine h.run (o := [kd 4 = 2]) (ls' := [some (.ref 4), some (.ref k1), some (.int x2), some (.int x3), some (.int a1), none]) (st' := [.int x3, .int 1, .int a1, .ref 18]) (σ' := σ2) [(.aload_n 0, 1, 0, 0, 0, 0), (.getfield 14, 3, 0, 0, 2, 0), (.iload 4, 2, 0, 0, 0, 0), (.iconst 1, 1, 1, 0, 0, 0), (.iload_n 3, 1, 0, 0, 0, 0)] (pc2 := 84) (by decide +kernel) rfl (And.intro kd_4 trivial) ?_
  obtain ⟨σ3, e3, hf⟩ := bR_some hf
  refine h.callV (as := [.int a1, .int 1, .int x3]) (rest := []) (by decide +kernel) lk2_42 cwX4_write kd_18 (kmX4_write l kd_18 e3) rfl (Nat.le_of_ble_eq_true rfl) (Nat.le_of_ble_eq_true rfl) (Nat.le_of_ble_eq_true rfl) ?_
  show V 87 [some (.ref 4), some (.ref k1), some (.int x2), some (.int x3), some (.int a1), none] [] σ3
  refine h.run (o := []) (ls' := [some (.ref 4), some (.ref k1), some (.int x2), some (.int x3), some (.int a1), none]) (st' := [.int 115, .int x3]) (σ' := σ3) [(.iload_n 3, 1, 0, 0, 0, 0), (.bipush 115, 2, 115, 0, 0, 0)] (pc2 := 90) (by decide +kernel) rfl trivial ?_
  refine h.icmp_ne (tgt := 155) (show decode cX2_takesStatement 90 = .ok (.if_icmp .ne 65, 3) by decide +kernel) (by decide) (fun c17 => ?_) (fun c17 => ?_)
  · rw [if_neg c17] at hf
    refine h.run (o := []) (ls' := [some (.ref 4), some (.ref k1), some (.int x2), some (.int x3), some (.int a1), none]) (st' := [.int 109, .int x3]) (σ' := σ3) [(.iload_n 3, 1, 0, 0, 0, 0), (.bipush 109, 2, 109, 0, 0, 0)] (pc2 := 158) (by decide +kernel) rfl trivial ?_
    refine h.icmp_eq (tgt := 167) (show decode cX2_takesStatement 158 = .ok (.if_icmp .eq 9, 3) by decide +kernel) (by decide) (fun c6 => ?_) (fun c6 => ?_)
    · rw [if_pos c6] at hf
      refine h.drop (ls' := [some (.ref 4), some (.ref k1), none, none, some (.int a1), none]) (And.intro rfl (And.intro rfl (And.intro rfl trivial))) ?_
      exact wX2_takesStatement_167 hm hk1 hf
    · rw [if_neg c6] at hf
      show V 161 [some (.ref 4), some (.ref k1), some (.int x2), some (.int x3), some (.int a1), none] [] σ3
      refine h.run (o := []) (ls' := [some (.ref 4), some (.ref k1), some (.int x2), some (.int x3), some (.int a1), none]) (st' := [.int 120, .int x3]) (σ' := σ3) [(.iload_n 3, 1, 0, 0, 0, 0), (.bipush 120, 2, 120, 0, 0, 0)] (pc2 := 164) (by decide +kernel) rfl trivial ?_
      refine h.icmp_ne (tgt := 227) (show decode cX2_takesStatement 164 = .ok (.if_icmp .ne 63, 3) by decide +kernel) (by decide) (fun c5 => ?_) (fun c5 => ?_)
      · rw [if_neg c5] at hf
        refine h.run (o := []) (ls' := [some (.ref 4), some (.ref k1), some (.int x2), some (.int x3), some (.int a1), none]) (st' := [.int 2, .int a1, .ref k1, .ref 4]) (σ' := σ3) [(.aload_n 0, 1, 0, 0, 0, 0), (.aload_n 1, 1, 0, 0, 0, 0), (.iload 4, 2, 0, 0, 0, 0), (.iconst 2, 1, 2, 0, 0, 0)] (pc2 := 232) (by decide +kernel) rfl trivial ?_
        obtain ⟨a4, σ4, e4, hf⟩ := bI_some hf
        refine h.callV (as := [.ref k1, .int a1, .int 2]) (rest := []) (by decide +kernel) lk2_53 cwX2_takesNumber kd_4 (kmX2_takesNumber l hk1 e4) rfl (Nat.le_of_ble_eq_true rfl) (Nat.le_of_ble_eq_true rfl) (Nat.le_of_ble_eq_true rfl) ?_
        show V 235 [some (.ref 4), some (.ref k1), some (.int x2), some (.int x3), some (.int a1), none] [.int a4] σ4
        refine h.run (o := []) (ls' := [some (.ref 4), some (.ref k1), some (.int x2), some (.int x3), some (.int a1), some (.int a4)]) (st' := []) (σ' := σ4) [(.istore 5, 2, 0, 0, 0, 0)] (pc2 := 237) (by decide +kernel) rfl trivial ?_
        refine h.drop (ls' := [some (.ref 4), some (.ref k1), none, none, none, some (.int a4)]) (And.intro rfl (And.intro rfl (And.intro rfl trivial))) ?_
        exact wX2_takesStatement_237 hm hk1 hf
      · rw [if_pos c5] at hf
        show V 167 [some (.ref 4), some (.ref k1), some (.int x2), some (.int x3), some (.int a1), none] [] σ3
        refine h.drop (ls' := [some (.ref 4), some (.ref k1), none, none, some (.int a1), none]) (And.intro rfl (And.intro rfl (And.intro rfl trivial))) ?_
        exact wX2_takesStatement_167 hm hk1 hf
  · rw [if_pos c17] at hf
    show V 93 [some (.ref 4), some (.ref k1), some (.int x2), some (.int x3), some (.int a1), none] [] σ3
    refine h.run (o := []) (ls' := [some (.ref 4), some (.ref k1), some (.int x2), some (.int x3), some (.int a1), none]) (st' := [.int a1, .ref k1, .ref 4]) (σ' := σ3) [(.aload_n 0, 1, 0, 0, 0, 0), (.aload_n 1, 1, 0, 0, 0, 0), (.iload 4, 2, 0, 0, 0, 0)] (pc2 := 97) (by decide +kernel) rfl trivial ?_
    obtain ⟨a7, σ7, e7, hf⟩ := bI_some hf
    refine h.callV (as := [.ref k1, .int a1]) (rest := []) (by decide +kernel) lk2_46 cwX2_takesDigit kd_4 (kmX2_takesDigit l hk1 e7) rfl (Nat.le_of_ble_eq_true rfl) (Nat.le_of_ble_eq_true rfl) (Nat.le_of_ble_eq_true rfl) ?_
    show V 100 [some (.ref 4), some (.ref k1), some (.int x2), some (.int x3), some (.int a1), none] [.int a7] σ7
    refine h.if_eq (tgt := 149) (show decode cX2_takesStatement 100 = .ok (.ifCond .eq 49, 3) by decide +kernel) (by decide) (fun c16 => ?_) (fun c16 => ?_)
    · rw [if_pos c16] at hf
      refine h.drop (ls' := [some (.ref 4), some (.ref k1), none, none, none, none]) (And.intro rfl (And.intro rfl trivial)) ?_
      exact wX2_takesStatement_149 hm hk1 hf
    · rw [if_neg c16] at hf
      show V 103 [some (.ref 4), some (.ref k1), some (.int x2), some (.int x3), some (.int a1), none] [] σ7
      refine h.run (o := []) (ls' := [some (.ref 4), some (.ref k1), some (.int x2), some (.int x3), some (.int a1), none]) (st' := [.int 32, .ref k1, .ref 4]) (σ' := σ7) [(.aload_n 0, 1, 0, 0, 0, 0), (.aload_n 1, 1, 0, 0, 0, 0), (.bipush 32, 2, 32, 0, 0, 0)] (pc2 := 107) (by decide +kernel) rfl trivial ?_
      obtain ⟨a8, σ8, e8, hf⟩ := bI_some hf
      refine h.callV (as := [.ref k1, .int 32]) (rest := []) (by decide +kernel) lk2_50 cwX2_takes kd_4 (kmX2_takes l hk1 e8) rfl (Nat.le_of_ble_eq_true rfl) (Nat.le_of_ble_eq_true rfl) (Nat.le_of_ble_eq_true rfl) ?_
      show V 110 [some (.ref 4), some (.ref k1), some (.int x2), some (.int x3), some (.int a1), none] [.int a8] σ8
      refine h.if_eq (tgt := 149) (show decode cX2_takesStatement 110 = .ok (.ifCond .eq 39, 3) by decide +kernel) (by decide) (fun c15 => ?_) (fun c15 => ?_)
      · rw [if_pos c15] at hf
        refine h.drop (ls' := [some (.ref 4), some (.ref k1), none, none, none, none]) (And.intro rfl (And.intro rfl trivial)) ?_
        exact wX2_takesStatement_149 hm hk1 hf
      · rw [if_neg c15] at hf
        show V 113 [some (.ref 4), some (.ref k1), some (.int x2), some (.int x3), some (.int a1), none] [] σ8
        refine h.run (o := []) (ls' := [some (.ref 4), some (.ref k1), some (.int x2), some (.int x3), some (.int a1), none]) (st' := [.int 3, .int a1, .ref k1, .ref 4]) (σ' := σ8) [(.aload_n 0, 1, 0, 0, 0, 0), (.aload_n 1, 1, 0, 0, 0, 0), (.iload 4, 2, 0, 0, 0, 0), (.iconst 3, 1, 3, 0, 0, 0)] (pc2 := 118) (by decide +kernel) rfl trivial ?_
        obtain ⟨a9, σ9, e9, hf⟩ := bI_some hf
        refine h.callV (as := [.ref k1, .int a1, .int 3]) (rest := []) (by decide +kernel) lk2_53 cwX2_takesNumber kd_4 (kmX2_takesNumber l hk1 e9) rfl (Nat.le_of_ble_eq_true rfl) (Nat.le_of_ble_eq_true rfl) (Nat.le_of_ble_eq_true rfl) ?_
        show V 121 [some (.ref 4), some (.ref k1), some (.int x2), some (.int x3), some (.int a1), none] [.int a9] σ9
        refine h.if_eq (tgt := 149) (show decode cX2_takesStatement 121 = .ok (.ifCond .eq 28, 3) by decide +kernel) (by decide) (fun c14 => ?_) (fun c14 => ?_)
        · rw [if_pos c14] at hf
          refine h.drop (ls' := [some (.ref 4), some (.ref k1), none, none, none, none]) (And.intro rfl (And.intro rfl trivial)) ?_
          exact wX2_takesStatement_149 hm hk1 hf
        · rw [if_neg c14] at hf
          show V 124 [some (.ref 4), some (.ref k1), some (.int x2), some (.int x3), some (.int a1), none] [] σ9
          refine h.run (o := []) (ls' := [some (.ref 4), some (.ref k1), some (.int x2), some (.int x3), some (.int a1), none]) (st' := [.int 32, .ref k1, .ref 4]) (σ' := σ9) [(.aload_n 0, 1, 0, 0, 0, 0), (.aload_n 1, 1, 0, 0, 0, 0), (.bipush 32, 2, 32, 0, 0, 0)] (pc2 := 128) (by decide +kernel) rfl trivial ?_
          obtain ⟨a10, σ10, e10, hf⟩ := bI_some hf
          refine h.callV (as := [.ref k1, .int 32]) (rest := []) (by decide +kernel) lk2_50 cwX2_takes kd_4 (kmX2_takes l hk1 e10) rfl (Nat.le_of_ble_eq_true rfl) (Nat.le_of_ble_eq_true rfl) (Nat.le_of_ble_eq_true rfl) ?_
          show V 131 [some (.ref 4), some (.ref k1), some (.int x2), some (.int x3), some (.int a1), none] [.int a10] σ10
          refine h.if_eq (tgt := 149) (show decode cX2_takesStatement 131 = .ok (.ifCond .eq 18, 3) by decide +kernel) (by decide) (fun c13 => ?_) (fun c13 => ?_)
          · rw [if_pos c13] at hf
            refine h.drop (ls' := [some (.ref 4), some (.ref k1), none, none, none, none]) (And.intro rfl (And.intro rfl trivial)) ?_
            exact wX2_takesStatement_149 hm hk1 hf
          · rw [if_neg c13] at hf
            show V 134 [some (.ref 4), some (.ref k1), some (.int x2), some (.int x3), some (.int a1), none] [] σ10
            refine h.run (o := []) (ls' := [some (.ref 4), some (.ref k1), some (.int x2), some (.int x3), some (.int a1), none]) (st' := [.int 4, .int a1, .ref k1, .ref 4]) (σ' := σ10) [(.aload_n 0, 1, 0, 0, 0, 0), (.aload_n 1, 1, 0, 0, 0, 0), (.iload 4, 2, 0, 0, 0, 0), (.iconst 4, 1, 4, 0, 0, 0)] (pc2 := 139) (by decide +kernel) rfl trivial ?_
            obtain ⟨a11, σ11, e11, hf⟩ := bI_some hf
            refine h.callV (as := [.ref k1, .int a1, .int 4]) (rest := []) (by decide +kernel) lk2_53 cwX2_takesNumber kd_4 (kmX2_takesNumber l hk1 e11) rfl (Nat.le_of_ble_eq_true rfl) (Nat.le_of_ble_eq_true rfl) (Nat.le_of_ble_eq_true rfl) ?_
            show V 142 [some (.ref 4), some (.ref k1), some (.int x2), some (.int x3), some (.int a1), none] [.int a11] σ11
            refine h.if_eq (tgt := 149) (show decode cX2_takesStatement 142 = .ok (.ifCond .eq 7, 3) by decide +kernel) (by decide) (fun c12 => ?_) (fun c12 => ?_)
            · rw [if_pos c12] at hf
              refine h.drop (ls' := [some (.ref 4), some (.ref k1), none, none, none, none]) (And.intro rfl (And.intro rfl trivial)) ?_
              exact wX2_takesStatement_149 hm hk1 hf
            · rw [if_neg c12] at hf
              show V 145 [some (.ref 4), some (.ref k1), some (.int x2), some (.int x3), some (.int a1), none] [] σ11
              refine h.run (o := []) (ls' := [some (.ref 4), some (.ref k1), some (.int x2), some (.int x3), some (.int a1), none]) (st' := [.int 1]) (σ' := σ11) [(.iconst 1, 1, 1, 0, 0, 0), (.goto 4, 3, 0, 0, 0, 150)] (pc2 := 150) (by decide +kernel) rfl trivial ?_
              refine h.drop (ls' := [some (.ref 4), some (.ref k1), none, none, none, none]) (And.intro rfl (And.intro rfl trivial)) ?_
              exact wX2_takesStatement_150 hm hk1 hf
def fX2_takesStatement (k1 : Nat) (σ : ST) : Option (Int32 × ST) :=
  bR (fX3_read k1 (σ.1 4 1) σ) fun a1 =>
  if a1 = 115 then
    fX2_takesStatement_46 k1 (σ.1 4 1) a1 σ
  else
    if a1 = 109 then
      fX2_takesStatement_46 k1 (σ.1 4 1) a1 σ
    else
      if a1 = 120 then
        fX2_takesStatement_46 k1 (σ.1 4 1) a1 σ
      else
        if a1 = 99 then
          fX2_takesStatement_46 k1 (σ.1 4 1) a1 σ
        else
          if a1 = 116 then
            fX2_takesStatement_46 k1 (σ.1 4 1) a1 σ
          else
            some (0, σ)
set_option maxHeartbeats 4000000 in
theorem kmX2_takesStatement (l : Launch) {k1 : Nat} {σ : ST} {r : Int32} {τ : ST} (hk1 : kd k1 = 3) (hf : fX2_takesStatement k1 σ = some (r, τ)) : KM l yX2_takesStatement cX2_takesStatement 6 (some .boolean) 4 96 [.ref 4, .ref k1] σ (some (.int r)) τ := by
  refine KM.intro (ow := 2) (by decide +kernel) rfl (Nat.le_of_ble_eq_true rfl) (fun V hm => ?_)
  show V 0 [some (.ref 4), some (.ref k1), none, none, none, none] [] σ
  have h := hm.bd
  unfold fX2_takesStatement at hf
  refine h.run (o := [kd 4 = 2, kd 4 = 2]) (ls' := [some (.ref 4), some (.ref k1), some (.int (σ.1 4 1)), none, none, none]) (st' := [.int (σ.1 4 1), .ref k1]) (σ' := σ) [(.aload_n 0, 1, 0, 0, 0, 0), (.getfield 24, 3, 0, 0, 2, 1), (.istore_n 2, 1, 0, 0, 0, 0), (.aload_n 1, 1, 0, 0, 0, 0), (.aload_n 0, 1, 0, 0, 0, 0), (.getfield 24, 3, 0, 0, 2, 1)] (pc2 := 10) (by decide +kernel) rfl (And.intro kd_4 (And.intro kd_4 trivial)) ?_
  obtain ⟨a1, e1, hf⟩ := bR_some hf
  refine h.callV (as := [.int (σ.1 4 1)]) (rest := []) (by decide +kernel) lk2_34 cwX3_read hk1 (kmX3_read l hk1 e1) rfl (Nat.le_of_ble_eq_true rfl) (Nat.le_of_ble_eq_true rfl) (Nat.le_of_ble_eq_true rfl) ?_
  show V 13 [some (.ref 4), some (.ref k1), some (.int (σ.1 4 1)), none, none, none] [.int a1] σ
  refine h.run (o := []) (ls' := [some (.ref 4), some (.ref k1), some (.int (σ.1 4 1)), some (.int a1), none, none]) (st' := [.int 115, .int a1]) (σ' := σ) [(.istore_n 3, 1, 0, 0, 0, 0), (.iload_n 3, 1, 0, 0, 0, 0), (.bipush 115, 2, 115, 0, 0, 0)] (pc2 := 17) (by decide +kernel) rfl trivial ?_
  refine h.icmp_eq (tgt := 46) (show decode cX2_takesStatement 17 = .ok (.if_icmp .eq 29, 3) by decide +kernel) (by decide) (fun c6 => ?_) (fun c6 => ?_)
  · rw [if_pos c6] at hf
    exact wX2_takesStatement_46 hm hk1 hf
  · rw [if_neg c6] at hf
    show V 20 [some (.ref 4), some (.ref k1), some (.int (σ.1 4 1)), some (.int a1), none, none] [] σ
    refine h.run (o := []) (ls' := [some (.ref 4), some (.ref k1), some (.int (σ.1 4 1)), some (.int a1), none, none]) (st' := [.int 109, .int a1]) (σ' := σ) [(.iload_n 3, 1, 0, 0, 0, 0), (.bipush 109, 2, 109, 0, 0, 0)] (pc2 := 23) (by decide +kernel) rfl trivial ?_
    refine h.icmp_eq (tgt := 46) (show decode cX2_takesStatement 23 = .ok (.if_icmp .eq 23, 3) by decide +kernel) (by decide) (fun c5 => ?_) (fun c5 => ?_)
    · rw [if_pos c5] at hf
      exact wX2_takesStatement_46 hm hk1 hf
    · rw [if_neg c5] at hf
      show V 26 [some (.ref 4), some (.ref k1), some (.int (σ.1 4 1)), some (.int a1), none, none] [] σ
      refine h.run (o := []) (ls' := [some (.ref 4), some (.ref k1), some (.int (σ.1 4 1)), some (.int a1), none, none]) (st' := [.int 120, .int a1]) (σ' := σ) [(.iload_n 3, 1, 0, 0, 0, 0), (.bipush 120, 2, 120, 0, 0, 0)] (pc2 := 29) (by decide +kernel) rfl trivial ?_
      refine h.icmp_eq (tgt := 46) (show decode cX2_takesStatement 29 = .ok (.if_icmp .eq 17, 3) by decide +kernel) (by decide) (fun c4 => ?_) (fun c4 => ?_)
      · rw [if_pos c4] at hf
        exact wX2_takesStatement_46 hm hk1 hf
      · rw [if_neg c4] at hf
        show V 32 [some (.ref 4), some (.ref k1), some (.int (σ.1 4 1)), some (.int a1), none, none] [] σ
        refine h.run (o := []) (ls' := [some (.ref 4), some (.ref k1), some (.int (σ.1 4 1)), some (.int a1), none, none]) (st' := [.int 99, .int a1]) (σ' := σ) [(.iload_n 3, 1, 0, 0, 0, 0), (.bipush 99, 2, 99, 0, 0, 0)] (pc2 := 35) (by decide +kernel) rfl trivial ?_
        refine h.icmp_eq (tgt := 46) (show decode cX2_takesStatement 35 = .ok (.if_icmp .eq 11, 3) by decide +kernel) (by decide) (fun c3 => ?_) (fun c3 => ?_)
        · rw [if_pos c3] at hf
          exact wX2_takesStatement_46 hm hk1 hf
        · rw [if_neg c3] at hf
          show V 38 [some (.ref 4), some (.ref k1), some (.int (σ.1 4 1)), some (.int a1), none, none] [] σ
          refine h.run (o := []) (ls' := [some (.ref 4), some (.ref k1), some (.int (σ.1 4 1)), some (.int a1), none, none]) (st' := [.int 116, .int a1]) (σ' := σ) [(.iload_n 3, 1, 0, 0, 0, 0), (.bipush 116, 2, 116, 0, 0, 0)] (pc2 := 41) (by decide +kernel) rfl trivial ?_
          refine h.icmp_eq (tgt := 46) (show decode cX2_takesStatement 41 = .ok (.if_icmp .eq 5, 3) by decide +kernel) (by decide) (fun c2 => ?_) (fun c2 => ?_)
          · rw [if_pos c2] at hf
            exact wX2_takesStatement_46 hm hk1 hf
          · rw [if_neg c2] at hf
            show V 44 [some (.ref 4), some (.ref k1), some (.int (σ.1 4 1)), some (.int a1), none, none] [] σ
            refine h.run (o := []) (ls' := [some (.ref 4), some (.ref k1), some (.int (σ.1 4 1)), some (.int a1), none, none]) (st' := [.int 0]) (σ' := σ) [(.iconst 0, 1, 0, 0, 0, 0)] (pc2 := 45) (by decide +kernel) rfl trivial ?_
            obtain ⟨rfl, rfl⟩ := Prod.mk.inj (Option.some.inj hf)
            exact hm.zret (by decide +kernel) rfl
def fX2_takesIn_61 (x2 : Int32) (σ : ST) : Option (Int32 × ST) :=
  gd (isb x2) <|
  some (x2, σ)
set_option maxHeartbeats 4000000 in
theorem wX2_takesIn_61 {l : Launch} {V : Nat → List (Option Value) → List Value → ST → Prop} {r : Int32} {τ : ST} {σ : ST} {x2 : Int32} (hm : BM l 2 cX2_takesIn 4 (some .boolean) 5 121 (some (.int r)) τ V) (hf : fX2_takesIn_61 x2 σ = some (r, τ)) : V 61 [none, none, some (.int x2), none] [] σ := by
  have h := hm.bd
  unfold fX2_takesIn_61 at hf
  refine h.run (o := []) (ls' := [none, none, some (.int x2), none]) (st' := [.int x2]) (σ' := σ) [(.iload_n 2, 1, 0, 0, 0, 0)] (pc2 := 62) (by decide +kernel) rfl trivial ?_
  obtain ⟨g1, hf⟩ := gd_some hf
  obtain ⟨rfl, rfl⟩ := Prod.mk.inj (Option.some.inj hf)
  exact hm.zret (by decide +kernel) g1
def fX2_takesIn_28 (n : Nat) (k1 : Nat) (x2 : Int32) (x3 : Int32) (σ : ST) : Option (Int32 × ST) := match n with
  | 0 => none
  | n + 1 =>
    if 34 ≤ x3 then
      fX2_takesIn_61 x2 σ
    else
      if x2 = 0 then
        fX2_takesIn_61 x2 σ
      else
        if (σ.1 k1 6) ≤ (σ.1 4 1) then
          fX2_takesIn_61 x2 σ
        else
          bI (fX2_takesStatement k1 σ) fun a1 σ1 =>
          fX2_takesIn_28 n k1 a1 (x3 + 1) σ1
set_option maxHeartbeats 4000000 in
theorem wX2_takesIn_28 {l : Launch} {V : Nat → List (Option Value) → List Value → ST → Prop} {r : Int32} {τ : ST} (hm : BM l 2 cX2_takesIn 4 (some .boolean) 5 121 (some (.int r)) τ V) : ∀ (n : Nat) (k1 : Nat) (x2 : Int32) (x3 : Int32) (σ : ST) (hk1 : kd k1 = 3), fX2_takesIn_28 n k1 x2 x3 σ = some (r, τ) → V 28 [some (.ref 4), some (.ref k1), some (.int x2), some (.int x3)] [] σ := by
  have h := hm.bd
  intro n
  induction n with
  | zero => intro k1 x2 x3 σ hk1 hf; cases hf
  | succ n ih =>
    intro k1 x2 x3 σ hk1 hf
    rw [fX2_takesIn_28] at hf
    refine h.run (o := []) (ls' := [some (.ref 4), some (.ref k1), some (.int x2), some (.int x3)]) (st' := [.int 34, .int x3]) (σ' := σ) [(.iload_n 3, 1, 0, 0, 0, 0), (.bipush 34, 2, 34, 0, 0, 0)] (pc2 := 31) (by decide +kernel) rfl trivial ?_
    refine h.icmp_ge (tgt := 61) (show decode cX2_takesIn 31 = .ok (.if_icmp .ge 30, 3) by decide +kernel) (by decide) (fun c4 => ?_) (fun c4 => ?_)
    · rw [if_pos c4] at hf
      refine h.drop (ls' := [none, none, some (.int x2), none]) (And.intro rfl trivial) ?_
      exact wX2_takesIn_61 hm hf
    · rw [if_neg c4] at hf
      show V 34 [some (.ref 4), some (.ref k1), some (.int x2), some (.int x3)] [] σ
      refine h.run (o := []) (ls' := [some (.ref 4), some (.ref k1), some (.int x2), some (.int x3)]) (st' := [.int x2]) (σ' := σ) [(.iload_n 2, 1, 0, 0, 0, 0)] (pc2 := 35) (by decide +kernel) rfl trivial ?_
      refine h.if_eq (tgt := 61) (show decode cX2_takesIn 35 = .ok (.ifCond .eq 26, 3) by decide +kernel) (by decide) (fun c3 => ?_) (fun c3 => ?_)
      · rw [if_pos c3] at hf
        refine h.drop (ls' := [none, none, some (.int x2), none]) (And.intro rfl trivial) ?_
        exact wX2_takesIn_61 hm hf
      · rw [if_neg c3] at hf
        show V 38 [some (.ref 4), some (.ref k1), some (.int x2), some (.int x3)] [] σ
        refine h.run (o := [kd 4 = 2, kd k1 = 3]) (ls' := [some (.ref 4), some (.ref k1), some (.int x2), some (.int x3)]) (st' := [.int (σ.1 k1 6), .int (σ.1 4 1)]) (σ' := σ) [(.aload_n 0, 1, 0, 0, 0, 0), (.getfield 24, 3, 0, 0, 2, 1), (.aload_n 1, 1, 0, 0, 0, 0), (.getfield 27, 3, 0, 0, 3, 6)] (pc2 := 46) (by decide +kernel) rfl (And.intro kd_4 (And.intro hk1 trivial)) ?_
        refine h.icmp_ge (tgt := 61) (show decode cX2_takesIn 46 = .ok (.if_icmp .ge 15, 3) by decide +kernel) (by decide) (fun c2 => ?_) (fun c2 => ?_)
        · rw [if_pos c2] at hf
          refine h.drop (ls' := [none, none, some (.int x2), none]) (And.intro rfl trivial) ?_
          exact wX2_takesIn_61 hm hf
        · rw [if_neg c2] at hf
          show V 49 [some (.ref 4), some (.ref k1), some (.int x2), some (.int x3)] [] σ
          refine h.run (o := []) (ls' := [some (.ref 4), some (.ref k1), some (.int x2), some (.int x3)]) (st' := [.ref k1, .ref 4]) (σ' := σ) [(.aload_n 0, 1, 0, 0, 0, 0), (.aload_n 1, 1, 0, 0, 0, 0)] (pc2 := 51) (by decide +kernel) rfl trivial ?_
          obtain ⟨a1, σ1, e1, hf⟩ := bI_some hf
          refine h.callV (as := [.ref k1]) (rest := []) (by decide +kernel) lk2_30 cwX2_takesStatement kd_4 (kmX2_takesStatement l hk1 e1) rfl (Nat.le_of_ble_eq_true rfl) (Nat.le_of_ble_eq_true rfl) (Nat.le_of_ble_eq_true rfl) ?_
          show V 54 [some (.ref 4), some (.ref k1), some (.int x2), some (.int x3)] [.int a1] σ1
          refine h.run (o := []) (ls' := [some (.ref 4), some (.ref k1), some (.int a1), some (.int (x3 + 1))]) (st' := []) (σ' := σ1) [(.istore_n 2, 1, 0, 0, 0, 0), (.iinc 3 1, 3, 1, 0, 0, 0), (.goto (-30), 3, 0, 0, 0, 28)] (pc2 := 28) (by decide +kernel) rfl trivial ?_
          exact ih k1 a1 (x3 + 1) _ hk1 hf
def fX2_takesIn_25 (k1 : Nat) (t0 : Int32) (σ : ST) : Option (Int32 × ST) :=
  fX2_takesIn_28 FU k1 t0 0 σ
set_option maxHeartbeats 4000000 in
theorem wX2_takesIn_25 {l : Launch} {V : Nat → List (Option Value) → List Value → ST → Prop} {r : Int32} {τ : ST} {σ : ST} {k1 : Nat} {t0 : Int32} (hm : BM l 2 cX2_takesIn 4 (some .boolean) 5 121 (some (.int r)) τ V) (hk1 : kd k1 = 3) (hf : fX2_takesIn_25 k1 t0 σ = some (r, τ)) : V 25 [some (.ref 4), some (.ref k1), none, none] [.int t0] σ := by
  have h := hm.bd
  unfold fX2_takesIn_25 at hf
  refine h.run (o := []) (ls' := [some (.ref 4), some (.ref k1), some (.int t0), some (.int 0)]) (st' := []) (σ' := σ) [(.istore_n 2, 1, 0, 0, 0, 0), (.iconst 0, 1, 0, 0, 0, 0), (.istore_n 3, 1, 0, 0, 0, 0)] (pc2 := 28) (by decide +kernel) rfl trivial ?_
  exact wX2_takesIn_28 hm FU k1 t0 0 _ hk1 hf
def fX2_takesIn (k1 : Nat) (σ : ST) : Option (Int32 × ST) :=
  if ((setI (setI σ 18 3 0) 4 1 0).1 k1 6) ≤ 0 then
    fX2_takesIn_25 k1 0 (setI (setI σ 18 3 0) 4 1 0)
  else
    fX2_takesIn_25 k1 1 (setI (setI σ 18 3 0) 4 1 0)
set_option maxHeartbeats 4000000 in
theorem kmX2_takesIn (l : Launch) {k1 : Nat} {σ : ST} {r : Int32} {τ : ST} (hk1 : kd k1 = 3) (hf : fX2_takesIn k1 σ = some (r, τ)) : KM l yX2_takesIn cX2_takesIn 4 (some .boolean) 5 121 [.ref 4, .ref k1] σ (some (.int r)) τ := by
  refine KM.intro (ow := 2) (by decide +kernel) rfl (Nat.le_of_ble_eq_true rfl) (fun V hm => ?_)
  show V 0 [some (.ref 4), some (.ref k1), none, none] [] σ
  have h := hm.bd
  unfold fX2_takesIn at hf
  refine h.run (o := [kd 4 = 2, kd 18 = 4, kd 4 = 2, kd k1 = 3]) (ls' := [some (.ref 4), some (.ref k1), none, none]) (st' := [.int ((setI (setI σ 18 3 0) 4 1 0).1 k1 6)]) (σ' := setI (setI σ 18 3 0) 4 1 0) [(.aload_n 0, 1, 0, 0, 0, 0), (.getfield 14, 3, 0, 0, 2, 0), (.iconst 0, 1, 0, 0, 0, 0), (.putfield 20, 3, 0, 0, 4, 3), (.aload_n 0, 1, 0, 0, 0, 0), (.iconst 0, 1, 0, 0, 0, 0), (.putfield 24, 3, 0, 0, 2, 1), (.aload_n 1, 1, 0, 0, 0, 0), (.getfield 27, 3, 0, 0, 3, 6)] (pc2 := 17) (by decide +kernel) rfl (And.intro kd_4 (And.intro kd_18 (And.intro kd_4 (And.intro hk1 trivial)))) ?_
  refine h.if_le (tgt := 24) (show decode cX2_takesIn 17 = .ok (.ifCond .le 7, 3) by decide +kernel) (by decide) (fun c1 => ?_) (fun c1 => ?_)
  · rw [if_pos c1] at hf
    refine h.run (o := []) (ls' := [some (.ref 4), some (.ref k1), none, none]) (st' := [.int 0]) (σ' := setI (setI σ 18 3 0) 4 1 0) [(.iconst 0, 1, 0, 0, 0, 0)] (pc2 := 25) (by decide +kernel) rfl trivial ?_
    exact wX2_takesIn_25 hm hk1 hf
  · rw [if_neg c1] at hf
    show V 20 [some (.ref 4), some (.ref k1), none, none] [] (setI (setI σ 18 3 0) 4 1 0)
    refine h.run (o := []) (ls' := [some (.ref 4), some (.ref k1), none, none]) (st' := [.int 1]) (σ' := setI (setI σ 18 3 0) 4 1 0) [(.iconst 1, 1, 1, 0, 0, 0), (.goto 4, 3, 0, 0, 0, 25)] (pc2 := 25) (by decide +kernel) rfl trivial ?_
    exact wX2_takesIn_25 hm hk1 hf
