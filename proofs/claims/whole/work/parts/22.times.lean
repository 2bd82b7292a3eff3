/-! Printed by wip/whole/prt.py: functions and walks. -/
def fX5_all_67 (kt_51 : Int32 → ST → Option (Int32 × ST)) (n : Nat) (x2 : Int32) (x3 : Int32) (σ : ST) : Option (Int32 × ST) := match n with
  | 0 => none
  | n + 1 =>
    if (σ.1 8 3) ≤ x3 then
      kt_51 (x2 + 1) σ
    else
      bI (fX5_playAndWriteDown x2 x3 0 σ) fun a1 σ1 =>
      fX5_all_67 kt_51 n x2 (x3 + 1) σ1
set_option maxHeartbeats 4000000 in
theorem wX5_all_67 {l : Launch} {V : Nat → List (Option Value) → List Value → ST → Prop} {r : Int32} {τ : ST} {kt_51 : Int32 → ST → Option (Int32 × ST)} (hm : BM l 5 cX5_all 4 (some .int) 6 138 (some (.int r)) τ V) (hkt_51 : ∀ (x2 : Int32) (σ : ST), kt_51 x2 σ = some (r, τ) → V 51 [some (.ref 0), none, some (.int x2), none] [] σ) : ∀ (n : Nat) (x2 : Int32) (x3 : Int32) (σ : ST), fX5_all_67 kt_51 n x2 x3 σ = some (r, τ) → V 67 [some (.ref 0), none, some (.int x2), some (.int x3)] [] σ := by
  have h := hm.bd
  intro n
  induction n with
  | zero => intro x2 x3 σ hf; cases hf
  | succ n ih =>
    intro x2 x3 σ hf
    rw [fX5_all_67] at hf
    refine h.run (o := [kd 0 = 5, kd 1 = 0, kd 8 = 4]) (ls' := [some (.ref 0), none, some (.int x2), some (.int x3)]) (st' := [.int (σ.1 8 3), .int x3]) (σ' := σ) [(.iload_n 3, 1, 0, 0, 0, 0), (.aload_n 0, 1, 0, 0, 0, 0), (.getfield 10, 3, 0, 0, 5, 0), (.getfield 91, 3, 0, 0, 0, 4), (.getfield 71, 3, 0, 0, 4, 3)] (pc2 := 78) (by decide +kernel) rfl (And.intro kd_0 (And.intro kd_1 (And.intro kd_8 trivial))) ?_
    refine h.icmp_ge (tgt := 95) (show decode cX5_all 78 = .ok (.if_icmp .ge 17, 3) by decide +kernel) (by decide) (fun c2 => ?_) (fun c2 => ?_)
    · rw [if_pos c2] at hf
      refine h.run (o := []) (ls' := [some (.ref 0), none, some (.int (x2 + 1)), some (.int x3)]) (st' := []) (σ' := σ) [(.iinc 2 1, 3, 1, 0, 0, 0), (.goto (-47), 3, 0, 0, 0, 51)] (pc2 := 51) (by decide +kernel) rfl trivial ?_
      refine h.drop (ls' := [some (.ref 0), none, some (.int (x2 + 1)), none]) (And.intro rfl (And.intro rfl trivial)) ?_
      exact hkt_51 (x2 + 1) _ hf
    · rw [if_neg c2] at hf
      show V 81 [some (.ref 0), none, some (.int x2), some (.int x3)] [] σ
      refine h.run (o := []) (ls' := [some (.ref 0), none, some (.int x2), some (.int x3)]) (st' := [.int 0, .int x3, .int x2, .ref 0]) (σ' := σ) [(.aload_n 0, 1, 0, 0, 0, 0), (.iload_n 2, 1, 0, 0, 0, 0), (.iload_n 3, 1, 0, 0, 0, 0), (.iconst 0, 1, 0, 0, 0, 0)] (pc2 := 85) (by decide +kernel) rfl trivial ?_
      obtain ⟨a1, σ1, e1, hf⟩ := bI_some hf
      refine h.callV (as := [.int x2, .int x3, .int 0]) (rest := []) (by decide +kernel) lk5_121 cwX5_playAndWriteDown kd_0 (kmX5_playAndWriteDown l e1) rfl (Nat.le_of_ble_eq_true rfl) (Nat.le_of_ble_eq_true rfl) (Nat.le_of_ble_eq_true rfl) ?_
      show V 88 [some (.ref 0), none, some (.int x2), some (.int x3)] [.int a1] σ1
      refine h.run (o := []) (ls' := [some (.ref 0), none, some (.int x2), some (.int (x3 + 1))]) (st' := []) (σ' := σ1) [(.pop, 1, 0, 0, 0, 0), (.iinc 3 1, 3, 1, 0, 0, 0), (.goto (-25), 3, 0, 0, 0, 67)] (pc2 := 67) (by decide +kernel) rfl trivial ?_
      exact ih x2 (x3 + 1) _ hf
def fX5_all_51 (n : Nat) (x2 : Int32) (σ : ST) : Option (Int32 × ST) := match n with
  | 0 => none
  | n + 1 =>
    if (σ.1 6 3) ≤ x2 then
      some (σ.1 10 3, σ)
    else
      fX5_all_67 (fX5_all_51 n) FU x2 0 σ
set_option maxHeartbeats 4000000 in
theorem wX5_all_51 {l : Launch} {V : Nat → List (Option Value) → List Value → ST → Prop} {r : Int32} {τ : ST} (hm : BM l 5 cX5_all 4 (some .int) 6 138 (some (.int r)) τ V) : ∀ (n : Nat) (x2 : Int32) (σ : ST), fX5_all_51 n x2 σ = some (r, τ) → V 51 [some (.ref 0), none, some (.int x2), none] [] σ := by
  have h := hm.bd
  intro n
  induction n with
  | zero => intro x2 σ hf; cases hf
  | succ n ih =>
    intro x2 σ hf
    rw [fX5_all_51] at hf
    refine h.run (o := [kd 0 = 5, kd 1 = 0, kd 6 = 4]) (ls' := [some (.ref 0), none, some (.int x2), none]) (st' := [.int (σ.1 6 3), .int x2]) (σ' := σ) [(.iload_n 2, 1, 0, 0, 0, 0), (.aload_n 0, 1, 0, 0, 0, 0), (.getfield 10, 3, 0, 0, 5, 0), (.getfield 80, 3, 0, 0, 0, 3), (.getfield 71, 3, 0, 0, 4, 3)] (pc2 := 62) (by decide +kernel) rfl (And.intro kd_0 (And.intro kd_1 (And.intro kd_6 trivial))) ?_
    refine h.icmp_ge (tgt := 101) (show decode cX5_all 62 = .ok (.if_icmp .ge 39, 3) by decide +kernel) (by decide) (fun c1 => ?_) (fun c1 => ?_)
    · rw [if_pos c1] at hf
      refine h.run (o := [kd 0 = 5, kd 1 = 0, kd 10 = 4]) (ls' := [some (.ref 0), none, some (.int x2), none]) (st' := [.int (σ.1 10 3)]) (σ' := σ) [(.aload_n 0, 1, 0, 0, 0, 0), (.getfield 10, 3, 0, 0, 5, 0), (.getfield 104, 3, 0, 0, 0, 5), (.getfield 71, 3, 0, 0, 4, 3)] (pc2 := 111) (by decide +kernel) rfl (And.intro kd_0 (And.intro kd_1 (And.intro kd_10 trivial))) ?_
      obtain ⟨rfl, rfl⟩ := Prod.mk.inj (Option.some.inj hf)
      exact hm.iret (by decide +kernel)
    · rw [if_neg c1] at hf
      show V 65 [some (.ref 0), none, some (.int x2), none] [] σ
      refine h.run (o := []) (ls' := [some (.ref 0), none, some (.int x2), some (.int 0)]) (st' := []) (σ' := σ) [(.iconst 0, 1, 0, 0, 0, 0), (.istore_n 3, 1, 0, 0, 0, 0)] (pc2 := 67) (by decide +kernel) rfl trivial ?_
      exact wX5_all_67 hm ih FU x2 0 _ hf
def fX5_all (σ : ST) : Option (Int32 × ST) :=
  if ((σ.1 6 3) * (σ.1 8 3)) ≤ (100 - (σ.1 10 3)) then
    if ((σ.1 6 3) * (σ.1 8 3)) = 0 then
      some ((-3), σ)
    else
      fX5_all_51 FU 0 σ
  else
    some ((-2), σ)
set_option maxHeartbeats 4000000 in
theorem kmX5_all (l : Launch) {σ : ST} {r : Int32} {τ : ST} (hf : fX5_all σ = some (r, τ)) : KM l yX5_all cX5_all 4 (some .int) 6 138 [.ref 0] σ (some (.int r)) τ := by
  refine KM.intro (ow := 5) (by decide +kernel) rfl (Nat.le_of_ble_eq_true rfl) (fun V hm => ?_)
  show V 0 [some (.ref 0), none, none, none] [] σ
  have h := hm.bd
  unfold fX5_all at hf
  refine h.run (o := [kd 0 = 5, kd 1 = 0, kd 6 = 4, kd 0 = 5, kd 1 = 0, kd 8 = 4, kd 0 = 5, kd 1 = 0, kd 10 = 4]) (ls' := [some (.ref 0), some (.int ((σ.1 6 3) * (σ.1 8 3))), none, none]) (st' := [.int (100 - (σ.1 10 3)), .int ((σ.1 6 3) * (σ.1 8 3))]) (σ' := σ) [(.aload_n 0, 1, 0, 0, 0, 0), (.getfield 10, 3, 0, 0, 5, 0), (.getfield 80, 3, 0, 0, 0, 3), (.getfield 71, 3, 0, 0, 4, 3), (.aload_n 0, 1, 0, 0, 0, 0), (.getfield 10, 3, 0, 0, 5, 0), (.getfield 91, 3, 0, 0, 0, 4), (.getfield 71, 3, 0, 0, 4, 3), (.imul, 1, 0, 0, 0, 0), (.istore_n 1, 1, 0, 0, 0, 0), (.iload_n 1, 1, 0, 0, 0, 0), (.bipush 100, 2, 100, 0, 0, 0), (.aload_n 0, 1, 0, 0, 0, 0), (.getfield 10, 3, 0, 0, 5, 0), (.getfield 104, 3, 0, 0, 0, 5), (.getfield 71, 3, 0, 0, 4, 3), (.isub, 1, 0, 0, 0, 0)] (pc2 := 36) (by decide +kernel) rfl (And.intro kd_0 (And.intro kd_1 (And.intro kd_6 (And.intro kd_0 (And.intro kd_1 (And.intro kd_8 (And.intro kd_0 (And.intro kd_1 (And.intro kd_10 trivial))))))))) ?_
  refine h.icmp_le (tgt := 42) (show decode cX5_all 36 = .ok (.if_icmp .le 6, 3) by decide +kernel) (by decide) (fun c2 => ?_) (fun c2 => ?_)
  · rw [if_pos c2] at hf
    refine h.run (o := []) (ls' := [some (.ref 0), some (.int ((σ.1 6 3) * (σ.1 8 3))), none, none]) (st' := [.int ((σ.1 6 3) * (σ.1 8 3))]) (σ' := σ) [(.iload_n 1, 1, 0, 0, 0, 0)] (pc2 := 43) (by decide +kernel) rfl trivial ?_
    refine h.if_ne (tgt := 49) (show decode cX5_all 43 = .ok (.ifCond .ne 6, 3) by decide +kernel) (by decide) (fun c1 => ?_) (fun c1 => ?_)
    · rw [if_neg c1] at hf
      refine h.run (o := []) (ls' := [some (.ref 0), some (.int ((σ.1 6 3) * (σ.1 8 3))), some (.int 0), none]) (st' := []) (σ' := σ) [(.iconst 0, 1, 0, 0, 0, 0), (.istore_n 2, 1, 0, 0, 0, 0)] (pc2 := 51) (by decide +kernel) rfl trivial ?_
      refine h.drop (ls' := [some (.ref 0), none, some (.int 0), none]) (And.intro rfl (And.intro rfl trivial)) ?_
      exact wX5_all_51 hm FU 0 _ hf
    · rw [if_pos c1] at hf
      show V 46 [some (.ref 0), some (.int ((σ.1 6 3) * (σ.1 8 3))), none, none] [] σ
      refine h.run (o := []) (ls' := [some (.ref 0), some (.int ((σ.1 6 3) * (σ.1 8 3))), none, none]) (st' := [.int (-3)]) (σ' := σ) [(.bipush (-3), 2, (-3), 0, 0, 0)] (pc2 := 48) (by decide +kernel) rfl trivial ?_
      obtain ⟨rfl, rfl⟩ := Prod.mk.inj (Option.some.inj hf)
      exact hm.iret (by decide +kernel)
  · rw [if_neg c2] at hf
    show V 39 [some (.ref 0), some (.int ((σ.1 6 3) * (σ.1 8 3))), none, none] [] σ
    refine h.run (o := []) (ls' := [some (.ref 0), some (.int ((σ.1 6 3) * (σ.1 8 3))), none, none]) (st' := [.int (-2)]) (σ' := σ) [(.bipush (-2), 2, (-2), 0, 0, 0)] (pc2 := 41) (by decide +kernel) rfl trivial ?_
    obtain ⟨rfl, rfl⟩ := Prod.mk.inj (Option.some.inj hf)
    exact hm.iret (by decide +kernel)
def fX5_of_14 (σ : ST) : Option Int32 :=
  some (-1)
set_option maxHeartbeats 4000000 in
theorem wX5_of_14 {l : Launch} {V : Nat → List (Option Value) → List Value → ST → Prop} {r : Int32} {σ : ST} (hm : BM l 5 cX5_of 3 (some .int) 2 46 (some (.int r)) σ V) (hf : fX5_of_14 σ = some r) : V 14 [none, none, none] [] σ := by
  have h := hm.bd
  unfold fX5_of_14 at hf
  refine h.run (o := []) (ls' := [none, none, none]) (st' := [.int (-1)]) (σ' := σ) [(.iconst (-1), 1, (-1), 0, 0, 0)] (pc2 := 15) (by decide +kernel) rfl trivial ?_
  obtain rfl := Option.some.inj hf
  exact hm.iret (by decide +kernel)
def fX5_of (x1 : Int32) (x2 : Int32) (σ : ST) : Option Int32 :=
  if x1 < 0 then
    fX5_of_14 σ
  else
    if x2 < 0 then
      fX5_of_14 σ
    else
      if x2 < 6 then
        if x1 < (σ.1 10 3) then
          bR (fX4_read 10 x1 x2 σ) fun a1 =>
          some a1
        else
          some (-4)
      else
        fX5_of_14 σ
set_option maxHeartbeats 4000000 in
theorem kmX5_of (l : Launch) {x1 : Int32} {x2 : Int32} {σ : ST} {r : Int32} (hf : fX5_of x1 x2 σ = some r) : KM l yX5_of cX5_of 3 (some .int) 2 46 [.ref 0, .int x1, .int x2] σ (some (.int r)) σ := by
  refine KM.intro (ow := 5) (by decide +kernel) rfl (Nat.le_of_ble_eq_true rfl) (fun V hm => ?_)
  show V 0 [some (.ref 0), some (.int x1), some (.int x2)] [] σ
  have h := hm.bd
  unfold fX5_of at hf
  refine h.run (o := []) (ls' := [some (.ref 0), some (.int x1), some (.int x2)]) (st' := [.int x1]) (σ' := σ) [(.iload_n 1, 1, 0, 0, 0, 0)] (pc2 := 1) (by decide +kernel) rfl trivial ?_
  refine h.if_lt (tgt := 14) (show decode cX5_of 1 = .ok (.ifCond .lt 13, 3) by decide +kernel) (by decide) (fun c5 => ?_) (fun c5 => ?_)
  · rw [if_pos c5] at hf
    refine h.drop (ls' := [none, none, none]) trivial ?_
    exact wX5_of_14 hm hf
  · rw [if_neg c5] at hf
    show V 4 [some (.ref 0), some (.int x1), some (.int x2)] [] σ
    refine h.run (o := []) (ls' := [some (.ref 0), some (.int x1), some (.int x2)]) (st' := [.int x2]) (σ' := σ) [(.iload_n 2, 1, 0, 0, 0, 0)] (pc2 := 5) (by decide +kernel) rfl trivial ?_
    refine h.if_lt (tgt := 14) (show decode cX5_of 5 = .ok (.ifCond .lt 9, 3) by decide +kernel) (by decide) (fun c4 => ?_) (fun c4 => ?_)
    · rw [if_pos c4] at hf
      refine h.drop (ls' := [none, none, none]) trivial ?_
      exact wX5_of_14 hm hf
    · rw [if_neg c4] at hf
      show V 8 [some (.ref 0), some (.int x1), some (.int x2)] [] σ
      refine h.run (o := []) (ls' := [some (.ref 0), some (.int x1), some (.int x2)]) (st' := [.int 6, .int x2]) (σ' := σ) [(.iload_n 2, 1, 0, 0, 0, 0), (.bipush 6, 2, 6, 0, 0, 0)] (pc2 := 11) (by decide +kernel) rfl trivial ?_
      refine h.icmp_lt (tgt := 16) (show decode cX5_of 11 = .ok (.if_icmp .lt 5, 3) by decide +kernel) (by decide) (fun c3 => ?_) (fun c3 => ?_)
      · rw [if_pos c3] at hf
        refine h.run (o := [kd 0 = 5, kd 1 = 0, kd 10 = 4]) (ls' := [some (.ref 0), some (.int x1), some (.int x2)]) (st' := [.int (σ.1 10 3), .int x1]) (σ' := σ) [(.iload_n 1, 1, 0, 0, 0, 0), (.aload_n 0, 1, 0, 0, 0, 0), (.getfield 10, 3, 0, 0, 5, 0), (.getfield 104, 3, 0, 0, 0, 5), (.getfield 71, 3, 0, 0, 4, 3)] (pc2 := 27) (by decide +kernel) rfl (And.intro kd_0 (And.intro kd_1 (And.intro kd_10 trivial))) ?_
        refine h.icmp_lt (tgt := 33) (show decode cX5_of 27 = .ok (.if_icmp .lt 6, 3) by decide +kernel) (by decide) (fun c2 => ?_) (fun c2 => ?_)
        · rw [if_pos c2] at hf
          refine h.run (o := [kd 0 = 5, kd 1 = 0]) (ls' := [some (.ref 0), some (.int x1), some (.int x2)]) (st' := [.int x2, .int x1, .ref 10]) (σ' := σ) [(.aload_n 0, 1, 0, 0, 0, 0), (.getfield 10, 3, 0, 0, 5, 0), (.getfield 104, 3, 0, 0, 0, 5), (.iload_n 1, 1, 0, 0, 0, 0), (.iload_n 2, 1, 0, 0, 0, 0)] (pc2 := 42) (by decide +kernel) rfl (And.intro kd_0 (And.intro kd_1 trivial)) ?_
          obtain ⟨a1, e1, hf⟩ := bR_some hf
          refine h.callV (as := [.int x1, .int x2]) (rest := []) (by decide +kernel) lk5_87 cwX4_read kd_10 (kmX4_read l kd_10 e1) rfl (Nat.le_of_ble_eq_true rfl) (Nat.le_of_ble_eq_true rfl) (Nat.le_of_ble_eq_true rfl) ?_
          show V 45 [some (.ref 0), some (.int x1), some (.int x2)] [.int a1] σ
          obtain rfl := Option.some.inj hf
          exact hm.iret (by decide +kernel)
        · rw [if_neg c2] at hf
          show V 30 [some (.ref 0), some (.int x1), some (.int x2)] [] σ
          refine h.run (o := []) (ls' := [some (.ref 0), some (.int x1), some (.int x2)]) (st' := [.int (-4)]) (σ' := σ) [(.bipush (-4), 2, (-4), 0, 0, 0)] (pc2 := 32) (by decide +kernel) rfl trivial ?_
          obtain rfl := Option.some.inj hf
          exact hm.iret (by decide +kernel)
      · rw [if_neg c3] at hf
        show V 14 [some (.ref 0), some (.int x1), some (.int x2)] [] σ
        refine h.drop (ls' := [none, none, none]) trivial ?_
        exact wX5_of_14 hm hf
def fX5_sumSent_23 (σ : ST) : Option Int32 :=
  some (-1)
set_option maxHeartbeats 4000000 in
theorem wX5_sumSent_23 {l : Launch} {V : Nat → List (Option Value) → List Value → ST → Prop} {r : Int32} {σ : ST} (hm : BM l 5 cX5_sumSent 5 (some .int) 3 71 (some (.int r)) σ V) (hf : fX5_sumSent_23 σ = some r) : V 23 [none, none, none, none, none] [] σ := by
  have h := hm.bd
  unfold fX5_sumSent_23 at hf
  refine h.run (o := []) (ls' := [none, none, none, none, none]) (st' := [.int (-1)]) (σ' := σ) [(.iconst (-1), 1, (-1), 0, 0, 0)] (pc2 := 24) (by decide +kernel) rfl trivial ?_
  obtain rfl := Option.some.inj hf
  exact hm.iret (by decide +kernel)
def fX5_sumSent (x1 : Int32) (x2 : Int32) (σ : ST) : Option Int32 :=
  bR (fX4_has 6 x1 σ) fun a1 =>
  if a1 = 0 then
    fX5_sumSent_23 σ
  else
    if x2 < 0 then
      fX5_sumSent_23 σ
    else
      if x2 ≤ 2 then
        bR (fX4_sumWhere 10 0 x1 2 σ) fun a2 =>
        bR (fX4_sumWhere 10 0 x1 4 σ) fun a3 =>
        if x2 = 0 then
          some a2
        else
          if x2 = 1 then
            some a3
          else
            bR (fX4_rowsWhere 10 0 x1 σ) fun a4 =>
            some ((((σ.1 1 0) * a4) - a2) + a3)
      else
        fX5_sumSent_23 σ
set_option maxHeartbeats 4000000 in
theorem kmX5_sumSent (l : Launch) {x1 : Int32} {x2 : Int32} {σ : ST} {r : Int32} (hf : fX5_sumSent x1 x2 σ = some r) : KM l yX5_sumSent cX5_sumSent 5 (some .int) 3 71 [.ref 0, .int x1, .int x2] σ (some (.int r)) σ := by
  refine KM.intro (ow := 5) (by decide +kernel) rfl (Nat.le_of_ble_eq_true rfl) (fun V hm => ?_)
  show V 0 [some (.ref 0), some (.int x1), some (.int x2), none, none] [] σ
  have h := hm.bd
  unfold fX5_sumSent at hf
  refine h.run (o := [kd 0 = 5, kd 1 = 0]) (ls' := [some (.ref 0), some (.int x1), some (.int x2), none, none]) (st' := [.int x1, .ref 6]) (σ' := σ) [(.aload_n 0, 1, 0, 0, 0, 0), (.getfield 10, 3, 0, 0, 5, 0), (.getfield 80, 3, 0, 0, 0, 3), (.iload_n 1, 1, 0, 0, 0, 0)] (pc2 := 8) (by decide +kernel) rfl (And.intro kd_0 (And.intro kd_1 trivial)) ?_
  obtain ⟨a1, e1, hf⟩ := bR_some hf
  refine h.callV (as := [.int x1]) (rest := []) (by decide +kernel) lk5_83 cwX4_has kd_6 (kmX4_has l kd_6 e1) rfl (Nat.le_of_ble_eq_true rfl) (Nat.le_of_ble_eq_true rfl) (Nat.le_of_ble_eq_true rfl) ?_
  show V 11 [some (.ref 0), some (.int x1), some (.int x2), none, none] [.int a1] σ
  refine h.if_eq (tgt := 23) (show decode cX5_sumSent 11 = .ok (.ifCond .eq 12, 3) by decide +kernel) (by decide) (fun c9 => ?_) (fun c9 => ?_)
  · rw [if_pos c9] at hf
    refine h.drop (ls' := [none, none, none, none, none]) trivial ?_
    exact wX5_sumSent_23 hm hf
  · rw [if_neg c9] at hf
    show V 14 [some (.ref 0), some (.int x1), some (.int x2), none, none] [] σ
    refine h.run (o := []) (ls' := [some (.ref 0), some (.int x1), some (.int x2), none, none]) (st' := [.int x2]) (σ' := σ) [(.iload_n 2, 1, 0, 0, 0, 0)] (pc2 := 15) (by decide +kernel) rfl trivial ?_
    refine h.if_lt (tgt := 23) (show decode cX5_sumSent 15 = .ok (.ifCond .lt 8, 3) by decide +kernel) (by decide) (fun c8 => ?_) (fun c8 => ?_)
    · rw [if_pos c8] at hf
      refine h.drop (ls' := [none, none, none, none, none]) trivial ?_
      exact wX5_sumSent_23 hm hf
    · rw [if_neg c8] at hf
      show V 18 [some (.ref 0), some (.int x1), some (.int x2), none, none] [] σ
      refine h.run (o := []) (ls' := [some (.ref 0), some (.int x1), some (.int x2), none, none]) (st' := [.int 2, .int x2]) (σ' := σ) [(.iload_n 2, 1, 0, 0, 0, 0), (.iconst 2, 1, 2, 0, 0, 0)] (pc2 := 20) (by decide +kernel) rfl trivial ?_
      refine h.icmp_le (tgt := 25) (show decode cX5_sumSent 20 = .ok (.if_icmp .le 5, 3) by decide +kernel) (by decide) (fun c7 => ?_) (fun c7 => ?_)
      · rw [if_pos c7] at hf
        refine h.run (o := [kd 0 = 5, kd 1 = 0]) (ls' := [some (.ref 0), some (.int x1), some (.int x2), none, none]) (st' := [.int 2, .int x1, .int 0, .ref 10]) (σ' := σ) [(.aload_n 0, 1, 0, 0, 0, 0), (.getfield 10, 3, 0, 0, 5, 0), (.getfield 104, 3, 0, 0, 0, 5), (.iconst 0, 1, 0, 0, 0, 0), (.iload_n 1, 1, 0, 0, 0, 0), (.iconst 2, 1, 2, 0, 0, 0)] (pc2 := 35) (by decide +kernel) rfl (And.intro kd_0 (And.intro kd_1 trivial)) ?_
        obtain ⟨a2, e2, hf⟩ := bR_some hf
        refine h.callV (as := [.int 0, .int x1, .int 2]) (rest := []) (by decide +kernel) lk5_125 cwX4_sumWhere kd_10 (kmX4_sumWhere l kd_10 e2) rfl (Nat.le_of_ble_eq_true rfl) (Nat.le_of_ble_eq_true rfl) (Nat.le_of_ble_eq_true rfl) ?_
        show V 38 [some (.ref 0), some (.int x1), some (.int x2), none, none] [.int a2] σ
        refine h.run (o := [kd 0 = 5, kd 1 = 0]) (ls' := [some (.ref 0), some (.int x1), some (.int x2), some (.int a2), none]) (st' := [.int 4, .int x1, .int 0, .ref 10]) (σ' := σ) [(.istore_n 3, 1, 0, 0, 0, 0), (.aload_n 0, 1, 0, 0, 0, 0), (.getfield 10, 3, 0, 0, 5, 0), (.getfield 104, 3, 0, 0, 0, 5), (.iconst 0, 1, 0, 0, 0, 0), (.iload_n 1, 1, 0, 0, 0, 0), (.iconst 4, 1, 4, 0, 0, 0)] (pc2 := 49) (by decide +kernel) rfl (And.intro kd_0 (And.intro kd_1 trivial)) ?_
        obtain ⟨a3, e3, hf⟩ := bR_some hf
        refine h.callV (as := [.int 0, .int x1, .int 4]) (rest := []) (by decide +kernel) lk5_125 cwX4_sumWhere kd_10 (kmX4_sumWhere l kd_10 e3) rfl (Nat.le_of_ble_eq_true rfl) (Nat.le_of_ble_eq_true rfl) (Nat.le_of_ble_eq_true rfl) ?_
        show V 52 [some (.ref 0), some (.int x1), some (.int x2), some (.int a2), none] [.int a3] σ
        refine h.run (o := []) (ls' := [some (.ref 0), some (.int x1), some (.int x2), some (.int a2), some (.int a3)]) (st' := [.int x2]) (σ' := σ) [(.istore 4, 2, 0, 0, 0, 0), (.iload_n 2, 1, 0, 0, 0, 0)] (pc2 := 55) (by decide +kernel) rfl trivial ?_
        refine h.if_ne (tgt := 60) (show decode cX5_sumSent 55 = .ok (.ifCond .ne 5, 3) by decide +kernel) (by decide) (fun c6 => ?_) (fun c6 => ?_)
        · rw [if_neg c6] at hf
          refine h.run (o := []) (ls' := [some (.ref 0), some (.int x1), some (.int x2), some (.int a2), some (.int a3)]) (st' := [.int 1, .int x2]) (σ' := σ) [(.iload_n 2, 1, 0, 0, 0, 0), (.iconst 1, 1, 1, 0, 0, 0)] (pc2 := 62) (by decide +kernel) rfl trivial ?_
          refine h.icmp_ne (tgt := 68) (show decode cX5_sumSent 62 = .ok (.if_icmp .ne 6, 3) by decide +kernel) (by decide) (fun c5 => ?_) (fun c5 => ?_)
          · rw [if_neg c5] at hf
            refine h.run (o := [kd 0 = 5, kd 1 = 0, kd 0 = 5, kd 1 = 0]) (ls' := [some (.ref 0), some (.int x1), some (.int x2), some (.int a2), some (.int a3)]) (st' := [.int x1, .int 0, .ref 10, .int (σ.1 1 0)]) (σ' := σ) [(.aload_n 0, 1, 0, 0, 0, 0), (.getfield 10, 3, 0, 0, 5, 0), (.getfield 107, 3, 0, 0, 0, 0), (.aload_n 0, 1, 0, 0, 0, 0), (.getfield 10, 3, 0, 0, 5, 0), (.getfield 104, 3, 0, 0, 0, 5), (.iconst 0, 1, 0, 0, 0, 0), (.iload_n 1, 1, 0, 0, 0, 0)] (pc2 := 84) (by decide +kernel) rfl (And.intro kd_0 (And.intro kd_1 (And.intro kd_0 (And.intro kd_1 trivial)))) ?_
            obtain ⟨a4, e4, hf⟩ := bR_some hf
            refine h.callV (as := [.int 0, .int x1]) (rest := [.int (σ.1 1 0)]) (by decide +kernel) lk5_129 cwX4_rowsWhere kd_10 (kmX4_rowsWhere l kd_10 e4) rfl (Nat.le_of_ble_eq_true rfl) (Nat.le_of_ble_eq_true rfl) (Nat.le_of_ble_eq_true rfl) ?_
            show V 87 [some (.ref 0), some (.int x1), some (.int x2), some (.int a2), some (.int a3)] [.int a4, .int (σ.1 1 0)] σ
            refine h.run (o := []) (ls' := [some (.ref 0), some (.int x1), some (.int x2), some (.int a2), some (.int a3)]) (st' := [.int ((((σ.1 1 0) * a4) - a2) + a3)]) (σ' := σ) [(.imul, 1, 0, 0, 0, 0), (.iload_n 3, 1, 0, 0, 0, 0), (.isub, 1, 0, 0, 0, 0), (.iload 4, 2, 0, 0, 0, 0), (.iadd, 1, 0, 0, 0, 0)] (pc2 := 93) (by decide +kernel) rfl trivial ?_
            obtain rfl := Option.some.inj hf
            exact hm.iret (by decide +kernel)
          · rw [if_pos c5] at hf
            show V 65 [some (.ref 0), some (.int x1), some (.int x2), some (.int a2), some (.int a3)] [] σ
            refine h.run (o := []) (ls' := [some (.ref 0), some (.int x1), some (.int x2), some (.int a2), some (.int a3)]) (st' := [.int a3]) (σ' := σ) [(.iload 4, 2, 0, 0, 0, 0)] (pc2 := 67) (by decide +kernel) rfl trivial ?_
            obtain rfl := Option.some.inj hf
            exact hm.iret (by decide +kernel)
        · rw [if_pos c6] at hf
          show V 58 [some (.ref 0), some (.int x1), some (.int x2), some (.int a2), some (.int a3)] [] σ
          refine h.run (o := []) (ls' := [some (.ref 0), some (.int x1), some (.int x2), some (.int a2), some (.int a3)]) (st' := [.int a2]) (σ' := σ) [(.iload_n 3, 1, 0, 0, 0, 0)] (pc2 := 59) (by decide +kernel) rfl trivial ?_
          obtain rfl := Option.some.inj hf
          exact hm.iret (by decide +kernel)
      · rw [if_neg c7] at hf
        show V 23 [some (.ref 0), some (.int x1), some (.int x2), none, none] [] σ
        refine h.drop (ls' := [none, none, none, none, none]) trivial ?_
        exact wX5_sumSent_23 hm hf
def fX5_sumCame_23 (σ : ST) : Option Int32 :=
  some (-1)
set_option maxHeartbeats 4000000 in
theorem wX5_sumCame_23 {l : Launch} {V : Nat → List (Option Value) → List Value → ST → Prop} {r : Int32} {σ : ST} (hm : BM l 5 cX5_sumCame 5 (some .int) 3 71 (some (.int r)) σ V) (hf : fX5_sumCame_23 σ = some r) : V 23 [none, none, none, none, none] [] σ := by
  have h := hm.bd
  unfold fX5_sumCame_23 at hf
  refine h.run (o := []) (ls' := [none, none, none, none, none]) (st' := [.int (-1)]) (σ' := σ) [(.iconst (-1), 1, (-1), 0, 0, 0)] (pc2 := 24) (by decide +kernel) rfl trivial ?_
  obtain rfl := Option.some.inj hf
  exact hm.iret (by decide +kernel)
def fX5_sumCame_74 (t0 : Int32) (σ : ST) : Option Int32 :=
  some t0
set_option maxHeartbeats 4000000 in
theorem wX5_sumCame_74 {l : Launch} {V : Nat → List (Option Value) → List Value → ST → Prop} {r : Int32} {σ : ST} {t0 : Int32} (hm : BM l 5 cX5_sumCame 5 (some .int) 3 71 (some (.int r)) σ V) (hf : fX5_sumCame_74 t0 σ = some r) : V 74 [none, none, none, none, none] [.int t0] σ := by
  have h := hm.bd
  unfold fX5_sumCame_74 at hf
  obtain rfl := Option.some.inj hf
  exact hm.iret (by decide +kernel)
def fX5_sumCame (x1 : Int32) (x2 : Int32) (σ : ST) : Option Int32 :=
  bR (fX4_has 8 x1 σ) fun a1 =>
  if a1 = 0 then
    fX5_sumCame_23 σ
  else
    if x2 < 0 then
      fX5_sumCame_23 σ
    else
      if x2 ≤ 2 then
        bR (fX4_sumWhere 10 1 x1 3 σ) fun a2 =>
        bR (fX4_sumWhere 10 1 x1 4 σ) fun a3 =>
        if x2 = 0 then
          some a2
        else
          if x2 = 1 then
            fX5_sumCame_74 a3 σ
          else
            fX5_sumCame_74 (a2 - a3) σ
      else
        fX5_sumCame_23 σ
set_option maxHeartbeats 4000000 in
theorem kmX5_sumCame (l : Launch) {x1 : Int32} {x2 : Int32} {σ : ST} {r : Int32} (hf : fX5_sumCame x1 x2 σ = some r) : KM l yX5_sumCame cX5_sumCame 5 (some .int) 3 71 [.ref 0, .int x1, .int x2] σ (some (.int r)) σ := by
  refine KM.intro (ow := 5) (by decide +kernel) rfl (Nat.le_of_ble_eq_true rfl) (fun V hm => ?_)
  show V 0 [some (.ref 0), some (.int x1), some (.int x2), none, none] [] σ
  have h := hm.bd
  unfold fX5_sumCame at hf
  refine h.run (o := [kd 0 = 5, kd 1 = 0]) (ls' := [some (.ref 0), some (.int x1), some (.int x2), none, none]) (st' := [.int x1, .ref 8]) (σ' := σ) [(.aload_n 0, 1, 0, 0, 0, 0), (.getfield 10, 3, 0, 0, 5, 0), (.getfield 91, 3, 0, 0, 0, 4), (.iload_n 1, 1, 0, 0, 0, 0)] (pc2 := 8) (by decide +kernel) rfl (And.intro kd_0 (And.intro kd_1 trivial)) ?_
  obtain ⟨a1, e1, hf⟩ := bR_some hf
  refine h.callV (as := [.int x1]) (rest := []) (by decide +kernel) lk5_83 cwX4_has kd_8 (kmX4_has l kd_8 e1) rfl (Nat.le_of_ble_eq_true rfl) (Nat.le_of_ble_eq_true rfl) (Nat.le_of_ble_eq_true rfl) ?_
  show V 11 [some (.ref 0), some (.int x1), some (.int x2), none, none] [.int a1] σ
  refine h.if_eq (tgt := 23) (show decode cX5_sumCame 11 = .ok (.ifCond .eq 12, 3) by decide +kernel) (by decide) (fun c8 => ?_) (fun c8 => ?_)
  · rw [if_pos c8] at hf
    refine h.drop (ls' := [none, none, none, none, none]) trivial ?_
    exact wX5_sumCame_23 hm hf
  · rw [if_neg c8] at hf
    show V 14 [some (.ref 0), some (.int x1), some (.int x2), none, none] [] σ
    refine h.run (o := []) (ls' := [some (.ref 0), some (.int x1), some (.int x2), none, none]) (st' := [.int x2]) (σ' := σ) [(.iload_n 2, 1, 0, 0, 0, 0)] (pc2 := 15) (by decide +kernel) rfl trivial ?_
    refine h.if_lt (tgt := 23) (show decode cX5_sumCame 15 = .ok (.ifCond .lt 8, 3) by decide +kernel) (by decide) (fun c7 => ?_) (fun c7 => ?_)
    · rw [if_pos c7] at hf
      refine h.drop (ls' := [none, none, none, none, none]) trivial ?_
      exact wX5_sumCame_23 hm hf
    · rw [if_neg c7] at hf
      show V 18 [some (.ref 0), some (.int x1), some (.int x2), none, none] [] σ
      refine h.run (o := []) (ls' := [some (.ref 0), some (.int x1), some (.int x2), none, none]) (st' := [.int 2, .int x2]) (σ' := σ) [(.iload_n 2, 1, 0, 0, 0, 0), (.iconst 2, 1, 2, 0, 0, 0)] (pc2 := 20) (by decide +kernel) rfl trivial ?_
      refine h.icmp_le (tgt := 25) (show decode cX5_sumCame 20 = .ok (.if_icmp .le 5, 3) by decide +kernel) (by decide) (fun c6 => ?_) (fun c6 => ?_)
      · rw [if_pos c6] at hf
        refine h.run (o := [kd 0 = 5, kd 1 = 0]) (ls' := [some (.ref 0), some (.int x1), some (.int x2), none, none]) (st' := [.int 3, .int x1, .int 1, .ref 10]) (σ' := σ) [(.aload_n 0, 1, 0, 0, 0, 0), (.getfield 10, 3, 0, 0, 5, 0), (.getfield 104, 3, 0, 0, 0, 5), (.iconst 1, 1, 1, 0, 0, 0), (.iload_n 1, 1, 0, 0, 0, 0), (.iconst 3, 1, 3, 0, 0, 0)] (pc2 := 35) (by decide +kernel) rfl (And.intro kd_0 (And.intro kd_1 trivial)) ?_
        obtain ⟨a2, e2, hf⟩ := bR_some hf
        refine h.callV (as := [.int 1, .int x1, .int 3]) (rest := []) (by decide +kernel) lk5_125 cwX4_sumWhere kd_10 (kmX4_sumWhere l kd_10 e2) rfl (Nat.le_of_ble_eq_true rfl) (Nat.le_of_ble_eq_true rfl) (Nat.le_of_ble_eq_true rfl) ?_
        show V 38 [some (.ref 0), some (.int x1), some (.int x2), none, none] [.int a2] σ
        refine h.run (o := [kd 0 = 5, kd 1 = 0]) (ls' := [some (.ref 0), some (.int x1), some (.int x2), some (.int a2), none]) (st' := [.int 4, .int x1, .int 1, .ref 10]) (σ' := σ) [(.istore_n 3, 1, 0, 0, 0, 0), (.aload_n 0, 1, 0, 0, 0, 0), (.getfield 10, 3, 0, 0, 5, 0), (.getfield 104, 3, 0, 0, 0, 5), (.iconst 1, 1, 1, 0, 0, 0), (.iload_n 1, 1, 0, 0, 0, 0), (.iconst 4, 1, 4, 0, 0, 0)] (pc2 := 49) (by decide +kernel) rfl (And.intro kd_0 (And.intro kd_1 trivial)) ?_
        obtain ⟨a3, e3, hf⟩ := bR_some hf
        refine h.callV (as := [.int 1, .int x1, .int 4]) (rest := []) (by decide +kernel) lk5_125 cwX4_sumWhere kd_10 (kmX4_sumWhere l kd_10 e3) rfl (Nat.le_of_ble_eq_true rfl) (Nat.le_of_ble_eq_true rfl) (Nat.le_of_ble_eq_true rfl) ?_
        show V 52 [some (.ref 0), some (.int x1), some (.int x2), some (.int a2), none] [.int a3] σ
        refine h.run (o := []) (ls' := [some (.ref 0), some (.int x1), some (.int x2), some (.int a2), some (.int a3)]) (st' := [.int x2]) (σ' := σ) [(.istore 4, 2, 0, 0, 0, 0), (.iload_n 2, 1, 0, 0, 0, 0)] (pc2 := 55) (by decide +kernel) rfl trivial ?_
        refine h.if_ne (tgt := 60) (show decode cX5_sumCame 55 = .ok (.ifCond .ne 5, 3) by decide +kernel) (by decide) (fun c5 => ?_) (fun c5 => ?_)
        · rw [if_neg c5] at hf
          refine h.run (o := []) (ls' := [some (.ref 0), some (.int x1), some (.int x2), some (.int a2), some (.int a3)]) (st' := [.int 1, .int x2]) (σ' := σ) [(.iload_n 2, 1, 0, 0, 0, 0), (.iconst 1, 1, 1, 0, 0, 0)] (pc2 := 62) (by decide +kernel) rfl trivial ?_
          refine h.icmp_ne (tgt := 70) (show decode cX5_sumCame 62 = .ok (.if_icmp .ne 8, 3) by decide +kernel) (by decide) (fun c4 => ?_) (fun c4 => ?_)
          · rw [if_neg c4] at hf
            refine h.run (o := []) (ls' := [some (.ref 0), some (.int x1), some (.int x2), some (.int a2), some (.int a3)]) (st' := [.int (a2 - a3)]) (σ' := σ) [(.iload_n 3, 1, 0, 0, 0, 0), (.iload 4, 2, 0, 0, 0, 0), (.isub, 1, 0, 0, 0, 0)] (pc2 := 74) (by decide +kernel) rfl trivial ?_
            refine h.drop (ls' := [none, none, none, none, none]) trivial ?_
            exact wX5_sumCame_74 hm hf
          · rw [if_pos c4] at hf
            show V 65 [some (.ref 0), some (.int x1), some (.int x2), some (.int a2), some (.int a3)] [] σ
            refine h.run (o := []) (ls' := [some (.ref 0), some (.int x1), some (.int x2), some (.int a2), some (.int a3)]) (st' := [.int a3]) (σ' := σ) [(.iload 4, 2, 0, 0, 0, 0), (.goto 7, 3, 0, 0, 0, 74)] (pc2 := 74) (by decide +kernel) rfl trivial ?_
            refine h.drop (ls' := [none, none, none, none, none]) trivial ?_
            exact wX5_sumCame_74 hm hf
        · rw [if_pos c5] at hf
          show V 58 [some (.ref 0), some (.int x1), some (.int x2), some (.int a2), some (.int a3)] [] σ
          refine h.run (o := []) (ls' := [some (.ref 0), some (.int x1), some (.int x2), some (.int a2), some (.int a3)]) (st' := [.int a2]) (σ' := σ) [(.iload_n 3, 1, 0, 0, 0, 0)] (pc2 := 59) (by decide +kernel) rfl trivial ?_
          obtain rfl := Option.some.inj hf
          exact hm.iret (by decide +kernel)
      · rw [if_neg c6] at hf
        show V 23 [some (.ref 0), some (.int x1), some (.int x2), none, none] [] σ
        refine h.drop (ls' := [none, none, none, none, none]) trivial ?_
        exact wX5_sumCame_23 hm hf
def fX5_judge_118 (kt_46 : Nat → Int32 → Int32 → Int32 → Option Int32) (k2 : Nat) (x4 : Int32) (x5 : Int32) (x6 : Int32) (σ : ST) : Option Int32 :=
  kt_46 k2 x4 x5 (x6 + 1)
set_option maxHeartbeats 4000000 in
theorem wX5_judge_118 {l : Launch} {V : Nat → List (Option Value) → List Value → ST → Prop} {r : Int32} {σ : ST} {k2 : Nat} {x4 : Int32} {x5 : Int32} {x6 : Int32} {kt_46 : Nat → Int32 → Int32 → Int32 → Option Int32} (hm : BM l 5 cX5_judge 9 (some .int) 2 46 (some (.int r)) σ V) (hkt_46 : ∀ (k2 : Nat) (x4 : Int32) (x5 : Int32) (x6 : Int32), kd k2 = 3 → kt_46 k2 x4 x5 x6 = some r → V 46 [some (.ref 0), none, some (.ref k2), none, some (.int x4), some (.int x5), some (.int x6), none, none] [] σ) (hk2 : kd k2 = 3) (hf : fX5_judge_118 kt_46 k2 x4 x5 x6 σ = some r) : V 118 [some (.ref 0), none, some (.ref k2), none, some (.int x4), some (.int x5), some (.int x6), none, none] [] σ := by
  have h := hm.bd
  unfold fX5_judge_118 at hf
  refine h.run (o := []) (ls' := [some (.ref 0), none, some (.ref k2), none, some (.int x4), some (.int x5), some (.int (x6 + 1)), none, none]) (st' := []) (σ' := σ) [(.iinc 6 1, 3, 1, 0, 0, 0), (.goto (-75), 3, 0, 0, 0, 46)] (pc2 := 46) (by decide +kernel) rfl trivial ?_
  exact hkt_46 k2 x4 x5 (x6 + 1) hk2 hf
def fX5_judge_88 (kt_46 : Nat → Int32 → Int32 → Int32 → Option Int32) (k2 : Nat) (x4 : Int32) (x5 : Int32) (x6 : Int32) (t1 : Int32) (t2 : Int32) (σ : ST) : Option Int32 :=
  bR (fX4_read 10 t1 t2 σ) fun a1 =>
  bR (fX3_read k2 x6 σ) fun a2 =>
  if a2 = a1 then
    fX5_judge_118 kt_46 k2 x4 x5 x6 σ
  else
    if a2 = x5 then
      fX5_judge_118 kt_46 k2 x4 x5 x6 σ
    else
      some x6
set_option maxHeartbeats 4000000 in
theorem wX5_judge_88 {l : Launch} {V : Nat → List (Option Value) → List Value → ST → Prop} {r : Int32} {σ : ST} {k2 : Nat} {x4 : Int32} {x5 : Int32} {x6 : Int32} {t1 : Int32} {t2 : Int32} {kt_46 : Nat → Int32 → Int32 → Int32 → Option Int32} (hm : BM l 5 cX5_judge 9 (some .int) 2 46 (some (.int r)) σ V) (hkt_46 : ∀ (k2 : Nat) (x4 : Int32) (x5 : Int32) (x6 : Int32), kd k2 = 3 → kt_46 k2 x4 x5 x6 = some r → V 46 [some (.ref 0), none, some (.ref k2), none, some (.int x4), some (.int x5), some (.int x6), none, none] [] σ) (hk2 : kd k2 = 3) (hf : fX5_judge_88 kt_46 k2 x4 x5 x6 t1 t2 σ = some r) : V 88 [some (.ref 0), none, some (.ref k2), none, some (.int x4), some (.int x5), some (.int x6), none, none] [.int t2, .int t1, .ref 10] σ := by
  have h := hm.bd
  unfold fX5_judge_88 at hf
  obtain ⟨a1, e1, hf⟩ := bR_some hf
  refine h.callV (as := [.int t1, .int t2]) (rest := []) (by decide +kernel) lk5_87 cwX4_read kd_10 (kmX4_read l kd_10 e1) rfl (Nat.le_of_ble_eq_true rfl) (Nat.le_of_ble_eq_true rfl) (Nat.le_of_ble_eq_true rfl) ?_
  show V 91 [some (.ref 0), none, some (.ref k2), none, some (.int x4), some (.int x5), some (.int x6), none, none] [.int a1] σ
  refine h.run (o := []) (ls' := [some (.ref 0), none, some (.ref k2), none, some (.int x4), some (.int x5), some (.int x6), some (.int a1), none]) (st' := [.int x6, .ref k2]) (σ' := σ) [(.istore 7, 2, 0, 0, 0, 0), (.aload_n 2, 1, 0, 0, 0, 0), (.iload 6, 2, 0, 0, 0, 0)] (pc2 := 96) (by decide +kernel) rfl trivial ?_
  obtain ⟨a2, e2, hf⟩ := bR_some hf
  refine h.callV (as := [.int x6]) (rest := []) (by decide +kernel) lk5_136 cwX3_read hk2 (kmX3_read l hk2 e2) rfl (Nat.le_of_ble_eq_true rfl) (Nat.le_of_ble_eq_true rfl) (Nat.le_of_ble_eq_true rfl) ?_
  show V 99 [some (.ref 0), none, some (.ref k2), none, some (.int x4), some (.int x5), some (.int x6), some (.int a1), none] [.int a2] σ
  refine h.run (o := []) (ls' := [some (.ref 0), none, some (.ref k2), none, some (.int x4), some (.int x5), some (.int x6), some (.int a1), some (.int a2)]) (st' := [.int a1, .int a2]) (σ' := σ) [(.istore 8, 2, 0, 0, 0, 0), (.iload 8, 2, 0, 0, 0, 0), (.iload 7, 2, 0, 0, 0, 0)] (pc2 := 105) (by decide +kernel) rfl trivial ?_
  refine h.icmp_eq (tgt := 118) (show decode cX5_judge 105 = .ok (.if_icmp .eq 13, 3) by decide +kernel) (by decide) (fun c4 => ?_) (fun c4 => ?_)
  · rw [if_pos c4] at hf
    refine h.drop (ls' := [some (.ref 0), none, some (.ref k2), none, some (.int x4), some (.int x5), some (.int x6), none, none]) (And.intro rfl (And.intro rfl (And.intro rfl (And.intro rfl (And.intro rfl trivial))))) ?_
    exact wX5_judge_118 hm hkt_46 hk2 hf
  · rw [if_neg c4] at hf
    show V 108 [some (.ref 0), none, some (.ref k2), none, some (.int x4), some (.int x5), some (.int x6), some (.int a1), some (.int a2)] [] σ
    refine h.run (o := []) (ls' := [some (.ref 0), none, some (.ref k2), none, some (.int x4), some (.int x5), some (.int x6), some (.int a1), some (.int a2)]) (st' := [.int x5, .int a2]) (σ' := σ) [(.iload 8, 2, 0, 0, 0, 0), (.iload 5, 2, 0, 0, 0, 0)] (pc2 := 112) (by decide +kernel) rfl trivial ?_
    refine h.icmp_eq (tgt := 118) (show decode cX5_judge 112 = .ok (.if_icmp .eq 6, 3) by decide +kernel) (by decide) (fun c3 => ?_) (fun c3 => ?_)
    · rw [if_pos c3] at hf
      refine h.drop (ls' := [some (.ref 0), none, some (.ref k2), none, some (.int x4), some (.int x5), some (.int x6), none, none]) (And.intro rfl (And.intro rfl (And.intro rfl (And.intro rfl (And.intro rfl trivial))))) ?_
      exact wX5_judge_118 hm hkt_46 hk2 hf
    · rw [if_neg c3] at hf
      show V 115 [some (.ref 0), none, some (.ref k2), none, some (.int x4), some (.int x5), some (.int x6), some (.int a1), some (.int a2)] [] σ
      refine h.run (o := []) (ls' := [some (.ref 0), none, some (.ref k2), none, some (.int x4), some (.int x5), some (.int x6), some (.int a1), some (.int a2)]) (st' := [.int x6]) (σ' := σ) [(.iload 6, 2, 0, 0, 0, 0)] (pc2 := 117) (by decide +kernel) rfl trivial ?_
      obtain rfl := Option.some.inj hf
      exact hm.iret (by decide +kernel)
def fX5_judge_46 (σ : ST) (n : Nat) (k2 : Nat) (x4 : Int32) (x5 : Int32) (x6 : Int32) : Option Int32 := match n with
  | 0 => none
  | n + 1 =>
    if (σ.1 k2 6) ≤ x6 then
      some (-4)
    else
      if x6 < x4 then
        if (x6 - x6 / 2 * 2) = 0 then
          fX5_judge_88 (fX5_judge_46 σ n) k2 x4 x5 x6 (x6 / 2) 2 σ
        else
          fX5_judge_88 (fX5_judge_46 σ n) k2 x4 x5 x6 (x6 / 2) 4 σ
      else
        some x4
set_option maxHeartbeats 4000000 in
theorem wX5_judge_46 {l : Launch} {V : Nat → List (Option Value) → List Value → ST → Prop} {r : Int32} {σ : ST} (hm : BM l 5 cX5_judge 9 (some .int) 2 46 (some (.int r)) σ V) : ∀ (n : Nat) (k2 : Nat) (x4 : Int32) (x5 : Int32) (x6 : Int32) (hk2 : kd k2 = 3), fX5_judge_46 σ n k2 x4 x5 x6 = some r → V 46 [some (.ref 0), none, some (.ref k2), none, some (.int x4), some (.int x5), some (.int x6), none, none] [] σ := by
  have h := hm.bd
  intro n
  induction n with
  | zero => intro k2 x4 x5 x6 hk2 hf; cases hf
  | succ n ih =>
    intro k2 x4 x5 x6 hk2 hf
    rw [fX5_judge_46] at hf
    refine h.run (o := [kd k2 = 3]) (ls' := [some (.ref 0), none, some (.ref k2), none, some (.int x4), some (.int x5), some (.int x6), none, none]) (st' := [.int (σ.1 k2 6), .int x6]) (σ' := σ) [(.iload 6, 2, 0, 0, 0, 0), (.aload_n 2, 1, 0, 0, 0, 0), (.getfield 135, 3, 0, 0, 3, 6)] (pc2 := 52) (by decide +kernel) rfl (And.intro hk2 trivial) ?_
    refine h.icmp_ge (tgt := 124) (show decode cX5_judge 52 = .ok (.if_icmp .ge 72, 3) by decide +kernel) (by decide) (fun c3 => ?_) (fun c3 => ?_)
    · rw [if_pos c3] at hf
      refine h.run (o := []) (ls' := [some (.ref 0), none, some (.ref k2), none, some (.int x4), some (.int x5), some (.int x6), none, none]) (st' := [.int (-4)]) (σ' := σ) [(.bipush (-4), 2, (-4), 0, 0, 0)] (pc2 := 126) (by decide +kernel) rfl trivial ?_
      obtain rfl := Option.some.inj hf
      exact hm.iret (by decide +kernel)
    · rw [if_neg c3] at hf
      show V 55 [some (.ref 0), none, some (.ref k2), none, some (.int x4), some (.int x5), some (.int x6), none, none] [] σ
      refine h.run (o := []) (ls' := [some (.ref 0), none, some (.ref k2), none, some (.int x4), some (.int x5), some (.int x6), none, none]) (st' := [.int x4, .int x6]) (σ' := σ) [(.iload 6, 2, 0, 0, 0, 0), (.iload 4, 2, 0, 0, 0, 0)] (pc2 := 59) (by decide +kernel) rfl trivial ?_
      refine h.icmp_lt (tgt := 65) (show decode cX5_judge 59 = .ok (.if_icmp .lt 6, 3) by decide +kernel) (by decide) (fun c2 => ?_) (fun c2 => ?_)
      · rw [if_pos c2] at hf
        refine h.run (o := [kd 0 = 5, kd 1 = 0, ¬ 2 = 0, ¬ 2 = 0]) (ls' := [some (.ref 0), none, some (.ref k2), none, some (.int x4), some (.int x5), some (.int x6), none, none]) (st' := [.int (x6 - x6 / 2 * 2), .int (x6 / 2), .ref 10]) (σ' := σ) [(.aload_n 0, 1, 0, 0, 0, 0), (.getfield 10, 3, 0, 0, 5, 0), (.getfield 104, 3, 0, 0, 0, 5), (.iload 6, 2, 0, 0, 0, 0), (.iconst 2, 1, 2, 0, 0, 0), (.idiv, 1, 0, 0, 0, 0), (.iload 6, 2, 0, 0, 0, 0), (.iconst 2, 1, 2, 0, 0, 0), (.irem, 1, 0, 0, 0, 0)] (pc2 := 80) (by decide +kernel) rfl (And.intro kd_0 (And.intro kd_1 (And.intro (by decide) (And.intro (by decide) trivial)))) ?_
        refine h.if_ne (tgt := 87) (show decode cX5_judge 80 = .ok (.ifCond .ne 7, 3) by decide +kernel) (by decide) (fun c1 => ?_) (fun c1 => ?_)
        · rw [if_neg c1] at hf
          refine h.run (o := []) (ls' := [some (.ref 0), none, some (.ref k2), none, some (.int x4), some (.int x5), some (.int x6), none, none]) (st' := [.int 4, .int (x6 / 2), .ref 10]) (σ' := σ) [(.iconst 4, 1, 4, 0, 0, 0)] (pc2 := 88) (by decide +kernel) rfl trivial ?_
          exact wX5_judge_88 hm ih hk2 hf
        · rw [if_pos c1] at hf
          show V 83 [some (.ref 0), none, some (.ref k2), none, some (.int x4), some (.int x5), some (.int x6), none, none] [.int (x6 / 2), .ref 10] σ
          refine h.run (o := []) (ls' := [some (.ref 0), none, some (.ref k2), none, some (.int x4), some (.int x5), some (.int x6), none, none]) (st' := [.int 2, .int (x6 / 2), .ref 10]) (σ' := σ) [(.iconst 2, 1, 2, 0, 0, 0), (.goto 4, 3, 0, 0, 0, 88)] (pc2 := 88) (by decide +kernel) rfl trivial ?_
          exact wX5_judge_88 hm ih hk2 hf
      · rw [if_neg c2] at hf
        show V 62 [some (.ref 0), none, some (.ref k2), none, some (.int x4), some (.int x5), some (.int x6), none, none] [] σ
        refine h.run (o := []) (ls' := [some (.ref 0), none, some (.ref k2), none, some (.int x4), some (.int x5), some (.int x6), none, none]) (st' := [.int x4]) (σ' := σ) [(.iload 4, 2, 0, 0, 0, 0)] (pc2 := 64) (by decide +kernel) rfl trivial ?_
        obtain rfl := Option.some.inj hf
        exact hm.iret (by decide +kernel)
def fX5_judge (x1 : Int32) (σ : ST) : Option Int32 :=
  bR (fX5_shelfAt x1 σ) fun o1 =>
  match o1 with
  | none =>
    some (-1)
  | some s1 =>
    bR (fX3_refusalAsRow s1 σ) fun a2 =>
    if a2 = 0 then
      bR (fX3_leastNumber s1 σ) fun a3 =>
      fX5_judge_46 σ FU s1 (2 * (σ.1 10 3)) a3 0
    else
      some a2
set_option maxHeartbeats 4000000 in
theorem kmX5_judge (l : Launch) {x1 : Int32} {σ : ST} {r : Int32} (hf : fX5_judge x1 σ = some r) : KM l yX5_judge cX5_judge 9 (some .int) 2 46 [.ref 0, .int x1] σ (some (.int r)) σ := by
  refine KM.intro (ow := 5) (by decide +kernel) rfl (Nat.le_of_ble_eq_true rfl) (fun V hm => ?_)
  show V 0 [some (.ref 0), some (.int x1), none, none, none, none, none, none, none] [] σ
  have h := hm.bd
  unfold fX5_judge at hf
  refine h.run (o := []) (ls' := [some (.ref 0), some (.int x1), none, none, none, none, none, none, none]) (st' := [.int x1, .ref 0]) (σ' := σ) [(.aload_n 0, 1, 0, 0, 0, 0), (.iload_n 1, 1, 0, 0, 0, 0)] (pc2 := 2) (by decide +kernel) rfl trivial ?_
  obtain ⟨o1, e1, hf⟩ := bR_some hf
  refine h.callV (as := [.int x1]) (rest := []) (by decide +kernel) lk5_44 cwX5_shelfAt kd_0 (kmX5_shelfAt l e1) rfl (Nat.le_of_ble_eq_true rfl) (Nat.le_of_ble_eq_true rfl) (Nat.le_of_ble_eq_true rfl) ?_
  cases o1 with
  | none =>
    dsimp only at hf
    show V 5 [some (.ref 0), some (.int x1), none, none, none, none, none, none, none] [.null] σ
    refine h.run (o := []) (ls' := [some (.ref 0), some (.int x1), some (.null), none, none, none, none, none, none]) (st' := [.null]) (σ' := σ) [(.astore_n 2, 1, 0, 0, 0, 0), (.aload_n 2, 1, 0, 0, 0, 0)] (pc2 := 7) (by decide +kernel) rfl trivial ?_
    refine h.ifnonnullN (show decode cX5_judge 7 = .ok (.ifnonnull 5, 3) by decide +kernel) ?_
    show V 10 [some (.ref 0), some (.int x1), some (.null), none, none, none, none, none, none] [] σ
    refine h.run (o := []) (ls' := [some (.ref 0), some (.int x1), some (.null), none, none, none, none, none, none]) (st' := [.int (-1)]) (σ' := σ) [(.iconst (-1), 1, (-1), 0, 0, 0)] (pc2 := 11) (by decide +kernel) rfl trivial ?_
    obtain rfl := Option.some.inj hf
    exact hm.iret (by decide +kernel)
  | some s1 =>
    dsimp only at hf
    have hs1 : kd s1 = 3 := shelfAt_kd e1
    show V 5 [some (.ref 0), some (.int x1), none, none, none, none, none, none, none] [.ref s1] σ
    refine h.run (o := []) (ls' := [some (.ref 0), some (.int x1), some (.ref s1), none, none, none, none, none, none]) (st' := [.ref s1]) (σ' := σ) [(.astore_n 2, 1, 0, 0, 0, 0), (.aload_n 2, 1, 0, 0, 0, 0)] (pc2 := 7) (by decide +kernel) rfl trivial ?_
    refine h.ifnonnull (show decode cX5_judge 7 = .ok (.ifnonnull 5, 3) by decide +kernel) (tgt := 12) (by decide) ?_
    refine h.run (o := []) (ls' := [some (.ref 0), some (.int x1), some (.ref s1), none, none, none, none, none, none]) (st' := [.ref s1]) (σ' := σ) [(.aload_n 2, 1, 0, 0, 0, 0)] (pc2 := 13) (by decide +kernel) rfl trivial ?_
    obtain ⟨a2, e2, hf⟩ := bR_some hf
    refine h.callV (as := []) (rest := []) (by decide +kernel) lk5_48 cwX3_refusalAsRow hs1 (kmX3_refusalAsRow l hs1 e2) rfl (Nat.le_of_ble_eq_true rfl) (Nat.le_of_ble_eq_true rfl) (Nat.le_of_ble_eq_true rfl) ?_
    show V 16 [some (.ref 0), some (.int x1), some (.ref s1), none, none, none, none, none, none] [.int a2] σ
    refine h.run (o := []) (ls' := [some (.ref 0), some (.int x1), some (.ref s1), some (.int a2), none, none, none, none, none]) (st' := [.int a2]) (σ' := σ) [(.istore_n 3, 1, 0, 0, 0, 0), (.iload_n 3, 1, 0, 0, 0, 0)] (pc2 := 18) (by decide +kernel) rfl trivial ?_
    refine h.if_eq (tgt := 23) (show decode cX5_judge 18 = .ok (.ifCond .eq 5, 3) by decide +kernel) (by decide) (fun c4 => ?_) (fun c4 => ?_)
    · rw [if_pos c4] at hf
      refine h.run (o := [kd 0 = 5, kd 1 = 0, kd 10 = 4]) (ls' := [some (.ref 0), some (.int x1), some (.ref s1), some (.int a2), some (.int (2 * (σ.1 10 3))), none, none, none, none]) (st' := [.ref s1]) (σ' := σ) [(.iconst 2, 1, 2, 0, 0, 0), (.aload_n 0, 1, 0, 0, 0, 0), (.getfield 10, 3, 0, 0, 5, 0), (.getfield 104, 3, 0, 0, 0, 5), (.getfield 71, 3, 0, 0, 4, 3), (.imul, 1, 0, 0, 0, 0), (.istore 4, 2, 0, 0, 0, 0), (.aload_n 2, 1, 0, 0, 0, 0)] (pc2 := 38) (by decide +kernel) rfl (And.intro kd_0 (And.intro kd_1 (And.intro kd_10 trivial))) ?_
      obtain ⟨a3, e3, hf⟩ := bR_some hf
      refine h.callV (as := []) (rest := []) (by decide +kernel) lk5_132 cwX3_leastNumber hs1 (kmX3_leastNumber l hs1 e3) rfl (Nat.le_of_ble_eq_true rfl) (Nat.le_of_ble_eq_true rfl) (Nat.le_of_ble_eq_true rfl) ?_
      show V 41 [some (.ref 0), some (.int x1), some (.ref s1), some (.int a2), some (.int (2 * (σ.1 10 3))), none, none, none, none] [.int a3] σ
      refine h.run (o := []) (ls' := [some (.ref 0), some (.int x1), some (.ref s1), some (.int a2), some (.int (2 * (σ.1 10 3))), some (.int a3), some (.int 0), none, none]) (st' := []) (σ' := σ) [(.istore 5, 2, 0, 0, 0, 0), (.iconst 0, 1, 0, 0, 0, 0), (.istore 6, 2, 0, 0, 0, 0)] (pc2 := 46) (by decide +kernel) rfl trivial ?_
      refine h.drop (ls' := [some (.ref 0), none, some (.ref s1), none, some (.int (2 * (σ.1 10 3))), some (.int a3), some (.int 0), none, none]) (And.intro rfl (And.intro rfl (And.intro rfl (And.intro rfl (And.intro rfl trivial))))) ?_
      exact wX5_judge_46 hm FU s1 (2 * (σ.1 10 3)) a3 0 hs1 hf
    · rw [if_neg c4] at hf
      show V 21 [some (.ref 0), some (.int x1), some (.ref s1), some (.int a2), none, none, none, none, none] [] σ
      refine h.run (o := []) (ls' := [some (.ref 0), some (.int x1), some (.ref s1), some (.int a2), none, none, none, none, none]) (st' := [.int a2]) (σ' := σ) [(.iload_n 3, 1, 0, 0, 0, 0)] (pc2 := 22) (by decide +kernel) rfl trivial ?_
      obtain rfl := Option.some.inj hf
      exact hm.iret (by decide +kernel)
def fX5_sends (x1 : Int32) (x2 : Int32) (σ : ST) : Option (Int32 × ST) :=
  bR (fX5_areThere x1 x2 σ) fun a1 =>
  if a1 = 0 then
    some ((-1), σ)
  else
    bR (fX5_bring x1 x2 σ) fun σ2 =>
    bI (fX1_wouldSend σ2) fun a3 σ3 =>
    some (a3, σ3)
set_option maxHeartbeats 4000000 in
theorem kmX5_sends (l : Launch) {x1 : Int32} {x2 : Int32} {σ : ST} {r : Int32} {τ : ST} (hf : fX5_sends x1 x2 σ = some (r, τ)) : KM l yX5_sends cX5_sends 3 (some .int) 5 114 [.ref 0, .int x1, .int x2] σ (some (.int r)) τ := by
  refine KM.intro (ow := 5) (by decide +kernel) rfl (Nat.le_of_ble_eq_true rfl) (fun V hm => ?_)
  show V 0 [some (.ref 0), some (.int x1), some (.int x2)] [] σ
  have h := hm.bd
  unfold fX5_sends at hf
  refine h.run (o := []) (ls' := [some (.ref 0), some (.int x1), some (.int x2)]) (st' := [.int x2, .int x1, .ref 0]) (σ' := σ) [(.aload_n 0, 1, 0, 0, 0, 0), (.iload_n 1, 1, 0, 0, 0, 0), (.iload_n 2, 1, 0, 0, 0, 0)] (pc2 := 3) (by decide +kernel) rfl trivial ?_
  obtain ⟨a1, e1, hf⟩ := bR_some hf
  refine h.callV (as := [.int x1, .int x2]) (rest := []) (by decide +kernel) lk5_117 cwX5_areThere kd_0 (kmX5_areThere l e1) rfl (Nat.le_of_ble_eq_true rfl) (Nat.le_of_ble_eq_true rfl) (Nat.le_of_ble_eq_true rfl) ?_
  show V 6 [some (.ref 0), some (.int x1), some (.int x2)] [.int a1] σ
  refine h.if_ne (tgt := 11) (show decode cX5_sends 6 = .ok (.ifCond .ne 5, 3) by decide +kernel) (by decide) (fun c4 => ?_) (fun c4 => ?_)
  · rw [if_neg c4] at hf
    refine h.run (o := []) (ls' := [some (.ref 0), some (.int x1), some (.int x2)]) (st' := [.int x2, .int x1, .ref 0]) (σ' := σ) [(.aload_n 0, 1, 0, 0, 0, 0), (.iload_n 1, 1, 0, 0, 0, 0), (.iload_n 2, 1, 0, 0, 0, 0)] (pc2 := 14) (by decide +kernel) rfl trivial ?_
    obtain ⟨σ2, e2, hf⟩ := bR_some hf
    refine h.callV (as := [.int x1, .int x2]) (rest := []) (by decide +kernel) lk5_139 cwX5_bring kd_0 (kmX5_bring l e2) rfl (Nat.le_of_ble_eq_true rfl) (Nat.le_of_ble_eq_true rfl) (Nat.le_of_ble_eq_true rfl) ?_
    show V 17 [some (.ref 0), some (.int x1), some (.int x2)] [] σ2
    refine h.run (o := [kd 0 = 5]) (ls' := [some (.ref 0), some (.int x1), some (.int x2)]) (st' := [.ref 3]) (σ' := σ2) [(.aload_n 0, 1, 0, 0, 0, 0), (.getfield 26, 3, 0, 0, 5, 3)] (pc2 := 21) (by decide +kernel) rfl (And.intro kd_0 trivial) ?_
    obtain ⟨a3, σ3, e3, hf⟩ := bI_some hf
    refine h.callV (as := []) (rest := []) (by decide +kernel) lk5_143 cwX1_wouldSend kd_3 (kmX1_wouldSend l e3) rfl (Nat.le_of_ble_eq_true rfl) (Nat.le_of_ble_eq_true rfl) (Nat.le_of_ble_eq_true rfl) ?_
    show V 24 [some (.ref 0), some (.int x1), some (.int x2)] [.int a3] σ3
    obtain ⟨rfl, rfl⟩ := Prod.mk.inj (Option.some.inj hf)
    exact hm.iret (by decide +kernel)
  · rw [if_pos c4] at hf
    show V 9 [some (.ref 0), some (.int x1), some (.int x2)] [] σ
    refine h.run (o := []) (ls' := [some (.ref 0), some (.int x1), some (.int x2)]) (st' := [.int (-1)]) (σ' := σ) [(.iconst (-1), 1, (-1), 0, 0, 0)] (pc2 := 10) (by decide +kernel) rfl trivial ?_
    obtain ⟨rfl, rfl⟩ := Prod.mk.inj (Option.some.inj hf)
    exact hm.iret (by decide +kernel)
def fX5_back_29 (σ : ST) : Option (Int32 × ST) :=
  some ((-1), σ)
set_option maxHeartbeats 4000000 in
theorem wX5_back_29 {l : Launch} {V : Nat → List (Option Value) → List Value → ST → Prop} {r : Int32} {τ : ST} {σ : ST} (hm : BM l 5 cX5_back 4 (some .int) 3 67 (some (.int r)) τ V) (hf : fX5_back_29 σ = some (r, τ)) : V 29 [none, none, none, none] [] σ := by
  have h := hm.bd
  unfold fX5_back_29 at hf
  refine h.run (o := []) (ls' := [none, none, none, none]) (st' := [.int (-1)]) (σ' := σ) [(.iconst (-1), 1, (-1), 0, 0, 0)] (pc2 := 30) (by decide +kernel) rfl trivial ?_
  obtain ⟨rfl, rfl⟩ := Prod.mk.inj (Option.some.inj hf)
  exact hm.iret (by decide +kernel)
def fX5_back (x1 : Int32) (x2 : Int32) (x3 : Int32) (σ : ST) : Option (Int32 × ST) :=
  bR (fX4_has 8 x1 σ) fun a1 =>
  if a1 = 0 then
    fX5_back_29 σ
  else
    if x2 < 0 then
      fX5_back_29 σ
    else
      if x2 ≤ (σ.1 1 0) then
        bR (fX5_bringReturner x1 σ) fun σ2 =>
        bI (fX1_sendBackOf x2 x3 σ2) fun a3 σ3 =>
        some (a3, σ3)
      else
        fX5_back_29 σ
set_option maxHeartbeats 4000000 in
theorem kmX5_back (l : Launch) {x1 : Int32} {x2 : Int32} {x3 : Int32} {σ : ST} {r : Int32} {τ : ST} (hf : fX5_back x1 x2 x3 σ = some (r, τ)) : KM l yX5_back cX5_back 4 (some .int) 3 67 [.ref 0, .int x1, .int x2, .int x3] σ (some (.int r)) τ := by
  refine KM.intro (ow := 5) (by decide +kernel) rfl (Nat.le_of_ble_eq_true rfl) (fun V hm => ?_)
  show V 0 [some (.ref 0), some (.int x1), some (.int x2), some (.int x3)] [] σ
  have h := hm.bd
  unfold fX5_back at hf
  refine h.run (o := [kd 0 = 5, kd 1 = 0]) (ls' := [some (.ref 0), some (.int x1), some (.int x2), some (.int x3)]) (st' := [.int x1, .ref 8]) (σ' := σ) [(.aload_n 0, 1, 0, 0, 0, 0), (.getfield 10, 3, 0, 0, 5, 0), (.getfield 91, 3, 0, 0, 0, 4), (.iload_n 1, 1, 0, 0, 0, 0)] (pc2 := 8) (by decide +kernel) rfl (And.intro kd_0 (And.intro kd_1 trivial)) ?_
  obtain ⟨a1, e1, hf⟩ := bR_some hf
  refine h.callV (as := [.int x1]) (rest := []) (by decide +kernel) lk5_83 cwX4_has kd_8 (kmX4_has l kd_8 e1) rfl (Nat.le_of_ble_eq_true rfl) (Nat.le_of_ble_eq_true rfl) (Nat.le_of_ble_eq_true rfl) ?_
  show V 11 [some (.ref 0), some (.int x1), some (.int x2), some (.int x3)] [.int a1] σ
  refine h.if_eq (tgt := 29) (show decode cX5_back 11 = .ok (.ifCond .eq 18, 3) by decide +kernel) (by decide) (fun c6 => ?_) (fun c6 => ?_)
  · rw [if_pos c6] at hf
    refine h.drop (ls' := [none, none, none, none]) trivial ?_
    exact wX5_back_29 hm hf
  · rw [if_neg c6] at hf
    show V 14 [some (.ref 0), some (.int x1), some (.int x2), some (.int x3)] [] σ
    refine h.run (o := []) (ls' := [some (.ref 0), some (.int x1), some (.int x2), some (.int x3)]) (st' := [.int x2]) (σ' := σ) [(.iload_n 2, 1, 0, 0, 0, 0)] (pc2 := 15) (by decide +kernel) rfl trivial ?_
    refine h.if_lt (tgt := 29) (show decode cX5_back 15 = .ok (.ifCond .lt 14, 3) by decide +kernel) (by decide) (fun c5 => ?_) (fun c5 => ?_)
    · rw [if_pos c5] at hf
      refine h.drop (ls' := [none, none, none, none]) trivial ?_
      exact wX5_back_29 hm hf
    · rw [if_neg c5] at hf
      show V 18 [some (.ref 0), some (.int x1), some (.int x2), some (.int x3)] [] σ
      refine h.run (o := [kd 0 = 5, kd 1 = 0]) (ls' := [some (.ref 0), some (.int x1), some (.int x2), some (.int x3)]) (st' := [.int (σ.1 1 0), .int x2]) (σ' := σ) [(.iload_n 2, 1, 0, 0, 0, 0), (.aload_n 0, 1, 0, 0, 0, 0), (.getfield 10, 3, 0, 0, 5, 0), (.getfield 107, 3, 0, 0, 0, 0)] (pc2 := 26) (by decide +kernel) rfl (And.intro kd_0 (And.intro kd_1 trivial)) ?_
      refine h.icmp_le (tgt := 31) (show decode cX5_back 26 = .ok (.if_icmp .le 5, 3) by decide +kernel) (by decide) (fun c4 => ?_) (fun c4 => ?_)
      · rw [if_pos c4] at hf
        refine h.run (o := []) (ls' := [some (.ref 0), some (.int x1), some (.int x2), some (.int x3)]) (st' := [.int x1, .ref 0]) (σ' := σ) [(.aload_n 0, 1, 0, 0, 0, 0), (.iload_n 1, 1, 0, 0, 0, 0)] (pc2 := 33) (by decide +kernel) rfl trivial ?_
        obtain ⟨σ2, e2, hf⟩ := bR_some hf
        refine h.callV (as := [.int x1]) (rest := []) (by decide +kernel) lk5_146 cwX5_bringReturner kd_0 (kmX5_bringReturner l e2) rfl (Nat.le_of_ble_eq_true rfl) (Nat.le_of_ble_eq_true rfl) (Nat.le_of_ble_eq_true rfl) ?_
        show V 36 [some (.ref 0), some (.int x1), some (.int x2), some (.int x3)] [] σ2
        refine h.run (o := [kd 0 = 5]) (ls' := [some (.ref 0), some (.int x1), some (.int x2), some (.int x3)]) (st' := [.int x3, .int x2, .ref 3]) (σ' := σ2) [(.aload_n 0, 1, 0, 0, 0, 0), (.getfield 26, 3, 0, 0, 5, 3), (.iload_n 2, 1, 0, 0, 0, 0), (.iload_n 3, 1, 0, 0, 0, 0)] (pc2 := 42) (by decide +kernel) rfl (And.intro kd_0 trivial) ?_
        obtain ⟨a3, σ3, e3, hf⟩ := bI_some hf
        refine h.callV (as := [.int x2, .int x3]) (rest := []) (by decide +kernel) lk5_149 cwX1_sendBackOf kd_3 (kmX1_sendBackOf l e3) rfl (Nat.le_of_ble_eq_true rfl) (Nat.le_of_ble_eq_true rfl) (Nat.le_of_ble_eq_true rfl) ?_
        show V 45 [some (.ref 0), some (.int x1), some (.int x2), some (.int x3)] [.int a3] σ3
        obtain ⟨rfl, rfl⟩ := Prod.mk.inj (Option.some.inj hf)
        exact hm.iret (by decide +kernel)
      · rw [if_neg c4] at hf
        show V 29 [some (.ref 0), some (.int x1), some (.int x2), some (.int x3)] [] σ
        refine h.drop (ls' := [none, none, none, none]) trivial ?_
        exact wX5_back_29 hm hf
def fX5_held_45 (t0 : Int32) (σ : ST) : Option (Int32 × ST) :=
  some (t0, σ)
set_option maxHeartbeats 4000000 in
theorem wX5_held_45 {l : Launch} {V : Nat → List (Option Value) → List Value → ST → Prop} {r : Int32} {τ : ST} {σ : ST} {t0 : Int32} (hm : BM l 5 cX5_held 4 (some .int) 5 114 (some (.int r)) τ V) (hf : fX5_held_45 t0 σ = some (r, τ)) : V 45 [none, none, none, none] [.int t0] σ := by
  have h := hm.bd
  unfold fX5_held_45 at hf
  obtain ⟨rfl, rfl⟩ := Prod.mk.inj (Option.some.inj hf)
  exact hm.iret (by decide +kernel)
def fX5_held (x1 : Int32) (x2 : Int32) (σ : ST) : Option (Int32 × ST) :=
  bR (fX5_areThere x1 x2 σ) fun a1 =>
  if a1 = 0 then
    some ((-1000000001), σ)
  else
    bR (fX5_bring x1 x2 σ) fun σ2 =>
    bR (fX1_nameOfReturner σ2) fun a3 =>
    if a3 = (-1) then
      fX5_held_45 (-1000000003) σ2
    else
      fX5_held_45 ((σ2.1 3 5) - a3) σ2
set_option maxHeartbeats 4000000 in
theorem kmX5_held (l : Launch) {x1 : Int32} {x2 : Int32} {σ : ST} {r : Int32} {τ : ST} (hf : fX5_held x1 x2 σ = some (r, τ)) : KM l yX5_held cX5_held 4 (some .int) 5 114 [.ref 0, .int x1, .int x2] σ (some (.int r)) τ := by
  refine KM.intro (ow := 5) (by decide +kernel) rfl (Nat.le_of_ble_eq_true rfl) (fun V hm => ?_)
  show V 0 [some (.ref 0), some (.int x1), some (.int x2), none] [] σ
  have h := hm.bd
  unfold fX5_held at hf
  refine h.run (o := []) (ls' := [some (.ref 0), some (.int x1), some (.int x2), none]) (st' := [.int x2, .int x1, .ref 0]) (σ' := σ) [(.aload_n 0, 1, 0, 0, 0, 0), (.iload_n 1, 1, 0, 0, 0, 0), (.iload_n 2, 1, 0, 0, 0, 0)] (pc2 := 3) (by decide +kernel) rfl trivial ?_
  obtain ⟨a1, e1, hf⟩ := bR_some hf
  refine h.callV (as := [.int x1, .int x2]) (rest := []) (by decide +kernel) lk5_117 cwX5_areThere kd_0 (kmX5_areThere l e1) rfl (Nat.le_of_ble_eq_true rfl) (Nat.le_of_ble_eq_true rfl) (Nat.le_of_ble_eq_true rfl) ?_
  show V 6 [some (.ref 0), some (.int x1), some (.int x2), none] [.int a1] σ
  refine h.if_ne (tgt := 12) (show decode cX5_held 6 = .ok (.ifCond .ne 6, 3) by decide +kernel) (by decide) (fun c5 => ?_) (fun c5 => ?_)
  · rw [if_neg c5] at hf
    refine h.run (o := []) (ls' := [some (.ref 0), some (.int x1), some (.int x2), none]) (st' := [.int x2, .int x1, .ref 0]) (σ' := σ) [(.aload_n 0, 1, 0, 0, 0, 0), (.iload_n 1, 1, 0, 0, 0, 0), (.iload_n 2, 1, 0, 0, 0, 0)] (pc2 := 15) (by decide +kernel) rfl trivial ?_
    obtain ⟨σ2, e2, hf⟩ := bR_some hf
    refine h.callV (as := [.int x1, .int x2]) (rest := []) (by decide +kernel) lk5_139 cwX5_bring kd_0 (kmX5_bring l e2) rfl (Nat.le_of_ble_eq_true rfl) (Nat.le_of_ble_eq_true rfl) (Nat.le_of_ble_eq_true rfl) ?_
    show V 18 [some (.ref 0), some (.int x1), some (.int x2), none] [] σ2
    refine h.run (o := [kd 0 = 5]) (ls' := [some (.ref 0), some (.int x1), some (.int x2), none]) (st' := [.ref 3]) (σ' := σ2) [(.aload_n 0, 1, 0, 0, 0, 0), (.getfield 26, 3, 0, 0, 5, 3)] (pc2 := 22) (by decide +kernel) rfl (And.intro kd_0 trivial) ?_
    obtain ⟨a3, e3, hf⟩ := bR_some hf
    refine h.callV (as := []) (rest := []) (by decide +kernel) lk5_98 cwX1_nameOfReturner kd_3 (kmX1_nameOfReturner l e3) rfl (Nat.le_of_ble_eq_true rfl) (Nat.le_of_ble_eq_true rfl) (Nat.le_of_ble_eq_true rfl) ?_
    show V 25 [some (.ref 0), some (.int x1), some (.int x2), none] [.int a3] σ2
    refine h.run (o := []) (ls' := [some (.ref 0), some (.int x1), some (.int x2), some (.int a3)]) (st' := [.int (-1), .int a3]) (σ' := σ2) [(.istore_n 3, 1, 0, 0, 0, 0), (.iload_n 3, 1, 0, 0, 0, 0), (.iconst (-1), 1, (-1), 0, 0, 0)] (pc2 := 28) (by decide +kernel) rfl trivial ?_
    refine h.icmp_ne (tgt := 36) (show decode cX5_held 28 = .ok (.if_icmp .ne 8, 3) by decide +kernel) (by decide) (fun c4 => ?_) (fun c4 => ?_)
    · rw [if_neg c4] at hf
      refine h.run (o := [kd 0 = 5, kd 3 = 1]) (ls' := [some (.ref 0), some (.int x1), some (.int x2), some (.int a3)]) (st' := [.int ((σ2.1 3 5) - a3)]) (σ' := σ2) [(.aload_n 0, 1, 0, 0, 0, 0), (.getfield 26, 3, 0, 0, 5, 3), (.getfield 155, 3, 0, 0, 1, 5), (.iload_n 3, 1, 0, 0, 0, 0), (.isub, 1, 0, 0, 0, 0)] (pc2 := 45) (by decide +kernel) rfl (And.intro kd_0 (And.intro kd_3 trivial)) ?_
      refine h.drop (ls' := [none, none, none, none]) trivial ?_
      exact wX5_held_45 hm hf
    · rw [if_pos c4] at hf
      show V 31 [some (.ref 0), some (.int x1), some (.int x2), some (.int a3)] [] σ2
      refine h.run (o := []) (ls' := [some (.ref 0), some (.int x1), some (.int x2), some (.int a3)]) (st' := [.int (-1000000003)]) (σ' := σ2) [(.ldc 154, 2, (-1000000003), 0, 0, 0), (.goto 12, 3, 0, 0, 0, 45)] (pc2 := 45) (by decide +kernel) rfl trivial ?_
      refine h.drop (ls' := [none, none, none, none]) trivial ?_
      exact wX5_held_45 hm hf
  · rw [if_pos c5] at hf
    show V 9 [some (.ref 0), some (.int x1), some (.int x2), none] [] σ
    refine h.run (o := []) (ls' := [some (.ref 0), some (.int x1), some (.int x2), none]) (st' := [.int (-1000000001)]) (σ' := σ) [(.ldc 153, 2, (-1000000001), 0, 0, 0)] (pc2 := 11) (by decide +kernel) rfl trivial ?_
    obtain ⟨rfl, rfl⟩ := Prod.mk.inj (Option.some.inj hf)
    exact hm.iret (by decide +kernel)
def fX5_trust (x1 : Int32) (x2 : Int32) (σ : ST) : Option (Int32 × ST) :=
  bR (fX5_areThere x1 x2 σ) fun a1 =>
  if a1 = 0 then
    some ((-1000000001), σ)
  else
    bR (fX5_bring x1 x2 σ) fun σ2 =>
    bI (fX1_wouldSend (setI σ2 3 6 0)) fun a3 σ3 =>
    bI (fX1_wouldSend (setI σ3 3 6 1)) fun a4 σ4 =>
    some (a3 - a4, σ4)
set_option maxHeartbeats 4000000 in
theorem kmX5_trust (l : Launch) {x1 : Int32} {x2 : Int32} {σ : ST} {r : Int32} {τ : ST} (hf : fX5_trust x1 x2 σ = some (r, τ)) : KM l yX5_trust cX5_trust 4 (some .int) 5 114 [.ref 0, .int x1, .int x2] σ (some (.int r)) τ := by
  refine KM.intro (ow := 5) (by decide +kernel) rfl (Nat.le_of_ble_eq_true rfl) (fun V hm => ?_)
  show V 0 [some (.ref 0), some (.int x1), some (.int x2), none] [] σ
  have h := hm.bd
  unfold fX5_trust at hf
  refine h.run (o := []) (ls' := [some (.ref 0), some (.int x1), some (.int x2), none]) (st' := [.int x2, .int x1, .ref 0]) (σ' := σ) [(.aload_n 0, 1, 0, 0, 0, 0), (.iload_n 1, 1, 0, 0, 0, 0), (.iload_n 2, 1, 0, 0, 0, 0)] (pc2 := 3) (by decide +kernel) rfl trivial ?_
  obtain ⟨a1, e1, hf⟩ := bR_some hf
  refine h.callV (as := [.int x1, .int x2]) (rest := []) (by decide +kernel) lk5_117 cwX5_areThere kd_0 (kmX5_areThere l e1) rfl (Nat.le_of_ble_eq_true rfl) (Nat.le_of_ble_eq_true rfl) (Nat.le_of_ble_eq_true rfl) ?_
  show V 6 [some (.ref 0), some (.int x1), some (.int x2), none] [.int a1] σ
  refine h.if_ne (tgt := 12) (show decode cX5_trust 6 = .ok (.ifCond .ne 6, 3) by decide +kernel) (by decide) (fun c5 => ?_) (fun c5 => ?_)
  · rw [if_neg c5] at hf
    refine h.run (o := []) (ls' := [some (.ref 0), some (.int x1), some (.int x2), none]) (st' := [.int x2, .int x1, .ref 0]) (σ' := σ) [(.aload_n 0, 1, 0, 0, 0, 0), (.iload_n 1, 1, 0, 0, 0, 0), (.iload_n 2, 1, 0, 0, 0, 0)] (pc2 := 15) (by decide +kernel) rfl trivial ?_
    obtain ⟨σ2, e2, hf⟩ := bR_some hf
    refine h.callV (as := [.int x1, .int x2]) (rest := []) (by decide +kernel) lk5_139 cwX5_bring kd_0 (kmX5_bring l e2) rfl (Nat.le_of_ble_eq_true rfl) (Nat.le_of_ble_eq_true rfl) (Nat.le_of_ble_eq_true rfl) ?_
    show V 18 [some (.ref 0), some (.int x1), some (.int x2), none] [] σ2
    refine h.run (o := [kd 0 = 5, kd 3 = 1, kd 0 = 5]) (ls' := [some (.ref 0), some (.int x1), some (.int x2), none]) (st' := [.ref 3]) (σ' := setI σ2 3 6 0) [(.aload_n 0, 1, 0, 0, 0, 0), (.getfield 26, 3, 0, 0, 5, 3), (.iconst 0, 1, 0, 0, 0, 0), (.putfield 158, 3, 0, 0, 1, 6), (.aload_n 0, 1, 0, 0, 0, 0), (.getfield 26, 3, 0, 0, 5, 3)] (pc2 := 30) (by decide +kernel) rfl (And.intro kd_0 (And.intro kd_3 (And.intro kd_0 trivial))) ?_
    obtain ⟨a3, σ3, e3, hf⟩ := bI_some hf
    refine h.callV (as := []) (rest := []) (by decide +kernel) lk5_143 cwX1_wouldSend kd_3 (kmX1_wouldSend l e3) rfl (Nat.le_of_ble_eq_true rfl) (Nat.le_of_ble_eq_true rfl) (Nat.le_of_ble_eq_true rfl) ?_
    show V 33 [some (.ref 0), some (.int x1), some (.int x2), none] [.int a3] σ3
    refine h.run (o := [kd 0 = 5, kd 3 = 1, kd 0 = 5]) (ls' := [some (.ref 0), some (.int x1), some (.int x2), some (.int a3)]) (st' := [.ref 3, .int a3]) (σ' := setI σ3 3 6 1) [(.istore_n 3, 1, 0, 0, 0, 0), (.aload_n 0, 1, 0, 0, 0, 0), (.getfield 26, 3, 0, 0, 5, 3), (.iconst 1, 1, 1, 0, 0, 0), (.putfield 158, 3, 0, 0, 1, 6), (.iload_n 3, 1, 0, 0, 0, 0), (.aload_n 0, 1, 0, 0, 0, 0), (.getfield 26, 3, 0, 0, 5, 3)] (pc2 := 47) (by decide +kernel) rfl (And.intro kd_0 (And.intro kd_3 (And.intro kd_0 trivial))) ?_
    obtain ⟨a4, σ4, e4, hf⟩ := bI_some hf
    refine h.callV (as := []) (rest := [.int a3]) (by decide +kernel) lk5_143 cwX1_wouldSend kd_3 (kmX1_wouldSend l e4) rfl (Nat.le_of_ble_eq_true rfl) (Nat.le_of_ble_eq_true rfl) (Nat.le_of_ble_eq_true rfl) ?_
    show V 50 [some (.ref 0), some (.int x1), some (.int x2), some (.int a3)] [.int a4, .int a3] σ4
    refine h.run (o := []) (ls' := [some (.ref 0), some (.int x1), some (.int x2), some (.int a3)]) (st' := [.int (a3 - a4)]) (σ' := σ4) [(.isub, 1, 0, 0, 0, 0)] (pc2 := 51) (by decide +kernel) rfl trivial ?_
    obtain ⟨rfl, rfl⟩ := Prod.mk.inj (Option.some.inj hf)
    exact hm.iret (by decide +kernel)
  · rw [if_pos c5] at hf
    show V 9 [some (.ref 0), some (.int x1), some (.int x2), none] [] σ
    refine h.run (o := []) (ls' := [some (.ref 0), some (.int x1), some (.int x2), none]) (st' := [.int (-1000000001)]) (σ' := σ) [(.ldc 153, 2, (-1000000001), 0, 0, 0)] (pc2 := 11) (by decide +kernel) rfl trivial ?_
    obtain ⟨rfl, rfl⟩ := Prod.mk.inj (Option.some.inj hf)
    exact hm.iret (by decide +kernel)
def fX5_giving (x1 : Int32) (σ : ST) : Option (Int32 × ST) :=
  bR (fX4_has 6 x1 σ) fun a1 =>
  if a1 = 0 then
    some ((-1), σ)
  else
    bR (fX5_bringSender x1 σ) fun σ2 =>
    bR (fX1_faceOneWhoKeepsAll σ2) fun σ3 =>
    bI (fX1_wouldSend σ3) fun a4 σ4 =>
    some (a4, σ4)
set_option maxHeartbeats 4000000 in
theorem kmX5_giving (l : Launch) {x1 : Int32} {σ : ST} {r : Int32} {τ : ST} (hf : fX5_giving x1 σ = some (r, τ)) : KM l yX5_giving cX5_giving 2 (some .int) 4 82 [.ref 0, .int x1] σ (some (.int r)) τ := by
  refine KM.intro (ow := 5) (by decide +kernel) rfl (Nat.le_of_ble_eq_true rfl) (fun V hm => ?_)
  show V 0 [some (.ref 0), some (.int x1)] [] σ
  have h := hm.bd
  unfold fX5_giving at hf
  refine h.run (o := [kd 0 = 5, kd 1 = 0]) (ls' := [some (.ref 0), some (.int x1)]) (st' := [.int x1, .ref 6]) (σ' := σ) [(.aload_n 0, 1, 0, 0, 0, 0), (.getfield 10, 3, 0, 0, 5, 0), (.getfield 80, 3, 0, 0, 0, 3), (.iload_n 1, 1, 0, 0, 0, 0)] (pc2 := 8) (by decide +kernel) rfl (And.intro kd_0 (And.intro kd_1 trivial)) ?_
  obtain ⟨a1, e1, hf⟩ := bR_some hf
  refine h.callV (as := [.int x1]) (rest := []) (by decide +kernel) lk5_83 cwX4_has kd_6 (kmX4_has l kd_6 e1) rfl (Nat.le_of_ble_eq_true rfl) (Nat.le_of_ble_eq_true rfl) (Nat.le_of_ble_eq_true rfl) ?_
  show V 11 [some (.ref 0), some (.int x1)] [.int a1] σ
  refine h.if_ne (tgt := 16) (show decode cX5_giving 11 = .ok (.ifCond .ne 5, 3) by decide +kernel) (by decide) (fun c5 => ?_) (fun c5 => ?_)
  · rw [if_neg c5] at hf
    refine h.run (o := []) (ls' := [some (.ref 0), some (.int x1)]) (st' := [.int x1, .ref 0]) (σ' := σ) [(.aload_n 0, 1, 0, 0, 0, 0), (.iload_n 1, 1, 0, 0, 0, 0)] (pc2 := 18) (by decide +kernel) rfl trivial ?_
    obtain ⟨σ2, e2, hf⟩ := bR_some hf
    refine h.callV (as := [.int x1]) (rest := []) (by decide +kernel) lk5_161 cwX5_bringSender kd_0 (kmX5_bringSender l e2) rfl (Nat.le_of_ble_eq_true rfl) (Nat.le_of_ble_eq_true rfl) (Nat.le_of_ble_eq_true rfl) ?_
    show V 21 [some (.ref 0), some (.int x1)] [] σ2
    refine h.run (o := [kd 0 = 5]) (ls' := [some (.ref 0), some (.int x1)]) (st' := [.ref 3]) (σ' := σ2) [(.aload_n 0, 1, 0, 0, 0, 0), (.getfield 26, 3, 0, 0, 5, 3)] (pc2 := 25) (by decide +kernel) rfl (And.intro kd_0 trivial) ?_
    obtain ⟨σ3, e3, hf⟩ := bR_some hf
    refine h.callV (as := []) (rest := []) (by decide +kernel) lk5_164 cwX1_faceOneWhoKeepsAll kd_3 (kmX1_faceOneWhoKeepsAll l e3) rfl (Nat.le_of_ble_eq_true rfl) (Nat.le_of_ble_eq_true rfl) (Nat.le_of_ble_eq_true rfl) ?_
    show V 28 [some (.ref 0), some (.int x1)] [] σ3
    refine h.run (o := [kd 0 = 5]) (ls' := [some (.ref 0), some (.int x1)]) (st' := [.ref 3]) (σ' := σ3) [(.aload_n 0, 1, 0, 0, 0, 0), (.getfield 26, 3, 0, 0, 5, 3)] (pc2 := 32) (by decide +kernel) rfl (And.intro kd_0 trivial) ?_
    obtain ⟨a4, σ4, e4, hf⟩ := bI_some hf
    refine h.callV (as := []) (rest := []) (by decide +kernel) lk5_143 cwX1_wouldSend kd_3 (kmX1_wouldSend l e4) rfl (Nat.le_of_ble_eq_true rfl) (Nat.le_of_ble_eq_true rfl) (Nat.le_of_ble_eq_true rfl) ?_
    show V 35 [some (.ref 0), some (.int x1)] [.int a4] σ4
    obtain ⟨rfl, rfl⟩ := Prod.mk.inj (Option.some.inj hf)
    exact hm.iret (by decide +kernel)
  · rw [if_pos c5] at hf
    show V 14 [some (.ref 0), some (.int x1)] [] σ
    refine h.run (o := []) (ls' := [some (.ref 0), some (.int x1)]) (st' := [.int (-1)]) (σ' := σ) [(.iconst (-1), 1, (-1), 0, 0, 0)] (pc2 := 15) (by decide +kernel) rfl trivial ?_
    obtain ⟨rfl, rfl⟩ := Prod.mk.inj (Option.some.inj hf)
    exact hm.iret (by decide +kernel)
def fX5_best_23 (σ : ST) : Option (Int32 × ST) :=
  some ((-1), σ)
set_option maxHeartbeats 4000000 in
theorem wX5_best_23 {l : Launch} {V : Nat → List (Option Value) → List Value → ST → Prop} {r : Int32} {τ : ST} {σ : ST} (hm : BM l 5 cX5_best 7 (some .int) 3 67 (some (.int r)) τ V) (hf : fX5_best_23 σ = some (r, τ)) : V 23 [none, none, none, none, none, none, none] [] σ := by
  have h := hm.bd
  unfold fX5_best_23 at hf
  refine h.run (o := []) (ls' := [none, none, none, none, none, none, none]) (st' := [.int (-1)]) (σ' := σ) [(.iconst (-1), 1, (-1), 0, 0, 0)] (pc2 := 24) (by decide +kernel) rfl trivial ?_
  obtain ⟨rfl, rfl⟩ := Prod.mk.inj (Option.some.inj hf)
  exact hm.iret (by decide +kernel)
def fX5_best_98 (t0 : Int32) (σ : ST) : Option (Int32 × ST) :=
  some (t0, σ)
set_option maxHeartbeats 4000000 in
theorem wX5_best_98 {l : Launch} {V : Nat → List (Option Value) → List Value → ST → Prop} {r : Int32} {τ : ST} {σ : ST} {t0 : Int32} (hm : BM l 5 cX5_best 7 (some .int) 3 67 (some (.int r)) τ V) (hf : fX5_best_98 t0 σ = some (r, τ)) : V 98 [none, none, none, none, none, none, none] [.int t0] σ := by
  have h := hm.bd
  unfold fX5_best_98 at hf
  obtain ⟨rfl, rfl⟩ := Prod.mk.inj (Option.some.inj hf)
  exact hm.iret (by decide +kernel)
def fX5_best_82 (kt_45 : Int32 → Int32 → Int32 → Int32 → ST → Option (Int32 × ST)) (x2 : Int32) (x3 : Int32) (x4 : Int32) (x5 : Int32) (σ : ST) : Option (Int32 × ST) :=
  kt_45 x2 x3 x4 (x5 + 1) σ
set_option maxHeartbeats 4000000 in
theorem wX5_best_82 {l : Launch} {V : Nat → List (Option Value) → List Value → ST → Prop} {r : Int32} {τ : ST} {σ : ST} {x2 : Int32} {x3 : Int32} {x4 : Int32} {x5 : Int32} {kt_45 : Int32 → Int32 → Int32 → Int32 → ST → Option (Int32 × ST)} (hm : BM l 5 cX5_best 7 (some .int) 3 67 (some (.int r)) τ V) (hkt_45 : ∀ (x2 : Int32) (x3 : Int32) (x4 : Int32) (x5 : Int32) (σ : ST), kt_45 x2 x3 x4 x5 σ = some (r, τ) → V 45 [some (.ref 0), none, some (.int x2), some (.int x3), some (.int x4), some (.int x5), none] [] σ) (hf : fX5_best_82 kt_45 x2 x3 x4 x5 σ = some (r, τ)) : V 82 [some (.ref 0), none, some (.int x2), some (.int x3), some (.int x4), some (.int x5), none] [] σ := by
  have h := hm.bd
  unfold fX5_best_82 at hf
  refine h.run (o := []) (ls' := [some (.ref 0), none, some (.int x2), some (.int x3), some (.int x4), some (.int (x5 + 1)), none]) (st' := []) (σ' := σ) [(.iinc 5 1, 3, 1, 0, 0, 0), (.goto (-40), 3, 0, 0, 0, 45)] (pc2 := 45) (by decide +kernel) rfl trivial ?_
  exact hkt_45 x2 x3 x4 (x5 + 1) _ hf
def fX5_best_45 (n : Nat) (x2 : Int32) (x3 : Int32) (x4 : Int32) (x5 : Int32) (σ : ST) : Option (Int32 × ST) := match n with
  | 0 => none
  | n + 1 =>
    if (σ.1 1 0) < x5 then
      if x2 = 0 then
        fX5_best_98 x3 σ
      else
        fX5_best_98 x4 σ
    else
      bI (fX1_senderHasBy x5 σ) fun a2 σ2 =>
      if a2 ≤ x4 then
        fX5_best_82 (fX5_best_45 n) x2 x3 x4 x5 σ2
      else
        fX5_best_82 (fX5_best_45 n) x2 x5 a2 x5 σ2
set_option maxHeartbeats 4000000 in
theorem wX5_best_45 {l : Launch} {V : Nat → List (Option Value) → List Value → ST → Prop} {r : Int32} {τ : ST} (hm : BM l 5 cX5_best 7 (some .int) 3 67 (some (.int r)) τ V) : ∀ (n : Nat) (x2 : Int32) (x3 : Int32) (x4 : Int32) (x5 : Int32) (σ : ST), fX5_best_45 n x2 x3 x4 x5 σ = some (r, τ) → V 45 [some (.ref 0), none, some (.int x2), some (.int x3), some (.int x4), some (.int x5), none] [] σ := by
  have h := hm.bd
  intro n
  induction n with
  | zero => intro x2 x3 x4 x5 σ hf; cases hf
  | succ n ih =>
    intro x2 x3 x4 x5 σ hf
    rw [fX5_best_45] at hf
    refine h.run (o := [kd 0 = 5, kd 1 = 0]) (ls' := [some (.ref 0), none, some (.int x2), some (.int x3), some (.int x4), some (.int x5), none]) (st' := [.int (σ.1 1 0), .int x5]) (σ' := σ) [(.iload 5, 2, 0, 0, 0, 0), (.aload_n 0, 1, 0, 0, 0, 0), (.getfield 10, 3, 0, 0, 5, 0), (.getfield 107, 3, 0, 0, 0, 0)] (pc2 := 54) (by decide +kernel) rfl (And.intro kd_0 (And.intro kd_1 trivial)) ?_
    refine h.icmp_gt (tgt := 88) (show decode cX5_best 54 = .ok (.if_icmp .gt 34, 3) by decide +kernel) (by decide) (fun c4 => ?_) (fun c4 => ?_)
    · rw [if_pos c4] at hf
      refine h.run (o := []) (ls' := [some (.ref 0), none, some (.int x2), some (.int x3), some (.int x4), some (.int x5), none]) (st' := [.int x2]) (σ' := σ) [(.iload_n 2, 1, 0, 0, 0, 0)] (pc2 := 89) (by decide +kernel) rfl trivial ?_
      refine h.if_ne (tgt := 96) (show decode cX5_best 89 = .ok (.ifCond .ne 7, 3) by decide +kernel) (by decide) (fun c1 => ?_) (fun c1 => ?_)
      · rw [if_neg c1] at hf
        refine h.run (o := []) (ls' := [some (.ref 0), none, some (.int x2), some (.int x3), some (.int x4), some (.int x5), none]) (st' := [.int x4]) (σ' := σ) [(.iload 4, 2, 0, 0, 0, 0)] (pc2 := 98) (by decide +kernel) rfl trivial ?_
        refine h.drop (ls' := [none, none, none, none, none, none, none]) trivial ?_
        exact wX5_best_98 hm hf
      · rw [if_pos c1] at hf
        show V 92 [some (.ref 0), none, some (.int x2), some (.int x3), some (.int x4), some (.int x5), none] [] σ
        refine h.run (o := []) (ls' := [some (.ref 0), none, some (.int x2), some (.int x3), some (.int x4), some (.int x5), none]) (st' := [.int x3]) (σ' := σ) [(.iload_n 3, 1, 0, 0, 0, 0), (.goto 5, 3, 0, 0, 0, 98)] (pc2 := 98) (by decide +kernel) rfl trivial ?_
        refine h.drop (ls' := [none, none, none, none, none, none, none]) trivial ?_
        exact wX5_best_98 hm hf
    · rw [if_neg c4] at hf
      show V 57 [some (.ref 0), none, some (.int x2), some (.int x3), some (.int x4), some (.int x5), none] [] σ
      refine h.run (o := [kd 0 = 5]) (ls' := [some (.ref 0), none, some (.int x2), some (.int x3), some (.int x4), some (.int x5), none]) (st' := [.int x5, .ref 3]) (σ' := σ) [(.aload_n 0, 1, 0, 0, 0, 0), (.getfield 26, 3, 0, 0, 5, 3), (.iload 5, 2, 0, 0, 0, 0)] (pc2 := 63) (by decide +kernel) rfl (And.intro kd_0 trivial) ?_
      obtain ⟨a2, σ2, e2, hf⟩ := bI_some hf
      refine h.callV (as := [.int x5]) (rest := []) (by decide +kernel) lk5_167 cwX1_senderHasBy kd_3 (kmX1_senderHasBy l e2) rfl (Nat.le_of_ble_eq_true rfl) (Nat.le_of_ble_eq_true rfl) (Nat.le_of_ble_eq_true rfl) ?_
      show V 66 [some (.ref 0), none, some (.int x2), some (.int x3), some (.int x4), some (.int x5), none] [.int a2] σ2
      refine h.run (o := []) (ls' := [some (.ref 0), none, some (.int x2), some (.int x3), some (.int x4), some (.int x5), some (.int a2)]) (st' := [.int x4, .int a2]) (σ' := σ2) [(.istore 6, 2, 0, 0, 0, 0), (.iload 6, 2, 0, 0, 0, 0), (.iload 4, 2, 0, 0, 0, 0)] (pc2 := 72) (by decide +kernel) rfl trivial ?_
      refine h.icmp_le (tgt := 82) (show decode cX5_best 72 = .ok (.if_icmp .le 10, 3) by decide +kernel) (by decide) (fun c3 => ?_) (fun c3 => ?_)
      · rw [if_pos c3] at hf
        refine h.drop (ls' := [some (.ref 0), none, some (.int x2), some (.int x3), some (.int x4), some (.int x5), none]) (And.intro rfl (And.intro rfl (And.intro rfl (And.intro rfl (And.intro rfl trivial))))) ?_
        exact wX5_best_82 hm ih hf
      · rw [if_neg c3] at hf
        show V 75 [some (.ref 0), none, some (.int x2), some (.int x3), some (.int x4), some (.int x5), some (.int a2)] [] σ2
        refine h.run (o := []) (ls' := [some (.ref 0), none, some (.int x2), some (.int x5), some (.int a2), some (.int x5), some (.int a2)]) (st' := []) (σ' := σ2) [(.iload 6, 2, 0, 0, 0, 0), (.istore 4, 2, 0, 0, 0, 0), (.iload 5, 2, 0, 0, 0, 0), (.istore_n 3, 1, 0, 0, 0, 0)] (pc2 := 82) (by decide +kernel) rfl trivial ?_
        refine h.drop (ls' := [some (.ref 0), none, some (.int x2), some (.int x5), some (.int a2), some (.int x5), none]) (And.intro rfl (And.intro rfl (And.intro rfl (And.intro rfl (And.intro rfl trivial))))) ?_
        exact wX5_best_82 hm ih hf
def fX5_best (x1 : Int32) (x2 : Int32) (σ : ST) : Option (Int32 × ST) :=
  bR (fX4_has 8 x1 σ) fun a1 =>
  if a1 = 0 then
    fX5_best_23 σ
  else
    if x2 < 0 then
      fX5_best_23 σ
    else
      if x2 ≤ 1 then
        bR (fX5_bringReturner x1 σ) fun σ2 =>
        bI (fX1_senderHasBy 0 σ2) fun a3 σ3 =>
        fX5_best_45 FU x2 0 a3 1 σ3
      else
        fX5_best_23 σ
set_option maxHeartbeats 4000000 in
theorem kmX5_best (l : Launch) {x1 : Int32} {x2 : Int32} {σ : ST} {r : Int32} {τ : ST} (hf : fX5_best x1 x2 σ = some (r, τ)) : KM l yX5_best cX5_best 7 (some .int) 3 67 [.ref 0, .int x1, .int x2] σ (some (.int r)) τ := by
  refine KM.intro (ow := 5) (by decide +kernel) rfl (Nat.le_of_ble_eq_true rfl) (fun V hm => ?_)
  show V 0 [some (.ref 0), some (.int x1), some (.int x2), none, none, none, none] [] σ
  have h := hm.bd
  unfold fX5_best at hf
  refine h.run (o := [kd 0 = 5, kd 1 = 0]) (ls' := [some (.ref 0), some (.int x1), some (.int x2), none, none, none, none]) (st' := [.int x1, .ref 8]) (σ' := σ) [(.aload_n 0, 1, 0, 0, 0, 0), (.getfield 10, 3, 0, 0, 5, 0), (.getfield 91, 3, 0, 0, 0, 4), (.iload_n 1, 1, 0, 0, 0, 0)] (pc2 := 8) (by decide +kernel) rfl (And.intro kd_0 (And.intro kd_1 trivial)) ?_
  obtain ⟨a1, e1, hf⟩ := bR_some hf
  refine h.callV (as := [.int x1]) (rest := []) (by decide +kernel) lk5_83 cwX4_has kd_8 (kmX4_has l kd_8 e1) rfl (Nat.le_of_ble_eq_true rfl) (Nat.le_of_ble_eq_true rfl) (Nat.le_of_ble_eq_true rfl) ?_
  show V 11 [some (.ref 0), some (.int x1), some (.int x2), none, none, none, none] [.int a1] σ
  refine h.if_eq (tgt := 23) (show decode cX5_best 11 = .ok (.ifCond .eq 12, 3) by decide +kernel) (by decide) (fun c6 => ?_) (fun c6 => ?_)
  · rw [if_pos c6] at hf
    refine h.drop (ls' := [none, none, none, none, none, none, none]) trivial ?_
    exact wX5_best_23 hm hf
  · rw [if_neg c6] at hf
    show V 14 [some (.ref 0), some (.int x1), some (.int x2), none, none, none, none] [] σ
    refine h.run (o := []) (ls' := [some (.ref 0), some (.int x1), some (.int x2), none, none, none, none]) (st' := [.int x2]) (σ' := σ) [(.iload_n 2, 1, 0, 0, 0, 0)] (pc2 := 15) (by decide +kernel) rfl trivial ?_
    refine h.if_lt (tgt := 23) (show decode cX5_best 15 = .ok (.ifCond .lt 8, 3) by decide +kernel) (by decide) (fun c5 => ?_) (fun c5 => ?_)
    · rw [if_pos c5] at hf
      refine h.drop (ls' := [none, none, none, none, none, none, none]) trivial ?_
      exact wX5_best_23 hm hf
    · rw [if_neg c5] at hf
      show V 18 [some (.ref 0), some (.int x1), some (.int x2), none, none, none, none] [] σ
      refine h.run (o := []) (ls' := [some (.ref 0), some (.int x1), some (.int x2), none, none, none, none]) (st' := [.int 1, .int x2]) (σ' := σ) [(.iload_n 2, 1, 0, 0, 0, 0), (.iconst 1, 1, 1, 0, 0, 0)] (pc2 := 20) (by decide +kernel) rfl trivial ?_
      refine h.icmp_le (tgt := 25) (show decode cX5_best 20 = .ok (.if_icmp .le 5, 3) by decide +kernel) (by decide) (fun c4 => ?_) (fun c4 => ?_)
      · rw [if_pos c4] at hf
        refine h.run (o := []) (ls' := [some (.ref 0), some (.int x1), some (.int x2), none, none, none, none]) (st' := [.int x1, .ref 0]) (σ' := σ) [(.aload_n 0, 1, 0, 0, 0, 0), (.iload_n 1, 1, 0, 0, 0, 0)] (pc2 := 27) (by decide +kernel) rfl trivial ?_
        obtain ⟨σ2, e2, hf⟩ := bR_some hf
        refine h.callV (as := [.int x1]) (rest := []) (by decide +kernel) lk5_146 cwX5_bringReturner kd_0 (kmX5_bringReturner l e2) rfl (Nat.le_of_ble_eq_true rfl) (Nat.le_of_ble_eq_true rfl) (Nat.le_of_ble_eq_true rfl) ?_
        show V 30 [some (.ref 0), some (.int x1), some (.int x2), none, none, none, none] [] σ2
        refine h.run (o := [kd 0 = 5]) (ls' := [some (.ref 0), some (.int x1), some (.int x2), some (.int 0), none, none, none]) (st' := [.int 0, .ref 3]) (σ' := σ2) [(.iconst 0, 1, 0, 0, 0, 0), (.istore_n 3, 1, 0, 0, 0, 0), (.aload_n 0, 1, 0, 0, 0, 0), (.getfield 26, 3, 0, 0, 5, 3), (.iconst 0, 1, 0, 0, 0, 0)] (pc2 := 37) (by decide +kernel) rfl (And.intro kd_0 trivial) ?_
        obtain ⟨a3, σ3, e3, hf⟩ := bI_some hf
        refine h.callV (as := [.int 0]) (rest := []) (by decide +kernel) lk5_167 cwX1_senderHasBy kd_3 (kmX1_senderHasBy l e3) rfl (Nat.le_of_ble_eq_true rfl) (Nat.le_of_ble_eq_true rfl) (Nat.le_of_ble_eq_true rfl) ?_
        show V 40 [some (.ref 0), some (.int x1), some (.int x2), some (.int 0), none, none, none] [.int a3] σ3
        refine h.run (o := []) (ls' := [some (.ref 0), some (.int x1), some (.int x2), some (.int 0), some (.int a3), some (.int 1), none]) (st' := []) (σ' := σ3) [(.istore 4, 2, 0, 0, 0, 0), (.iconst 1, 1, 1, 0, 0, 0), (.istore 5, 2, 0, 0, 0, 0)] (pc2 := 45) (by decide +kernel) rfl trivial ?_
        refine h.drop (ls' := [some (.ref 0), none, some (.int x2), some (.int 0), some (.int a3), some (.int 1), none]) (And.intro rfl (And.intro rfl (And.intro rfl (And.intro rfl (And.intro rfl trivial))))) ?_
        exact wX5_best_45 hm FU x2 0 a3 1 _ hf
      · rw [if_neg c4] at hf
        show V 23 [some (.ref 0), some (.int x1), some (.int x2), none, none, none, none] [] σ
        refine h.drop (ls' := [none, none, none, none, none, none, none]) trivial ?_
        exact wX5_best_23 hm hf
