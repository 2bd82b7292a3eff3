/-! Printed by wip/whole/prt.py: functions and walks. -/
def fX6_parts_45 (σ : ST) : Option (Int32 × ST) :=
  some ((-1), σ)
set_option maxHeartbeats 4000000 in
theorem wX6_parts_45 {l : Launch} {V : Nat → List (Option Value) → List Value → ST → Prop} {r : Int32} {τ : ST} {σ : ST} (hm : BM l 6 cX6_parts 12 (some .int) 3 70 (some (.int r)) τ V) (hf : fX6_parts_45 σ = some (r, τ)) : V 45 [none, none, none, none, none, none, none, none, none, none, none, none] [] σ := by
  have h := hm.bd
  unfold fX6_parts_45 at hf
  refine h.run (o := []) (ls' := [none, none, none, none, none, none, none, none, none, none, none, none]) (st' := [.int (-1)]) (σ' := σ) [(.iconst (-1), 1, (-1), 0, 0, 0)] (pc2 := 46) (by decide +kernel) rfl trivial ?_
  obtain ⟨rfl, rfl⟩ := Prod.mk.inj (Option.some.inj hf)
  exact hm.iret (by decide +kernel)
def fX6_parts_182 (t0 : Int32) (σ : ST) : Option (Int32 × ST) :=
  some (t0, σ)
set_option maxHeartbeats 4000000 in
theorem wX6_parts_182 {l : Launch} {V : Nat → List (Option Value) → List Value → ST → Prop} {r : Int32} {τ : ST} {σ : ST} {t0 : Int32} (hm : BM l 6 cX6_parts 12 (some .int) 3 70 (some (.int r)) τ V) (hf : fX6_parts_182 t0 σ = some (r, τ)) : V 182 [none, none, none, none, none, none, none, none, none, none, none, none] [.int t0] σ := by
  have h := hm.bd
  unfold fX6_parts_182 at hf
  obtain ⟨rfl, rfl⟩ := Prod.mk.inj (Option.some.inj hf)
  exact hm.iret (by decide +kernel)
def fX6_parts_156 (kt_68 : Int32 → Int32 → Int32 → Int32 → Int32 → Int32 → Int32 → Int32 → Int32 → ST → Option (Int32 × ST)) (x1 : Int32) (x2 : Int32) (x3 : Int32) (x4 : Int32) (x5 : Int32) (x6 : Int32) (x7 : Int32) (x9 : Int32) (t0 : Int32) (σ : ST) : Option (Int32 × ST) :=
  kt_68 x1 x2 x3 x4 x5 x6 x7 t0 (x9 + 1) σ
set_option maxHeartbeats 4000000 in
theorem wX6_parts_156 {l : Launch} {V : Nat → List (Option Value) → List Value → ST → Prop} {r : Int32} {τ : ST} {σ : ST} {x1 : Int32} {x2 : Int32} {x3 : Int32} {x4 : Int32} {x5 : Int32} {x6 : Int32} {x7 : Int32} {x9 : Int32} {t0 : Int32} {kt_68 : Int32 → Int32 → Int32 → Int32 → Int32 → Int32 → Int32 → Int32 → Int32 → ST → Option (Int32 × ST)} (hm : BM l 6 cX6_parts 12 (some .int) 3 70 (some (.int r)) τ V) (hkt_68 : ∀ (x1 : Int32) (x2 : Int32) (x3 : Int32) (x4 : Int32) (x5 : Int32) (x6 : Int32) (x7 : Int32) (x8 : Int32) (x9 : Int32) (σ : ST), kt_68 x1 x2 x3 x4 x5 x6 x7 x8 x9 σ = some (r, τ) → V 68 [some (.ref 36), some (.int x1), some (.int x2), some (.int x3), some (.int x4), some (.int x5), some (.int x6), some (.int x7), some (.int x8), some (.int x9), none, none] [] σ) (hf : fX6_parts_156 kt_68 x1 x2 x3 x4 x5 x6 x7 x9 t0 σ = some (r, τ)) : V 156 [some (.ref 36), some (.int x1), some (.int x2), some (.int x3), some (.int x4), some (.int x5), some (.int x6), some (.int x7), none, some (.int x9), none, none] [.int t0] σ := by
  have h := hm.bd
  unfold fX6_parts_156 at hf
  refine h.run (o := []) (ls' := [some (.ref 36), some (.int x1), some (.int x2), some (.int x3), some (.int x4), some (.int x5), some (.int x6), some (.int x7), some (.int t0), some (.int (x9 + 1)), none, none]) (st' := []) (σ' := σ) [(.istore 8, 2, 0, 0, 0, 0), (.iinc 9 1, 3, 1, 0, 0, 0), (.goto (-93), 3, 0, 0, 0, 68)] (pc2 := 68) (by decide +kernel) rfl trivial ?_
  exact hkt_68 x1 x2 x3 x4 x5 x6 x7 t0 (x9 + 1) _ hf
def fX6_parts_140 (kt_68 : Int32 → Int32 → Int32 → Int32 → Int32 → Int32 → Int32 → Int32 → Int32 → ST → Option (Int32 × ST)) (x1 : Int32) (x2 : Int32) (x3 : Int32) (x4 : Int32) (x5 : Int32) (x6 : Int32) (x8 : Int32) (x9 : Int32) (x11 : Int32) (t0 : Int32) (σ : ST) : Option (Int32 × ST) :=
  if x11 ≤ x8 then
    fX6_parts_156 kt_68 x1 x2 x3 x4 x5 x6 t0 x9 x8 σ
  else
    fX6_parts_156 kt_68 x1 x2 x3 x4 x5 x6 t0 x9 x11 σ
set_option maxHeartbeats 4000000 in
theorem wX6_parts_140 {l : Launch} {V : Nat → List (Option Value) → List Value → ST → Prop} {r : Int32} {τ : ST} {σ : ST} {x1 : Int32} {x2 : Int32} {x3 : Int32} {x4 : Int32} {x5 : Int32} {x6 : Int32} {x8 : Int32} {x9 : Int32} {x11 : Int32} {t0 : Int32} {kt_68 : Int32 → Int32 → Int32 → Int32 → Int32 → Int32 → Int32 → Int32 → Int32 → ST → Option (Int32 × ST)} (hm : BM l 6 cX6_parts 12 (some .int) 3 70 (some (.int r)) τ V) (hkt_68 : ∀ (x1 : Int32) (x2 : Int32) (x3 : Int32) (x4 : Int32) (x5 : Int32) (x6 : Int32) (x7 : Int32) (x8 : Int32) (x9 : Int32) (σ : ST), kt_68 x1 x2 x3 x4 x5 x6 x7 x8 x9 σ = some (r, τ) → V 68 [some (.ref 36), some (.int x1), some (.int x2), some (.int x3), some (.int x4), some (.int x5), some (.int x6), some (.int x7), some (.int x8), some (.int x9), none, none] [] σ) (hf : fX6_parts_140 kt_68 x1 x2 x3 x4 x5 x6 x8 x9 x11 t0 σ = some (r, τ)) : V 140 [some (.ref 36), some (.int x1), some (.int x2), some (.int x3), some (.int x4), some (.int x5), some (.int x6), none, some (.int x8), some (.int x9), none, some (.int x11)] [.int t0] σ := by
  have h := hm.bd
  unfold fX6_parts_140 at hf
  refine h.run (o := []) (ls' := [some (.ref 36), some (.int x1), some (.int x2), some (.int x3), some (.int x4), some (.int x5), some (.int x6), some (.int t0), some (.int x8), some (.int x9), none, some (.int x11)]) (st' := [.int x8, .int x11]) (σ' := σ) [(.istore 7, 2, 0, 0, 0, 0), (.iload 11, 2, 0, 0, 0, 0), (.iload 8, 2, 0, 0, 0, 0)] (pc2 := 146) (by decide +kernel) rfl trivial ?_
  refine h.icmp_le (tgt := 154) (show decode cX6_parts 146 = .ok (.if_icmp .le 8, 3) by decide +kernel) (by decide) (fun c1 => ?_) (fun c1 => ?_)
  · rw [if_pos c1] at hf
    refine h.run (o := []) (ls' := [some (.ref 36), some (.int x1), some (.int x2), some (.int x3), some (.int x4), some (.int x5), some (.int x6), some (.int t0), some (.int x8), some (.int x9), none, some (.int x11)]) (st' := [.int x8]) (σ' := σ) [(.iload 8, 2, 0, 0, 0, 0)] (pc2 := 156) (by decide +kernel) rfl trivial ?_
    refine h.drop (ls' := [some (.ref 36), some (.int x1), some (.int x2), some (.int x3), some (.int x4), some (.int x5), some (.int x6), some (.int t0), none, some (.int x9), none, none]) (And.intro rfl (And.intro rfl (And.intro rfl (And.intro rfl (And.intro rfl (And.intro rfl (And.intro rfl (And.intro rfl (And.intro rfl trivial))))))))) ?_
    exact wX6_parts_156 hm hkt_68 hf
  · rw [if_neg c1] at hf
    show V 149 [some (.ref 36), some (.int x1), some (.int x2), some (.int x3), some (.int x4), some (.int x5), some (.int x6), some (.int t0), some (.int x8), some (.int x9), none, some (.int x11)] [] σ
    refine h.run (o := []) (ls' := [some (.ref 36), some (.int x1), some (.int x2), some (.int x3), some (.int x4), some (.int x5), some (.int x6), some (.int t0), some (.int x8), some (.int x9), none, some (.int x11)]) (st' := [.int x11]) (σ' := σ) [(.iload 11, 2, 0, 0, 0, 0), (.goto 5, 3, 0, 0, 0, 156)] (pc2 := 156) (by decide +kernel) rfl trivial ?_
    refine h.drop (ls' := [some (.ref 36), some (.int x1), some (.int x2), some (.int x3), some (.int x4), some (.int x5), some (.int x6), some (.int t0), none, some (.int x9), none, none]) (And.intro rfl (And.intro rfl (And.intro rfl (And.intro rfl (And.intro rfl (And.intro rfl (And.intro rfl (And.intro rfl (And.intro rfl trivial))))))))) ?_
    exact wX6_parts_156 hm hkt_68 hf
def fX6_parts_124 (kt_68 : Int32 → Int32 → Int32 → Int32 → Int32 → Int32 → Int32 → Int32 → Int32 → ST → Option (Int32 × ST)) (x1 : Int32) (x2 : Int32) (x3 : Int32) (x4 : Int32) (x5 : Int32) (x6 : Int32) (x7 : Int32) (x8 : Int32) (x9 : Int32) (t0 : Int32) (σ : ST) : Option (Int32 × ST) :=
  if t0 ≤ x8 then
    fX6_parts_140 kt_68 x1 x2 x3 x4 x5 x6 x8 x9 t0 x7 σ
  else
    fX6_parts_140 kt_68 x1 x2 x3 x4 x5 x6 x8 x9 t0 x9 σ
set_option maxHeartbeats 4000000 in
theorem wX6_parts_124 {l : Launch} {V : Nat → List (Option Value) → List Value → ST → Prop} {r : Int32} {τ : ST} {σ : ST} {x1 : Int32} {x2 : Int32} {x3 : Int32} {x4 : Int32} {x5 : Int32} {x6 : Int32} {x7 : Int32} {x8 : Int32} {x9 : Int32} {t0 : Int32} {kt_68 : Int32 → Int32 → Int32 → Int32 → Int32 → Int32 → Int32 → Int32 → Int32 → ST → Option (Int32 × ST)} (hm : BM l 6 cX6_parts 12 (some .int) 3 70 (some (.int r)) τ V) (hkt_68 : ∀ (x1 : Int32) (x2 : Int32) (x3 : Int32) (x4 : Int32) (x5 : Int32) (x6 : Int32) (x7 : Int32) (x8 : Int32) (x9 : Int32) (σ : ST), kt_68 x1 x2 x3 x4 x5 x6 x7 x8 x9 σ = some (r, τ) → V 68 [some (.ref 36), some (.int x1), some (.int x2), some (.int x3), some (.int x4), some (.int x5), some (.int x6), some (.int x7), some (.int x8), some (.int x9), none, none] [] σ) (hf : fX6_parts_124 kt_68 x1 x2 x3 x4 x5 x6 x7 x8 x9 t0 σ = some (r, τ)) : V 124 [some (.ref 36), some (.int x1), some (.int x2), some (.int x3), some (.int x4), some (.int x5), some (.int x6), some (.int x7), some (.int x8), some (.int x9), none, none] [.int t0] σ := by
  have h := hm.bd
  unfold fX6_parts_124 at hf
  refine h.run (o := []) (ls' := [some (.ref 36), some (.int x1), some (.int x2), some (.int x3), some (.int x4), some (.int x5), some (.int x6), some (.int x7), some (.int x8), some (.int x9), none, some (.int t0)]) (st' := [.int x8, .int t0]) (σ' := σ) [(.istore 11, 2, 0, 0, 0, 0), (.iload 11, 2, 0, 0, 0, 0), (.iload 8, 2, 0, 0, 0, 0)] (pc2 := 130) (by decide +kernel) rfl trivial ?_
  refine h.icmp_le (tgt := 138) (show decode cX6_parts 130 = .ok (.if_icmp .le 8, 3) by decide +kernel) (by decide) (fun c1 => ?_) (fun c1 => ?_)
  · rw [if_pos c1] at hf
    refine h.run (o := []) (ls' := [some (.ref 36), some (.int x1), some (.int x2), some (.int x3), some (.int x4), some (.int x5), some (.int x6), some (.int x7), some (.int x8), some (.int x9), none, some (.int t0)]) (st' := [.int x7]) (σ' := σ) [(.iload 7, 2, 0, 0, 0, 0)] (pc2 := 140) (by decide +kernel) rfl trivial ?_
    refine h.drop (ls' := [some (.ref 36), some (.int x1), some (.int x2), some (.int x3), some (.int x4), some (.int x5), some (.int x6), none, some (.int x8), some (.int x9), none, some (.int t0)]) (And.intro rfl (And.intro rfl (And.intro rfl (And.intro rfl (And.intro rfl (And.intro rfl (And.intro rfl (And.intro rfl (And.intro rfl (And.intro rfl trivial)))))))))) ?_
    exact wX6_parts_140 hm hkt_68 hf
  · rw [if_neg c1] at hf
    show V 133 [some (.ref 36), some (.int x1), some (.int x2), some (.int x3), some (.int x4), some (.int x5), some (.int x6), some (.int x7), some (.int x8), some (.int x9), none, some (.int t0)] [] σ
    refine h.run (o := []) (ls' := [some (.ref 36), some (.int x1), some (.int x2), some (.int x3), some (.int x4), some (.int x5), some (.int x6), some (.int x7), some (.int x8), some (.int x9), none, some (.int t0)]) (st' := [.int x9]) (σ' := σ) [(.iload 9, 2, 0, 0, 0, 0), (.goto 5, 3, 0, 0, 0, 140)] (pc2 := 140) (by decide +kernel) rfl trivial ?_
    refine h.drop (ls' := [some (.ref 36), some (.int x1), some (.int x2), some (.int x3), some (.int x4), some (.int x5), some (.int x6), none, some (.int x8), some (.int x9), none, some (.int t0)]) (And.intro rfl (And.intro rfl (And.intro rfl (And.intro rfl (And.intro rfl (And.intro rfl (And.intro rfl (And.intro rfl (And.intro rfl (And.intro rfl trivial)))))))))) ?_
    exact wX6_parts_140 hm hkt_68 hf
def fX6_parts_68 (n : Nat) (x1 : Int32) (x2 : Int32) (x3 : Int32) (x4 : Int32) (x5 : Int32) (x6 : Int32) (x7 : Int32) (x8 : Int32) (x9 : Int32) (σ : ST) : Option (Int32 × ST) := match n with
  | 0 => none
  | n + 1 =>
    if 5 < x9 then
      if x4 = 0 then
        fX6_parts_182 x7 (setI σ 36 1 x6)
      else
        fX6_parts_182 x8 (setI σ 36 1 x6)
    else
      bI (fX6_sendingTo x1 x3 (setI σ 36 1 x9)) fun a2 σ2 =>
      bI (fX6_sendingTo x2 x3 (setI σ2 36 2 x5)) fun a3 σ3 =>
      if 0 ≤ (a2 - a3) then
        fX6_parts_124 (fX6_parts_68 n) x1 x2 x3 x4 x5 x6 x7 x8 x9 (a2 - a3) (setI σ3 36 2 x5)
      else
        fX6_parts_124 (fX6_parts_68 n) x1 x2 x3 x4 x5 x6 x7 x8 x9 (-(a2 - a3)) (setI σ3 36 2 x5)
set_option maxHeartbeats 4000000 in
theorem wX6_parts_68 {l : Launch} {V : Nat → List (Option Value) → List Value → ST → Prop} {r : Int32} {τ : ST} (hm : BM l 6 cX6_parts 12 (some .int) 3 70 (some (.int r)) τ V) : ∀ (n : Nat) (x1 : Int32) (x2 : Int32) (x3 : Int32) (x4 : Int32) (x5 : Int32) (x6 : Int32) (x7 : Int32) (x8 : Int32) (x9 : Int32) (σ : ST), fX6_parts_68 n x1 x2 x3 x4 x5 x6 x7 x8 x9 σ = some (r, τ) → V 68 [some (.ref 36), some (.int x1), some (.int x2), some (.int x3), some (.int x4), some (.int x5), some (.int x6), some (.int x7), some (.int x8), some (.int x9), none, none] [] σ := by
  have h := hm.bd
  intro n
  induction n with
  | zero => intro x1 x2 x3 x4 x5 x6 x7 x8 x9 σ hf; cases hf
  | succ n ih =>
    intro x1 x2 x3 x4 x5 x6 x7 x8 x9 σ hf
    rw [fX6_parts_68] at hf
    refine h.run (o := []) (ls' := [some (.ref 36), some (.int x1), some (.int x2), some (.int x3), some (.int x4), some (.int x5), some (.int x6), some (.int x7), some (.int x8), some (.int x9), none, none]) (st' := [.int 5, .int x9]) (σ' := σ) [(.iload 9, 2, 0, 0, 0, 0), (.iconst 5, 1, 5, 0, 0, 0)] (pc2 := 71) (by decide +kernel) rfl trivial ?_
    refine h.icmp_gt (tgt := 164) (show decode cX6_parts 71 = .ok (.if_icmp .gt 93, 3) by decide +kernel) (by decide) (fun c5 => ?_) (fun c5 => ?_)
    · rw [if_pos c5] at hf
      refine h.run (o := [kd 36 = 6]) (ls' := [some (.ref 36), some (.int x1), some (.int x2), some (.int x3), some (.int x4), some (.int x5), some (.int x6), some (.int x7), some (.int x8), some (.int x9), none, none]) (st' := [.int x4]) (σ' := setI σ 36 1 x6) [(.aload_n 0, 1, 0, 0, 0, 0), (.iload 6, 2, 0, 0, 0, 0), (.putfield 13, 3, 0, 0, 6, 1), (.iload 4, 2, 0, 0, 0, 0)] (pc2 := 172) (by decide +kernel) rfl (And.intro kd_36 trivial) ?_
      refine h.if_ne (tgt := 180) (show decode cX6_parts 172 = .ok (.ifCond .ne 8, 3) by decide +kernel) (by decide) (fun c1 => ?_) (fun c1 => ?_)
      · rw [if_neg c1] at hf
        refine h.run (o := []) (ls' := [some (.ref 36), some (.int x1), some (.int x2), some (.int x3), some (.int x4), some (.int x5), some (.int x6), some (.int x7), some (.int x8), some (.int x9), none, none]) (st' := [.int x8]) (σ' := setI σ 36 1 x6) [(.iload 8, 2, 0, 0, 0, 0)] (pc2 := 182) (by decide +kernel) rfl trivial ?_
        refine h.drop (ls' := [none, none, none, none, none, none, none, none, none, none, none, none]) trivial ?_
        exact wX6_parts_182 hm hf
      · rw [if_pos c1] at hf
        show V 175 [some (.ref 36), some (.int x1), some (.int x2), some (.int x3), some (.int x4), some (.int x5), some (.int x6), some (.int x7), some (.int x8), some (.int x9), none, none] [] (setI σ 36 1 x6)
        refine h.run (o := []) (ls' := [some (.ref 36), some (.int x1), some (.int x2), some (.int x3), some (.int x4), some (.int x5), some (.int x6), some (.int x7), some (.int x8), some (.int x9), none, none]) (st' := [.int x7]) (σ' := setI σ 36 1 x6) [(.iload 7, 2, 0, 0, 0, 0), (.goto 5, 3, 0, 0, 0, 182)] (pc2 := 182) (by decide +kernel) rfl trivial ?_
        refine h.drop (ls' := [none, none, none, none, none, none, none, none, none, none, none, none]) trivial ?_
        exact wX6_parts_182 hm hf
    · rw [if_neg c5] at hf
      show V 74 [some (.ref 36), some (.int x1), some (.int x2), some (.int x3), some (.int x4), some (.int x5), some (.int x6), some (.int x7), some (.int x8), some (.int x9), none, none] [] σ
      refine h.run (o := [kd 36 = 6]) (ls' := [some (.ref 36), some (.int x1), some (.int x2), some (.int x3), some (.int x4), some (.int x5), some (.int x6), some (.int x7), some (.int x8), some (.int x9), none, none]) (st' := [.int x3, .int x1, .ref 36]) (σ' := setI σ 36 1 x9) [(.aload_n 0, 1, 0, 0, 0, 0), (.iload 9, 2, 0, 0, 0, 0), (.putfield 13, 3, 0, 0, 6, 1), (.aload_n 0, 1, 0, 0, 0, 0), (.iload_n 1, 1, 0, 0, 0, 0), (.iload_n 3, 1, 0, 0, 0, 0)] (pc2 := 83) (by decide +kernel) rfl (And.intro kd_36 trivial) ?_
      obtain ⟨a2, σ2, e2, hf⟩ := bI_some hf
      refine h.callV (as := [.int x1, .int x3]) (rest := []) (by decide +kernel) lk6_210 cwX6_sendingTo kd_36 (kmX6_sendingTo l e2) rfl (Nat.le_of_ble_eq_true rfl) (Nat.le_of_ble_eq_true rfl) (Nat.le_of_ble_eq_true rfl) ?_
      show V 86 [some (.ref 36), some (.int x1), some (.int x2), some (.int x3), some (.int x4), some (.int x5), some (.int x6), some (.int x7), some (.int x8), some (.int x9), none, none] [.int a2] σ2
      refine h.run (o := [kd 36 = 6]) (ls' := [some (.ref 36), some (.int x1), some (.int x2), some (.int x3), some (.int x4), some (.int x5), some (.int x6), some (.int x7), some (.int x8), some (.int x9), some (.int a2), none]) (st' := [.int x3, .int x2, .ref 36, .int a2]) (σ' := setI σ2 36 2 x5) [(.istore 10, 2, 0, 0, 0, 0), (.aload_n 0, 1, 0, 0, 0, 0), (.iload 5, 2, 0, 0, 0, 0), (.putfield 16, 3, 0, 0, 6, 2), (.iload 10, 2, 0, 0, 0, 0), (.aload_n 0, 1, 0, 0, 0, 0), (.iload_n 2, 1, 0, 0, 0, 0), (.iload_n 3, 1, 0, 0, 0, 0)] (pc2 := 99) (by decide +kernel) rfl (And.intro kd_36 trivial) ?_
      obtain ⟨a3, σ3, e3, hf⟩ := bI_some hf
      refine h.callV (as := [.int x2, .int x3]) (rest := [.int a2]) (by decide +kernel) lk6_210 cwX6_sendingTo kd_36 (kmX6_sendingTo l e3) rfl (Nat.le_of_ble_eq_true rfl) (Nat.le_of_ble_eq_true rfl) (Nat.le_of_ble_eq_true rfl) ?_
      show V 102 [some (.ref 36), some (.int x1), some (.int x2), some (.int x3), some (.int x4), some (.int x5), some (.int x6), some (.int x7), some (.int x8), some (.int x9), some (.int a2), none] [.int a3, .int a2] σ3
      refine h.run (o := [kd 36 = 6]) (ls' := [some (.ref 36), some (.int x1), some (.int x2), some (.int x3), some (.int x4), some (.int x5), some (.int x6), some (.int x7), some (.int x8), some (.int x9), some (.int a2), some (.int (a2 - a3))]) (st' := [.int (a2 - a3)]) (σ' := setI σ3 36 2 x5) [(.isub, 1, 0, 0, 0, 0), (.istore 11, 2, 0, 0, 0, 0), (.aload_n 0, 1, 0, 0, 0, 0), (.iload 5, 2, 0, 0, 0, 0), (.putfield 16, 3, 0, 0, 6, 2), (.iload 11, 2, 0, 0, 0, 0)] (pc2 := 113) (by decide +kernel) rfl (And.intro kd_36 trivial) ?_
      refine h.if_ge (tgt := 122) (show decode cX6_parts 113 = .ok (.ifCond .ge 9, 3) by decide +kernel) (by decide) (fun c4 => ?_) (fun c4 => ?_)
      · rw [if_pos c4] at hf
        refine h.run (o := []) (ls' := [some (.ref 36), some (.int x1), some (.int x2), some (.int x3), some (.int x4), some (.int x5), some (.int x6), some (.int x7), some (.int x8), some (.int x9), some (.int a2), some (.int (a2 - a3))]) (st' := [.int (a2 - a3)]) (σ' := setI σ3 36 2 x5) [(.iload 11, 2, 0, 0, 0, 0)] (pc2 := 124) (by decide +kernel) rfl trivial ?_
        refine h.drop (ls' := [some (.ref 36), some (.int x1), some (.int x2), some (.int x3), some (.int x4), some (.int x5), some (.int x6), some (.int x7), some (.int x8), some (.int x9), none, none]) (And.intro rfl (And.intro rfl (And.intro rfl (And.intro rfl (And.intro rfl (And.intro rfl (And.intro rfl (And.intro rfl (And.intro rfl (And.intro rfl trivial)))))))))) ?_
        exact wX6_parts_124 hm ih hf
      · rw [if_neg c4] at hf
        show V 116 [some (.ref 36), some (.int x1), some (.int x2), some (.int x3), some (.int x4), some (.int x5), some (.int x6), some (.int x7), some (.int x8), some (.int x9), some (.int a2), some (.int (a2 - a3))] [] (setI σ3 36 2 x5)
        refine h.run (o := []) (ls' := [some (.ref 36), some (.int x1), some (.int x2), some (.int x3), some (.int x4), some (.int x5), some (.int x6), some (.int x7), some (.int x8), some (.int x9), some (.int a2), some (.int (a2 - a3))]) (st' := [.int (-(a2 - a3))]) (σ' := setI σ3 36 2 x5) [(.iload 11, 2, 0, 0, 0, 0), (.ineg, 1, 0, 0, 0, 0), (.goto 5, 3, 0, 0, 0, 124)] (pc2 := 124) (by decide +kernel) rfl trivial ?_
        refine h.drop (ls' := [some (.ref 36), some (.int x1), some (.int x2), some (.int x3), some (.int x4), some (.int x5), some (.int x6), some (.int x7), some (.int x8), some (.int x9), none, none]) (And.intro rfl (And.intro rfl (And.intro rfl (And.intro rfl (And.intro rfl (And.intro rfl (And.intro rfl (And.intro rfl (And.intro rfl (And.intro rfl trivial)))))))))) ?_
        exact wX6_parts_124 hm ih hf
def fX6_parts (x1 : Int32) (x2 : Int32) (x3 : Int32) (x4 : Int32) (σ : ST) : Option (Int32 × ST) :=
  bR (fX6_isSender x1 (setI σ 36 23 0)) fun a1 =>
  if a1 = 0 then
    fX6_parts_45 (setI σ 36 23 0)
  else
    bR (fX6_isSender x2 (setI σ 36 23 0)) fun a2 =>
    if a2 = 0 then
      fX6_parts_45 (setI σ 36 23 0)
    else
      if x1 = x2 then
        fX6_parts_45 (setI σ 36 23 0)
      else
        bR (fX6_isReturner x3 (setI σ 36 23 0)) fun a3 =>
        if a3 = 0 then
          fX6_parts_45 (setI σ 36 23 0)
        else
          bR (fX6_in x4.toInt64 0 1 (setI σ 36 23 0)) fun a4 =>
          if a4 = 0 then
            fX6_parts_45 (setI σ 36 23 0)
          else
            fX6_parts_68 FU x1 x2 x3 x4 ((setI σ 36 23 0).1 36 2) ((setI σ 36 23 0).1 36 1) 0 (-1) 1 (setI σ 36 23 0)
set_option maxHeartbeats 4000000 in
theorem kmX6_parts (l : Launch) {x1 : Int32} {x2 : Int32} {x3 : Int32} {x4 : Int32} {σ : ST} {r : Int32} {τ : ST} (hf : fX6_parts x1 x2 x3 x4 σ = some (r, τ)) : KM l yX6_parts cX6_parts 12 (some .int) 3 70 [.ref 36, .int x1, .int x2, .int x3, .int x4] σ (some (.int r)) τ := by
  refine KM.intro (ow := 6) (by decide +kernel) rfl (Nat.le_of_ble_eq_true rfl) (fun V hm => ?_)
  show V 0 [some (.ref 36), some (.int x1), some (.int x2), some (.int x3), some (.int x4), none, none, none, none, none, none, none] [] σ
  have h := hm.bd
  unfold fX6_parts at hf
  refine h.run (o := [kd 36 = 6]) (ls' := [some (.ref 36), some (.int x1), some (.int x2), some (.int x3), some (.int x4), none, none, none, none, none, none, none]) (st' := [.int x1, .ref 36]) (σ' := setI σ 36 23 0) [(.aload_n 0, 1, 0, 0, 0, 0), (.iconst 0, 1, 0, 0, 0, 0), (.putfield 112, 3, 0, 0, 6, 23), (.aload_n 0, 1, 0, 0, 0, 0), (.iload_n 1, 1, 0, 0, 0, 0)] (pc2 := 7) (by decide +kernel) rfl (And.intro kd_36 trivial) ?_
  obtain ⟨a1, e1, hf⟩ := bR_some hf
  refine h.callV (as := [.int x1]) (rest := []) (by decide +kernel) lk6_183 cwX6_isSender kd_36 (kmX6_isSender l e1) rfl (Nat.le_of_ble_eq_true rfl) (Nat.le_of_ble_eq_true rfl) (Nat.le_of_ble_eq_true rfl) ?_
  show V 10 [some (.ref 36), some (.int x1), some (.int x2), some (.int x3), some (.int x4), none, none, none, none, none, none, none] [.int a1] (setI σ 36 23 0)
  refine h.if_eq (tgt := 45) (show decode cX6_parts 10 = .ok (.ifCond .eq 35, 3) by decide +kernel) (by decide) (fun c9 => ?_) (fun c9 => ?_)
  · rw [if_pos c9] at hf
    refine h.drop (ls' := [none, none, none, none, none, none, none, none, none, none, none, none]) trivial ?_
    exact wX6_parts_45 hm hf
  · rw [if_neg c9] at hf
    show V 13 [some (.ref 36), some (.int x1), some (.int x2), some (.int x3), some (.int x4), none, none, none, none, none, none, none] [] (setI σ 36 23 0)
    refine h.run (o := []) (ls' := [some (.ref 36), some (.int x1), some (.int x2), some (.int x3), some (.int x4), none, none, none, none, none, none, none]) (st' := [.int x2, .ref 36]) (σ' := setI σ 36 23 0) [(.aload_n 0, 1, 0, 0, 0, 0), (.iload_n 2, 1, 0, 0, 0, 0)] (pc2 := 15) (by decide +kernel) rfl trivial ?_
    obtain ⟨a2, e2, hf⟩ := bR_some hf
    refine h.callV (as := [.int x2]) (rest := []) (by decide +kernel) lk6_183 cwX6_isSender kd_36 (kmX6_isSender l e2) rfl (Nat.le_of_ble_eq_true rfl) (Nat.le_of_ble_eq_true rfl) (Nat.le_of_ble_eq_true rfl) ?_
    show V 18 [some (.ref 36), some (.int x1), some (.int x2), some (.int x3), some (.int x4), none, none, none, none, none, none, none] [.int a2] (setI σ 36 23 0)
    refine h.if_eq (tgt := 45) (show decode cX6_parts 18 = .ok (.ifCond .eq 27, 3) by decide +kernel) (by decide) (fun c8 => ?_) (fun c8 => ?_)
    · rw [if_pos c8] at hf
      refine h.drop (ls' := [none, none, none, none, none, none, none, none, none, none, none, none]) trivial ?_
      exact wX6_parts_45 hm hf
    · rw [if_neg c8] at hf
      show V 21 [some (.ref 36), some (.int x1), some (.int x2), some (.int x3), some (.int x4), none, none, none, none, none, none, none] [] (setI σ 36 23 0)
      refine h.run (o := []) (ls' := [some (.ref 36), some (.int x1), some (.int x2), some (.int x3), some (.int x4), none, none, none, none, none, none, none]) (st' := [.int x2, .int x1]) (σ' := setI σ 36 23 0) [(.iload_n 1, 1, 0, 0, 0, 0), (.iload_n 2, 1, 0, 0, 0, 0)] (pc2 := 23) (by decide +kernel) rfl trivial ?_
      refine h.icmp_eq (tgt := 45) (show decode cX6_parts 23 = .ok (.if_icmp .eq 22, 3) by decide +kernel) (by decide) (fun c7 => ?_) (fun c7 => ?_)
      · rw [if_pos c7] at hf
        refine h.drop (ls' := [none, none, none, none, none, none, none, none, none, none, none, none]) trivial ?_
        exact wX6_parts_45 hm hf
      · rw [if_neg c7] at hf
        show V 26 [some (.ref 36), some (.int x1), some (.int x2), some (.int x3), some (.int x4), none, none, none, none, none, none, none] [] (setI σ 36 23 0)
        refine h.run (o := []) (ls' := [some (.ref 36), some (.int x1), some (.int x2), some (.int x3), some (.int x4), none, none, none, none, none, none, none]) (st' := [.int x3, .ref 36]) (σ' := setI σ 36 23 0) [(.aload_n 0, 1, 0, 0, 0, 0), (.iload_n 3, 1, 0, 0, 0, 0)] (pc2 := 28) (by decide +kernel) rfl trivial ?_
        obtain ⟨a3, e3, hf⟩ := bR_some hf
        refine h.callV (as := [.int x3]) (rest := []) (by decide +kernel) lk6_188 cwX6_isReturner kd_36 (kmX6_isReturner l e3) rfl (Nat.le_of_ble_eq_true rfl) (Nat.le_of_ble_eq_true rfl) (Nat.le_of_ble_eq_true rfl) ?_
        show V 31 [some (.ref 36), some (.int x1), some (.int x2), some (.int x3), some (.int x4), none, none, none, none, none, none, none] [.int a3] (setI σ 36 23 0)
        refine h.if_eq (tgt := 45) (show decode cX6_parts 31 = .ok (.ifCond .eq 14, 3) by decide +kernel) (by decide) (fun c6 => ?_) (fun c6 => ?_)
        · rw [if_pos c6] at hf
          refine h.drop (ls' := [none, none, none, none, none, none, none, none, none, none, none, none]) trivial ?_
          exact wX6_parts_45 hm hf
        · rw [if_neg c6] at hf
          show V 34 [some (.ref 36), some (.int x1), some (.int x2), some (.int x3), some (.int x4), none, none, none, none, none, none, none] [] (setI σ 36 23 0)
          refine h.run (o := []) (ls' := [some (.ref 36), some (.int x1), some (.int x2), some (.int x3), some (.int x4), none, none, none, none, none, none, none]) (st' := [.long 1, .long 0, .long x4.toInt64]) (σ' := setI σ 36 23 0) [(.iload 4, 2, 0, 0, 0, 0), (.i2l, 1, 0, 0, 0, 0), (.lconst 0, 1, 0, 0, 0, 0), (.lconst 1, 1, 0, 1, 0, 0)] (pc2 := 39) (by decide +kernel) rfl trivial ?_
          obtain ⟨a4, e4, hf⟩ := bR_some hf
          refine h.callS (as := [.long x4.toInt64, .long 0, .long 1]) (rest := []) (by decide +kernel) lk6_119 cwX6_in (kmX6_in l e4) rfl (Nat.le_of_ble_eq_true rfl) (Nat.le_of_ble_eq_true rfl) (Nat.le_of_ble_eq_true rfl) ?_
          show V 42 [some (.ref 36), some (.int x1), some (.int x2), some (.int x3), some (.int x4), none, none, none, none, none, none, none] [.int a4] (setI σ 36 23 0)
          refine h.if_ne (tgt := 47) (show decode cX6_parts 42 = .ok (.ifCond .ne 5, 3) by decide +kernel) (by decide) (fun c5 => ?_) (fun c5 => ?_)
          · rw [if_neg c5] at hf
            refine h.run (o := [kd 36 = 6, kd 36 = 6]) (ls' := [some (.ref 36), some (.int x1), some (.int x2), some (.int x3), some (.int x4), some (.int ((setI σ 36 23 0).1 36 2)), some (.int ((setI σ 36 23 0).1 36 1)), some (.int 0), some (.int (-1)), some (.int 1), none, none]) (st' := []) (σ' := setI σ 36 23 0) [(.aload_n 0, 1, 0, 0, 0, 0), (.getfield 16, 3, 0, 0, 6, 2), (.istore 5, 2, 0, 0, 0, 0), (.aload_n 0, 1, 0, 0, 0, 0), (.getfield 13, 3, 0, 0, 6, 1), (.istore 6, 2, 0, 0, 0, 0), (.iconst 0, 1, 0, 0, 0, 0), (.istore 7, 2, 0, 0, 0, 0), (.iconst (-1), 1, (-1), 0, 0, 0), (.istore 8, 2, 0, 0, 0, 0), (.iconst 1, 1, 1, 0, 0, 0), (.istore 9, 2, 0, 0, 0, 0)] (pc2 := 68) (by decide +kernel) rfl (And.intro kd_36 (And.intro kd_36 trivial)) ?_
            exact wX6_parts_68 hm FU x1 x2 x3 x4 ((setI σ 36 23 0).1 36 2) ((setI σ 36 23 0).1 36 1) 0 (-1) 1 _ hf
          · rw [if_pos c5] at hf
            show V 45 [some (.ref 36), some (.int x1), some (.int x2), some (.int x3), some (.int x4), none, none, none, none, none, none, none] [] (setI σ 36 23 0)
            refine h.drop (ls' := [none, none, none, none, none, none, none, none, none, none, none, none]) trivial ?_
            exact wX6_parts_45 hm hf
def fX6_carry_17 (σ : ST) : Option (Int32 × ST) :=
  gd (inb (((setI σ 36 36 ((σ.1 36 36) + 1)).1 36 36) - 1) (alen 57)) <|
  some ((setI σ 36 36 ((σ.1 36 36) + 1)).1 57 ((((setI σ 36 36 ((σ.1 36 36) + 1)).1 36 36) - 1).toNatClampNeg), setI σ 36 36 ((σ.1 36 36) + 1))
set_option maxHeartbeats 4000000 in
theorem wX6_carry_17 {l : Launch} {V : Nat → List (Option Value) → List Value → ST → Prop} {r : Int32} {τ : ST} {σ : ST} (hm : BM l 6 cX6_carry 2 (some .int) 0 0 (some (.int r)) τ V) (hf : fX6_carry_17 σ = some (r, τ)) : V 17 [some (.ref 36), none] [] σ := by
  have h := hm.bd
  unfold fX6_carry_17 at hf
  obtain ⟨g1, hf⟩ := gd_some hf
  refine h.run (o := [kd 36 = 6, kd 36 = 6, kd 36 = 6, kd 36 = 6, kd 57 = 10, inb (((setI σ 36 36 ((σ.1 36 36) + 1)).1 36 36) - 1) (alen 57) = true]) (ls' := [some (.ref 36), none]) (st' := [.int ((setI σ 36 36 ((σ.1 36 36) + 1)).1 57 ((((setI σ 36 36 ((σ.1 36 36) + 1)).1 36 36) - 1).toNatClampNeg))]) (σ' := setI σ 36 36 ((σ.1 36 36) + 1)) [(.aload_n 0, 1, 0, 0, 0, 0), (.dup, 1, 0, 0, 0, 0), (.getfield 265, 3, 0, 0, 6, 36), (.iconst 1, 1, 1, 0, 0, 0), (.iadd, 1, 0, 0, 0, 0), (.putfield 265, 3, 0, 0, 6, 36), (.aload_n 0, 1, 0, 0, 0, 0), (.getfield 81, 3, 0, 0, 6, 35), (.aload_n 0, 1, 0, 0, 0, 0), (.getfield 265, 3, 0, 0, 6, 36), (.iconst 1, 1, 1, 0, 0, 0), (.isub, 1, 0, 0, 0, 0), (.iaload, 1, 0, 0, 0, 0)] (pc2 := 38) (by decide +kernel) rfl (And.intro kd_36 (And.intro kd_36 (And.intro kd_36 (And.intro kd_36 (And.intro kd_57 (And.intro g1 trivial)))))) ?_
  obtain ⟨rfl, rfl⟩ := Prod.mk.inj (Option.some.inj hf)
  exact hm.iret (by decide +kernel)
def fX6_carry (x1 : Int32) (σ : ST) : Option (Int32 × ST) :=
  if (σ.1 36 37) = 0 then
    fX6_carry_17 σ
  else
    gd (inb (σ.1 36 36) (alen 57)) <|
    fX6_carry_17 (setI σ 57 ((σ.1 36 36).toNatClampNeg) x1)
set_option maxHeartbeats 4000000 in
theorem kmX6_carry (l : Launch) {x1 : Int32} {σ : ST} {r : Int32} {τ : ST} (hf : fX6_carry x1 σ = some (r, τ)) : KM l yX6_carry cX6_carry 2 (some .int) 0 0 [.ref 36, .int x1] σ (some (.int r)) τ := by
  refine KM.intro (ow := 6) (by decide +kernel) rfl (Nat.le_of_ble_eq_true rfl) (fun V hm => ?_)
  show V 0 [some (.ref 36), some (.int x1)] [] σ
  have h := hm.bd
  unfold fX6_carry at hf
  refine h.run (o := [kd 36 = 6]) (ls' := [some (.ref 36), some (.int x1)]) (st' := [.int (σ.1 36 37)]) (σ' := σ) [(.aload_n 0, 1, 0, 0, 0, 0), (.getfield 262, 3, 0, 0, 6, 37)] (pc2 := 4) (by decide +kernel) rfl (And.intro kd_36 trivial) ?_
  refine h.if_eq (tgt := 17) (show decode cX6_carry 4 = .ok (.ifCond .eq 13, 3) by decide +kernel) (by decide) (fun c2 => ?_) (fun c2 => ?_)
  · rw [if_pos c2] at hf
    refine h.drop (ls' := [some (.ref 36), none]) (And.intro rfl trivial) ?_
    exact wX6_carry_17 hm hf
  · rw [if_neg c2] at hf
    show V 7 [some (.ref 36), some (.int x1)] [] σ
    obtain ⟨g1, hf⟩ := gd_some hf
    refine h.run (o := [kd 36 = 6, kd 36 = 6, kd 57 = 10, inb (σ.1 36 36) (alen 57) = true]) (ls' := [some (.ref 36), some (.int x1)]) (st' := []) (σ' := setI σ 57 ((σ.1 36 36).toNatClampNeg) x1) [(.aload_n 0, 1, 0, 0, 0, 0), (.getfield 81, 3, 0, 0, 6, 35), (.aload_n 0, 1, 0, 0, 0, 0), (.getfield 265, 3, 0, 0, 6, 36), (.iload_n 1, 1, 0, 0, 0, 0), (.iastore, 1, 0, 0, 0, 0)] (pc2 := 17) (by decide +kernel) rfl (And.intro kd_36 (And.intro kd_36 (And.intro kd_57 (And.intro g1 trivial)))) ?_
    refine h.drop (ls' := [some (.ref 36), none]) (And.intro rfl trivial) ?_
    exact wX6_carry_17 hm hf
def fX6_carryAll_401 (kt_283 : Int32 → ST → Option ST) (x1 : Int32) (t1 : Int32) (t2 : Int32) (σ : ST) : Option ST :=
  gd (inb t1 (alen 53)) <|
  gd (isb t2) <|
  kt_283 (x1 + 1) (setI σ 53 (t1.toNatClampNeg) t2)
set_option maxHeartbeats 4000000 in
theorem wX6_carryAll_401 {l : Launch} {V : Nat → List (Option Value) → List Value → ST → Prop} {τ : ST} {σ : ST} {x1 : Int32} {t1 : Int32} {t2 : Int32} {kt_283 : Int32 → ST → Option ST} (hm : BM l 6 cX6_carryAll 2 none 1 21 none τ V) (hkt_283 : ∀ (x1 : Int32) (σ : ST), kt_283 x1 σ = some τ → V 283 [some (.ref 36), some (.int x1)] [] σ) (hf : fX6_carryAll_401 kt_283 x1 t1 t2 σ = some τ) : V 401 [some (.ref 36), some (.int x1)] [.int t2, .int t1, .ref 53] σ := by
  have h := hm.bd
  unfold fX6_carryAll_401 at hf
  obtain ⟨g1, hf⟩ := gd_some hf
  obtain ⟨g2, hf⟩ := gd_some hf
  refine h.run (o := [kd 53 = 11, inb t1 (alen 53) = true, isb t2 = true]) (ls' := [some (.ref 36), some (.int (x1 + 1))]) (st' := []) (σ' := setI σ 53 (t1.toNatClampNeg) t2) [(.bastore, 1, 0, 0, 0, 0), (.iinc 1 1, 3, 1, 0, 0, 0), (.goto (-122), 3, 0, 0, 0, 283)] (pc2 := 283) (by decide +kernel) rfl (And.intro kd_53 (And.intro g1 (And.intro g2 trivial))) ?_
  exact hkt_283 (x1 + 1) _ hf
def fX6_carryAll_389 (kt_283 : Int32 → ST → Option ST) (x1 : Int32) (t1 : Int32) (t3 : Int32) (σ : ST) : Option ST :=
  bI (fX6_carry t3 σ) fun a1 σ1 =>
  if a1 = 1 then
    fX6_carryAll_401 kt_283 x1 t1 1 σ1
  else
    fX6_carryAll_401 kt_283 x1 t1 0 σ1
set_option maxHeartbeats 4000000 in
theorem wX6_carryAll_389 {l : Launch} {V : Nat → List (Option Value) → List Value → ST → Prop} {τ : ST} {σ : ST} {x1 : Int32} {t1 : Int32} {t3 : Int32} {kt_283 : Int32 → ST → Option ST} (hm : BM l 6 cX6_carryAll 2 none 1 21 none τ V) (hkt_283 : ∀ (x1 : Int32) (σ : ST), kt_283 x1 σ = some τ → V 283 [some (.ref 36), some (.int x1)] [] σ) (hf : fX6_carryAll_389 kt_283 x1 t1 t3 σ = some τ) : V 389 [some (.ref 36), some (.int x1)] [.int t3, .ref 36, .int t1, .ref 53] σ := by
  have h := hm.bd
  unfold fX6_carryAll_389 at hf
  obtain ⟨a1, σ1, e1, hf⟩ := bI_some hf
  refine h.callV (as := [.int t3]) (rest := [.int t1, .ref 53]) (by decide +kernel) lk6_268 cwX6_carry kd_36 (kmX6_carry l e1) rfl (Nat.le_of_ble_eq_true rfl) (Nat.le_of_ble_eq_true rfl) (Nat.le_of_ble_eq_true rfl) ?_
  show V 392 [some (.ref 36), some (.int x1)] [.int a1, .int t1, .ref 53] σ1
  refine h.run (o := []) (ls' := [some (.ref 36), some (.int x1)]) (st' := [.int 1, .int a1, .int t1, .ref 53]) (σ' := σ1) [(.iconst 1, 1, 1, 0, 0, 0)] (pc2 := 393) (by decide +kernel) rfl trivial ?_
  refine h.icmp_ne (tgt := 400) (show decode cX6_carryAll 393 = .ok (.if_icmp .ne 7, 3) by decide +kernel) (by decide) (fun c2 => ?_) (fun c2 => ?_)
  · rw [if_neg c2] at hf
    refine h.run (o := []) (ls' := [some (.ref 36), some (.int x1)]) (st' := [.int 0, .int t1, .ref 53]) (σ' := σ1) [(.iconst 0, 1, 0, 0, 0, 0)] (pc2 := 401) (by decide +kernel) rfl trivial ?_
    exact wX6_carryAll_401 hm hkt_283 hf
  · rw [if_pos c2] at hf
    show V 396 [some (.ref 36), some (.int x1)] [.int t1, .ref 53] σ1
    refine h.run (o := []) (ls' := [some (.ref 36), some (.int x1)]) (st' := [.int 1, .int t1, .ref 53]) (σ' := σ1) [(.iconst 1, 1, 1, 0, 0, 0), (.goto 4, 3, 0, 0, 0, 401)] (pc2 := 401) (by decide +kernel) rfl trivial ?_
    exact wX6_carryAll_401 hm hkt_283 hf
def fX6_carryAll_283 (n : Nat) (x1 : Int32) (σ : ST) : Option ST := match n with
  | 0 => none
  | n + 1 =>
    if 100 ≤ x1 then
      some σ
    else
      gd (inb x1 (alen 48)) <|
      bI (fX6_carry (σ.1 48 x1.toNatClampNeg) σ) fun a2 σ2 =>
      gd (inb x1 (alen 48)) <|
      gd (inb x1 (alen 49)) <|
      bI (fX6_carry ((setI σ2 48 (x1.toNatClampNeg) a2).1 49 x1.toNatClampNeg) (setI σ2 48 (x1.toNatClampNeg) a2)) fun a5 σ5 =>
      gd (inb x1 (alen 49)) <|
      gd (inb x1 (alen 50)) <|
      bI (fX6_carry ((setI σ5 49 (x1.toNatClampNeg) a5).1 50 x1.toNatClampNeg) (setI σ5 49 (x1.toNatClampNeg) a5)) fun a8 σ8 =>
      gd (inb x1 (alen 50)) <|
      gd (inb x1 (alen 51)) <|
      bI (fX6_carry ((setI σ8 50 (x1.toNatClampNeg) a8).1 51 x1.toNatClampNeg) (setI σ8 50 (x1.toNatClampNeg) a8)) fun a11 σ11 =>
      gd (inb x1 (alen 51)) <|
      gd (inb x1 (alen 52)) <|
      bI (fX6_carry ((setI σ11 51 (x1.toNatClampNeg) a11).1 52 x1.toNatClampNeg) (setI σ11 51 (x1.toNatClampNeg) a11)) fun a14 σ14 =>
      gd (inb x1 (alen 52)) <|
      gd (inb x1 (alen 53)) <|
      if ((setI σ14 52 (x1.toNatClampNeg) a14).1 53 x1.toNatClampNeg) = 0 then
        fX6_carryAll_389 (fX6_carryAll_283 n) x1 x1 0 (setI σ14 52 (x1.toNatClampNeg) a14)
      else
        fX6_carryAll_389 (fX6_carryAll_283 n) x1 x1 1 (setI σ14 52 (x1.toNatClampNeg) a14)
set_option maxHeartbeats 4000000 in
theorem wX6_carryAll_283 {l : Launch} {V : Nat → List (Option Value) → List Value → ST → Prop} {τ : ST} (hm : BM l 6 cX6_carryAll 2 none 1 21 none τ V) : ∀ (n : Nat) (x1 : Int32) (σ : ST), fX6_carryAll_283 n x1 σ = some τ → V 283 [some (.ref 36), some (.int x1)] [] σ := by
  have h := hm.bd
  intro n
  induction n with
  | zero => intro x1 σ hf; cases hf
  | succ n ih =>
    intro x1 σ hf
    rw [fX6_carryAll_283] at hf
    refine h.run (o := []) (ls' := [some (.ref 36), some (.int x1)]) (st' := [.int 100, .int x1]) (σ' := σ) [(.iload_n 1, 1, 0, 0, 0, 0), (.bipush 100, 2, 100, 0, 0, 0)] (pc2 := 286) (by decide +kernel) rfl trivial ?_
    refine h.icmp_ge (tgt := 408) (show decode cX6_carryAll 286 = .ok (.if_icmp .ge 122, 3) by decide +kernel) (by decide) (fun c18 => ?_) (fun c18 => ?_)
    · rw [if_pos c18] at hf
      obtain rfl := Option.some.inj hf
      exact hm.vret (by decide +kernel)
    · rw [if_neg c18] at hf
      show V 289 [some (.ref 36), some (.int x1)] [] σ
      obtain ⟨g1, hf⟩ := gd_some hf
      refine h.run (o := [kd 36 = 6, kd 36 = 6, kd 48 = 10, inb x1 (alen 48) = true]) (ls' := [some (.ref 36), some (.int x1)]) (st' := [.int (σ.1 48 x1.toNatClampNeg), .ref 36, .int x1, .ref 48]) (σ' := σ) [(.aload_n 0, 1, 0, 0, 0, 0), (.getfield 53, 3, 0, 0, 6, 17), (.iload_n 1, 1, 0, 0, 0, 0), (.aload_n 0, 1, 0, 0, 0, 0), (.aload_n 0, 1, 0, 0, 0, 0), (.getfield 53, 3, 0, 0, 6, 17), (.iload_n 1, 1, 0, 0, 0, 0), (.iaload, 1, 0, 0, 0, 0)] (pc2 := 301) (by decide +kernel) rfl (And.intro kd_36 (And.intro kd_36 (And.intro kd_48 (And.intro g1 trivial)))) ?_
      obtain ⟨a2, σ2, e2, hf⟩ := bI_some hf
      refine h.callV (as := [.int (σ.1 48 x1.toNatClampNeg)]) (rest := [.int x1, .ref 48]) (by decide +kernel) lk6_268 cwX6_carry kd_36 (kmX6_carry l e2) rfl (Nat.le_of_ble_eq_true rfl) (Nat.le_of_ble_eq_true rfl) (Nat.le_of_ble_eq_true rfl) ?_
      show V 304 [some (.ref 36), some (.int x1)] [.int a2, .int x1, .ref 48] σ2
      obtain ⟨g3, hf⟩ := gd_some hf
      obtain ⟨g4, hf⟩ := gd_some hf
      refine h.run (o := [kd 48 = 10, inb x1 (alen 48) = true, kd 36 = 6, kd 36 = 6, kd 49 = 10, inb x1 (alen 49) = true]) (ls' := [some (.ref 36), some (.int x1)]) (st' := [.int ((setI σ2 48 (x1.toNatClampNeg) a2).1 49 x1.toNatClampNeg), .ref 36, .int x1, .ref 49]) (σ' := setI σ2 48 (x1.toNatClampNeg) a2) [(.iastore, 1, 0, 0, 0, 0), (.aload_n 0, 1, 0, 0, 0, 0), (.getfield 56, 3, 0, 0, 6, 18), (.iload_n 1, 1, 0, 0, 0, 0), (.aload_n 0, 1, 0, 0, 0, 0), (.aload_n 0, 1, 0, 0, 0, 0), (.getfield 56, 3, 0, 0, 6, 18), (.iload_n 1, 1, 0, 0, 0, 0), (.iaload, 1, 0, 0, 0, 0)] (pc2 := 317) (by decide +kernel) rfl (And.intro kd_48 (And.intro g3 (And.intro kd_36 (And.intro kd_36 (And.intro kd_49 (And.intro g4 trivial)))))) ?_
      obtain ⟨a5, σ5, e5, hf⟩ := bI_some hf
      refine h.callV (as := [.int ((setI σ2 48 (x1.toNatClampNeg) a2).1 49 x1.toNatClampNeg)]) (rest := [.int x1, .ref 49]) (by decide +kernel) lk6_268 cwX6_carry kd_36 (kmX6_carry l e5) rfl (Nat.le_of_ble_eq_true rfl) (Nat.le_of_ble_eq_true rfl) (Nat.le_of_ble_eq_true rfl) ?_
      show V 320 [some (.ref 36), some (.int x1)] [.int a5, .int x1, .ref 49] σ5
      obtain ⟨g6, hf⟩ := gd_some hf
      obtain ⟨g7, hf⟩ := gd_some hf
      refine h.run (o := [kd 49 = 10, inb x1 (alen 49) = true, kd 36 = 6, kd 36 = 6, kd 50 = 10, inb x1 (alen 50) = true]) (ls' := [some (.ref 36), some (.int x1)]) (st' := [.int ((setI σ5 49 (x1.toNatClampNeg) a5).1 50 x1.toNatClampNeg), .ref 36, .int x1, .ref 50]) (σ' := setI σ5 49 (x1.toNatClampNeg) a5) [(.iastore, 1, 0, 0, 0, 0), (.aload_n 0, 1, 0, 0, 0, 0), (.getfield 59, 3, 0, 0, 6, 19), (.iload_n 1, 1, 0, 0, 0, 0), (.aload_n 0, 1, 0, 0, 0, 0), (.aload_n 0, 1, 0, 0, 0, 0), (.getfield 59, 3, 0, 0, 6, 19), (.iload_n 1, 1, 0, 0, 0, 0), (.iaload, 1, 0, 0, 0, 0)] (pc2 := 333) (by decide +kernel) rfl (And.intro kd_49 (And.intro g6 (And.intro kd_36 (And.intro kd_36 (And.intro kd_50 (And.intro g7 trivial)))))) ?_
      obtain ⟨a8, σ8, e8, hf⟩ := bI_some hf
      refine h.callV (as := [.int ((setI σ5 49 (x1.toNatClampNeg) a5).1 50 x1.toNatClampNeg)]) (rest := [.int x1, .ref 50]) (by decide +kernel) lk6_268 cwX6_carry kd_36 (kmX6_carry l e8) rfl (Nat.le_of_ble_eq_true rfl) (Nat.le_of_ble_eq_true rfl) (Nat.le_of_ble_eq_true rfl) ?_
      show V 336 [some (.ref 36), some (.int x1)] [.int a8, .int x1, .ref 50] σ8
      obtain ⟨g9, hf⟩ := gd_some hf
      obtain ⟨g10, hf⟩ := gd_some hf
      refine h.run (o := [kd 50 = 10, inb x1 (alen 50) = true, kd 36 = 6, kd 36 = 6, kd 51 = 10, inb x1 (alen 51) = true]) (ls' := [some (.ref 36), some (.int x1)]) (st' := [.int ((setI σ8 50 (x1.toNatClampNeg) a8).1 51 x1.toNatClampNeg), .ref 36, .int x1, .ref 51]) (σ' := setI σ8 50 (x1.toNatClampNeg) a8) [(.iastore, 1, 0, 0, 0, 0), (.aload_n 0, 1, 0, 0, 0, 0), (.getfield 62, 3, 0, 0, 6, 20), (.iload_n 1, 1, 0, 0, 0, 0), (.aload_n 0, 1, 0, 0, 0, 0), (.aload_n 0, 1, 0, 0, 0, 0), (.getfield 62, 3, 0, 0, 6, 20), (.iload_n 1, 1, 0, 0, 0, 0), (.iaload, 1, 0, 0, 0, 0)] (pc2 := 349) (by decide +kernel) rfl (And.intro kd_50 (And.intro g9 (And.intro kd_36 (And.intro kd_36 (And.intro kd_51 (And.intro g10 trivial)))))) ?_
      obtain ⟨a11, σ11, e11, hf⟩ := bI_some hf
      refine h.callV (as := [.int ((setI σ8 50 (x1.toNatClampNeg) a8).1 51 x1.toNatClampNeg)]) (rest := [.int x1, .ref 51]) (by decide +kernel) lk6_268 cwX6_carry kd_36 (kmX6_carry l e11) rfl (Nat.le_of_ble_eq_true rfl) (Nat.le_of_ble_eq_true rfl) (Nat.le_of_ble_eq_true rfl) ?_
      show V 352 [some (.ref 36), some (.int x1)] [.int a11, .int x1, .ref 51] σ11
      obtain ⟨g12, hf⟩ := gd_some hf
      obtain ⟨g13, hf⟩ := gd_some hf
      refine h.run (o := [kd 51 = 10, inb x1 (alen 51) = true, kd 36 = 6, kd 36 = 6, kd 52 = 10, inb x1 (alen 52) = true]) (ls' := [some (.ref 36), some (.int x1)]) (st' := [.int ((setI σ11 51 (x1.toNatClampNeg) a11).1 52 x1.toNatClampNeg), .ref 36, .int x1, .ref 52]) (σ' := setI σ11 51 (x1.toNatClampNeg) a11) [(.iastore, 1, 0, 0, 0, 0), (.aload_n 0, 1, 0, 0, 0, 0), (.getfield 65, 3, 0, 0, 6, 21), (.iload_n 1, 1, 0, 0, 0, 0), (.aload_n 0, 1, 0, 0, 0, 0), (.aload_n 0, 1, 0, 0, 0, 0), (.getfield 65, 3, 0, 0, 6, 21), (.iload_n 1, 1, 0, 0, 0, 0), (.iaload, 1, 0, 0, 0, 0)] (pc2 := 365) (by decide +kernel) rfl (And.intro kd_51 (And.intro g12 (And.intro kd_36 (And.intro kd_36 (And.intro kd_52 (And.intro g13 trivial)))))) ?_
      obtain ⟨a14, σ14, e14, hf⟩ := bI_some hf
      refine h.callV (as := [.int ((setI σ11 51 (x1.toNatClampNeg) a11).1 52 x1.toNatClampNeg)]) (rest := [.int x1, .ref 52]) (by decide +kernel) lk6_268 cwX6_carry kd_36 (kmX6_carry l e14) rfl (Nat.le_of_ble_eq_true rfl) (Nat.le_of_ble_eq_true rfl) (Nat.le_of_ble_eq_true rfl) ?_
      show V 368 [some (.ref 36), some (.int x1)] [.int a14, .int x1, .ref 52] σ14
      obtain ⟨g15, hf⟩ := gd_some hf
      obtain ⟨g16, hf⟩ := gd_some hf
      refine h.run (o := [kd 52 = 10, inb x1 (alen 52) = true, kd 36 = 6, kd 36 = 6, kd 53 = 11, inb x1 (alen 53) = true]) (ls' := [some (.ref 36), some (.int x1)]) (st' := [.int ((setI σ14 52 (x1.toNatClampNeg) a14).1 53 x1.toNatClampNeg), .ref 36, .int x1, .ref 53]) (σ' := setI σ14 52 (x1.toNatClampNeg) a14) [(.iastore, 1, 0, 0, 0, 0), (.aload_n 0, 1, 0, 0, 0, 0), (.getfield 68, 3, 0, 0, 6, 22), (.iload_n 1, 1, 0, 0, 0, 0), (.aload_n 0, 1, 0, 0, 0, 0), (.aload_n 0, 1, 0, 0, 0, 0), (.getfield 68, 3, 0, 0, 6, 22), (.iload_n 1, 1, 0, 0, 0, 0), (.baload, 1, 0, 0, 0, 0)] (pc2 := 381) (by decide +kernel) rfl (And.intro kd_52 (And.intro g15 (And.intro kd_36 (And.intro kd_36 (And.intro kd_53 (And.intro g16 trivial)))))) ?_
      refine h.if_eq (tgt := 388) (show decode cX6_carryAll 381 = .ok (.ifCond .eq 7, 3) by decide +kernel) (by decide) (fun c17 => ?_) (fun c17 => ?_)
      · rw [if_pos c17] at hf
        refine h.run (o := []) (ls' := [some (.ref 36), some (.int x1)]) (st' := [.int 0, .ref 36, .int x1, .ref 53]) (σ' := setI σ14 52 (x1.toNatClampNeg) a14) [(.iconst 0, 1, 0, 0, 0, 0)] (pc2 := 389) (by decide +kernel) rfl trivial ?_
        exact wX6_carryAll_389 hm ih hf
      · rw [if_neg c17] at hf
        show V 384 [some (.ref 36), some (.int x1)] [.ref 36, .int x1, .ref 53] (setI σ14 52 (x1.toNatClampNeg) a14)
        refine h.run (o := []) (ls' := [some (.ref 36), some (.int x1)]) (st' := [.int 1, .ref 36, .int x1, .ref 53]) (σ' := setI σ14 52 (x1.toNatClampNeg) a14) [(.iconst 1, 1, 1, 0, 0, 0), (.goto 4, 3, 0, 0, 0, 389)] (pc2 := 389) (by decide +kernel) rfl trivial ?_
        exact wX6_carryAll_389 hm ih hf
def fX6_carryAll_253 (n : Nat) (x1 : Int32) (σ : ST) : Option ST := match n with
  | 0 => none
  | n + 1 =>
    if 64 ≤ x1 then
      fX6_carryAll_283 FU 0 σ
    else
      gd (inb x1 (alen 47)) <|
      bI (fX6_carry (σ.1 47 x1.toNatClampNeg) σ) fun a2 σ2 =>
      gd (inb x1 (alen 47)) <|
      fX6_carryAll_253 n (x1 + 1) (setI σ2 47 (x1.toNatClampNeg) a2)
set_option maxHeartbeats 4000000 in
theorem wX6_carryAll_253 {l : Launch} {V : Nat → List (Option Value) → List Value → ST → Prop} {τ : ST} (hm : BM l 6 cX6_carryAll 2 none 1 21 none τ V) : ∀ (n : Nat) (x1 : Int32) (σ : ST), fX6_carryAll_253 n x1 σ = some τ → V 253 [some (.ref 36), some (.int x1)] [] σ := by
  have h := hm.bd
  intro n
  induction n with
  | zero => intro x1 σ hf; cases hf
  | succ n ih =>
    intro x1 σ hf
    rw [fX6_carryAll_253] at hf
    refine h.run (o := []) (ls' := [some (.ref 36), some (.int x1)]) (st' := [.int 64, .int x1]) (σ' := σ) [(.iload_n 1, 1, 0, 0, 0, 0), (.bipush 64, 2, 64, 0, 0, 0)] (pc2 := 256) (by decide +kernel) rfl trivial ?_
    refine h.icmp_ge (tgt := 281) (show decode cX6_carryAll 256 = .ok (.if_icmp .ge 25, 3) by decide +kernel) (by decide) (fun c4 => ?_) (fun c4 => ?_)
    · rw [if_pos c4] at hf
      refine h.run (o := []) (ls' := [some (.ref 36), some (.int 0)]) (st' := []) (σ' := σ) [(.iconst 0, 1, 0, 0, 0, 0), (.istore_n 1, 1, 0, 0, 0, 0)] (pc2 := 283) (by decide +kernel) rfl trivial ?_
      exact wX6_carryAll_283 hm FU 0 _ hf
    · rw [if_neg c4] at hf
      show V 259 [some (.ref 36), some (.int x1)] [] σ
      obtain ⟨g1, hf⟩ := gd_some hf
      refine h.run (o := [kd 36 = 6, kd 36 = 6, kd 47 = 10, inb x1 (alen 47) = true]) (ls' := [some (.ref 36), some (.int x1)]) (st' := [.int (σ.1 47 x1.toNatClampNeg), .ref 36, .int x1, .ref 47]) (σ' := σ) [(.aload_n 0, 1, 0, 0, 0, 0), (.getfield 50, 3, 0, 0, 6, 15), (.iload_n 1, 1, 0, 0, 0, 0), (.aload_n 0, 1, 0, 0, 0, 0), (.aload_n 0, 1, 0, 0, 0, 0), (.getfield 50, 3, 0, 0, 6, 15), (.iload_n 1, 1, 0, 0, 0, 0), (.iaload, 1, 0, 0, 0, 0)] (pc2 := 271) (by decide +kernel) rfl (And.intro kd_36 (And.intro kd_36 (And.intro kd_47 (And.intro g1 trivial)))) ?_
      obtain ⟨a2, σ2, e2, hf⟩ := bI_some hf
      refine h.callV (as := [.int (σ.1 47 x1.toNatClampNeg)]) (rest := [.int x1, .ref 47]) (by decide +kernel) lk6_268 cwX6_carry kd_36 (kmX6_carry l e2) rfl (Nat.le_of_ble_eq_true rfl) (Nat.le_of_ble_eq_true rfl) (Nat.le_of_ble_eq_true rfl) ?_
      show V 274 [some (.ref 36), some (.int x1)] [.int a2, .int x1, .ref 47] σ2
      obtain ⟨g3, hf⟩ := gd_some hf
      refine h.run (o := [kd 47 = 10, inb x1 (alen 47) = true]) (ls' := [some (.ref 36), some (.int (x1 + 1))]) (st' := []) (σ' := setI σ2 47 (x1.toNatClampNeg) a2) [(.iastore, 1, 0, 0, 0, 0), (.iinc 1 1, 3, 1, 0, 0, 0), (.goto (-25), 3, 0, 0, 0, 253)] (pc2 := 253) (by decide +kernel) rfl (And.intro kd_47 (And.intro g3 trivial)) ?_
      exact ih (x1 + 1) _ hf
def fX6_carryAll_79 (n : Nat) (x1 : Int32) (σ : ST) : Option ST := match n with
  | 0 => none
  | n + 1 =>
    if 8 ≤ x1 then
      fX6_carryAll_253 FU 0 σ
    else
      gd (inb x1 (alen 37)) <|
      bI (fX6_carry (σ.1 37 x1.toNatClampNeg) σ) fun a2 σ2 =>
      gd (inb x1 (alen 37)) <|
      gd (inb x1 (alen 38)) <|
      bI (fX6_carry ((setI σ2 37 (x1.toNatClampNeg) a2).1 38 x1.toNatClampNeg) (setI σ2 37 (x1.toNatClampNeg) a2)) fun a5 σ5 =>
      gd (inb x1 (alen 38)) <|
      gd (inb x1 (alen 39)) <|
      bI (fX6_carry ((setI σ5 38 (x1.toNatClampNeg) a5).1 39 x1.toNatClampNeg) (setI σ5 38 (x1.toNatClampNeg) a5)) fun a8 σ8 =>
      gd (inb x1 (alen 39)) <|
      gd (inb x1 (alen 40)) <|
      bI (fX6_carry ((setI σ8 39 (x1.toNatClampNeg) a8).1 40 x1.toNatClampNeg) (setI σ8 39 (x1.toNatClampNeg) a8)) fun a11 σ11 =>
      gd (inb x1 (alen 40)) <|
      gd (inb x1 (alen 41)) <|
      bI (fX6_carry ((setI σ11 40 (x1.toNatClampNeg) a11).1 41 x1.toNatClampNeg) (setI σ11 40 (x1.toNatClampNeg) a11)) fun a14 σ14 =>
      gd (inb x1 (alen 41)) <|
      gd (inb x1 (alen 42)) <|
      bI (fX6_carry ((setI σ14 41 (x1.toNatClampNeg) a14).1 42 x1.toNatClampNeg) (setI σ14 41 (x1.toNatClampNeg) a14)) fun a17 σ17 =>
      gd (inb x1 (alen 42)) <|
      gd (inb x1 (alen 43)) <|
      bI (fX6_carry ((setI σ17 42 (x1.toNatClampNeg) a17).1 43 x1.toNatClampNeg) (setI σ17 42 (x1.toNatClampNeg) a17)) fun a20 σ20 =>
      gd (inb x1 (alen 43)) <|
      gd (inb x1 (alen 44)) <|
      bI (fX6_carry ((setI σ20 43 (x1.toNatClampNeg) a20).1 44 x1.toNatClampNeg) (setI σ20 43 (x1.toNatClampNeg) a20)) fun a23 σ23 =>
      gd (inb x1 (alen 44)) <|
      gd (inb x1 (alen 45)) <|
      bI (fX6_carry ((setI σ23 44 (x1.toNatClampNeg) a23).1 45 x1.toNatClampNeg) (setI σ23 44 (x1.toNatClampNeg) a23)) fun a26 σ26 =>
      gd (inb x1 (alen 45)) <|
      gd (inb x1 (alen 46)) <|
      bI (fX6_carry ((setI σ26 45 (x1.toNatClampNeg) a26).1 46 x1.toNatClampNeg) (setI σ26 45 (x1.toNatClampNeg) a26)) fun a29 σ29 =>
      gd (inb x1 (alen 46)) <|
      fX6_carryAll_79 n (x1 + 1) (setI σ29 46 (x1.toNatClampNeg) a29)
set_option maxHeartbeats 4000000 in
theorem wX6_carryAll_79 {l : Launch} {V : Nat → List (Option Value) → List Value → ST → Prop} {τ : ST} (hm : BM l 6 cX6_carryAll 2 none 1 21 none τ V) : ∀ (n : Nat) (x1 : Int32) (σ : ST), fX6_carryAll_79 n x1 σ = some τ → V 79 [some (.ref 36), some (.int x1)] [] σ := by
  have h := hm.bd
  intro n
  induction n with
  | zero => intro x1 σ hf; cases hf
  | succ n ih =>
    intro x1 σ hf
    rw [fX6_carryAll_79] at hf
    refine h.run (o := []) (ls' := [some (.ref 36), some (.int x1)]) (st' := [.int 8, .int x1]) (σ' := σ) [(.iload_n 1, 1, 0, 0, 0, 0), (.bipush 8, 2, 8, 0, 0, 0)] (pc2 := 82) (by decide +kernel) rfl trivial ?_
    refine h.icmp_ge (tgt := 251) (show decode cX6_carryAll 82 = .ok (.if_icmp .ge 169, 3) by decide +kernel) (by decide) (fun c31 => ?_) (fun c31 => ?_)
    · rw [if_pos c31] at hf
      refine h.run (o := []) (ls' := [some (.ref 36), some (.int 0)]) (st' := []) (σ' := σ) [(.iconst 0, 1, 0, 0, 0, 0), (.istore_n 1, 1, 0, 0, 0, 0)] (pc2 := 253) (by decide +kernel) rfl trivial ?_
      exact wX6_carryAll_253 hm FU 0 _ hf
    · rw [if_neg c31] at hf
      show V 85 [some (.ref 36), some (.int x1)] [] σ
      obtain ⟨g1, hf⟩ := gd_some hf
      refine h.run (o := [kd 36 = 6, kd 36 = 6, kd 37 = 10, inb x1 (alen 37) = true]) (ls' := [some (.ref 36), some (.int x1)]) (st' := [.int (σ.1 37 x1.toNatClampNeg), .ref 36, .int x1, .ref 37]) (σ' := σ) [(.aload_n 0, 1, 0, 0, 0, 0), (.getfield 19, 3, 0, 0, 6, 4), (.iload_n 1, 1, 0, 0, 0, 0), (.aload_n 0, 1, 0, 0, 0, 0), (.aload_n 0, 1, 0, 0, 0, 0), (.getfield 19, 3, 0, 0, 6, 4), (.iload_n 1, 1, 0, 0, 0, 0), (.iaload, 1, 0, 0, 0, 0)] (pc2 := 97) (by decide +kernel) rfl (And.intro kd_36 (And.intro kd_36 (And.intro kd_37 (And.intro g1 trivial)))) ?_
      obtain ⟨a2, σ2, e2, hf⟩ := bI_some hf
      refine h.callV (as := [.int (σ.1 37 x1.toNatClampNeg)]) (rest := [.int x1, .ref 37]) (by decide +kernel) lk6_268 cwX6_carry kd_36 (kmX6_carry l e2) rfl (Nat.le_of_ble_eq_true rfl) (Nat.le_of_ble_eq_true rfl) (Nat.le_of_ble_eq_true rfl) ?_
      show V 100 [some (.ref 36), some (.int x1)] [.int a2, .int x1, .ref 37] σ2
      obtain ⟨g3, hf⟩ := gd_some hf
      obtain ⟨g4, hf⟩ := gd_some hf
      refine h.run (o := [kd 37 = 10, inb x1 (alen 37) = true, kd 36 = 6, kd 36 = 6, kd 38 = 10, inb x1 (alen 38) = true]) (ls' := [some (.ref 36), some (.int x1)]) (st' := [.int ((setI σ2 37 (x1.toNatClampNeg) a2).1 38 x1.toNatClampNeg), .ref 36, .int x1, .ref 38]) (σ' := setI σ2 37 (x1.toNatClampNeg) a2) [(.iastore, 1, 0, 0, 0, 0), (.aload_n 0, 1, 0, 0, 0, 0), (.getfield 23, 3, 0, 0, 6, 5), (.iload_n 1, 1, 0, 0, 0, 0), (.aload_n 0, 1, 0, 0, 0, 0), (.aload_n 0, 1, 0, 0, 0, 0), (.getfield 23, 3, 0, 0, 6, 5), (.iload_n 1, 1, 0, 0, 0, 0), (.iaload, 1, 0, 0, 0, 0)] (pc2 := 113) (by decide +kernel) rfl (And.intro kd_37 (And.intro g3 (And.intro kd_36 (And.intro kd_36 (And.intro kd_38 (And.intro g4 trivial)))))) ?_
      obtain ⟨a5, σ5, e5, hf⟩ := bI_some hf
      refine h.callV (as := [.int ((setI σ2 37 (x1.toNatClampNeg) a2).1 38 x1.toNatClampNeg)]) (rest := [.int x1, .ref 38]) (by decide +kernel) lk6_268 cwX6_carry kd_36 (kmX6_carry l e5) rfl (Nat.le_of_ble_eq_true rfl) (Nat.le_of_ble_eq_true rfl) (Nat.le_of_ble_eq_true rfl) ?_
      show V 116 [some (.ref 36), some (.int x1)] [.int a5, .int x1, .ref 38] σ5
      obtain ⟨g6, hf⟩ := gd_some hf
      obtain ⟨g7, hf⟩ := gd_some hf
      refine h.run (o := [kd 38 = 10, inb x1 (alen 38) = true, kd 36 = 6, kd 36 = 6, kd 39 = 10, inb x1 (alen 39) = true]) (ls' := [some (.ref 36), some (.int x1)]) (st' := [.int ((setI σ5 38 (x1.toNatClampNeg) a5).1 39 x1.toNatClampNeg), .ref 36, .int x1, .ref 39]) (σ' := setI σ5 38 (x1.toNatClampNeg) a5) [(.iastore, 1, 0, 0, 0, 0), (.aload_n 0, 1, 0, 0, 0, 0), (.getfield 26, 3, 0, 0, 6, 6), (.iload_n 1, 1, 0, 0, 0, 0), (.aload_n 0, 1, 0, 0, 0, 0), (.aload_n 0, 1, 0, 0, 0, 0), (.getfield 26, 3, 0, 0, 6, 6), (.iload_n 1, 1, 0, 0, 0, 0), (.iaload, 1, 0, 0, 0, 0)] (pc2 := 129) (by decide +kernel) rfl (And.intro kd_38 (And.intro g6 (And.intro kd_36 (And.intro kd_36 (And.intro kd_39 (And.intro g7 trivial)))))) ?_
      obtain ⟨a8, σ8, e8, hf⟩ := bI_some hf
      refine h.callV (as := [.int ((setI σ5 38 (x1.toNatClampNeg) a5).1 39 x1.toNatClampNeg)]) (rest := [.int x1, .ref 39]) (by decide +kernel) lk6_268 cwX6_carry kd_36 (kmX6_carry l e8) rfl (Nat.le_of_ble_eq_true rfl) (Nat.le_of_ble_eq_true rfl) (Nat.le_of_ble_eq_true rfl) ?_
      show V 132 [some (.ref 36), some (.int x1)] [.int a8, .int x1, .ref 39] σ8
      obtain ⟨g9, hf⟩ := gd_some hf
      obtain ⟨g10, hf⟩ := gd_some hf
      refine h.run (o := [kd 39 = 10, inb x1 (alen 39) = true, kd 36 = 6, kd 36 = 6, kd 40 = 10, inb x1 (alen 40) = true]) (ls' := [some (.ref 36), some (.int x1)]) (st' := [.int ((setI σ8 39 (x1.toNatClampNeg) a8).1 40 x1.toNatClampNeg), .ref 36, .int x1, .ref 40]) (σ' := setI σ8 39 (x1.toNatClampNeg) a8) [(.iastore, 1, 0, 0, 0, 0), (.aload_n 0, 1, 0, 0, 0, 0), (.getfield 29, 3, 0, 0, 6, 8), (.iload_n 1, 1, 0, 0, 0, 0), (.aload_n 0, 1, 0, 0, 0, 0), (.aload_n 0, 1, 0, 0, 0, 0), (.getfield 29, 3, 0, 0, 6, 8), (.iload_n 1, 1, 0, 0, 0, 0), (.iaload, 1, 0, 0, 0, 0)] (pc2 := 145) (by decide +kernel) rfl (And.intro kd_39 (And.intro g9 (And.intro kd_36 (And.intro kd_36 (And.intro kd_40 (And.intro g10 trivial)))))) ?_
      obtain ⟨a11, σ11, e11, hf⟩ := bI_some hf
      refine h.callV (as := [.int ((setI σ8 39 (x1.toNatClampNeg) a8).1 40 x1.toNatClampNeg)]) (rest := [.int x1, .ref 40]) (by decide +kernel) lk6_268 cwX6_carry kd_36 (kmX6_carry l e11) rfl (Nat.le_of_ble_eq_true rfl) (Nat.le_of_ble_eq_true rfl) (Nat.le_of_ble_eq_true rfl) ?_
      show V 148 [some (.ref 36), some (.int x1)] [.int a11, .int x1, .ref 40] σ11
      obtain ⟨g12, hf⟩ := gd_some hf
      obtain ⟨g13, hf⟩ := gd_some hf
      refine h.run (o := [kd 40 = 10, inb x1 (alen 40) = true, kd 36 = 6, kd 36 = 6, kd 41 = 10, inb x1 (alen 41) = true]) (ls' := [some (.ref 36), some (.int x1)]) (st' := [.int ((setI σ11 40 (x1.toNatClampNeg) a11).1 41 x1.toNatClampNeg), .ref 36, .int x1, .ref 41]) (σ' := setI σ11 40 (x1.toNatClampNeg) a11) [(.iastore, 1, 0, 0, 0, 0), (.aload_n 0, 1, 0, 0, 0, 0), (.getfield 32, 3, 0, 0, 6, 9), (.iload_n 1, 1, 0, 0, 0, 0), (.aload_n 0, 1, 0, 0, 0, 0), (.aload_n 0, 1, 0, 0, 0, 0), (.getfield 32, 3, 0, 0, 6, 9), (.iload_n 1, 1, 0, 0, 0, 0), (.iaload, 1, 0, 0, 0, 0)] (pc2 := 161) (by decide +kernel) rfl (And.intro kd_40 (And.intro g12 (And.intro kd_36 (And.intro kd_36 (And.intro kd_41 (And.intro g13 trivial)))))) ?_
      obtain ⟨a14, σ14, e14, hf⟩ := bI_some hf
      refine h.callV (as := [.int ((setI σ11 40 (x1.toNatClampNeg) a11).1 41 x1.toNatClampNeg)]) (rest := [.int x1, .ref 41]) (by decide +kernel) lk6_268 cwX6_carry kd_36 (kmX6_carry l e14) rfl (Nat.le_of_ble_eq_true rfl) (Nat.le_of_ble_eq_true rfl) (Nat.le_of_ble_eq_true rfl) ?_
      show V 164 [some (.ref 36), some (.int x1)] [.int a14, .int x1, .ref 41] σ14
      obtain ⟨g15, hf⟩ := gd_some hf
      obtain ⟨g16, hf⟩ := gd_some hf
      refine h.run (o := [kd 41 = 10, inb x1 (alen 41) = true, kd 36 = 6, kd 36 = 6, kd 42 = 10, inb x1 (alen 42) = true]) (ls' := [some (.ref 36), some (.int x1)]) (st' := [.int ((setI σ14 41 (x1.toNatClampNeg) a14).1 42 x1.toNatClampNeg), .ref 36, .int x1, .ref 42]) (σ' := setI σ14 41 (x1.toNatClampNeg) a14) [(.iastore, 1, 0, 0, 0, 0), (.aload_n 0, 1, 0, 0, 0, 0), (.getfield 35, 3, 0, 0, 6, 10), (.iload_n 1, 1, 0, 0, 0, 0), (.aload_n 0, 1, 0, 0, 0, 0), (.aload_n 0, 1, 0, 0, 0, 0), (.getfield 35, 3, 0, 0, 6, 10), (.iload_n 1, 1, 0, 0, 0, 0), (.iaload, 1, 0, 0, 0, 0)] (pc2 := 177) (by decide +kernel) rfl (And.intro kd_41 (And.intro g15 (And.intro kd_36 (And.intro kd_36 (And.intro kd_42 (And.intro g16 trivial)))))) ?_
      obtain ⟨a17, σ17, e17, hf⟩ := bI_some hf
      refine h.callV (as := [.int ((setI σ14 41 (x1.toNatClampNeg) a14).1 42 x1.toNatClampNeg)]) (rest := [.int x1, .ref 42]) (by decide +kernel) lk6_268 cwX6_carry kd_36 (kmX6_carry l e17) rfl (Nat.le_of_ble_eq_true rfl) (Nat.le_of_ble_eq_true rfl) (Nat.le_of_ble_eq_true rfl) ?_
      show V 180 [some (.ref 36), some (.int x1)] [.int a17, .int x1, .ref 42] σ17
      obtain ⟨g18, hf⟩ := gd_some hf
      obtain ⟨g19, hf⟩ := gd_some hf
      refine h.run (o := [kd 42 = 10, inb x1 (alen 42) = true, kd 36 = 6, kd 36 = 6, kd 43 = 10, inb x1 (alen 43) = true]) (ls' := [some (.ref 36), some (.int x1)]) (st' := [.int ((setI σ17 42 (x1.toNatClampNeg) a17).1 43 x1.toNatClampNeg), .ref 36, .int x1, .ref 43]) (σ' := setI σ17 42 (x1.toNatClampNeg) a17) [(.iastore, 1, 0, 0, 0, 0), (.aload_n 0, 1, 0, 0, 0, 0), (.getfield 38, 3, 0, 0, 6, 11), (.iload_n 1, 1, 0, 0, 0, 0), (.aload_n 0, 1, 0, 0, 0, 0), (.aload_n 0, 1, 0, 0, 0, 0), (.getfield 38, 3, 0, 0, 6, 11), (.iload_n 1, 1, 0, 0, 0, 0), (.iaload, 1, 0, 0, 0, 0)] (pc2 := 193) (by decide +kernel) rfl (And.intro kd_42 (And.intro g18 (And.intro kd_36 (And.intro kd_36 (And.intro kd_43 (And.intro g19 trivial)))))) ?_
      obtain ⟨a20, σ20, e20, hf⟩ := bI_some hf
      refine h.callV (as := [.int ((setI σ17 42 (x1.toNatClampNeg) a17).1 43 x1.toNatClampNeg)]) (rest := [.int x1, .ref 43]) (by decide +kernel) lk6_268 cwX6_carry kd_36 (kmX6_carry l e20) rfl (Nat.le_of_ble_eq_true rfl) (Nat.le_of_ble_eq_true rfl) (Nat.le_of_ble_eq_true rfl) ?_
      show V 196 [some (.ref 36), some (.int x1)] [.int a20, .int x1, .ref 43] σ20
      obtain ⟨g21, hf⟩ := gd_some hf
      obtain ⟨g22, hf⟩ := gd_some hf
      refine h.run (o := [kd 43 = 10, inb x1 (alen 43) = true, kd 36 = 6, kd 36 = 6, kd 44 = 10, inb x1 (alen 44) = true]) (ls' := [some (.ref 36), some (.int x1)]) (st' := [.int ((setI σ20 43 (x1.toNatClampNeg) a20).1 44 x1.toNatClampNeg), .ref 36, .int x1, .ref 44]) (σ' := setI σ20 43 (x1.toNatClampNeg) a20) [(.iastore, 1, 0, 0, 0, 0), (.aload_n 0, 1, 0, 0, 0, 0), (.getfield 41, 3, 0, 0, 6, 12), (.iload_n 1, 1, 0, 0, 0, 0), (.aload_n 0, 1, 0, 0, 0, 0), (.aload_n 0, 1, 0, 0, 0, 0), (.getfield 41, 3, 0, 0, 6, 12), (.iload_n 1, 1, 0, 0, 0, 0), (.iaload, 1, 0, 0, 0, 0)] (pc2 := 209) (by decide +kernel) rfl (And.intro kd_43 (And.intro g21 (And.intro kd_36 (And.intro kd_36 (And.intro kd_44 (And.intro g22 trivial)))))) ?_
      obtain ⟨a23, σ23, e23, hf⟩ := bI_some hf
      refine h.callV (as := [.int ((setI σ20 43 (x1.toNatClampNeg) a20).1 44 x1.toNatClampNeg)]) (rest := [.int x1, .ref 44]) (by decide +kernel) lk6_268 cwX6_carry kd_36 (kmX6_carry l e23) rfl (Nat.le_of_ble_eq_true rfl) (Nat.le_of_ble_eq_true rfl) (Nat.le_of_ble_eq_true rfl) ?_
      show V 212 [some (.ref 36), some (.int x1)] [.int a23, .int x1, .ref 44] σ23
      obtain ⟨g24, hf⟩ := gd_some hf
      obtain ⟨g25, hf⟩ := gd_some hf
      refine h.run (o := [kd 44 = 10, inb x1 (alen 44) = true, kd 36 = 6, kd 36 = 6, kd 45 = 10, inb x1 (alen 45) = true]) (ls' := [some (.ref 36), some (.int x1)]) (st' := [.int ((setI σ23 44 (x1.toNatClampNeg) a23).1 45 x1.toNatClampNeg), .ref 36, .int x1, .ref 45]) (σ' := setI σ23 44 (x1.toNatClampNeg) a23) [(.iastore, 1, 0, 0, 0, 0), (.aload_n 0, 1, 0, 0, 0, 0), (.getfield 44, 3, 0, 0, 6, 13), (.iload_n 1, 1, 0, 0, 0, 0), (.aload_n 0, 1, 0, 0, 0, 0), (.aload_n 0, 1, 0, 0, 0, 0), (.getfield 44, 3, 0, 0, 6, 13), (.iload_n 1, 1, 0, 0, 0, 0), (.iaload, 1, 0, 0, 0, 0)] (pc2 := 225) (by decide +kernel) rfl (And.intro kd_44 (And.intro g24 (And.intro kd_36 (And.intro kd_36 (And.intro kd_45 (And.intro g25 trivial)))))) ?_
      obtain ⟨a26, σ26, e26, hf⟩ := bI_some hf
      refine h.callV (as := [.int ((setI σ23 44 (x1.toNatClampNeg) a23).1 45 x1.toNatClampNeg)]) (rest := [.int x1, .ref 45]) (by decide +kernel) lk6_268 cwX6_carry kd_36 (kmX6_carry l e26) rfl (Nat.le_of_ble_eq_true rfl) (Nat.le_of_ble_eq_true rfl) (Nat.le_of_ble_eq_true rfl) ?_
      show V 228 [some (.ref 36), some (.int x1)] [.int a26, .int x1, .ref 45] σ26
      obtain ⟨g27, hf⟩ := gd_some hf
      obtain ⟨g28, hf⟩ := gd_some hf
      refine h.run (o := [kd 45 = 10, inb x1 (alen 45) = true, kd 36 = 6, kd 36 = 6, kd 46 = 10, inb x1 (alen 46) = true]) (ls' := [some (.ref 36), some (.int x1)]) (st' := [.int ((setI σ26 45 (x1.toNatClampNeg) a26).1 46 x1.toNatClampNeg), .ref 36, .int x1, .ref 46]) (σ' := setI σ26 45 (x1.toNatClampNeg) a26) [(.iastore, 1, 0, 0, 0, 0), (.aload_n 0, 1, 0, 0, 0, 0), (.getfield 47, 3, 0, 0, 6, 14), (.iload_n 1, 1, 0, 0, 0, 0), (.aload_n 0, 1, 0, 0, 0, 0), (.aload_n 0, 1, 0, 0, 0, 0), (.getfield 47, 3, 0, 0, 6, 14), (.iload_n 1, 1, 0, 0, 0, 0), (.iaload, 1, 0, 0, 0, 0)] (pc2 := 241) (by decide +kernel) rfl (And.intro kd_45 (And.intro g27 (And.intro kd_36 (And.intro kd_36 (And.intro kd_46 (And.intro g28 trivial)))))) ?_
      obtain ⟨a29, σ29, e29, hf⟩ := bI_some hf
      refine h.callV (as := [.int ((setI σ26 45 (x1.toNatClampNeg) a26).1 46 x1.toNatClampNeg)]) (rest := [.int x1, .ref 46]) (by decide +kernel) lk6_268 cwX6_carry kd_36 (kmX6_carry l e29) rfl (Nat.le_of_ble_eq_true rfl) (Nat.le_of_ble_eq_true rfl) (Nat.le_of_ble_eq_true rfl) ?_
      show V 244 [some (.ref 36), some (.int x1)] [.int a29, .int x1, .ref 46] σ29
      obtain ⟨g30, hf⟩ := gd_some hf
      refine h.run (o := [kd 46 = 10, inb x1 (alen 46) = true]) (ls' := [some (.ref 36), some (.int (x1 + 1))]) (st' := []) (σ' := setI σ29 46 (x1.toNatClampNeg) a29) [(.iastore, 1, 0, 0, 0, 0), (.iinc 1 1, 3, 1, 0, 0, 0), (.goto (-169), 3, 0, 0, 0, 79)] (pc2 := 79) (by decide +kernel) rfl (And.intro kd_46 (And.intro g30 trivial)) ?_
      exact ih (x1 + 1) _ hf
def fX6_carryAll (σ : ST) : Option ST :=
  bI (fX6_carry ((setI σ 36 36 0).1 36 0) (setI σ 36 36 0)) fun a1 σ1 =>
  bI (fX6_carry ((setI σ1 36 0 a1).1 36 1) (setI σ1 36 0 a1)) fun a2 σ2 =>
  bI (fX6_carry ((setI σ2 36 1 a2).1 36 2) (setI σ2 36 1 a2)) fun a3 σ3 =>
  bI (fX6_carry ((setI σ3 36 2 a3).1 36 3) (setI σ3 36 2 a3)) fun a4 σ4 =>
  bI (fX6_carry ((setI σ4 36 3 a4).1 36 7) (setI σ4 36 3 a4)) fun a5 σ5 =>
  bI (fX6_carry ((setI σ5 36 7 a5).1 36 16) (setI σ5 36 7 a5)) fun a6 σ6 =>
  fX6_carryAll_79 FU 0 (setI σ6 36 16 a6)
set_option maxHeartbeats 4000000 in
theorem kmX6_carryAll (l : Launch) {σ : ST} {τ : ST} (hf : fX6_carryAll σ = some τ) : KM l yX6_carryAll cX6_carryAll 2 none 1 21 [.ref 36] σ none τ := by
  refine KM.intro (ow := 6) (by decide +kernel) rfl (Nat.le_of_ble_eq_true rfl) (fun V hm => ?_)
  show V 0 [some (.ref 36), none] [] σ
  have h := hm.bd
  unfold fX6_carryAll at hf
  refine h.run (o := [kd 36 = 6, kd 36 = 6]) (ls' := [some (.ref 36), none]) (st' := [.int ((setI σ 36 36 0).1 36 0), .ref 36, .ref 36]) (σ' := setI σ 36 36 0) [(.aload_n 0, 1, 0, 0, 0, 0), (.iconst 0, 1, 0, 0, 0, 0), (.putfield 265, 3, 0, 0, 6, 36), (.aload_n 0, 1, 0, 0, 0, 0), (.aload_n 0, 1, 0, 0, 0, 0), (.aload_n 0, 1, 0, 0, 0, 0), (.getfield 7, 3, 0, 0, 6, 0)] (pc2 := 11) (by decide +kernel) rfl (And.intro kd_36 (And.intro kd_36 trivial)) ?_
  obtain ⟨a1, σ1, e1, hf⟩ := bI_some hf
  refine h.callV (as := [.int ((setI σ 36 36 0).1 36 0)]) (rest := [.ref 36]) (by decide +kernel) lk6_268 cwX6_carry kd_36 (kmX6_carry l e1) rfl (Nat.le_of_ble_eq_true rfl) (Nat.le_of_ble_eq_true rfl) (Nat.le_of_ble_eq_true rfl) ?_
  show V 14 [some (.ref 36), none] [.int a1, .ref 36] σ1
  refine h.run (o := [kd 36 = 6, kd 36 = 6]) (ls' := [some (.ref 36), none]) (st' := [.int ((setI σ1 36 0 a1).1 36 1), .ref 36, .ref 36]) (σ' := setI σ1 36 0 a1) [(.putfield 7, 3, 0, 0, 6, 0), (.aload_n 0, 1, 0, 0, 0, 0), (.aload_n 0, 1, 0, 0, 0, 0), (.aload_n 0, 1, 0, 0, 0, 0), (.getfield 13, 3, 0, 0, 6, 1)] (pc2 := 23) (by decide +kernel) rfl (And.intro kd_36 (And.intro kd_36 trivial)) ?_
  obtain ⟨a2, σ2, e2, hf⟩ := bI_some hf
  refine h.callV (as := [.int ((setI σ1 36 0 a1).1 36 1)]) (rest := [.ref 36]) (by decide +kernel) lk6_268 cwX6_carry kd_36 (kmX6_carry l e2) rfl (Nat.le_of_ble_eq_true rfl) (Nat.le_of_ble_eq_true rfl) (Nat.le_of_ble_eq_true rfl) ?_
  show V 26 [some (.ref 36), none] [.int a2, .ref 36] σ2
  refine h.run (o := [kd 36 = 6, kd 36 = 6]) (ls' := [some (.ref 36), none]) (st' := [.int ((setI σ2 36 1 a2).1 36 2), .ref 36, .ref 36]) (σ' := setI σ2 36 1 a2) [(.putfield 13, 3, 0, 0, 6, 1), (.aload_n 0, 1, 0, 0, 0, 0), (.aload_n 0, 1, 0, 0, 0, 0), (.aload_n 0, 1, 0, 0, 0, 0), (.getfield 16, 3, 0, 0, 6, 2)] (pc2 := 35) (by decide +kernel) rfl (And.intro kd_36 (And.intro kd_36 trivial)) ?_
  obtain ⟨a3, σ3, e3, hf⟩ := bI_some hf
  refine h.callV (as := [.int ((setI σ2 36 1 a2).1 36 2)]) (rest := [.ref 36]) (by decide +kernel) lk6_268 cwX6_carry kd_36 (kmX6_carry l e3) rfl (Nat.le_of_ble_eq_true rfl) (Nat.le_of_ble_eq_true rfl) (Nat.le_of_ble_eq_true rfl) ?_
  show V 38 [some (.ref 36), none] [.int a3, .ref 36] σ3
  refine h.run (o := [kd 36 = 6, kd 36 = 6]) (ls' := [some (.ref 36), none]) (st' := [.int ((setI σ3 36 2 a3).1 36 3), .ref 36, .ref 36]) (σ' := setI σ3 36 2 a3) [(.putfield 16, 3, 0, 0, 6, 2), (.aload_n 0, 1, 0, 0, 0, 0), (.aload_n 0, 1, 0, 0, 0, 0), (.aload_n 0, 1, 0, 0, 0, 0), (.getfield 116, 3, 0, 0, 6, 3)] (pc2 := 47) (by decide +kernel) rfl (And.intro kd_36 (And.intro kd_36 trivial)) ?_
  obtain ⟨a4, σ4, e4, hf⟩ := bI_some hf
  refine h.callV (as := [.int ((setI σ3 36 2 a3).1 36 3)]) (rest := [.ref 36]) (by decide +kernel) lk6_268 cwX6_carry kd_36 (kmX6_carry l e4) rfl (Nat.le_of_ble_eq_true rfl) (Nat.le_of_ble_eq_true rfl) (Nat.le_of_ble_eq_true rfl) ?_
  show V 50 [some (.ref 36), none] [.int a4, .ref 36] σ4
  refine h.run (o := [kd 36 = 6, kd 36 = 6]) (ls' := [some (.ref 36), none]) (st' := [.int ((setI σ4 36 3 a4).1 36 7), .ref 36, .ref 36]) (σ' := setI σ4 36 3 a4) [(.putfield 116, 3, 0, 0, 6, 3), (.aload_n 0, 1, 0, 0, 0, 0), (.aload_n 0, 1, 0, 0, 0, 0), (.aload_n 0, 1, 0, 0, 0, 0), (.getfield 123, 3, 0, 0, 6, 7)] (pc2 := 59) (by decide +kernel) rfl (And.intro kd_36 (And.intro kd_36 trivial)) ?_
  obtain ⟨a5, σ5, e5, hf⟩ := bI_some hf
  refine h.callV (as := [.int ((setI σ4 36 3 a4).1 36 7)]) (rest := [.ref 36]) (by decide +kernel) lk6_268 cwX6_carry kd_36 (kmX6_carry l e5) rfl (Nat.le_of_ble_eq_true rfl) (Nat.le_of_ble_eq_true rfl) (Nat.le_of_ble_eq_true rfl) ?_
  show V 62 [some (.ref 36), none] [.int a5, .ref 36] σ5
  refine h.run (o := [kd 36 = 6, kd 36 = 6]) (ls' := [some (.ref 36), none]) (st' := [.int ((setI σ5 36 7 a5).1 36 16), .ref 36, .ref 36]) (σ' := setI σ5 36 7 a5) [(.putfield 123, 3, 0, 0, 6, 7), (.aload_n 0, 1, 0, 0, 0, 0), (.aload_n 0, 1, 0, 0, 0, 0), (.aload_n 0, 1, 0, 0, 0, 0), (.getfield 166, 3, 0, 0, 6, 16)] (pc2 := 71) (by decide +kernel) rfl (And.intro kd_36 (And.intro kd_36 trivial)) ?_
  obtain ⟨a6, σ6, e6, hf⟩ := bI_some hf
  refine h.callV (as := [.int ((setI σ5 36 7 a5).1 36 16)]) (rest := [.ref 36]) (by decide +kernel) lk6_268 cwX6_carry kd_36 (kmX6_carry l e6) rfl (Nat.le_of_ble_eq_true rfl) (Nat.le_of_ble_eq_true rfl) (Nat.le_of_ble_eq_true rfl) ?_
  show V 74 [some (.ref 36), none] [.int a6, .ref 36] σ6
  refine h.run (o := [kd 36 = 6]) (ls' := [some (.ref 36), some (.int 0)]) (st' := []) (σ' := setI σ6 36 16 a6) [(.putfield 166, 3, 0, 0, 6, 16), (.iconst 0, 1, 0, 0, 0, 0), (.istore_n 1, 1, 0, 0, 0, 0)] (pc2 := 79) (by decide +kernel) rfl (And.intro kd_36 trivial) ?_
  exact wX6_carryAll_79 hm FU 0 _ hf
def fX6_image (σ : ST) : Option (Int32 × ST) :=
  bR (fX6_carryAll (setI (setI (setI σ 36 23 0) 36 34 1) 36 37 1)) fun σ1 =>
  some (σ1.1 36 16, σ1)
set_option maxHeartbeats 4000000 in
theorem kmX6_image (l : Launch) {σ : ST} {r : Int32} {τ : ST} (hf : fX6_image σ = some (r, τ)) : KM l yX6_image cX6_image 1 (some .int) 2 42 [.ref 36] σ (some (.int r)) τ := by
  refine KM.intro (ow := 6) (by decide +kernel) rfl (Nat.le_of_ble_eq_true rfl) (fun V hm => ?_)
  show V 0 [some (.ref 36)] [] σ
  have h := hm.bd
  unfold fX6_image at hf
  refine h.run (o := [kd 36 = 6, kd 36 = 6, isb 1 = true, kd 36 = 6, isb 1 = true]) (ls' := [some (.ref 36)]) (st' := [.ref 36]) (σ' := setI (setI (setI σ 36 23 0) 36 34 1) 36 37 1) [(.aload_n 0, 1, 0, 0, 0, 0), (.iconst 0, 1, 0, 0, 0, 0), (.putfield 112, 3, 0, 0, 6, 23), (.aload_n 0, 1, 0, 0, 0, 0), (.iconst 1, 1, 1, 0, 0, 0), (.putfield 271, 3, 0, 0, 106, 34), (.aload_n 0, 1, 0, 0, 0, 0), (.iconst 1, 1, 1, 0, 0, 0), (.putfield 262, 3, 0, 0, 106, 37), (.aload_n 0, 1, 0, 0, 0, 0)] (pc2 := 16) (by decide +kernel) rfl (And.intro kd_36 (And.intro kd_36 (And.intro rfl (And.intro kd_36 (And.intro rfl trivial))))) ?_
  obtain ⟨σ1, e1, hf⟩ := bR_some hf
  refine h.callV (as := []) (rest := []) (by decide +kernel) lk6_274 cwX6_carryAll kd_36 (kmX6_carryAll l e1) rfl (Nat.le_of_ble_eq_true rfl) (Nat.le_of_ble_eq_true rfl) (Nat.le_of_ble_eq_true rfl) ?_
  show V 19 [some (.ref 36)] [] σ1
  refine h.run (o := [kd 36 = 6]) (ls' := [some (.ref 36)]) (st' := [.int (σ1.1 36 16)]) (σ' := σ1) [(.aload_n 0, 1, 0, 0, 0, 0), (.getfield 166, 3, 0, 0, 6, 16)] (pc2 := 23) (by decide +kernel) rfl (And.intro kd_36 trivial) ?_
  obtain ⟨rfl, rfl⟩ := Prod.mk.inj (Option.some.inj hf)
  exact hm.iret (by decide +kernel)
def fX6_restore (σ : ST) : Option (Int32 × ST) :=
  if ((setI σ 36 23 0).1 36 34) = 0 then
    some ((-3), setI σ 36 23 0)
  else
    bR (fX6_carryAll (setI (setI σ 36 23 0) 36 37 0)) fun σ1 =>
    some (σ1.1 36 16, σ1)
set_option maxHeartbeats 4000000 in
theorem kmX6_restore (l : Launch) {σ : ST} {r : Int32} {τ : ST} (hf : fX6_restore σ = some (r, τ)) : KM l yX6_restore cX6_restore 1 (some .int) 2 42 [.ref 36] σ (some (.int r)) τ := by
  refine KM.intro (ow := 6) (by decide +kernel) rfl (Nat.le_of_ble_eq_true rfl) (fun V hm => ?_)
  show V 0 [some (.ref 36)] [] σ
  have h := hm.bd
  unfold fX6_restore at hf
  refine h.run (o := [kd 36 = 6, kd 36 = 6]) (ls' := [some (.ref 36)]) (st' := [.int ((setI σ 36 23 0).1 36 34)]) (σ' := setI σ 36 23 0) [(.aload_n 0, 1, 0, 0, 0, 0), (.iconst 0, 1, 0, 0, 0, 0), (.putfield 112, 3, 0, 0, 6, 23), (.aload_n 0, 1, 0, 0, 0, 0), (.getfield 271, 3, 0, 0, 6, 34)] (pc2 := 9) (by decide +kernel) rfl (And.intro kd_36 (And.intro kd_36 trivial)) ?_
  refine h.if_ne (tgt := 15) (show decode cX6_restore 9 = .ok (.ifCond .ne 6, 3) by decide +kernel) (by decide) (fun c2 => ?_) (fun c2 => ?_)
  · rw [if_neg c2] at hf
    refine h.run (o := [kd 36 = 6, isb 0 = true]) (ls' := [some (.ref 36)]) (st' := [.ref 36]) (σ' := setI (setI σ 36 23 0) 36 37 0) [(.aload_n 0, 1, 0, 0, 0, 0), (.iconst 0, 1, 0, 0, 0, 0), (.putfield 262, 3, 0, 0, 106, 37), (.aload_n 0, 1, 0, 0, 0, 0)] (pc2 := 21) (by decide +kernel) rfl (And.intro kd_36 (And.intro rfl trivial)) ?_
    obtain ⟨σ1, e1, hf⟩ := bR_some hf
    refine h.callV (as := []) (rest := []) (by decide +kernel) lk6_274 cwX6_carryAll kd_36 (kmX6_carryAll l e1) rfl (Nat.le_of_ble_eq_true rfl) (Nat.le_of_ble_eq_true rfl) (Nat.le_of_ble_eq_true rfl) ?_
    show V 24 [some (.ref 36)] [] σ1
    refine h.run (o := [kd 36 = 6]) (ls' := [some (.ref 36)]) (st' := [.int (σ1.1 36 16)]) (σ' := σ1) [(.aload_n 0, 1, 0, 0, 0, 0), (.getfield 166, 3, 0, 0, 6, 16)] (pc2 := 28) (by decide +kernel) rfl (And.intro kd_36 trivial) ?_
    obtain ⟨rfl, rfl⟩ := Prod.mk.inj (Option.some.inj hf)
    exact hm.iret (by decide +kernel)
  · rw [if_pos c2] at hf
    show V 12 [some (.ref 36)] [] (setI σ 36 23 0)
    refine h.run (o := []) (ls' := [some (.ref 36)]) (st' := [.int (-3)]) (σ' := setI σ 36 23 0) [(.bipush (-3), 2, (-3), 0, 0, 0)] (pc2 := 14) (by decide +kernel) rfl trivial ?_
    obtain ⟨rfl, rfl⟩ := Prod.mk.inj (Option.some.inj hf)
    exact hm.iret (by decide +kernel)
