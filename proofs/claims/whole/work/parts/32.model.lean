/-! Printed by wip/whole/prt.py: functions and walks. -/
def fX6_returner_109 (t0 : Int32) (σ : ST) : Option (Int32 × ST) :=
  some (t0, σ)
set_option maxHeartbeats 4000000 in
theorem wX6_returner_109 {l : Launch} {V : Nat → List (Option Value) → List Value → ST → Prop} {r : Int32} {τ : ST} {σ : ST} {t0 : Int32} (hm : BM l 6 cX6_returner 3 (some .int) 2 46 (some (.int r)) τ V) (hf : fX6_returner_109 t0 σ = some (r, τ)) : V 109 [none, none, none] [.int t0] σ := by
  have h := hm.bd
  unfold fX6_returner_109 at hf
  obtain ⟨rfl, rfl⟩ := Prod.mk.inj (Option.some.inj hf)
  exact hm.iret (by decide +kernel)
def fX6_returner (x1 : Int32) (x2 : Int32) (σ : ST) : Option (Int32 × ST) :=
  bR (fX6_isReturner x1 (setI σ 36 23 0)) fun a1 =>
  if a1 = 0 then
    some ((-1), setI σ 36 23 0)
  else
    if x2 = 0 then
      gd (inb x1 (alen 40)) <|
      some ((setI σ 36 23 0).1 40 x1.toNatClampNeg, setI σ 36 23 0)
    else
      if x2 = 1 then
        gd (inb x1 (alen 41)) <|
        some ((setI σ 36 23 0).1 41 x1.toNatClampNeg, setI σ 36 23 0)
      else
        if x2 = 2 then
          gd (inb x1 (alen 42)) <|
          some ((setI σ 36 23 0).1 42 x1.toNatClampNeg, setI σ 36 23 0)
        else
          if x2 = 3 then
            gd (inb x1 (alen 43)) <|
            some ((setI σ 36 23 0).1 43 x1.toNatClampNeg, setI σ 36 23 0)
          else
            if x2 = 4 then
              gd (inb x1 (alen 44)) <|
              some ((setI σ 36 23 0).1 44 x1.toNatClampNeg, setI σ 36 23 0)
            else
              if x2 = 5 then
                bR (fX6_nameOf x1 (setI σ 36 23 0)) fun a12 =>
                if 0 ≤ a12 then
                  bR (fX6_nameOf x1 (setI σ 36 23 0)) fun a13 =>
                  fX6_returner_109 a13 (setI σ 36 23 0)
                else
                  fX6_returner_109 (-4) (setI σ 36 23 0)
              else
                some ((-1), setI σ 36 23 0)
set_option maxHeartbeats 4000000 in
theorem kmX6_returner (l : Launch) {x1 : Int32} {x2 : Int32} {σ : ST} {r : Int32} {τ : ST} (hf : fX6_returner x1 x2 σ = some (r, τ)) : KM l yX6_returner cX6_returner 3 (some .int) 2 46 [.ref 36, .int x1, .int x2] σ (some (.int r)) τ := by
  refine KM.intro (ow := 6) (by decide +kernel) rfl (Nat.le_of_ble_eq_true rfl) (fun V hm => ?_)
  show V 0 [some (.ref 36), some (.int x1), some (.int x2)] [] σ
  have h := hm.bd
  unfold fX6_returner at hf
  refine h.run (o := [kd 36 = 6]) (ls' := [some (.ref 36), some (.int x1), some (.int x2)]) (st' := [.int x1, .ref 36]) (σ' := setI σ 36 23 0) [(.aload_n 0, 1, 0, 0, 0, 0), (.iconst 0, 1, 0, 0, 0, 0), (.putfield 112, 3, 0, 0, 6, 23), (.aload_n 0, 1, 0, 0, 0, 0), (.iload_n 1, 1, 0, 0, 0, 0)] (pc2 := 7) (by decide +kernel) rfl (And.intro kd_36 trivial) ?_
  obtain ⟨a1, e1, hf⟩ := bR_some hf
  refine h.callV (as := [.int x1]) (rest := []) (by decide +kernel) lk6_188 cwX6_isReturner kd_36 (kmX6_isReturner l e1) rfl (Nat.le_of_ble_eq_true rfl) (Nat.le_of_ble_eq_true rfl) (Nat.le_of_ble_eq_true rfl) ?_
  show V 10 [some (.ref 36), some (.int x1), some (.int x2)] [.int a1] (setI σ 36 23 0)
  refine h.if_ne (tgt := 15) (show decode cX6_returner 10 = .ok (.ifCond .ne 5, 3) by decide +kernel) (by decide) (fun c16 => ?_) (fun c16 => ?_)
  · rw [if_neg c16] at hf
    refine h.run (o := []) (ls' := [some (.ref 36), some (.int x1), some (.int x2)]) (st' := [.int x2]) (σ' := setI σ 36 23 0) [(.iload_n 2, 1, 0, 0, 0, 0)] (pc2 := 16) (by decide +kernel) rfl trivial ?_
    by_cases c3 : x2 = 0
    · rw [if_pos c3] at hf
      refine h.tableIn (off := 40) (tgt := 56) (show decode cX6_returner 16 = .ok (.tableswitch 94 0 5 #[40, 47, 54, 61, 68, 75], 40) by decide +kernel) (by rw [c3]; decide) (by rw [c3]; decide) (by rw [c3]; decide) (by decide) ?_
      obtain ⟨g2, hf⟩ := gd_some hf
      refine h.run (o := [kd 36 = 6, kd 40 = 10, inb x1 (alen 40) = true]) (ls' := [some (.ref 36), some (.int x1), some (.int x2)]) (st' := [.int ((setI σ 36 23 0).1 40 x1.toNatClampNeg)]) (σ' := setI σ 36 23 0) [(.aload_n 0, 1, 0, 0, 0, 0), (.getfield 29, 3, 0, 0, 6, 8), (.iload_n 1, 1, 0, 0, 0, 0), (.iaload, 1, 0, 0, 0, 0)] (pc2 := 62) (by decide +kernel) rfl (And.intro kd_36 (And.intro kd_40 (And.intro g2 trivial))) ?_
      obtain ⟨rfl, rfl⟩ := Prod.mk.inj (Option.some.inj hf)
      exact hm.iret (by decide +kernel)
    · rw [if_neg c3] at hf
      by_cases c5 : x2 = 1
      · rw [if_pos c5] at hf
        refine h.tableIn (off := 47) (tgt := 63) (show decode cX6_returner 16 = .ok (.tableswitch 94 0 5 #[40, 47, 54, 61, 68, 75], 40) by decide +kernel) (by rw [c5]; decide) (by rw [c5]; decide) (by rw [c5]; decide) (by decide) ?_
        obtain ⟨g4, hf⟩ := gd_some hf
        refine h.run (o := [kd 36 = 6, kd 41 = 10, inb x1 (alen 41) = true]) (ls' := [some (.ref 36), some (.int x1), some (.int x2)]) (st' := [.int ((setI σ 36 23 0).1 41 x1.toNatClampNeg)]) (σ' := setI σ 36 23 0) [(.aload_n 0, 1, 0, 0, 0, 0), (.getfield 32, 3, 0, 0, 6, 9), (.iload_n 1, 1, 0, 0, 0, 0), (.iaload, 1, 0, 0, 0, 0)] (pc2 := 69) (by decide +kernel) rfl (And.intro kd_36 (And.intro kd_41 (And.intro g4 trivial))) ?_
        obtain ⟨rfl, rfl⟩ := Prod.mk.inj (Option.some.inj hf)
        exact hm.iret (by decide +kernel)
      · rw [if_neg c5] at hf
        by_cases c7 : x2 = 2
        · rw [if_pos c7] at hf
          refine h.tableIn (off := 54) (tgt := 70) (show decode cX6_returner 16 = .ok (.tableswitch 94 0 5 #[40, 47, 54, 61, 68, 75], 40) by decide +kernel) (by rw [c7]; decide) (by rw [c7]; decide) (by rw [c7]; decide) (by decide) ?_
          obtain ⟨g6, hf⟩ := gd_some hf
          refine h.run (o := [kd 36 = 6, kd 42 = 10, inb x1 (alen 42) = true]) (ls' := [some (.ref 36), some (.int x1), some (.int x2)]) (st' := [.int ((setI σ 36 23 0).1 42 x1.toNatClampNeg)]) (σ' := setI σ 36 23 0) [(.aload_n 0, 1, 0, 0, 0, 0), (.getfield 35, 3, 0, 0, 6, 10), (.iload_n 1, 1, 0, 0, 0, 0), (.iaload, 1, 0, 0, 0, 0)] (pc2 := 76) (by decide +kernel) rfl (And.intro kd_36 (And.intro kd_42 (And.intro g6 trivial))) ?_
          obtain ⟨rfl, rfl⟩ := Prod.mk.inj (Option.some.inj hf)
          exact hm.iret (by decide +kernel)
        · rw [if_neg c7] at hf
          by_cases c9 : x2 = 3
          · rw [if_pos c9] at hf
            refine h.tableIn (off := 61) (tgt := 77) (show decode cX6_returner 16 = .ok (.tableswitch 94 0 5 #[40, 47, 54, 61, 68, 75], 40) by decide +kernel) (by rw [c9]; decide) (by rw [c9]; decide) (by rw [c9]; decide) (by decide) ?_
            obtain ⟨g8, hf⟩ := gd_some hf
            refine h.run (o := [kd 36 = 6, kd 43 = 10, inb x1 (alen 43) = true]) (ls' := [some (.ref 36), some (.int x1), some (.int x2)]) (st' := [.int ((setI σ 36 23 0).1 43 x1.toNatClampNeg)]) (σ' := setI σ 36 23 0) [(.aload_n 0, 1, 0, 0, 0, 0), (.getfield 38, 3, 0, 0, 6, 11), (.iload_n 1, 1, 0, 0, 0, 0), (.iaload, 1, 0, 0, 0, 0)] (pc2 := 83) (by decide +kernel) rfl (And.intro kd_36 (And.intro kd_43 (And.intro g8 trivial))) ?_
            obtain ⟨rfl, rfl⟩ := Prod.mk.inj (Option.some.inj hf)
            exact hm.iret (by decide +kernel)
          · rw [if_neg c9] at hf
            by_cases c11 : x2 = 4
            · rw [if_pos c11] at hf
              refine h.tableIn (off := 68) (tgt := 84) (show decode cX6_returner 16 = .ok (.tableswitch 94 0 5 #[40, 47, 54, 61, 68, 75], 40) by decide +kernel) (by rw [c11]; decide) (by rw [c11]; decide) (by rw [c11]; decide) (by decide) ?_
              obtain ⟨g10, hf⟩ := gd_some hf
              refine h.run (o := [kd 36 = 6, kd 44 = 10, inb x1 (alen 44) = true]) (ls' := [some (.ref 36), some (.int x1), some (.int x2)]) (st' := [.int ((setI σ 36 23 0).1 44 x1.toNatClampNeg)]) (σ' := setI σ 36 23 0) [(.aload_n 0, 1, 0, 0, 0, 0), (.getfield 41, 3, 0, 0, 6, 12), (.iload_n 1, 1, 0, 0, 0, 0), (.iaload, 1, 0, 0, 0, 0)] (pc2 := 90) (by decide +kernel) rfl (And.intro kd_36 (And.intro kd_44 (And.intro g10 trivial))) ?_
              obtain ⟨rfl, rfl⟩ := Prod.mk.inj (Option.some.inj hf)
              exact hm.iret (by decide +kernel)
            · rw [if_neg c11] at hf
              by_cases c15 : x2 = 5
              · rw [if_pos c15] at hf
                refine h.tableIn (off := 75) (tgt := 91) (show decode cX6_returner 16 = .ok (.tableswitch 94 0 5 #[40, 47, 54, 61, 68, 75], 40) by decide +kernel) (by rw [c15]; decide) (by rw [c15]; decide) (by rw [c15]; decide) (by decide) ?_
                refine h.run (o := []) (ls' := [some (.ref 36), some (.int x1), some (.int x2)]) (st' := [.int x1, .ref 36]) (σ' := setI σ 36 23 0) [(.aload_n 0, 1, 0, 0, 0, 0), (.iload_n 1, 1, 0, 0, 0, 0)] (pc2 := 93) (by decide +kernel) rfl trivial ?_
                obtain ⟨a12, e12, hf⟩ := bR_some hf
                refine h.callV (as := [.int x1]) (rest := []) (by decide +kernel) lk6_191 cwX6_nameOf kd_36 (kmX6_nameOf l e12) rfl (Nat.le_of_ble_eq_true rfl) (Nat.le_of_ble_eq_true rfl) (Nat.le_of_ble_eq_true rfl) ?_
                show V 96 [some (.ref 36), some (.int x1), some (.int x2)] [.int a12] (setI σ 36 23 0)
                refine h.if_ge (tgt := 104) (show decode cX6_returner 96 = .ok (.ifCond .ge 8, 3) by decide +kernel) (by decide) (fun c14 => ?_) (fun c14 => ?_)
                · rw [if_pos c14] at hf
                  refine h.run (o := []) (ls' := [some (.ref 36), some (.int x1), some (.int x2)]) (st' := [.int x1, .ref 36]) (σ' := setI σ 36 23 0) [(.aload_n 0, 1, 0, 0, 0, 0), (.iload_n 1, 1, 0, 0, 0, 0)] (pc2 := 106) (by decide +kernel) rfl trivial ?_
                  obtain ⟨a13, e13, hf⟩ := bR_some hf
                  refine h.callV (as := [.int x1]) (rest := []) (by decide +kernel) lk6_191 cwX6_nameOf kd_36 (kmX6_nameOf l e13) rfl (Nat.le_of_ble_eq_true rfl) (Nat.le_of_ble_eq_true rfl) (Nat.le_of_ble_eq_true rfl) ?_
                  show V 109 [some (.ref 36), some (.int x1), some (.int x2)] [.int a13] (setI σ 36 23 0)
                  refine h.drop (ls' := [none, none, none]) trivial ?_
                  exact wX6_returner_109 hm hf
                · rw [if_neg c14] at hf
                  show V 99 [some (.ref 36), some (.int x1), some (.int x2)] [] (setI σ 36 23 0)
                  refine h.run (o := []) (ls' := [some (.ref 36), some (.int x1), some (.int x2)]) (st' := [.int (-4)]) (σ' := setI σ 36 23 0) [(.bipush (-4), 2, (-4), 0, 0, 0), (.goto 8, 3, 0, 0, 0, 109)] (pc2 := 109) (by decide +kernel) rfl trivial ?_
                  refine h.drop (ls' := [none, none, none]) trivial ?_
                  exact wX6_returner_109 hm hf
              · rw [if_neg c15] at hf
                refine h.tableOut (tgt := 110) (show decode cX6_returner 16 = .ok (.tableswitch 94 0 5 #[40, 47, 54, 61, 68, 75], 40) by decide +kernel) (sw_out (fun i hl hh => ?_)) (by decide) ?_
                · rcases (show i = 0 ∨ i = 1 ∨ i = 2 ∨ i = 3 ∨ i = 4 ∨ i = 5 by omega) with rfl | rfl | rfl | rfl | rfl | rfl
                  · exact sw_ne c3 (by decide)
                  · exact sw_ne c5 (by decide)
                  · exact sw_ne c7 (by decide)
                  · exact sw_ne c9 (by decide)
                  · exact sw_ne c11 (by decide)
                  · exact sw_ne c15 (by decide)
                · refine h.run (o := []) (ls' := [some (.ref 36), some (.int x1), some (.int x2)]) (st' := [.int (-1)]) (σ' := setI σ 36 23 0) [(.iconst (-1), 1, (-1), 0, 0, 0)] (pc2 := 111) (by decide +kernel) rfl trivial ?_
                  obtain ⟨rfl, rfl⟩ := Prod.mk.inj (Option.some.inj hf)
                  exact hm.iret (by decide +kernel)
  · rw [if_pos c16] at hf
    show V 13 [some (.ref 36), some (.int x1), some (.int x2)] [] (setI σ 36 23 0)
    refine h.run (o := []) (ls' := [some (.ref 36), some (.int x1), some (.int x2)]) (st' := [.int (-1)]) (σ' := setI σ 36 23 0) [(.iconst (-1), 1, (-1), 0, 0, 0)] (pc2 := 14) (by decide +kernel) rfl trivial ?_
    obtain ⟨rfl, rfl⟩ := Prod.mk.inj (Option.some.inj hf)
    exact hm.iret (by decide +kernel)
def fX6_set_44 (σ : ST) : Option (Int32 × ST) :=
  some ((-1), σ)
set_option maxHeartbeats 4000000 in
theorem wX6_set_44 {l : Launch} {V : Nat → List (Option Value) → List Value → ST → Prop} {r : Int32} {τ : ST} {σ : ST} (hm : BM l 6 cX6_set 4 (some .int) 1 25 (some (.int r)) τ V) (hf : fX6_set_44 σ = some (r, τ)) : V 44 [none, none, none, none] [] σ := by
  have h := hm.bd
  unfold fX6_set_44 at hf
  refine h.run (o := []) (ls' := [none, none, none, none]) (st' := [.int (-1)]) (σ' := σ) [(.iconst (-1), 1, (-1), 0, 0, 0)] (pc2 := 45) (by decide +kernel) rfl trivial ?_
  obtain ⟨rfl, rfl⟩ := Prod.mk.inj (Option.some.inj hf)
  exact hm.iret (by decide +kernel)
def fX6_set_136 (x3 : Int32) (t1 : Int32) (σ : ST) : Option (Int32 × ST) :=
  some (x3, setI σ 36 2 t1)
set_option maxHeartbeats 4000000 in
theorem wX6_set_136 {l : Launch} {V : Nat → List (Option Value) → List Value → ST → Prop} {r : Int32} {τ : ST} {σ : ST} {x3 : Int32} {t1 : Int32} (hm : BM l 6 cX6_set 4 (some .int) 1 25 (some (.int r)) τ V) (hf : fX6_set_136 x3 t1 σ = some (r, τ)) : V 136 [none, none, none, some (.int x3)] [.int t1, .ref 36] σ := by
  have h := hm.bd
  unfold fX6_set_136 at hf
  refine h.run (o := [kd 36 = 6]) (ls' := [none, none, none, some (.int x3)]) (st' := [.int x3]) (σ' := setI σ 36 2 t1) [(.putfield 16, 3, 0, 0, 6, 2), (.iload_n 3, 1, 0, 0, 0, 0)] (pc2 := 140) (by decide +kernel) rfl (And.intro kd_36 trivial) ?_
  obtain ⟨rfl, rfl⟩ := Prod.mk.inj (Option.some.inj hf)
  exact hm.iret (by decide +kernel)
def fX6_set_119 (x1 : Int32) (x2 : Int32) (x3 : Int32) (t1 : Int32) (σ : ST) : Option (Int32 × ST) :=
  if x1 = 2 then
    fX6_set_136 x3 x2 (setI σ 36 1 t1)
  else
    fX6_set_136 x3 ((setI σ 36 1 t1).1 36 2) (setI σ 36 1 t1)
set_option maxHeartbeats 4000000 in
theorem wX6_set_119 {l : Launch} {V : Nat → List (Option Value) → List Value → ST → Prop} {r : Int32} {τ : ST} {σ : ST} {x1 : Int32} {x2 : Int32} {x3 : Int32} {t1 : Int32} (hm : BM l 6 cX6_set 4 (some .int) 1 25 (some (.int r)) τ V) (hf : fX6_set_119 x1 x2 x3 t1 σ = some (r, τ)) : V 119 [some (.ref 36), some (.int x1), some (.int x2), some (.int x3)] [.int t1, .ref 36] σ := by
  have h := hm.bd
  unfold fX6_set_119 at hf
  refine h.run (o := [kd 36 = 6]) (ls' := [some (.ref 36), some (.int x1), some (.int x2), some (.int x3)]) (st' := [.int 2, .int x1, .ref 36]) (σ' := setI σ 36 1 t1) [(.putfield 13, 3, 0, 0, 6, 1), (.aload_n 0, 1, 0, 0, 0, 0), (.iload_n 1, 1, 0, 0, 0, 0), (.iconst 2, 1, 2, 0, 0, 0)] (pc2 := 125) (by decide +kernel) rfl (And.intro kd_36 trivial) ?_
  refine h.icmp_ne (tgt := 132) (show decode cX6_set 125 = .ok (.if_icmp .ne 7, 3) by decide +kernel) (by decide) (fun c1 => ?_) (fun c1 => ?_)
  · rw [if_neg c1] at hf
    refine h.run (o := [kd 36 = 6]) (ls' := [some (.ref 36), some (.int x1), some (.int x2), some (.int x3)]) (st' := [.int ((setI σ 36 1 t1).1 36 2), .ref 36]) (σ' := setI σ 36 1 t1) [(.aload_n 0, 1, 0, 0, 0, 0), (.getfield 16, 3, 0, 0, 6, 2)] (pc2 := 136) (by decide +kernel) rfl (And.intro kd_36 trivial) ?_
    refine h.drop (ls' := [none, none, none, some (.int x3)]) (And.intro rfl trivial) ?_
    exact wX6_set_136 hm hf
  · rw [if_pos c1] at hf
    show V 128 [some (.ref 36), some (.int x1), some (.int x2), some (.int x3)] [.ref 36] (setI σ 36 1 t1)
    refine h.run (o := []) (ls' := [some (.ref 36), some (.int x1), some (.int x2), some (.int x3)]) (st' := [.int x2, .ref 36]) (σ' := setI σ 36 1 t1) [(.iload_n 2, 1, 0, 0, 0, 0), (.goto 7, 3, 0, 0, 0, 136)] (pc2 := 136) (by decide +kernel) rfl trivial ?_
    refine h.drop (ls' := [none, none, none, some (.int x3)]) (And.intro rfl trivial) ?_
    exact wX6_set_136 hm hf
def fX6_set_102 (x1 : Int32) (x2 : Int32) (x3 : Int32) (t1 : Int32) (σ : ST) : Option (Int32 × ST) :=
  if x1 = 1 then
    fX6_set_119 x1 x2 x3 x2 (setI σ 36 0 t1)
  else
    fX6_set_119 x1 x2 x3 ((setI σ 36 0 t1).1 36 1) (setI σ 36 0 t1)
set_option maxHeartbeats 4000000 in
theorem wX6_set_102 {l : Launch} {V : Nat → List (Option Value) → List Value → ST → Prop} {r : Int32} {τ : ST} {σ : ST} {x1 : Int32} {x2 : Int32} {x3 : Int32} {t1 : Int32} (hm : BM l 6 cX6_set 4 (some .int) 1 25 (some (.int r)) τ V) (hf : fX6_set_102 x1 x2 x3 t1 σ = some (r, τ)) : V 102 [some (.ref 36), some (.int x1), some (.int x2), some (.int x3)] [.int t1, .ref 36] σ := by
  have h := hm.bd
  unfold fX6_set_102 at hf
  refine h.run (o := [kd 36 = 6]) (ls' := [some (.ref 36), some (.int x1), some (.int x2), some (.int x3)]) (st' := [.int 1, .int x1, .ref 36]) (σ' := setI σ 36 0 t1) [(.putfield 7, 3, 0, 0, 6, 0), (.aload_n 0, 1, 0, 0, 0, 0), (.iload_n 1, 1, 0, 0, 0, 0), (.iconst 1, 1, 1, 0, 0, 0)] (pc2 := 108) (by decide +kernel) rfl (And.intro kd_36 trivial) ?_
  refine h.icmp_ne (tgt := 115) (show decode cX6_set 108 = .ok (.if_icmp .ne 7, 3) by decide +kernel) (by decide) (fun c1 => ?_) (fun c1 => ?_)
  · rw [if_neg c1] at hf
    refine h.run (o := [kd 36 = 6]) (ls' := [some (.ref 36), some (.int x1), some (.int x2), some (.int x3)]) (st' := [.int ((setI σ 36 0 t1).1 36 1), .ref 36]) (σ' := setI σ 36 0 t1) [(.aload_n 0, 1, 0, 0, 0, 0), (.getfield 13, 3, 0, 0, 6, 1)] (pc2 := 119) (by decide +kernel) rfl (And.intro kd_36 trivial) ?_
    exact wX6_set_119 hm hf
  · rw [if_pos c1] at hf
    show V 111 [some (.ref 36), some (.int x1), some (.int x2), some (.int x3)] [.ref 36] (setI σ 36 0 t1)
    refine h.run (o := []) (ls' := [some (.ref 36), some (.int x1), some (.int x2), some (.int x3)]) (st' := [.int x2, .ref 36]) (σ' := setI σ 36 0 t1) [(.iload_n 2, 1, 0, 0, 0, 0), (.goto 7, 3, 0, 0, 0, 119)] (pc2 := 119) (by decide +kernel) rfl trivial ?_
    exact wX6_set_119 hm hf
def fX6_set_88 (x1 : Int32) (x2 : Int32) (t0 : Int32) (σ : ST) : Option (Int32 × ST) :=
  if x1 = 0 then
    fX6_set_102 x1 x2 t0 x2 σ
  else
    fX6_set_102 x1 x2 t0 (σ.1 36 0) σ
set_option maxHeartbeats 4000000 in
theorem wX6_set_88 {l : Launch} {V : Nat → List (Option Value) → List Value → ST → Prop} {r : Int32} {τ : ST} {σ : ST} {x1 : Int32} {x2 : Int32} {t0 : Int32} (hm : BM l 6 cX6_set 4 (some .int) 1 25 (some (.int r)) τ V) (hf : fX6_set_88 x1 x2 t0 σ = some (r, τ)) : V 88 [some (.ref 36), some (.int x1), some (.int x2), none] [.int t0] σ := by
  have h := hm.bd
  unfold fX6_set_88 at hf
  refine h.run (o := []) (ls' := [some (.ref 36), some (.int x1), some (.int x2), some (.int t0)]) (st' := [.int x1, .ref 36]) (σ' := σ) [(.istore_n 3, 1, 0, 0, 0, 0), (.aload_n 0, 1, 0, 0, 0, 0), (.iload_n 1, 1, 0, 0, 0, 0)] (pc2 := 91) (by decide +kernel) rfl trivial ?_
  refine h.if_ne (tgt := 98) (show decode cX6_set 91 = .ok (.ifCond .ne 7, 3) by decide +kernel) (by decide) (fun c1 => ?_) (fun c1 => ?_)
  · rw [if_neg c1] at hf
    refine h.run (o := [kd 36 = 6]) (ls' := [some (.ref 36), some (.int x1), some (.int x2), some (.int t0)]) (st' := [.int (σ.1 36 0), .ref 36]) (σ' := σ) [(.aload_n 0, 1, 0, 0, 0, 0), (.getfield 7, 3, 0, 0, 6, 0)] (pc2 := 102) (by decide +kernel) rfl (And.intro kd_36 trivial) ?_
    exact wX6_set_102 hm hf
  · rw [if_pos c1] at hf
    show V 94 [some (.ref 36), some (.int x1), some (.int x2), some (.int t0)] [.ref 36] σ
    refine h.run (o := []) (ls' := [some (.ref 36), some (.int x1), some (.int x2), some (.int t0)]) (st' := [.int x2, .ref 36]) (σ' := σ) [(.iload_n 2, 1, 0, 0, 0, 0), (.goto 7, 3, 0, 0, 0, 102)] (pc2 := 102) (by decide +kernel) rfl trivial ?_
    exact wX6_set_102 hm hf
def fX6_set_61 (x1 : Int32) (x2 : Int32) (σ : ST) : Option (Int32 × ST) :=
  if x1 = 0 then
    fX6_set_88 x1 x2 (σ.1 36 0) σ
  else
    if x1 = 1 then
      fX6_set_88 x1 x2 (σ.1 36 1) σ
    else
      fX6_set_88 x1 x2 (σ.1 36 2) σ
set_option maxHeartbeats 4000000 in
theorem wX6_set_61 {l : Launch} {V : Nat → List (Option Value) → List Value → ST → Prop} {r : Int32} {τ : ST} {σ : ST} {x1 : Int32} {x2 : Int32} (hm : BM l 6 cX6_set 4 (some .int) 1 25 (some (.int r)) τ V) (hf : fX6_set_61 x1 x2 σ = some (r, τ)) : V 61 [some (.ref 36), some (.int x1), some (.int x2), none] [] σ := by
  have h := hm.bd
  unfold fX6_set_61 at hf
  refine h.run (o := []) (ls' := [some (.ref 36), some (.int x1), some (.int x2), none]) (st' := [.int x1]) (σ' := σ) [(.iload_n 1, 1, 0, 0, 0, 0)] (pc2 := 62) (by decide +kernel) rfl trivial ?_
  refine h.if_ne (tgt := 72) (show decode cX6_set 62 = .ok (.ifCond .ne 10, 3) by decide +kernel) (by decide) (fun c2 => ?_) (fun c2 => ?_)
  · rw [if_neg c2] at hf
    refine h.run (o := []) (ls' := [some (.ref 36), some (.int x1), some (.int x2), none]) (st' := [.int 1, .int x1]) (σ' := σ) [(.iload_n 1, 1, 0, 0, 0, 0), (.iconst 1, 1, 1, 0, 0, 0)] (pc2 := 74) (by decide +kernel) rfl trivial ?_
    refine h.icmp_ne (tgt := 84) (show decode cX6_set 74 = .ok (.if_icmp .ne 10, 3) by decide +kernel) (by decide) (fun c1 => ?_) (fun c1 => ?_)
    · rw [if_neg c1] at hf
      refine h.run (o := [kd 36 = 6]) (ls' := [some (.ref 36), some (.int x1), some (.int x2), none]) (st' := [.int (σ.1 36 2)]) (σ' := σ) [(.aload_n 0, 1, 0, 0, 0, 0), (.getfield 16, 3, 0, 0, 6, 2)] (pc2 := 88) (by decide +kernel) rfl (And.intro kd_36 trivial) ?_
      exact wX6_set_88 hm hf
    · rw [if_pos c1] at hf
      show V 77 [some (.ref 36), some (.int x1), some (.int x2), none] [] σ
      refine h.run (o := [kd 36 = 6]) (ls' := [some (.ref 36), some (.int x1), some (.int x2), none]) (st' := [.int (σ.1 36 1)]) (σ' := σ) [(.aload_n 0, 1, 0, 0, 0, 0), (.getfield 13, 3, 0, 0, 6, 1), (.goto 7, 3, 0, 0, 0, 88)] (pc2 := 88) (by decide +kernel) rfl (And.intro kd_36 trivial) ?_
      exact wX6_set_88 hm hf
  · rw [if_pos c2] at hf
    show V 65 [some (.ref 36), some (.int x1), some (.int x2), none] [] σ
    refine h.run (o := [kd 36 = 6]) (ls' := [some (.ref 36), some (.int x1), some (.int x2), none]) (st' := [.int (σ.1 36 0)]) (σ' := σ) [(.aload_n 0, 1, 0, 0, 0, 0), (.getfield 7, 3, 0, 0, 6, 0), (.goto 19, 3, 0, 0, 0, 88)] (pc2 := 88) (by decide +kernel) rfl (And.intro kd_36 trivial) ?_
    exact wX6_set_88 hm hf
def fX6_set_46 (x1 : Int32) (x2 : Int32) (σ : ST) : Option (Int32 × ST) :=
  if 2 ≤ x1 then
    fX6_set_61 x1 x2 σ
  else
    if (σ.1 36 16) ≤ 0 then
      fX6_set_61 x1 x2 σ
    else
      some ((-3), σ)
set_option maxHeartbeats 4000000 in
theorem wX6_set_46 {l : Launch} {V : Nat → List (Option Value) → List Value → ST → Prop} {r : Int32} {τ : ST} {σ : ST} {x1 : Int32} {x2 : Int32} (hm : BM l 6 cX6_set 4 (some .int) 1 25 (some (.int r)) τ V) (hf : fX6_set_46 x1 x2 σ = some (r, τ)) : V 46 [some (.ref 36), some (.int x1), some (.int x2), none] [] σ := by
  have h := hm.bd
  unfold fX6_set_46 at hf
  refine h.run (o := []) (ls' := [some (.ref 36), some (.int x1), some (.int x2), none]) (st' := [.int 2, .int x1]) (σ' := σ) [(.iload_n 1, 1, 0, 0, 0, 0), (.iconst 2, 1, 2, 0, 0, 0)] (pc2 := 48) (by decide +kernel) rfl trivial ?_
  refine h.icmp_ge (tgt := 61) (show decode cX6_set 48 = .ok (.if_icmp .ge 13, 3) by decide +kernel) (by decide) (fun c2 => ?_) (fun c2 => ?_)
  · rw [if_pos c2] at hf
    exact wX6_set_61 hm hf
  · rw [if_neg c2] at hf
    show V 51 [some (.ref 36), some (.int x1), some (.int x2), none] [] σ
    refine h.run (o := [kd 36 = 6]) (ls' := [some (.ref 36), some (.int x1), some (.int x2), none]) (st' := [.int (σ.1 36 16)]) (σ' := σ) [(.aload_n 0, 1, 0, 0, 0, 0), (.getfield 166, 3, 0, 0, 6, 16)] (pc2 := 55) (by decide +kernel) rfl (And.intro kd_36 trivial) ?_
    refine h.if_le (tgt := 61) (show decode cX6_set 55 = .ok (.ifCond .le 6, 3) by decide +kernel) (by decide) (fun c1 => ?_) (fun c1 => ?_)
    · rw [if_pos c1] at hf
      exact wX6_set_61 hm hf
    · rw [if_neg c1] at hf
      show V 58 [some (.ref 36), some (.int x1), some (.int x2), none] [] σ
      refine h.run (o := []) (ls' := [some (.ref 36), some (.int x1), some (.int x2), none]) (st' := [.int (-3)]) (σ' := σ) [(.bipush (-3), 2, (-3), 0, 0, 0)] (pc2 := 60) (by decide +kernel) rfl trivial ?_
      obtain ⟨rfl, rfl⟩ := Prod.mk.inj (Option.some.inj hf)
      exact hm.iret (by decide +kernel)
def fX6_set_38 (x1 : Int32) (x2 : Int32) (t0 : Int64) (t1 : Int64) (t2 : Int64) (σ : ST) : Option (Int32 × ST) :=
  bR (fX6_in t0 t1 t2 σ) fun a1 =>
  if a1 = 0 then
    fX6_set_44 σ
  else
    fX6_set_46 x1 x2 σ
set_option maxHeartbeats 4000000 in
theorem wX6_set_38 {l : Launch} {V : Nat → List (Option Value) → List Value → ST → Prop} {r : Int32} {τ : ST} {σ : ST} {x1 : Int32} {x2 : Int32} {t0 : Int64} {t1 : Int64} {t2 : Int64} (hm : BM l 6 cX6_set 4 (some .int) 1 25 (some (.int r)) τ V) (hf : fX6_set_38 x1 x2 t0 t1 t2 σ = some (r, τ)) : V 38 [some (.ref 36), some (.int x1), some (.int x2), none] [.long t2, .long t1, .long t0] σ := by
  have h := hm.bd
  unfold fX6_set_38 at hf
  obtain ⟨a1, e1, hf⟩ := bR_some hf
  refine h.callS (as := [.long t0, .long t1, .long t2]) (rest := []) (by decide +kernel) lk6_119 cwX6_in (kmX6_in l e1) rfl (Nat.le_of_ble_eq_true rfl) (Nat.le_of_ble_eq_true rfl) (Nat.le_of_ble_eq_true rfl) ?_
  show V 41 [some (.ref 36), some (.int x1), some (.int x2), none] [.int a1] σ
  refine h.if_ne (tgt := 46) (show decode cX6_set 41 = .ok (.ifCond .ne 5, 3) by decide +kernel) (by decide) (fun c2 => ?_) (fun c2 => ?_)
  · rw [if_neg c2] at hf
    exact wX6_set_46 hm hf
  · rw [if_pos c2] at hf
    show V 44 [some (.ref 36), some (.int x1), some (.int x2), none] [] σ
    refine h.drop (ls' := [none, none, none, none]) trivial ?_
    exact wX6_set_44 hm hf
def fX6_set (x1 : Int32) (x2 : Int32) (σ : ST) : Option (Int32 × ST) :=
  bR (fX6_in x1.toInt64 0 2 (setI σ 36 23 0)) fun a1 =>
  if a1 = 0 then
    fX6_set_44 (setI σ 36 23 0)
  else
    if 2 ≤ x1 then
      fX6_set_46 x1 x2 (setI σ 36 23 0)
    else
      if x1 = 0 then
        fX6_set_38 x1 x2 x2.toInt64 1 20 (setI σ 36 23 0)
      else
        fX6_set_38 x1 x2 x2.toInt64 1 5 (setI σ 36 23 0)
set_option maxHeartbeats 4000000 in
theorem kmX6_set (l : Launch) {x1 : Int32} {x2 : Int32} {σ : ST} {r : Int32} {τ : ST} (hf : fX6_set x1 x2 σ = some (r, τ)) : KM l yX6_set cX6_set 4 (some .int) 1 25 [.ref 36, .int x1, .int x2] σ (some (.int r)) τ := by
  refine KM.intro (ow := 6) (by decide +kernel) rfl (Nat.le_of_ble_eq_true rfl) (fun V hm => ?_)
  show V 0 [some (.ref 36), some (.int x1), some (.int x2), none] [] σ
  have h := hm.bd
  unfold fX6_set at hf
  refine h.run (o := [kd 36 = 6]) (ls' := [some (.ref 36), some (.int x1), some (.int x2), none]) (st' := [.long 2, .long 0, .long x1.toInt64]) (σ' := setI σ 36 23 0) [(.aload_n 0, 1, 0, 0, 0, 0), (.iconst 0, 1, 0, 0, 0, 0), (.putfield 112, 3, 0, 0, 6, 23), (.iload_n 1, 1, 0, 0, 0, 0), (.i2l, 1, 0, 0, 0, 0), (.lconst 0, 1, 0, 0, 0, 0), (.ldc2_w 186, 3, 0, 2, 0, 0)] (pc2 := 11) (by decide +kernel) rfl (And.intro kd_36 trivial) ?_
  obtain ⟨a1, e1, hf⟩ := bR_some hf
  refine h.callS (as := [.long x1.toInt64, .long 0, .long 2]) (rest := []) (by decide +kernel) lk6_119 cwX6_in (kmX6_in l e1) rfl (Nat.le_of_ble_eq_true rfl) (Nat.le_of_ble_eq_true rfl) (Nat.le_of_ble_eq_true rfl) ?_
  show V 14 [some (.ref 36), some (.int x1), some (.int x2), none] [.int a1] (setI σ 36 23 0)
  refine h.if_eq (tgt := 44) (show decode cX6_set 14 = .ok (.ifCond .eq 30, 3) by decide +kernel) (by decide) (fun c4 => ?_) (fun c4 => ?_)
  · rw [if_pos c4] at hf
    refine h.drop (ls' := [none, none, none, none]) trivial ?_
    exact wX6_set_44 hm hf
  · rw [if_neg c4] at hf
    show V 17 [some (.ref 36), some (.int x1), some (.int x2), none] [] (setI σ 36 23 0)
    refine h.run (o := []) (ls' := [some (.ref 36), some (.int x1), some (.int x2), none]) (st' := [.int 2, .int x1]) (σ' := setI σ 36 23 0) [(.iload_n 1, 1, 0, 0, 0, 0), (.iconst 2, 1, 2, 0, 0, 0)] (pc2 := 19) (by decide +kernel) rfl trivial ?_
    refine h.icmp_ge (tgt := 46) (show decode cX6_set 19 = .ok (.if_icmp .ge 27, 3) by decide +kernel) (by decide) (fun c3 => ?_) (fun c3 => ?_)
    · rw [if_pos c3] at hf
      exact wX6_set_46 hm hf
    · rw [if_neg c3] at hf
      show V 22 [some (.ref 36), some (.int x1), some (.int x2), none] [] (setI σ 36 23 0)
      refine h.run (o := []) (ls' := [some (.ref 36), some (.int x1), some (.int x2), none]) (st' := [.int x1, .long 1, .long x2.toInt64]) (σ' := setI σ 36 23 0) [(.iload_n 2, 1, 0, 0, 0, 0), (.i2l, 1, 0, 0, 0, 0), (.lconst 1, 1, 0, 1, 0, 0), (.iload_n 1, 1, 0, 0, 0, 0)] (pc2 := 26) (by decide +kernel) rfl trivial ?_
      refine h.if_ne (tgt := 35) (show decode cX6_set 26 = .ok (.ifCond .ne 9, 3) by decide +kernel) (by decide) (fun c2 => ?_) (fun c2 => ?_)
      · rw [if_neg c2] at hf
        refine h.run (o := []) (ls' := [some (.ref 36), some (.int x1), some (.int x2), none]) (st' := [.long 5, .long 1, .long x2.toInt64]) (σ' := setI σ 36 23 0) [(.ldc2_w 169, 3, 0, 5, 0, 0)] (pc2 := 38) (by decide +kernel) rfl trivial ?_
        exact wX6_set_38 hm hf
      · rw [if_pos c2] at hf
        show V 29 [some (.ref 36), some (.int x1), some (.int x2), none] [.long 1, .long x2.toInt64] (setI σ 36 23 0)
        refine h.run (o := []) (ls' := [some (.ref 36), some (.int x1), some (.int x2), none]) (st' := [.long 20, .long 1, .long x2.toInt64]) (σ' := setI σ 36 23 0) [(.ldc2_w 164, 3, 0, 20, 0, 0), (.goto 6, 3, 0, 0, 0, 38)] (pc2 := 38) (by decide +kernel) rfl trivial ?_
        exact wX6_set_38 hm hf
def fX6_holds_25 (σ : ST) : Option (Int32 × ST) :=
  some ((-1), σ)
set_option maxHeartbeats 4000000 in
theorem wX6_holds_25 {l : Launch} {V : Nat → List (Option Value) → List Value → ST → Prop} {r : Int32} {τ : ST} {σ : ST} (hm : BM l 6 cX6_holds 4 (some .int) 2 46 (some (.int r)) τ V) (hf : fX6_holds_25 σ = some (r, τ)) : V 25 [none, none, none, none] [] σ := by
  have h := hm.bd
  unfold fX6_holds_25 at hf
  refine h.run (o := []) (ls' := [none, none, none, none]) (st' := [.int (-1)]) (σ' := σ) [(.iconst (-1), 1, (-1), 0, 0, 0)] (pc2 := 26) (by decide +kernel) rfl trivial ?_
  obtain ⟨rfl, rfl⟩ := Prod.mk.inj (Option.some.inj hf)
  exact hm.iret (by decide +kernel)
def fX6_holds (x1 : Int32) (x2 : Int32) (σ : ST) : Option (Int32 × ST) :=
  bR (fX6_isSender x1 (setI σ 36 23 0)) fun a1 =>
  if a1 = 0 then
    fX6_holds_25 (setI σ 36 23 0)
  else
    bR (fX6_in x2.toInt64 0 100 (setI σ 36 23 0)) fun a2 =>
    if a2 = 0 then
      fX6_holds_25 (setI σ 36 23 0)
    else
      gd (inb x1 (alen 39)) <|
      gd (inb x1 (alen 39)) <|
      some ((setI σ 36 23 0).1 39 x1.toNatClampNeg, setI (setI σ 36 23 0) 39 (x1.toNatClampNeg) x2)
set_option maxHeartbeats 4000000 in
theorem kmX6_holds (l : Launch) {x1 : Int32} {x2 : Int32} {σ : ST} {r : Int32} {τ : ST} (hf : fX6_holds x1 x2 σ = some (r, τ)) : KM l yX6_holds cX6_holds 4 (some .int) 2 46 [.ref 36, .int x1, .int x2] σ (some (.int r)) τ := by
  refine KM.intro (ow := 6) (by decide +kernel) rfl (Nat.le_of_ble_eq_true rfl) (fun V hm => ?_)
  show V 0 [some (.ref 36), some (.int x1), some (.int x2), none] [] σ
  have h := hm.bd
  unfold fX6_holds at hf
  refine h.run (o := [kd 36 = 6]) (ls' := [some (.ref 36), some (.int x1), some (.int x2), none]) (st' := [.int x1, .ref 36]) (σ' := setI σ 36 23 0) [(.aload_n 0, 1, 0, 0, 0, 0), (.iconst 0, 1, 0, 0, 0, 0), (.putfield 112, 3, 0, 0, 6, 23), (.aload_n 0, 1, 0, 0, 0, 0), (.iload_n 1, 1, 0, 0, 0, 0)] (pc2 := 7) (by decide +kernel) rfl (And.intro kd_36 trivial) ?_
  obtain ⟨a1, e1, hf⟩ := bR_some hf
  refine h.callV (as := [.int x1]) (rest := []) (by decide +kernel) lk6_183 cwX6_isSender kd_36 (kmX6_isSender l e1) rfl (Nat.le_of_ble_eq_true rfl) (Nat.le_of_ble_eq_true rfl) (Nat.le_of_ble_eq_true rfl) ?_
  show V 10 [some (.ref 36), some (.int x1), some (.int x2), none] [.int a1] (setI σ 36 23 0)
  refine h.if_eq (tgt := 25) (show decode cX6_holds 10 = .ok (.ifCond .eq 15, 3) by decide +kernel) (by decide) (fun c6 => ?_) (fun c6 => ?_)
  · rw [if_pos c6] at hf
    refine h.drop (ls' := [none, none, none, none]) trivial ?_
    exact wX6_holds_25 hm hf
  · rw [if_neg c6] at hf
    show V 13 [some (.ref 36), some (.int x1), some (.int x2), none] [] (setI σ 36 23 0)
    refine h.run (o := []) (ls' := [some (.ref 36), some (.int x1), some (.int x2), none]) (st' := [.long 100, .long 0, .long x2.toInt64]) (σ' := setI σ 36 23 0) [(.iload_n 2, 1, 0, 0, 0, 0), (.i2l, 1, 0, 0, 0, 0), (.lconst 0, 1, 0, 0, 0, 0), (.ldc2_w 181, 3, 0, 100, 0, 0)] (pc2 := 19) (by decide +kernel) rfl trivial ?_
    obtain ⟨a2, e2, hf⟩ := bR_some hf
    refine h.callS (as := [.long x2.toInt64, .long 0, .long 100]) (rest := []) (by decide +kernel) lk6_119 cwX6_in (kmX6_in l e2) rfl (Nat.le_of_ble_eq_true rfl) (Nat.le_of_ble_eq_true rfl) (Nat.le_of_ble_eq_true rfl) ?_
    show V 22 [some (.ref 36), some (.int x1), some (.int x2), none] [.int a2] (setI σ 36 23 0)
    refine h.if_ne (tgt := 27) (show decode cX6_holds 22 = .ok (.ifCond .ne 5, 3) by decide +kernel) (by decide) (fun c5 => ?_) (fun c5 => ?_)
    · rw [if_neg c5] at hf
      obtain ⟨g3, hf⟩ := gd_some hf
      obtain ⟨g4, hf⟩ := gd_some hf
      refine h.run (o := [kd 36 = 6, kd 39 = 10, inb x1 (alen 39) = true, kd 36 = 6, kd 39 = 10, inb x1 (alen 39) = true]) (ls' := [some (.ref 36), some (.int x1), some (.int x2), some (.int ((setI σ 36 23 0).1 39 x1.toNatClampNeg))]) (st' := [.int ((setI σ 36 23 0).1 39 x1.toNatClampNeg)]) (σ' := setI (setI σ 36 23 0) 39 (x1.toNatClampNeg) x2) [(.aload_n 0, 1, 0, 0, 0, 0), (.getfield 26, 3, 0, 0, 6, 6), (.iload_n 1, 1, 0, 0, 0, 0), (.iaload, 1, 0, 0, 0, 0), (.istore_n 3, 1, 0, 0, 0, 0), (.aload_n 0, 1, 0, 0, 0, 0), (.getfield 26, 3, 0, 0, 6, 6), (.iload_n 1, 1, 0, 0, 0, 0), (.iload_n 2, 1, 0, 0, 0, 0), (.iastore, 1, 0, 0, 0, 0), (.iload_n 3, 1, 0, 0, 0, 0)] (pc2 := 42) (by decide +kernel) rfl (And.intro kd_36 (And.intro kd_39 (And.intro g3 (And.intro kd_36 (And.intro kd_39 (And.intro g4 trivial)))))) ?_
      obtain ⟨rfl, rfl⟩ := Prod.mk.inj (Option.some.inj hf)
      exact hm.iret (by decide +kernel)
    · rw [if_pos c5] at hf
      show V 25 [some (.ref 36), some (.int x1), some (.int x2), none] [] (setI σ 36 23 0)
      refine h.drop (ls' := [none, none, none, none]) trivial ?_
      exact wX6_holds_25 hm hf
def fX6_draw (σ : ST) : Option (Int32 × ST) :=
  some (((((setI σ 36 2 (((σ.1 36 2) * 1103515245) + 12345)).1 36 2) &&& 2147483647) / 65536) - ((((setI σ 36 2 (((σ.1 36 2) * 1103515245) + 12345)).1 36 2) &&& 2147483647) / 65536) / 100 * 100, setI σ 36 2 (((σ.1 36 2) * 1103515245) + 12345))
set_option maxHeartbeats 4000000 in
theorem kmX6_draw (l : Launch) {σ : ST} {r : Int32} {τ : ST} (hf : fX6_draw σ = some (r, τ)) : KM l yX6_draw cX6_draw 1 (some .int) 0 0 [.ref 36] σ (some (.int r)) τ := by
  refine KM.intro (ow := 6) (by decide +kernel) rfl (Nat.le_of_ble_eq_true rfl) (fun V hm => ?_)
  show V 0 [some (.ref 36)] [] σ
  have h := hm.bd
  unfold fX6_draw at hf
  refine h.run (o := [kd 36 = 6, kd 36 = 6, kd 36 = 6, ¬ 65536 = 0, ¬ 100 = 0]) (ls' := [some (.ref 36)]) (st' := [.int (((((setI σ 36 2 (((σ.1 36 2) * 1103515245) + 12345)).1 36 2) &&& 2147483647) / 65536) - ((((setI σ 36 2 (((σ.1 36 2) * 1103515245) + 12345)).1 36 2) &&& 2147483647) / 65536) / 100 * 100)]) (σ' := setI σ 36 2 (((σ.1 36 2) * 1103515245) + 12345)) [(.aload_n 0, 1, 0, 0, 0, 0), (.aload_n 0, 1, 0, 0, 0, 0), (.getfield 16, 3, 0, 0, 6, 2), (.ldc 194, 2, 1103515245, 0, 0, 0), (.imul, 1, 0, 0, 0, 0), (.sipush 12345, 3, 12345, 0, 0, 0), (.iadd, 1, 0, 0, 0, 0), (.putfield 16, 3, 0, 0, 6, 2), (.aload_n 0, 1, 0, 0, 0, 0), (.getfield 16, 3, 0, 0, 6, 2), (.ldc 195, 2, 2147483647, 0, 0, 0), (.iand, 1, 0, 0, 0, 0), (.ldc 196, 2, 65536, 0, 0, 0), (.idiv, 1, 0, 0, 0, 0), (.bipush 100, 2, 100, 0, 0, 0), (.irem, 1, 0, 0, 0, 0)] (pc2 := 28) (by decide +kernel) rfl (And.intro kd_36 (And.intro kd_36 (And.intro kd_36 (And.intro (by decide) (And.intro (by decide) trivial))))) ?_
  obtain ⟨rfl, rfl⟩ := Prod.mk.inj (Option.some.inj hf)
  exact hm.iret (by decide +kernel)
def fX6_reckoned_19 (t0 : Int32) (σ : ST) : Option Int32 :=
  some t0
set_option maxHeartbeats 4000000 in
theorem wX6_reckoned_19 {l : Launch} {V : Nat → List (Option Value) → List Value → ST → Prop} {r : Int32} {σ : ST} {t0 : Int32} (hm : BM l 6 cX6_reckoned 2 (some .int) 0 0 (some (.int r)) σ V) (hf : fX6_reckoned_19 t0 σ = some r) : V 19 [none, none] [.int t0] σ := by
  have h := hm.bd
  unfold fX6_reckoned_19 at hf
  obtain rfl := Option.some.inj hf
  exact hm.iret (by decide +kernel)
def fX6_reckoned (x1 : Int32) (σ : ST) : Option Int32 :=
  if ((σ.1 36 1) * x1) ≤ 100 then
    fX6_reckoned_19 0 σ
  else
    fX6_reckoned_19 (σ.1 36 0) σ
set_option maxHeartbeats 4000000 in
theorem kmX6_reckoned (l : Launch) {x1 : Int32} {σ : ST} {r : Int32} (hf : fX6_reckoned x1 σ = some r) : KM l yX6_reckoned cX6_reckoned 2 (some .int) 0 0 [.ref 36, .int x1] σ (some (.int r)) σ := by
  refine KM.intro (ow := 6) (by decide +kernel) rfl (Nat.le_of_ble_eq_true rfl) (fun V hm => ?_)
  show V 0 [some (.ref 36), some (.int x1)] [] σ
  have h := hm.bd
  unfold fX6_reckoned at hf
  refine h.run (o := [kd 36 = 6]) (ls' := [some (.ref 36), some (.int x1)]) (st' := [.int 100, .int ((σ.1 36 1) * x1)]) (σ' := σ) [(.aload_n 0, 1, 0, 0, 0, 0), (.getfield 13, 3, 0, 0, 6, 1), (.iload_n 1, 1, 0, 0, 0, 0), (.imul, 1, 0, 0, 0, 0), (.bipush 100, 2, 100, 0, 0, 0)] (pc2 := 8) (by decide +kernel) rfl (And.intro kd_36 trivial) ?_
  refine h.icmp_le (tgt := 18) (show decode cX6_reckoned 8 = .ok (.if_icmp .le 10, 3) by decide +kernel) (by decide) (fun c1 => ?_) (fun c1 => ?_)
  · rw [if_pos c1] at hf
    refine h.run (o := []) (ls' := [some (.ref 36), some (.int x1)]) (st' := [.int 0]) (σ' := σ) [(.iconst 0, 1, 0, 0, 0, 0)] (pc2 := 19) (by decide +kernel) rfl trivial ?_
    refine h.drop (ls' := [none, none]) trivial ?_
    exact wX6_reckoned_19 hm hf
  · rw [if_neg c1] at hf
    show V 11 [some (.ref 36), some (.int x1)] [] σ
    refine h.run (o := [kd 36 = 6]) (ls' := [some (.ref 36), some (.int x1)]) (st' := [.int (σ.1 36 0)]) (σ' := σ) [(.aload_n 0, 1, 0, 0, 0, 0), (.getfield 7, 3, 0, 0, 6, 0), (.goto 4, 3, 0, 0, 0, 19)] (pc2 := 19) (by decide +kernel) rfl (And.intro kd_36 trivial) ?_
    refine h.drop (ls' := [none, none]) trivial ?_
    exact wX6_reckoned_19 hm hf
def fX6_atMost_16 (t0 : Int32) (σ : ST) : Option Int32 :=
  some t0
set_option maxHeartbeats 4000000 in
theorem wX6_atMost_16 {l : Launch} {V : Nat → List (Option Value) → List Value → ST → Prop} {r : Int32} {σ : ST} {t0 : Int32} (hm : BM l 6 cX6_atMost 2 (some .int) 0 0 (some (.int r)) σ V) (hf : fX6_atMost_16 t0 σ = some r) : V 16 [none, none] [.int t0] σ := by
  have h := hm.bd
  unfold fX6_atMost_16 at hf
  obtain rfl := Option.some.inj hf
  exact hm.iret (by decide +kernel)
def fX6_atMost (x1 : Int32) (σ : ST) : Option Int32 :=
  if (σ.1 36 0) ≤ x1 then
    fX6_atMost_16 (σ.1 36 0) σ
  else
    fX6_atMost_16 x1 σ
set_option maxHeartbeats 4000000 in
theorem kmX6_atMost (l : Launch) {x1 : Int32} {σ : ST} {r : Int32} (hf : fX6_atMost x1 σ = some r) : KM l yX6_atMost cX6_atMost 2 (some .int) 0 0 [.ref 36, .int x1] σ (some (.int r)) σ := by
  refine KM.intro (ow := 6) (by decide +kernel) rfl (Nat.le_of_ble_eq_true rfl) (fun V hm => ?_)
  show V 0 [some (.ref 36), some (.int x1)] [] σ
  have h := hm.bd
  unfold fX6_atMost at hf
  refine h.run (o := [kd 36 = 6]) (ls' := [some (.ref 36), some (.int x1)]) (st' := [.int (σ.1 36 0), .int x1]) (σ' := σ) [(.iload_n 1, 1, 0, 0, 0, 0), (.aload_n 0, 1, 0, 0, 0, 0), (.getfield 7, 3, 0, 0, 6, 0)] (pc2 := 5) (by decide +kernel) rfl (And.intro kd_36 trivial) ?_
  refine h.icmp_ge (tgt := 12) (show decode cX6_atMost 5 = .ok (.if_icmp .ge 7, 3) by decide +kernel) (by decide) (fun c1 => ?_) (fun c1 => ?_)
  · rw [if_pos c1] at hf
    refine h.run (o := [kd 36 = 6]) (ls' := [some (.ref 36), some (.int x1)]) (st' := [.int (σ.1 36 0)]) (σ' := σ) [(.aload_n 0, 1, 0, 0, 0, 0), (.getfield 7, 3, 0, 0, 6, 0)] (pc2 := 16) (by decide +kernel) rfl (And.intro kd_36 trivial) ?_
    refine h.drop (ls' := [none, none]) trivial ?_
    exact wX6_atMost_16 hm hf
  · rw [if_neg c1] at hf
    show V 8 [some (.ref 36), some (.int x1)] [] σ
    refine h.run (o := []) (ls' := [some (.ref 36), some (.int x1)]) (st' := [.int x1]) (σ' := σ) [(.iload_n 1, 1, 0, 0, 0, 0), (.goto 7, 3, 0, 0, 0, 16)] (pc2 := 16) (by decide +kernel) rfl trivial ?_
    refine h.drop (ls' := [none, none]) trivial ?_
    exact wX6_atMost_16 hm hf
def fX6_sending_91 (t0 : Int32) (σ : ST) : Option (Int32 × ST) :=
  some (t0, σ)
set_option maxHeartbeats 4000000 in
theorem wX6_sending_91 {l : Launch} {V : Nat → List (Option Value) → List Value → ST → Prop} {r : Int32} {τ : ST} {σ : ST} {t0 : Int32} (hm : BM l 6 cX6_sending 8 (some .int) 1 21 (some (.int r)) τ V) (hf : fX6_sending_91 t0 σ = some (r, τ)) : V 91 [none, none, none, none, none, none, none, none] [.int t0] σ := by
  have h := hm.bd
  unfold fX6_sending_91 at hf
  obtain ⟨rfl, rfl⟩ := Prod.mk.inj (Option.some.inj hf)
  exact hm.iret (by decide +kernel)
def fX6_sending_107 (t1 : Int32) (σ : ST) : Option (Int32 × ST) :=
  bR (fX6_reckoned t1 σ) fun a1 =>
  some (a1, σ)
set_option maxHeartbeats 4000000 in
theorem wX6_sending_107 {l : Launch} {V : Nat → List (Option Value) → List Value → ST → Prop} {r : Int32} {τ : ST} {σ : ST} {t1 : Int32} (hm : BM l 6 cX6_sending 8 (some .int) 1 21 (some (.int r)) τ V) (hf : fX6_sending_107 t1 σ = some (r, τ)) : V 107 [none, none, none, none, none, none, none, none] [.int t1, .ref 36] σ := by
  have h := hm.bd
  unfold fX6_sending_107 at hf
  obtain ⟨a1, e1, hf⟩ := bR_some hf
  refine h.callV (as := [.int t1]) (rest := []) (by decide +kernel) lk6_197 cwX6_reckoned kd_36 (kmX6_reckoned l e1) rfl (Nat.le_of_ble_eq_true rfl) (Nat.le_of_ble_eq_true rfl) (Nat.le_of_ble_eq_true rfl) ?_
  show V 110 [none, none, none, none, none, none, none, none] [.int a1] σ
  obtain ⟨rfl, rfl⟩ := Prod.mk.inj (Option.some.inj hf)
  exact hm.iret (by decide +kernel)
def fX6_sending_130 (t0 : Int32) (σ : ST) : Option (Int32 × ST) :=
  some (t0, σ)
set_option maxHeartbeats 4000000 in
theorem wX6_sending_130 {l : Launch} {V : Nat → List (Option Value) → List Value → ST → Prop} {r : Int32} {τ : ST} {σ : ST} {t0 : Int32} (hm : BM l 6 cX6_sending 8 (some .int) 1 21 (some (.int r)) τ V) (hf : fX6_sending_130 t0 σ = some (r, τ)) : V 130 [none, none, none, none, none, none, none, none] [.int t0] σ := by
  have h := hm.bd
  unfold fX6_sending_130 at hf
  obtain ⟨rfl, rfl⟩ := Prod.mk.inj (Option.some.inj hf)
  exact hm.iret (by decide +kernel)
def fX6_sending_191 (t0 : Int32) (σ : ST) : Option (Int32 × ST) :=
  some (t0, σ)
set_option maxHeartbeats 4000000 in
theorem wX6_sending_191 {l : Launch} {V : Nat → List (Option Value) → List Value → ST → Prop} {r : Int32} {τ : ST} {σ : ST} {t0 : Int32} (hm : BM l 6 cX6_sending 8 (some .int) 1 21 (some (.int r)) τ V) (hf : fX6_sending_191 t0 σ = some (r, τ)) : V 191 [none, none, none, none, none, none, none, none] [.int t0] σ := by
  have h := hm.bd
  unfold fX6_sending_191 at hf
  obtain ⟨rfl, rfl⟩ := Prod.mk.inj (Option.some.inj hf)
  exact hm.iret (by decide +kernel)
def fX6_sending_163 (x2 : Int32) (t0 : Int32) (σ : ST) : Option (Int32 × ST) :=
  if t0 = 0 then
    fX6_sending_191 0 σ
  else
    if x2 = 0 then
      fX6_sending_191 ((σ.1 36 0) / 2) σ
    else
      fX6_sending_191 (σ.1 36 0) σ
set_option maxHeartbeats 4000000 in
theorem wX6_sending_163 {l : Launch} {V : Nat → List (Option Value) → List Value → ST → Prop} {r : Int32} {τ : ST} {σ : ST} {x2 : Int32} {t0 : Int32} (hm : BM l 6 cX6_sending 8 (some .int) 1 21 (some (.int r)) τ V) (hf : fX6_sending_163 x2 t0 σ = some (r, τ)) : V 163 [some (.ref 36), none, some (.int x2), none, none, none, none, none] [.int t0] σ := by
  have h := hm.bd
  unfold fX6_sending_163 at hf
  refine h.run (o := []) (ls' := [some (.ref 36), none, some (.int x2), none, none, none, none, some (.int t0)]) (st' := [.int t0]) (σ' := σ) [(.istore 7, 2, 0, 0, 0, 0), (.iload 7, 2, 0, 0, 0, 0)] (pc2 := 167) (by decide +kernel) rfl trivial ?_
  refine h.if_ne (tgt := 174) (show decode cX6_sending 167 = .ok (.ifCond .ne 7, 3) by decide +kernel) (by decide) (fun c2 => ?_) (fun c2 => ?_)
  · rw [if_neg c2] at hf
    refine h.run (o := []) (ls' := [some (.ref 36), none, some (.int x2), none, none, none, none, some (.int t0)]) (st' := [.int x2]) (σ' := σ) [(.iload_n 2, 1, 0, 0, 0, 0)] (pc2 := 175) (by decide +kernel) rfl trivial ?_
    refine h.if_eq (tgt := 185) (show decode cX6_sending 175 = .ok (.ifCond .eq 10, 3) by decide +kernel) (by decide) (fun c1 => ?_) (fun c1 => ?_)
    · rw [if_pos c1] at hf
      refine h.run (o := [kd 36 = 6, ¬ 2 = 0]) (ls' := [some (.ref 36), none, some (.int x2), none, none, none, none, some (.int t0)]) (st' := [.int ((σ.1 36 0) / 2)]) (σ' := σ) [(.aload_n 0, 1, 0, 0, 0, 0), (.getfield 7, 3, 0, 0, 6, 0), (.iconst 2, 1, 2, 0, 0, 0), (.idiv, 1, 0, 0, 0, 0)] (pc2 := 191) (by decide +kernel) rfl (And.intro kd_36 (And.intro (by decide) trivial)) ?_
      refine h.drop (ls' := [none, none, none, none, none, none, none, none]) trivial ?_
      exact wX6_sending_191 hm hf
    · rw [if_neg c1] at hf
      show V 178 [some (.ref 36), none, some (.int x2), none, none, none, none, some (.int t0)] [] σ
      refine h.run (o := [kd 36 = 6]) (ls' := [some (.ref 36), none, some (.int x2), none, none, none, none, some (.int t0)]) (st' := [.int (σ.1 36 0)]) (σ' := σ) [(.aload_n 0, 1, 0, 0, 0, 0), (.getfield 7, 3, 0, 0, 6, 0), (.goto 9, 3, 0, 0, 0, 191)] (pc2 := 191) (by decide +kernel) rfl (And.intro kd_36 trivial) ?_
      refine h.drop (ls' := [none, none, none, none, none, none, none, none]) trivial ?_
      exact wX6_sending_191 hm hf
  · rw [if_pos c2] at hf
    show V 170 [some (.ref 36), none, some (.int x2), none, none, none, none, some (.int t0)] [] σ
    refine h.run (o := []) (ls' := [some (.ref 36), none, some (.int x2), none, none, none, none, some (.int t0)]) (st' := [.int 0]) (σ' := σ) [(.iconst 0, 1, 0, 0, 0, 0), (.goto 20, 3, 0, 0, 0, 191)] (pc2 := 191) (by decide +kernel) rfl trivial ?_
    refine h.drop (ls' := [none, none, none, none, none, none, none, none]) trivial ?_
    exact wX6_sending_191 hm hf
def fX6_sending (x1 : Int32) (x2 : Int32) (x3 : Int32) (x4 : Int32) (x5 : Int32) (σ : ST) : Option (Int32 × ST) :=
  gd (inb x1 (alen 38)) <|
  gd (inb x1 (alen 37)) <|
  if (σ.1 37 x1.toNatClampNeg) = 1 then
    gd (inb x1 (alen 39)) <|
    bR (fX6_reckoned (σ.1 39 x1.toNatClampNeg) σ) fun a4 =>
    some (a4, σ)
  else
    if (σ.1 37 x1.toNatClampNeg) = 2 then
      bR (fX6_atMost ((σ.1 38 x1.toNatClampNeg) / 2) σ) fun a6 =>
      some (a6, σ)
    else
      if (σ.1 37 x1.toNatClampNeg) = 3 then
        if 0 ≤ x5 then
          bR (fX6_atMost x5 σ) fun a8 =>
          fX6_sending_91 a8 σ
        else
          fX6_sending_91 1 σ
      else
        if (σ.1 37 x1.toNatClampNeg) = 4 then
          if 0 ≤ x3 then
            fX6_sending_107 x3 σ
          else
            gd (inb x1 (alen 39)) <|
            fX6_sending_107 (σ.1 39 x1.toNatClampNeg) σ
        else
          if (σ.1 37 x1.toNatClampNeg) = 5 then
            bI (fX6_draw σ) fun a14 σ14 =>
            if (5 * (σ.1 38 x1.toNatClampNeg)) ≤ a14 then
              fX6_sending_130 0 σ14
            else
              fX6_sending_130 (σ14.1 36 0) σ14
          else
            if (σ.1 37 x1.toNatClampNeg) = 6 then
              gd (inb x1 (alen 39)) <|
              bR (fX6_reckoned (((σ.1 39 x1.toNatClampNeg) + x4) / 2) σ) fun a18 =>
              some (a18, σ)
            else
              if (σ.1 37 x1.toNatClampNeg) = 7 then
                bI (fX6_draw σ) fun a20 σ20 =>
                if (5 * (σ.1 38 x1.toNatClampNeg)) ≤ a20 then
                  fX6_sending_163 x2 0 σ20
                else
                  fX6_sending_163 x2 1 σ20
              else
                bR (fX6_atMost (σ.1 38 x1.toNatClampNeg) σ) fun a23 =>
                some (a23, σ)
set_option maxHeartbeats 4000000 in
theorem kmX6_sending (l : Launch) {x1 : Int32} {x2 : Int32} {x3 : Int32} {x4 : Int32} {x5 : Int32} {σ : ST} {r : Int32} {τ : ST} (hf : fX6_sending x1 x2 x3 x4 x5 σ = some (r, τ)) : KM l yX6_sending cX6_sending 8 (some .int) 1 21 [.ref 36, .int x1, .int x2, .int x3, .int x4, .int x5] σ (some (.int r)) τ := by
  refine KM.intro (ow := 6) (by decide +kernel) rfl (Nat.le_of_ble_eq_true rfl) (fun V hm => ?_)
  show V 0 [some (.ref 36), some (.int x1), some (.int x2), some (.int x3), some (.int x4), some (.int x5), none, none] [] σ
  have h := hm.bd
  unfold fX6_sending at hf
  obtain ⟨g1, hf⟩ := gd_some hf
  obtain ⟨g2, hf⟩ := gd_some hf
  refine h.run (o := [kd 36 = 6, kd 38 = 10, inb x1 (alen 38) = true, kd 36 = 6, kd 37 = 10, inb x1 (alen 37) = true]) (ls' := [some (.ref 36), some (.int x1), some (.int x2), some (.int x3), some (.int x4), some (.int x5), some (.int (σ.1 38 x1.toNatClampNeg)), none]) (st' := [.int (σ.1 37 x1.toNatClampNeg)]) (σ' := σ) [(.aload_n 0, 1, 0, 0, 0, 0), (.getfield 23, 3, 0, 0, 6, 5), (.iload_n 1, 1, 0, 0, 0, 0), (.iaload, 1, 0, 0, 0, 0), (.istore 6, 2, 0, 0, 0, 0), (.aload_n 0, 1, 0, 0, 0, 0), (.getfield 19, 3, 0, 0, 6, 4), (.iload_n 1, 1, 0, 0, 0, 0), (.iaload, 1, 0, 0, 0, 0)] (pc2 := 14) (by decide +kernel) rfl (And.intro kd_36 (And.intro kd_38 (And.intro g1 (And.intro kd_36 (And.intro kd_37 (And.intro g2 trivial)))))) ?_
  by_cases c5 : (σ.1 37 x1.toNatClampNeg) = 1
  · rw [if_pos c5] at hf
    refine h.tableIn (off := 42) (tgt := 56) (show decode cX6_sending 14 = .ok (.tableswitch 178 1 7 #[42, 53, 62, 78, 97, 117, 133], 42) by decide +kernel) (by rw [c5]; decide) (by rw [c5]; decide) (by rw [c5]; decide) (by decide) ?_
    obtain ⟨g3, hf⟩ := gd_some hf
    refine h.run (o := [kd 36 = 6, kd 39 = 10, inb x1 (alen 39) = true]) (ls' := [some (.ref 36), some (.int x1), some (.int x2), some (.int x3), some (.int x4), some (.int x5), some (.int (σ.1 38 x1.toNatClampNeg)), none]) (st' := [.int (σ.1 39 x1.toNatClampNeg), .ref 36]) (σ' := σ) [(.aload_n 0, 1, 0, 0, 0, 0), (.aload_n 0, 1, 0, 0, 0, 0), (.getfield 26, 3, 0, 0, 6, 6), (.iload_n 1, 1, 0, 0, 0, 0), (.iaload, 1, 0, 0, 0, 0)] (pc2 := 63) (by decide +kernel) rfl (And.intro kd_36 (And.intro kd_39 (And.intro g3 trivial))) ?_
    obtain ⟨a4, e4, hf⟩ := bR_some hf
    refine h.callV (as := [.int (σ.1 39 x1.toNatClampNeg)]) (rest := []) (by decide +kernel) lk6_197 cwX6_reckoned kd_36 (kmX6_reckoned l e4) rfl (Nat.le_of_ble_eq_true rfl) (Nat.le_of_ble_eq_true rfl) (Nat.le_of_ble_eq_true rfl) ?_
    show V 66 [some (.ref 36), some (.int x1), some (.int x2), some (.int x3), some (.int x4), some (.int x5), some (.int (σ.1 38 x1.toNatClampNeg)), none] [.int a4] σ
    obtain ⟨rfl, rfl⟩ := Prod.mk.inj (Option.some.inj hf)
    exact hm.iret (by decide +kernel)
  · rw [if_neg c5] at hf
    by_cases c7 : (σ.1 37 x1.toNatClampNeg) = 2
    · rw [if_pos c7] at hf
      refine h.tableIn (off := 53) (tgt := 67) (show decode cX6_sending 14 = .ok (.tableswitch 178 1 7 #[42, 53, 62, 78, 97, 117, 133], 42) by decide +kernel) (by rw [c7]; decide) (by rw [c7]; decide) (by rw [c7]; decide) (by decide) ?_
      refine h.run (o := [¬ 2 = 0]) (ls' := [some (.ref 36), some (.int x1), some (.int x2), some (.int x3), some (.int x4), some (.int x5), some (.int (σ.1 38 x1.toNatClampNeg)), none]) (st' := [.int ((σ.1 38 x1.toNatClampNeg) / 2), .ref 36]) (σ' := σ) [(.aload_n 0, 1, 0, 0, 0, 0), (.iload 6, 2, 0, 0, 0, 0), (.iconst 2, 1, 2, 0, 0, 0), (.idiv, 1, 0, 0, 0, 0)] (pc2 := 72) (by decide +kernel) rfl (And.intro (by decide) trivial) ?_
      obtain ⟨a6, e6, hf⟩ := bR_some hf
      refine h.callV (as := [.int ((σ.1 38 x1.toNatClampNeg) / 2)]) (rest := []) (by decide +kernel) lk6_200 cwX6_atMost kd_36 (kmX6_atMost l e6) rfl (Nat.le_of_ble_eq_true rfl) (Nat.le_of_ble_eq_true rfl) (Nat.le_of_ble_eq_true rfl) ?_
      show V 75 [some (.ref 36), some (.int x1), some (.int x2), some (.int x3), some (.int x4), some (.int x5), some (.int (σ.1 38 x1.toNatClampNeg)), none] [.int a6] σ
      obtain ⟨rfl, rfl⟩ := Prod.mk.inj (Option.some.inj hf)
      exact hm.iret (by decide +kernel)
    · rw [if_neg c7] at hf
      by_cases c10 : (σ.1 37 x1.toNatClampNeg) = 3
      · rw [if_pos c10] at hf
        refine h.tableIn (off := 62) (tgt := 76) (show decode cX6_sending 14 = .ok (.tableswitch 178 1 7 #[42, 53, 62, 78, 97, 117, 133], 42) by decide +kernel) (by rw [c10]; decide) (by rw [c10]; decide) (by rw [c10]; decide) (by decide) ?_
        refine h.run (o := []) (ls' := [some (.ref 36), some (.int x1), some (.int x2), some (.int x3), some (.int x4), some (.int x5), some (.int (σ.1 38 x1.toNatClampNeg)), none]) (st' := [.int x5]) (σ' := σ) [(.iload 5, 2, 0, 0, 0, 0)] (pc2 := 78) (by decide +kernel) rfl trivial ?_
        refine h.if_ge (tgt := 85) (show decode cX6_sending 78 = .ok (.ifCond .ge 7, 3) by decide +kernel) (by decide) (fun c9 => ?_) (fun c9 => ?_)
        · rw [if_pos c9] at hf
          refine h.run (o := []) (ls' := [some (.ref 36), some (.int x1), some (.int x2), some (.int x3), some (.int x4), some (.int x5), some (.int (σ.1 38 x1.toNatClampNeg)), none]) (st' := [.int x5, .ref 36]) (σ' := σ) [(.aload_n 0, 1, 0, 0, 0, 0), (.iload 5, 2, 0, 0, 0, 0)] (pc2 := 88) (by decide +kernel) rfl trivial ?_
          obtain ⟨a8, e8, hf⟩ := bR_some hf
          refine h.callV (as := [.int x5]) (rest := []) (by decide +kernel) lk6_200 cwX6_atMost kd_36 (kmX6_atMost l e8) rfl (Nat.le_of_ble_eq_true rfl) (Nat.le_of_ble_eq_true rfl) (Nat.le_of_ble_eq_true rfl) ?_
          show V 91 [some (.ref 36), some (.int x1), some (.int x2), some (.int x3), some (.int x4), some (.int x5), some (.int (σ.1 38 x1.toNatClampNeg)), none] [.int a8] σ
          refine h.drop (ls' := [none, none, none, none, none, none, none, none]) trivial ?_
          exact wX6_sending_91 hm hf
        · rw [if_neg c9] at hf
          show V 81 [some (.ref 36), some (.int x1), some (.int x2), some (.int x3), some (.int x4), some (.int x5), some (.int (σ.1 38 x1.toNatClampNeg)), none] [] σ
          refine h.run (o := []) (ls' := [some (.ref 36), some (.int x1), some (.int x2), some (.int x3), some (.int x4), some (.int x5), some (.int (σ.1 38 x1.toNatClampNeg)), none]) (st' := [.int 1]) (σ' := σ) [(.iconst 1, 1, 1, 0, 0, 0), (.goto 9, 3, 0, 0, 0, 91)] (pc2 := 91) (by decide +kernel) rfl trivial ?_
          refine h.drop (ls' := [none, none, none, none, none, none, none, none]) trivial ?_
          exact wX6_sending_91 hm hf
      · rw [if_neg c10] at hf
        by_cases c13 : (σ.1 37 x1.toNatClampNeg) = 4
        · rw [if_pos c13] at hf
          refine h.tableIn (off := 78) (tgt := 92) (show decode cX6_sending 14 = .ok (.tableswitch 178 1 7 #[42, 53, 62, 78, 97, 117, 133], 42) by decide +kernel) (by rw [c13]; decide) (by rw [c13]; decide) (by rw [c13]; decide) (by decide) ?_
          refine h.run (o := []) (ls' := [some (.ref 36), some (.int x1), some (.int x2), some (.int x3), some (.int x4), some (.int x5), some (.int (σ.1 38 x1.toNatClampNeg)), none]) (st' := [.int x3, .ref 36]) (σ' := σ) [(.aload_n 0, 1, 0, 0, 0, 0), (.iload_n 3, 1, 0, 0, 0, 0)] (pc2 := 94) (by decide +kernel) rfl trivial ?_
          refine h.if_ge (tgt := 106) (show decode cX6_sending 94 = .ok (.ifCond .ge 12, 3) by decide +kernel) (by decide) (fun c12 => ?_) (fun c12 => ?_)
          · rw [if_pos c12] at hf
            refine h.run (o := []) (ls' := [some (.ref 36), some (.int x1), some (.int x2), some (.int x3), some (.int x4), some (.int x5), some (.int (σ.1 38 x1.toNatClampNeg)), none]) (st' := [.int x3, .ref 36]) (σ' := σ) [(.iload_n 3, 1, 0, 0, 0, 0)] (pc2 := 107) (by decide +kernel) rfl trivial ?_
            refine h.drop (ls' := [none, none, none, none, none, none, none, none]) trivial ?_
            exact wX6_sending_107 hm hf
          · rw [if_neg c12] at hf
            show V 97 [some (.ref 36), some (.int x1), some (.int x2), some (.int x3), some (.int x4), some (.int x5), some (.int (σ.1 38 x1.toNatClampNeg)), none] [.ref 36] σ
            obtain ⟨g11, hf⟩ := gd_some hf
            refine h.run (o := [kd 36 = 6, kd 39 = 10, inb x1 (alen 39) = true]) (ls' := [some (.ref 36), some (.int x1), some (.int x2), some (.int x3), some (.int x4), some (.int x5), some (.int (σ.1 38 x1.toNatClampNeg)), none]) (st' := [.int (σ.1 39 x1.toNatClampNeg), .ref 36]) (σ' := σ) [(.aload_n 0, 1, 0, 0, 0, 0), (.getfield 26, 3, 0, 0, 6, 6), (.iload_n 1, 1, 0, 0, 0, 0), (.iaload, 1, 0, 0, 0, 0), (.goto 4, 3, 0, 0, 0, 107)] (pc2 := 107) (by decide +kernel) rfl (And.intro kd_36 (And.intro kd_39 (And.intro g11 trivial))) ?_
            refine h.drop (ls' := [none, none, none, none, none, none, none, none]) trivial ?_
            exact wX6_sending_107 hm hf
        · rw [if_neg c13] at hf
          by_cases c16 : (σ.1 37 x1.toNatClampNeg) = 5
          · rw [if_pos c16] at hf
            refine h.tableIn (off := 97) (tgt := 111) (show decode cX6_sending 14 = .ok (.tableswitch 178 1 7 #[42, 53, 62, 78, 97, 117, 133], 42) by decide +kernel) (by rw [c16]; decide) (by rw [c16]; decide) (by rw [c16]; decide) (by decide) ?_
            refine h.run (o := []) (ls' := [some (.ref 36), some (.int x1), some (.int x2), some (.int x3), some (.int x4), some (.int x5), some (.int (σ.1 38 x1.toNatClampNeg)), none]) (st' := [.ref 36]) (σ' := σ) [(.aload_n 0, 1, 0, 0, 0, 0)] (pc2 := 112) (by decide +kernel) rfl trivial ?_
            obtain ⟨a14, σ14, e14, hf⟩ := bI_some hf
            refine h.callV (as := []) (rest := []) (by decide +kernel) lk6_203 cwX6_draw kd_36 (kmX6_draw l e14) rfl (Nat.le_of_ble_eq_true rfl) (Nat.le_of_ble_eq_true rfl) (Nat.le_of_ble_eq_true rfl) ?_
            show V 115 [some (.ref 36), some (.int x1), some (.int x2), some (.int x3), some (.int x4), some (.int x5), some (.int (σ.1 38 x1.toNatClampNeg)), none] [.int a14] σ14
            refine h.run (o := []) (ls' := [some (.ref 36), some (.int x1), some (.int x2), some (.int x3), some (.int x4), some (.int x5), some (.int (σ.1 38 x1.toNatClampNeg)), none]) (st' := [.int (5 * (σ.1 38 x1.toNatClampNeg)), .int a14]) (σ' := σ14) [(.iconst 5, 1, 5, 0, 0, 0), (.iload 6, 2, 0, 0, 0, 0), (.imul, 1, 0, 0, 0, 0)] (pc2 := 119) (by decide +kernel) rfl trivial ?_
            refine h.icmp_ge (tgt := 129) (show decode cX6_sending 119 = .ok (.if_icmp .ge 10, 3) by decide +kernel) (by decide) (fun c15 => ?_) (fun c15 => ?_)
            · rw [if_pos c15] at hf
              refine h.run (o := []) (ls' := [some (.ref 36), some (.int x1), some (.int x2), some (.int x3), some (.int x4), some (.int x5), some (.int (σ.1 38 x1.toNatClampNeg)), none]) (st' := [.int 0]) (σ' := σ14) [(.iconst 0, 1, 0, 0, 0, 0)] (pc2 := 130) (by decide +kernel) rfl trivial ?_
              refine h.drop (ls' := [none, none, none, none, none, none, none, none]) trivial ?_
              exact wX6_sending_130 hm hf
            · rw [if_neg c15] at hf
              show V 122 [some (.ref 36), some (.int x1), some (.int x2), some (.int x3), some (.int x4), some (.int x5), some (.int (σ.1 38 x1.toNatClampNeg)), none] [] σ14
              refine h.run (o := [kd 36 = 6]) (ls' := [some (.ref 36), some (.int x1), some (.int x2), some (.int x3), some (.int x4), some (.int x5), some (.int (σ.1 38 x1.toNatClampNeg)), none]) (st' := [.int (σ14.1 36 0)]) (σ' := σ14) [(.aload_n 0, 1, 0, 0, 0, 0), (.getfield 7, 3, 0, 0, 6, 0), (.goto 4, 3, 0, 0, 0, 130)] (pc2 := 130) (by decide +kernel) rfl (And.intro kd_36 trivial) ?_
              refine h.drop (ls' := [none, none, none, none, none, none, none, none]) trivial ?_
              exact wX6_sending_130 hm hf
          · rw [if_neg c16] at hf
            by_cases c19 : (σ.1 37 x1.toNatClampNeg) = 6
            · rw [if_pos c19] at hf
              refine h.tableIn (off := 117) (tgt := 131) (show decode cX6_sending 14 = .ok (.tableswitch 178 1 7 #[42, 53, 62, 78, 97, 117, 133], 42) by decide +kernel) (by rw [c19]; decide) (by rw [c19]; decide) (by rw [c19]; decide) (by decide) ?_
              obtain ⟨g17, hf⟩ := gd_some hf
              refine h.run (o := [kd 36 = 6, kd 39 = 10, inb x1 (alen 39) = true, ¬ 2 = 0]) (ls' := [some (.ref 36), some (.int x1), some (.int x2), some (.int x3), some (.int x4), some (.int x5), some (.int (σ.1 38 x1.toNatClampNeg)), none]) (st' := [.int (((σ.1 39 x1.toNatClampNeg) + x4) / 2), .ref 36]) (σ' := σ) [(.aload_n 0, 1, 0, 0, 0, 0), (.aload_n 0, 1, 0, 0, 0, 0), (.getfield 26, 3, 0, 0, 6, 6), (.iload_n 1, 1, 0, 0, 0, 0), (.iaload, 1, 0, 0, 0, 0), (.iload 4, 2, 0, 0, 0, 0), (.iadd, 1, 0, 0, 0, 0), (.iconst 2, 1, 2, 0, 0, 0), (.idiv, 1, 0, 0, 0, 0)] (pc2 := 143) (by decide +kernel) rfl (And.intro kd_36 (And.intro kd_39 (And.intro g17 (And.intro (by decide) trivial)))) ?_
              obtain ⟨a18, e18, hf⟩ := bR_some hf
              refine h.callV (as := [.int (((σ.1 39 x1.toNatClampNeg) + x4) / 2)]) (rest := []) (by decide +kernel) lk6_197 cwX6_reckoned kd_36 (kmX6_reckoned l e18) rfl (Nat.le_of_ble_eq_true rfl) (Nat.le_of_ble_eq_true rfl) (Nat.le_of_ble_eq_true rfl) ?_
              show V 146 [some (.ref 36), some (.int x1), some (.int x2), some (.int x3), some (.int x4), some (.int x5), some (.int (σ.1 38 x1.toNatClampNeg)), none] [.int a18] σ
              obtain ⟨rfl, rfl⟩ := Prod.mk.inj (Option.some.inj hf)
              exact hm.iret (by decide +kernel)
            · rw [if_neg c19] at hf
              by_cases c22 : (σ.1 37 x1.toNatClampNeg) = 7
              · rw [if_pos c22] at hf
                refine h.tableIn (off := 133) (tgt := 147) (show decode cX6_sending 14 = .ok (.tableswitch 178 1 7 #[42, 53, 62, 78, 97, 117, 133], 42) by decide +kernel) (by rw [c22]; decide) (by rw [c22]; decide) (by rw [c22]; decide) (by decide) ?_
                refine h.run (o := []) (ls' := [some (.ref 36), some (.int x1), some (.int x2), some (.int x3), some (.int x4), some (.int x5), some (.int (σ.1 38 x1.toNatClampNeg)), none]) (st' := [.ref 36]) (σ' := σ) [(.aload_n 0, 1, 0, 0, 0, 0)] (pc2 := 148) (by decide +kernel) rfl trivial ?_
                obtain ⟨a20, σ20, e20, hf⟩ := bI_some hf
                refine h.callV (as := []) (rest := []) (by decide +kernel) lk6_203 cwX6_draw kd_36 (kmX6_draw l e20) rfl (Nat.le_of_ble_eq_true rfl) (Nat.le_of_ble_eq_true rfl) (Nat.le_of_ble_eq_true rfl) ?_
                show V 151 [some (.ref 36), some (.int x1), some (.int x2), some (.int x3), some (.int x4), some (.int x5), some (.int (σ.1 38 x1.toNatClampNeg)), none] [.int a20] σ20
                refine h.run (o := []) (ls' := [some (.ref 36), some (.int x1), some (.int x2), some (.int x3), some (.int x4), some (.int x5), some (.int (σ.1 38 x1.toNatClampNeg)), none]) (st' := [.int (5 * (σ.1 38 x1.toNatClampNeg)), .int a20]) (σ' := σ20) [(.iconst 5, 1, 5, 0, 0, 0), (.iload 6, 2, 0, 0, 0, 0), (.imul, 1, 0, 0, 0, 0)] (pc2 := 155) (by decide +kernel) rfl trivial ?_
                refine h.icmp_ge (tgt := 162) (show decode cX6_sending 155 = .ok (.if_icmp .ge 7, 3) by decide +kernel) (by decide) (fun c21 => ?_) (fun c21 => ?_)
                · rw [if_pos c21] at hf
                  refine h.run (o := []) (ls' := [some (.ref 36), some (.int x1), some (.int x2), some (.int x3), some (.int x4), some (.int x5), some (.int (σ.1 38 x1.toNatClampNeg)), none]) (st' := [.int 0]) (σ' := σ20) [(.iconst 0, 1, 0, 0, 0, 0)] (pc2 := 163) (by decide +kernel) rfl trivial ?_
                  refine h.drop (ls' := [some (.ref 36), none, some (.int x2), none, none, none, none, none]) (And.intro rfl (And.intro rfl trivial)) ?_
                  exact wX6_sending_163 hm hf
                · rw [if_neg c21] at hf
                  show V 158 [some (.ref 36), some (.int x1), some (.int x2), some (.int x3), some (.int x4), some (.int x5), some (.int (σ.1 38 x1.toNatClampNeg)), none] [] σ20
                  refine h.run (o := []) (ls' := [some (.ref 36), some (.int x1), some (.int x2), some (.int x3), some (.int x4), some (.int x5), some (.int (σ.1 38 x1.toNatClampNeg)), none]) (st' := [.int 1]) (σ' := σ20) [(.iconst 1, 1, 1, 0, 0, 0), (.goto 4, 3, 0, 0, 0, 163)] (pc2 := 163) (by decide +kernel) rfl trivial ?_
                  refine h.drop (ls' := [some (.ref 36), none, some (.int x2), none, none, none, none, none]) (And.intro rfl (And.intro rfl trivial)) ?_
                  exact wX6_sending_163 hm hf
              · rw [if_neg c22] at hf
                refine h.tableOut (tgt := 192) (show decode cX6_sending 14 = .ok (.tableswitch 178 1 7 #[42, 53, 62, 78, 97, 117, 133], 42) by decide +kernel) (sw_out (fun i hl hh => ?_)) (by decide) ?_
                · rcases (show i = 1 ∨ i = 2 ∨ i = 3 ∨ i = 4 ∨ i = 5 ∨ i = 6 ∨ i = 7 by omega) with rfl | rfl | rfl | rfl | rfl | rfl | rfl
                  · exact sw_ne c5 (by decide)
                  · exact sw_ne c7 (by decide)
                  · exact sw_ne c10 (by decide)
                  · exact sw_ne c13 (by decide)
                  · exact sw_ne c16 (by decide)
                  · exact sw_ne c19 (by decide)
                  · exact sw_ne c22 (by decide)
                · refine h.run (o := []) (ls' := [some (.ref 36), some (.int x1), some (.int x2), some (.int x3), some (.int x4), some (.int x5), some (.int (σ.1 38 x1.toNatClampNeg)), none]) (st' := [.int (σ.1 38 x1.toNatClampNeg), .ref 36]) (σ' := σ) [(.aload_n 0, 1, 0, 0, 0, 0), (.iload 6, 2, 0, 0, 0, 0)] (pc2 := 195) (by decide +kernel) rfl trivial ?_
                  obtain ⟨a23, e23, hf⟩ := bR_some hf
                  refine h.callV (as := [.int (σ.1 38 x1.toNatClampNeg)]) (rest := []) (by decide +kernel) lk6_200 cwX6_atMost kd_36 (kmX6_atMost l e23) rfl (Nat.le_of_ble_eq_true rfl) (Nat.le_of_ble_eq_true rfl) (Nat.le_of_ble_eq_true rfl) ?_
                  show V 198 [some (.ref 36), some (.int x1), some (.int x2), some (.int x3), some (.int x4), some (.int x5), some (.int (σ.1 38 x1.toNatClampNeg)), none] [.int a23] σ
                  obtain ⟨rfl, rfl⟩ := Prod.mk.inj (Option.some.inj hf)
                  exact hm.iret (by decide +kernel)
def fX6_sendingTo_17 (x1 : Int32) (x2 : Int32) (t1 : Int32) (t2 : Int32) (σ : ST) : Option (Int32 × ST) :=
  bR (fX6_nameOf x2 σ) fun a1 =>
  gd (inb x2 (alen 44)) <|
  gd (inb ((8 * x1) + x2) (alen 47)) <|
  bI (fX6_sending t1 t2 a1 (σ.1 44 x2.toNatClampNeg) (σ.1 47 (((8 * x1) + x2).toNatClampNeg)) σ) fun a4 σ4 =>
  some (a4, σ4)
set_option maxHeartbeats 4000000 in
theorem wX6_sendingTo_17 {l : Launch} {V : Nat → List (Option Value) → List Value → ST → Prop} {r : Int32} {τ : ST} {σ : ST} {x1 : Int32} {x2 : Int32} {t1 : Int32} {t2 : Int32} (hm : BM l 6 cX6_sendingTo 3 (some .int) 2 48 (some (.int r)) τ V) (hf : fX6_sendingTo_17 x1 x2 t1 t2 σ = some (r, τ)) : V 17 [some (.ref 36), some (.int x1), some (.int x2)] [.int t2, .int t1, .ref 36] σ := by
  have h := hm.bd
  unfold fX6_sendingTo_17 at hf
  refine h.run (o := []) (ls' := [some (.ref 36), some (.int x1), some (.int x2)]) (st' := [.int x2, .ref 36, .int t2, .int t1, .ref 36]) (σ' := σ) [(.aload_n 0, 1, 0, 0, 0, 0), (.iload_n 2, 1, 0, 0, 0, 0)] (pc2 := 19) (by decide +kernel) rfl trivial ?_
  obtain ⟨a1, e1, hf⟩ := bR_some hf
  refine h.callV (as := [.int x2]) (rest := [.int t2, .int t1, .ref 36]) (by decide +kernel) lk6_191 cwX6_nameOf kd_36 (kmX6_nameOf l e1) rfl (Nat.le_of_ble_eq_true rfl) (Nat.le_of_ble_eq_true rfl) (Nat.le_of_ble_eq_true rfl) ?_
  show V 22 [some (.ref 36), some (.int x1), some (.int x2)] [.int a1, .int t2, .int t1, .ref 36] σ
  obtain ⟨g2, hf⟩ := gd_some hf
  obtain ⟨g3, hf⟩ := gd_some hf
  refine h.run (o := [kd 36 = 6, kd 44 = 10, inb x2 (alen 44) = true, kd 36 = 6, kd 47 = 10, inb ((8 * x1) + x2) (alen 47) = true]) (ls' := [some (.ref 36), some (.int x1), some (.int x2)]) (st' := [.int (σ.1 47 (((8 * x1) + x2).toNatClampNeg)), .int (σ.1 44 x2.toNatClampNeg), .int a1, .int t2, .int t1, .ref 36]) (σ' := σ) [(.aload_n 0, 1, 0, 0, 0, 0), (.getfield 41, 3, 0, 0, 6, 12), (.iload_n 2, 1, 0, 0, 0, 0), (.iaload, 1, 0, 0, 0, 0), (.aload_n 0, 1, 0, 0, 0, 0), (.getfield 50, 3, 0, 0, 6, 15), (.bipush 8, 2, 8, 0, 0, 0), (.iload_n 1, 1, 0, 0, 0, 0), (.imul, 1, 0, 0, 0, 0), (.iload_n 2, 1, 0, 0, 0, 0), (.iadd, 1, 0, 0, 0, 0), (.iaload, 1, 0, 0, 0, 0)] (pc2 := 39) (by decide +kernel) rfl (And.intro kd_36 (And.intro kd_44 (And.intro g2 (And.intro kd_36 (And.intro kd_47 (And.intro g3 trivial)))))) ?_
  obtain ⟨a4, σ4, e4, hf⟩ := bI_some hf
  refine h.callV (as := [.int t1, .int t2, .int a1, .int (σ.1 44 x2.toNatClampNeg), .int (σ.1 47 (((8 * x1) + x2).toNatClampNeg))]) (rest := []) (by decide +kernel) lk6_206 cwX6_sending kd_36 (kmX6_sending l e4) rfl (Nat.le_of_ble_eq_true rfl) (Nat.le_of_ble_eq_true rfl) (Nat.le_of_ble_eq_true rfl) ?_
  show V 42 [some (.ref 36), some (.int x1), some (.int x2)] [.int a4] σ4
  obtain ⟨rfl, rfl⟩ := Prod.mk.inj (Option.some.inj hf)
  exact hm.iret (by decide +kernel)
def fX6_sendingTo (x1 : Int32) (x2 : Int32) (σ : ST) : Option (Int32 × ST) :=
  gd (inb x2 (alen 40)) <|
  if (σ.1 40 x2.toNatClampNeg) = 1 then
    fX6_sendingTo_17 x1 x2 x1 1 σ
  else
    fX6_sendingTo_17 x1 x2 x1 0 σ
set_option maxHeartbeats 4000000 in
theorem kmX6_sendingTo (l : Launch) {x1 : Int32} {x2 : Int32} {σ : ST} {r : Int32} {τ : ST} (hf : fX6_sendingTo x1 x2 σ = some (r, τ)) : KM l yX6_sendingTo cX6_sendingTo 3 (some .int) 2 48 [.ref 36, .int x1, .int x2] σ (some (.int r)) τ := by
  refine KM.intro (ow := 6) (by decide +kernel) rfl (Nat.le_of_ble_eq_true rfl) (fun V hm => ?_)
  show V 0 [some (.ref 36), some (.int x1), some (.int x2)] [] σ
  have h := hm.bd
  unfold fX6_sendingTo at hf
  obtain ⟨g1, hf⟩ := gd_some hf
  refine h.run (o := [kd 36 = 6, kd 40 = 10, inb x2 (alen 40) = true]) (ls' := [some (.ref 36), some (.int x1), some (.int x2)]) (st' := [.int 1, .int (σ.1 40 x2.toNatClampNeg), .int x1, .ref 36]) (σ' := σ) [(.aload_n 0, 1, 0, 0, 0, 0), (.iload_n 1, 1, 0, 0, 0, 0), (.aload_n 0, 1, 0, 0, 0, 0), (.getfield 29, 3, 0, 0, 6, 8), (.iload_n 2, 1, 0, 0, 0, 0), (.iaload, 1, 0, 0, 0, 0), (.iconst 1, 1, 1, 0, 0, 0)] (pc2 := 9) (by decide +kernel) rfl (And.intro kd_36 (And.intro kd_40 (And.intro g1 trivial))) ?_
  refine h.icmp_ne (tgt := 16) (show decode cX6_sendingTo 9 = .ok (.if_icmp .ne 7, 3) by decide +kernel) (by decide) (fun c2 => ?_) (fun c2 => ?_)
  · rw [if_neg c2] at hf
    refine h.run (o := []) (ls' := [some (.ref 36), some (.int x1), some (.int x2)]) (st' := [.int 0, .int x1, .ref 36]) (σ' := σ) [(.iconst 0, 1, 0, 0, 0, 0)] (pc2 := 17) (by decide +kernel) rfl trivial ?_
    exact wX6_sendingTo_17 hm hf
  · rw [if_pos c2] at hf
    show V 12 [some (.ref 36), some (.int x1), some (.int x2)] [.int x1, .ref 36] σ
    refine h.run (o := []) (ls' := [some (.ref 36), some (.int x1), some (.int x2)]) (st' := [.int 1, .int x1, .ref 36]) (σ' := σ) [(.iconst 1, 1, 1, 0, 0, 0), (.goto 4, 3, 0, 0, 0, 17)] (pc2 := 17) (by decide +kernel) rfl trivial ?_
    exact wX6_sendingTo_17 hm hf
def fX6_backOf_14 (σ : ST) : Option (Int32 × ST) :=
  some (0, σ)
set_option maxHeartbeats 4000000 in
theorem wX6_backOf_14 {l : Launch} {V : Nat → List (Option Value) → List Value → ST → Prop} {r : Int32} {τ : ST} {σ : ST} (hm : BM l 6 cX6_backOf 6 (some .int) 1 20 (some (.int r)) τ V) (hf : fX6_backOf_14 σ = some (r, τ)) : V 14 [none, none, none, none, none, none] [] σ := by
  have h := hm.bd
  unfold fX6_backOf_14 at hf
  refine h.run (o := []) (ls' := [none, none, none, none, none, none]) (st' := [.int 0]) (σ' := σ) [(.iconst 0, 1, 0, 0, 0, 0)] (pc2 := 15) (by decide +kernel) rfl trivial ?_
  obtain ⟨rfl, rfl⟩ := Prod.mk.inj (Option.some.inj hf)
  exact hm.iret (by decide +kernel)
def fX6_backOf_74 (t0 : Int32) (t1 : Int32) (σ : ST) : Option (Int32 × ST) :=
  some ((t0 * t1) / 100, σ)
set_option maxHeartbeats 4000000 in
theorem wX6_backOf_74 {l : Launch} {V : Nat → List (Option Value) → List Value → ST → Prop} {r : Int32} {τ : ST} {σ : ST} {t0 : Int32} {t1 : Int32} (hm : BM l 6 cX6_backOf 6 (some .int) 1 20 (some (.int r)) τ V) (hf : fX6_backOf_74 t0 t1 σ = some (r, τ)) : V 74 [none, none, none, none, none, none] [.int t1, .int t0] σ := by
  have h := hm.bd
  unfold fX6_backOf_74 at hf
  refine h.run (o := [¬ 100 = 0]) (ls' := [none, none, none, none, none, none]) (st' := [.int ((t0 * t1) / 100)]) (σ' := σ) [(.imul, 1, 0, 0, 0, 0), (.bipush 100, 2, 100, 0, 0, 0), (.idiv, 1, 0, 0, 0, 0)] (pc2 := 78) (by decide +kernel) rfl (And.intro (by decide) trivial) ?_
  obtain ⟨rfl, rfl⟩ := Prod.mk.inj (Option.some.inj hf)
  exact hm.iret (by decide +kernel)
def fX6_backOf_56 (x2 : Int32) (t0 : Int32) (t1 : Int32) (σ : ST) : Option (Int32 × ST) :=
  if (t0 + t1) ≤ 100 then
    fX6_backOf_74 x2 (t0 + t1) σ
  else
    fX6_backOf_74 x2 100 σ
set_option maxHeartbeats 4000000 in
theorem wX6_backOf_56 {l : Launch} {V : Nat → List (Option Value) → List Value → ST → Prop} {r : Int32} {τ : ST} {σ : ST} {x2 : Int32} {t0 : Int32} {t1 : Int32} (hm : BM l 6 cX6_backOf 6 (some .int) 1 20 (some (.int r)) τ V) (hf : fX6_backOf_56 x2 t0 t1 σ = some (r, τ)) : V 56 [none, none, some (.int x2), none, none, none] [.int t1, .int t0] σ := by
  have h := hm.bd
  unfold fX6_backOf_56 at hf
  refine h.run (o := []) (ls' := [none, none, some (.int x2), none, none, some (.int (t0 + t1))]) (st' := [.int 100, .int (t0 + t1), .int x2]) (σ' := σ) [(.iadd, 1, 0, 0, 0, 0), (.istore 5, 2, 0, 0, 0, 0), (.iload_n 2, 1, 0, 0, 0, 0), (.iload 5, 2, 0, 0, 0, 0), (.bipush 100, 2, 100, 0, 0, 0)] (pc2 := 64) (by decide +kernel) rfl trivial ?_
  refine h.icmp_le (tgt := 72) (show decode cX6_backOf 64 = .ok (.if_icmp .le 8, 3) by decide +kernel) (by decide) (fun c1 => ?_) (fun c1 => ?_)
  · rw [if_pos c1] at hf
    refine h.run (o := []) (ls' := [none, none, some (.int x2), none, none, some (.int (t0 + t1))]) (st' := [.int (t0 + t1), .int x2]) (σ' := σ) [(.iload 5, 2, 0, 0, 0, 0)] (pc2 := 74) (by decide +kernel) rfl trivial ?_
    refine h.drop (ls' := [none, none, none, none, none, none]) trivial ?_
    exact wX6_backOf_74 hm hf
  · rw [if_neg c1] at hf
    show V 67 [none, none, some (.int x2), none, none, some (.int (t0 + t1))] [.int x2] σ
    refine h.run (o := []) (ls' := [none, none, some (.int x2), none, none, some (.int (t0 + t1))]) (st' := [.int 100, .int x2]) (σ' := σ) [(.bipush 100, 2, 100, 0, 0, 0), (.goto 5, 3, 0, 0, 0, 74)] (pc2 := 74) (by decide +kernel) rfl trivial ?_
    refine h.drop (ls' := [none, none, none, none, none, none]) trivial ?_
    exact wX6_backOf_74 hm hf
def fX6_backOf_39 (t0 : Int32) (σ : ST) : Option (Int32 × ST) :=
  some (t0, σ)
set_option maxHeartbeats 4000000 in
theorem wX6_backOf_39 {l : Launch} {V : Nat → List (Option Value) → List Value → ST → Prop} {r : Int32} {τ : ST} {σ : ST} {t0 : Int32} (hm : BM l 6 cX6_backOf 6 (some .int) 1 20 (some (.int r)) τ V) (hf : fX6_backOf_39 t0 σ = some (r, τ)) : V 39 [none, none, none, none, none, none] [.int t0] σ := by
  have h := hm.bd
  unfold fX6_backOf_39 at hf
  obtain ⟨rfl, rfl⟩ := Prod.mk.inj (Option.some.inj hf)
  exact hm.iret (by decide +kernel)
def fX6_backOf (x1 : Int32) (x2 : Int32) (x3 : Int32) (x4 : Int32) (σ : ST) : Option (Int32 × ST) :=
  if x2 = 0 then
    fX6_backOf_14 σ
  else
    gd (inb x1 (alen 42)) <|
    if (σ.1 42 x1.toNatClampNeg) ≤ x2 then
      gd (inb x1 (alen 40)) <|
      if (σ.1 40 x1.toNatClampNeg) = 1 then
        bI (fX6_draw σ) fun a5 σ5 =>
        if x3 ≤ a5 then
          fX6_backOf_39 0 σ5
        else
          fX6_backOf_39 x2 σ5
      else
        if x4 = 0 then
          fX6_backOf_56 x2 x3 0 σ
        else
          gd (inb x1 (alen 43)) <|
          fX6_backOf_56 x2 x3 (σ.1 43 x1.toNatClampNeg) σ
    else
      fX6_backOf_14 σ
set_option maxHeartbeats 4000000 in
theorem kmX6_backOf (l : Launch) {x1 : Int32} {x2 : Int32} {x3 : Int32} {x4 : Int32} {σ : ST} {r : Int32} {τ : ST} (hf : fX6_backOf x1 x2 x3 x4 σ = some (r, τ)) : KM l yX6_backOf cX6_backOf 6 (some .int) 1 20 [.ref 36, .int x1, .int x2, .int x3, .int x4] σ (some (.int r)) τ := by
  refine KM.intro (ow := 6) (by decide +kernel) rfl (Nat.le_of_ble_eq_true rfl) (fun V hm => ?_)
  show V 0 [some (.ref 36), some (.int x1), some (.int x2), some (.int x3), some (.int x4), none] [] σ
  have h := hm.bd
  unfold fX6_backOf at hf
  refine h.run (o := []) (ls' := [some (.ref 36), some (.int x1), some (.int x2), some (.int x3), some (.int x4), none]) (st' := [.int x2]) (σ' := σ) [(.iload_n 2, 1, 0, 0, 0, 0)] (pc2 := 1) (by decide +kernel) rfl trivial ?_
  refine h.if_eq (tgt := 14) (show decode cX6_backOf 1 = .ok (.ifCond .eq 13, 3) by decide +kernel) (by decide) (fun c9 => ?_) (fun c9 => ?_)
  · rw [if_pos c9] at hf
    refine h.drop (ls' := [none, none, none, none, none, none]) trivial ?_
    exact wX6_backOf_14 hm hf
  · rw [if_neg c9] at hf
    show V 4 [some (.ref 36), some (.int x1), some (.int x2), some (.int x3), some (.int x4), none] [] σ
    obtain ⟨g1, hf⟩ := gd_some hf
    refine h.run (o := [kd 36 = 6, kd 42 = 10, inb x1 (alen 42) = true]) (ls' := [some (.ref 36), some (.int x1), some (.int x2), some (.int x3), some (.int x4), none]) (st' := [.int (σ.1 42 x1.toNatClampNeg), .int x2]) (σ' := σ) [(.iload_n 2, 1, 0, 0, 0, 0), (.aload_n 0, 1, 0, 0, 0, 0), (.getfield 35, 3, 0, 0, 6, 10), (.iload_n 1, 1, 0, 0, 0, 0), (.iaload, 1, 0, 0, 0, 0)] (pc2 := 11) (by decide +kernel) rfl (And.intro kd_36 (And.intro kd_42 (And.intro g1 trivial))) ?_
    refine h.icmp_ge (tgt := 16) (show decode cX6_backOf 11 = .ok (.if_icmp .ge 5, 3) by decide +kernel) (by decide) (fun c8 => ?_) (fun c8 => ?_)
    · rw [if_pos c8] at hf
      obtain ⟨g2, hf⟩ := gd_some hf
      refine h.run (o := [kd 36 = 6, kd 40 = 10, inb x1 (alen 40) = true]) (ls' := [some (.ref 36), some (.int x1), some (.int x2), some (.int x3), some (.int x4), none]) (st' := [.int 1, .int (σ.1 40 x1.toNatClampNeg)]) (σ' := σ) [(.aload_n 0, 1, 0, 0, 0, 0), (.getfield 29, 3, 0, 0, 6, 8), (.iload_n 1, 1, 0, 0, 0, 0), (.iaload, 1, 0, 0, 0, 0), (.iconst 1, 1, 1, 0, 0, 0)] (pc2 := 23) (by decide +kernel) rfl (And.intro kd_36 (And.intro kd_40 (And.intro g2 trivial))) ?_
      refine h.icmp_ne (tgt := 40) (show decode cX6_backOf 23 = .ok (.if_icmp .ne 17, 3) by decide +kernel) (by decide) (fun c7 => ?_) (fun c7 => ?_)
      · rw [if_neg c7] at hf
        refine h.run (o := []) (ls' := [some (.ref 36), some (.int x1), some (.int x2), some (.int x3), some (.int x4), none]) (st' := [.int x4, .int x3]) (σ' := σ) [(.iload_n 3, 1, 0, 0, 0, 0), (.iload 4, 2, 0, 0, 0, 0)] (pc2 := 43) (by decide +kernel) rfl trivial ?_
        refine h.if_eq (tgt := 55) (show decode cX6_backOf 43 = .ok (.ifCond .eq 12, 3) by decide +kernel) (by decide) (fun c4 => ?_) (fun c4 => ?_)
        · rw [if_pos c4] at hf
          refine h.run (o := []) (ls' := [some (.ref 36), some (.int x1), some (.int x2), some (.int x3), some (.int x4), none]) (st' := [.int 0, .int x3]) (σ' := σ) [(.iconst 0, 1, 0, 0, 0, 0)] (pc2 := 56) (by decide +kernel) rfl trivial ?_
          refine h.drop (ls' := [none, none, some (.int x2), none, none, none]) (And.intro rfl trivial) ?_
          exact wX6_backOf_56 hm hf
        · rw [if_neg c4] at hf
          show V 46 [some (.ref 36), some (.int x1), some (.int x2), some (.int x3), some (.int x4), none] [.int x3] σ
          obtain ⟨g3, hf⟩ := gd_some hf
          refine h.run (o := [kd 36 = 6, kd 43 = 10, inb x1 (alen 43) = true]) (ls' := [some (.ref 36), some (.int x1), some (.int x2), some (.int x3), some (.int x4), none]) (st' := [.int (σ.1 43 x1.toNatClampNeg), .int x3]) (σ' := σ) [(.aload_n 0, 1, 0, 0, 0, 0), (.getfield 38, 3, 0, 0, 6, 11), (.iload_n 1, 1, 0, 0, 0, 0), (.iaload, 1, 0, 0, 0, 0), (.goto 4, 3, 0, 0, 0, 56)] (pc2 := 56) (by decide +kernel) rfl (And.intro kd_36 (And.intro kd_43 (And.intro g3 trivial))) ?_
          refine h.drop (ls' := [none, none, some (.int x2), none, none, none]) (And.intro rfl trivial) ?_
          exact wX6_backOf_56 hm hf
      · rw [if_pos c7] at hf
        show V 26 [some (.ref 36), some (.int x1), some (.int x2), some (.int x3), some (.int x4), none] [] σ
        refine h.run (o := []) (ls' := [some (.ref 36), some (.int x1), some (.int x2), some (.int x3), some (.int x4), none]) (st' := [.ref 36]) (σ' := σ) [(.aload_n 0, 1, 0, 0, 0, 0)] (pc2 := 27) (by decide +kernel) rfl trivial ?_
        obtain ⟨a5, σ5, e5, hf⟩ := bI_some hf
        refine h.callV (as := []) (rest := []) (by decide +kernel) lk6_203 cwX6_draw kd_36 (kmX6_draw l e5) rfl (Nat.le_of_ble_eq_true rfl) (Nat.le_of_ble_eq_true rfl) (Nat.le_of_ble_eq_true rfl) ?_
        show V 30 [some (.ref 36), some (.int x1), some (.int x2), some (.int x3), some (.int x4), none] [.int a5] σ5
        refine h.run (o := []) (ls' := [some (.ref 36), some (.int x1), some (.int x2), some (.int x3), some (.int x4), none]) (st' := [.int x3, .int a5]) (σ' := σ5) [(.iload_n 3, 1, 0, 0, 0, 0)] (pc2 := 31) (by decide +kernel) rfl trivial ?_
        refine h.icmp_ge (tgt := 38) (show decode cX6_backOf 31 = .ok (.if_icmp .ge 7, 3) by decide +kernel) (by decide) (fun c6 => ?_) (fun c6 => ?_)
        · rw [if_pos c6] at hf
          refine h.run (o := []) (ls' := [some (.ref 36), some (.int x1), some (.int x2), some (.int x3), some (.int x4), none]) (st' := [.int 0]) (σ' := σ5) [(.iconst 0, 1, 0, 0, 0, 0)] (pc2 := 39) (by decide +kernel) rfl trivial ?_
          refine h.drop (ls' := [none, none, none, none, none, none]) trivial ?_
          exact wX6_backOf_39 hm hf
        · rw [if_neg c6] at hf
          show V 34 [some (.ref 36), some (.int x1), some (.int x2), some (.int x3), some (.int x4), none] [] σ5
          refine h.run (o := []) (ls' := [some (.ref 36), some (.int x1), some (.int x2), some (.int x3), some (.int x4), none]) (st' := [.int x2]) (σ' := σ5) [(.iload_n 2, 1, 0, 0, 0, 0), (.goto 4, 3, 0, 0, 0, 39)] (pc2 := 39) (by decide +kernel) rfl trivial ?_
          refine h.drop (ls' := [none, none, none, none, none, none]) trivial ?_
          exact wX6_backOf_39 hm hf
    · rw [if_neg c8] at hf
      show V 14 [some (.ref 36), some (.int x1), some (.int x2), some (.int x3), some (.int x4), none] [] σ
      refine h.drop (ls' := [none, none, none, none, none, none]) trivial ?_
      exact wX6_backOf_14 hm hf
def fX6_pass (x1 : Int32) (x2 : Int32) (x3 : Int32) (x4 : Int32) (σ : ST) : Option ST :=
  bI (fX6_sendingTo x1 x2 σ) fun a1 σ1 =>
  bI (fX6_backOf x2 (((setI σ1 36 32 a1).1 36 32) * ((setI σ1 36 32 a1).1 36 1)) x3 x4 (setI σ1 36 32 a1)) fun a2 σ2 =>
  gd (inb x2 (alen 45)) <|
  gd (inb x2 (alen 45)) <|
  gd (inb x2 (alen 46)) <|
  gd (inb x2 (alen 46)) <|
  gd (inb ((8 * x1) + x2) (alen 47)) <|
  some (setI (setI (setI (setI σ2 36 33 a2) 45 (x2.toNatClampNeg) (((setI σ2 36 33 a2).1 45 x2.toNatClampNeg) + (((setI σ1 36 32 a1).1 36 32) * ((setI σ1 36 32 a1).1 36 1)))) 46 (x2.toNatClampNeg) (((setI (setI σ2 36 33 a2) 45 (x2.toNatClampNeg) (((setI σ2 36 33 a2).1 45 x2.toNatClampNeg) + (((setI σ1 36 32 a1).1 36 32) * ((setI σ1 36 32 a1).1 36 1)))).1 46 x2.toNatClampNeg) + ((setI (setI σ2 36 33 a2) 45 (x2.toNatClampNeg) (((setI σ2 36 33 a2).1 45 x2.toNatClampNeg) + (((setI σ1 36 32 a1).1 36 32) * ((setI σ1 36 32 a1).1 36 1)))).1 36 33))) 47 (((8 * x1) + x2).toNatClampNeg) ((setI (setI (setI σ2 36 33 a2) 45 (x2.toNatClampNeg) (((setI σ2 36 33 a2).1 45 x2.toNatClampNeg) + (((setI σ1 36 32 a1).1 36 32) * ((setI σ1 36 32 a1).1 36 1)))) 46 (x2.toNatClampNeg) (((setI (setI σ2 36 33 a2) 45 (x2.toNatClampNeg) (((setI σ2 36 33 a2).1 45 x2.toNatClampNeg) + (((setI σ1 36 32 a1).1 36 32) * ((setI σ1 36 32 a1).1 36 1)))).1 46 x2.toNatClampNeg) + ((setI (setI σ2 36 33 a2) 45 (x2.toNatClampNeg) (((setI σ2 36 33 a2).1 45 x2.toNatClampNeg) + (((setI σ1 36 32 a1).1 36 32) * ((setI σ1 36 32 a1).1 36 1)))).1 36 33))).1 36 33))
set_option maxHeartbeats 4000000 in
theorem kmX6_pass (l : Launch) {x1 : Int32} {x2 : Int32} {x3 : Int32} {x4 : Int32} {σ : ST} {τ : ST} (hf : fX6_pass x1 x2 x3 x4 σ = some τ) : KM l yX6_pass cX6_pass 6 none 3 70 [.ref 36, .int x1, .int x2, .int x3, .int x4] σ none τ := by
  refine KM.intro (ow := 6) (by decide +kernel) rfl (Nat.le_of_ble_eq_true rfl) (fun V hm => ?_)
  show V 0 [some (.ref 36), some (.int x1), some (.int x2), some (.int x3), some (.int x4), none] [] σ
  have h := hm.bd
  unfold fX6_pass at hf
  refine h.run (o := []) (ls' := [some (.ref 36), some (.int x1), some (.int x2), some (.int x3), some (.int x4), none]) (st' := [.int x2, .int x1, .ref 36, .ref 36]) (σ' := σ) [(.aload_n 0, 1, 0, 0, 0, 0), (.aload_n 0, 1, 0, 0, 0, 0), (.iload_n 1, 1, 0, 0, 0, 0), (.iload_n 2, 1, 0, 0, 0, 0)] (pc2 := 4) (by decide +kernel) rfl trivial ?_
  obtain ⟨a1, σ1, e1, hf⟩ := bI_some hf
  refine h.callV (as := [.int x1, .int x2]) (rest := [.ref 36]) (by decide +kernel) lk6_210 cwX6_sendingTo kd_36 (kmX6_sendingTo l e1) rfl (Nat.le_of_ble_eq_true rfl) (Nat.le_of_ble_eq_true rfl) (Nat.le_of_ble_eq_true rfl) ?_
  show V 7 [some (.ref 36), some (.int x1), some (.int x2), some (.int x3), some (.int x4), none] [.int a1, .ref 36] σ1
  refine h.run (o := [kd 36 = 6, kd 36 = 6, kd 36 = 6]) (ls' := [some (.ref 36), some (.int x1), some (.int x2), some (.int x3), some (.int x4), some (.int (((setI σ1 36 32 a1).1 36 32) * ((setI σ1 36 32 a1).1 36 1)))]) (st' := [.int x4, .int x3, .int (((setI σ1 36 32 a1).1 36 32) * ((setI σ1 36 32 a1).1 36 1)), .int x2, .ref 36, .ref 36]) (σ' := setI σ1 36 32 a1) [(.putfield 214, 3, 0, 0, 6, 32), (.aload_n 0, 1, 0, 0, 0, 0), (.getfield 214, 3, 0, 0, 6, 32), (.aload_n 0, 1, 0, 0, 0, 0), (.getfield 13, 3, 0, 0, 6, 1), (.imul, 1, 0, 0, 0, 0), (.istore 5, 2, 0, 0, 0, 0), (.aload_n 0, 1, 0, 0, 0, 0), (.aload_n 0, 1, 0, 0, 0, 0), (.iload_n 2, 1, 0, 0, 0, 0), (.iload 5, 2, 0, 0, 0, 0), (.iload_n 3, 1, 0, 0, 0, 0), (.iload 4, 2, 0, 0, 0, 0)] (pc2 := 29) (by decide +kernel) rfl (And.intro kd_36 (And.intro kd_36 (And.intro kd_36 trivial))) ?_
  obtain ⟨a2, σ2, e2, hf⟩ := bI_some hf
  refine h.callV (as := [.int x2, .int (((setI σ1 36 32 a1).1 36 32) * ((setI σ1 36 32 a1).1 36 1)), .int x3, .int x4]) (rest := [.ref 36]) (by decide +kernel) lk6_217 cwX6_backOf kd_36 (kmX6_backOf l e2) rfl (Nat.le_of_ble_eq_true rfl) (Nat.le_of_ble_eq_true rfl) (Nat.le_of_ble_eq_true rfl) ?_
  show V 32 [some (.ref 36), some (.int x1), some (.int x2), some (.int x3), some (.int x4), some (.int (((setI σ1 36 32 a1).1 36 32) * ((setI σ1 36 32 a1).1 36 1)))] [.int a2, .ref 36] σ2
  obtain ⟨g3, hf⟩ := gd_some hf
  obtain ⟨g4, hf⟩ := gd_some hf
  obtain ⟨g5, hf⟩ := gd_some hf
  obtain ⟨g6, hf⟩ := gd_some hf
  obtain ⟨g7, hf⟩ := gd_some hf
  refine h.run (o := [kd 36 = 6, kd 36 = 6, kd 45 = 10, inb x2 (alen 45) = true, kd 45 = 10, inb x2 (alen 45) = true, kd 36 = 6, kd 46 = 10, inb x2 (alen 46) = true, kd 36 = 6, kd 46 = 10, inb x2 (alen 46) = true, kd 36 = 6, kd 36 = 6, kd 47 = 10, inb ((8 * x1) + x2) (alen 47) = true]) (ls' := [some (.ref 36), some (.int x1), some (.int x2), some (.int x3), some (.int x4), some (.int (((setI σ1 36 32 a1).1 36 32) * ((setI σ1 36 32 a1).1 36 1)))]) (st' := []) (σ' := setI (setI (setI (setI σ2 36 33 a2) 45 (x2.toNatClampNeg) (((setI σ2 36 33 a2).1 45 x2.toNatClampNeg) + (((setI σ1 36 32 a1).1 36 32) * ((setI σ1 36 32 a1).1 36 1)))) 46 (x2.toNatClampNeg) (((setI (setI σ2 36 33 a2) 45 (x2.toNatClampNeg) (((setI σ2 36 33 a2).1 45 x2.toNatClampNeg) + (((setI σ1 36 32 a1).1 36 32) * ((setI σ1 36 32 a1).1 36 1)))).1 46 x2.toNatClampNeg) + ((setI (setI σ2 36 33 a2) 45 (x2.toNatClampNeg) (((setI σ2 36 33 a2).1 45 x2.toNatClampNeg) + (((setI σ1 36 32 a1).1 36 32) * ((setI σ1 36 32 a1).1 36 1)))).1 36 33))) 47 (((8 * x1) + x2).toNatClampNeg) ((setI (setI (setI σ2 36 33 a2) 45 (x2.toNatClampNeg) (((setI σ2 36 33 a2).1 45 x2.toNatClampNeg) + (((setI σ1 36 32 a1).1 36 32) * ((setI σ1 36 32 a1).1 36 1)))) 46 (x2.toNatClampNeg) (((setI (setI σ2 36 33 a2) 45 (x2.toNatClampNeg) (((setI σ2 36 33 a2).1 45 x2.toNatClampNeg) + (((setI σ1 36 32 a1).1 36 32) * ((setI σ1 36 32 a1).1 36 1)))).1 46 x2.toNatClampNeg) + ((setI (setI σ2 36 33 a2) 45 (x2.toNatClampNeg) (((setI σ2 36 33 a2).1 45 x2.toNatClampNeg) + (((setI σ1 36 32 a1).1 36 32) * ((setI σ1 36 32 a1).1 36 1)))).1 36 33))).1 36 33)) [(.putfield 221, 3, 0, 0, 6, 33), (.aload_n 0, 1, 0, 0, 0, 0), (.getfield 44, 3, 0, 0, 6, 13), (.iload_n 2, 1, 0, 0, 0, 0), (.dup2, 1, 0, 0, 0, 0), (.iaload, 1, 0, 0, 0, 0), (.iload 5, 2, 0, 0, 0, 0), (.iadd, 1, 0, 0, 0, 0), (.iastore, 1, 0, 0, 0, 0), (.aload_n 0, 1, 0, 0, 0, 0), (.getfield 47, 3, 0, 0, 6, 14), (.iload_n 2, 1, 0, 0, 0, 0), (.dup2, 1, 0, 0, 0, 0), (.iaload, 1, 0, 0, 0, 0), (.aload_n 0, 1, 0, 0, 0, 0), (.getfield 221, 3, 0, 0, 6, 33), (.iadd, 1, 0, 0, 0, 0), (.iastore, 1, 0, 0, 0, 0), (.aload_n 0, 1, 0, 0, 0, 0), (.getfield 50, 3, 0, 0, 6, 15), (.bipush 8, 2, 8, 0, 0, 0), (.iload_n 1, 1, 0, 0, 0, 0), (.imul, 1, 0, 0, 0, 0), (.iload_n 2, 1, 0, 0, 0, 0), (.iadd, 1, 0, 0, 0, 0), (.aload_n 0, 1, 0, 0, 0, 0), (.getfield 221, 3, 0, 0, 6, 33), (.iastore, 1, 0, 0, 0, 0)] (pc2 := 74) (by decide +kernel) rfl (And.intro kd_36 (And.intro kd_36 (And.intro kd_45 (And.intro g3 (And.intro kd_45 (And.intro g4 (And.intro kd_36 (And.intro kd_46 (And.intro g5 (And.intro kd_36 (And.intro kd_46 (And.intro g6 (And.intro kd_36 (And.intro kd_36 (And.intro kd_47 (And.intro g7 trivial)))))))))))))))) ?_
  obtain rfl := Option.some.inj hf
  exact hm.vret (by decide +kernel)
