/-! Printed by wip/whole/prt.py: functions and walks. -/
def fX6_faithOf (x1 : Int32) (σ : ST) : Option Int32 :=
  gd (inb x1 (alen 62)) <|
  gd (inb x1 (alen 61)) <|
  gd (inb x1 (alen 60)) <|
  if (σ.1 60 x1.toNatClampNeg) = 0 then
    some 10
  else
    if (σ.1 60 x1.toNatClampNeg) = 1 then
      some (10 + (σ.1 62 x1.toNatClampNeg))
    else
      if (σ.1 60 x1.toNatClampNeg) = 2 then
        some (10 + (2 * (σ.1 61 x1.toNatClampNeg)))
      else
        if (σ.1 60 x1.toNatClampNeg) = 3 then
          some (10 - (σ.1 61 x1.toNatClampNeg))
        else
          if (σ.1 60 x1.toNatClampNeg) = 4 then
            some (2 * (10 + (σ.1 62 x1.toNatClampNeg)))
          else
            if (σ.1 60 x1.toNatClampNeg) = 5 then
              some 5
            else
              if (σ.1 60 x1.toNatClampNeg) = 6 then
                some ((10 + (σ.1 62 x1.toNatClampNeg)) + 7)
              else
                some (5 - (σ.1 61 x1.toNatClampNeg))
set_option maxHeartbeats 4000000 in
theorem kmX6_faithOf (l : Launch) {x1 : Int32} {σ : ST} {r : Int32} (hf : fX6_faithOf x1 σ = some r) : KM l yX6_faithOf cX6_faithOf 4 (some .int) 0 0 [.ref 36, .int x1] σ (some (.int r)) σ := by
  refine KM.intro (ow := 6) (by decide +kernel) rfl (Nat.le_of_ble_eq_true rfl) (fun V hm => ?_)
  show V 0 [some (.ref 36), some (.int x1), none, none] [] σ
  have h := hm.bd
  unfold fX6_faithOf at hf
  obtain ⟨g1, hf⟩ := gd_some hf
  obtain ⟨g2, hf⟩ := gd_some hf
  obtain ⟨g3, hf⟩ := gd_some hf
  refine h.run (o := [kd 36 = 6, kd 62 = 10, inb x1 (alen 62) = true, kd 36 = 6, kd 61 = 10, inb x1 (alen 61) = true, kd 36 = 6, kd 60 = 10, inb x1 (alen 60) = true]) (ls' := [some (.ref 36), some (.int x1), some (.int (10 + (σ.1 62 x1.toNatClampNeg))), some (.int (σ.1 61 x1.toNatClampNeg))]) (st' := [.int (σ.1 60 x1.toNatClampNeg)]) (σ' := σ) [(.bipush 10, 2, 10, 0, 0, 0), (.aload_n 0, 1, 0, 0, 0, 0), (.getfield 96, 3, 0, 0, 6, 42), (.iload_n 1, 1, 0, 0, 0, 0), (.iaload, 1, 0, 0, 0, 0), (.iadd, 1, 0, 0, 0, 0), (.istore_n 2, 1, 0, 0, 0, 0), (.aload_n 0, 1, 0, 0, 0, 0), (.getfield 93, 3, 0, 0, 6, 41), (.iload_n 1, 1, 0, 0, 0, 0), (.iaload, 1, 0, 0, 0, 0), (.istore_n 3, 1, 0, 0, 0, 0), (.aload_n 0, 1, 0, 0, 0, 0), (.getfield 90, 3, 0, 0, 6, 40), (.iload_n 1, 1, 0, 0, 0, 0), (.iaload, 1, 0, 0, 0, 0)] (pc2 := 23) (by decide +kernel) rfl (And.intro kd_36 (And.intro kd_62 (And.intro g1 (And.intro kd_36 (And.intro kd_61 (And.intro g2 (And.intro kd_36 (And.intro kd_60 (And.intro g3 trivial))))))))) ?_
  by_cases c4 : (σ.1 60 x1.toNatClampNeg) = 0
  · rw [if_pos c4] at hf
    refine h.tableIn (off := 41) (tgt := 64) (show decode cX6_faithOf 23 = .ok (.tableswitch 69 0 6 #[41, 44, 46, 53, 58, 62, 64], 41) by decide +kernel) (by rw [c4]; decide) (by rw [c4]; decide) (by rw [c4]; decide) (by decide) ?_
    refine h.run (o := []) (ls' := [some (.ref 36), some (.int x1), some (.int (10 + (σ.1 62 x1.toNatClampNeg))), some (.int (σ.1 61 x1.toNatClampNeg))]) (st' := [.int 10]) (σ' := σ) [(.bipush 10, 2, 10, 0, 0, 0)] (pc2 := 66) (by decide +kernel) rfl trivial ?_
    obtain rfl := Option.some.inj hf
    exact hm.iret (by decide +kernel)
  · rw [if_neg c4] at hf
    by_cases c5 : (σ.1 60 x1.toNatClampNeg) = 1
    · rw [if_pos c5] at hf
      refine h.tableIn (off := 44) (tgt := 67) (show decode cX6_faithOf 23 = .ok (.tableswitch 69 0 6 #[41, 44, 46, 53, 58, 62, 64], 41) by decide +kernel) (by rw [c5]; decide) (by rw [c5]; decide) (by rw [c5]; decide) (by decide) ?_
      refine h.run (o := []) (ls' := [some (.ref 36), some (.int x1), some (.int (10 + (σ.1 62 x1.toNatClampNeg))), some (.int (σ.1 61 x1.toNatClampNeg))]) (st' := [.int (10 + (σ.1 62 x1.toNatClampNeg))]) (σ' := σ) [(.iload_n 2, 1, 0, 0, 0, 0)] (pc2 := 68) (by decide +kernel) rfl trivial ?_
      obtain rfl := Option.some.inj hf
      exact hm.iret (by decide +kernel)
    · rw [if_neg c5] at hf
      by_cases c6 : (σ.1 60 x1.toNatClampNeg) = 2
      · rw [if_pos c6] at hf
        refine h.tableIn (off := 46) (tgt := 69) (show decode cX6_faithOf 23 = .ok (.tableswitch 69 0 6 #[41, 44, 46, 53, 58, 62, 64], 41) by decide +kernel) (by rw [c6]; decide) (by rw [c6]; decide) (by rw [c6]; decide) (by decide) ?_
        refine h.run (o := []) (ls' := [some (.ref 36), some (.int x1), some (.int (10 + (σ.1 62 x1.toNatClampNeg))), some (.int (σ.1 61 x1.toNatClampNeg))]) (st' := [.int (10 + (2 * (σ.1 61 x1.toNatClampNeg)))]) (σ' := σ) [(.bipush 10, 2, 10, 0, 0, 0), (.iconst 2, 1, 2, 0, 0, 0), (.iload_n 3, 1, 0, 0, 0, 0), (.imul, 1, 0, 0, 0, 0), (.iadd, 1, 0, 0, 0, 0)] (pc2 := 75) (by decide +kernel) rfl trivial ?_
        obtain rfl := Option.some.inj hf
        exact hm.iret (by decide +kernel)
      · rw [if_neg c6] at hf
        by_cases c7 : (σ.1 60 x1.toNatClampNeg) = 3
        · rw [if_pos c7] at hf
          refine h.tableIn (off := 53) (tgt := 76) (show decode cX6_faithOf 23 = .ok (.tableswitch 69 0 6 #[41, 44, 46, 53, 58, 62, 64], 41) by decide +kernel) (by rw [c7]; decide) (by rw [c7]; decide) (by rw [c7]; decide) (by decide) ?_
          refine h.run (o := []) (ls' := [some (.ref 36), some (.int x1), some (.int (10 + (σ.1 62 x1.toNatClampNeg))), some (.int (σ.1 61 x1.toNatClampNeg))]) (st' := [.int (10 - (σ.1 61 x1.toNatClampNeg))]) (σ' := σ) [(.bipush 10, 2, 10, 0, 0, 0), (.iload_n 3, 1, 0, 0, 0, 0), (.isub, 1, 0, 0, 0, 0)] (pc2 := 80) (by decide +kernel) rfl trivial ?_
          obtain rfl := Option.some.inj hf
          exact hm.iret (by decide +kernel)
        · rw [if_neg c7] at hf
          by_cases c8 : (σ.1 60 x1.toNatClampNeg) = 4
          · rw [if_pos c8] at hf
            refine h.tableIn (off := 58) (tgt := 81) (show decode cX6_faithOf 23 = .ok (.tableswitch 69 0 6 #[41, 44, 46, 53, 58, 62, 64], 41) by decide +kernel) (by rw [c8]; decide) (by rw [c8]; decide) (by rw [c8]; decide) (by decide) ?_
            refine h.run (o := []) (ls' := [some (.ref 36), some (.int x1), some (.int (10 + (σ.1 62 x1.toNatClampNeg))), some (.int (σ.1 61 x1.toNatClampNeg))]) (st' := [.int (2 * (10 + (σ.1 62 x1.toNatClampNeg)))]) (σ' := σ) [(.iconst 2, 1, 2, 0, 0, 0), (.iload_n 2, 1, 0, 0, 0, 0), (.imul, 1, 0, 0, 0, 0)] (pc2 := 84) (by decide +kernel) rfl trivial ?_
            obtain rfl := Option.some.inj hf
            exact hm.iret (by decide +kernel)
          · rw [if_neg c8] at hf
            by_cases c9 : (σ.1 60 x1.toNatClampNeg) = 5
            · rw [if_pos c9] at hf
              refine h.tableIn (off := 62) (tgt := 85) (show decode cX6_faithOf 23 = .ok (.tableswitch 69 0 6 #[41, 44, 46, 53, 58, 62, 64], 41) by decide +kernel) (by rw [c9]; decide) (by rw [c9]; decide) (by rw [c9]; decide) (by decide) ?_
              refine h.run (o := []) (ls' := [some (.ref 36), some (.int x1), some (.int (10 + (σ.1 62 x1.toNatClampNeg))), some (.int (σ.1 61 x1.toNatClampNeg))]) (st' := [.int 5]) (σ' := σ) [(.iconst 5, 1, 5, 0, 0, 0)] (pc2 := 86) (by decide +kernel) rfl trivial ?_
              obtain rfl := Option.some.inj hf
              exact hm.iret (by decide +kernel)
            · rw [if_neg c9] at hf
              by_cases c10 : (σ.1 60 x1.toNatClampNeg) = 6
              · rw [if_pos c10] at hf
                refine h.tableIn (off := 64) (tgt := 87) (show decode cX6_faithOf 23 = .ok (.tableswitch 69 0 6 #[41, 44, 46, 53, 58, 62, 64], 41) by decide +kernel) (by rw [c10]; decide) (by rw [c10]; decide) (by rw [c10]; decide) (by decide) ?_
                refine h.run (o := []) (ls' := [some (.ref 36), some (.int x1), some (.int (10 + (σ.1 62 x1.toNatClampNeg))), some (.int (σ.1 61 x1.toNatClampNeg))]) (st' := [.int ((10 + (σ.1 62 x1.toNatClampNeg)) + 7)]) (σ' := σ) [(.iload_n 2, 1, 0, 0, 0, 0), (.bipush 7, 2, 7, 0, 0, 0), (.iadd, 1, 0, 0, 0, 0)] (pc2 := 91) (by decide +kernel) rfl trivial ?_
                obtain rfl := Option.some.inj hf
                exact hm.iret (by decide +kernel)
              · rw [if_neg c10] at hf
                refine h.tableOut (tgt := 92) (show decode cX6_faithOf 23 = .ok (.tableswitch 69 0 6 #[41, 44, 46, 53, 58, 62, 64], 41) by decide +kernel) (sw_out (fun i hl hh => ?_)) (by decide) ?_
                · rcases (show i = 0 ∨ i = 1 ∨ i = 2 ∨ i = 3 ∨ i = 4 ∨ i = 5 ∨ i = 6 by omega) with rfl | rfl | rfl | rfl | rfl | rfl | rfl
                  · exact sw_ne c4 (by decide)
                  · exact sw_ne c5 (by decide)
                  · exact sw_ne c6 (by decide)
                  · exact sw_ne c7 (by decide)
                  · exact sw_ne c8 (by decide)
                  · exact sw_ne c9 (by decide)
                  · exact sw_ne c10 (by decide)
                · refine h.run (o := []) (ls' := [some (.ref 36), some (.int x1), some (.int (10 + (σ.1 62 x1.toNatClampNeg))), some (.int (σ.1 61 x1.toNatClampNeg))]) (st' := [.int (5 - (σ.1 61 x1.toNatClampNeg))]) (σ' := σ) [(.iconst 5, 1, 5, 0, 0, 0), (.iload_n 3, 1, 0, 0, 0, 0), (.isub, 1, 0, 0, 0, 0)] (pc2 := 95) (by decide +kernel) rfl trivial ?_
                  obtain rfl := Option.some.inj hf
                  exact hm.iret (by decide +kernel)
def fX6_faith_29 (t0 : Int32) (σ : ST) : Option (Int32 × ST) :=
  some (t0, σ)
set_option maxHeartbeats 4000000 in
theorem wX6_faith_29 {l : Launch} {V : Nat → List (Option Value) → List Value → ST → Prop} {r : Int32} {τ : ST} {σ : ST} {t0 : Int32} (hm : BM l 6 cX6_faith 2 (some .int) 2 46 (some (.int r)) τ V) (hf : fX6_faith_29 t0 σ = some (r, τ)) : V 29 [none, none] [.int t0] σ := by
  have h := hm.bd
  unfold fX6_faith_29 at hf
  obtain ⟨rfl, rfl⟩ := Prod.mk.inj (Option.some.inj hf)
  exact hm.iret (by decide +kernel)
def fX6_faith (x1 : Int32) (σ : ST) : Option (Int32 × ST) :=
  bR (fX6_wrongShelf x1 (setI σ 36 23 0)) fun a1 =>
  if 0 ≤ a1 then
    bR (fX6_faithOf x1 (setI σ 36 23 0)) fun a2 =>
    fX6_faith_29 a2 (setI σ 36 23 0)
  else
    bR (fX6_wrongShelf x1 (setI σ 36 23 0)) fun a3 =>
    bR (fX6_far a3 (setI σ 36 23 0)) fun a4 =>
    fX6_faith_29 a4 (setI σ 36 23 0)
set_option maxHeartbeats 4000000 in
theorem kmX6_faith (l : Launch) {x1 : Int32} {σ : ST} {r : Int32} {τ : ST} (hf : fX6_faith x1 σ = some (r, τ)) : KM l yX6_faith cX6_faith 2 (some .int) 2 46 [.ref 36, .int x1] σ (some (.int r)) τ := by
  refine KM.intro (ow := 6) (by decide +kernel) rfl (Nat.le_of_ble_eq_true rfl) (fun V hm => ?_)
  show V 0 [some (.ref 36), some (.int x1)] [] σ
  have h := hm.bd
  unfold fX6_faith at hf
  refine h.run (o := [kd 36 = 6]) (ls' := [some (.ref 36), some (.int x1)]) (st' := [.int x1, .ref 36]) (σ' := setI σ 36 23 0) [(.aload_n 0, 1, 0, 0, 0, 0), (.iconst 0, 1, 0, 0, 0, 0), (.putfield 112, 3, 0, 0, 6, 23), (.aload_n 0, 1, 0, 0, 0, 0), (.iload_n 1, 1, 0, 0, 0, 0)] (pc2 := 7) (by decide +kernel) rfl (And.intro kd_36 trivial) ?_
  obtain ⟨a1, e1, hf⟩ := bR_some hf
  refine h.callV (as := [.int x1]) (rest := []) (by decide +kernel) lk6_281 cwX6_wrongShelf kd_36 (kmX6_wrongShelf l e1) rfl (Nat.le_of_ble_eq_true rfl) (Nat.le_of_ble_eq_true rfl) (Nat.le_of_ble_eq_true rfl) ?_
  show V 10 [some (.ref 36), some (.int x1)] [.int a1] (setI σ 36 23 0)
  refine h.if_ge (tgt := 24) (show decode cX6_faith 10 = .ok (.ifCond .ge 14, 3) by decide +kernel) (by decide) (fun c5 => ?_) (fun c5 => ?_)
  · rw [if_pos c5] at hf
    refine h.run (o := []) (ls' := [some (.ref 36), some (.int x1)]) (st' := [.int x1, .ref 36]) (σ' := setI σ 36 23 0) [(.aload_n 0, 1, 0, 0, 0, 0), (.iload_n 1, 1, 0, 0, 0, 0)] (pc2 := 26) (by decide +kernel) rfl trivial ?_
    obtain ⟨a2, e2, hf⟩ := bR_some hf
    refine h.callV (as := [.int x1]) (rest := []) (by decide +kernel) lk6_284 cwX6_faithOf kd_36 (kmX6_faithOf l e2) rfl (Nat.le_of_ble_eq_true rfl) (Nat.le_of_ble_eq_true rfl) (Nat.le_of_ble_eq_true rfl) ?_
    show V 29 [some (.ref 36), some (.int x1)] [.int a2] (setI σ 36 23 0)
    refine h.drop (ls' := [none, none]) trivial ?_
    exact wX6_faith_29 hm hf
  · rw [if_neg c5] at hf
    show V 13 [some (.ref 36), some (.int x1)] [] (setI σ 36 23 0)
    refine h.run (o := []) (ls' := [some (.ref 36), some (.int x1)]) (st' := [.int x1, .ref 36]) (σ' := setI σ 36 23 0) [(.aload_n 0, 1, 0, 0, 0, 0), (.iload_n 1, 1, 0, 0, 0, 0)] (pc2 := 15) (by decide +kernel) rfl trivial ?_
    obtain ⟨a3, e3, hf⟩ := bR_some hf
    refine h.callV (as := [.int x1]) (rest := []) (by decide +kernel) lk6_281 cwX6_wrongShelf kd_36 (kmX6_wrongShelf l e3) rfl (Nat.le_of_ble_eq_true rfl) (Nat.le_of_ble_eq_true rfl) (Nat.le_of_ble_eq_true rfl) ?_
    show V 18 [some (.ref 36), some (.int x1)] [.int a3] (setI σ 36 23 0)
    obtain ⟨a4, e4, hf⟩ := bR_some hf
    refine h.callS (as := [.int a3]) (rest := []) (by decide +kernel) lk6_238 cwX6_far (kmX6_far l e4) rfl (Nat.le_of_ble_eq_true rfl) (Nat.le_of_ble_eq_true rfl) (Nat.le_of_ble_eq_true rfl) ?_
    show V 21 [some (.ref 36), some (.int x1)] [.int a4] (setI σ 36 23 0)
    refine h.run (o := []) (ls' := [some (.ref 36), some (.int x1)]) (st' := [.int a4]) (σ' := setI σ 36 23 0) [(.goto 8, 3, 0, 0, 0, 29)] (pc2 := 29) (by decide +kernel) rfl trivial ?_
    refine h.drop (ls' := [none, none]) trivial ?_
    exact wX6_faith_29 hm hf
def fX6_toss_38 (σ : ST) : Option (Int32 × ST) :=
  some ((-15), σ)
set_option maxHeartbeats 4000000 in
theorem wX6_toss_38 {l : Launch} {V : Nat → List (Option Value) → List Value → ST → Prop} {r : Int32} {τ : ST} {σ : ST} (hm : BM l 6 cX6_toss 2 (some .int) 2 46 (some (.int r)) τ V) (hf : fX6_toss_38 σ = some (r, τ)) : V 38 [none, none] [] σ := by
  have h := hm.bd
  unfold fX6_toss_38 at hf
  refine h.run (o := []) (ls' := [none, none]) (st' := [.int (-15)]) (σ' := σ) [(.bipush (-15), 2, (-15), 0, 0, 0)] (pc2 := 40) (by decide +kernel) rfl trivial ?_
  obtain ⟨rfl, rfl⟩ := Prod.mk.inj (Option.some.inj hf)
  exact hm.iret (by decide +kernel)
def fX6_toss_92 (t0 : Int32) (σ : ST) : Option (Int32 × ST) :=
  some (t0, σ)
set_option maxHeartbeats 4000000 in
theorem wX6_toss_92 {l : Launch} {V : Nat → List (Option Value) → List Value → ST → Prop} {r : Int32} {τ : ST} {σ : ST} {t0 : Int32} (hm : BM l 6 cX6_toss 2 (some .int) 2 46 (some (.int r)) τ V) (hf : fX6_toss_92 t0 σ = some (r, τ)) : V 92 [none, none] [.int t0] σ := by
  have h := hm.bd
  unfold fX6_toss_92 at hf
  obtain ⟨rfl, rfl⟩ := Prod.mk.inj (Option.some.inj hf)
  exact hm.iret (by decide +kernel)
def fX6_toss (x1 : Int32) (σ : ST) : Option (Int32 × ST) :=
  bR (fX6_wrongShelf x1 (setI σ 36 23 0)) fun a1 =>
  if 0 ≤ a1 then
    gd (inb x1 (alen 60)) <|
    if ((setI σ 36 23 0).1 60 x1.toNatClampNeg) = 2 then
      fX6_toss_38 (setI σ 36 23 0)
    else
      gd (inb x1 (alen 61)) <|
      if ((setI σ 36 23 0).1 61 x1.toNatClampNeg) = 0 then
        fX6_toss_38 (setI σ 36 23 0)
      else
        gd (inb x1 (alen 60)) <|
        if ((setI σ 36 23 0).1 60 x1.toNatClampNeg) = 4 then
          gd (inb x1 (alen 59)) <|
          fX6_toss_92 (100 + ((setI σ 36 23 0).1 59 x1.toNatClampNeg)) (setI σ 36 23 0)
        else
          gd (inb x1 (alen 60)) <|
          if ((setI σ 36 23 0).1 60 x1.toNatClampNeg) = 7 then
            bR (fX6_faithOf x1 (setI σ 36 23 0)) fun a7 =>
            fX6_toss_92 (200 + a7) (setI σ 36 23 0)
          else
            gd (inb x1 (alen 59)) <|
            fX6_toss_92 ((setI σ 36 23 0).1 59 x1.toNatClampNeg) (setI σ 36 23 0)
  else
    bR (fX6_wrongShelf x1 (setI σ 36 23 0)) fun a13 =>
    some (a13, setI σ 36 23 0)
set_option maxHeartbeats 4000000 in
theorem kmX6_toss (l : Launch) {x1 : Int32} {σ : ST} {r : Int32} {τ : ST} (hf : fX6_toss x1 σ = some (r, τ)) : KM l yX6_toss cX6_toss 2 (some .int) 2 46 [.ref 36, .int x1] σ (some (.int r)) τ := by
  refine KM.intro (ow := 6) (by decide +kernel) rfl (Nat.le_of_ble_eq_true rfl) (fun V hm => ?_)
  show V 0 [some (.ref 36), some (.int x1)] [] σ
  have h := hm.bd
  unfold fX6_toss at hf
  refine h.run (o := [kd 36 = 6]) (ls' := [some (.ref 36), some (.int x1)]) (st' := [.int x1, .ref 36]) (σ' := setI σ 36 23 0) [(.aload_n 0, 1, 0, 0, 0, 0), (.iconst 0, 1, 0, 0, 0, 0), (.putfield 112, 3, 0, 0, 6, 23), (.aload_n 0, 1, 0, 0, 0, 0), (.iload_n 1, 1, 0, 0, 0, 0)] (pc2 := 7) (by decide +kernel) rfl (And.intro kd_36 trivial) ?_
  obtain ⟨a1, e1, hf⟩ := bR_some hf
  refine h.callV (as := [.int x1]) (rest := []) (by decide +kernel) lk6_281 cwX6_wrongShelf kd_36 (kmX6_wrongShelf l e1) rfl (Nat.le_of_ble_eq_true rfl) (Nat.le_of_ble_eq_true rfl) (Nat.le_of_ble_eq_true rfl) ?_
  show V 10 [some (.ref 36), some (.int x1)] [.int a1] (setI σ 36 23 0)
  refine h.if_ge (tgt := 19) (show decode cX6_toss 10 = .ok (.ifCond .ge 9, 3) by decide +kernel) (by decide) (fun c14 => ?_) (fun c14 => ?_)
  · rw [if_pos c14] at hf
    obtain ⟨g2, hf⟩ := gd_some hf
    refine h.run (o := [kd 36 = 6, kd 60 = 10, inb x1 (alen 60) = true]) (ls' := [some (.ref 36), some (.int x1)]) (st' := [.int 2, .int ((setI σ 36 23 0).1 60 x1.toNatClampNeg)]) (σ' := setI σ 36 23 0) [(.aload_n 0, 1, 0, 0, 0, 0), (.getfield 90, 3, 0, 0, 6, 40), (.iload_n 1, 1, 0, 0, 0, 0), (.iaload, 1, 0, 0, 0, 0), (.iconst 2, 1, 2, 0, 0, 0)] (pc2 := 26) (by decide +kernel) rfl (And.intro kd_36 (And.intro kd_60 (And.intro g2 trivial))) ?_
    refine h.icmp_eq (tgt := 38) (show decode cX6_toss 26 = .ok (.if_icmp .eq 12, 3) by decide +kernel) (by decide) (fun c12 => ?_) (fun c12 => ?_)
    · rw [if_pos c12] at hf
      refine h.drop (ls' := [none, none]) trivial ?_
      exact wX6_toss_38 hm hf
    · rw [if_neg c12] at hf
      show V 29 [some (.ref 36), some (.int x1)] [] (setI σ 36 23 0)
      obtain ⟨g3, hf⟩ := gd_some hf
      refine h.run (o := [kd 36 = 6, kd 61 = 10, inb x1 (alen 61) = true]) (ls' := [some (.ref 36), some (.int x1)]) (st' := [.int ((setI σ 36 23 0).1 61 x1.toNatClampNeg)]) (σ' := setI σ 36 23 0) [(.aload_n 0, 1, 0, 0, 0, 0), (.getfield 93, 3, 0, 0, 6, 41), (.iload_n 1, 1, 0, 0, 0, 0), (.iaload, 1, 0, 0, 0, 0)] (pc2 := 35) (by decide +kernel) rfl (And.intro kd_36 (And.intro kd_61 (And.intro g3 trivial))) ?_
      refine h.if_ne (tgt := 41) (show decode cX6_toss 35 = .ok (.ifCond .ne 6, 3) by decide +kernel) (by decide) (fun c11 => ?_) (fun c11 => ?_)
      · rw [if_neg c11] at hf
        obtain ⟨g4, hf⟩ := gd_some hf
        refine h.run (o := [kd 36 = 6, kd 60 = 10, inb x1 (alen 60) = true]) (ls' := [some (.ref 36), some (.int x1)]) (st' := [.int 4, .int ((setI σ 36 23 0).1 60 x1.toNatClampNeg)]) (σ' := setI σ 36 23 0) [(.aload_n 0, 1, 0, 0, 0, 0), (.getfield 90, 3, 0, 0, 6, 40), (.iload_n 1, 1, 0, 0, 0, 0), (.iaload, 1, 0, 0, 0, 0), (.iconst 4, 1, 4, 0, 0, 0)] (pc2 := 48) (by decide +kernel) rfl (And.intro kd_36 (And.intro kd_60 (And.intro g4 trivial))) ?_
        refine h.icmp_ne (tgt := 63) (show decode cX6_toss 48 = .ok (.if_icmp .ne 15, 3) by decide +kernel) (by decide) (fun c10 => ?_) (fun c10 => ?_)
        · rw [if_neg c10] at hf
          obtain ⟨g5, hf⟩ := gd_some hf
          refine h.run (o := [kd 36 = 6, kd 60 = 10, inb x1 (alen 60) = true]) (ls' := [some (.ref 36), some (.int x1)]) (st' := [.int 7, .int ((setI σ 36 23 0).1 60 x1.toNatClampNeg)]) (σ' := setI σ 36 23 0) [(.aload_n 0, 1, 0, 0, 0, 0), (.getfield 90, 3, 0, 0, 6, 40), (.iload_n 1, 1, 0, 0, 0, 0), (.iaload, 1, 0, 0, 0, 0), (.bipush 7, 2, 7, 0, 0, 0)] (pc2 := 71) (by decide +kernel) rfl (And.intro kd_36 (And.intro kd_60 (And.intro g5 trivial))) ?_
          refine h.icmp_ne (tgt := 86) (show decode cX6_toss 71 = .ok (.if_icmp .ne 15, 3) by decide +kernel) (by decide) (fun c8 => ?_) (fun c8 => ?_)
          · rw [if_neg c8] at hf
            obtain ⟨g6, hf⟩ := gd_some hf
            refine h.run (o := [kd 36 = 6, kd 59 = 10, inb x1 (alen 59) = true]) (ls' := [some (.ref 36), some (.int x1)]) (st' := [.int ((setI σ 36 23 0).1 59 x1.toNatClampNeg)]) (σ' := setI σ 36 23 0) [(.aload_n 0, 1, 0, 0, 0, 0), (.getfield 87, 3, 0, 0, 6, 39), (.iload_n 1, 1, 0, 0, 0, 0), (.iaload, 1, 0, 0, 0, 0)] (pc2 := 92) (by decide +kernel) rfl (And.intro kd_36 (And.intro kd_59 (And.intro g6 trivial))) ?_
            refine h.drop (ls' := [none, none]) trivial ?_
            exact wX6_toss_92 hm hf
          · rw [if_pos c8] at hf
            show V 74 [some (.ref 36), some (.int x1)] [] (setI σ 36 23 0)
            refine h.run (o := []) (ls' := [some (.ref 36), some (.int x1)]) (st' := [.int x1, .ref 36, .int 200]) (σ' := setI σ 36 23 0) [(.sipush 200, 3, 200, 0, 0, 0), (.aload_n 0, 1, 0, 0, 0, 0), (.iload_n 1, 1, 0, 0, 0, 0)] (pc2 := 79) (by decide +kernel) rfl trivial ?_
            obtain ⟨a7, e7, hf⟩ := bR_some hf
            refine h.callV (as := [.int x1]) (rest := [.int 200]) (by decide +kernel) lk6_284 cwX6_faithOf kd_36 (kmX6_faithOf l e7) rfl (Nat.le_of_ble_eq_true rfl) (Nat.le_of_ble_eq_true rfl) (Nat.le_of_ble_eq_true rfl) ?_
            show V 82 [some (.ref 36), some (.int x1)] [.int a7, .int 200] (setI σ 36 23 0)
            refine h.run (o := []) (ls' := [some (.ref 36), some (.int x1)]) (st' := [.int (200 + a7)]) (σ' := setI σ 36 23 0) [(.iadd, 1, 0, 0, 0, 0), (.goto 9, 3, 0, 0, 0, 92)] (pc2 := 92) (by decide +kernel) rfl trivial ?_
            refine h.drop (ls' := [none, none]) trivial ?_
            exact wX6_toss_92 hm hf
        · rw [if_pos c10] at hf
          show V 51 [some (.ref 36), some (.int x1)] [] (setI σ 36 23 0)
          obtain ⟨g9, hf⟩ := gd_some hf
          refine h.run (o := [kd 36 = 6, kd 59 = 10, inb x1 (alen 59) = true]) (ls' := [some (.ref 36), some (.int x1)]) (st' := [.int (100 + ((setI σ 36 23 0).1 59 x1.toNatClampNeg))]) (σ' := setI σ 36 23 0) [(.bipush 100, 2, 100, 0, 0, 0), (.aload_n 0, 1, 0, 0, 0, 0), (.getfield 87, 3, 0, 0, 6, 39), (.iload_n 1, 1, 0, 0, 0, 0), (.iaload, 1, 0, 0, 0, 0), (.iadd, 1, 0, 0, 0, 0), (.goto 32, 3, 0, 0, 0, 92)] (pc2 := 92) (by decide +kernel) rfl (And.intro kd_36 (And.intro kd_59 (And.intro g9 trivial))) ?_
          refine h.drop (ls' := [none, none]) trivial ?_
          exact wX6_toss_92 hm hf
      · rw [if_pos c11] at hf
        show V 38 [some (.ref 36), some (.int x1)] [] (setI σ 36 23 0)
        refine h.drop (ls' := [none, none]) trivial ?_
        exact wX6_toss_38 hm hf
  · rw [if_neg c14] at hf
    show V 13 [some (.ref 36), some (.int x1)] [] (setI σ 36 23 0)
    refine h.run (o := []) (ls' := [some (.ref 36), some (.int x1)]) (st' := [.int x1, .ref 36]) (σ' := setI σ 36 23 0) [(.aload_n 0, 1, 0, 0, 0, 0), (.iload_n 1, 1, 0, 0, 0, 0)] (pc2 := 15) (by decide +kernel) rfl trivial ?_
    obtain ⟨a13, e13, hf⟩ := bR_some hf
    refine h.callV (as := [.int x1]) (rest := []) (by decide +kernel) lk6_281 cwX6_wrongShelf kd_36 (kmX6_wrongShelf l e13) rfl (Nat.le_of_ble_eq_true rfl) (Nat.le_of_ble_eq_true rfl) (Nat.le_of_ble_eq_true rfl) ?_
    show V 18 [some (.ref 36), some (.int x1)] [.int a13] (setI σ 36 23 0)
    obtain ⟨rfl, rfl⟩ := Prod.mk.inj (Option.some.inj hf)
    exact hm.iret (by decide +kernel)
