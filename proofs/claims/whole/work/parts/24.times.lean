/-! Printed by wip/whole/prt.py: functions and walks. -/
def fX5_count (x1 : Int32) (σ : ST) : Option Int32 :=
  if x1 = 0 then
    some (σ.1 6 3)
  else
    if x1 = 1 then
      some (σ.1 8 3)
    else
      if x1 = 2 then
        some (σ.1 10 3)
      else
        if x1 = 3 then
          bR (fX4_sum 10 2 σ) fun a4 =>
          some a4
        else
          if x1 = 4 then
            bR (fX4_sum 10 4 σ) fun a6 =>
            some a6
          else
            if x1 = 5 then
              some (σ.1 1 0)
            else
              if x1 = 6 then
                some (σ.1 1 1)
              else
                some (-1)
set_option maxHeartbeats 4000000 in
theorem kmX5_count (l : Launch) {x1 : Int32} {σ : ST} {r : Int32} (hf : fX5_count x1 σ = some r) : KM l yX5_count cX5_count 2 (some .int) 3 69 [.ref 0, .int x1] σ (some (.int r)) σ := by
  refine KM.intro (ow := 5) (by decide +kernel) rfl (Nat.le_of_ble_eq_true rfl) (fun V hm => ?_)
  show V 0 [some (.ref 0), some (.int x1)] [] σ
  have h := hm.bd
  unfold fX5_count at hf
  refine h.run (o := []) (ls' := [some (.ref 0), some (.int x1)]) (st' := [.int x1]) (σ' := σ) [(.iload_n 1, 1, 0, 0, 0, 0)] (pc2 := 1) (by decide +kernel) rfl trivial ?_
  by_cases c1 : x1 = 0
  · rw [if_pos c1] at hf
    refine h.tableIn (off := 43) (tgt := 44) (show decode cX5_count 1 = .ok (.tableswitch 116 0 6 #[43, 54, 65, 76, 88, 100, 108], 43) by decide +kernel) (by rw [c1]; decide) (by rw [c1]; decide) (by rw [c1]; decide) (by decide) ?_
    refine h.run (o := [kd 0 = 5, kd 1 = 0, kd 6 = 4]) (ls' := [some (.ref 0), some (.int x1)]) (st' := [.int (σ.1 6 3)]) (σ' := σ) [(.aload_n 0, 1, 0, 0, 0, 0), (.getfield 10, 3, 0, 0, 5, 0), (.getfield 80, 3, 0, 0, 0, 3), (.getfield 71, 3, 0, 0, 4, 3)] (pc2 := 54) (by decide +kernel) rfl (And.intro kd_0 (And.intro kd_1 (And.intro kd_6 trivial))) ?_
    obtain rfl := Option.some.inj hf
    exact hm.iret (by decide +kernel)
  · rw [if_neg c1] at hf
    by_cases c2 : x1 = 1
    · rw [if_pos c2] at hf
      refine h.tableIn (off := 54) (tgt := 55) (show decode cX5_count 1 = .ok (.tableswitch 116 0 6 #[43, 54, 65, 76, 88, 100, 108], 43) by decide +kernel) (by rw [c2]; decide) (by rw [c2]; decide) (by rw [c2]; decide) (by decide) ?_
      refine h.run (o := [kd 0 = 5, kd 1 = 0, kd 8 = 4]) (ls' := [some (.ref 0), some (.int x1)]) (st' := [.int (σ.1 8 3)]) (σ' := σ) [(.aload_n 0, 1, 0, 0, 0, 0), (.getfield 10, 3, 0, 0, 5, 0), (.getfield 91, 3, 0, 0, 0, 4), (.getfield 71, 3, 0, 0, 4, 3)] (pc2 := 65) (by decide +kernel) rfl (And.intro kd_0 (And.intro kd_1 (And.intro kd_8 trivial))) ?_
      obtain rfl := Option.some.inj hf
      exact hm.iret (by decide +kernel)
    · rw [if_neg c2] at hf
      by_cases c3 : x1 = 2
      · rw [if_pos c3] at hf
        refine h.tableIn (off := 65) (tgt := 66) (show decode cX5_count 1 = .ok (.tableswitch 116 0 6 #[43, 54, 65, 76, 88, 100, 108], 43) by decide +kernel) (by rw [c3]; decide) (by rw [c3]; decide) (by rw [c3]; decide) (by decide) ?_
        refine h.run (o := [kd 0 = 5, kd 1 = 0, kd 10 = 4]) (ls' := [some (.ref 0), some (.int x1)]) (st' := [.int (σ.1 10 3)]) (σ' := σ) [(.aload_n 0, 1, 0, 0, 0, 0), (.getfield 10, 3, 0, 0, 5, 0), (.getfield 104, 3, 0, 0, 0, 5), (.getfield 71, 3, 0, 0, 4, 3)] (pc2 := 76) (by decide +kernel) rfl (And.intro kd_0 (And.intro kd_1 (And.intro kd_10 trivial))) ?_
        obtain rfl := Option.some.inj hf
        exact hm.iret (by decide +kernel)
      · rw [if_neg c3] at hf
        by_cases c5 : x1 = 3
        · rw [if_pos c5] at hf
          refine h.tableIn (off := 76) (tgt := 77) (show decode cX5_count 1 = .ok (.tableswitch 116 0 6 #[43, 54, 65, 76, 88, 100, 108], 43) by decide +kernel) (by rw [c5]; decide) (by rw [c5]; decide) (by rw [c5]; decide) (by decide) ?_
          refine h.run (o := [kd 0 = 5, kd 1 = 0]) (ls' := [some (.ref 0), some (.int x1)]) (st' := [.int 2, .ref 10]) (σ' := σ) [(.aload_n 0, 1, 0, 0, 0, 0), (.getfield 10, 3, 0, 0, 5, 0), (.getfield 104, 3, 0, 0, 0, 5), (.iconst 2, 1, 2, 0, 0, 0)] (pc2 := 85) (by decide +kernel) rfl (And.intro kd_0 (And.intro kd_1 trivial)) ?_
          obtain ⟨a4, e4, hf⟩ := bR_some hf
          refine h.callV (as := [.int 2]) (rest := []) (by decide +kernel) lk5_202 cwX4_sum kd_10 (kmX4_sum l kd_10 e4) rfl (Nat.le_of_ble_eq_true rfl) (Nat.le_of_ble_eq_true rfl) (Nat.le_of_ble_eq_true rfl) ?_
          show V 88 [some (.ref 0), some (.int x1)] [.int a4] σ
          obtain rfl := Option.some.inj hf
          exact hm.iret (by decide +kernel)
        · rw [if_neg c5] at hf
          by_cases c7 : x1 = 4
          · rw [if_pos c7] at hf
            refine h.tableIn (off := 88) (tgt := 89) (show decode cX5_count 1 = .ok (.tableswitch 116 0 6 #[43, 54, 65, 76, 88, 100, 108], 43) by decide +kernel) (by rw [c7]; decide) (by rw [c7]; decide) (by rw [c7]; decide) (by decide) ?_
            refine h.run (o := [kd 0 = 5, kd 1 = 0]) (ls' := [some (.ref 0), some (.int x1)]) (st' := [.int 4, .ref 10]) (σ' := σ) [(.aload_n 0, 1, 0, 0, 0, 0), (.getfield 10, 3, 0, 0, 5, 0), (.getfield 104, 3, 0, 0, 0, 5), (.iconst 4, 1, 4, 0, 0, 0)] (pc2 := 97) (by decide +kernel) rfl (And.intro kd_0 (And.intro kd_1 trivial)) ?_
            obtain ⟨a6, e6, hf⟩ := bR_some hf
            refine h.callV (as := [.int 4]) (rest := []) (by decide +kernel) lk5_202 cwX4_sum kd_10 (kmX4_sum l kd_10 e6) rfl (Nat.le_of_ble_eq_true rfl) (Nat.le_of_ble_eq_true rfl) (Nat.le_of_ble_eq_true rfl) ?_
            show V 100 [some (.ref 0), some (.int x1)] [.int a6] σ
            obtain rfl := Option.some.inj hf
            exact hm.iret (by decide +kernel)
          · rw [if_neg c7] at hf
            by_cases c8 : x1 = 5
            · rw [if_pos c8] at hf
              refine h.tableIn (off := 100) (tgt := 101) (show decode cX5_count 1 = .ok (.tableswitch 116 0 6 #[43, 54, 65, 76, 88, 100, 108], 43) by decide +kernel) (by rw [c8]; decide) (by rw [c8]; decide) (by rw [c8]; decide) (by decide) ?_
              refine h.run (o := [kd 0 = 5, kd 1 = 0]) (ls' := [some (.ref 0), some (.int x1)]) (st' := [.int (σ.1 1 0)]) (σ' := σ) [(.aload_n 0, 1, 0, 0, 0, 0), (.getfield 10, 3, 0, 0, 5, 0), (.getfield 107, 3, 0, 0, 0, 0)] (pc2 := 108) (by decide +kernel) rfl (And.intro kd_0 (And.intro kd_1 trivial)) ?_
              obtain rfl := Option.some.inj hf
              exact hm.iret (by decide +kernel)
            · rw [if_neg c8] at hf
              by_cases c9 : x1 = 6
              · rw [if_pos c9] at hf
                refine h.tableIn (off := 108) (tgt := 109) (show decode cX5_count 1 = .ok (.tableswitch 116 0 6 #[43, 54, 65, 76, 88, 100, 108], 43) by decide +kernel) (by rw [c9]; decide) (by rw [c9]; decide) (by rw [c9]; decide) (by decide) ?_
                refine h.run (o := [kd 0 = 5, kd 1 = 0]) (ls' := [some (.ref 0), some (.int x1)]) (st' := [.int (σ.1 1 1)]) (σ' := σ) [(.aload_n 0, 1, 0, 0, 0, 0), (.getfield 10, 3, 0, 0, 5, 0), (.getfield 110, 3, 0, 0, 0, 1)] (pc2 := 116) (by decide +kernel) rfl (And.intro kd_0 (And.intro kd_1 trivial)) ?_
                obtain rfl := Option.some.inj hf
                exact hm.iret (by decide +kernel)
              · rw [if_neg c9] at hf
                refine h.tableOut (tgt := 117) (show decode cX5_count 1 = .ok (.tableswitch 116 0 6 #[43, 54, 65, 76, 88, 100, 108], 43) by decide +kernel) (sw_out (fun i hl hh => ?_)) (by decide) ?_
                · rcases (show i = 0 ∨ i = 1 ∨ i = 2 ∨ i = 3 ∨ i = 4 ∨ i = 5 ∨ i = 6 by omega) with rfl | rfl | rfl | rfl | rfl | rfl | rfl
                  · exact sw_ne c1 (by decide)
                  · exact sw_ne c2 (by decide)
                  · exact sw_ne c3 (by decide)
                  · exact sw_ne c5 (by decide)
                  · exact sw_ne c7 (by decide)
                  · exact sw_ne c8 (by decide)
                  · exact sw_ne c9 (by decide)
                · refine h.run (o := []) (ls' := [some (.ref 0), some (.int x1)]) (st' := [.int (-1)]) (σ' := σ) [(.iconst (-1), 1, (-1), 0, 0, 0)] (pc2 := 118) (by decide +kernel) rfl trivial ?_
                  obtain rfl := Option.some.inj hf
                  exact hm.iret (by decide +kernel)
def fX5_keep_21 (σ : ST) : Option (Int32 × ST) :=
  some ((-1), σ)
set_option maxHeartbeats 4000000 in
theorem wX5_keep_21 {l : Launch} {V : Nat → List (Option Value) → List Value → ST → Prop} {r : Int32} {τ : ST} {σ : ST} (hm : BM l 5 cX5_keep 5 (some .int) 2 46 (some (.int r)) τ V) (hf : fX5_keep_21 σ = some (r, τ)) : V 21 [none, none, none, none, none] [] σ := by
  have h := hm.bd
  unfold fX5_keep_21 at hf
  refine h.run (o := []) (ls' := [none, none, none, none, none]) (st' := [.int (-1)]) (σ' := σ) [(.iconst (-1), 1, (-1), 0, 0, 0)] (pc2 := 22) (by decide +kernel) rfl trivial ?_
  obtain ⟨rfl, rfl⟩ := Prod.mk.inj (Option.some.inj hf)
  exact hm.iret (by decide +kernel)
def fX5_keep (x1 : Int32) (x2 : Int32) (x3 : Int32) (σ : ST) : Option (Int32 × ST) :=
  bR (fX5_shelfAt x1 σ) fun o1 =>
  match o1 with
  | none =>
    fX5_keep_21 σ
  | some s1 =>
    if x2 < 0 then
      fX5_keep_21 σ
    else
      if x2 ≤ 1 then
        if x2 = 0 then
          some (0, setI σ s1 0 0)
        else
          bR (fX4_has 6 x3 σ) fun a2 =>
          if a2 = 0 then
            some ((-1), σ)
          else
            bR (fX4_read 6 x3 0 (setI (setI σ s1 0 1) s1 1 x3)) fun a3 =>
            bR (fX4_read 6 x3 1 (setI (setI (setI σ s1 0 1) s1 1 x3) s1 2 a3)) fun a4 =>
            bR (fX4_read 6 x3 2 (setI (setI (setI (setI σ s1 0 1) s1 1 x3) s1 2 a3) s1 3 a4)) fun a5 =>
            some (0, setI (setI (setI (setI (setI σ s1 0 1) s1 1 x3) s1 2 a3) s1 3 a4) s1 4 a5)
      else
        fX5_keep_21 σ
set_option maxHeartbeats 4000000 in
theorem kmX5_keep (l : Launch) {x1 : Int32} {x2 : Int32} {x3 : Int32} {σ : ST} {r : Int32} {τ : ST} (hf : fX5_keep x1 x2 x3 σ = some (r, τ)) : KM l yX5_keep cX5_keep 5 (some .int) 2 46 [.ref 0, .int x1, .int x2, .int x3] σ (some (.int r)) τ := by
  refine KM.intro (ow := 5) (by decide +kernel) rfl (Nat.le_of_ble_eq_true rfl) (fun V hm => ?_)
  show V 0 [some (.ref 0), some (.int x1), some (.int x2), some (.int x3), none] [] σ
  have h := hm.bd
  unfold fX5_keep at hf
  refine h.run (o := []) (ls' := [some (.ref 0), some (.int x1), some (.int x2), some (.int x3), none]) (st' := [.int x1, .ref 0]) (σ' := σ) [(.aload_n 0, 1, 0, 0, 0, 0), (.iload_n 1, 1, 0, 0, 0, 0)] (pc2 := 2) (by decide +kernel) rfl trivial ?_
  obtain ⟨o1, e1, hf⟩ := bR_some hf
  refine h.callV (as := [.int x1]) (rest := []) (by decide +kernel) lk5_44 cwX5_shelfAt kd_0 (kmX5_shelfAt l e1) rfl (Nat.le_of_ble_eq_true rfl) (Nat.le_of_ble_eq_true rfl) (Nat.le_of_ble_eq_true rfl) ?_
  cases o1 with
  | none =>
    dsimp only at hf
    show V 5 [some (.ref 0), some (.int x1), some (.int x2), some (.int x3), none] [.null] σ
    refine h.run (o := []) (ls' := [some (.ref 0), some (.int x1), some (.int x2), some (.int x3), some (.null)]) (st' := [.null]) (σ' := σ) [(.astore 4, 2, 0, 0, 0, 0), (.aload 4, 2, 0, 0, 0, 0)] (pc2 := 9) (by decide +kernel) rfl trivial ?_
    refine h.ifnullN (show decode cX5_keep 9 = .ok (.ifnull 12, 3) by decide +kernel) (tgt := 21) (by decide) ?_
    refine h.drop (ls' := [none, none, none, none, none]) trivial ?_
    exact wX5_keep_21 hm hf
  | some s1 =>
    dsimp only at hf
    have hs1 : kd s1 = 3 := shelfAt_kd e1
    show V 5 [some (.ref 0), some (.int x1), some (.int x2), some (.int x3), none] [.ref s1] σ
    refine h.run (o := []) (ls' := [some (.ref 0), some (.int x1), some (.int x2), some (.int x3), some (.ref s1)]) (st' := [.ref s1]) (σ' := σ) [(.astore 4, 2, 0, 0, 0, 0), (.aload 4, 2, 0, 0, 0, 0)] (pc2 := 9) (by decide +kernel) rfl trivial ?_
    refine h.ifnull (show decode cX5_keep 9 = .ok (.ifnull 12, 3) by decide +kernel) ?_
    show V 12 [some (.ref 0), some (.int x1), some (.int x2), some (.int x3), some (.ref s1)] [] σ
    refine h.run (o := []) (ls' := [some (.ref 0), some (.int x1), some (.int x2), some (.int x3), some (.ref s1)]) (st' := [.int x2]) (σ' := σ) [(.iload_n 2, 1, 0, 0, 0, 0)] (pc2 := 13) (by decide +kernel) rfl trivial ?_
    refine h.if_lt (tgt := 21) (show decode cX5_keep 13 = .ok (.ifCond .lt 8, 3) by decide +kernel) (by decide) (fun c9 => ?_) (fun c9 => ?_)
    · rw [if_pos c9] at hf
      refine h.drop (ls' := [none, none, none, none, none]) trivial ?_
      exact wX5_keep_21 hm hf
    · rw [if_neg c9] at hf
      show V 16 [some (.ref 0), some (.int x1), some (.int x2), some (.int x3), some (.ref s1)] [] σ
      refine h.run (o := []) (ls' := [some (.ref 0), some (.int x1), some (.int x2), some (.int x3), some (.ref s1)]) (st' := [.int 1, .int x2]) (σ' := σ) [(.iload_n 2, 1, 0, 0, 0, 0), (.iconst 1, 1, 1, 0, 0, 0)] (pc2 := 18) (by decide +kernel) rfl trivial ?_
      refine h.icmp_le (tgt := 23) (show decode cX5_keep 18 = .ok (.if_icmp .le 5, 3) by decide +kernel) (by decide) (fun c8 => ?_) (fun c8 => ?_)
      · rw [if_pos c8] at hf
        refine h.run (o := []) (ls' := [some (.ref 0), some (.int x1), some (.int x2), some (.int x3), some (.ref s1)]) (st' := [.int x2]) (σ' := σ) [(.iload_n 2, 1, 0, 0, 0, 0)] (pc2 := 24) (by decide +kernel) rfl trivial ?_
        refine h.if_ne (tgt := 35) (show decode cX5_keep 24 = .ok (.ifCond .ne 11, 3) by decide +kernel) (by decide) (fun c7 => ?_) (fun c7 => ?_)
        · rw [if_neg c7] at hf
          refine h.run (o := [kd 0 = 5, kd 1 = 0]) (ls' := [some (.ref 0), some (.int x1), some (.int x2), some (.int x3), some (.ref s1)]) (st' := [.int x3, .ref 6]) (σ' := σ) [(.aload_n 0, 1, 0, 0, 0, 0), (.getfield 10, 3, 0, 0, 5, 0), (.getfield 80, 3, 0, 0, 0, 3), (.iload_n 3, 1, 0, 0, 0, 0)] (pc2 := 43) (by decide +kernel) rfl (And.intro kd_0 (And.intro kd_1 trivial)) ?_
          obtain ⟨a2, e2, hf⟩ := bR_some hf
          refine h.callV (as := [.int x3]) (rest := []) (by decide +kernel) lk5_83 cwX4_has kd_6 (kmX4_has l kd_6 e2) rfl (Nat.le_of_ble_eq_true rfl) (Nat.le_of_ble_eq_true rfl) (Nat.le_of_ble_eq_true rfl) ?_
          show V 46 [some (.ref 0), some (.int x1), some (.int x2), some (.int x3), some (.ref s1)] [.int a2] σ
          refine h.if_ne (tgt := 51) (show decode cX5_keep 46 = .ok (.ifCond .ne 5, 3) by decide +kernel) (by decide) (fun c6 => ?_) (fun c6 => ?_)
          · rw [if_neg c6] at hf
            refine h.run (o := [kd s1 = 3, kd s1 = 3, kd 0 = 5, kd 1 = 0]) (ls' := [some (.ref 0), some (.int x1), some (.int x2), some (.int x3), some (.ref s1)]) (st' := [.int 0, .int x3, .ref 6, .ref s1]) (σ' := setI (setI σ s1 0 1) s1 1 x3) [(.aload 4, 2, 0, 0, 0, 0), (.iconst 1, 1, 1, 0, 0, 0), (.putfield 204, 3, 0, 0, 3, 0), (.aload 4, 2, 0, 0, 0, 0), (.iload_n 3, 1, 0, 0, 0, 0), (.putfield 207, 3, 0, 0, 3, 1), (.aload 4, 2, 0, 0, 0, 0), (.aload_n 0, 1, 0, 0, 0, 0), (.getfield 10, 3, 0, 0, 5, 0), (.getfield 80, 3, 0, 0, 0, 3), (.iload_n 3, 1, 0, 0, 0, 0), (.iconst 0, 1, 0, 0, 0, 0)] (pc2 := 74) (by decide +kernel) rfl (And.intro hs1 (And.intro hs1 (And.intro kd_0 (And.intro kd_1 trivial)))) ?_
            obtain ⟨a3, e3, hf⟩ := bR_some hf
            refine h.callV (as := [.int x3, .int 0]) (rest := [.ref s1]) (by decide +kernel) lk5_87 cwX4_read kd_6 (kmX4_read l kd_6 e3) rfl (Nat.le_of_ble_eq_true rfl) (Nat.le_of_ble_eq_true rfl) (Nat.le_of_ble_eq_true rfl) ?_
            show V 77 [some (.ref 0), some (.int x1), some (.int x2), some (.int x3), some (.ref s1)] [.int a3, .ref s1] (setI (setI σ s1 0 1) s1 1 x3)
            refine h.run (o := [kd s1 = 3, kd 0 = 5, kd 1 = 0]) (ls' := [some (.ref 0), some (.int x1), some (.int x2), some (.int x3), some (.ref s1)]) (st' := [.int 1, .int x3, .ref 6, .ref s1]) (σ' := setI (setI (setI σ s1 0 1) s1 1 x3) s1 2 a3) [(.putfield 210, 3, 0, 0, 3, 2), (.aload 4, 2, 0, 0, 0, 0), (.aload_n 0, 1, 0, 0, 0, 0), (.getfield 10, 3, 0, 0, 5, 0), (.getfield 80, 3, 0, 0, 0, 3), (.iload_n 3, 1, 0, 0, 0, 0), (.iconst 1, 1, 1, 0, 0, 0)] (pc2 := 91) (by decide +kernel) rfl (And.intro hs1 (And.intro kd_0 (And.intro kd_1 trivial))) ?_
            obtain ⟨a4, e4, hf⟩ := bR_some hf
            refine h.callV (as := [.int x3, .int 1]) (rest := [.ref s1]) (by decide +kernel) lk5_87 cwX4_read kd_6 (kmX4_read l kd_6 e4) rfl (Nat.le_of_ble_eq_true rfl) (Nat.le_of_ble_eq_true rfl) (Nat.le_of_ble_eq_true rfl) ?_
            show V 94 [some (.ref 0), some (.int x1), some (.int x2), some (.int x3), some (.ref s1)] [.int a4, .ref s1] (setI (setI (setI σ s1 0 1) s1 1 x3) s1 2 a3)
            refine h.run (o := [kd s1 = 3, kd 0 = 5, kd 1 = 0]) (ls' := [some (.ref 0), some (.int x1), some (.int x2), some (.int x3), some (.ref s1)]) (st' := [.int 2, .int x3, .ref 6, .ref s1]) (σ' := setI (setI (setI (setI σ s1 0 1) s1 1 x3) s1 2 a3) s1 3 a4) [(.putfield 213, 3, 0, 0, 3, 3), (.aload 4, 2, 0, 0, 0, 0), (.aload_n 0, 1, 0, 0, 0, 0), (.getfield 10, 3, 0, 0, 5, 0), (.getfield 80, 3, 0, 0, 0, 3), (.iload_n 3, 1, 0, 0, 0, 0), (.iconst 2, 1, 2, 0, 0, 0)] (pc2 := 108) (by decide +kernel) rfl (And.intro hs1 (And.intro kd_0 (And.intro kd_1 trivial))) ?_
            obtain ⟨a5, e5, hf⟩ := bR_some hf
            refine h.callV (as := [.int x3, .int 2]) (rest := [.ref s1]) (by decide +kernel) lk5_87 cwX4_read kd_6 (kmX4_read l kd_6 e5) rfl (Nat.le_of_ble_eq_true rfl) (Nat.le_of_ble_eq_true rfl) (Nat.le_of_ble_eq_true rfl) ?_
            show V 111 [some (.ref 0), some (.int x1), some (.int x2), some (.int x3), some (.ref s1)] [.int a5, .ref s1] (setI (setI (setI (setI σ s1 0 1) s1 1 x3) s1 2 a3) s1 3 a4)
            refine h.run (o := [kd s1 = 3]) (ls' := [some (.ref 0), some (.int x1), some (.int x2), some (.int x3), some (.ref s1)]) (st' := [.int 0]) (σ' := setI (setI (setI (setI (setI σ s1 0 1) s1 1 x3) s1 2 a3) s1 3 a4) s1 4 a5) [(.putfield 216, 3, 0, 0, 3, 4), (.iconst 0, 1, 0, 0, 0, 0)] (pc2 := 115) (by decide +kernel) rfl (And.intro hs1 trivial) ?_
            obtain ⟨rfl, rfl⟩ := Prod.mk.inj (Option.some.inj hf)
            exact hm.iret (by decide +kernel)
          · rw [if_pos c6] at hf
            show V 49 [some (.ref 0), some (.int x1), some (.int x2), some (.int x3), some (.ref s1)] [] σ
            refine h.run (o := []) (ls' := [some (.ref 0), some (.int x1), some (.int x2), some (.int x3), some (.ref s1)]) (st' := [.int (-1)]) (σ' := σ) [(.iconst (-1), 1, (-1), 0, 0, 0)] (pc2 := 50) (by decide +kernel) rfl trivial ?_
            obtain ⟨rfl, rfl⟩ := Prod.mk.inj (Option.some.inj hf)
            exact hm.iret (by decide +kernel)
        · rw [if_pos c7] at hf
          show V 27 [some (.ref 0), some (.int x1), some (.int x2), some (.int x3), some (.ref s1)] [] σ
          refine h.run (o := [kd s1 = 3]) (ls' := [some (.ref 0), some (.int x1), some (.int x2), some (.int x3), some (.ref s1)]) (st' := [.int 0]) (σ' := setI σ s1 0 0) [(.aload 4, 2, 0, 0, 0, 0), (.iconst 0, 1, 0, 0, 0, 0), (.putfield 204, 3, 0, 0, 3, 0), (.iconst 0, 1, 0, 0, 0, 0)] (pc2 := 34) (by decide +kernel) rfl (And.intro hs1 trivial) ?_
          obtain ⟨rfl, rfl⟩ := Prod.mk.inj (Option.some.inj hf)
          exact hm.iret (by decide +kernel)
      · rw [if_neg c8] at hf
        show V 21 [some (.ref 0), some (.int x1), some (.int x2), some (.int x3), some (.ref s1)] [] σ
        refine h.drop (ls' := [none, none, none, none, none]) trivial ?_
        exact wX5_keep_21 hm hf
def fX5_row_27 (σ : ST) : Option (Int32 × ST) :=
  some ((-1), σ)
set_option maxHeartbeats 4000000 in
theorem wX5_row_27 {l : Launch} {V : Nat → List (Option Value) → List Value → ST → Prop} {r : Int32} {τ : ST} {σ : ST} (hm : BM l 5 cX5_row 5 (some .int) 1 23 (some (.int r)) τ V) (hf : fX5_row_27 σ = some (r, τ)) : V 27 [none, none, none, none, none] [] σ := by
  have h := hm.bd
  unfold fX5_row_27 at hf
  refine h.run (o := []) (ls' := [none, none, none, none, none]) (st' := [.int (-1)]) (σ' := σ) [(.iconst (-1), 1, (-1), 0, 0, 0)] (pc2 := 28) (by decide +kernel) rfl trivial ?_
  obtain ⟨rfl, rfl⟩ := Prod.mk.inj (Option.some.inj hf)
  exact hm.iret (by decide +kernel)
def fX5_row (x1 : Int32) (x2 : Int32) (x3 : Int32) (σ : ST) : Option (Int32 × ST) :=
  bR (fX5_shelfAt x1 σ) fun o1 =>
  match o1 with
  | none =>
    fX5_row_27 σ
  | some s1 =>
    if x2 < 0 then
      fX5_row_27 σ
    else
      if 2 < x2 then
        fX5_row_27 σ
      else
        if x3 ≤ 100 then
          if 0 ≤ x3 then
            bR (fX3_becomeRow s1 x2 x3 σ) fun σ2 =>
            some (0, σ2)
          else
            some ((-14), σ)
        else
          fX5_row_27 σ
set_option maxHeartbeats 4000000 in
theorem kmX5_row (l : Launch) {x1 : Int32} {x2 : Int32} {x3 : Int32} {σ : ST} {r : Int32} {τ : ST} (hf : fX5_row x1 x2 x3 σ = some (r, τ)) : KM l yX5_row cX5_row 5 (some .int) 1 23 [.ref 0, .int x1, .int x2, .int x3] σ (some (.int r)) τ := by
  refine KM.intro (ow := 5) (by decide +kernel) rfl (Nat.le_of_ble_eq_true rfl) (fun V hm => ?_)
  show V 0 [some (.ref 0), some (.int x1), some (.int x2), some (.int x3), none] [] σ
  have h := hm.bd
  unfold fX5_row at hf
  refine h.run (o := []) (ls' := [some (.ref 0), some (.int x1), some (.int x2), some (.int x3), none]) (st' := [.int x1, .ref 0]) (σ' := σ) [(.aload_n 0, 1, 0, 0, 0, 0), (.iload_n 1, 1, 0, 0, 0, 0)] (pc2 := 2) (by decide +kernel) rfl trivial ?_
  obtain ⟨o1, e1, hf⟩ := bR_some hf
  refine h.callV (as := [.int x1]) (rest := []) (by decide +kernel) lk5_44 cwX5_shelfAt kd_0 (kmX5_shelfAt l e1) rfl (Nat.le_of_ble_eq_true rfl) (Nat.le_of_ble_eq_true rfl) (Nat.le_of_ble_eq_true rfl) ?_
  cases o1 with
  | none =>
    dsimp only at hf
    show V 5 [some (.ref 0), some (.int x1), some (.int x2), some (.int x3), none] [.null] σ
    refine h.run (o := []) (ls' := [some (.ref 0), some (.int x1), some (.int x2), some (.int x3), some (.null)]) (st' := [.null]) (σ' := σ) [(.astore 4, 2, 0, 0, 0, 0), (.aload 4, 2, 0, 0, 0, 0)] (pc2 := 9) (by decide +kernel) rfl trivial ?_
    refine h.ifnullN (show decode cX5_row 9 = .ok (.ifnull 18, 3) by decide +kernel) (tgt := 27) (by decide) ?_
    refine h.drop (ls' := [none, none, none, none, none]) trivial ?_
    exact wX5_row_27 hm hf
  | some s1 =>
    dsimp only at hf
    have hs1 : kd s1 = 3 := shelfAt_kd e1
    show V 5 [some (.ref 0), some (.int x1), some (.int x2), some (.int x3), none] [.ref s1] σ
    refine h.run (o := []) (ls' := [some (.ref 0), some (.int x1), some (.int x2), some (.int x3), some (.ref s1)]) (st' := [.ref s1]) (σ' := σ) [(.astore 4, 2, 0, 0, 0, 0), (.aload 4, 2, 0, 0, 0, 0)] (pc2 := 9) (by decide +kernel) rfl trivial ?_
    refine h.ifnull (show decode cX5_row 9 = .ok (.ifnull 18, 3) by decide +kernel) ?_
    show V 12 [some (.ref 0), some (.int x1), some (.int x2), some (.int x3), some (.ref s1)] [] σ
    refine h.run (o := []) (ls' := [some (.ref 0), some (.int x1), some (.int x2), some (.int x3), some (.ref s1)]) (st' := [.int x2]) (σ' := σ) [(.iload_n 2, 1, 0, 0, 0, 0)] (pc2 := 13) (by decide +kernel) rfl trivial ?_
    refine h.if_lt (tgt := 27) (show decode cX5_row 13 = .ok (.ifCond .lt 14, 3) by decide +kernel) (by decide) (fun c6 => ?_) (fun c6 => ?_)
    · rw [if_pos c6] at hf
      refine h.drop (ls' := [none, none, none, none, none]) trivial ?_
      exact wX5_row_27 hm hf
    · rw [if_neg c6] at hf
      show V 16 [some (.ref 0), some (.int x1), some (.int x2), some (.int x3), some (.ref s1)] [] σ
      refine h.run (o := []) (ls' := [some (.ref 0), some (.int x1), some (.int x2), some (.int x3), some (.ref s1)]) (st' := [.int 2, .int x2]) (σ' := σ) [(.iload_n 2, 1, 0, 0, 0, 0), (.iconst 2, 1, 2, 0, 0, 0)] (pc2 := 18) (by decide +kernel) rfl trivial ?_
      refine h.icmp_gt (tgt := 27) (show decode cX5_row 18 = .ok (.if_icmp .gt 9, 3) by decide +kernel) (by decide) (fun c5 => ?_) (fun c5 => ?_)
      · rw [if_pos c5] at hf
        refine h.drop (ls' := [none, none, none, none, none]) trivial ?_
        exact wX5_row_27 hm hf
      · rw [if_neg c5] at hf
        show V 21 [some (.ref 0), some (.int x1), some (.int x2), some (.int x3), some (.ref s1)] [] σ
        refine h.run (o := []) (ls' := [some (.ref 0), some (.int x1), some (.int x2), some (.int x3), some (.ref s1)]) (st' := [.int 100, .int x3]) (σ' := σ) [(.iload_n 3, 1, 0, 0, 0, 0), (.bipush 100, 2, 100, 0, 0, 0)] (pc2 := 24) (by decide +kernel) rfl trivial ?_
        refine h.icmp_le (tgt := 29) (show decode cX5_row 24 = .ok (.if_icmp .le 5, 3) by decide +kernel) (by decide) (fun c4 => ?_) (fun c4 => ?_)
        · rw [if_pos c4] at hf
          refine h.run (o := []) (ls' := [some (.ref 0), some (.int x1), some (.int x2), some (.int x3), some (.ref s1)]) (st' := [.int x3]) (σ' := σ) [(.iload_n 3, 1, 0, 0, 0, 0)] (pc2 := 30) (by decide +kernel) rfl trivial ?_
          refine h.if_ge (tgt := 36) (show decode cX5_row 30 = .ok (.ifCond .ge 6, 3) by decide +kernel) (by decide) (fun c3 => ?_) (fun c3 => ?_)
          · rw [if_pos c3] at hf
            refine h.run (o := []) (ls' := [some (.ref 0), some (.int x1), some (.int x2), some (.int x3), some (.ref s1)]) (st' := [.int x3, .int x2, .ref s1]) (σ' := σ) [(.aload 4, 2, 0, 0, 0, 0), (.iload_n 2, 1, 0, 0, 0, 0), (.iload_n 3, 1, 0, 0, 0, 0)] (pc2 := 40) (by decide +kernel) rfl trivial ?_
            obtain ⟨σ2, e2, hf⟩ := bR_some hf
            refine h.callV (as := [.int x2, .int x3]) (rest := []) (by decide +kernel) lk5_217 cwX3_becomeRow hs1 (kmX3_becomeRow l hs1 e2) rfl (Nat.le_of_ble_eq_true rfl) (Nat.le_of_ble_eq_true rfl) (Nat.le_of_ble_eq_true rfl) ?_
            show V 43 [some (.ref 0), some (.int x1), some (.int x2), some (.int x3), some (.ref s1)] [] σ2
            refine h.run (o := []) (ls' := [some (.ref 0), some (.int x1), some (.int x2), some (.int x3), some (.ref s1)]) (st' := [.int 0]) (σ' := σ2) [(.iconst 0, 1, 0, 0, 0, 0)] (pc2 := 44) (by decide +kernel) rfl trivial ?_
            obtain ⟨rfl, rfl⟩ := Prod.mk.inj (Option.some.inj hf)
            exact hm.iret (by decide +kernel)
          · rw [if_neg c3] at hf
            show V 33 [some (.ref 0), some (.int x1), some (.int x2), some (.int x3), some (.ref s1)] [] σ
            refine h.run (o := []) (ls' := [some (.ref 0), some (.int x1), some (.int x2), some (.int x3), some (.ref s1)]) (st' := [.int (-14)]) (σ' := σ) [(.bipush (-14), 2, (-14), 0, 0, 0)] (pc2 := 35) (by decide +kernel) rfl trivial ?_
            obtain ⟨rfl, rfl⟩ := Prod.mk.inj (Option.some.inj hf)
            exact hm.iret (by decide +kernel)
        · rw [if_neg c4] at hf
          show V 27 [some (.ref 0), some (.int x1), some (.int x2), some (.int x3), some (.ref s1)] [] σ
          refine h.drop (ls' := [none, none, none, none, none]) trivial ?_
          exact wX5_row_27 hm hf
def fX5_put (x1 : Int32) (x2 : Int32) (x3 : Int32) (σ : ST) : Option (Int32 × ST) :=
  bR (fX5_shelfAt x1 σ) fun o1 =>
  match o1 with
  | none =>
    some ((-1), σ)
  | some s1 =>
    bR (fX3_refusalAsRow s1 σ) fun a2 =>
    if a2 = 0 then
      bR (fX3_has s1 x2 σ) fun a3 =>
      if a3 = 0 then
        some ((-13), σ)
      else
        bR (fX3_write s1 x2 x3 σ) fun σ4 =>
        some (0, σ4)
    else
      some (a2, σ)
set_option maxHeartbeats 4000000 in
theorem kmX5_put (l : Launch) {x1 : Int32} {x2 : Int32} {x3 : Int32} {σ : ST} {r : Int32} {τ : ST} (hf : fX5_put x1 x2 x3 σ = some (r, τ)) : KM l yX5_put cX5_put 6 (some .int) 2 43 [.ref 0, .int x1, .int x2, .int x3] σ (some (.int r)) τ := by
  refine KM.intro (ow := 5) (by decide +kernel) rfl (Nat.le_of_ble_eq_true rfl) (fun V hm => ?_)
  show V 0 [some (.ref 0), some (.int x1), some (.int x2), some (.int x3), none, none] [] σ
  have h := hm.bd
  unfold fX5_put at hf
  refine h.run (o := []) (ls' := [some (.ref 0), some (.int x1), some (.int x2), some (.int x3), none, none]) (st' := [.int x1, .ref 0]) (σ' := σ) [(.aload_n 0, 1, 0, 0, 0, 0), (.iload_n 1, 1, 0, 0, 0, 0)] (pc2 := 2) (by decide +kernel) rfl trivial ?_
  obtain ⟨o1, e1, hf⟩ := bR_some hf
  refine h.callV (as := [.int x1]) (rest := []) (by decide +kernel) lk5_44 cwX5_shelfAt kd_0 (kmX5_shelfAt l e1) rfl (Nat.le_of_ble_eq_true rfl) (Nat.le_of_ble_eq_true rfl) (Nat.le_of_ble_eq_true rfl) ?_
  cases o1 with
  | none =>
    dsimp only at hf
    show V 5 [some (.ref 0), some (.int x1), some (.int x2), some (.int x3), none, none] [.null] σ
    refine h.run (o := []) (ls' := [some (.ref 0), some (.int x1), some (.int x2), some (.int x3), some (.null), none]) (st' := [.null]) (σ' := σ) [(.astore 4, 2, 0, 0, 0, 0), (.aload 4, 2, 0, 0, 0, 0)] (pc2 := 9) (by decide +kernel) rfl trivial ?_
    refine h.ifnonnullN (show decode cX5_put 9 = .ok (.ifnonnull 5, 3) by decide +kernel) ?_
    show V 12 [some (.ref 0), some (.int x1), some (.int x2), some (.int x3), some (.null), none] [] σ
    refine h.run (o := []) (ls' := [some (.ref 0), some (.int x1), some (.int x2), some (.int x3), some (.null), none]) (st' := [.int (-1)]) (σ' := σ) [(.iconst (-1), 1, (-1), 0, 0, 0)] (pc2 := 13) (by decide +kernel) rfl trivial ?_
    obtain ⟨rfl, rfl⟩ := Prod.mk.inj (Option.some.inj hf)
    exact hm.iret (by decide +kernel)
  | some s1 =>
    dsimp only at hf
    have hs1 : kd s1 = 3 := shelfAt_kd e1
    show V 5 [some (.ref 0), some (.int x1), some (.int x2), some (.int x3), none, none] [.ref s1] σ
    refine h.run (o := []) (ls' := [some (.ref 0), some (.int x1), some (.int x2), some (.int x3), some (.ref s1), none]) (st' := [.ref s1]) (σ' := σ) [(.astore 4, 2, 0, 0, 0, 0), (.aload 4, 2, 0, 0, 0, 0)] (pc2 := 9) (by decide +kernel) rfl trivial ?_
    refine h.ifnonnull (show decode cX5_put 9 = .ok (.ifnonnull 5, 3) by decide +kernel) (tgt := 14) (by decide) ?_
    refine h.run (o := []) (ls' := [some (.ref 0), some (.int x1), some (.int x2), some (.int x3), some (.ref s1), none]) (st' := [.ref s1]) (σ' := σ) [(.aload 4, 2, 0, 0, 0, 0)] (pc2 := 16) (by decide +kernel) rfl trivial ?_
    obtain ⟨a2, e2, hf⟩ := bR_some hf
    refine h.callV (as := []) (rest := []) (by decide +kernel) lk5_48 cwX3_refusalAsRow hs1 (kmX3_refusalAsRow l hs1 e2) rfl (Nat.le_of_ble_eq_true rfl) (Nat.le_of_ble_eq_true rfl) (Nat.le_of_ble_eq_true rfl) ?_
    show V 19 [some (.ref 0), some (.int x1), some (.int x2), some (.int x3), some (.ref s1), none] [.int a2] σ
    refine h.run (o := []) (ls' := [some (.ref 0), some (.int x1), some (.int x2), some (.int x3), some (.ref s1), some (.int a2)]) (st' := [.int a2]) (σ' := σ) [(.istore 5, 2, 0, 0, 0, 0), (.iload 5, 2, 0, 0, 0, 0)] (pc2 := 23) (by decide +kernel) rfl trivial ?_
    refine h.if_eq (tgt := 29) (show decode cX5_put 23 = .ok (.ifCond .eq 6, 3) by decide +kernel) (by decide) (fun c6 => ?_) (fun c6 => ?_)
    · rw [if_pos c6] at hf
      refine h.run (o := []) (ls' := [some (.ref 0), some (.int x1), some (.int x2), some (.int x3), some (.ref s1), some (.int a2)]) (st' := [.int x2, .ref s1]) (σ' := σ) [(.aload 4, 2, 0, 0, 0, 0), (.iload_n 2, 1, 0, 0, 0, 0)] (pc2 := 32) (by decide +kernel) rfl trivial ?_
      obtain ⟨a3, e3, hf⟩ := bR_some hf
      refine h.callV (as := [.int x2]) (rest := []) (by decide +kernel) lk5_220 cwX3_has hs1 (kmX3_has l hs1 e3) rfl (Nat.le_of_ble_eq_true rfl) (Nat.le_of_ble_eq_true rfl) (Nat.le_of_ble_eq_true rfl) ?_
      show V 35 [some (.ref 0), some (.int x1), some (.int x2), some (.int x3), some (.ref s1), some (.int a2)] [.int a3] σ
      refine h.if_ne (tgt := 41) (show decode cX5_put 35 = .ok (.ifCond .ne 6, 3) by decide +kernel) (by decide) (fun c5 => ?_) (fun c5 => ?_)
      · rw [if_neg c5] at hf
        refine h.run (o := []) (ls' := [some (.ref 0), some (.int x1), some (.int x2), some (.int x3), some (.ref s1), some (.int a2)]) (st' := [.int x3, .int x2, .ref s1]) (σ' := σ) [(.aload 4, 2, 0, 0, 0, 0), (.iload_n 2, 1, 0, 0, 0, 0), (.iload_n 3, 1, 0, 0, 0, 0)] (pc2 := 45) (by decide +kernel) rfl trivial ?_
        obtain ⟨σ4, e4, hf⟩ := bR_some hf
        refine h.callV (as := [.int x2, .int x3]) (rest := []) (by decide +kernel) lk5_221 cwX3_write hs1 (kmX3_write l hs1 e4) rfl (Nat.le_of_ble_eq_true rfl) (Nat.le_of_ble_eq_true rfl) (Nat.le_of_ble_eq_true rfl) ?_
        show V 48 [some (.ref 0), some (.int x1), some (.int x2), some (.int x3), some (.ref s1), some (.int a2)] [] σ4
        refine h.run (o := []) (ls' := [some (.ref 0), some (.int x1), some (.int x2), some (.int x3), some (.ref s1), some (.int a2)]) (st' := [.int 0]) (σ' := σ4) [(.iconst 0, 1, 0, 0, 0, 0)] (pc2 := 49) (by decide +kernel) rfl trivial ?_
        obtain ⟨rfl, rfl⟩ := Prod.mk.inj (Option.some.inj hf)
        exact hm.iret (by decide +kernel)
      · rw [if_pos c5] at hf
        show V 38 [some (.ref 0), some (.int x1), some (.int x2), some (.int x3), some (.ref s1), some (.int a2)] [] σ
        refine h.run (o := []) (ls' := [some (.ref 0), some (.int x1), some (.int x2), some (.int x3), some (.ref s1), some (.int a2)]) (st' := [.int (-13)]) (σ' := σ) [(.bipush (-13), 2, (-13), 0, 0, 0)] (pc2 := 40) (by decide +kernel) rfl trivial ?_
        obtain ⟨rfl, rfl⟩ := Prod.mk.inj (Option.some.inj hf)
        exact hm.iret (by decide +kernel)
    · rw [if_neg c6] at hf
      show V 26 [some (.ref 0), some (.int x1), some (.int x2), some (.int x3), some (.ref s1), some (.int a2)] [] σ
      refine h.run (o := []) (ls' := [some (.ref 0), some (.int x1), some (.int x2), some (.int x3), some (.ref s1), some (.int a2)]) (st' := [.int a2]) (σ' := σ) [(.iload 5, 2, 0, 0, 0, 0)] (pc2 := 28) (by decide +kernel) rfl trivial ?_
      obtain ⟨rfl, rfl⟩ := Prod.mk.inj (Option.some.inj hf)
      exact hm.iret (by decide +kernel)
def fX5_copy_24 (σ : ST) : Option (Int32 × ST) :=
  some ((-1), σ)
set_option maxHeartbeats 4000000 in
theorem wX5_copy_24 {l : Launch} {V : Nat → List (Option Value) → List Value → ST → Prop} {r : Int32} {τ : ST} {σ : ST} (hm : BM l 5 cX5_copy 9 (some .int) 1 40 (some (.int r)) τ V) (hf : fX5_copy_24 σ = some (r, τ)) : V 24 [none, none, none, none, none, none, none, none, none] [] σ := by
  have h := hm.bd
  unfold fX5_copy_24 at hf
  refine h.run (o := []) (ls' := [none, none, none, none, none, none, none, none, none]) (st' := [.int (-1)]) (σ' := σ) [(.iconst (-1), 1, (-1), 0, 0, 0)] (pc2 := 25) (by decide +kernel) rfl trivial ?_
  obtain ⟨rfl, rfl⟩ := Prod.mk.inj (Option.some.inj hf)
  exact hm.iret (by decide +kernel)
def fX5_copy_82 (σ : ST) : Option (Int32 × ST) :=
  some ((-13), σ)
set_option maxHeartbeats 4000000 in
theorem wX5_copy_82 {l : Launch} {V : Nat → List (Option Value) → List Value → ST → Prop} {r : Int32} {τ : ST} {σ : ST} (hm : BM l 5 cX5_copy 9 (some .int) 1 40 (some (.int r)) τ V) (hf : fX5_copy_82 σ = some (r, τ)) : V 82 [none, none, none, none, none, none, none, none, none] [] σ := by
  have h := hm.bd
  unfold fX5_copy_82 at hf
  refine h.run (o := []) (ls' := [none, none, none, none, none, none, none, none, none]) (st' := [.int (-13)]) (σ' := σ) [(.bipush (-13), 2, (-13), 0, 0, 0)] (pc2 := 84) (by decide +kernel) rfl trivial ?_
  obtain ⟨rfl, rfl⟩ := Prod.mk.inj (Option.some.inj hf)
  exact hm.iret (by decide +kernel)
def fX5_copy (x1 : Int32) (x2 : Int32) (x3 : Int32) (x4 : Int32) (x5 : Int32) (σ : ST) : Option (Int32 × ST) :=
  bR (fX5_shelfAt x1 σ) fun o1 =>
  match o1 with
  | none =>
    bR (fX5_shelfAt x3 σ) fun o2 =>
    match o2 with
    | none =>
      fX5_copy_24 σ
    | some s2 =>
      fX5_copy_24 σ
  | some s1 =>
    bR (fX5_shelfAt x3 σ) fun o3 =>
    match o3 with
    | none =>
      fX5_copy_24 σ
    | some s3 =>
      bR (fX5_refusalAsRows s1 s3 σ) fun a4 =>
      if a4 = 0 then
        if (σ.1 s1 5) = (σ.1 s3 5) then
          bR (fX3_hasRun s1 x2 x5 σ) fun a5 =>
          if a5 = 0 then
            fX5_copy_82 σ
          else
            bR (fX3_hasRun s3 x4 x5 σ) fun a6 =>
            if a6 = 0 then
              fX5_copy_82 σ
            else
              gd (okCpy x2 x4 x5 (alen (s1 + 1)) (alen (s3 + 1))) <|
              some (x5, cpyI σ (s1 + 1) (s3 + 1) (x2 : Int32).toNatClampNeg (x4 : Int32).toNatClampNeg (x5 : Int32).toNatClampNeg)
        else
          some ((-12), σ)
      else
        some (a4, σ)
set_option maxHeartbeats 4000000 in
theorem kmX5_copy (l : Launch) {x1 : Int32} {x2 : Int32} {x3 : Int32} {x4 : Int32} {x5 : Int32} {σ : ST} {r : Int32} {τ : ST} (hf : fX5_copy x1 x2 x3 x4 x5 σ = some (r, τ)) : KM l yX5_copy cX5_copy 9 (some .int) 1 40 [.ref 0, .int x1, .int x2, .int x3, .int x4, .int x5] σ (some (.int r)) τ := by
  refine KM.intro (ow := 5) (by decide +kernel) rfl (Nat.le_of_ble_eq_true rfl) (fun V hm => ?_)
  show V 0 [some (.ref 0), some (.int x1), some (.int x2), some (.int x3), some (.int x4), some (.int x5), none, none, none] [] σ
  have h := hm.bd
  unfold fX5_copy at hf
  refine h.run (o := []) (ls' := [some (.ref 0), some (.int x1), some (.int x2), some (.int x3), some (.int x4), some (.int x5), none, none, none]) (st' := [.int x1, .ref 0]) (σ' := σ) [(.aload_n 0, 1, 0, 0, 0, 0), (.iload_n 1, 1, 0, 0, 0, 0)] (pc2 := 2) (by decide +kernel) rfl trivial ?_
  obtain ⟨o1, e1, hf⟩ := bR_some hf
  refine h.callV (as := [.int x1]) (rest := []) (by decide +kernel) lk5_44 cwX5_shelfAt kd_0 (kmX5_shelfAt l e1) rfl (Nat.le_of_ble_eq_true rfl) (Nat.le_of_ble_eq_true rfl) (Nat.le_of_ble_eq_true rfl) ?_
  cases o1 with
  | none =>
    dsimp only at hf
    show V 5 [some (.ref 0), some (.int x1), some (.int x2), some (.int x3), some (.int x4), some (.int x5), none, none, none] [.null] σ
    refine h.run (o := []) (ls' := [some (.ref 0), some (.int x1), some (.int x2), some (.int x3), some (.int x4), some (.int x5), some (.null), none, none]) (st' := [.int x3, .ref 0]) (σ' := σ) [(.astore 6, 2, 0, 0, 0, 0), (.aload_n 0, 1, 0, 0, 0, 0), (.iload_n 3, 1, 0, 0, 0, 0)] (pc2 := 9) (by decide +kernel) rfl trivial ?_
    obtain ⟨o2, e2, hf⟩ := bR_some hf
    refine h.callV (as := [.int x3]) (rest := []) (by decide +kernel) lk5_44 cwX5_shelfAt kd_0 (kmX5_shelfAt l e2) rfl (Nat.le_of_ble_eq_true rfl) (Nat.le_of_ble_eq_true rfl) (Nat.le_of_ble_eq_true rfl) ?_
    cases o2 with
    | none =>
      dsimp only at hf
      show V 12 [some (.ref 0), some (.int x1), some (.int x2), some (.int x3), some (.int x4), some (.int x5), some (.null), none, none] [.null] σ
      refine h.run (o := []) (ls' := [some (.ref 0), some (.int x1), some (.int x2), some (.int x3), some (.int x4), some (.int x5), some (.null), some (.null), none]) (st' := [.null]) (σ' := σ) [(.astore 7, 2, 0, 0, 0, 0), (.aload 6, 2, 0, 0, 0, 0)] (pc2 := 16) (by decide +kernel) rfl trivial ?_
      refine h.ifnullN (show decode cX5_copy 16 = .ok (.ifnull 8, 3) by decide +kernel) (tgt := 24) (by decide) ?_
      refine h.drop (ls' := [none, none, none, none, none, none, none, none, none]) trivial ?_
      exact wX5_copy_24 hm hf
    | some s2 =>
      dsimp only at hf
      have hs2 : kd s2 = 3 := shelfAt_kd e2
      show V 12 [some (.ref 0), some (.int x1), some (.int x2), some (.int x3), some (.int x4), some (.int x5), some (.null), none, none] [.ref s2] σ
      refine h.run (o := []) (ls' := [some (.ref 0), some (.int x1), some (.int x2), some (.int x3), some (.int x4), some (.int x5), some (.null), some (.ref s2), none]) (st' := [.null]) (σ' := σ) [(.astore 7, 2, 0, 0, 0, 0), (.aload 6, 2, 0, 0, 0, 0)] (pc2 := 16) (by decide +kernel) rfl trivial ?_
      refine h.ifnullN (show decode cX5_copy 16 = .ok (.ifnull 8, 3) by decide +kernel) (tgt := 24) (by decide) ?_
      refine h.drop (ls' := [none, none, none, none, none, none, none, none, none]) trivial ?_
      exact wX5_copy_24 hm hf
  | some s1 =>
    dsimp only at hf
    have hs1 : kd s1 = 3 := shelfAt_kd e1
    show V 5 [some (.ref 0), some (.int x1), some (.int x2), some (.int x3), some (.int x4), some (.int x5), none, none, none] [.ref s1] σ
    refine h.run (o := []) (ls' := [some (.ref 0), some (.int x1), some (.int x2), some (.int x3), some (.int x4), some (.int x5), some (.ref s1), none, none]) (st' := [.int x3, .ref 0]) (σ' := σ) [(.astore 6, 2, 0, 0, 0, 0), (.aload_n 0, 1, 0, 0, 0, 0), (.iload_n 3, 1, 0, 0, 0, 0)] (pc2 := 9) (by decide +kernel) rfl trivial ?_
    obtain ⟨o3, e3, hf⟩ := bR_some hf
    refine h.callV (as := [.int x3]) (rest := []) (by decide +kernel) lk5_44 cwX5_shelfAt kd_0 (kmX5_shelfAt l e3) rfl (Nat.le_of_ble_eq_true rfl) (Nat.le_of_ble_eq_true rfl) (Nat.le_of_ble_eq_true rfl) ?_
    cases o3 with
    | none =>
      dsimp only at hf
      show V 12 [some (.ref 0), some (.int x1), some (.int x2), some (.int x3), some (.int x4), some (.int x5), some (.ref s1), none, none] [.null] σ
      refine h.run (o := []) (ls' := [some (.ref 0), some (.int x1), some (.int x2), some (.int x3), some (.int x4), some (.int x5), some (.ref s1), some (.null), none]) (st' := [.ref s1]) (σ' := σ) [(.astore 7, 2, 0, 0, 0, 0), (.aload 6, 2, 0, 0, 0, 0)] (pc2 := 16) (by decide +kernel) rfl trivial ?_
      refine h.ifnull (show decode cX5_copy 16 = .ok (.ifnull 8, 3) by decide +kernel) ?_
      show V 19 [some (.ref 0), some (.int x1), some (.int x2), some (.int x3), some (.int x4), some (.int x5), some (.ref s1), some (.null), none] [] σ
      refine h.run (o := []) (ls' := [some (.ref 0), some (.int x1), some (.int x2), some (.int x3), some (.int x4), some (.int x5), some (.ref s1), some (.null), none]) (st' := [.null]) (σ' := σ) [(.aload 7, 2, 0, 0, 0, 0)] (pc2 := 21) (by decide +kernel) rfl trivial ?_
      refine h.ifnonnullN (show decode cX5_copy 21 = .ok (.ifnonnull 5, 3) by decide +kernel) ?_
      show V 24 [some (.ref 0), some (.int x1), some (.int x2), some (.int x3), some (.int x4), some (.int x5), some (.ref s1), some (.null), none] [] σ
      refine h.drop (ls' := [none, none, none, none, none, none, none, none, none]) trivial ?_
      exact wX5_copy_24 hm hf
    | some s3 =>
      dsimp only at hf
      have hs3 : kd s3 = 3 := shelfAt_kd e3
      show V 12 [some (.ref 0), some (.int x1), some (.int x2), some (.int x3), some (.int x4), some (.int x5), some (.ref s1), none, none] [.ref s3] σ
      refine h.run (o := []) (ls' := [some (.ref 0), some (.int x1), some (.int x2), some (.int x3), some (.int x4), some (.int x5), some (.ref s1), some (.ref s3), none]) (st' := [.ref s1]) (σ' := σ) [(.astore 7, 2, 0, 0, 0, 0), (.aload 6, 2, 0, 0, 0, 0)] (pc2 := 16) (by decide +kernel) rfl trivial ?_
      refine h.ifnull (show decode cX5_copy 16 = .ok (.ifnull 8, 3) by decide +kernel) ?_
      show V 19 [some (.ref 0), some (.int x1), some (.int x2), some (.int x3), some (.int x4), some (.int x5), some (.ref s1), some (.ref s3), none] [] σ
      refine h.run (o := []) (ls' := [some (.ref 0), some (.int x1), some (.int x2), some (.int x3), some (.int x4), some (.int x5), some (.ref s1), some (.ref s3), none]) (st' := [.ref s3]) (σ' := σ) [(.aload 7, 2, 0, 0, 0, 0)] (pc2 := 21) (by decide +kernel) rfl trivial ?_
      refine h.ifnonnull (show decode cX5_copy 21 = .ok (.ifnonnull 5, 3) by decide +kernel) (tgt := 26) (by decide) ?_
      refine h.run (o := []) (ls' := [some (.ref 0), some (.int x1), some (.int x2), some (.int x3), some (.int x4), some (.int x5), some (.ref s1), some (.ref s3), none]) (st' := [.ref s3, .ref s1]) (σ' := σ) [(.aload 6, 2, 0, 0, 0, 0), (.aload 7, 2, 0, 0, 0, 0)] (pc2 := 30) (by decide +kernel) rfl trivial ?_
      obtain ⟨a4, e4, hf⟩ := bR_some hf
      refine h.callS (as := [.ref s1, .ref s3]) (rest := []) (by decide +kernel) lk5_179 cwX5_refusalAsRows (kmX5_refusalAsRows l hs1 hs3 e4) rfl (Nat.le_of_ble_eq_true rfl) (Nat.le_of_ble_eq_true rfl) (Nat.le_of_ble_eq_true rfl) ?_
      show V 33 [some (.ref 0), some (.int x1), some (.int x2), some (.int x3), some (.int x4), some (.int x5), some (.ref s1), some (.ref s3), none] [.int a4] σ
      refine h.run (o := []) (ls' := [some (.ref 0), some (.int x1), some (.int x2), some (.int x3), some (.int x4), some (.int x5), some (.ref s1), some (.ref s3), some (.int a4)]) (st' := [.int a4]) (σ' := σ) [(.istore 8, 2, 0, 0, 0, 0), (.iload 8, 2, 0, 0, 0, 0)] (pc2 := 37) (by decide +kernel) rfl trivial ?_
      refine h.if_eq (tgt := 43) (show decode cX5_copy 37 = .ok (.ifCond .eq 6, 3) by decide +kernel) (by decide) (fun c11 => ?_) (fun c11 => ?_)
      · rw [if_pos c11] at hf
        refine h.run (o := [kd s1 = 3, kd s3 = 3]) (ls' := [some (.ref 0), some (.int x1), some (.int x2), some (.int x3), some (.int x4), some (.int x5), some (.ref s1), some (.ref s3), some (.int a4)]) (st' := [.int (σ.1 s3 5), .int (σ.1 s1 5)]) (σ' := σ) [(.aload 6, 2, 0, 0, 0, 0), (.getfield 52, 3, 0, 0, 3, 5), (.aload 7, 2, 0, 0, 0, 0), (.getfield 52, 3, 0, 0, 3, 5)] (pc2 := 53) (by decide +kernel) rfl (And.intro hs1 (And.intro hs3 trivial)) ?_
        refine h.icmp_eq (tgt := 59) (show decode cX5_copy 53 = .ok (.if_icmp .eq 6, 3) by decide +kernel) (by decide) (fun c10 => ?_) (fun c10 => ?_)
        · rw [if_pos c10] at hf
          refine h.run (o := []) (ls' := [some (.ref 0), some (.int x1), some (.int x2), some (.int x3), some (.int x4), some (.int x5), some (.ref s1), some (.ref s3), some (.int a4)]) (st' := [.int x5, .int x2, .ref s1]) (σ' := σ) [(.aload 6, 2, 0, 0, 0, 0), (.iload_n 2, 1, 0, 0, 0, 0), (.iload 5, 2, 0, 0, 0, 0)] (pc2 := 64) (by decide +kernel) rfl trivial ?_
          obtain ⟨a5, e5, hf⟩ := bR_some hf
          refine h.callV (as := [.int x2, .int x5]) (rest := []) (by decide +kernel) lk5_235 cwX3_hasRun hs1 (kmX3_hasRun l hs1 e5) rfl (Nat.le_of_ble_eq_true rfl) (Nat.le_of_ble_eq_true rfl) (Nat.le_of_ble_eq_true rfl) ?_
          show V 67 [some (.ref 0), some (.int x1), some (.int x2), some (.int x3), some (.int x4), some (.int x5), some (.ref s1), some (.ref s3), some (.int a4)] [.int a5] σ
          refine h.if_eq (tgt := 82) (show decode cX5_copy 67 = .ok (.ifCond .eq 15, 3) by decide +kernel) (by decide) (fun c9 => ?_) (fun c9 => ?_)
          · rw [if_pos c9] at hf
            refine h.drop (ls' := [none, none, none, none, none, none, none, none, none]) trivial ?_
            exact wX5_copy_82 hm hf
          · rw [if_neg c9] at hf
            show V 70 [some (.ref 0), some (.int x1), some (.int x2), some (.int x3), some (.int x4), some (.int x5), some (.ref s1), some (.ref s3), some (.int a4)] [] σ
            refine h.run (o := []) (ls' := [some (.ref 0), some (.int x1), some (.int x2), some (.int x3), some (.int x4), some (.int x5), some (.ref s1), some (.ref s3), some (.int a4)]) (st' := [.int x5, .int x4, .ref s3]) (σ' := σ) [(.aload 7, 2, 0, 0, 0, 0), (.iload 4, 2, 0, 0, 0, 0), (.iload 5, 2, 0, 0, 0, 0)] (pc2 := 76) (by decide +kernel) rfl trivial ?_
            obtain ⟨a6, e6, hf⟩ := bR_some hf
            refine h.callV (as := [.int x4, .int x5]) (rest := []) (by decide +kernel) lk5_235 cwX3_hasRun hs3 (kmX3_hasRun l hs3 e6) rfl (Nat.le_of_ble_eq_true rfl) (Nat.le_of_ble_eq_true rfl) (Nat.le_of_ble_eq_true rfl) ?_
            show V 79 [some (.ref 0), some (.int x1), some (.int x2), some (.int x3), some (.int x4), some (.int x5), some (.ref s1), some (.ref s3), some (.int a4)] [.int a6] σ
            refine h.if_ne (tgt := 85) (show decode cX5_copy 79 = .ok (.ifCond .ne 6, 3) by decide +kernel) (by decide) (fun c8 => ?_) (fun c8 => ?_)
            · rw [if_neg c8] at hf
              refine h.run (o := [kd s1 = 3, kd s3 = 3]) (ls' := [some (.ref 0), some (.int x1), some (.int x2), some (.int x3), some (.int x4), some (.int x5), some (.ref s1), some (.ref s3), some (.int a4)]) (st' := [.int x5, .int x4, .ref (s3 + 1), .int x2, .ref (s1 + 1)]) (σ' := σ) [(.aload 6, 2, 0, 0, 0, 0), (.getfield 238, 3, 0, 0, 3, 7), (.iload_n 2, 1, 0, 0, 0, 0), (.aload 7, 2, 0, 0, 0, 0), (.getfield 238, 3, 0, 0, 3, 7), (.iload 4, 2, 0, 0, 0, 0), (.iload 5, 2, 0, 0, 0, 0)] (pc2 := 100) (by decide +kernel) rfl (And.intro hs1 (And.intro hs3 trivial)) ?_
              obtain ⟨g7, hf⟩ := gd_some hf
              refine h.cpy jw_lc5 (by decide +kernel) (kd_S hs1).1 (kd_S hs3).1 g7 (Nat.le_of_ble_eq_true rfl) (Nat.le_of_ble_eq_true rfl) ?_
              show V 103 [some (.ref 0), some (.int x1), some (.int x2), some (.int x3), some (.int x4), some (.int x5), some (.ref s1), some (.ref s3), some (.int a4)] [] (cpyI σ (s1 + 1) (s3 + 1) (x2 : Int32).toNatClampNeg (x4 : Int32).toNatClampNeg (x5 : Int32).toNatClampNeg)
              refine h.run (o := []) (ls' := [some (.ref 0), some (.int x1), some (.int x2), some (.int x3), some (.int x4), some (.int x5), some (.ref s1), some (.ref s3), some (.int a4)]) (st' := [.int x5]) (σ' := cpyI σ (s1 + 1) (s3 + 1) (x2 : Int32).toNatClampNeg (x4 : Int32).toNatClampNeg (x5 : Int32).toNatClampNeg) [(.iload 5, 2, 0, 0, 0, 0)] (pc2 := 105) (by decide +kernel) rfl trivial ?_
              obtain ⟨rfl, rfl⟩ := Prod.mk.inj (Option.some.inj hf)
              exact hm.iret (by decide +kernel)
            · rw [if_pos c8] at hf
              show V 82 [some (.ref 0), some (.int x1), some (.int x2), some (.int x3), some (.int x4), some (.int x5), some (.ref s1), some (.ref s3), some (.int a4)] [] σ
              refine h.drop (ls' := [none, none, none, none, none, none, none, none, none]) trivial ?_
              exact wX5_copy_82 hm hf
        · rw [if_neg c10] at hf
          show V 56 [some (.ref 0), some (.int x1), some (.int x2), some (.int x3), some (.int x4), some (.int x5), some (.ref s1), some (.ref s3), some (.int a4)] [] σ
          refine h.run (o := []) (ls' := [some (.ref 0), some (.int x1), some (.int x2), some (.int x3), some (.int x4), some (.int x5), some (.ref s1), some (.ref s3), some (.int a4)]) (st' := [.int (-12)]) (σ' := σ) [(.bipush (-12), 2, (-12), 0, 0, 0)] (pc2 := 58) (by decide +kernel) rfl trivial ?_
          obtain ⟨rfl, rfl⟩ := Prod.mk.inj (Option.some.inj hf)
          exact hm.iret (by decide +kernel)
      · rw [if_neg c11] at hf
        show V 40 [some (.ref 0), some (.int x1), some (.int x2), some (.int x3), some (.int x4), some (.int x5), some (.ref s1), some (.ref s3), some (.int a4)] [] σ
        refine h.run (o := []) (ls' := [some (.ref 0), some (.int x1), some (.int x2), some (.int x3), some (.int x4), some (.int x5), some (.ref s1), some (.ref s3), some (.int a4)]) (st' := [.int a4]) (σ' := σ) [(.iload 8, 2, 0, 0, 0, 0)] (pc2 := 42) (by decide +kernel) rfl trivial ?_
        obtain ⟨rfl, rfl⟩ := Prod.mk.inj (Option.some.inj hf)
        exact hm.iret (by decide +kernel)
def fX5_faith_33 (t0 : Int32) (σ : ST) : Option Int32 :=
  some t0
set_option maxHeartbeats 4000000 in
theorem wX5_faith_33 {l : Launch} {V : Nat → List (Option Value) → List Value → ST → Prop} {r : Int32} {σ : ST} {t0 : Int32} (hm : BM l 5 cX5_faith 4 (some .int) 1 23 (some (.int r)) σ V) (hf : fX5_faith_33 t0 σ = some r) : V 33 [none, none, none, none] [.int t0] σ := by
  have h := hm.bd
  unfold fX5_faith_33 at hf
  obtain rfl := Option.some.inj hf
  exact hm.iret (by decide +kernel)
def fX5_faith (x1 : Int32) (σ : ST) : Option Int32 :=
  bR (fX5_shelfAt x1 σ) fun o1 =>
  match o1 with
  | none =>
    some (-1000000001)
  | some s1 =>
    bR (fX3_refusalAsSender s1 σ) fun a2 =>
    if a2 = 0 then
      bR (fX3_faithOfSender s1 σ) fun a3 =>
      fX5_faith_33 a3 σ
    else
      fX5_faith_33 ((-1000000000) + a2) σ
set_option maxHeartbeats 4000000 in
theorem kmX5_faith (l : Launch) {x1 : Int32} {σ : ST} {r : Int32} (hf : fX5_faith x1 σ = some r) : KM l yX5_faith cX5_faith 4 (some .int) 1 23 [.ref 0, .int x1] σ (some (.int r)) σ := by
  refine KM.intro (ow := 5) (by decide +kernel) rfl (Nat.le_of_ble_eq_true rfl) (fun V hm => ?_)
  show V 0 [some (.ref 0), some (.int x1), none, none] [] σ
  have h := hm.bd
  unfold fX5_faith at hf
  refine h.run (o := []) (ls' := [some (.ref 0), some (.int x1), none, none]) (st' := [.int x1, .ref 0]) (σ' := σ) [(.aload_n 0, 1, 0, 0, 0, 0), (.iload_n 1, 1, 0, 0, 0, 0)] (pc2 := 2) (by decide +kernel) rfl trivial ?_
  obtain ⟨o1, e1, hf⟩ := bR_some hf
  refine h.callV (as := [.int x1]) (rest := []) (by decide +kernel) lk5_44 cwX5_shelfAt kd_0 (kmX5_shelfAt l e1) rfl (Nat.le_of_ble_eq_true rfl) (Nat.le_of_ble_eq_true rfl) (Nat.le_of_ble_eq_true rfl) ?_
  cases o1 with
  | none =>
    dsimp only at hf
    show V 5 [some (.ref 0), some (.int x1), none, none] [.null] σ
    refine h.run (o := []) (ls' := [some (.ref 0), some (.int x1), some (.null), none]) (st' := [.null]) (σ' := σ) [(.astore_n 2, 1, 0, 0, 0, 0), (.aload_n 2, 1, 0, 0, 0, 0)] (pc2 := 7) (by decide +kernel) rfl trivial ?_
    refine h.ifnonnullN (show decode cX5_faith 7 = .ok (.ifnonnull 6, 3) by decide +kernel) ?_
    show V 10 [some (.ref 0), some (.int x1), some (.null), none] [] σ
    refine h.run (o := []) (ls' := [some (.ref 0), some (.int x1), some (.null), none]) (st' := [.int (-1000000001)]) (σ' := σ) [(.ldc 153, 2, (-1000000001), 0, 0, 0)] (pc2 := 12) (by decide +kernel) rfl trivial ?_
    obtain rfl := Option.some.inj hf
    exact hm.iret (by decide +kernel)
  | some s1 =>
    dsimp only at hf
    have hs1 : kd s1 = 3 := shelfAt_kd e1
    show V 5 [some (.ref 0), some (.int x1), none, none] [.ref s1] σ
    refine h.run (o := []) (ls' := [some (.ref 0), some (.int x1), some (.ref s1), none]) (st' := [.ref s1]) (σ' := σ) [(.astore_n 2, 1, 0, 0, 0, 0), (.aload_n 2, 1, 0, 0, 0, 0)] (pc2 := 7) (by decide +kernel) rfl trivial ?_
    refine h.ifnonnull (show decode cX5_faith 7 = .ok (.ifnonnull 6, 3) by decide +kernel) (tgt := 13) (by decide) ?_
    refine h.run (o := []) (ls' := [some (.ref 0), some (.int x1), some (.ref s1), none]) (st' := [.ref s1]) (σ' := σ) [(.aload_n 2, 1, 0, 0, 0, 0)] (pc2 := 14) (by decide +kernel) rfl trivial ?_
    obtain ⟨a2, e2, hf⟩ := bR_some hf
    refine h.callV (as := []) (rest := []) (by decide +kernel) lk5_248 cwX3_refusalAsSender hs1 (kmX3_refusalAsSender l hs1 e2) rfl (Nat.le_of_ble_eq_true rfl) (Nat.le_of_ble_eq_true rfl) (Nat.le_of_ble_eq_true rfl) ?_
    show V 17 [some (.ref 0), some (.int x1), some (.ref s1), none] [.int a2] σ
    refine h.run (o := []) (ls' := [some (.ref 0), some (.int x1), some (.ref s1), some (.int a2)]) (st' := [.int a2]) (σ' := σ) [(.istore_n 3, 1, 0, 0, 0, 0), (.iload_n 3, 1, 0, 0, 0, 0)] (pc2 := 19) (by decide +kernel) rfl trivial ?_
    refine h.if_eq (tgt := 29) (show decode cX5_faith 19 = .ok (.ifCond .eq 10, 3) by decide +kernel) (by decide) (fun c4 => ?_) (fun c4 => ?_)
    · rw [if_pos c4] at hf
      refine h.run (o := []) (ls' := [some (.ref 0), some (.int x1), some (.ref s1), some (.int a2)]) (st' := [.ref s1]) (σ' := σ) [(.aload_n 2, 1, 0, 0, 0, 0)] (pc2 := 30) (by decide +kernel) rfl trivial ?_
      obtain ⟨a3, e3, hf⟩ := bR_some hf
      refine h.callV (as := []) (rest := []) (by decide +kernel) lk5_251 cwX3_faithOfSender hs1 (kmX3_faithOfSender l hs1 e3) rfl (Nat.le_of_ble_eq_true rfl) (Nat.le_of_ble_eq_true rfl) (Nat.le_of_ble_eq_true rfl) ?_
      show V 33 [some (.ref 0), some (.int x1), some (.ref s1), some (.int a2)] [.int a3] σ
      refine h.drop (ls' := [none, none, none, none]) trivial ?_
      exact wX5_faith_33 hm hf
    · rw [if_neg c4] at hf
      show V 22 [some (.ref 0), some (.int x1), some (.ref s1), some (.int a2)] [] σ
      refine h.run (o := []) (ls' := [some (.ref 0), some (.int x1), some (.ref s1), some (.int a2)]) (st' := [.int ((-1000000000) + a2)]) (σ' := σ) [(.ldc 183, 2, (-1000000000), 0, 0, 0), (.iload_n 3, 1, 0, 0, 0, 0), (.iadd, 1, 0, 0, 0, 0), (.goto 7, 3, 0, 0, 0, 33)] (pc2 := 33) (by decide +kernel) rfl trivial ?_
      refine h.drop (ls' := [none, none, none, none]) trivial ?_
      exact wX5_faith_33 hm hf
