/-! Printed by wip/whole/prt.py: functions and walks. -/
def fX6_count_12 (n : Nat) (x1 : Int32) (x2 : Int32) (x3 : Int32) (x4 : Int32) (σ : ST) : Option (Int32 × ST) := match n with
  | 0 => none
  | n + 1 =>
    if (σ.1 36 16) ≤ x4 then
      if x1 = 0 then
        some (σ.1 36 3, σ)
      else
        if x1 = 1 then
          some (σ.1 36 7, σ)
        else
          if x1 = 2 then
            some (σ.1 36 16, σ)
          else
            if x1 = 3 then
              some (x2, σ)
            else
              if x1 = 4 then
                some (x3, σ)
              else
                if x1 = 5 then
                  some (σ.1 36 0, σ)
                else
                  if x1 = 6 then
                    some (σ.1 36 1, σ)
                  else
                    some ((-1), σ)
    else
      gd (inb x4 (alen 50)) <|
      gd (inb x4 (alen 52)) <|
      fX6_count_12 n x1 (x2 + (σ.1 50 x4.toNatClampNeg)) (x3 + (σ.1 52 x4.toNatClampNeg)) (x4 + 1) σ
set_option maxHeartbeats 4000000 in
theorem wX6_count_12 {l : Launch} {V : Nat → List (Option Value) → List Value → ST → Prop} {r : Int32} {τ : ST} (hm : BM l 6 cX6_count 5 (some .int) 0 0 (some (.int r)) τ V) : ∀ (n : Nat) (x1 : Int32) (x2 : Int32) (x3 : Int32) (x4 : Int32) (σ : ST), fX6_count_12 n x1 x2 x3 x4 σ = some (r, τ) → V 12 [some (.ref 36), some (.int x1), some (.int x2), some (.int x3), some (.int x4)] [] σ := by
  have h := hm.bd
  intro n
  induction n with
  | zero => intro x1 x2 x3 x4 σ hf; cases hf
  | succ n ih =>
    intro x1 x2 x3 x4 σ hf
    rw [fX6_count_12] at hf
    refine h.run (o := [kd 36 = 6]) (ls' := [some (.ref 36), some (.int x1), some (.int x2), some (.int x3), some (.int x4)]) (st' := [.int (σ.1 36 16), .int x4]) (σ' := σ) [(.iload 4, 2, 0, 0, 0, 0), (.aload_n 0, 1, 0, 0, 0, 0), (.getfield 166, 3, 0, 0, 6, 16)] (pc2 := 18) (by decide +kernel) rfl (And.intro kd_36 trivial) ?_
    refine h.icmp_ge (tgt := 47) (show decode cX6_count 18 = .ok (.if_icmp .ge 29, 3) by decide +kernel) (by decide) (fun c10 => ?_) (fun c10 => ?_)
    · rw [if_pos c10] at hf
      refine h.run (o := []) (ls' := [some (.ref 36), some (.int x1), some (.int x2), some (.int x3), some (.int x4)]) (st' := [.int x1]) (σ' := σ) [(.iload_n 1, 1, 0, 0, 0, 0)] (pc2 := 48) (by decide +kernel) rfl trivial ?_
      by_cases c1 : x1 = 0
      · rw [if_pos c1] at hf
        refine h.tableIn (off := 44) (tgt := 92) (show decode cX6_count 48 = .ok (.tableswitch 73 0 6 #[44, 49, 54, 59, 61, 63, 68], 44) by decide +kernel) (by rw [c1]; decide) (by rw [c1]; decide) (by rw [c1]; decide) (by decide) ?_
        refine h.run (o := [kd 36 = 6]) (ls' := [some (.ref 36), some (.int x1), some (.int x2), some (.int x3), some (.int x4)]) (st' := [.int (σ.1 36 3)]) (σ' := σ) [(.aload_n 0, 1, 0, 0, 0, 0), (.getfield 116, 3, 0, 0, 6, 3)] (pc2 := 96) (by decide +kernel) rfl (And.intro kd_36 trivial) ?_
        obtain ⟨rfl, rfl⟩ := Prod.mk.inj (Option.some.inj hf)
        exact hm.iret (by decide +kernel)
      · rw [if_neg c1] at hf
        by_cases c2 : x1 = 1
        · rw [if_pos c2] at hf
          refine h.tableIn (off := 49) (tgt := 97) (show decode cX6_count 48 = .ok (.tableswitch 73 0 6 #[44, 49, 54, 59, 61, 63, 68], 44) by decide +kernel) (by rw [c2]; decide) (by rw [c2]; decide) (by rw [c2]; decide) (by decide) ?_
          refine h.run (o := [kd 36 = 6]) (ls' := [some (.ref 36), some (.int x1), some (.int x2), some (.int x3), some (.int x4)]) (st' := [.int (σ.1 36 7)]) (σ' := σ) [(.aload_n 0, 1, 0, 0, 0, 0), (.getfield 123, 3, 0, 0, 6, 7)] (pc2 := 101) (by decide +kernel) rfl (And.intro kd_36 trivial) ?_
          obtain ⟨rfl, rfl⟩ := Prod.mk.inj (Option.some.inj hf)
          exact hm.iret (by decide +kernel)
        · rw [if_neg c2] at hf
          by_cases c3 : x1 = 2
          · rw [if_pos c3] at hf
            refine h.tableIn (off := 54) (tgt := 102) (show decode cX6_count 48 = .ok (.tableswitch 73 0 6 #[44, 49, 54, 59, 61, 63, 68], 44) by decide +kernel) (by rw [c3]; decide) (by rw [c3]; decide) (by rw [c3]; decide) (by decide) ?_
            refine h.run (o := [kd 36 = 6]) (ls' := [some (.ref 36), some (.int x1), some (.int x2), some (.int x3), some (.int x4)]) (st' := [.int (σ.1 36 16)]) (σ' := σ) [(.aload_n 0, 1, 0, 0, 0, 0), (.getfield 166, 3, 0, 0, 6, 16)] (pc2 := 106) (by decide +kernel) rfl (And.intro kd_36 trivial) ?_
            obtain ⟨rfl, rfl⟩ := Prod.mk.inj (Option.some.inj hf)
            exact hm.iret (by decide +kernel)
          · rw [if_neg c3] at hf
            by_cases c4 : x1 = 3
            · rw [if_pos c4] at hf
              refine h.tableIn (off := 59) (tgt := 107) (show decode cX6_count 48 = .ok (.tableswitch 73 0 6 #[44, 49, 54, 59, 61, 63, 68], 44) by decide +kernel) (by rw [c4]; decide) (by rw [c4]; decide) (by rw [c4]; decide) (by decide) ?_
              refine h.run (o := []) (ls' := [some (.ref 36), some (.int x1), some (.int x2), some (.int x3), some (.int x4)]) (st' := [.int x2]) (σ' := σ) [(.iload_n 2, 1, 0, 0, 0, 0)] (pc2 := 108) (by decide +kernel) rfl trivial ?_
              obtain ⟨rfl, rfl⟩ := Prod.mk.inj (Option.some.inj hf)
              exact hm.iret (by decide +kernel)
            · rw [if_neg c4] at hf
              by_cases c5 : x1 = 4
              · rw [if_pos c5] at hf
                refine h.tableIn (off := 61) (tgt := 109) (show decode cX6_count 48 = .ok (.tableswitch 73 0 6 #[44, 49, 54, 59, 61, 63, 68], 44) by decide +kernel) (by rw [c5]; decide) (by rw [c5]; decide) (by rw [c5]; decide) (by decide) ?_
                refine h.run (o := []) (ls' := [some (.ref 36), some (.int x1), some (.int x2), some (.int x3), some (.int x4)]) (st' := [.int x3]) (σ' := σ) [(.iload_n 3, 1, 0, 0, 0, 0)] (pc2 := 110) (by decide +kernel) rfl trivial ?_
                obtain ⟨rfl, rfl⟩ := Prod.mk.inj (Option.some.inj hf)
                exact hm.iret (by decide +kernel)
              · rw [if_neg c5] at hf
                by_cases c6 : x1 = 5
                · rw [if_pos c6] at hf
                  refine h.tableIn (off := 63) (tgt := 111) (show decode cX6_count 48 = .ok (.tableswitch 73 0 6 #[44, 49, 54, 59, 61, 63, 68], 44) by decide +kernel) (by rw [c6]; decide) (by rw [c6]; decide) (by rw [c6]; decide) (by decide) ?_
                  refine h.run (o := [kd 36 = 6]) (ls' := [some (.ref 36), some (.int x1), some (.int x2), some (.int x3), some (.int x4)]) (st' := [.int (σ.1 36 0)]) (σ' := σ) [(.aload_n 0, 1, 0, 0, 0, 0), (.getfield 7, 3, 0, 0, 6, 0)] (pc2 := 115) (by decide +kernel) rfl (And.intro kd_36 trivial) ?_
                  obtain ⟨rfl, rfl⟩ := Prod.mk.inj (Option.some.inj hf)
                  exact hm.iret (by decide +kernel)
                · rw [if_neg c6] at hf
                  by_cases c7 : x1 = 6
                  · rw [if_pos c7] at hf
                    refine h.tableIn (off := 68) (tgt := 116) (show decode cX6_count 48 = .ok (.tableswitch 73 0 6 #[44, 49, 54, 59, 61, 63, 68], 44) by decide +kernel) (by rw [c7]; decide) (by rw [c7]; decide) (by rw [c7]; decide) (by decide) ?_
                    refine h.run (o := [kd 36 = 6]) (ls' := [some (.ref 36), some (.int x1), some (.int x2), some (.int x3), some (.int x4)]) (st' := [.int (σ.1 36 1)]) (σ' := σ) [(.aload_n 0, 1, 0, 0, 0, 0), (.getfield 13, 3, 0, 0, 6, 1)] (pc2 := 120) (by decide +kernel) rfl (And.intro kd_36 trivial) ?_
                    obtain ⟨rfl, rfl⟩ := Prod.mk.inj (Option.some.inj hf)
                    exact hm.iret (by decide +kernel)
                  · rw [if_neg c7] at hf
                    refine h.tableOut (tgt := 121) (show decode cX6_count 48 = .ok (.tableswitch 73 0 6 #[44, 49, 54, 59, 61, 63, 68], 44) by decide +kernel) (sw_out (fun i hl hh => ?_)) (by decide) ?_
                    · rcases (show i = 0 ∨ i = 1 ∨ i = 2 ∨ i = 3 ∨ i = 4 ∨ i = 5 ∨ i = 6 by omega) with rfl | rfl | rfl | rfl | rfl | rfl | rfl
                      · exact sw_ne c1 (by decide)
                      · exact sw_ne c2 (by decide)
                      · exact sw_ne c3 (by decide)
                      · exact sw_ne c4 (by decide)
                      · exact sw_ne c5 (by decide)
                      · exact sw_ne c6 (by decide)
                      · exact sw_ne c7 (by decide)
                    · refine h.run (o := []) (ls' := [some (.ref 36), some (.int x1), some (.int x2), some (.int x3), some (.int x4)]) (st' := [.int (-1)]) (σ' := σ) [(.iconst (-1), 1, (-1), 0, 0, 0)] (pc2 := 122) (by decide +kernel) rfl trivial ?_
                      obtain ⟨rfl, rfl⟩ := Prod.mk.inj (Option.some.inj hf)
                      exact hm.iret (by decide +kernel)
    · rw [if_neg c10] at hf
      show V 21 [some (.ref 36), some (.int x1), some (.int x2), some (.int x3), some (.int x4)] [] σ
      obtain ⟨g8, hf⟩ := gd_some hf
      obtain ⟨g9, hf⟩ := gd_some hf
      refine h.run (o := [kd 36 = 6, kd 50 = 10, inb x4 (alen 50) = true, kd 36 = 6, kd 52 = 10, inb x4 (alen 52) = true]) (ls' := [some (.ref 36), some (.int x1), some (.int (x2 + (σ.1 50 x4.toNatClampNeg))), some (.int (x3 + (σ.1 52 x4.toNatClampNeg))), some (.int (x4 + 1))]) (st' := []) (σ' := σ) [(.iload_n 2, 1, 0, 0, 0, 0), (.aload_n 0, 1, 0, 0, 0, 0), (.getfield 59, 3, 0, 0, 6, 19), (.iload 4, 2, 0, 0, 0, 0), (.iaload, 1, 0, 0, 0, 0), (.iadd, 1, 0, 0, 0, 0), (.istore_n 2, 1, 0, 0, 0, 0), (.iload_n 3, 1, 0, 0, 0, 0), (.aload_n 0, 1, 0, 0, 0, 0), (.getfield 65, 3, 0, 0, 6, 21), (.iload 4, 2, 0, 0, 0, 0), (.iaload, 1, 0, 0, 0, 0), (.iadd, 1, 0, 0, 0, 0), (.istore_n 3, 1, 0, 0, 0, 0), (.iinc 4 1, 3, 1, 0, 0, 0), (.goto (-32), 3, 0, 0, 0, 12)] (pc2 := 12) (by decide +kernel) rfl (And.intro kd_36 (And.intro kd_50 (And.intro g8 (And.intro kd_36 (And.intro kd_52 (And.intro g9 trivial)))))) ?_
      exact ih x1 (x2 + (σ.1 50 x4.toNatClampNeg)) (x3 + (σ.1 52 x4.toNatClampNeg)) (x4 + 1) _ hf
def fX6_count (x1 : Int32) (σ : ST) : Option (Int32 × ST) :=
  fX6_count_12 FU x1 0 0 0 (setI σ 36 23 0)
set_option maxHeartbeats 4000000 in
theorem kmX6_count (l : Launch) {x1 : Int32} {σ : ST} {r : Int32} {τ : ST} (hf : fX6_count x1 σ = some (r, τ)) : KM l yX6_count cX6_count 5 (some .int) 0 0 [.ref 36, .int x1] σ (some (.int r)) τ := by
  refine KM.intro (ow := 6) (by decide +kernel) rfl (Nat.le_of_ble_eq_true rfl) (fun V hm => ?_)
  show V 0 [some (.ref 36), some (.int x1), none, none, none] [] σ
  have h := hm.bd
  unfold fX6_count at hf
  refine h.run (o := [kd 36 = 6]) (ls' := [some (.ref 36), some (.int x1), some (.int 0), some (.int 0), some (.int 0)]) (st' := []) (σ' := setI σ 36 23 0) [(.aload_n 0, 1, 0, 0, 0, 0), (.iconst 0, 1, 0, 0, 0, 0), (.putfield 112, 3, 0, 0, 6, 23), (.iconst 0, 1, 0, 0, 0, 0), (.istore_n 2, 1, 0, 0, 0, 0), (.iconst 0, 1, 0, 0, 0, 0), (.istore_n 3, 1, 0, 0, 0, 0), (.iconst 0, 1, 0, 0, 0, 0), (.istore 4, 2, 0, 0, 0, 0)] (pc2 := 12) (by decide +kernel) rfl (And.intro kd_36 trivial) ?_
  exact wX6_count_12 hm FU x1 0 0 0 _ hf
def fX6_keep_40 (σ : ST) : Option (Int32 × ST) :=
  some ((-1), σ)
set_option maxHeartbeats 4000000 in
theorem wX6_keep_40 {l : Launch} {V : Nat → List (Option Value) → List Value → ST → Prop} {r : Int32} {τ : ST} {σ : ST} (hm : BM l 6 cX6_keep 4 (some .int) 2 46 (some (.int r)) τ V) (hf : fX6_keep_40 σ = some (r, τ)) : V 40 [none, none, none, none] [] σ := by
  have h := hm.bd
  unfold fX6_keep_40 at hf
  refine h.run (o := []) (ls' := [none, none, none, none]) (st' := [.int (-1)]) (σ' := σ) [(.iconst (-1), 1, (-1), 0, 0, 0)] (pc2 := 41) (by decide +kernel) rfl trivial ?_
  obtain ⟨rfl, rfl⟩ := Prod.mk.inj (Option.some.inj hf)
  exact hm.iret (by decide +kernel)
def fX6_keep_97 (σ : ST) : Option (Int32 × ST) :=
  some (0, σ)
set_option maxHeartbeats 4000000 in
theorem wX6_keep_97 {l : Launch} {V : Nat → List (Option Value) → List Value → ST → Prop} {r : Int32} {τ : ST} {σ : ST} (hm : BM l 6 cX6_keep 4 (some .int) 2 46 (some (.int r)) τ V) (hf : fX6_keep_97 σ = some (r, τ)) : V 97 [none, none, none, none] [] σ := by
  have h := hm.bd
  unfold fX6_keep_97 at hf
  refine h.run (o := []) (ls' := [none, none, none, none]) (st' := [.int 0]) (σ' := σ) [(.iconst 0, 1, 0, 0, 0, 0)] (pc2 := 98) (by decide +kernel) rfl trivial ?_
  obtain ⟨rfl, rfl⟩ := Prod.mk.inj (Option.some.inj hf)
  exact hm.iret (by decide +kernel)
def fX6_keep_42 (x1 : Int32) (x2 : Int32) (x3 : Int32) (σ : ST) : Option (Int32 × ST) :=
  gd (inb x1 (alen 58)) <|
  if x2 = 1 then
    gd (inb x1 (alen 59)) <|
    gd (inb x3 (alen 37)) <|
    gd (inb x1 (alen 60)) <|
    gd (inb x3 (alen 38)) <|
    gd (inb x1 (alen 61)) <|
    gd (inb x3 (alen 39)) <|
    gd (inb x1 (alen 62)) <|
    fX6_keep_97 (setI (setI (setI (setI (setI σ 58 (x1.toNatClampNeg) x2) 59 (x1.toNatClampNeg) x3) 60 (x1.toNatClampNeg) ((setI (setI σ 58 (x1.toNatClampNeg) x2) 59 (x1.toNatClampNeg) x3).1 37 x3.toNatClampNeg)) 61 (x1.toNatClampNeg) ((setI (setI (setI σ 58 (x1.toNatClampNeg) x2) 59 (x1.toNatClampNeg) x3) 60 (x1.toNatClampNeg) ((setI (setI σ 58 (x1.toNatClampNeg) x2) 59 (x1.toNatClampNeg) x3).1 37 x3.toNatClampNeg)).1 38 x3.toNatClampNeg)) 62 (x1.toNatClampNeg) ((setI (setI (setI (setI σ 58 (x1.toNatClampNeg) x2) 59 (x1.toNatClampNeg) x3) 60 (x1.toNatClampNeg) ((setI (setI σ 58 (x1.toNatClampNeg) x2) 59 (x1.toNatClampNeg) x3).1 37 x3.toNatClampNeg)) 61 (x1.toNatClampNeg) ((setI (setI (setI σ 58 (x1.toNatClampNeg) x2) 59 (x1.toNatClampNeg) x3) 60 (x1.toNatClampNeg) ((setI (setI σ 58 (x1.toNatClampNeg) x2) 59 (x1.toNatClampNeg) x3).1 37 x3.toNatClampNeg)).1 38 x3.toNatClampNeg)).1 39 x3.toNatClampNeg))
  else
    fX6_keep_97 (setI σ 58 (x1.toNatClampNeg) x2)
set_option maxHeartbeats 4000000 in
theorem wX6_keep_42 {l : Launch} {V : Nat → List (Option Value) → List Value → ST → Prop} {r : Int32} {τ : ST} {σ : ST} {x1 : Int32} {x2 : Int32} {x3 : Int32} (hm : BM l 6 cX6_keep 4 (some .int) 2 46 (some (.int r)) τ V) (hf : fX6_keep_42 x1 x2 x3 σ = some (r, τ)) : V 42 [some (.ref 36), some (.int x1), some (.int x2), some (.int x3)] [] σ := by
  have h := hm.bd
  unfold fX6_keep_42 at hf
  obtain ⟨g1, hf⟩ := gd_some hf
  refine h.run (o := [kd 36 = 6, kd 58 = 10, inb x1 (alen 58) = true]) (ls' := [some (.ref 36), some (.int x1), some (.int x2), some (.int x3)]) (st' := [.int 1, .int x2]) (σ' := setI σ 58 (x1.toNatClampNeg) x2) [(.aload_n 0, 1, 0, 0, 0, 0), (.getfield 84, 3, 0, 0, 6, 38), (.iload_n 1, 1, 0, 0, 0, 0), (.iload_n 2, 1, 0, 0, 0, 0), (.iastore, 1, 0, 0, 0, 0), (.iload_n 2, 1, 0, 0, 0, 0), (.iconst 1, 1, 1, 0, 0, 0)] (pc2 := 51) (by decide +kernel) rfl (And.intro kd_36 (And.intro kd_58 (And.intro g1 trivial))) ?_
  refine h.icmp_ne (tgt := 97) (show decode cX6_keep 51 = .ok (.if_icmp .ne 46, 3) by decide +kernel) (by decide) (fun c9 => ?_) (fun c9 => ?_)
  · rw [if_neg c9] at hf
    refine h.drop (ls' := [none, none, none, none]) trivial ?_
    exact wX6_keep_97 hm hf
  · rw [if_pos c9] at hf
    show V 54 [some (.ref 36), some (.int x1), some (.int x2), some (.int x3)] [] (setI σ 58 (x1.toNatClampNeg) x2)
    obtain ⟨g2, hf⟩ := gd_some hf
    obtain ⟨g3, hf⟩ := gd_some hf
    obtain ⟨g4, hf⟩ := gd_some hf
    obtain ⟨g5, hf⟩ := gd_some hf
    obtain ⟨g6, hf⟩ := gd_some hf
    obtain ⟨g7, hf⟩ := gd_some hf
    obtain ⟨g8, hf⟩ := gd_some hf
    refine h.run (o := [kd 36 = 6, kd 59 = 10, inb x1 (alen 59) = true, kd 36 = 6, kd 36 = 6, kd 37 = 10, inb x3 (alen 37) = true, kd 60 = 10, inb x1 (alen 60) = true, kd 36 = 6, kd 36 = 6, kd 38 = 10, inb x3 (alen 38) = true, kd 61 = 10, inb x1 (alen 61) = true, kd 36 = 6, kd 36 = 6, kd 39 = 10, inb x3 (alen 39) = true, kd 62 = 10, inb x1 (alen 62) = true]) (ls' := [some (.ref 36), some (.int x1), some (.int x2), some (.int x3)]) (st' := []) (σ' := setI (setI (setI (setI (setI σ 58 (x1.toNatClampNeg) x2) 59 (x1.toNatClampNeg) x3) 60 (x1.toNatClampNeg) ((setI (setI σ 58 (x1.toNatClampNeg) x2) 59 (x1.toNatClampNeg) x3).1 37 x3.toNatClampNeg)) 61 (x1.toNatClampNeg) ((setI (setI (setI σ 58 (x1.toNatClampNeg) x2) 59 (x1.toNatClampNeg) x3) 60 (x1.toNatClampNeg) ((setI (setI σ 58 (x1.toNatClampNeg) x2) 59 (x1.toNatClampNeg) x3).1 37 x3.toNatClampNeg)).1 38 x3.toNatClampNeg)) 62 (x1.toNatClampNeg) ((setI (setI (setI (setI σ 58 (x1.toNatClampNeg) x2) 59 (x1.toNatClampNeg) x3) 60 (x1.toNatClampNeg) ((setI (setI σ 58 (x1.toNatClampNeg) x2) 59 (x1.toNatClampNeg) x3).1 37 x3.toNatClampNeg)) 61 (x1.toNatClampNeg) ((setI (setI (setI σ 58 (x1.toNatClampNeg) x2) 59 (x1.toNatClampNeg) x3) 60 (x1.toNatClampNeg) ((setI (setI σ 58 (x1.toNatClampNeg) x2) 59 (x1.toNatClampNeg) x3).1 37 x3.toNatClampNeg)).1 38 x3.toNatClampNeg)).1 39 x3.toNatClampNeg)) [(.aload_n 0, 1, 0, 0, 0, 0), (.getfield 87, 3, 0, 0, 6, 39), (.iload_n 1, 1, 0, 0, 0, 0), (.iload_n 3, 1, 0, 0, 0, 0), (.iastore, 1, 0, 0, 0, 0), (.aload_n 0, 1, 0, 0, 0, 0), (.getfield 90, 3, 0, 0, 6, 40), (.iload_n 1, 1, 0, 0, 0, 0), (.aload_n 0, 1, 0, 0, 0, 0), (.getfield 19, 3, 0, 0, 6, 4), (.iload_n 3, 1, 0, 0, 0, 0), (.iaload, 1, 0, 0, 0, 0), (.iastore, 1, 0, 0, 0, 0), (.aload_n 0, 1, 0, 0, 0, 0), (.getfield 93, 3, 0, 0, 6, 41), (.iload_n 1, 1, 0, 0, 0, 0), (.aload_n 0, 1, 0, 0, 0, 0), (.getfield 23, 3, 0, 0, 6, 5), (.iload_n 3, 1, 0, 0, 0, 0), (.iaload, 1, 0, 0, 0, 0), (.iastore, 1, 0, 0, 0, 0), (.aload_n 0, 1, 0, 0, 0, 0), (.getfield 96, 3, 0, 0, 6, 42), (.iload_n 1, 1, 0, 0, 0, 0), (.aload_n 0, 1, 0, 0, 0, 0), (.getfield 26, 3, 0, 0, 6, 6), (.iload_n 3, 1, 0, 0, 0, 0), (.iaload, 1, 0, 0, 0, 0), (.iastore, 1, 0, 0, 0, 0)] (pc2 := 97) (by decide +kernel) rfl (And.intro kd_36 (And.intro kd_59 (And.intro g2 (And.intro kd_36 (And.intro kd_36 (And.intro kd_37 (And.intro g3 (And.intro kd_60 (And.intro g4 (And.intro kd_36 (And.intro kd_36 (And.intro kd_38 (And.intro g5 (And.intro kd_61 (And.intro g6 (And.intro kd_36 (And.intro kd_36 (And.intro kd_39 (And.intro g7 (And.intro kd_62 (And.intro g8 trivial))))))))))))))))))))) ?_
    refine h.drop (ls' := [none, none, none, none]) trivial ?_
    exact wX6_keep_97 hm hf
def fX6_keep (x1 : Int32) (x2 : Int32) (x3 : Int32) (σ : ST) : Option (Int32 × ST) :=
  bR (fX6_in x1.toInt64 0 7 (setI σ 36 23 0)) fun a1 =>
  if a1 = 0 then
    fX6_keep_40 (setI σ 36 23 0)
  else
    bR (fX6_in x2.toInt64 0 1 (setI σ 36 23 0)) fun a2 =>
    if a2 = 0 then
      fX6_keep_40 (setI σ 36 23 0)
    else
      if x2 = 1 then
        bR (fX6_isSender x3 (setI σ 36 23 0)) fun a3 =>
        if a3 = 0 then
          fX6_keep_40 (setI σ 36 23 0)
        else
          fX6_keep_42 x1 x2 x3 (setI σ 36 23 0)
      else
        fX6_keep_42 x1 x2 x3 (setI σ 36 23 0)
set_option maxHeartbeats 4000000 in
theorem kmX6_keep (l : Launch) {x1 : Int32} {x2 : Int32} {x3 : Int32} {σ : ST} {r : Int32} {τ : ST} (hf : fX6_keep x1 x2 x3 σ = some (r, τ)) : KM l yX6_keep cX6_keep 4 (some .int) 2 46 [.ref 36, .int x1, .int x2, .int x3] σ (some (.int r)) τ := by
  refine KM.intro (ow := 6) (by decide +kernel) rfl (Nat.le_of_ble_eq_true rfl) (fun V hm => ?_)
  show V 0 [some (.ref 36), some (.int x1), some (.int x2), some (.int x3)] [] σ
  have h := hm.bd
  unfold fX6_keep at hf
  refine h.run (o := [kd 36 = 6]) (ls' := [some (.ref 36), some (.int x1), some (.int x2), some (.int x3)]) (st' := [.long 7, .long 0, .long x1.toInt64]) (σ' := setI σ 36 23 0) [(.aload_n 0, 1, 0, 0, 0, 0), (.iconst 0, 1, 0, 0, 0, 0), (.putfield 112, 3, 0, 0, 6, 23), (.iload_n 1, 1, 0, 0, 0, 0), (.i2l, 1, 0, 0, 0, 0), (.lconst 0, 1, 0, 0, 0, 0), (.ldc2_w 247, 3, 0, 7, 0, 0)] (pc2 := 11) (by decide +kernel) rfl (And.intro kd_36 trivial) ?_
  obtain ⟨a1, e1, hf⟩ := bR_some hf
  refine h.callS (as := [.long x1.toInt64, .long 0, .long 7]) (rest := []) (by decide +kernel) lk6_119 cwX6_in (kmX6_in l e1) rfl (Nat.le_of_ble_eq_true rfl) (Nat.le_of_ble_eq_true rfl) (Nat.le_of_ble_eq_true rfl) ?_
  show V 14 [some (.ref 36), some (.int x1), some (.int x2), some (.int x3)] [.int a1] (setI σ 36 23 0)
  refine h.if_eq (tgt := 40) (show decode cX6_keep 14 = .ok (.ifCond .eq 26, 3) by decide +kernel) (by decide) (fun c7 => ?_) (fun c7 => ?_)
  · rw [if_pos c7] at hf
    refine h.drop (ls' := [none, none, none, none]) trivial ?_
    exact wX6_keep_40 hm hf
  · rw [if_neg c7] at hf
    show V 17 [some (.ref 36), some (.int x1), some (.int x2), some (.int x3)] [] (setI σ 36 23 0)
    refine h.run (o := []) (ls' := [some (.ref 36), some (.int x1), some (.int x2), some (.int x3)]) (st' := [.long 1, .long 0, .long x2.toInt64]) (σ' := setI σ 36 23 0) [(.iload_n 2, 1, 0, 0, 0, 0), (.i2l, 1, 0, 0, 0, 0), (.lconst 0, 1, 0, 0, 0, 0), (.lconst 1, 1, 0, 1, 0, 0)] (pc2 := 21) (by decide +kernel) rfl trivial ?_
    obtain ⟨a2, e2, hf⟩ := bR_some hf
    refine h.callS (as := [.long x2.toInt64, .long 0, .long 1]) (rest := []) (by decide +kernel) lk6_119 cwX6_in (kmX6_in l e2) rfl (Nat.le_of_ble_eq_true rfl) (Nat.le_of_ble_eq_true rfl) (Nat.le_of_ble_eq_true rfl) ?_
    show V 24 [some (.ref 36), some (.int x1), some (.int x2), some (.int x3)] [.int a2] (setI σ 36 23 0)
    refine h.if_eq (tgt := 40) (show decode cX6_keep 24 = .ok (.ifCond .eq 16, 3) by decide +kernel) (by decide) (fun c6 => ?_) (fun c6 => ?_)
    · rw [if_pos c6] at hf
      refine h.drop (ls' := [none, none, none, none]) trivial ?_
      exact wX6_keep_40 hm hf
    · rw [if_neg c6] at hf
      show V 27 [some (.ref 36), some (.int x1), some (.int x2), some (.int x3)] [] (setI σ 36 23 0)
      refine h.run (o := []) (ls' := [some (.ref 36), some (.int x1), some (.int x2), some (.int x3)]) (st' := [.int 1, .int x2]) (σ' := setI σ 36 23 0) [(.iload_n 2, 1, 0, 0, 0, 0), (.iconst 1, 1, 1, 0, 0, 0)] (pc2 := 29) (by decide +kernel) rfl trivial ?_
      refine h.icmp_ne (tgt := 42) (show decode cX6_keep 29 = .ok (.if_icmp .ne 13, 3) by decide +kernel) (by decide) (fun c5 => ?_) (fun c5 => ?_)
      · rw [if_neg c5] at hf
        exact wX6_keep_42 hm hf
      · rw [if_pos c5] at hf
        show V 32 [some (.ref 36), some (.int x1), some (.int x2), some (.int x3)] [] (setI σ 36 23 0)
        refine h.run (o := []) (ls' := [some (.ref 36), some (.int x1), some (.int x2), some (.int x3)]) (st' := [.int x3, .ref 36]) (σ' := setI σ 36 23 0) [(.aload_n 0, 1, 0, 0, 0, 0), (.iload_n 3, 1, 0, 0, 0, 0)] (pc2 := 34) (by decide +kernel) rfl trivial ?_
        obtain ⟨a3, e3, hf⟩ := bR_some hf
        refine h.callV (as := [.int x3]) (rest := []) (by decide +kernel) lk6_183 cwX6_isSender kd_36 (kmX6_isSender l e3) rfl (Nat.le_of_ble_eq_true rfl) (Nat.le_of_ble_eq_true rfl) (Nat.le_of_ble_eq_true rfl) ?_
        show V 37 [some (.ref 36), some (.int x1), some (.int x2), some (.int x3)] [.int a3] (setI σ 36 23 0)
        refine h.if_ne (tgt := 42) (show decode cX6_keep 37 = .ok (.ifCond .ne 5, 3) by decide +kernel) (by decide) (fun c4 => ?_) (fun c4 => ?_)
        · rw [if_neg c4] at hf
          exact wX6_keep_42 hm hf
        · rw [if_pos c4] at hf
          show V 40 [some (.ref 36), some (.int x1), some (.int x2), some (.int x3)] [] (setI σ 36 23 0)
          refine h.drop (ls' := [none, none, none, none]) trivial ?_
          exact wX6_keep_40 hm hf
def fX6_narrowed_23 (t0 : Int64) (σ : ST) : Option Int64 :=
  some t0
set_option maxHeartbeats 4000000 in
theorem wX6_narrowed_23 {l : Launch} {V : Nat → List (Option Value) → List Value → ST → Prop} {r : Int64} {σ : ST} {t0 : Int64} (hm : BM l 6 cX6_narrowed 2 (some .long) 0 0 (some (.long r)) σ V) (hf : fX6_narrowed_23 t0 σ = some r) : V 23 [none, none] [.long t0] σ := by
  have h := hm.bd
  unfold fX6_narrowed_23 at hf
  obtain rfl := Option.some.inj hf
  exact hm.lret (by decide +kernel)
def fX6_narrowed (x0 : Int32) (x1 : Int32) (σ : ST) : Option Int64 :=
  if x1 = 0 then
    fX6_narrowed_23 x0.toInt8.toInt32.toInt64 σ
  else
    if x1 = 1 then
      fX6_narrowed_23 x0.toInt16.toInt32.toInt64 σ
    else
      fX6_narrowed_23 x0.toInt64 σ
set_option maxHeartbeats 4000000 in
theorem kmX6_narrowed (l : Launch) {x0 : Int32} {x1 : Int32} {σ : ST} {r : Int64} (hf : fX6_narrowed x0 x1 σ = some r) : KM l yX6_narrowed cX6_narrowed 2 (some .long) 0 0 [.int x0, .int x1] σ (some (.long r)) σ := by
  refine KM.intro (ow := 6) (by decide +kernel) rfl (Nat.le_of_ble_eq_true rfl) (fun V hm => ?_)
  show V 0 [some (.int x0), some (.int x1)] [] σ
  have h := hm.bd
  unfold fX6_narrowed at hf
  refine h.run (o := []) (ls' := [some (.int x0), some (.int x1)]) (st' := [.int x1]) (σ' := σ) [(.iload_n 1, 1, 0, 0, 0, 0)] (pc2 := 1) (by decide +kernel) rfl trivial ?_
  refine h.if_ne (tgt := 10) (show decode cX6_narrowed 1 = .ok (.ifCond .ne 9, 3) by decide +kernel) (by decide) (fun c2 => ?_) (fun c2 => ?_)
  · rw [if_neg c2] at hf
    refine h.run (o := []) (ls' := [some (.int x0), some (.int x1)]) (st' := [.int 1, .int x1]) (σ' := σ) [(.iload_n 1, 1, 0, 0, 0, 0), (.iconst 1, 1, 1, 0, 0, 0)] (pc2 := 12) (by decide +kernel) rfl trivial ?_
    refine h.icmp_ne (tgt := 21) (show decode cX6_narrowed 12 = .ok (.if_icmp .ne 9, 3) by decide +kernel) (by decide) (fun c1 => ?_) (fun c1 => ?_)
    · rw [if_neg c1] at hf
      refine h.run (o := []) (ls' := [some (.int x0), some (.int x1)]) (st' := [.long x0.toInt64]) (σ' := σ) [(.iload_n 0, 1, 0, 0, 0, 0), (.i2l, 1, 0, 0, 0, 0)] (pc2 := 23) (by decide +kernel) rfl trivial ?_
      refine h.drop (ls' := [none, none]) trivial ?_
      exact wX6_narrowed_23 hm hf
    · rw [if_pos c1] at hf
      show V 15 [some (.int x0), some (.int x1)] [] σ
      refine h.run (o := []) (ls' := [some (.int x0), some (.int x1)]) (st' := [.long x0.toInt16.toInt32.toInt64]) (σ' := σ) [(.iload_n 0, 1, 0, 0, 0, 0), (.i2s, 1, 0, 0, 0, 0), (.i2l, 1, 0, 0, 0, 0), (.goto 5, 3, 0, 0, 0, 23)] (pc2 := 23) (by decide +kernel) rfl trivial ?_
      refine h.drop (ls' := [none, none]) trivial ?_
      exact wX6_narrowed_23 hm hf
  · rw [if_pos c2] at hf
    show V 4 [some (.int x0), some (.int x1)] [] σ
    refine h.run (o := []) (ls' := [some (.int x0), some (.int x1)]) (st' := [.long x0.toInt8.toInt32.toInt64]) (σ' := σ) [(.iload_n 0, 1, 0, 0, 0, 0), (.i2b, 1, 0, 0, 0, 0), (.i2l, 1, 0, 0, 0, 0), (.goto 16, 3, 0, 0, 0, 23)] (pc2 := 23) (by decide +kernel) rfl trivial ?_
    refine h.drop (ls' := [none, none]) trivial ?_
    exact wX6_narrowed_23 hm hf
def fX6_row_35 (σ : ST) : Option (Int32 × ST) :=
  some ((-1), σ)
set_option maxHeartbeats 4000000 in
theorem wX6_row_35 {l : Launch} {V : Nat → List (Option Value) → List Value → ST → Prop} {r : Int32} {τ : ST} {σ : ST} (hm : BM l 6 cX6_row 5 (some .int) 1 25 (some (.int r)) τ V) (hf : fX6_row_35 σ = some (r, τ)) : V 35 [none, none, none, none, none] [] σ := by
  have h := hm.bd
  unfold fX6_row_35 at hf
  refine h.run (o := []) (ls' := [none, none, none, none, none]) (st' := [.int (-1)]) (σ' := σ) [(.iconst (-1), 1, (-1), 0, 0, 0)] (pc2 := 36) (by decide +kernel) rfl trivial ?_
  obtain ⟨rfl, rfl⟩ := Prod.mk.inj (Option.some.inj hf)
  exact hm.iret (by decide +kernel)
def fX6_row_68 (n : Nat) (x1 : Int32) (x4 : Int32) (σ : ST) : Option (Int32 × ST) := match n with
  | 0 => none
  | n + 1 =>
    if 100 ≤ x4 then
      some (0, σ)
    else
      gd (inb ((100 * x1) + x4) (alen 65)) <|
      fX6_row_68 n x1 (x4 + 1) (setL σ 65 (((100 * x1) + x4).toNatClampNeg) 0)
set_option maxHeartbeats 4000000 in
theorem wX6_row_68 {l : Launch} {V : Nat → List (Option Value) → List Value → ST → Prop} {r : Int32} {τ : ST} (hm : BM l 6 cX6_row 5 (some .int) 1 25 (some (.int r)) τ V) : ∀ (n : Nat) (x1 : Int32) (x4 : Int32) (σ : ST), fX6_row_68 n x1 x4 σ = some (r, τ) → V 68 [some (.ref 36), some (.int x1), none, none, some (.int x4)] [] σ := by
  have h := hm.bd
  intro n
  induction n with
  | zero => intro x1 x4 σ hf; cases hf
  | succ n ih =>
    intro x1 x4 σ hf
    rw [fX6_row_68] at hf
    refine h.run (o := []) (ls' := [some (.ref 36), some (.int x1), none, none, some (.int x4)]) (st' := [.int 100, .int x4]) (σ' := σ) [(.iload 4, 2, 0, 0, 0, 0), (.bipush 100, 2, 100, 0, 0, 0)] (pc2 := 72) (by decide +kernel) rfl trivial ?_
    refine h.icmp_ge (tgt := 94) (show decode cX6_row 72 = .ok (.if_icmp .ge 22, 3) by decide +kernel) (by decide) (fun c2 => ?_) (fun c2 => ?_)
    · rw [if_pos c2] at hf
      refine h.run (o := []) (ls' := [some (.ref 36), some (.int x1), none, none, some (.int x4)]) (st' := [.int 0]) (σ' := σ) [(.iconst 0, 1, 0, 0, 0, 0)] (pc2 := 95) (by decide +kernel) rfl trivial ?_
      obtain ⟨rfl, rfl⟩ := Prod.mk.inj (Option.some.inj hf)
      exact hm.iret (by decide +kernel)
    · rw [if_neg c2] at hf
      show V 75 [some (.ref 36), some (.int x1), none, none, some (.int x4)] [] σ
      obtain ⟨g1, hf⟩ := gd_some hf
      refine h.run (o := [kd 36 = 6, kd 65 = 12, inb ((100 * x1) + x4) (alen 65) = true]) (ls' := [some (.ref 36), some (.int x1), none, none, some (.int (x4 + 1))]) (st' := []) (σ' := setL σ 65 (((100 * x1) + x4).toNatClampNeg) 0) [(.aload_n 0, 1, 0, 0, 0, 0), (.getfield 105, 3, 0, 0, 6, 45), (.bipush 100, 2, 100, 0, 0, 0), (.iload_n 1, 1, 0, 0, 0, 0), (.imul, 1, 0, 0, 0, 0), (.iload 4, 2, 0, 0, 0, 0), (.iadd, 1, 0, 0, 0, 0), (.lconst 0, 1, 0, 0, 0, 0), (.lastore, 1, 0, 0, 0, 0), (.iinc 4 1, 3, 1, 0, 0, 0), (.goto (-23), 3, 0, 0, 0, 68)] (pc2 := 68) (by decide +kernel) rfl (And.intro kd_36 (And.intro kd_65 (And.intro g1 trivial))) ?_
      exact ih x1 (x4 + 1) _ hf
def fX6_row (x1 : Int32) (x2 : Int32) (x3 : Int32) (σ : ST) : Option (Int32 × ST) :=
  bR (fX6_in x1.toInt64 0 7 (setI σ 36 23 0)) fun a1 =>
  if a1 = 0 then
    fX6_row_35 (setI σ 36 23 0)
  else
    bR (fX6_in x2.toInt64 0 2 (setI σ 36 23 0)) fun a2 =>
    if a2 = 0 then
      fX6_row_35 (setI σ 36 23 0)
    else
      if x3 ≤ 100 then
        if 0 ≤ x3 then
          gd (inb x1 (alen 58)) <|
          gd (inb x1 (alen 63)) <|
          gd (inb x1 (alen 64)) <|
          fX6_row_68 FU x1 0 (setI (setI (setI (setI σ 36 23 0) 58 (x1.toNatClampNeg) 2) 63 (x1.toNatClampNeg) x2) 64 (x1.toNatClampNeg) x3)
        else
          some ((-14), setI σ 36 23 0)
      else
        fX6_row_35 (setI σ 36 23 0)
set_option maxHeartbeats 4000000 in
theorem kmX6_row (l : Launch) {x1 : Int32} {x2 : Int32} {x3 : Int32} {σ : ST} {r : Int32} {τ : ST} (hf : fX6_row x1 x2 x3 σ = some (r, τ)) : KM l yX6_row cX6_row 5 (some .int) 1 25 [.ref 36, .int x1, .int x2, .int x3] σ (some (.int r)) τ := by
  refine KM.intro (ow := 6) (by decide +kernel) rfl (Nat.le_of_ble_eq_true rfl) (fun V hm => ?_)
  show V 0 [some (.ref 36), some (.int x1), some (.int x2), some (.int x3), none] [] σ
  have h := hm.bd
  unfold fX6_row at hf
  refine h.run (o := [kd 36 = 6]) (ls' := [some (.ref 36), some (.int x1), some (.int x2), some (.int x3), none]) (st' := [.long 7, .long 0, .long x1.toInt64]) (σ' := setI σ 36 23 0) [(.aload_n 0, 1, 0, 0, 0, 0), (.iconst 0, 1, 0, 0, 0, 0), (.putfield 112, 3, 0, 0, 6, 23), (.iload_n 1, 1, 0, 0, 0, 0), (.i2l, 1, 0, 0, 0, 0), (.lconst 0, 1, 0, 0, 0, 0), (.ldc2_w 247, 3, 0, 7, 0, 0)] (pc2 := 11) (by decide +kernel) rfl (And.intro kd_36 trivial) ?_
  obtain ⟨a1, e1, hf⟩ := bR_some hf
  refine h.callS (as := [.long x1.toInt64, .long 0, .long 7]) (rest := []) (by decide +kernel) lk6_119 cwX6_in (kmX6_in l e1) rfl (Nat.le_of_ble_eq_true rfl) (Nat.le_of_ble_eq_true rfl) (Nat.le_of_ble_eq_true rfl) ?_
  show V 14 [some (.ref 36), some (.int x1), some (.int x2), some (.int x3), none] [.int a1] (setI σ 36 23 0)
  refine h.if_eq (tgt := 35) (show decode cX6_row 14 = .ok (.ifCond .eq 21, 3) by decide +kernel) (by decide) (fun c9 => ?_) (fun c9 => ?_)
  · rw [if_pos c9] at hf
    refine h.drop (ls' := [none, none, none, none, none]) trivial ?_
    exact wX6_row_35 hm hf
  · rw [if_neg c9] at hf
    show V 17 [some (.ref 36), some (.int x1), some (.int x2), some (.int x3), none] [] (setI σ 36 23 0)
    refine h.run (o := []) (ls' := [some (.ref 36), some (.int x1), some (.int x2), some (.int x3), none]) (st' := [.long 2, .long 0, .long x2.toInt64]) (σ' := setI σ 36 23 0) [(.iload_n 2, 1, 0, 0, 0, 0), (.i2l, 1, 0, 0, 0, 0), (.lconst 0, 1, 0, 0, 0, 0), (.ldc2_w 186, 3, 0, 2, 0, 0)] (pc2 := 23) (by decide +kernel) rfl trivial ?_
    obtain ⟨a2, e2, hf⟩ := bR_some hf
    refine h.callS (as := [.long x2.toInt64, .long 0, .long 2]) (rest := []) (by decide +kernel) lk6_119 cwX6_in (kmX6_in l e2) rfl (Nat.le_of_ble_eq_true rfl) (Nat.le_of_ble_eq_true rfl) (Nat.le_of_ble_eq_true rfl) ?_
    show V 26 [some (.ref 36), some (.int x1), some (.int x2), some (.int x3), none] [.int a2] (setI σ 36 23 0)
    refine h.if_eq (tgt := 35) (show decode cX6_row 26 = .ok (.ifCond .eq 9, 3) by decide +kernel) (by decide) (fun c8 => ?_) (fun c8 => ?_)
    · rw [if_pos c8] at hf
      refine h.drop (ls' := [none, none, none, none, none]) trivial ?_
      exact wX6_row_35 hm hf
    · rw [if_neg c8] at hf
      show V 29 [some (.ref 36), some (.int x1), some (.int x2), some (.int x3), none] [] (setI σ 36 23 0)
      refine h.run (o := []) (ls' := [some (.ref 36), some (.int x1), some (.int x2), some (.int x3), none]) (st' := [.int 100, .int x3]) (σ' := setI σ 36 23 0) [(.iload_n 3, 1, 0, 0, 0, 0), (.bipush 100, 2, 100, 0, 0, 0)] (pc2 := 32) (by decide +kernel) rfl trivial ?_
      refine h.icmp_le (tgt := 37) (show decode cX6_row 32 = .ok (.if_icmp .le 5, 3) by decide +kernel) (by decide) (fun c7 => ?_) (fun c7 => ?_)
      · rw [if_pos c7] at hf
        refine h.run (o := []) (ls' := [some (.ref 36), some (.int x1), some (.int x2), some (.int x3), none]) (st' := [.int x3]) (σ' := setI σ 36 23 0) [(.iload_n 3, 1, 0, 0, 0, 0)] (pc2 := 38) (by decide +kernel) rfl trivial ?_
        refine h.if_ge (tgt := 44) (show decode cX6_row 38 = .ok (.ifCond .ge 6, 3) by decide +kernel) (by decide) (fun c6 => ?_) (fun c6 => ?_)
        · rw [if_pos c6] at hf
          obtain ⟨g3, hf⟩ := gd_some hf
          obtain ⟨g4, hf⟩ := gd_some hf
          obtain ⟨g5, hf⟩ := gd_some hf
          refine h.run (o := [kd 36 = 6, kd 58 = 10, inb x1 (alen 58) = true, kd 36 = 6, kd 63 = 10, inb x1 (alen 63) = true, kd 36 = 6, kd 64 = 10, inb x1 (alen 64) = true]) (ls' := [some (.ref 36), some (.int x1), some (.int x2), some (.int x3), some (.int 0)]) (st' := []) (σ' := setI (setI (setI (setI σ 36 23 0) 58 (x1.toNatClampNeg) 2) 63 (x1.toNatClampNeg) x2) 64 (x1.toNatClampNeg) x3) [(.aload_n 0, 1, 0, 0, 0, 0), (.getfield 84, 3, 0, 0, 6, 38), (.iload_n 1, 1, 0, 0, 0, 0), (.iconst 2, 1, 2, 0, 0, 0), (.iastore, 1, 0, 0, 0, 0), (.aload_n 0, 1, 0, 0, 0, 0), (.getfield 99, 3, 0, 0, 6, 43), (.iload_n 1, 1, 0, 0, 0, 0), (.iload_n 2, 1, 0, 0, 0, 0), (.iastore, 1, 0, 0, 0, 0), (.aload_n 0, 1, 0, 0, 0, 0), (.getfield 102, 3, 0, 0, 6, 44), (.iload_n 1, 1, 0, 0, 0, 0), (.iload_n 3, 1, 0, 0, 0, 0), (.iastore, 1, 0, 0, 0, 0), (.iconst 0, 1, 0, 0, 0, 0), (.istore 4, 2, 0, 0, 0, 0)] (pc2 := 68) (by decide +kernel) rfl (And.intro kd_36 (And.intro kd_58 (And.intro g3 (And.intro kd_36 (And.intro kd_63 (And.intro g4 (And.intro kd_36 (And.intro kd_64 (And.intro g5 trivial))))))))) ?_
          refine h.drop (ls' := [some (.ref 36), some (.int x1), none, none, some (.int 0)]) (And.intro rfl (And.intro rfl (And.intro rfl trivial))) ?_
          exact wX6_row_68 hm FU x1 0 _ hf
        · rw [if_neg c6] at hf
          show V 41 [some (.ref 36), some (.int x1), some (.int x2), some (.int x3), none] [] (setI σ 36 23 0)
          refine h.run (o := []) (ls' := [some (.ref 36), some (.int x1), some (.int x2), some (.int x3), none]) (st' := [.int (-14)]) (σ' := setI σ 36 23 0) [(.bipush (-14), 2, (-14), 0, 0, 0)] (pc2 := 43) (by decide +kernel) rfl trivial ?_
          obtain ⟨rfl, rfl⟩ := Prod.mk.inj (Option.some.inj hf)
          exact hm.iret (by decide +kernel)
      · rw [if_neg c7] at hf
        show V 35 [some (.ref 36), some (.int x1), some (.int x2), some (.int x3), none] [] (setI σ 36 23 0)
        refine h.drop (ls' := [none, none, none, none, none]) trivial ?_
        exact wX6_row_35 hm hf
def fX6_put (x1 : Int32) (x2 : Int32) (x3 : Int32) (σ : ST) : Option (Int32 × ST) :=
  bR (fX6_wrongRow x1 (setI σ 36 23 0)) fun a1 =>
  if 0 ≤ a1 then
    gd (inb x1 (alen 64)) <|
    bR (fX6_in x2.toInt64 0 ((((setI σ 36 23 0).1 64 x1.toNatClampNeg) - 1).toInt64) (setI σ 36 23 0)) fun a3 =>
    if a3 = 0 then
      some ((-13), setI σ 36 23 0)
    else
      gd (inb x1 (alen 63)) <|
      bR (fX6_narrowed x3 ((setI σ 36 23 0).1 63 x1.toNatClampNeg) (setI σ 36 23 0)) fun a5 =>
      gd (inb ((100 * x1) + x2) (alen 65)) <|
      some (0, setL (setI σ 36 23 0) 65 (((100 * x1) + x2).toNatClampNeg) a5)
  else
    some (a1, setI σ 36 23 0)
set_option maxHeartbeats 4000000 in
theorem kmX6_put (l : Launch) {x1 : Int32} {x2 : Int32} {x3 : Int32} {σ : ST} {r : Int32} {τ : ST} (hf : fX6_put x1 x2 x3 σ = some (r, τ)) : KM l yX6_put cX6_put 5 (some .int) 2 46 [.ref 36, .int x1, .int x2, .int x3] σ (some (.int r)) τ := by
  refine KM.intro (ow := 6) (by decide +kernel) rfl (Nat.le_of_ble_eq_true rfl) (fun V hm => ?_)
  show V 0 [some (.ref 36), some (.int x1), some (.int x2), some (.int x3), none] [] σ
  have h := hm.bd
  unfold fX6_put at hf
  refine h.run (o := [kd 36 = 6]) (ls' := [some (.ref 36), some (.int x1), some (.int x2), some (.int x3), none]) (st' := [.int x1, .ref 36]) (σ' := setI σ 36 23 0) [(.aload_n 0, 1, 0, 0, 0, 0), (.iconst 0, 1, 0, 0, 0, 0), (.putfield 112, 3, 0, 0, 6, 23), (.aload_n 0, 1, 0, 0, 0, 0), (.iload_n 1, 1, 0, 0, 0, 0)] (pc2 := 7) (by decide +kernel) rfl (And.intro kd_36 trivial) ?_
  obtain ⟨a1, e1, hf⟩ := bR_some hf
  refine h.callV (as := [.int x1]) (rest := []) (by decide +kernel) lk6_171 cwX6_wrongRow kd_36 (kmX6_wrongRow l e1) rfl (Nat.le_of_ble_eq_true rfl) (Nat.le_of_ble_eq_true rfl) (Nat.le_of_ble_eq_true rfl) ?_
  show V 10 [some (.ref 36), some (.int x1), some (.int x2), some (.int x3), none] [.int a1] (setI σ 36 23 0)
  refine h.run (o := []) (ls' := [some (.ref 36), some (.int x1), some (.int x2), some (.int x3), some (.int a1)]) (st' := [.int a1]) (σ' := setI σ 36 23 0) [(.istore 4, 2, 0, 0, 0, 0), (.iload 4, 2, 0, 0, 0, 0)] (pc2 := 14) (by decide +kernel) rfl trivial ?_
  refine h.if_ge (tgt := 20) (show decode cX6_put 14 = .ok (.ifCond .ge 6, 3) by decide +kernel) (by decide) (fun c8 => ?_) (fun c8 => ?_)
  · rw [if_pos c8] at hf
    obtain ⟨g2, hf⟩ := gd_some hf
    refine h.run (o := [kd 36 = 6, kd 64 = 10, inb x1 (alen 64) = true]) (ls' := [some (.ref 36), some (.int x1), some (.int x2), some (.int x3), some (.int a1)]) (st' := [.long ((((setI σ 36 23 0).1 64 x1.toNatClampNeg) - 1).toInt64), .long 0, .long x2.toInt64]) (σ' := setI σ 36 23 0) [(.iload_n 2, 1, 0, 0, 0, 0), (.i2l, 1, 0, 0, 0, 0), (.lconst 0, 1, 0, 0, 0, 0), (.aload_n 0, 1, 0, 0, 0, 0), (.getfield 102, 3, 0, 0, 6, 44), (.iload_n 1, 1, 0, 0, 0, 0), (.iaload, 1, 0, 0, 0, 0), (.iconst 1, 1, 1, 0, 0, 0), (.isub, 1, 0, 0, 0, 0), (.i2l, 1, 0, 0, 0, 0)] (pc2 := 32) (by decide +kernel) rfl (And.intro kd_36 (And.intro kd_64 (And.intro g2 trivial))) ?_
    obtain ⟨a3, e3, hf⟩ := bR_some hf
    refine h.callS (as := [.long x2.toInt64, .long 0, .long ((((setI σ 36 23 0).1 64 x1.toNatClampNeg) - 1).toInt64)]) (rest := []) (by decide +kernel) lk6_119 cwX6_in (kmX6_in l e3) rfl (Nat.le_of_ble_eq_true rfl) (Nat.le_of_ble_eq_true rfl) (Nat.le_of_ble_eq_true rfl) ?_
    show V 35 [some (.ref 36), some (.int x1), some (.int x2), some (.int x3), some (.int a1)] [.int a3] (setI σ 36 23 0)
    refine h.if_ne (tgt := 41) (show decode cX6_put 35 = .ok (.ifCond .ne 6, 3) by decide +kernel) (by decide) (fun c7 => ?_) (fun c7 => ?_)
    · rw [if_neg c7] at hf
      obtain ⟨g4, hf⟩ := gd_some hf
      refine h.run (o := [kd 36 = 6, kd 36 = 6, kd 63 = 10, inb x1 (alen 63) = true]) (ls' := [some (.ref 36), some (.int x1), some (.int x2), some (.int x3), some (.int a1)]) (st' := [.int ((setI σ 36 23 0).1 63 x1.toNatClampNeg), .int x3, .int ((100 * x1) + x2), .ref 65]) (σ' := setI σ 36 23 0) [(.aload_n 0, 1, 0, 0, 0, 0), (.getfield 105, 3, 0, 0, 6, 45), (.bipush 100, 2, 100, 0, 0, 0), (.iload_n 1, 1, 0, 0, 0, 0), (.imul, 1, 0, 0, 0, 0), (.iload_n 2, 1, 0, 0, 0, 0), (.iadd, 1, 0, 0, 0, 0), (.iload_n 3, 1, 0, 0, 0, 0), (.aload_n 0, 1, 0, 0, 0, 0), (.getfield 99, 3, 0, 0, 6, 43), (.iload_n 1, 1, 0, 0, 0, 0), (.iaload, 1, 0, 0, 0, 0)] (pc2 := 58) (by decide +kernel) rfl (And.intro kd_36 (And.intro kd_36 (And.intro kd_63 (And.intro g4 trivial)))) ?_
      obtain ⟨a5, e5, hf⟩ := bR_some hf
      refine h.callS (as := [.int x3, .int ((setI σ 36 23 0).1 63 x1.toNatClampNeg)]) (rest := [.int ((100 * x1) + x2), .ref 65]) (by decide +kernel) lk6_277 cwX6_narrowed (kmX6_narrowed l e5) rfl (Nat.le_of_ble_eq_true rfl) (Nat.le_of_ble_eq_true rfl) (Nat.le_of_ble_eq_true rfl) ?_
      show V 61 [some (.ref 36), some (.int x1), some (.int x2), some (.int x3), some (.int a1)] [.long a5, .int ((100 * x1) + x2), .ref 65] (setI σ 36 23 0)
      obtain ⟨g6, hf⟩ := gd_some hf
      refine h.run (o := [kd 65 = 12, inb ((100 * x1) + x2) (alen 65) = true]) (ls' := [some (.ref 36), some (.int x1), some (.int x2), some (.int x3), some (.int a1)]) (st' := [.int 0]) (σ' := setL (setI σ 36 23 0) 65 (((100 * x1) + x2).toNatClampNeg) a5) [(.lastore, 1, 0, 0, 0, 0), (.iconst 0, 1, 0, 0, 0, 0)] (pc2 := 63) (by decide +kernel) rfl (And.intro kd_65 (And.intro g6 trivial)) ?_
      obtain ⟨rfl, rfl⟩ := Prod.mk.inj (Option.some.inj hf)
      exact hm.iret (by decide +kernel)
    · rw [if_pos c7] at hf
      show V 38 [some (.ref 36), some (.int x1), some (.int x2), some (.int x3), some (.int a1)] [] (setI σ 36 23 0)
      refine h.run (o := []) (ls' := [some (.ref 36), some (.int x1), some (.int x2), some (.int x3), some (.int a1)]) (st' := [.int (-13)]) (σ' := setI σ 36 23 0) [(.bipush (-13), 2, (-13), 0, 0, 0)] (pc2 := 40) (by decide +kernel) rfl trivial ?_
      obtain ⟨rfl, rfl⟩ := Prod.mk.inj (Option.some.inj hf)
      exact hm.iret (by decide +kernel)
  · rw [if_neg c8] at hf
    show V 17 [some (.ref 36), some (.int x1), some (.int x2), some (.int x3), some (.int a1)] [] (setI σ 36 23 0)
    refine h.run (o := []) (ls' := [some (.ref 36), some (.int x1), some (.int x2), some (.int x3), some (.int a1)]) (st' := [.int a1]) (σ' := setI σ 36 23 0) [(.iload 4, 2, 0, 0, 0, 0)] (pc2 := 19) (by decide +kernel) rfl trivial ?_
    obtain ⟨rfl, rfl⟩ := Prod.mk.inj (Option.some.inj hf)
    exact hm.iret (by decide +kernel)
def fX6_element_68 (t0 : Int64) (σ : ST) : Option (Int64 × ST) :=
  some (t0, σ)
set_option maxHeartbeats 4000000 in
theorem wX6_element_68 {l : Launch} {V : Nat → List (Option Value) → List Value → ST → Prop} {r : Int64} {τ : ST} {σ : ST} {t0 : Int64} (hm : BM l 6 cX6_element 4 (some .long) 2 46 (some (.long r)) τ V) (hf : fX6_element_68 t0 σ = some (r, τ)) : V 68 [none, none, none, none] [.long t0] σ := by
  have h := hm.bd
  unfold fX6_element_68 at hf
  obtain ⟨rfl, rfl⟩ := Prod.mk.inj (Option.some.inj hf)
  exact hm.lret (by decide +kernel)
def fX6_element_43 (x1 : Int32) (x2 : Int32) (t1 : Int32) (σ : ST) : Option (Int64 × ST) :=
  if ((setI σ 36 23 t1).1 36 23) ≤ 0 then
    gd (inb ((100 * x1) + x2) (alen 65)) <|
    fX6_element_68 ((setI σ 36 23 t1).2 65 (((100 * x1) + x2).toNatClampNeg)) (setI σ 36 23 t1)
  else
    fX6_element_68 0 (setI σ 36 23 t1)
set_option maxHeartbeats 4000000 in
theorem wX6_element_43 {l : Launch} {V : Nat → List (Option Value) → List Value → ST → Prop} {r : Int64} {τ : ST} {σ : ST} {x1 : Int32} {x2 : Int32} {t1 : Int32} (hm : BM l 6 cX6_element 4 (some .long) 2 46 (some (.long r)) τ V) (hf : fX6_element_43 x1 x2 t1 σ = some (r, τ)) : V 43 [some (.ref 36), some (.int x1), some (.int x2), none] [.int t1, .ref 36] σ := by
  have h := hm.bd
  unfold fX6_element_43 at hf
  refine h.run (o := [kd 36 = 6, kd 36 = 6]) (ls' := [some (.ref 36), some (.int x1), some (.int x2), none]) (st' := [.int ((setI σ 36 23 t1).1 36 23)]) (σ' := setI σ 36 23 t1) [(.putfield 112, 3, 0, 0, 6, 23), (.aload_n 0, 1, 0, 0, 0, 0), (.getfield 112, 3, 0, 0, 6, 23)] (pc2 := 50) (by decide +kernel) rfl (And.intro kd_36 (And.intro kd_36 trivial)) ?_
  refine h.if_le (tgt := 57) (show decode cX6_element 50 = .ok (.ifCond .le 7, 3) by decide +kernel) (by decide) (fun c2 => ?_) (fun c2 => ?_)
  · rw [if_pos c2] at hf
    obtain ⟨g1, hf⟩ := gd_some hf
    refine h.run (o := [kd 36 = 6, kd 65 = 12, inb ((100 * x1) + x2) (alen 65) = true]) (ls' := [some (.ref 36), some (.int x1), some (.int x2), none]) (st' := [.long ((setI σ 36 23 t1).2 65 (((100 * x1) + x2).toNatClampNeg))]) (σ' := setI σ 36 23 t1) [(.aload_n 0, 1, 0, 0, 0, 0), (.getfield 105, 3, 0, 0, 6, 45), (.bipush 100, 2, 100, 0, 0, 0), (.iload_n 1, 1, 0, 0, 0, 0), (.imul, 1, 0, 0, 0, 0), (.iload_n 2, 1, 0, 0, 0, 0), (.iadd, 1, 0, 0, 0, 0), (.laload, 1, 0, 0, 0, 0)] (pc2 := 68) (by decide +kernel) rfl (And.intro kd_36 (And.intro kd_65 (And.intro g1 trivial))) ?_
    refine h.drop (ls' := [none, none, none, none]) trivial ?_
    exact wX6_element_68 hm hf
  · rw [if_neg c2] at hf
    show V 53 [some (.ref 36), some (.int x1), some (.int x2), none] [] (setI σ 36 23 t1)
    refine h.run (o := []) (ls' := [some (.ref 36), some (.int x1), some (.int x2), none]) (st' := [.long 0]) (σ' := setI σ 36 23 t1) [(.lconst 0, 1, 0, 0, 0, 0), (.goto 14, 3, 0, 0, 0, 68)] (pc2 := 68) (by decide +kernel) rfl trivial ?_
    refine h.drop (ls' := [none, none, none, none]) trivial ?_
    exact wX6_element_68 hm hf
def fX6_element_38 (x1 : Int32) (x2 : Int32) (σ : ST) : Option (Int64 × ST) :=
  fX6_element_43 x1 x2 2 σ
set_option maxHeartbeats 4000000 in
theorem wX6_element_38 {l : Launch} {V : Nat → List (Option Value) → List Value → ST → Prop} {r : Int64} {τ : ST} {σ : ST} {x1 : Int32} {x2 : Int32} (hm : BM l 6 cX6_element 4 (some .long) 2 46 (some (.long r)) τ V) (hf : fX6_element_38 x1 x2 σ = some (r, τ)) : V 38 [some (.ref 36), some (.int x1), some (.int x2), none] [.ref 36] σ := by
  have h := hm.bd
  unfold fX6_element_38 at hf
  refine h.run (o := []) (ls' := [some (.ref 36), some (.int x1), some (.int x2), none]) (st' := [.int 2, .ref 36]) (σ' := σ) [(.iconst 2, 1, 2, 0, 0, 0), (.goto 4, 3, 0, 0, 0, 43)] (pc2 := 43) (by decide +kernel) rfl trivial ?_
  exact wX6_element_43 hm hf
def fX6_element (x1 : Int32) (x2 : Int32) (σ : ST) : Option (Int64 × ST) :=
  bR (fX6_wrongRow x1 σ) fun a1 =>
  if a1 = (-1) then
    fX6_element_43 x1 x2 1 σ
  else
    if a1 < 0 then
      fX6_element_38 x1 x2 σ
    else
      gd (inb x1 (alen 64)) <|
      bR (fX6_in x2.toInt64 0 (((σ.1 64 x1.toNatClampNeg) - 1).toInt64) σ) fun a3 =>
      if a3 = 0 then
        fX6_element_38 x1 x2 σ
      else
        fX6_element_43 x1 x2 0 σ
set_option maxHeartbeats 4000000 in
theorem kmX6_element (l : Launch) {x1 : Int32} {x2 : Int32} {σ : ST} {r : Int64} {τ : ST} (hf : fX6_element x1 x2 σ = some (r, τ)) : KM l yX6_element cX6_element 4 (some .long) 2 46 [.ref 36, .int x1, .int x2] σ (some (.long r)) τ := by
  refine KM.intro (ow := 6) (by decide +kernel) rfl (Nat.le_of_ble_eq_true rfl) (fun V hm => ?_)
  show V 0 [some (.ref 36), some (.int x1), some (.int x2), none] [] σ
  have h := hm.bd
  unfold fX6_element at hf
  refine h.run (o := []) (ls' := [some (.ref 36), some (.int x1), some (.int x2), none]) (st' := [.int x1, .ref 36]) (σ' := σ) [(.aload_n 0, 1, 0, 0, 0, 0), (.iload_n 1, 1, 0, 0, 0, 0)] (pc2 := 2) (by decide +kernel) rfl trivial ?_
  obtain ⟨a1, e1, hf⟩ := bR_some hf
  refine h.callV (as := [.int x1]) (rest := []) (by decide +kernel) lk6_171 cwX6_wrongRow kd_36 (kmX6_wrongRow l e1) rfl (Nat.le_of_ble_eq_true rfl) (Nat.le_of_ble_eq_true rfl) (Nat.le_of_ble_eq_true rfl) ?_
  show V 5 [some (.ref 36), some (.int x1), some (.int x2), none] [.int a1] σ
  refine h.run (o := []) (ls' := [some (.ref 36), some (.int x1), some (.int x2), some (.int a1)]) (st' := [.int (-1), .int a1, .ref 36]) (σ' := σ) [(.istore_n 3, 1, 0, 0, 0, 0), (.aload_n 0, 1, 0, 0, 0, 0), (.iload_n 3, 1, 0, 0, 0, 0), (.iconst (-1), 1, (-1), 0, 0, 0)] (pc2 := 9) (by decide +kernel) rfl trivial ?_
  refine h.icmp_ne (tgt := 16) (show decode cX6_element 9 = .ok (.if_icmp .ne 7, 3) by decide +kernel) (by decide) (fun c6 => ?_) (fun c6 => ?_)
  · rw [if_neg c6] at hf
    refine h.run (o := []) (ls' := [some (.ref 36), some (.int x1), some (.int x2), some (.int a1)]) (st' := [.int a1, .ref 36]) (σ' := σ) [(.iload_n 3, 1, 0, 0, 0, 0)] (pc2 := 17) (by decide +kernel) rfl trivial ?_
    refine h.if_lt (tgt := 38) (show decode cX6_element 17 = .ok (.ifCond .lt 21, 3) by decide +kernel) (by decide) (fun c5 => ?_) (fun c5 => ?_)
    · rw [if_pos c5] at hf
      refine h.drop (ls' := [some (.ref 36), some (.int x1), some (.int x2), none]) (And.intro rfl (And.intro rfl (And.intro rfl trivial))) ?_
      exact wX6_element_38 hm hf
    · rw [if_neg c5] at hf
      show V 20 [some (.ref 36), some (.int x1), some (.int x2), some (.int a1)] [.ref 36] σ
      obtain ⟨g2, hf⟩ := gd_some hf
      refine h.run (o := [kd 36 = 6, kd 64 = 10, inb x1 (alen 64) = true]) (ls' := [some (.ref 36), some (.int x1), some (.int x2), some (.int a1)]) (st' := [.long (((σ.1 64 x1.toNatClampNeg) - 1).toInt64), .long 0, .long x2.toInt64, .ref 36]) (σ' := σ) [(.iload_n 2, 1, 0, 0, 0, 0), (.i2l, 1, 0, 0, 0, 0), (.lconst 0, 1, 0, 0, 0, 0), (.aload_n 0, 1, 0, 0, 0, 0), (.getfield 102, 3, 0, 0, 6, 44), (.iload_n 1, 1, 0, 0, 0, 0), (.iaload, 1, 0, 0, 0, 0), (.iconst 1, 1, 1, 0, 0, 0), (.isub, 1, 0, 0, 0, 0), (.i2l, 1, 0, 0, 0, 0)] (pc2 := 32) (by decide +kernel) rfl (And.intro kd_36 (And.intro kd_64 (And.intro g2 trivial))) ?_
      obtain ⟨a3, e3, hf⟩ := bR_some hf
      refine h.callS (as := [.long x2.toInt64, .long 0, .long (((σ.1 64 x1.toNatClampNeg) - 1).toInt64)]) (rest := [.ref 36]) (by decide +kernel) lk6_119 cwX6_in (kmX6_in l e3) rfl (Nat.le_of_ble_eq_true rfl) (Nat.le_of_ble_eq_true rfl) (Nat.le_of_ble_eq_true rfl) ?_
      show V 35 [some (.ref 36), some (.int x1), some (.int x2), some (.int a1)] [.int a3, .ref 36] σ
      refine h.if_ne (tgt := 42) (show decode cX6_element 35 = .ok (.ifCond .ne 7, 3) by decide +kernel) (by decide) (fun c4 => ?_) (fun c4 => ?_)
      · rw [if_neg c4] at hf
        refine h.run (o := []) (ls' := [some (.ref 36), some (.int x1), some (.int x2), some (.int a1)]) (st' := [.int 0, .ref 36]) (σ' := σ) [(.iconst 0, 1, 0, 0, 0, 0)] (pc2 := 43) (by decide +kernel) rfl trivial ?_
        refine h.drop (ls' := [some (.ref 36), some (.int x1), some (.int x2), none]) (And.intro rfl (And.intro rfl (And.intro rfl trivial))) ?_
        exact wX6_element_43 hm hf
      · rw [if_pos c4] at hf
        show V 38 [some (.ref 36), some (.int x1), some (.int x2), some (.int a1)] [.ref 36] σ
        refine h.drop (ls' := [some (.ref 36), some (.int x1), some (.int x2), none]) (And.intro rfl (And.intro rfl (And.intro rfl trivial))) ?_
        exact wX6_element_38 hm hf
  · rw [if_pos c6] at hf
    show V 12 [some (.ref 36), some (.int x1), some (.int x2), some (.int a1)] [.ref 36] σ
    refine h.run (o := []) (ls' := [some (.ref 36), some (.int x1), some (.int x2), some (.int a1)]) (st' := [.int 1, .ref 36]) (σ' := σ) [(.iconst 1, 1, 1, 0, 0, 0), (.goto 30, 3, 0, 0, 0, 43)] (pc2 := 43) (by decide +kernel) rfl trivial ?_
    refine h.drop (ls' := [some (.ref 36), some (.int x1), some (.int x2), none]) (And.intro rfl (And.intro rfl (And.intro rfl trivial))) ?_
    exact wX6_element_43 hm hf
def fX6_copy_29 (σ : ST) : Option (Int32 × ST) :=
  some ((-1), σ)
set_option maxHeartbeats 4000000 in
theorem wX6_copy_29 {l : Launch} {V : Nat → List (Option Value) → List Value → ST → Prop} {r : Int32} {τ : ST} {σ : ST} (hm : BM l 6 cX6_copy 7 (some .int) 1 25 (some (.int r)) τ V) (hf : fX6_copy_29 σ = some (r, τ)) : V 29 [none, none, none, none, none, none, none] [] σ := by
  have h := hm.bd
  unfold fX6_copy_29 at hf
  refine h.run (o := []) (ls' := [none, none, none, none, none, none, none]) (st' := [.int (-1)]) (σ' := σ) [(.iconst (-1), 1, (-1), 0, 0, 0)] (pc2 := 30) (by decide +kernel) rfl trivial ?_
  obtain ⟨rfl, rfl⟩ := Prod.mk.inj (Option.some.inj hf)
  exact hm.iret (by decide +kernel)
def fX6_copy_49 (σ : ST) : Option (Int32 × ST) :=
  some ((-11), σ)
set_option maxHeartbeats 4000000 in
theorem wX6_copy_49 {l : Launch} {V : Nat → List (Option Value) → List Value → ST → Prop} {r : Int32} {τ : ST} {σ : ST} (hm : BM l 6 cX6_copy 7 (some .int) 1 25 (some (.int r)) τ V) (hf : fX6_copy_49 σ = some (r, τ)) : V 49 [none, none, none, none, none, none, none] [] σ := by
  have h := hm.bd
  unfold fX6_copy_49 at hf
  refine h.run (o := []) (ls' := [none, none, none, none, none, none, none]) (st' := [.int (-11)]) (σ' := σ) [(.bipush (-11), 2, (-11), 0, 0, 0)] (pc2 := 51) (by decide +kernel) rfl trivial ?_
  obtain ⟨rfl, rfl⟩ := Prod.mk.inj (Option.some.inj hf)
  exact hm.iret (by decide +kernel)
def fX6_copy_87 (σ : ST) : Option (Int32 × ST) :=
  some ((-12), σ)
set_option maxHeartbeats 4000000 in
theorem wX6_copy_87 {l : Launch} {V : Nat → List (Option Value) → List Value → ST → Prop} {r : Int32} {τ : ST} {σ : ST} (hm : BM l 6 cX6_copy 7 (some .int) 1 25 (some (.int r)) τ V) (hf : fX6_copy_87 σ = some (r, τ)) : V 87 [none, none, none, none, none, none, none] [] σ := by
  have h := hm.bd
  unfold fX6_copy_87 at hf
  refine h.run (o := []) (ls' := [none, none, none, none, none, none, none]) (st' := [.int (-12)]) (σ' := σ) [(.bipush (-12), 2, (-12), 0, 0, 0)] (pc2 := 89) (by decide +kernel) rfl trivial ?_
  obtain ⟨rfl, rfl⟩ := Prod.mk.inj (Option.some.inj hf)
  exact hm.iret (by decide +kernel)
def fX6_copy_131 (σ : ST) : Option (Int32 × ST) :=
  some ((-13), σ)
set_option maxHeartbeats 4000000 in
theorem wX6_copy_131 {l : Launch} {V : Nat → List (Option Value) → List Value → ST → Prop} {r : Int32} {τ : ST} {σ : ST} (hm : BM l 6 cX6_copy 7 (some .int) 1 25 (some (.int r)) τ V) (hf : fX6_copy_131 σ = some (r, τ)) : V 131 [none, none, none, none, none, none, none] [] σ := by
  have h := hm.bd
  unfold fX6_copy_131 at hf
  refine h.run (o := []) (ls' := [none, none, none, none, none, none, none]) (st' := [.int (-13)]) (σ' := σ) [(.bipush (-13), 2, (-13), 0, 0, 0)] (pc2 := 133) (by decide +kernel) rfl trivial ?_
  obtain ⟨rfl, rfl⟩ := Prod.mk.inj (Option.some.inj hf)
  exact hm.iret (by decide +kernel)
def fX6_copy_174 (n : Nat) (x3 : Int32) (x4 : Int32) (x5 : Int32) (x6 : Int32) (σ : ST) : Option (Int32 × ST) := match n with
  | 0 => none
  | n + 1 =>
    if x5 ≤ x6 then
      some (x5, σ)
    else
      gd (inb x6 (alen 66)) <|
      gd (inb (((100 * x3) + x4) + x6) (alen 65)) <|
      fX6_copy_174 n x3 x4 x5 (x6 + 1) (setL σ 65 ((((100 * x3) + x4) + x6).toNatClampNeg) (σ.2 66 x6.toNatClampNeg))
set_option maxHeartbeats 4000000 in
theorem wX6_copy_174 {l : Launch} {V : Nat → List (Option Value) → List Value → ST → Prop} {r : Int32} {τ : ST} (hm : BM l 6 cX6_copy 7 (some .int) 1 25 (some (.int r)) τ V) : ∀ (n : Nat) (x3 : Int32) (x4 : Int32) (x5 : Int32) (x6 : Int32) (σ : ST), fX6_copy_174 n x3 x4 x5 x6 σ = some (r, τ) → V 174 [some (.ref 36), none, none, some (.int x3), some (.int x4), some (.int x5), some (.int x6)] [] σ := by
  have h := hm.bd
  intro n
  induction n with
  | zero => intro x3 x4 x5 x6 σ hf; cases hf
  | succ n ih =>
    intro x3 x4 x5 x6 σ hf
    rw [fX6_copy_174] at hf
    refine h.run (o := []) (ls' := [some (.ref 36), none, none, some (.int x3), some (.int x4), some (.int x5), some (.int x6)]) (st' := [.int x5, .int x6]) (σ' := σ) [(.iload 6, 2, 0, 0, 0, 0), (.iload 5, 2, 0, 0, 0, 0)] (pc2 := 178) (by decide +kernel) rfl trivial ?_
    refine h.icmp_ge (tgt := 209) (show decode cX6_copy 178 = .ok (.if_icmp .ge 31, 3) by decide +kernel) (by decide) (fun c3 => ?_) (fun c3 => ?_)
    · rw [if_pos c3] at hf
      refine h.run (o := []) (ls' := [some (.ref 36), none, none, some (.int x3), some (.int x4), some (.int x5), some (.int x6)]) (st' := [.int x5]) (σ' := σ) [(.iload 5, 2, 0, 0, 0, 0)] (pc2 := 211) (by decide +kernel) rfl trivial ?_
      obtain ⟨rfl, rfl⟩ := Prod.mk.inj (Option.some.inj hf)
      exact hm.iret (by decide +kernel)
    · rw [if_neg c3] at hf
      show V 181 [some (.ref 36), none, none, some (.int x3), some (.int x4), some (.int x5), some (.int x6)] [] σ
      obtain ⟨g1, hf⟩ := gd_some hf
      obtain ⟨g2, hf⟩ := gd_some hf
      refine h.run (o := [kd 36 = 6, kd 36 = 6, kd 66 = 12, inb x6 (alen 66) = true, kd 65 = 12, inb (((100 * x3) + x4) + x6) (alen 65) = true]) (ls' := [some (.ref 36), none, none, some (.int x3), some (.int x4), some (.int x5), some (.int (x6 + 1))]) (st' := []) (σ' := setL σ 65 ((((100 * x3) + x4) + x6).toNatClampNeg) (σ.2 66 x6.toNatClampNeg)) [(.aload_n 0, 1, 0, 0, 0, 0), (.getfield 105, 3, 0, 0, 6, 45), (.bipush 100, 2, 100, 0, 0, 0), (.iload_n 3, 1, 0, 0, 0, 0), (.imul, 1, 0, 0, 0, 0), (.iload 4, 2, 0, 0, 0, 0), (.iadd, 1, 0, 0, 0, 0), (.iload 6, 2, 0, 0, 0, 0), (.iadd, 1, 0, 0, 0, 0), (.aload_n 0, 1, 0, 0, 0, 0), (.getfield 109, 3, 0, 0, 6, 46), (.iload 6, 2, 0, 0, 0, 0), (.laload, 1, 0, 0, 0, 0), (.lastore, 1, 0, 0, 0, 0), (.iinc 6 1, 3, 1, 0, 0, 0), (.goto (-32), 3, 0, 0, 0, 174)] (pc2 := 174) (by decide +kernel) rfl (And.intro kd_36 (And.intro kd_36 (And.intro kd_66 (And.intro g1 (And.intro kd_65 (And.intro g2 trivial)))))) ?_
      exact ih x3 x4 x5 (x6 + 1) _ hf
def fX6_copy_137 (n : Nat) (x1 : Int32) (x2 : Int32) (x3 : Int32) (x4 : Int32) (x5 : Int32) (x6 : Int32) (σ : ST) : Option (Int32 × ST) := match n with
  | 0 => none
  | n + 1 =>
    if x5 ≤ x6 then
      fX6_copy_174 FU x3 x4 x5 0 σ
    else
      gd (inb (((100 * x1) + x2) + x6) (alen 65)) <|
      gd (inb x6 (alen 66)) <|
      fX6_copy_137 n x1 x2 x3 x4 x5 (x6 + 1) (setL σ 66 (x6.toNatClampNeg) (σ.2 65 ((((100 * x1) + x2) + x6).toNatClampNeg)))
set_option maxHeartbeats 4000000 in
theorem wX6_copy_137 {l : Launch} {V : Nat → List (Option Value) → List Value → ST → Prop} {r : Int32} {τ : ST} (hm : BM l 6 cX6_copy 7 (some .int) 1 25 (some (.int r)) τ V) : ∀ (n : Nat) (x1 : Int32) (x2 : Int32) (x3 : Int32) (x4 : Int32) (x5 : Int32) (x6 : Int32) (σ : ST), fX6_copy_137 n x1 x2 x3 x4 x5 x6 σ = some (r, τ) → V 137 [some (.ref 36), some (.int x1), some (.int x2), some (.int x3), some (.int x4), some (.int x5), some (.int x6)] [] σ := by
  have h := hm.bd
  intro n
  induction n with
  | zero => intro x1 x2 x3 x4 x5 x6 σ hf; cases hf
  | succ n ih =>
    intro x1 x2 x3 x4 x5 x6 σ hf
    rw [fX6_copy_137] at hf
    refine h.run (o := []) (ls' := [some (.ref 36), some (.int x1), some (.int x2), some (.int x3), some (.int x4), some (.int x5), some (.int x6)]) (st' := [.int x5, .int x6]) (σ' := σ) [(.iload 6, 2, 0, 0, 0, 0), (.iload 5, 2, 0, 0, 0, 0)] (pc2 := 141) (by decide +kernel) rfl trivial ?_
    refine h.icmp_ge (tgt := 171) (show decode cX6_copy 141 = .ok (.if_icmp .ge 30, 3) by decide +kernel) (by decide) (fun c3 => ?_) (fun c3 => ?_)
    · rw [if_pos c3] at hf
      refine h.run (o := []) (ls' := [some (.ref 36), some (.int x1), some (.int x2), some (.int x3), some (.int x4), some (.int x5), some (.int 0)]) (st' := []) (σ' := σ) [(.iconst 0, 1, 0, 0, 0, 0), (.istore 6, 2, 0, 0, 0, 0)] (pc2 := 174) (by decide +kernel) rfl trivial ?_
      refine h.drop (ls' := [some (.ref 36), none, none, some (.int x3), some (.int x4), some (.int x5), some (.int 0)]) (And.intro rfl (And.intro rfl (And.intro rfl (And.intro rfl (And.intro rfl trivial))))) ?_
      exact wX6_copy_174 hm FU x3 x4 x5 0 _ hf
    · rw [if_neg c3] at hf
      show V 144 [some (.ref 36), some (.int x1), some (.int x2), some (.int x3), some (.int x4), some (.int x5), some (.int x6)] [] σ
      obtain ⟨g1, hf⟩ := gd_some hf
      obtain ⟨g2, hf⟩ := gd_some hf
      refine h.run (o := [kd 36 = 6, kd 36 = 6, kd 65 = 12, inb (((100 * x1) + x2) + x6) (alen 65) = true, kd 66 = 12, inb x6 (alen 66) = true]) (ls' := [some (.ref 36), some (.int x1), some (.int x2), some (.int x3), some (.int x4), some (.int x5), some (.int (x6 + 1))]) (st' := []) (σ' := setL σ 66 (x6.toNatClampNeg) (σ.2 65 ((((100 * x1) + x2) + x6).toNatClampNeg))) [(.aload_n 0, 1, 0, 0, 0, 0), (.getfield 109, 3, 0, 0, 6, 46), (.iload 6, 2, 0, 0, 0, 0), (.aload_n 0, 1, 0, 0, 0, 0), (.getfield 105, 3, 0, 0, 6, 45), (.bipush 100, 2, 100, 0, 0, 0), (.iload_n 1, 1, 0, 0, 0, 0), (.imul, 1, 0, 0, 0, 0), (.iload_n 2, 1, 0, 0, 0, 0), (.iadd, 1, 0, 0, 0, 0), (.iload 6, 2, 0, 0, 0, 0), (.iadd, 1, 0, 0, 0, 0), (.laload, 1, 0, 0, 0, 0), (.lastore, 1, 0, 0, 0, 0), (.iinc 6 1, 3, 1, 0, 0, 0), (.goto (-31), 3, 0, 0, 0, 137)] (pc2 := 137) (by decide +kernel) rfl (And.intro kd_36 (And.intro kd_36 (And.intro kd_65 (And.intro g1 (And.intro kd_66 (And.intro g2 trivial)))))) ?_
      exact ih x1 x2 x3 x4 x5 (x6 + 1) _ hf
def fX6_copy (x1 : Int32) (x2 : Int32) (x3 : Int32) (x4 : Int32) (x5 : Int32) (σ : ST) : Option (Int32 × ST) :=
  bR (fX6_in x1.toInt64 0 7 (setI σ 36 23 0)) fun a1 =>
  if a1 = 0 then
    fX6_copy_29 (setI σ 36 23 0)
  else
    bR (fX6_in x3.toInt64 0 7 (setI σ 36 23 0)) fun a2 =>
    if a2 = 0 then
      fX6_copy_29 (setI σ 36 23 0)
    else
      gd (inb x1 (alen 58)) <|
      if ((setI σ 36 23 0).1 58 x1.toNatClampNeg) = 0 then
        fX6_copy_49 (setI σ 36 23 0)
      else
        gd (inb x3 (alen 58)) <|
        if ((setI σ 36 23 0).1 58 x3.toNatClampNeg) = 0 then
          fX6_copy_49 (setI σ 36 23 0)
        else
          gd (inb x1 (alen 58)) <|
          if ((setI σ 36 23 0).1 58 x1.toNatClampNeg) = 2 then
            gd (inb x3 (alen 58)) <|
            if ((setI σ 36 23 0).1 58 x3.toNatClampNeg) = 2 then
              gd (inb x1 (alen 63)) <|
              gd (inb x3 (alen 63)) <|
              if ((setI σ 36 23 0).1 63 x1.toNatClampNeg) = ((setI σ 36 23 0).1 63 x3.toNatClampNeg) then
                if x5 < 0 then
                  fX6_copy_131 (setI σ 36 23 0)
                else
                  if x2 < 0 then
                    fX6_copy_131 (setI σ 36 23 0)
                  else
                    if x4 < 0 then
                      fX6_copy_131 (setI σ 36 23 0)
                    else
                      gd (inb x1 (alen 64)) <|
                      if (((setI σ 36 23 0).1 64 x1.toNatClampNeg) - x5) < x2 then
                        fX6_copy_131 (setI σ 36 23 0)
                      else
                        gd (inb x3 (alen 64)) <|
                        if x4 ≤ (((setI σ 36 23 0).1 64 x3.toNatClampNeg) - x5) then
                          fX6_copy_137 FU x1 x2 x3 x4 x5 0 (setI σ 36 23 0)
                        else
                          fX6_copy_131 (setI σ 36 23 0)
              else
                fX6_copy_87 (setI σ 36 23 0)
            else
              fX6_copy_87 (setI σ 36 23 0)
          else
            fX6_copy_87 (setI σ 36 23 0)
set_option maxHeartbeats 4000000 in
theorem kmX6_copy (l : Launch) {x1 : Int32} {x2 : Int32} {x3 : Int32} {x4 : Int32} {x5 : Int32} {σ : ST} {r : Int32} {τ : ST} (hf : fX6_copy x1 x2 x3 x4 x5 σ = some (r, τ)) : KM l yX6_copy cX6_copy 7 (some .int) 1 25 [.ref 36, .int x1, .int x2, .int x3, .int x4, .int x5] σ (some (.int r)) τ := by
  refine KM.intro (ow := 6) (by decide +kernel) rfl (Nat.le_of_ble_eq_true rfl) (fun V hm => ?_)
  show V 0 [some (.ref 36), some (.int x1), some (.int x2), some (.int x3), some (.int x4), some (.int x5), none] [] σ
  have h := hm.bd
  unfold fX6_copy at hf
  refine h.run (o := [kd 36 = 6]) (ls' := [some (.ref 36), some (.int x1), some (.int x2), some (.int x3), some (.int x4), some (.int x5), none]) (st' := [.long 7, .long 0, .long x1.toInt64]) (σ' := setI σ 36 23 0) [(.aload_n 0, 1, 0, 0, 0, 0), (.iconst 0, 1, 0, 0, 0, 0), (.putfield 112, 3, 0, 0, 6, 23), (.iload_n 1, 1, 0, 0, 0, 0), (.i2l, 1, 0, 0, 0, 0), (.lconst 0, 1, 0, 0, 0, 0), (.ldc2_w 247, 3, 0, 7, 0, 0)] (pc2 := 11) (by decide +kernel) rfl (And.intro kd_36 trivial) ?_
  obtain ⟨a1, e1, hf⟩ := bR_some hf
  refine h.callS (as := [.long x1.toInt64, .long 0, .long 7]) (rest := []) (by decide +kernel) lk6_119 cwX6_in (kmX6_in l e1) rfl (Nat.le_of_ble_eq_true rfl) (Nat.le_of_ble_eq_true rfl) (Nat.le_of_ble_eq_true rfl) ?_
  show V 14 [some (.ref 36), some (.int x1), some (.int x2), some (.int x3), some (.int x4), some (.int x5), none] [.int a1] (setI σ 36 23 0)
  refine h.if_eq (tgt := 29) (show decode cX6_copy 14 = .ok (.ifCond .eq 15, 3) by decide +kernel) (by decide) (fun c22 => ?_) (fun c22 => ?_)
  · rw [if_pos c22] at hf
    refine h.drop (ls' := [none, none, none, none, none, none, none]) trivial ?_
    exact wX6_copy_29 hm hf
  · rw [if_neg c22] at hf
    show V 17 [some (.ref 36), some (.int x1), some (.int x2), some (.int x3), some (.int x4), some (.int x5), none] [] (setI σ 36 23 0)
    refine h.run (o := []) (ls' := [some (.ref 36), some (.int x1), some (.int x2), some (.int x3), some (.int x4), some (.int x5), none]) (st' := [.long 7, .long 0, .long x3.toInt64]) (σ' := setI σ 36 23 0) [(.iload_n 3, 1, 0, 0, 0, 0), (.i2l, 1, 0, 0, 0, 0), (.lconst 0, 1, 0, 0, 0, 0), (.ldc2_w 247, 3, 0, 7, 0, 0)] (pc2 := 23) (by decide +kernel) rfl trivial ?_
    obtain ⟨a2, e2, hf⟩ := bR_some hf
    refine h.callS (as := [.long x3.toInt64, .long 0, .long 7]) (rest := []) (by decide +kernel) lk6_119 cwX6_in (kmX6_in l e2) rfl (Nat.le_of_ble_eq_true rfl) (Nat.le_of_ble_eq_true rfl) (Nat.le_of_ble_eq_true rfl) ?_
    show V 26 [some (.ref 36), some (.int x1), some (.int x2), some (.int x3), some (.int x4), some (.int x5), none] [.int a2] (setI σ 36 23 0)
    refine h.if_ne (tgt := 31) (show decode cX6_copy 26 = .ok (.ifCond .ne 5, 3) by decide +kernel) (by decide) (fun c21 => ?_) (fun c21 => ?_)
    · rw [if_neg c21] at hf
      obtain ⟨g3, hf⟩ := gd_some hf
      refine h.run (o := [kd 36 = 6, kd 58 = 10, inb x1 (alen 58) = true]) (ls' := [some (.ref 36), some (.int x1), some (.int x2), some (.int x3), some (.int x4), some (.int x5), none]) (st' := [.int ((setI σ 36 23 0).1 58 x1.toNatClampNeg)]) (σ' := setI σ 36 23 0) [(.aload_n 0, 1, 0, 0, 0, 0), (.getfield 84, 3, 0, 0, 6, 38), (.iload_n 1, 1, 0, 0, 0, 0), (.iaload, 1, 0, 0, 0, 0)] (pc2 := 37) (by decide +kernel) rfl (And.intro kd_36 (And.intro kd_58 (And.intro g3 trivial))) ?_
      refine h.if_eq (tgt := 49) (show decode cX6_copy 37 = .ok (.ifCond .eq 12, 3) by decide +kernel) (by decide) (fun c20 => ?_) (fun c20 => ?_)
      · rw [if_pos c20] at hf
        refine h.drop (ls' := [none, none, none, none, none, none, none]) trivial ?_
        exact wX6_copy_49 hm hf
      · rw [if_neg c20] at hf
        show V 40 [some (.ref 36), some (.int x1), some (.int x2), some (.int x3), some (.int x4), some (.int x5), none] [] (setI σ 36 23 0)
        obtain ⟨g4, hf⟩ := gd_some hf
        refine h.run (o := [kd 36 = 6, kd 58 = 10, inb x3 (alen 58) = true]) (ls' := [some (.ref 36), some (.int x1), some (.int x2), some (.int x3), some (.int x4), some (.int x5), none]) (st' := [.int ((setI σ 36 23 0).1 58 x3.toNatClampNeg)]) (σ' := setI σ 36 23 0) [(.aload_n 0, 1, 0, 0, 0, 0), (.getfield 84, 3, 0, 0, 6, 38), (.iload_n 3, 1, 0, 0, 0, 0), (.iaload, 1, 0, 0, 0, 0)] (pc2 := 46) (by decide +kernel) rfl (And.intro kd_36 (And.intro kd_58 (And.intro g4 trivial))) ?_
        refine h.if_ne (tgt := 52) (show decode cX6_copy 46 = .ok (.ifCond .ne 6, 3) by decide +kernel) (by decide) (fun c19 => ?_) (fun c19 => ?_)
        · rw [if_neg c19] at hf
          obtain ⟨g5, hf⟩ := gd_some hf
          refine h.run (o := [kd 36 = 6, kd 58 = 10, inb x1 (alen 58) = true]) (ls' := [some (.ref 36), some (.int x1), some (.int x2), some (.int x3), some (.int x4), some (.int x5), none]) (st' := [.int 2, .int ((setI σ 36 23 0).1 58 x1.toNatClampNeg)]) (σ' := setI σ 36 23 0) [(.aload_n 0, 1, 0, 0, 0, 0), (.getfield 84, 3, 0, 0, 6, 38), (.iload_n 1, 1, 0, 0, 0, 0), (.iaload, 1, 0, 0, 0, 0), (.iconst 2, 1, 2, 0, 0, 0)] (pc2 := 59) (by decide +kernel) rfl (And.intro kd_36 (And.intro kd_58 (And.intro g5 trivial))) ?_
          refine h.icmp_ne (tgt := 87) (show decode cX6_copy 59 = .ok (.if_icmp .ne 28, 3) by decide +kernel) (by decide) (fun c18 => ?_) (fun c18 => ?_)
          · rw [if_neg c18] at hf
            refine h.drop (ls' := [none, none, none, none, none, none, none]) trivial ?_
            exact wX6_copy_87 hm hf
          · rw [if_pos c18] at hf
            show V 62 [some (.ref 36), some (.int x1), some (.int x2), some (.int x3), some (.int x4), some (.int x5), none] [] (setI σ 36 23 0)
            obtain ⟨g6, hf⟩ := gd_some hf
            refine h.run (o := [kd 36 = 6, kd 58 = 10, inb x3 (alen 58) = true]) (ls' := [some (.ref 36), some (.int x1), some (.int x2), some (.int x3), some (.int x4), some (.int x5), none]) (st' := [.int 2, .int ((setI σ 36 23 0).1 58 x3.toNatClampNeg)]) (σ' := setI σ 36 23 0) [(.aload_n 0, 1, 0, 0, 0, 0), (.getfield 84, 3, 0, 0, 6, 38), (.iload_n 3, 1, 0, 0, 0, 0), (.iaload, 1, 0, 0, 0, 0), (.iconst 2, 1, 2, 0, 0, 0)] (pc2 := 69) (by decide +kernel) rfl (And.intro kd_36 (And.intro kd_58 (And.intro g6 trivial))) ?_
            refine h.icmp_ne (tgt := 87) (show decode cX6_copy 69 = .ok (.if_icmp .ne 18, 3) by decide +kernel) (by decide) (fun c17 => ?_) (fun c17 => ?_)
            · rw [if_neg c17] at hf
              refine h.drop (ls' := [none, none, none, none, none, none, none]) trivial ?_
              exact wX6_copy_87 hm hf
            · rw [if_pos c17] at hf
              show V 72 [some (.ref 36), some (.int x1), some (.int x2), some (.int x3), some (.int x4), some (.int x5), none] [] (setI σ 36 23 0)
              obtain ⟨g7, hf⟩ := gd_some hf
              obtain ⟨g8, hf⟩ := gd_some hf
              refine h.run (o := [kd 36 = 6, kd 63 = 10, inb x1 (alen 63) = true, kd 36 = 6, kd 63 = 10, inb x3 (alen 63) = true]) (ls' := [some (.ref 36), some (.int x1), some (.int x2), some (.int x3), some (.int x4), some (.int x5), none]) (st' := [.int ((setI σ 36 23 0).1 63 x3.toNatClampNeg), .int ((setI σ 36 23 0).1 63 x1.toNatClampNeg)]) (σ' := setI σ 36 23 0) [(.aload_n 0, 1, 0, 0, 0, 0), (.getfield 99, 3, 0, 0, 6, 43), (.iload_n 1, 1, 0, 0, 0, 0), (.iaload, 1, 0, 0, 0, 0), (.aload_n 0, 1, 0, 0, 0, 0), (.getfield 99, 3, 0, 0, 6, 43), (.iload_n 3, 1, 0, 0, 0, 0), (.iaload, 1, 0, 0, 0, 0)] (pc2 := 84) (by decide +kernel) rfl (And.intro kd_36 (And.intro kd_63 (And.intro g7 (And.intro kd_36 (And.intro kd_63 (And.intro g8 trivial)))))) ?_
              refine h.icmp_eq (tgt := 90) (show decode cX6_copy 84 = .ok (.if_icmp .eq 6, 3) by decide +kernel) (by decide) (fun c16 => ?_) (fun c16 => ?_)
              · rw [if_pos c16] at hf
                refine h.run (o := []) (ls' := [some (.ref 36), some (.int x1), some (.int x2), some (.int x3), some (.int x4), some (.int x5), none]) (st' := [.int x5]) (σ' := setI σ 36 23 0) [(.iload 5, 2, 0, 0, 0, 0)] (pc2 := 92) (by decide +kernel) rfl trivial ?_
                refine h.if_lt (tgt := 131) (show decode cX6_copy 92 = .ok (.ifCond .lt 39, 3) by decide +kernel) (by decide) (fun c15 => ?_) (fun c15 => ?_)
                · rw [if_pos c15] at hf
                  refine h.drop (ls' := [none, none, none, none, none, none, none]) trivial ?_
                  exact wX6_copy_131 hm hf
                · rw [if_neg c15] at hf
                  show V 95 [some (.ref 36), some (.int x1), some (.int x2), some (.int x3), some (.int x4), some (.int x5), none] [] (setI σ 36 23 0)
                  refine h.run (o := []) (ls' := [some (.ref 36), some (.int x1), some (.int x2), some (.int x3), some (.int x4), some (.int x5), none]) (st' := [.int x2]) (σ' := setI σ 36 23 0) [(.iload_n 2, 1, 0, 0, 0, 0)] (pc2 := 96) (by decide +kernel) rfl trivial ?_
                  refine h.if_lt (tgt := 131) (show decode cX6_copy 96 = .ok (.ifCond .lt 35, 3) by decide +kernel) (by decide) (fun c14 => ?_) (fun c14 => ?_)
                  · rw [if_pos c14] at hf
                    refine h.drop (ls' := [none, none, none, none, none, none, none]) trivial ?_
                    exact wX6_copy_131 hm hf
                  · rw [if_neg c14] at hf
                    show V 99 [some (.ref 36), some (.int x1), some (.int x2), some (.int x3), some (.int x4), some (.int x5), none] [] (setI σ 36 23 0)
                    refine h.run (o := []) (ls' := [some (.ref 36), some (.int x1), some (.int x2), some (.int x3), some (.int x4), some (.int x5), none]) (st' := [.int x4]) (σ' := setI σ 36 23 0) [(.iload 4, 2, 0, 0, 0, 0)] (pc2 := 101) (by decide +kernel) rfl trivial ?_
                    refine h.if_lt (tgt := 131) (show decode cX6_copy 101 = .ok (.ifCond .lt 30, 3) by decide +kernel) (by decide) (fun c13 => ?_) (fun c13 => ?_)
                    · rw [if_pos c13] at hf
                      refine h.drop (ls' := [none, none, none, none, none, none, none]) trivial ?_
                      exact wX6_copy_131 hm hf
                    · rw [if_neg c13] at hf
                      show V 104 [some (.ref 36), some (.int x1), some (.int x2), some (.int x3), some (.int x4), some (.int x5), none] [] (setI σ 36 23 0)
                      obtain ⟨g9, hf⟩ := gd_some hf
                      refine h.run (o := [kd 36 = 6, kd 64 = 10, inb x1 (alen 64) = true]) (ls' := [some (.ref 36), some (.int x1), some (.int x2), some (.int x3), some (.int x4), some (.int x5), none]) (st' := [.int (((setI σ 36 23 0).1 64 x1.toNatClampNeg) - x5), .int x2]) (σ' := setI σ 36 23 0) [(.iload_n 2, 1, 0, 0, 0, 0), (.aload_n 0, 1, 0, 0, 0, 0), (.getfield 102, 3, 0, 0, 6, 44), (.iload_n 1, 1, 0, 0, 0, 0), (.iaload, 1, 0, 0, 0, 0), (.iload 5, 2, 0, 0, 0, 0), (.isub, 1, 0, 0, 0, 0)] (pc2 := 114) (by decide +kernel) rfl (And.intro kd_36 (And.intro kd_64 (And.intro g9 trivial))) ?_
                      refine h.icmp_gt (tgt := 131) (show decode cX6_copy 114 = .ok (.if_icmp .gt 17, 3) by decide +kernel) (by decide) (fun c12 => ?_) (fun c12 => ?_)
                      · rw [if_pos c12] at hf
                        refine h.drop (ls' := [none, none, none, none, none, none, none]) trivial ?_
                        exact wX6_copy_131 hm hf
                      · rw [if_neg c12] at hf
                        show V 117 [some (.ref 36), some (.int x1), some (.int x2), some (.int x3), some (.int x4), some (.int x5), none] [] (setI σ 36 23 0)
                        obtain ⟨g10, hf⟩ := gd_some hf
                        refine h.run (o := [kd 36 = 6, kd 64 = 10, inb x3 (alen 64) = true]) (ls' := [some (.ref 36), some (.int x1), some (.int x2), some (.int x3), some (.int x4), some (.int x5), none]) (st' := [.int (((setI σ 36 23 0).1 64 x3.toNatClampNeg) - x5), .int x4]) (σ' := setI σ 36 23 0) [(.iload 4, 2, 0, 0, 0, 0), (.aload_n 0, 1, 0, 0, 0, 0), (.getfield 102, 3, 0, 0, 6, 44), (.iload_n 3, 1, 0, 0, 0, 0), (.iaload, 1, 0, 0, 0, 0), (.iload 5, 2, 0, 0, 0, 0), (.isub, 1, 0, 0, 0, 0)] (pc2 := 128) (by decide +kernel) rfl (And.intro kd_36 (And.intro kd_64 (And.intro g10 trivial))) ?_
                        refine h.icmp_le (tgt := 134) (show decode cX6_copy 128 = .ok (.if_icmp .le 6, 3) by decide +kernel) (by decide) (fun c11 => ?_) (fun c11 => ?_)
                        · rw [if_pos c11] at hf
                          refine h.run (o := []) (ls' := [some (.ref 36), some (.int x1), some (.int x2), some (.int x3), some (.int x4), some (.int x5), some (.int 0)]) (st' := []) (σ' := setI σ 36 23 0) [(.iconst 0, 1, 0, 0, 0, 0), (.istore 6, 2, 0, 0, 0, 0)] (pc2 := 137) (by decide +kernel) rfl trivial ?_
                          exact wX6_copy_137 hm FU x1 x2 x3 x4 x5 0 _ hf
                        · rw [if_neg c11] at hf
                          show V 131 [some (.ref 36), some (.int x1), some (.int x2), some (.int x3), some (.int x4), some (.int x5), none] [] (setI σ 36 23 0)
                          refine h.drop (ls' := [none, none, none, none, none, none, none]) trivial ?_
                          exact wX6_copy_131 hm hf
              · rw [if_neg c16] at hf
                show V 87 [some (.ref 36), some (.int x1), some (.int x2), some (.int x3), some (.int x4), some (.int x5), none] [] (setI σ 36 23 0)
                refine h.drop (ls' := [none, none, none, none, none, none, none]) trivial ?_
                exact wX6_copy_87 hm hf
        · rw [if_pos c19] at hf
          show V 49 [some (.ref 36), some (.int x1), some (.int x2), some (.int x3), some (.int x4), some (.int x5), none] [] (setI σ 36 23 0)
          refine h.drop (ls' := [none, none, none, none, none, none, none]) trivial ?_
          exact wX6_copy_49 hm hf
    · rw [if_pos c21] at hf
      show V 29 [some (.ref 36), some (.int x1), some (.int x2), some (.int x3), some (.int x4), some (.int x5), none] [] (setI σ 36 23 0)
      refine h.drop (ls' := [none, none, none, none, none, none, none]) trivial ?_
      exact wX6_copy_29 hm hf
def fX6_wrongShelf_46 (t0 : Int32) (σ : ST) : Option Int32 :=
  some t0
set_option maxHeartbeats 4000000 in
theorem wX6_wrongShelf_46 {l : Launch} {V : Nat → List (Option Value) → List Value → ST → Prop} {r : Int32} {σ : ST} {t0 : Int32} (hm : BM l 6 cX6_wrongShelf 2 (some .int) 1 25 (some (.int r)) σ V) (hf : fX6_wrongShelf_46 t0 σ = some r) : V 46 [none, none] [.int t0] σ := by
  have h := hm.bd
  unfold fX6_wrongShelf_46 at hf
  obtain rfl := Option.some.inj hf
  exact hm.iret (by decide +kernel)
def fX6_wrongShelf (x1 : Int32) (σ : ST) : Option Int32 :=
  bR (fX6_in x1.toInt64 0 7 σ) fun a1 =>
  if a1 = 0 then
    fX6_wrongShelf_46 (-1) σ
  else
    gd (inb x1 (alen 58)) <|
    if (σ.1 58 x1.toNatClampNeg) = 0 then
      fX6_wrongShelf_46 (-11) σ
    else
      gd (inb x1 (alen 58)) <|
      if (σ.1 58 x1.toNatClampNeg) = 1 then
        fX6_wrongShelf_46 0 σ
      else
        fX6_wrongShelf_46 (-12) σ
set_option maxHeartbeats 4000000 in
theorem kmX6_wrongShelf (l : Launch) {x1 : Int32} {σ : ST} {r : Int32} (hf : fX6_wrongShelf x1 σ = some r) : KM l yX6_wrongShelf cX6_wrongShelf 2 (some .int) 1 25 [.ref 36, .int x1] σ (some (.int r)) σ := by
  refine KM.intro (ow := 6) (by decide +kernel) rfl (Nat.le_of_ble_eq_true rfl) (fun V hm => ?_)
  show V 0 [some (.ref 36), some (.int x1)] [] σ
  have h := hm.bd
  unfold fX6_wrongShelf at hf
  refine h.run (o := []) (ls' := [some (.ref 36), some (.int x1)]) (st' := [.long 7, .long 0, .long x1.toInt64]) (σ' := σ) [(.iload_n 1, 1, 0, 0, 0, 0), (.i2l, 1, 0, 0, 0, 0), (.lconst 0, 1, 0, 0, 0, 0), (.ldc2_w 247, 3, 0, 7, 0, 0)] (pc2 := 6) (by decide +kernel) rfl trivial ?_
  obtain ⟨a1, e1, hf⟩ := bR_some hf
  refine h.callS (as := [.long x1.toInt64, .long 0, .long 7]) (rest := []) (by decide +kernel) lk6_119 cwX6_in (kmX6_in l e1) rfl (Nat.le_of_ble_eq_true rfl) (Nat.le_of_ble_eq_true rfl) (Nat.le_of_ble_eq_true rfl) ?_
  show V 9 [some (.ref 36), some (.int x1)] [.int a1] σ
  refine h.if_ne (tgt := 16) (show decode cX6_wrongShelf 9 = .ok (.ifCond .ne 7, 3) by decide +kernel) (by decide) (fun c6 => ?_) (fun c6 => ?_)
  · rw [if_neg c6] at hf
    obtain ⟨g2, hf⟩ := gd_some hf
    refine h.run (o := [kd 36 = 6, kd 58 = 10, inb x1 (alen 58) = true]) (ls' := [some (.ref 36), some (.int x1)]) (st' := [.int (σ.1 58 x1.toNatClampNeg)]) (σ' := σ) [(.aload_n 0, 1, 0, 0, 0, 0), (.getfield 84, 3, 0, 0, 6, 38), (.iload_n 1, 1, 0, 0, 0, 0), (.iaload, 1, 0, 0, 0, 0)] (pc2 := 22) (by decide +kernel) rfl (And.intro kd_36 (And.intro kd_58 (And.intro g2 trivial))) ?_
    refine h.if_ne (tgt := 30) (show decode cX6_wrongShelf 22 = .ok (.ifCond .ne 8, 3) by decide +kernel) (by decide) (fun c5 => ?_) (fun c5 => ?_)
    · rw [if_neg c5] at hf
      obtain ⟨g3, hf⟩ := gd_some hf
      refine h.run (o := [kd 36 = 6, kd 58 = 10, inb x1 (alen 58) = true]) (ls' := [some (.ref 36), some (.int x1)]) (st' := [.int 1, .int (σ.1 58 x1.toNatClampNeg)]) (σ' := σ) [(.aload_n 0, 1, 0, 0, 0, 0), (.getfield 84, 3, 0, 0, 6, 38), (.iload_n 1, 1, 0, 0, 0, 0), (.iaload, 1, 0, 0, 0, 0), (.iconst 1, 1, 1, 0, 0, 0)] (pc2 := 37) (by decide +kernel) rfl (And.intro kd_36 (And.intro kd_58 (And.intro g3 trivial))) ?_
      refine h.icmp_eq (tgt := 45) (show decode cX6_wrongShelf 37 = .ok (.if_icmp .eq 8, 3) by decide +kernel) (by decide) (fun c4 => ?_) (fun c4 => ?_)
      · rw [if_pos c4] at hf
        refine h.run (o := []) (ls' := [some (.ref 36), some (.int x1)]) (st' := [.int 0]) (σ' := σ) [(.iconst 0, 1, 0, 0, 0, 0)] (pc2 := 46) (by decide +kernel) rfl trivial ?_
        refine h.drop (ls' := [none, none]) trivial ?_
        exact wX6_wrongShelf_46 hm hf
      · rw [if_neg c4] at hf
        show V 40 [some (.ref 36), some (.int x1)] [] σ
        refine h.run (o := []) (ls' := [some (.ref 36), some (.int x1)]) (st' := [.int (-12)]) (σ' := σ) [(.bipush (-12), 2, (-12), 0, 0, 0), (.goto 4, 3, 0, 0, 0, 46)] (pc2 := 46) (by decide +kernel) rfl trivial ?_
        refine h.drop (ls' := [none, none]) trivial ?_
        exact wX6_wrongShelf_46 hm hf
    · rw [if_pos c5] at hf
      show V 25 [some (.ref 36), some (.int x1)] [] σ
      refine h.run (o := []) (ls' := [some (.ref 36), some (.int x1)]) (st' := [.int (-11)]) (σ' := σ) [(.bipush (-11), 2, (-11), 0, 0, 0), (.goto 19, 3, 0, 0, 0, 46)] (pc2 := 46) (by decide +kernel) rfl trivial ?_
      refine h.drop (ls' := [none, none]) trivial ?_
      exact wX6_wrongShelf_46 hm hf
  · rw [if_pos c6] at hf
    show V 12 [some (.ref 36), some (.int x1)] [] σ
    refine h.run (o := []) (ls' := [some (.ref 36), some (.int x1)]) (st' := [.int (-1)]) (σ' := σ) [(.iconst (-1), 1, (-1), 0, 0, 0), (.goto 33, 3, 0, 0, 0, 46)] (pc2 := 46) (by decide +kernel) rfl trivial ?_
    refine h.drop (ls' := [none, none]) trivial ?_
    exact wX6_wrongShelf_46 hm hf
