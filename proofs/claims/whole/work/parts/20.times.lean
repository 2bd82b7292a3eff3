/-! Printed by wip/whole/prt.py: functions and walks. -/
def fX5_shelfAt_23 (o0 : Option Nat) (σ : ST) : Option (Option Nat) :=
  some o0
set_option maxHeartbeats 4000000 in
theorem wX5_shelfAt_23 {l : Launch} {V : Nat → List (Option Value) → List Value → ST → Prop} {r : Option Nat} {σ : ST} {o0 : Option Nat} (hm : BM l 5 cX5_shelfAt 2 (some (.object "ThreeTimes$Shelf")) 0 0 (some (va_rf r)) σ V) (hf : fX5_shelfAt_23 o0 σ = some r) : V 23 [none, none] [va_rf o0] σ := by
  have h := hm.bd
  unfold fX5_shelfAt_23 at hf
  obtain rfl := Option.some.inj hf
  exact hm.aret (by decide +kernel)
def fX5_shelfAt_22 (σ : ST) : Option (Option Nat) :=
  fX5_shelfAt_23 none σ
set_option maxHeartbeats 4000000 in
theorem wX5_shelfAt_22 {l : Launch} {V : Nat → List (Option Value) → List Value → ST → Prop} {r : Option Nat} {σ : ST} (hm : BM l 5 cX5_shelfAt 2 (some (.object "ThreeTimes$Shelf")) 0 0 (some (va_rf r)) σ V) (hf : fX5_shelfAt_22 σ = some r) : V 22 [none, none] [] σ := by
  have h := hm.bd
  unfold fX5_shelfAt_22 at hf
  refine h.run (o := []) (ls' := [none, none]) (st' := [.null]) (σ' := σ) [(.aconst_null, 1, 0, 0, 0, 0)] (pc2 := 23) (by decide +kernel) rfl trivial ?_
  exact wX5_shelfAt_23 hm hf
def fX5_shelfAt (x1 : Int32) (σ : ST) : Option (Option Nat) :=
  if x1 < 0 then
    fX5_shelfAt_22 σ
  else
    if (Int32.ofNat (alen 5)) ≤ x1 then
      fX5_shelfAt_22 σ
    else
      gd (inb x1 8) <|
      fX5_shelfAt_23 (some (20 + 2 * x1.toNatClampNeg)) σ
set_option maxHeartbeats 4000000 in
theorem kmX5_shelfAt (l : Launch) {x1 : Int32} {σ : ST} {r : Option Nat} (hf : fX5_shelfAt x1 σ = some r) : KM l yX5_shelfAt cX5_shelfAt 2 (some (.object "ThreeTimes$Shelf")) 0 0 [.ref 0, .int x1] σ (some (va_rf r)) σ := by
  refine KM.intro (ow := 5) (by decide +kernel) rfl (Nat.le_of_ble_eq_true rfl) (fun V hm => ?_)
  show V 0 [some (.ref 0), some (.int x1)] [] σ
  have h := hm.bd
  unfold fX5_shelfAt at hf
  refine h.run (o := []) (ls' := [some (.ref 0), some (.int x1)]) (st' := [.int x1]) (σ' := σ) [(.iload_n 1, 1, 0, 0, 0, 0)] (pc2 := 1) (by decide +kernel) rfl trivial ?_
  refine h.if_lt (tgt := 22) (show decode cX5_shelfAt 1 = .ok (.ifCond .lt 21, 3) by decide +kernel) (by decide) (fun c3 => ?_) (fun c3 => ?_)
  · rw [if_pos c3] at hf
    refine h.drop (ls' := [none, none]) trivial ?_
    exact wX5_shelfAt_22 hm hf
  · rw [if_neg c3] at hf
    show V 4 [some (.ref 0), some (.int x1)] [] σ
    refine h.run (o := [kd 0 = 5, kd 5 = 13]) (ls' := [some (.ref 0), some (.int x1)]) (st' := [.int (Int32.ofNat (alen 5)), .int x1]) (σ' := σ) [(.iload_n 1, 1, 0, 0, 0, 0), (.aload_n 0, 1, 0, 0, 0, 0), (.getfield 39, 3, 0, 0, 5, 5), (.arraylength, 1, 0, 0, 13, 0)] (pc2 := 10) (by decide +kernel) rfl (And.intro kd_0 (And.intro kd_5 trivial)) ?_
    refine h.icmp_ge (tgt := 22) (show decode cX5_shelfAt 10 = .ok (.if_icmp .ge 12, 3) by decide +kernel) (by decide) (fun c2 => ?_) (fun c2 => ?_)
    · rw [if_pos c2] at hf
      refine h.drop (ls' := [none, none]) trivial ?_
      exact wX5_shelfAt_22 hm hf
    · rw [if_neg c2] at hf
      show V 13 [some (.ref 0), some (.int x1)] [] σ
      obtain ⟨g1, hf⟩ := gd_some hf
      refine h.run (o := [kd 0 = 5, kd 5 = 13, inb x1 8 = true]) (ls' := [some (.ref 0), some (.int x1)]) (st' := [.ref (20 + 2 * x1.toNatClampNeg)]) (σ' := σ) [(.aload_n 0, 1, 0, 0, 0, 0), (.getfield 39, 3, 0, 0, 5, 5), (.iload_n 1, 1, 0, 0, 0, 0), (.aaload, 1, 0, 0, 0, 0), (.goto 4, 3, 0, 0, 0, 23)] (pc2 := 23) (by decide +kernel) rfl (And.intro kd_0 (And.intro kd_5 (And.intro g1 trivial))) ?_
      refine h.drop (ls' := [none, none]) trivial ?_
      exact wX5_shelfAt_23 hm hf
theorem kd_sh : ∀ n, n < 8 → kd (20 + 2 * n) = 3 := by decide +kernel
theorem shelfAt_kd {x1 : Int32} {σ : ST} {k : Nat} (h : fX5_shelfAt x1 σ = some (some k)) : kd k = 3 := by
  unfold fX5_shelfAt fX5_shelfAt_22 fX5_shelfAt_23 at h
  split at h
  · cases h
  · split at h
    · cases h
    · obtain ⟨g, h⟩ := gd_some h
      cases h
      simp only [inb, Bool.and_eq_true, decide_eq_true_eq] at g
      exact kd_sh _ g.2
def fX5_isSenderAsTold_38 (t0 : Int32) (σ : ST) : Option Int32 :=
  gd (isb t0) <|
  some t0
set_option maxHeartbeats 4000000 in
theorem wX5_isSenderAsTold_38 {l : Launch} {V : Nat → List (Option Value) → List Value → ST → Prop} {r : Int32} {σ : ST} {t0 : Int32} (hm : BM l 5 cX5_isSenderAsTold 2 (some .boolean) 2 46 (some (.int r)) σ V) (hf : fX5_isSenderAsTold_38 t0 σ = some r) : V 38 [none, none] [.int t0] σ := by
  have h := hm.bd
  unfold fX5_isSenderAsTold_38 at hf
  obtain ⟨g1, hf⟩ := gd_some hf
  obtain rfl := Option.some.inj hf
  exact hm.zret (by decide +kernel) g1
def fX5_isSenderAsTold_37 (σ : ST) : Option Int32 :=
  fX5_isSenderAsTold_38 0 σ
set_option maxHeartbeats 4000000 in
theorem wX5_isSenderAsTold_37 {l : Launch} {V : Nat → List (Option Value) → List Value → ST → Prop} {r : Int32} {σ : ST} (hm : BM l 5 cX5_isSenderAsTold 2 (some .boolean) 2 46 (some (.int r)) σ V) (hf : fX5_isSenderAsTold_37 σ = some r) : V 37 [none, none] [] σ := by
  have h := hm.bd
  unfold fX5_isSenderAsTold_37 at hf
  refine h.run (o := []) (ls' := [none, none]) (st' := [.int 0]) (σ' := σ) [(.iconst 0, 1, 0, 0, 0, 0)] (pc2 := 38) (by decide +kernel) rfl trivial ?_
  exact wX5_isSenderAsTold_38 hm hf
def fX5_isSenderAsTold (k0 : Nat) (x1 : Int32) (σ : ST) : Option Int32 :=
  bR (fX4_read k0 x1 2 σ) fun a1 =>
  if 7 < a1 then
    fX5_isSenderAsTold_37 σ
  else
    bR (fX4_read k0 x1 3 σ) fun a2 =>
    if 20 < a2 then
      fX5_isSenderAsTold_37 σ
    else
      bR (fX4_read k0 x1 4 σ) fun a3 =>
      if 100 < a3 then
        fX5_isSenderAsTold_37 σ
      else
        fX5_isSenderAsTold_38 1 σ
set_option maxHeartbeats 4000000 in
theorem kmX5_isSenderAsTold (l : Launch) {k0 : Nat} {x1 : Int32} {σ : ST} {r : Int32} (hk0 : kd k0 = 4) (hf : fX5_isSenderAsTold k0 x1 σ = some r) : KM l yX5_isSenderAsTold cX5_isSenderAsTold 2 (some .boolean) 2 46 [.ref k0, .int x1] σ (some (.int r)) σ := by
  refine KM.intro (ow := 5) (by decide +kernel) rfl (Nat.le_of_ble_eq_true rfl) (fun V hm => ?_)
  show V 0 [some (.ref k0), some (.int x1)] [] σ
  have h := hm.bd
  unfold fX5_isSenderAsTold at hf
  refine h.run (o := []) (ls' := [some (.ref k0), some (.int x1)]) (st' := [.int 2, .int x1, .ref k0]) (σ' := σ) [(.aload_n 0, 1, 0, 0, 0, 0), (.iload_n 1, 1, 0, 0, 0, 0), (.iconst 2, 1, 2, 0, 0, 0)] (pc2 := 3) (by decide +kernel) rfl trivial ?_
  obtain ⟨a1, e1, hf⟩ := bR_some hf
  refine h.callV (as := [.int x1, .int 2]) (rest := []) (by decide +kernel) lk5_87 cwX4_read hk0 (kmX4_read l hk0 e1) rfl (Nat.le_of_ble_eq_true rfl) (Nat.le_of_ble_eq_true rfl) (Nat.le_of_ble_eq_true rfl) ?_
  show V 6 [some (.ref k0), some (.int x1)] [.int a1] σ
  refine h.run (o := []) (ls' := [some (.ref k0), some (.int x1)]) (st' := [.int 7, .int a1]) (σ' := σ) [(.bipush 7, 2, 7, 0, 0, 0)] (pc2 := 8) (by decide +kernel) rfl trivial ?_
  refine h.icmp_gt (tgt := 37) (show decode cX5_isSenderAsTold 8 = .ok (.if_icmp .gt 29, 3) by decide +kernel) (by decide) (fun c6 => ?_) (fun c6 => ?_)
  · rw [if_pos c6] at hf
    refine h.drop (ls' := [none, none]) trivial ?_
    exact wX5_isSenderAsTold_37 hm hf
  · rw [if_neg c6] at hf
    show V 11 [some (.ref k0), some (.int x1)] [] σ
    refine h.run (o := []) (ls' := [some (.ref k0), some (.int x1)]) (st' := [.int 3, .int x1, .ref k0]) (σ' := σ) [(.aload_n 0, 1, 0, 0, 0, 0), (.iload_n 1, 1, 0, 0, 0, 0), (.iconst 3, 1, 3, 0, 0, 0)] (pc2 := 14) (by decide +kernel) rfl trivial ?_
    obtain ⟨a2, e2, hf⟩ := bR_some hf
    refine h.callV (as := [.int x1, .int 3]) (rest := []) (by decide +kernel) lk5_87 cwX4_read hk0 (kmX4_read l hk0 e2) rfl (Nat.le_of_ble_eq_true rfl) (Nat.le_of_ble_eq_true rfl) (Nat.le_of_ble_eq_true rfl) ?_
    show V 17 [some (.ref k0), some (.int x1)] [.int a2] σ
    refine h.run (o := []) (ls' := [some (.ref k0), some (.int x1)]) (st' := [.int 20, .int a2]) (σ' := σ) [(.bipush 20, 2, 20, 0, 0, 0)] (pc2 := 19) (by decide +kernel) rfl trivial ?_
    refine h.icmp_gt (tgt := 37) (show decode cX5_isSenderAsTold 19 = .ok (.if_icmp .gt 18, 3) by decide +kernel) (by decide) (fun c5 => ?_) (fun c5 => ?_)
    · rw [if_pos c5] at hf
      refine h.drop (ls' := [none, none]) trivial ?_
      exact wX5_isSenderAsTold_37 hm hf
    · rw [if_neg c5] at hf
      show V 22 [some (.ref k0), some (.int x1)] [] σ
      refine h.run (o := []) (ls' := [some (.ref k0), some (.int x1)]) (st' := [.int 4, .int x1, .ref k0]) (σ' := σ) [(.aload_n 0, 1, 0, 0, 0, 0), (.iload_n 1, 1, 0, 0, 0, 0), (.iconst 4, 1, 4, 0, 0, 0)] (pc2 := 25) (by decide +kernel) rfl trivial ?_
      obtain ⟨a3, e3, hf⟩ := bR_some hf
      refine h.callV (as := [.int x1, .int 4]) (rest := []) (by decide +kernel) lk5_87 cwX4_read hk0 (kmX4_read l hk0 e3) rfl (Nat.le_of_ble_eq_true rfl) (Nat.le_of_ble_eq_true rfl) (Nat.le_of_ble_eq_true rfl) ?_
      show V 28 [some (.ref k0), some (.int x1)] [.int a3] σ
      refine h.run (o := []) (ls' := [some (.ref k0), some (.int x1)]) (st' := [.int 100, .int a3]) (σ' := σ) [(.bipush 100, 2, 100, 0, 0, 0)] (pc2 := 30) (by decide +kernel) rfl trivial ?_
      refine h.icmp_gt (tgt := 37) (show decode cX5_isSenderAsTold 30 = .ok (.if_icmp .gt 7, 3) by decide +kernel) (by decide) (fun c4 => ?_) (fun c4 => ?_)
      · rw [if_pos c4] at hf
        refine h.drop (ls' := [none, none]) trivial ?_
        exact wX5_isSenderAsTold_37 hm hf
      · rw [if_neg c4] at hf
        show V 33 [some (.ref k0), some (.int x1)] [] σ
        refine h.run (o := []) (ls' := [some (.ref k0), some (.int x1)]) (st' := [.int 1]) (σ' := σ) [(.iconst 1, 1, 1, 0, 0, 0), (.goto 4, 3, 0, 0, 0, 38)] (pc2 := 38) (by decide +kernel) rfl trivial ?_
        refine h.drop (ls' := [none, none]) trivial ?_
        exact wX5_isSenderAsTold_38 hm hf
def fX5_isReturnerAsTold_49 (t0 : Int32) (σ : ST) : Option Int32 :=
  gd (isb t0) <|
  some t0
set_option maxHeartbeats 4000000 in
theorem wX5_isReturnerAsTold_49 {l : Launch} {V : Nat → List (Option Value) → List Value → ST → Prop} {r : Int32} {σ : ST} {t0 : Int32} (hm : BM l 5 cX5_isReturnerAsTold 2 (some .boolean) 2 46 (some (.int r)) σ V) (hf : fX5_isReturnerAsTold_49 t0 σ = some r) : V 49 [none, none] [.int t0] σ := by
  have h := hm.bd
  unfold fX5_isReturnerAsTold_49 at hf
  obtain ⟨g1, hf⟩ := gd_some hf
  obtain rfl := Option.some.inj hf
  exact hm.zret (by decide +kernel) g1
def fX5_isReturnerAsTold_48 (σ : ST) : Option Int32 :=
  fX5_isReturnerAsTold_49 0 σ
set_option maxHeartbeats 4000000 in
theorem wX5_isReturnerAsTold_48 {l : Launch} {V : Nat → List (Option Value) → List Value → ST → Prop} {r : Int32} {σ : ST} (hm : BM l 5 cX5_isReturnerAsTold 2 (some .boolean) 2 46 (some (.int r)) σ V) (hf : fX5_isReturnerAsTold_48 σ = some r) : V 48 [none, none] [] σ := by
  have h := hm.bd
  unfold fX5_isReturnerAsTold_48 at hf
  refine h.run (o := []) (ls' := [none, none]) (st' := [.int 0]) (σ' := σ) [(.iconst 0, 1, 0, 0, 0, 0)] (pc2 := 49) (by decide +kernel) rfl trivial ?_
  exact wX5_isReturnerAsTold_49 hm hf
def fX5_isReturnerAsTold (k0 : Nat) (x1 : Int32) (σ : ST) : Option Int32 :=
  bR (fX4_read k0 x1 2 σ) fun a1 =>
  if 100 < a1 then
    fX5_isReturnerAsTold_48 σ
  else
    bR (fX4_read k0 x1 3 σ) fun a2 =>
    if 100 < a2 then
      fX5_isReturnerAsTold_48 σ
    else
      bR (fX4_read k0 x1 4 σ) fun a3 =>
      if 100 < a3 then
        fX5_isReturnerAsTold_48 σ
      else
        bR (fX4_read k0 x1 5 σ) fun a4 =>
        if 100 < a4 then
          fX5_isReturnerAsTold_48 σ
        else
          fX5_isReturnerAsTold_49 1 σ
set_option maxHeartbeats 4000000 in
theorem kmX5_isReturnerAsTold (l : Launch) {k0 : Nat} {x1 : Int32} {σ : ST} {r : Int32} (hk0 : kd k0 = 4) (hf : fX5_isReturnerAsTold k0 x1 σ = some r) : KM l yX5_isReturnerAsTold cX5_isReturnerAsTold 2 (some .boolean) 2 46 [.ref k0, .int x1] σ (some (.int r)) σ := by
  refine KM.intro (ow := 5) (by decide +kernel) rfl (Nat.le_of_ble_eq_true rfl) (fun V hm => ?_)
  show V 0 [some (.ref k0), some (.int x1)] [] σ
  have h := hm.bd
  unfold fX5_isReturnerAsTold at hf
  refine h.run (o := []) (ls' := [some (.ref k0), some (.int x1)]) (st' := [.int 2, .int x1, .ref k0]) (σ' := σ) [(.aload_n 0, 1, 0, 0, 0, 0), (.iload_n 1, 1, 0, 0, 0, 0), (.iconst 2, 1, 2, 0, 0, 0)] (pc2 := 3) (by decide +kernel) rfl trivial ?_
  obtain ⟨a1, e1, hf⟩ := bR_some hf
  refine h.callV (as := [.int x1, .int 2]) (rest := []) (by decide +kernel) lk5_87 cwX4_read hk0 (kmX4_read l hk0 e1) rfl (Nat.le_of_ble_eq_true rfl) (Nat.le_of_ble_eq_true rfl) (Nat.le_of_ble_eq_true rfl) ?_
  show V 6 [some (.ref k0), some (.int x1)] [.int a1] σ
  refine h.run (o := []) (ls' := [some (.ref k0), some (.int x1)]) (st' := [.int 100, .int a1]) (σ' := σ) [(.bipush 100, 2, 100, 0, 0, 0)] (pc2 := 8) (by decide +kernel) rfl trivial ?_
  refine h.icmp_gt (tgt := 48) (show decode cX5_isReturnerAsTold 8 = .ok (.if_icmp .gt 40, 3) by decide +kernel) (by decide) (fun c8 => ?_) (fun c8 => ?_)
  · rw [if_pos c8] at hf
    refine h.drop (ls' := [none, none]) trivial ?_
    exact wX5_isReturnerAsTold_48 hm hf
  · rw [if_neg c8] at hf
    show V 11 [some (.ref k0), some (.int x1)] [] σ
    refine h.run (o := []) (ls' := [some (.ref k0), some (.int x1)]) (st' := [.int 3, .int x1, .ref k0]) (σ' := σ) [(.aload_n 0, 1, 0, 0, 0, 0), (.iload_n 1, 1, 0, 0, 0, 0), (.iconst 3, 1, 3, 0, 0, 0)] (pc2 := 14) (by decide +kernel) rfl trivial ?_
    obtain ⟨a2, e2, hf⟩ := bR_some hf
    refine h.callV (as := [.int x1, .int 3]) (rest := []) (by decide +kernel) lk5_87 cwX4_read hk0 (kmX4_read l hk0 e2) rfl (Nat.le_of_ble_eq_true rfl) (Nat.le_of_ble_eq_true rfl) (Nat.le_of_ble_eq_true rfl) ?_
    show V 17 [some (.ref k0), some (.int x1)] [.int a2] σ
    refine h.run (o := []) (ls' := [some (.ref k0), some (.int x1)]) (st' := [.int 100, .int a2]) (σ' := σ) [(.bipush 100, 2, 100, 0, 0, 0)] (pc2 := 19) (by decide +kernel) rfl trivial ?_
    refine h.icmp_gt (tgt := 48) (show decode cX5_isReturnerAsTold 19 = .ok (.if_icmp .gt 29, 3) by decide +kernel) (by decide) (fun c7 => ?_) (fun c7 => ?_)
    · rw [if_pos c7] at hf
      refine h.drop (ls' := [none, none]) trivial ?_
      exact wX5_isReturnerAsTold_48 hm hf
    · rw [if_neg c7] at hf
      show V 22 [some (.ref k0), some (.int x1)] [] σ
      refine h.run (o := []) (ls' := [some (.ref k0), some (.int x1)]) (st' := [.int 4, .int x1, .ref k0]) (σ' := σ) [(.aload_n 0, 1, 0, 0, 0, 0), (.iload_n 1, 1, 0, 0, 0, 0), (.iconst 4, 1, 4, 0, 0, 0)] (pc2 := 25) (by decide +kernel) rfl trivial ?_
      obtain ⟨a3, e3, hf⟩ := bR_some hf
      refine h.callV (as := [.int x1, .int 4]) (rest := []) (by decide +kernel) lk5_87 cwX4_read hk0 (kmX4_read l hk0 e3) rfl (Nat.le_of_ble_eq_true rfl) (Nat.le_of_ble_eq_true rfl) (Nat.le_of_ble_eq_true rfl) ?_
      show V 28 [some (.ref k0), some (.int x1)] [.int a3] σ
      refine h.run (o := []) (ls' := [some (.ref k0), some (.int x1)]) (st' := [.int 100, .int a3]) (σ' := σ) [(.bipush 100, 2, 100, 0, 0, 0)] (pc2 := 30) (by decide +kernel) rfl trivial ?_
      refine h.icmp_gt (tgt := 48) (show decode cX5_isReturnerAsTold 30 = .ok (.if_icmp .gt 18, 3) by decide +kernel) (by decide) (fun c6 => ?_) (fun c6 => ?_)
      · rw [if_pos c6] at hf
        refine h.drop (ls' := [none, none]) trivial ?_
        exact wX5_isReturnerAsTold_48 hm hf
      · rw [if_neg c6] at hf
        show V 33 [some (.ref k0), some (.int x1)] [] σ
        refine h.run (o := []) (ls' := [some (.ref k0), some (.int x1)]) (st' := [.int 5, .int x1, .ref k0]) (σ' := σ) [(.aload_n 0, 1, 0, 0, 0, 0), (.iload_n 1, 1, 0, 0, 0, 0), (.iconst 5, 1, 5, 0, 0, 0)] (pc2 := 36) (by decide +kernel) rfl trivial ?_
        obtain ⟨a4, e4, hf⟩ := bR_some hf
        refine h.callV (as := [.int x1, .int 5]) (rest := []) (by decide +kernel) lk5_87 cwX4_read hk0 (kmX4_read l hk0 e4) rfl (Nat.le_of_ble_eq_true rfl) (Nat.le_of_ble_eq_true rfl) (Nat.le_of_ble_eq_true rfl) ?_
        show V 39 [some (.ref k0), some (.int x1)] [.int a4] σ
        refine h.run (o := []) (ls' := [some (.ref k0), some (.int x1)]) (st' := [.int 100, .int a4]) (σ' := σ) [(.bipush 100, 2, 100, 0, 0, 0)] (pc2 := 41) (by decide +kernel) rfl trivial ?_
        refine h.icmp_gt (tgt := 48) (show decode cX5_isReturnerAsTold 41 = .ok (.if_icmp .gt 7, 3) by decide +kernel) (by decide) (fun c5 => ?_) (fun c5 => ?_)
        · rw [if_pos c5] at hf
          refine h.drop (ls' := [none, none]) trivial ?_
          exact wX5_isReturnerAsTold_48 hm hf
        · rw [if_neg c5] at hf
          show V 44 [some (.ref k0), some (.int x1)] [] σ
          refine h.run (o := []) (ls' := [some (.ref k0), some (.int x1)]) (st' := [.int 1]) (σ' := σ) [(.iconst 1, 1, 1, 0, 0, 0), (.goto 4, 3, 0, 0, 0, 49)] (pc2 := 49) (by decide +kernel) rfl trivial ?_
          refine h.drop (ls' := [none, none]) trivial ?_
          exact wX5_isReturnerAsTold_49 hm hf
def fX5_placeOfUntold_177 (kt_25 : Nat → Int32 → Int32 → Int32 → Option Int32) (k1 : Nat) (x2 : Int32) (x3 : Int32) (x4 : Int32) (x6 : Int32) (σ : ST) : Option Int32 :=
  if x6 = 0 then
    bR (fX4_read k1 x4 0 σ) fun a1 =>
    some a1
  else
    kt_25 k1 x2 x3 (x4 + 1)
set_option maxHeartbeats 4000000 in
theorem wX5_placeOfUntold_177 {l : Launch} {V : Nat → List (Option Value) → List Value → ST → Prop} {r : Int32} {σ : ST} {k1 : Nat} {x2 : Int32} {x3 : Int32} {x4 : Int32} {x6 : Int32} {kt_25 : Nat → Int32 → Int32 → Int32 → Option Int32} (hm : BM l 5 cX5_placeOfUntold 9 (some .int) 3 67 (some (.int r)) σ V) (hkt_25 : ∀ (k1 : Nat) (x2 : Int32) (x3 : Int32) (x4 : Int32), kd k1 = 4 → kt_25 k1 x2 x3 x4 = some r → V 25 [some (.ref 0), some (.ref k1), some (.int x2), some (.int x3), some (.int x4), none, none, none, none] [] σ) (hk1 : kd k1 = 4) (hf : fX5_placeOfUntold_177 kt_25 k1 x2 x3 x4 x6 σ = some r) : V 177 [some (.ref 0), some (.ref k1), some (.int x2), some (.int x3), some (.int x4), none, some (.int x6), none, none] [] σ := by
  have h := hm.bd
  unfold fX5_placeOfUntold_177 at hf
  refine h.run (o := []) (ls' := [some (.ref 0), some (.ref k1), some (.int x2), some (.int x3), some (.int x4), none, some (.int x6), none, none]) (st' := [.int x6]) (σ' := σ) [(.iload 6, 2, 0, 0, 0, 0)] (pc2 := 179) (by decide +kernel) rfl trivial ?_
  refine h.if_ne (tgt := 190) (show decode cX5_placeOfUntold 179 = .ok (.ifCond .ne 11, 3) by decide +kernel) (by decide) (fun c2 => ?_) (fun c2 => ?_)
  · rw [if_neg c2] at hf
    refine h.run (o := []) (ls' := [some (.ref 0), some (.ref k1), some (.int x2), some (.int x3), some (.int (x4 + 1)), none, some (.int x6), none, none]) (st' := []) (σ' := σ) [(.iinc 4 1, 3, 1, 0, 0, 0), (.goto (-168), 3, 0, 0, 0, 25)] (pc2 := 25) (by decide +kernel) rfl trivial ?_
    refine h.drop (ls' := [some (.ref 0), some (.ref k1), some (.int x2), some (.int x3), some (.int (x4 + 1)), none, none, none, none]) (And.intro rfl (And.intro rfl (And.intro rfl (And.intro rfl (And.intro rfl trivial))))) ?_
    exact hkt_25 k1 x2 x3 (x4 + 1) hk1 hf
  · rw [if_pos c2] at hf
    show V 182 [some (.ref 0), some (.ref k1), some (.int x2), some (.int x3), some (.int x4), none, some (.int x6), none, none] [] σ
    refine h.run (o := []) (ls' := [some (.ref 0), some (.ref k1), some (.int x2), some (.int x3), some (.int x4), none, some (.int x6), none, none]) (st' := [.int 0, .int x4, .ref k1]) (σ' := σ) [(.aload_n 1, 1, 0, 0, 0, 0), (.iload 4, 2, 0, 0, 0, 0), (.iconst 0, 1, 0, 0, 0, 0)] (pc2 := 186) (by decide +kernel) rfl trivial ?_
    obtain ⟨a1, e1, hf⟩ := bR_some hf
    refine h.callV (as := [.int x4, .int 0]) (rest := []) (by decide +kernel) lk5_87 cwX4_read hk1 (kmX4_read l hk1 e1) rfl (Nat.le_of_ble_eq_true rfl) (Nat.le_of_ble_eq_true rfl) (Nat.le_of_ble_eq_true rfl) ?_
    show V 189 [some (.ref 0), some (.ref k1), some (.int x2), some (.int x3), some (.int x4), none, some (.int x6), none, none] [.int a1] σ
    obtain rfl := Option.some.inj hf
    exact hm.iret (by decide +kernel)
def fX5_placeOfUntold_112 (kt_25 : Nat → Int32 → Int32 → Int32 → Option Int32) (k1 : Nat) (x2 : Int32) (x3 : Int32) (x4 : Int32) (t0 : Int32) (σ : ST) : Option Int32 :=
  fX5_placeOfUntold_177 kt_25 k1 x2 (x3 + 1) x4 t0 σ
set_option maxHeartbeats 4000000 in
theorem wX5_placeOfUntold_112 {l : Launch} {V : Nat → List (Option Value) → List Value → ST → Prop} {r : Int32} {σ : ST} {k1 : Nat} {x2 : Int32} {x3 : Int32} {x4 : Int32} {t0 : Int32} {kt_25 : Nat → Int32 → Int32 → Int32 → Option Int32} (hm : BM l 5 cX5_placeOfUntold 9 (some .int) 3 67 (some (.int r)) σ V) (hkt_25 : ∀ (k1 : Nat) (x2 : Int32) (x3 : Int32) (x4 : Int32), kd k1 = 4 → kt_25 k1 x2 x3 x4 = some r → V 25 [some (.ref 0), some (.ref k1), some (.int x2), some (.int x3), some (.int x4), none, none, none, none] [] σ) (hk1 : kd k1 = 4) (hf : fX5_placeOfUntold_112 kt_25 k1 x2 x3 x4 t0 σ = some r) : V 112 [some (.ref 0), some (.ref k1), some (.int x2), some (.int x3), some (.int x4), none, none, none, none] [.int t0] σ := by
  have h := hm.bd
  unfold fX5_placeOfUntold_112 at hf
  refine h.run (o := []) (ls' := [some (.ref 0), some (.ref k1), some (.int x2), some (.int (x3 + 1)), some (.int x4), none, some (.int t0), none, none]) (st' := []) (σ' := σ) [(.istore 6, 2, 0, 0, 0, 0), (.iinc 3 1, 3, 1, 0, 0, 0), (.goto 60, 3, 0, 0, 0, 177)] (pc2 := 177) (by decide +kernel) rfl trivial ?_
  exact wX5_placeOfUntold_177 hm hkt_25 hk1 hf
def fX5_placeOfUntold_111 (kt_25 : Nat → Int32 → Int32 → Int32 → Option Int32) (k1 : Nat) (x2 : Int32) (x3 : Int32) (x4 : Int32) (σ : ST) : Option Int32 :=
  fX5_placeOfUntold_112 kt_25 k1 x2 x3 x4 0 σ
set_option maxHeartbeats 4000000 in
theorem wX5_placeOfUntold_111 {l : Launch} {V : Nat → List (Option Value) → List Value → ST → Prop} {r : Int32} {σ : ST} {k1 : Nat} {x2 : Int32} {x3 : Int32} {x4 : Int32} {kt_25 : Nat → Int32 → Int32 → Int32 → Option Int32} (hm : BM l 5 cX5_placeOfUntold 9 (some .int) 3 67 (some (.int r)) σ V) (hkt_25 : ∀ (k1 : Nat) (x2 : Int32) (x3 : Int32) (x4 : Int32), kd k1 = 4 → kt_25 k1 x2 x3 x4 = some r → V 25 [some (.ref 0), some (.ref k1), some (.int x2), some (.int x3), some (.int x4), none, none, none, none] [] σ) (hk1 : kd k1 = 4) (hf : fX5_placeOfUntold_111 kt_25 k1 x2 x3 x4 σ = some r) : V 111 [some (.ref 0), some (.ref k1), some (.int x2), some (.int x3), some (.int x4), none, none, none, none] [] σ := by
  have h := hm.bd
  unfold fX5_placeOfUntold_111 at hf
  refine h.run (o := []) (ls' := [some (.ref 0), some (.ref k1), some (.int x2), some (.int x3), some (.int x4), none, none, none, none]) (st' := [.int 0]) (σ' := σ) [(.iconst 0, 1, 0, 0, 0, 0)] (pc2 := 112) (by decide +kernel) rfl trivial ?_
  exact wX5_placeOfUntold_112 hm hkt_25 hk1 hf
def fX5_placeOfUntold_92 (kt_25 : Nat → Int32 → Int32 → Int32 → Option Int32) (k1 : Nat) (x2 : Int32) (x3 : Int32) (x4 : Int32) (σ : ST) : Option Int32 :=
  if 8 ≤ x3 then
    fX5_placeOfUntold_111 kt_25 k1 x2 x3 x4 σ
  else
    bR (fX5_isReturnerAsTold k1 x4 σ) fun a1 =>
    if a1 = 0 then
      fX5_placeOfUntold_111 kt_25 k1 x2 x3 x4 σ
    else
      fX5_placeOfUntold_112 kt_25 k1 x2 x3 x4 1 σ
set_option maxHeartbeats 4000000 in
theorem wX5_placeOfUntold_92 {l : Launch} {V : Nat → List (Option Value) → List Value → ST → Prop} {r : Int32} {σ : ST} {k1 : Nat} {x2 : Int32} {x3 : Int32} {x4 : Int32} {kt_25 : Nat → Int32 → Int32 → Int32 → Option Int32} (hm : BM l 5 cX5_placeOfUntold 9 (some .int) 3 67 (some (.int r)) σ V) (hkt_25 : ∀ (k1 : Nat) (x2 : Int32) (x3 : Int32) (x4 : Int32), kd k1 = 4 → kt_25 k1 x2 x3 x4 = some r → V 25 [some (.ref 0), some (.ref k1), some (.int x2), some (.int x3), some (.int x4), none, none, none, none] [] σ) (hk1 : kd k1 = 4) (hf : fX5_placeOfUntold_92 kt_25 k1 x2 x3 x4 σ = some r) : V 92 [some (.ref 0), some (.ref k1), some (.int x2), some (.int x3), some (.int x4), none, none, none, none] [] σ := by
  have h := hm.bd
  unfold fX5_placeOfUntold_92 at hf
  refine h.run (o := []) (ls' := [some (.ref 0), some (.ref k1), some (.int x2), some (.int x3), some (.int x4), none, none, none, none]) (st' := [.int 8, .int x3]) (σ' := σ) [(.iload_n 3, 1, 0, 0, 0, 0), (.bipush 8, 2, 8, 0, 0, 0)] (pc2 := 95) (by decide +kernel) rfl trivial ?_
  refine h.icmp_ge (tgt := 111) (show decode cX5_placeOfUntold 95 = .ok (.if_icmp .ge 16, 3) by decide +kernel) (by decide) (fun c3 => ?_) (fun c3 => ?_)
  · rw [if_pos c3] at hf
    exact wX5_placeOfUntold_111 hm hkt_25 hk1 hf
  · rw [if_neg c3] at hf
    show V 98 [some (.ref 0), some (.ref k1), some (.int x2), some (.int x3), some (.int x4), none, none, none, none] [] σ
    refine h.run (o := []) (ls' := [some (.ref 0), some (.ref k1), some (.int x2), some (.int x3), some (.int x4), none, none, none, none]) (st' := [.int x4, .ref k1]) (σ' := σ) [(.aload_n 1, 1, 0, 0, 0, 0), (.iload 4, 2, 0, 0, 0, 0)] (pc2 := 101) (by decide +kernel) rfl trivial ?_
    obtain ⟨a1, e1, hf⟩ := bR_some hf
    refine h.callS (as := [.ref k1, .int x4]) (rest := []) (by decide +kernel) lk5_307 cwX5_isReturnerAsTold (kmX5_isReturnerAsTold l hk1 e1) rfl (Nat.le_of_ble_eq_true rfl) (Nat.le_of_ble_eq_true rfl) (Nat.le_of_ble_eq_true rfl) ?_
    show V 104 [some (.ref 0), some (.ref k1), some (.int x2), some (.int x3), some (.int x4), none, none, none, none] [.int a1] σ
    refine h.if_eq (tgt := 111) (show decode cX5_placeOfUntold 104 = .ok (.ifCond .eq 7, 3) by decide +kernel) (by decide) (fun c2 => ?_) (fun c2 => ?_)
    · rw [if_pos c2] at hf
      exact wX5_placeOfUntold_111 hm hkt_25 hk1 hf
    · rw [if_neg c2] at hf
      show V 107 [some (.ref 0), some (.ref k1), some (.int x2), some (.int x3), some (.int x4), none, none, none, none] [] σ
      refine h.run (o := []) (ls' := [some (.ref 0), some (.ref k1), some (.int x2), some (.int x3), some (.int x4), none, none, none, none]) (st' := [.int 1]) (σ' := σ) [(.iconst 1, 1, 1, 0, 0, 0), (.goto 4, 3, 0, 0, 0, 112)] (pc2 := 112) (by decide +kernel) rfl trivial ?_
      exact wX5_placeOfUntold_112 hm hkt_25 hk1 hf
def fX5_placeOfUntold_175 (kt_25 : Nat → Int32 → Int32 → Int32 → Option Int32) (k1 : Nat) (x2 : Int32) (x3 : Int32) (x4 : Int32) (t0 : Int32) (σ : ST) : Option Int32 :=
  fX5_placeOfUntold_177 kt_25 k1 x2 x3 x4 t0 σ
set_option maxHeartbeats 4000000 in
theorem wX5_placeOfUntold_175 {l : Launch} {V : Nat → List (Option Value) → List Value → ST → Prop} {r : Int32} {σ : ST} {k1 : Nat} {x2 : Int32} {x3 : Int32} {x4 : Int32} {t0 : Int32} {kt_25 : Nat → Int32 → Int32 → Int32 → Option Int32} (hm : BM l 5 cX5_placeOfUntold 9 (some .int) 3 67 (some (.int r)) σ V) (hkt_25 : ∀ (k1 : Nat) (x2 : Int32) (x3 : Int32) (x4 : Int32), kd k1 = 4 → kt_25 k1 x2 x3 x4 = some r → V 25 [some (.ref 0), some (.ref k1), some (.int x2), some (.int x3), some (.int x4), none, none, none, none] [] σ) (hk1 : kd k1 = 4) (hf : fX5_placeOfUntold_175 kt_25 k1 x2 x3 x4 t0 σ = some r) : V 175 [some (.ref 0), some (.ref k1), some (.int x2), some (.int x3), some (.int x4), none, none, none, none] [.int t0] σ := by
  have h := hm.bd
  unfold fX5_placeOfUntold_175 at hf
  refine h.run (o := []) (ls' := [some (.ref 0), some (.ref k1), some (.int x2), some (.int x3), some (.int x4), none, some (.int t0), none, none]) (st' := []) (σ' := σ) [(.istore 6, 2, 0, 0, 0, 0)] (pc2 := 177) (by decide +kernel) rfl trivial ?_
  exact wX5_placeOfUntold_177 hm hkt_25 hk1 hf
def fX5_placeOfUntold_174 (kt_25 : Nat → Int32 → Int32 → Int32 → Option Int32) (k1 : Nat) (x2 : Int32) (x3 : Int32) (x4 : Int32) (σ : ST) : Option Int32 :=
  fX5_placeOfUntold_175 kt_25 k1 x2 x3 x4 0 σ
set_option maxHeartbeats 4000000 in
theorem wX5_placeOfUntold_174 {l : Launch} {V : Nat → List (Option Value) → List Value → ST → Prop} {r : Int32} {σ : ST} {k1 : Nat} {x2 : Int32} {x3 : Int32} {x4 : Int32} {kt_25 : Nat → Int32 → Int32 → Int32 → Option Int32} (hm : BM l 5 cX5_placeOfUntold 9 (some .int) 3 67 (some (.int r)) σ V) (hkt_25 : ∀ (k1 : Nat) (x2 : Int32) (x3 : Int32) (x4 : Int32), kd k1 = 4 → kt_25 k1 x2 x3 x4 = some r → V 25 [some (.ref 0), some (.ref k1), some (.int x2), some (.int x3), some (.int x4), none, none, none, none] [] σ) (hk1 : kd k1 = 4) (hf : fX5_placeOfUntold_174 kt_25 k1 x2 x3 x4 σ = some r) : V 174 [some (.ref 0), some (.ref k1), some (.int x2), some (.int x3), some (.int x4), none, none, none, none] [] σ := by
  have h := hm.bd
  unfold fX5_placeOfUntold_174 at hf
  refine h.run (o := []) (ls' := [some (.ref 0), some (.ref k1), some (.int x2), some (.int x3), some (.int x4), none, none, none, none]) (st' := [.int 0]) (σ' := σ) [(.iconst 0, 1, 0, 0, 0, 0)] (pc2 := 175) (by decide +kernel) rfl trivial ?_
  exact wX5_placeOfUntold_175 hm hkt_25 hk1 hf
def fX5_placeOfUntold_133 (kt_25 : Nat → Int32 → Int32 → Int32 → Option Int32) (k1 : Nat) (x2 : Int32) (x3 : Int32) (x4 : Int32) (t0 : Int32) (σ : ST) : Option Int32 :=
  bR (fX4_read k1 x4 2 σ) fun a1 =>
  if (σ.1 10 3) = 0 then
    if a1 < 1 then
      fX5_placeOfUntold_174 kt_25 k1 x2 x3 x4 σ
    else
      if t0 < a1 then
        fX5_placeOfUntold_174 kt_25 k1 x2 x3 x4 σ
      else
        fX5_placeOfUntold_175 kt_25 k1 x2 x3 x4 1 σ
  else
    fX5_placeOfUntold_174 kt_25 k1 x2 x3 x4 σ
set_option maxHeartbeats 4000000 in
theorem wX5_placeOfUntold_133 {l : Launch} {V : Nat → List (Option Value) → List Value → ST → Prop} {r : Int32} {σ : ST} {k1 : Nat} {x2 : Int32} {x3 : Int32} {x4 : Int32} {t0 : Int32} {kt_25 : Nat → Int32 → Int32 → Int32 → Option Int32} (hm : BM l 5 cX5_placeOfUntold 9 (some .int) 3 67 (some (.int r)) σ V) (hkt_25 : ∀ (k1 : Nat) (x2 : Int32) (x3 : Int32) (x4 : Int32), kd k1 = 4 → kt_25 k1 x2 x3 x4 = some r → V 25 [some (.ref 0), some (.ref k1), some (.int x2), some (.int x3), some (.int x4), none, none, none, none] [] σ) (hk1 : kd k1 = 4) (hf : fX5_placeOfUntold_133 kt_25 k1 x2 x3 x4 t0 σ = some r) : V 133 [some (.ref 0), some (.ref k1), some (.int x2), some (.int x3), some (.int x4), none, none, none, none] [.int t0] σ := by
  have h := hm.bd
  unfold fX5_placeOfUntold_133 at hf
  refine h.run (o := []) (ls' := [some (.ref 0), some (.ref k1), some (.int x2), some (.int x3), some (.int x4), none, none, some (.int t0), none]) (st' := [.int 2, .int x4, .ref k1]) (σ' := σ) [(.istore 7, 2, 0, 0, 0, 0), (.aload_n 1, 1, 0, 0, 0, 0), (.iload 4, 2, 0, 0, 0, 0), (.iconst 2, 1, 2, 0, 0, 0)] (pc2 := 139) (by decide +kernel) rfl trivial ?_
  obtain ⟨a1, e1, hf⟩ := bR_some hf
  refine h.callV (as := [.int x4, .int 2]) (rest := []) (by decide +kernel) lk5_87 cwX4_read hk1 (kmX4_read l hk1 e1) rfl (Nat.le_of_ble_eq_true rfl) (Nat.le_of_ble_eq_true rfl) (Nat.le_of_ble_eq_true rfl) ?_
  show V 142 [some (.ref 0), some (.ref k1), some (.int x2), some (.int x3), some (.int x4), none, none, some (.int t0), none] [.int a1] σ
  refine h.run (o := [kd 0 = 5, kd 1 = 0, kd 10 = 4]) (ls' := [some (.ref 0), some (.ref k1), some (.int x2), some (.int x3), some (.int x4), none, none, some (.int t0), some (.int a1)]) (st' := [.int (σ.1 10 3)]) (σ' := σ) [(.istore 8, 2, 0, 0, 0, 0), (.aload_n 0, 1, 0, 0, 0, 0), (.getfield 10, 3, 0, 0, 5, 0), (.getfield 104, 3, 0, 0, 0, 5), (.getfield 71, 3, 0, 0, 4, 3)] (pc2 := 154) (by decide +kernel) rfl (And.intro kd_0 (And.intro kd_1 (And.intro kd_10 trivial))) ?_
  refine h.if_ne (tgt := 174) (show decode cX5_placeOfUntold 154 = .ok (.ifCond .ne 20, 3) by decide +kernel) (by decide) (fun c4 => ?_) (fun c4 => ?_)
  · rw [if_neg c4] at hf
    refine h.drop (ls' := [some (.ref 0), some (.ref k1), some (.int x2), some (.int x3), some (.int x4), none, none, none, none]) (And.intro rfl (And.intro rfl (And.intro rfl (And.intro rfl (And.intro rfl trivial))))) ?_
    exact wX5_placeOfUntold_174 hm hkt_25 hk1 hf
  · rw [if_pos c4] at hf
    show V 157 [some (.ref 0), some (.ref k1), some (.int x2), some (.int x3), some (.int x4), none, none, some (.int t0), some (.int a1)] [] σ
    refine h.run (o := []) (ls' := [some (.ref 0), some (.ref k1), some (.int x2), some (.int x3), some (.int x4), none, none, some (.int t0), some (.int a1)]) (st' := [.int 1, .int a1]) (σ' := σ) [(.iload 8, 2, 0, 0, 0, 0), (.iconst 1, 1, 1, 0, 0, 0)] (pc2 := 160) (by decide +kernel) rfl trivial ?_
    refine h.icmp_lt (tgt := 174) (show decode cX5_placeOfUntold 160 = .ok (.if_icmp .lt 14, 3) by decide +kernel) (by decide) (fun c3 => ?_) (fun c3 => ?_)
    · rw [if_pos c3] at hf
      refine h.drop (ls' := [some (.ref 0), some (.ref k1), some (.int x2), some (.int x3), some (.int x4), none, none, none, none]) (And.intro rfl (And.intro rfl (And.intro rfl (And.intro rfl (And.intro rfl trivial))))) ?_
      exact wX5_placeOfUntold_174 hm hkt_25 hk1 hf
    · rw [if_neg c3] at hf
      show V 163 [some (.ref 0), some (.ref k1), some (.int x2), some (.int x3), some (.int x4), none, none, some (.int t0), some (.int a1)] [] σ
      refine h.run (o := []) (ls' := [some (.ref 0), some (.ref k1), some (.int x2), some (.int x3), some (.int x4), none, none, some (.int t0), some (.int a1)]) (st' := [.int t0, .int a1]) (σ' := σ) [(.iload 8, 2, 0, 0, 0, 0), (.iload 7, 2, 0, 0, 0, 0)] (pc2 := 167) (by decide +kernel) rfl trivial ?_
      refine h.icmp_gt (tgt := 174) (show decode cX5_placeOfUntold 167 = .ok (.if_icmp .gt 7, 3) by decide +kernel) (by decide) (fun c2 => ?_) (fun c2 => ?_)
      · rw [if_pos c2] at hf
        refine h.drop (ls' := [some (.ref 0), some (.ref k1), some (.int x2), some (.int x3), some (.int x4), none, none, none, none]) (And.intro rfl (And.intro rfl (And.intro rfl (And.intro rfl (And.intro rfl trivial))))) ?_
        exact wX5_placeOfUntold_174 hm hkt_25 hk1 hf
      · rw [if_neg c2] at hf
        show V 170 [some (.ref 0), some (.ref k1), some (.int x2), some (.int x3), some (.int x4), none, none, some (.int t0), some (.int a1)] [] σ
        refine h.run (o := []) (ls' := [some (.ref 0), some (.ref k1), some (.int x2), some (.int x3), some (.int x4), none, none, some (.int t0), some (.int a1)]) (st' := [.int 1]) (σ' := σ) [(.iconst 1, 1, 1, 0, 0, 0), (.goto 4, 3, 0, 0, 0, 175)] (pc2 := 175) (by decide +kernel) rfl trivial ?_
        refine h.drop (ls' := [some (.ref 0), some (.ref k1), some (.int x2), some (.int x3), some (.int x4), none, none, none, none]) (And.intro rfl (And.intro rfl (And.intro rfl (And.intro rfl (And.intro rfl trivial))))) ?_
        exact wX5_placeOfUntold_175 hm hkt_25 hk1 hf
def fX5_placeOfUntold_70 (kt_25 : Nat → Int32 → Int32 → Int32 → Option Int32) (k1 : Nat) (x2 : Int32) (x3 : Int32) (x4 : Int32) (t0 : Int32) (σ : ST) : Option Int32 :=
  fX5_placeOfUntold_177 kt_25 k1 (x2 + 1) x3 x4 t0 σ
set_option maxHeartbeats 4000000 in
theorem wX5_placeOfUntold_70 {l : Launch} {V : Nat → List (Option Value) → List Value → ST → Prop} {r : Int32} {σ : ST} {k1 : Nat} {x2 : Int32} {x3 : Int32} {x4 : Int32} {t0 : Int32} {kt_25 : Nat → Int32 → Int32 → Int32 → Option Int32} (hm : BM l 5 cX5_placeOfUntold 9 (some .int) 3 67 (some (.int r)) σ V) (hkt_25 : ∀ (k1 : Nat) (x2 : Int32) (x3 : Int32) (x4 : Int32), kd k1 = 4 → kt_25 k1 x2 x3 x4 = some r → V 25 [some (.ref 0), some (.ref k1), some (.int x2), some (.int x3), some (.int x4), none, none, none, none] [] σ) (hk1 : kd k1 = 4) (hf : fX5_placeOfUntold_70 kt_25 k1 x2 x3 x4 t0 σ = some r) : V 70 [some (.ref 0), some (.ref k1), some (.int x2), some (.int x3), some (.int x4), none, none, none, none] [.int t0] σ := by
  have h := hm.bd
  unfold fX5_placeOfUntold_70 at hf
  refine h.run (o := []) (ls' := [some (.ref 0), some (.ref k1), some (.int (x2 + 1)), some (.int x3), some (.int x4), none, some (.int t0), none, none]) (st' := []) (σ' := σ) [(.istore 6, 2, 0, 0, 0, 0), (.iinc 2 1, 3, 1, 0, 0, 0), (.goto 102, 3, 0, 0, 0, 177)] (pc2 := 177) (by decide +kernel) rfl trivial ?_
  exact wX5_placeOfUntold_177 hm hkt_25 hk1 hf
def fX5_placeOfUntold_69 (kt_25 : Nat → Int32 → Int32 → Int32 → Option Int32) (k1 : Nat) (x2 : Int32) (x3 : Int32) (x4 : Int32) (σ : ST) : Option Int32 :=
  fX5_placeOfUntold_70 kt_25 k1 x2 x3 x4 0 σ
set_option maxHeartbeats 4000000 in
theorem wX5_placeOfUntold_69 {l : Launch} {V : Nat → List (Option Value) → List Value → ST → Prop} {r : Int32} {σ : ST} {k1 : Nat} {x2 : Int32} {x3 : Int32} {x4 : Int32} {kt_25 : Nat → Int32 → Int32 → Int32 → Option Int32} (hm : BM l 5 cX5_placeOfUntold 9 (some .int) 3 67 (some (.int r)) σ V) (hkt_25 : ∀ (k1 : Nat) (x2 : Int32) (x3 : Int32) (x4 : Int32), kd k1 = 4 → kt_25 k1 x2 x3 x4 = some r → V 25 [some (.ref 0), some (.ref k1), some (.int x2), some (.int x3), some (.int x4), none, none, none, none] [] σ) (hk1 : kd k1 = 4) (hf : fX5_placeOfUntold_69 kt_25 k1 x2 x3 x4 σ = some r) : V 69 [some (.ref 0), some (.ref k1), some (.int x2), some (.int x3), some (.int x4), none, none, none, none] [] σ := by
  have h := hm.bd
  unfold fX5_placeOfUntold_69 at hf
  refine h.run (o := []) (ls' := [some (.ref 0), some (.ref k1), some (.int x2), some (.int x3), some (.int x4), none, none, none, none]) (st' := [.int 0]) (σ' := σ) [(.iconst 0, 1, 0, 0, 0, 0)] (pc2 := 70) (by decide +kernel) rfl trivial ?_
  exact wX5_placeOfUntold_70 hm hkt_25 hk1 hf
def fX5_placeOfUntold_25 (σ : ST) (n : Nat) (k1 : Nat) (x2 : Int32) (x3 : Int32) (x4 : Int32) : Option Int32 := match n with
  | 0 => none
  | n + 1 =>
    if (σ.1 k1 3) ≤ x4 then
      some (-1)
    else
      bR (fX4_read k1 x4 1 σ) fun a1 =>
      if a1 = 115 then
        if 8 ≤ x2 then
          fX5_placeOfUntold_69 (fX5_placeOfUntold_25 σ n) k1 x2 x3 x4 σ
        else
          bR (fX5_isSenderAsTold k1 x4 σ) fun a5 =>
          if a5 = 0 then
            fX5_placeOfUntold_69 (fX5_placeOfUntold_25 σ n) k1 x2 x3 x4 σ
          else
            fX5_placeOfUntold_70 (fX5_placeOfUntold_25 σ n) k1 x2 x3 x4 1 σ
      else
        if a1 = 109 then
          fX5_placeOfUntold_92 (fX5_placeOfUntold_25 σ n) k1 x2 x3 x4 σ
        else
          if a1 = 120 then
            fX5_placeOfUntold_92 (fX5_placeOfUntold_25 σ n) k1 x2 x3 x4 σ
          else
            if a1 = 99 then
              fX5_placeOfUntold_133 (fX5_placeOfUntold_25 σ n) k1 x2 x3 x4 20 σ
            else
              fX5_placeOfUntold_133 (fX5_placeOfUntold_25 σ n) k1 x2 x3 x4 5 σ
set_option maxHeartbeats 4000000 in
theorem wX5_placeOfUntold_25 {l : Launch} {V : Nat → List (Option Value) → List Value → ST → Prop} {r : Int32} {σ : ST} (hm : BM l 5 cX5_placeOfUntold 9 (some .int) 3 67 (some (.int r)) σ V) : ∀ (n : Nat) (k1 : Nat) (x2 : Int32) (x3 : Int32) (x4 : Int32) (hk1 : kd k1 = 4), fX5_placeOfUntold_25 σ n k1 x2 x3 x4 = some r → V 25 [some (.ref 0), some (.ref k1), some (.int x2), some (.int x3), some (.int x4), none, none, none, none] [] σ := by
  have h := hm.bd
  intro n
  induction n with
  | zero => intro k1 x2 x3 x4 hk1 hf; cases hf
  | succ n ih =>
    intro k1 x2 x3 x4 hk1 hf
    rw [fX5_placeOfUntold_25] at hf
    refine h.run (o := [kd k1 = 4]) (ls' := [some (.ref 0), some (.ref k1), some (.int x2), some (.int x3), some (.int x4), none, none, none, none]) (st' := [.int (σ.1 k1 3), .int x4]) (σ' := σ) [(.iload 4, 2, 0, 0, 0, 0), (.aload_n 1, 1, 0, 0, 0, 0), (.getfield 71, 3, 0, 0, 4, 3)] (pc2 := 31) (by decide +kernel) rfl (And.intro hk1 trivial) ?_
    refine h.icmp_ge (tgt := 196) (show decode cX5_placeOfUntold 31 = .ok (.if_icmp .ge 165, 3) by decide +kernel) (by decide) (fun c9 => ?_) (fun c9 => ?_)
    · rw [if_pos c9] at hf
      refine h.run (o := []) (ls' := [some (.ref 0), some (.ref k1), some (.int x2), some (.int x3), some (.int x4), none, none, none, none]) (st' := [.int (-1)]) (σ' := σ) [(.iconst (-1), 1, (-1), 0, 0, 0)] (pc2 := 197) (by decide +kernel) rfl trivial ?_
      obtain rfl := Option.some.inj hf
      exact hm.iret (by decide +kernel)
    · rw [if_neg c9] at hf
      show V 34 [some (.ref 0), some (.ref k1), some (.int x2), some (.int x3), some (.int x4), none, none, none, none] [] σ
      refine h.run (o := []) (ls' := [some (.ref 0), some (.ref k1), some (.int x2), some (.int x3), some (.int x4), none, none, none, none]) (st' := [.int 1, .int x4, .ref k1]) (σ' := σ) [(.aload_n 1, 1, 0, 0, 0, 0), (.iload 4, 2, 0, 0, 0, 0), (.iconst 1, 1, 1, 0, 0, 0)] (pc2 := 38) (by decide +kernel) rfl trivial ?_
      obtain ⟨a1, e1, hf⟩ := bR_some hf
      refine h.callV (as := [.int x4, .int 1]) (rest := []) (by decide +kernel) lk5_87 cwX4_read hk1 (kmX4_read l hk1 e1) rfl (Nat.le_of_ble_eq_true rfl) (Nat.le_of_ble_eq_true rfl) (Nat.le_of_ble_eq_true rfl) ?_
      show V 41 [some (.ref 0), some (.ref k1), some (.int x2), some (.int x3), some (.int x4), none, none, none, none] [.int a1] σ
      refine h.run (o := []) (ls' := [some (.ref 0), some (.ref k1), some (.int x2), some (.int x3), some (.int x4), some (.int a1), none, none, none]) (st' := [.int 115, .int a1]) (σ' := σ) [(.istore 5, 2, 0, 0, 0, 0), (.iload 5, 2, 0, 0, 0, 0), (.bipush 115, 2, 115, 0, 0, 0)] (pc2 := 47) (by decide +kernel) rfl trivial ?_
      refine h.icmp_ne (tgt := 78) (show decode cX5_placeOfUntold 47 = .ok (.if_icmp .ne 31, 3) by decide +kernel) (by decide) (fun c8 => ?_) (fun c8 => ?_)
      · rw [if_neg c8] at hf
        refine h.run (o := []) (ls' := [some (.ref 0), some (.ref k1), some (.int x2), some (.int x3), some (.int x4), some (.int a1), none, none, none]) (st' := [.int 109, .int a1]) (σ' := σ) [(.iload 5, 2, 0, 0, 0, 0), (.bipush 109, 2, 109, 0, 0, 0)] (pc2 := 82) (by decide +kernel) rfl trivial ?_
        refine h.icmp_eq (tgt := 92) (show decode cX5_placeOfUntold 82 = .ok (.if_icmp .eq 10, 3) by decide +kernel) (by decide) (fun c4 => ?_) (fun c4 => ?_)
        · rw [if_pos c4] at hf
          refine h.drop (ls' := [some (.ref 0), some (.ref k1), some (.int x2), some (.int x3), some (.int x4), none, none, none, none]) (And.intro rfl (And.intro rfl (And.intro rfl (And.intro rfl (And.intro rfl trivial))))) ?_
          exact wX5_placeOfUntold_92 hm ih hk1 hf
        · rw [if_neg c4] at hf
          show V 85 [some (.ref 0), some (.ref k1), some (.int x2), some (.int x3), some (.int x4), some (.int a1), none, none, none] [] σ
          refine h.run (o := []) (ls' := [some (.ref 0), some (.ref k1), some (.int x2), some (.int x3), some (.int x4), some (.int a1), none, none, none]) (st' := [.int 120, .int a1]) (σ' := σ) [(.iload 5, 2, 0, 0, 0, 0), (.bipush 120, 2, 120, 0, 0, 0)] (pc2 := 89) (by decide +kernel) rfl trivial ?_
          refine h.icmp_ne (tgt := 120) (show decode cX5_placeOfUntold 89 = .ok (.if_icmp .ne 31, 3) by decide +kernel) (by decide) (fun c3 => ?_) (fun c3 => ?_)
          · rw [if_neg c3] at hf
            refine h.run (o := []) (ls' := [some (.ref 0), some (.ref k1), some (.int x2), some (.int x3), some (.int x4), some (.int a1), none, none, none]) (st' := [.int 99, .int a1]) (σ' := σ) [(.iload 5, 2, 0, 0, 0, 0), (.bipush 99, 2, 99, 0, 0, 0)] (pc2 := 124) (by decide +kernel) rfl trivial ?_
            refine h.icmp_ne (tgt := 132) (show decode cX5_placeOfUntold 124 = .ok (.if_icmp .ne 8, 3) by decide +kernel) (by decide) (fun c2 => ?_) (fun c2 => ?_)
            · rw [if_neg c2] at hf
              refine h.run (o := []) (ls' := [some (.ref 0), some (.ref k1), some (.int x2), some (.int x3), some (.int x4), some (.int a1), none, none, none]) (st' := [.int 5]) (σ' := σ) [(.iconst 5, 1, 5, 0, 0, 0)] (pc2 := 133) (by decide +kernel) rfl trivial ?_
              refine h.drop (ls' := [some (.ref 0), some (.ref k1), some (.int x2), some (.int x3), some (.int x4), none, none, none, none]) (And.intro rfl (And.intro rfl (And.intro rfl (And.intro rfl (And.intro rfl trivial))))) ?_
              exact wX5_placeOfUntold_133 hm ih hk1 hf
            · rw [if_pos c2] at hf
              show V 127 [some (.ref 0), some (.ref k1), some (.int x2), some (.int x3), some (.int x4), some (.int a1), none, none, none] [] σ
              refine h.run (o := []) (ls' := [some (.ref 0), some (.ref k1), some (.int x2), some (.int x3), some (.int x4), some (.int a1), none, none, none]) (st' := [.int 20]) (σ' := σ) [(.bipush 20, 2, 20, 0, 0, 0), (.goto 4, 3, 0, 0, 0, 133)] (pc2 := 133) (by decide +kernel) rfl trivial ?_
              refine h.drop (ls' := [some (.ref 0), some (.ref k1), some (.int x2), some (.int x3), some (.int x4), none, none, none, none]) (And.intro rfl (And.intro rfl (And.intro rfl (And.intro rfl (And.intro rfl trivial))))) ?_
              exact wX5_placeOfUntold_133 hm ih hk1 hf
          · rw [if_pos c3] at hf
            show V 92 [some (.ref 0), some (.ref k1), some (.int x2), some (.int x3), some (.int x4), some (.int a1), none, none, none] [] σ
            refine h.drop (ls' := [some (.ref 0), some (.ref k1), some (.int x2), some (.int x3), some (.int x4), none, none, none, none]) (And.intro rfl (And.intro rfl (And.intro rfl (And.intro rfl (And.intro rfl trivial))))) ?_
            exact wX5_placeOfUntold_92 hm ih hk1 hf
      · rw [if_pos c8] at hf
        show V 50 [some (.ref 0), some (.ref k1), some (.int x2), some (.int x3), some (.int x4), some (.int a1), none, none, none] [] σ
        refine h.run (o := []) (ls' := [some (.ref 0), some (.ref k1), some (.int x2), some (.int x3), some (.int x4), some (.int a1), none, none, none]) (st' := [.int 8, .int x2]) (σ' := σ) [(.iload_n 2, 1, 0, 0, 0, 0), (.bipush 8, 2, 8, 0, 0, 0)] (pc2 := 53) (by decide +kernel) rfl trivial ?_
        refine h.icmp_ge (tgt := 69) (show decode cX5_placeOfUntold 53 = .ok (.if_icmp .ge 16, 3) by decide +kernel) (by decide) (fun c7 => ?_) (fun c7 => ?_)
        · rw [if_pos c7] at hf
          refine h.drop (ls' := [some (.ref 0), some (.ref k1), some (.int x2), some (.int x3), some (.int x4), none, none, none, none]) (And.intro rfl (And.intro rfl (And.intro rfl (And.intro rfl (And.intro rfl trivial))))) ?_
          exact wX5_placeOfUntold_69 hm ih hk1 hf
        · rw [if_neg c7] at hf
          show V 56 [some (.ref 0), some (.ref k1), some (.int x2), some (.int x3), some (.int x4), some (.int a1), none, none, none] [] σ
          refine h.run (o := []) (ls' := [some (.ref 0), some (.ref k1), some (.int x2), some (.int x3), some (.int x4), some (.int a1), none, none, none]) (st' := [.int x4, .ref k1]) (σ' := σ) [(.aload_n 1, 1, 0, 0, 0, 0), (.iload 4, 2, 0, 0, 0, 0)] (pc2 := 59) (by decide +kernel) rfl trivial ?_
          obtain ⟨a5, e5, hf⟩ := bR_some hf
          refine h.callS (as := [.ref k1, .int x4]) (rest := []) (by decide +kernel) lk5_303 cwX5_isSenderAsTold (kmX5_isSenderAsTold l hk1 e5) rfl (Nat.le_of_ble_eq_true rfl) (Nat.le_of_ble_eq_true rfl) (Nat.le_of_ble_eq_true rfl) ?_
          show V 62 [some (.ref 0), some (.ref k1), some (.int x2), some (.int x3), some (.int x4), some (.int a1), none, none, none] [.int a5] σ
          refine h.if_eq (tgt := 69) (show decode cX5_placeOfUntold 62 = .ok (.ifCond .eq 7, 3) by decide +kernel) (by decide) (fun c6 => ?_) (fun c6 => ?_)
          · rw [if_pos c6] at hf
            refine h.drop (ls' := [some (.ref 0), some (.ref k1), some (.int x2), some (.int x3), some (.int x4), none, none, none, none]) (And.intro rfl (And.intro rfl (And.intro rfl (And.intro rfl (And.intro rfl trivial))))) ?_
            exact wX5_placeOfUntold_69 hm ih hk1 hf
          · rw [if_neg c6] at hf
            show V 65 [some (.ref 0), some (.ref k1), some (.int x2), some (.int x3), some (.int x4), some (.int a1), none, none, none] [] σ
            refine h.run (o := []) (ls' := [some (.ref 0), some (.ref k1), some (.int x2), some (.int x3), some (.int x4), some (.int a1), none, none, none]) (st' := [.int 1]) (σ' := σ) [(.iconst 1, 1, 1, 0, 0, 0), (.goto 4, 3, 0, 0, 0, 70)] (pc2 := 70) (by decide +kernel) rfl trivial ?_
            refine h.drop (ls' := [some (.ref 0), some (.ref k1), some (.int x2), some (.int x3), some (.int x4), none, none, none, none]) (And.intro rfl (And.intro rfl (And.intro rfl (And.intro rfl (And.intro rfl trivial))))) ?_
            exact wX5_placeOfUntold_70 hm ih hk1 hf
def fX5_placeOfUntold (k1 : Nat) (σ : ST) : Option Int32 :=
  fX5_placeOfUntold_25 σ FU k1 (σ.1 6 3) (σ.1 8 3) 0
set_option maxHeartbeats 4000000 in
theorem kmX5_placeOfUntold (l : Launch) {k1 : Nat} {σ : ST} {r : Int32} (hk1 : kd k1 = 4) (hf : fX5_placeOfUntold k1 σ = some r) : KM l yX5_placeOfUntold cX5_placeOfUntold 9 (some .int) 3 67 [.ref 0, .ref k1] σ (some (.int r)) σ := by
  refine KM.intro (ow := 5) (by decide +kernel) rfl (Nat.le_of_ble_eq_true rfl) (fun V hm => ?_)
  show V 0 [some (.ref 0), some (.ref k1), none, none, none, none, none, none, none] [] σ
  have h := hm.bd
  unfold fX5_placeOfUntold at hf
  refine h.run (o := [kd 0 = 5, kd 1 = 0, kd 6 = 4, kd 0 = 5, kd 1 = 0, kd 8 = 4]) (ls' := [some (.ref 0), some (.ref k1), some (.int (σ.1 6 3)), some (.int (σ.1 8 3)), some (.int 0), none, none, none, none]) (st' := []) (σ' := σ) [(.aload_n 0, 1, 0, 0, 0, 0), (.getfield 10, 3, 0, 0, 5, 0), (.getfield 80, 3, 0, 0, 0, 3), (.getfield 71, 3, 0, 0, 4, 3), (.istore_n 2, 1, 0, 0, 0, 0), (.aload_n 0, 1, 0, 0, 0, 0), (.getfield 10, 3, 0, 0, 5, 0), (.getfield 91, 3, 0, 0, 0, 4), (.getfield 71, 3, 0, 0, 4, 3), (.istore_n 3, 1, 0, 0, 0, 0), (.iconst 0, 1, 0, 0, 0, 0), (.istore 4, 2, 0, 0, 0, 0)] (pc2 := 25) (by decide +kernel) rfl (And.intro kd_0 (And.intro kd_1 (And.intro kd_6 (And.intro kd_0 (And.intro kd_1 (And.intro kd_8 trivial)))))) ?_
  exact wX5_placeOfUntold_25 hm FU k1 (σ.1 6 3) (σ.1 8 3) 0 hk1 hf
def fX5_carryOut_241 (σ : ST) : Option ST :=
  some σ
set_option maxHeartbeats 4000000 in
theorem wX5_carryOut_241 {l : Launch} {V : Nat → List (Option Value) → List Value → ST → Prop} {τ : ST} {σ : ST} (hm : BM l 5 cX5_carryOut 5 none 3 68 none τ V) (hf : fX5_carryOut_241 σ = some τ) : V 241 [none, none, none, none, none] [] σ := by
  have h := hm.bd
  unfold fX5_carryOut_241 at hf
  obtain rfl := Option.some.inj hf
  exact hm.vret (by decide +kernel)
def fX5_carryOut_162 (k1 : Nat) (x2 : Int32) (x4 : Int32) (t1 : Int32) (t2 : Int32) (t3 : Int32) (σ : ST) : Option ST :=
  bR (fX4_write 8 t1 t2 t3 σ) fun σ1 =>
  bR (fX4_read k1 x2 2 σ1) fun a2 =>
  bR (fX4_write 8 x4 1 a2 σ1) fun σ3 =>
  bR (fX4_read k1 x2 3 σ3) fun a4 =>
  bR (fX4_write 8 x4 2 a4 σ3) fun σ5 =>
  bR (fX4_read k1 x2 4 σ5) fun a6 =>
  bR (fX4_write 8 x4 3 a6 σ5) fun σ7 =>
  bR (fX4_read k1 x2 5 σ7) fun a8 =>
  bR (fX4_write 8 x4 4 a8 σ7) fun σ9 =>
  fX5_carryOut_241 σ9
set_option maxHeartbeats 4000000 in
theorem wX5_carryOut_162 {l : Launch} {V : Nat → List (Option Value) → List Value → ST → Prop} {τ : ST} {σ : ST} {k1 : Nat} {x2 : Int32} {x4 : Int32} {t1 : Int32} {t2 : Int32} {t3 : Int32} (hm : BM l 5 cX5_carryOut 5 none 3 68 none τ V) (hk1 : kd k1 = 4) (hf : fX5_carryOut_162 k1 x2 x4 t1 t2 t3 σ = some τ) : V 162 [some (.ref 0), some (.ref k1), some (.int x2), none, some (.int x4)] [.int t3, .int t2, .int t1, .ref 8] σ := by
  have h := hm.bd
  unfold fX5_carryOut_162 at hf
  obtain ⟨σ1, e1, hf⟩ := bR_some hf
  refine h.callV (as := [.int t1, .int t2, .int t3]) (rest := []) (by decide +kernel) lk5_113 cwX4_write kd_8 (kmX4_write l kd_8 e1) rfl (Nat.le_of_ble_eq_true rfl) (Nat.le_of_ble_eq_true rfl) (Nat.le_of_ble_eq_true rfl) ?_
  show V 165 [some (.ref 0), some (.ref k1), some (.int x2), none, some (.int x4)] [] σ1
  refine h.run (o := [kd 0 = 5, kd 1 = 0]) (ls' := [some (.ref 0), some (.ref k1), some (.int x2), none, some (.int x4)]) (st' := [.int 2, .int x2, .ref k1, .int 1, .int x4, .ref 8]) (σ' := σ1) [(.aload_n 0, 1, 0, 0, 0, 0), (.getfield 10, 3, 0, 0, 5, 0), (.getfield 91, 3, 0, 0, 0, 4), (.iload 4, 2, 0, 0, 0, 0), (.iconst 1, 1, 1, 0, 0, 0), (.aload_n 1, 1, 0, 0, 0, 0), (.iload_n 2, 1, 0, 0, 0, 0), (.iconst 2, 1, 2, 0, 0, 0)] (pc2 := 178) (by decide +kernel) rfl (And.intro kd_0 (And.intro kd_1 trivial)) ?_
  obtain ⟨a2, e2, hf⟩ := bR_some hf
  refine h.callV (as := [.int x2, .int 2]) (rest := [.int 1, .int x4, .ref 8]) (by decide +kernel) lk5_87 cwX4_read hk1 (kmX4_read l hk1 e2) rfl (Nat.le_of_ble_eq_true rfl) (Nat.le_of_ble_eq_true rfl) (Nat.le_of_ble_eq_true rfl) ?_
  show V 181 [some (.ref 0), some (.ref k1), some (.int x2), none, some (.int x4)] [.int a2, .int 1, .int x4, .ref 8] σ1
  obtain ⟨σ3, e3, hf⟩ := bR_some hf
  refine h.callV (as := [.int x4, .int 1, .int a2]) (rest := []) (by decide +kernel) lk5_113 cwX4_write kd_8 (kmX4_write l kd_8 e3) rfl (Nat.le_of_ble_eq_true rfl) (Nat.le_of_ble_eq_true rfl) (Nat.le_of_ble_eq_true rfl) ?_
  show V 184 [some (.ref 0), some (.ref k1), some (.int x2), none, some (.int x4)] [] σ3
  refine h.run (o := [kd 0 = 5, kd 1 = 0]) (ls' := [some (.ref 0), some (.ref k1), some (.int x2), none, some (.int x4)]) (st' := [.int 3, .int x2, .ref k1, .int 2, .int x4, .ref 8]) (σ' := σ3) [(.aload_n 0, 1, 0, 0, 0, 0), (.getfield 10, 3, 0, 0, 5, 0), (.getfield 91, 3, 0, 0, 0, 4), (.iload 4, 2, 0, 0, 0, 0), (.iconst 2, 1, 2, 0, 0, 0), (.aload_n 1, 1, 0, 0, 0, 0), (.iload_n 2, 1, 0, 0, 0, 0), (.iconst 3, 1, 3, 0, 0, 0)] (pc2 := 197) (by decide +kernel) rfl (And.intro kd_0 (And.intro kd_1 trivial)) ?_
  obtain ⟨a4, e4, hf⟩ := bR_some hf
  refine h.callV (as := [.int x2, .int 3]) (rest := [.int 2, .int x4, .ref 8]) (by decide +kernel) lk5_87 cwX4_read hk1 (kmX4_read l hk1 e4) rfl (Nat.le_of_ble_eq_true rfl) (Nat.le_of_ble_eq_true rfl) (Nat.le_of_ble_eq_true rfl) ?_
  show V 200 [some (.ref 0), some (.ref k1), some (.int x2), none, some (.int x4)] [.int a4, .int 2, .int x4, .ref 8] σ3
  obtain ⟨σ5, e5, hf⟩ := bR_some hf
  refine h.callV (as := [.int x4, .int 2, .int a4]) (rest := []) (by decide +kernel) lk5_113 cwX4_write kd_8 (kmX4_write l kd_8 e5) rfl (Nat.le_of_ble_eq_true rfl) (Nat.le_of_ble_eq_true rfl) (Nat.le_of_ble_eq_true rfl) ?_
  show V 203 [some (.ref 0), some (.ref k1), some (.int x2), none, some (.int x4)] [] σ5
  refine h.run (o := [kd 0 = 5, kd 1 = 0]) (ls' := [some (.ref 0), some (.ref k1), some (.int x2), none, some (.int x4)]) (st' := [.int 4, .int x2, .ref k1, .int 3, .int x4, .ref 8]) (σ' := σ5) [(.aload_n 0, 1, 0, 0, 0, 0), (.getfield 10, 3, 0, 0, 5, 0), (.getfield 91, 3, 0, 0, 0, 4), (.iload 4, 2, 0, 0, 0, 0), (.iconst 3, 1, 3, 0, 0, 0), (.aload_n 1, 1, 0, 0, 0, 0), (.iload_n 2, 1, 0, 0, 0, 0), (.iconst 4, 1, 4, 0, 0, 0)] (pc2 := 216) (by decide +kernel) rfl (And.intro kd_0 (And.intro kd_1 trivial)) ?_
  obtain ⟨a6, e6, hf⟩ := bR_some hf
  refine h.callV (as := [.int x2, .int 4]) (rest := [.int 3, .int x4, .ref 8]) (by decide +kernel) lk5_87 cwX4_read hk1 (kmX4_read l hk1 e6) rfl (Nat.le_of_ble_eq_true rfl) (Nat.le_of_ble_eq_true rfl) (Nat.le_of_ble_eq_true rfl) ?_
  show V 219 [some (.ref 0), some (.ref k1), some (.int x2), none, some (.int x4)] [.int a6, .int 3, .int x4, .ref 8] σ5
  obtain ⟨σ7, e7, hf⟩ := bR_some hf
  refine h.callV (as := [.int x4, .int 3, .int a6]) (rest := []) (by decide +kernel) lk5_113 cwX4_write kd_8 (kmX4_write l kd_8 e7) rfl (Nat.le_of_ble_eq_true rfl) (Nat.le_of_ble_eq_true rfl) (Nat.le_of_ble_eq_true rfl) ?_
  show V 222 [some (.ref 0), some (.ref k1), some (.int x2), none, some (.int x4)] [] σ7
  refine h.run (o := [kd 0 = 5, kd 1 = 0]) (ls' := [some (.ref 0), some (.ref k1), some (.int x2), none, some (.int x4)]) (st' := [.int 5, .int x2, .ref k1, .int 4, .int x4, .ref 8]) (σ' := σ7) [(.aload_n 0, 1, 0, 0, 0, 0), (.getfield 10, 3, 0, 0, 5, 0), (.getfield 91, 3, 0, 0, 0, 4), (.iload 4, 2, 0, 0, 0, 0), (.iconst 4, 1, 4, 0, 0, 0), (.aload_n 1, 1, 0, 0, 0, 0), (.iload_n 2, 1, 0, 0, 0, 0), (.iconst 5, 1, 5, 0, 0, 0)] (pc2 := 235) (by decide +kernel) rfl (And.intro kd_0 (And.intro kd_1 trivial)) ?_
  obtain ⟨a8, e8, hf⟩ := bR_some hf
  refine h.callV (as := [.int x2, .int 5]) (rest := [.int 4, .int x4, .ref 8]) (by decide +kernel) lk5_87 cwX4_read hk1 (kmX4_read l hk1 e8) rfl (Nat.le_of_ble_eq_true rfl) (Nat.le_of_ble_eq_true rfl) (Nat.le_of_ble_eq_true rfl) ?_
  show V 238 [some (.ref 0), some (.ref k1), some (.int x2), none, some (.int x4)] [.int a8, .int 4, .int x4, .ref 8] σ7
  obtain ⟨σ9, e9, hf⟩ := bR_some hf
  refine h.callV (as := [.int x4, .int 4, .int a8]) (rest := []) (by decide +kernel) lk5_113 cwX4_write kd_8 (kmX4_write l kd_8 e9) rfl (Nat.le_of_ble_eq_true rfl) (Nat.le_of_ble_eq_true rfl) (Nat.le_of_ble_eq_true rfl) ?_
  show V 241 [some (.ref 0), some (.ref k1), some (.int x2), none, some (.int x4)] [] σ9
  refine h.drop (ls' := [none, none, none, none, none]) trivial ?_
  exact wX5_carryOut_241 hm hf
def fX5_carryOut (k1 : Nat) (x2 : Int32) (σ : ST) : Option ST :=
  bR (fX4_read k1 x2 1 σ) fun a1 =>
  if a1 = 115 then
    bI (fX4_open 6 σ) fun a8 σ8 =>
    bR (fX4_read k1 x2 2 σ8) fun a9 =>
    bR (fX4_write 6 a8 0 a9 σ8) fun σ10 =>
    bR (fX4_read k1 x2 3 σ10) fun a11 =>
    bR (fX4_write 6 a8 1 a11 σ10) fun σ12 =>
    bR (fX4_read k1 x2 4 σ12) fun a13 =>
    bR (fX4_write 6 a8 2 a13 σ12) fun σ14 =>
    fX5_carryOut_241 σ14
  else
    if a1 = 99 then
      bR (fX4_read k1 x2 2 σ) fun a6 =>
      fX5_carryOut_241 (setI σ 1 0 a6)
    else
      if a1 = 116 then
        bR (fX4_read k1 x2 2 σ) fun a4 =>
        fX5_carryOut_241 (setI σ 1 1 a4)
      else
        bI (fX4_open 8 σ) fun a2 σ2 =>
        if a1 = 120 then
          fX5_carryOut_162 k1 x2 a2 a2 0 1 σ2
        else
          fX5_carryOut_162 k1 x2 a2 a2 0 0 σ2
set_option maxHeartbeats 4000000 in
theorem kmX5_carryOut (l : Launch) {k1 : Nat} {x2 : Int32} {σ : ST} {τ : ST} (hk1 : kd k1 = 4) (hf : fX5_carryOut k1 x2 σ = some τ) : KM l yX5_carryOut cX5_carryOut 5 none 3 68 [.ref 0, .ref k1, .int x2] σ none τ := by
  refine KM.intro (ow := 5) (by decide +kernel) rfl (Nat.le_of_ble_eq_true rfl) (fun V hm => ?_)
  show V 0 [some (.ref 0), some (.ref k1), some (.int x2), none, none] [] σ
  have h := hm.bd
  unfold fX5_carryOut at hf
  refine h.run (o := []) (ls' := [some (.ref 0), some (.ref k1), some (.int x2), none, none]) (st' := [.int 1, .int x2, .ref k1]) (σ' := σ) [(.aload_n 1, 1, 0, 0, 0, 0), (.iload_n 2, 1, 0, 0, 0, 0), (.iconst 1, 1, 1, 0, 0, 0)] (pc2 := 3) (by decide +kernel) rfl trivial ?_
  obtain ⟨a1, e1, hf⟩ := bR_some hf
  refine h.callV (as := [.int x2, .int 1]) (rest := []) (by decide +kernel) lk5_87 cwX4_read hk1 (kmX4_read l hk1 e1) rfl (Nat.le_of_ble_eq_true rfl) (Nat.le_of_ble_eq_true rfl) (Nat.le_of_ble_eq_true rfl) ?_
  show V 6 [some (.ref 0), some (.ref k1), some (.int x2), none, none] [.int a1] σ
  refine h.run (o := []) (ls' := [some (.ref 0), some (.ref k1), some (.int x2), some (.int a1), none]) (st' := [.int 115, .int a1]) (σ' := σ) [(.istore_n 3, 1, 0, 0, 0, 0), (.iload_n 3, 1, 0, 0, 0, 0), (.bipush 115, 2, 115, 0, 0, 0)] (pc2 := 10) (by decide +kernel) rfl trivial ?_
  refine h.icmp_ne (tgt := 85) (show decode cX5_carryOut 10 = .ok (.if_icmp .ne 75, 3) by decide +kernel) (by decide) (fun c15 => ?_) (fun c15 => ?_)
  · rw [if_neg c15] at hf
    refine h.run (o := []) (ls' := [some (.ref 0), some (.ref k1), some (.int x2), some (.int a1), none]) (st' := [.int 99, .int a1]) (σ' := σ) [(.iload_n 3, 1, 0, 0, 0, 0), (.bipush 99, 2, 99, 0, 0, 0)] (pc2 := 88) (by decide +kernel) rfl trivial ?_
    refine h.icmp_ne (tgt := 107) (show decode cX5_carryOut 88 = .ok (.if_icmp .ne 19, 3) by decide +kernel) (by decide) (fun c7 => ?_) (fun c7 => ?_)
    · rw [if_neg c7] at hf
      refine h.run (o := []) (ls' := [some (.ref 0), some (.ref k1), some (.int x2), some (.int a1), none]) (st' := [.int 116, .int a1]) (σ' := σ) [(.iload_n 3, 1, 0, 0, 0, 0), (.bipush 116, 2, 116, 0, 0, 0)] (pc2 := 110) (by decide +kernel) rfl trivial ?_
      refine h.icmp_ne (tgt := 129) (show decode cX5_carryOut 110 = .ok (.if_icmp .ne 19, 3) by decide +kernel) (by decide) (fun c5 => ?_) (fun c5 => ?_)
      · rw [if_neg c5] at hf
        refine h.run (o := [kd 0 = 5, kd 1 = 0]) (ls' := [some (.ref 0), some (.ref k1), some (.int x2), some (.int a1), none]) (st' := [.ref 8]) (σ' := σ) [(.aload_n 0, 1, 0, 0, 0, 0), (.getfield 10, 3, 0, 0, 5, 0), (.getfield 91, 3, 0, 0, 0, 4)] (pc2 := 136) (by decide +kernel) rfl (And.intro kd_0 (And.intro kd_1 trivial)) ?_
        obtain ⟨a2, σ2, e2, hf⟩ := bI_some hf
        refine h.callV (as := []) (rest := []) (by decide +kernel) lk5_289 cwX4_open kd_8 (kmX4_open l kd_8 e2) rfl (Nat.le_of_ble_eq_true rfl) (Nat.le_of_ble_eq_true rfl) (Nat.le_of_ble_eq_true rfl) ?_
        show V 139 [some (.ref 0), some (.ref k1), some (.int x2), some (.int a1), none] [.int a2] σ2
        refine h.run (o := [kd 0 = 5, kd 1 = 0]) (ls' := [some (.ref 0), some (.ref k1), some (.int x2), some (.int a1), some (.int a2)]) (st' := [.int 120, .int a1, .int 0, .int a2, .ref 8]) (σ' := σ2) [(.istore 4, 2, 0, 0, 0, 0), (.aload_n 0, 1, 0, 0, 0, 0), (.getfield 10, 3, 0, 0, 5, 0), (.getfield 91, 3, 0, 0, 0, 4), (.iload 4, 2, 0, 0, 0, 0), (.iconst 0, 1, 0, 0, 0, 0), (.iload_n 3, 1, 0, 0, 0, 0), (.bipush 120, 2, 120, 0, 0, 0)] (pc2 := 154) (by decide +kernel) rfl (And.intro kd_0 (And.intro kd_1 trivial)) ?_
        refine h.icmp_ne (tgt := 161) (show decode cX5_carryOut 154 = .ok (.if_icmp .ne 7, 3) by decide +kernel) (by decide) (fun c3 => ?_) (fun c3 => ?_)
        · rw [if_neg c3] at hf
          refine h.run (o := []) (ls' := [some (.ref 0), some (.ref k1), some (.int x2), some (.int a1), some (.int a2)]) (st' := [.int 0, .int 0, .int a2, .ref 8]) (σ' := σ2) [(.iconst 0, 1, 0, 0, 0, 0)] (pc2 := 162) (by decide +kernel) rfl trivial ?_
          refine h.drop (ls' := [some (.ref 0), some (.ref k1), some (.int x2), none, some (.int a2)]) (And.intro rfl (And.intro rfl (And.intro rfl (And.intro rfl trivial)))) ?_
          exact wX5_carryOut_162 hm hk1 hf
        · rw [if_pos c3] at hf
          show V 157 [some (.ref 0), some (.ref k1), some (.int x2), some (.int a1), some (.int a2)] [.int 0, .int a2, .ref 8] σ2
          refine h.run (o := []) (ls' := [some (.ref 0), some (.ref k1), some (.int x2), some (.int a1), some (.int a2)]) (st' := [.int 1, .int 0, .int a2, .ref 8]) (σ' := σ2) [(.iconst 1, 1, 1, 0, 0, 0), (.goto 4, 3, 0, 0, 0, 162)] (pc2 := 162) (by decide +kernel) rfl trivial ?_
          refine h.drop (ls' := [some (.ref 0), some (.ref k1), some (.int x2), none, some (.int a2)]) (And.intro rfl (And.intro rfl (And.intro rfl (And.intro rfl trivial)))) ?_
          exact wX5_carryOut_162 hm hk1 hf
      · rw [if_pos c5] at hf
        show V 113 [some (.ref 0), some (.ref k1), some (.int x2), some (.int a1), none] [] σ
        refine h.run (o := [kd 0 = 5]) (ls' := [some (.ref 0), some (.ref k1), some (.int x2), some (.int a1), none]) (st' := [.int 2, .int x2, .ref k1, .ref 1]) (σ' := σ) [(.aload_n 0, 1, 0, 0, 0, 0), (.getfield 10, 3, 0, 0, 5, 0), (.aload_n 1, 1, 0, 0, 0, 0), (.iload_n 2, 1, 0, 0, 0, 0), (.iconst 2, 1, 2, 0, 0, 0)] (pc2 := 120) (by decide +kernel) rfl (And.intro kd_0 trivial) ?_
        obtain ⟨a4, e4, hf⟩ := bR_some hf
        refine h.callV (as := [.int x2, .int 2]) (rest := [.ref 1]) (by decide +kernel) lk5_87 cwX4_read hk1 (kmX4_read l hk1 e4) rfl (Nat.le_of_ble_eq_true rfl) (Nat.le_of_ble_eq_true rfl) (Nat.le_of_ble_eq_true rfl) ?_
        show V 123 [some (.ref 0), some (.ref k1), some (.int x2), some (.int a1), none] [.int a4, .ref 1] σ
        refine h.run (o := [kd 1 = 0]) (ls' := [some (.ref 0), some (.ref k1), some (.int x2), some (.int a1), none]) (st' := []) (σ' := setI σ 1 1 a4) [(.putfield 110, 3, 0, 0, 0, 1), (.goto 115, 3, 0, 0, 0, 241)] (pc2 := 241) (by decide +kernel) rfl (And.intro kd_1 trivial) ?_
        refine h.drop (ls' := [none, none, none, none, none]) trivial ?_
        exact wX5_carryOut_241 hm hf
    · rw [if_pos c7] at hf
      show V 91 [some (.ref 0), some (.ref k1), some (.int x2), some (.int a1), none] [] σ
      refine h.run (o := [kd 0 = 5]) (ls' := [some (.ref 0), some (.ref k1), some (.int x2), some (.int a1), none]) (st' := [.int 2, .int x2, .ref k1, .ref 1]) (σ' := σ) [(.aload_n 0, 1, 0, 0, 0, 0), (.getfield 10, 3, 0, 0, 5, 0), (.aload_n 1, 1, 0, 0, 0, 0), (.iload_n 2, 1, 0, 0, 0, 0), (.iconst 2, 1, 2, 0, 0, 0)] (pc2 := 98) (by decide +kernel) rfl (And.intro kd_0 trivial) ?_
      obtain ⟨a6, e6, hf⟩ := bR_some hf
      refine h.callV (as := [.int x2, .int 2]) (rest := [.ref 1]) (by decide +kernel) lk5_87 cwX4_read hk1 (kmX4_read l hk1 e6) rfl (Nat.le_of_ble_eq_true rfl) (Nat.le_of_ble_eq_true rfl) (Nat.le_of_ble_eq_true rfl) ?_
      show V 101 [some (.ref 0), some (.ref k1), some (.int x2), some (.int a1), none] [.int a6, .ref 1] σ
      refine h.run (o := [kd 1 = 0]) (ls' := [some (.ref 0), some (.ref k1), some (.int x2), some (.int a1), none]) (st' := []) (σ' := setI σ 1 0 a6) [(.putfield 107, 3, 0, 0, 0, 0), (.goto 137, 3, 0, 0, 0, 241)] (pc2 := 241) (by decide +kernel) rfl (And.intro kd_1 trivial) ?_
      refine h.drop (ls' := [none, none, none, none, none]) trivial ?_
      exact wX5_carryOut_241 hm hf
  · rw [if_pos c15] at hf
    show V 13 [some (.ref 0), some (.ref k1), some (.int x2), some (.int a1), none] [] σ
    refine h.run (o := [kd 0 = 5, kd 1 = 0]) (ls' := [some (.ref 0), some (.ref k1), some (.int x2), some (.int a1), none]) (st' := [.ref 6]) (σ' := σ) [(.aload_n 0, 1, 0, 0, 0, 0), (.getfield 10, 3, 0, 0, 5, 0), (.getfield 80, 3, 0, 0, 0, 3)] (pc2 := 20) (by decide +kernel) rfl (And.intro kd_0 (And.intro kd_1 trivial)) ?_
    obtain ⟨a8, σ8, e8, hf⟩ := bI_some hf
    refine h.callV (as := []) (rest := []) (by decide +kernel) lk5_289 cwX4_open kd_6 (kmX4_open l kd_6 e8) rfl (Nat.le_of_ble_eq_true rfl) (Nat.le_of_ble_eq_true rfl) (Nat.le_of_ble_eq_true rfl) ?_
    show V 23 [some (.ref 0), some (.ref k1), some (.int x2), some (.int a1), none] [.int a8] σ8
    refine h.run (o := [kd 0 = 5, kd 1 = 0]) (ls' := [some (.ref 0), some (.ref k1), some (.int x2), some (.int a1), some (.int a8)]) (st' := [.int 2, .int x2, .ref k1, .int 0, .int a8, .ref 6]) (σ' := σ8) [(.istore 4, 2, 0, 0, 0, 0), (.aload_n 0, 1, 0, 0, 0, 0), (.getfield 10, 3, 0, 0, 5, 0), (.getfield 80, 3, 0, 0, 0, 3), (.iload 4, 2, 0, 0, 0, 0), (.iconst 0, 1, 0, 0, 0, 0), (.aload_n 1, 1, 0, 0, 0, 0), (.iload_n 2, 1, 0, 0, 0, 0), (.iconst 2, 1, 2, 0, 0, 0)] (pc2 := 38) (by decide +kernel) rfl (And.intro kd_0 (And.intro kd_1 trivial)) ?_
    obtain ⟨a9, e9, hf⟩ := bR_some hf
    refine h.callV (as := [.int x2, .int 2]) (rest := [.int 0, .int a8, .ref 6]) (by decide +kernel) lk5_87 cwX4_read hk1 (kmX4_read l hk1 e9) rfl (Nat.le_of_ble_eq_true rfl) (Nat.le_of_ble_eq_true rfl) (Nat.le_of_ble_eq_true rfl) ?_
    show V 41 [some (.ref 0), some (.ref k1), some (.int x2), some (.int a1), some (.int a8)] [.int a9, .int 0, .int a8, .ref 6] σ8
    obtain ⟨σ10, e10, hf⟩ := bR_some hf
    refine h.callV (as := [.int a8, .int 0, .int a9]) (rest := []) (by decide +kernel) lk5_113 cwX4_write kd_6 (kmX4_write l kd_6 e10) rfl (Nat.le_of_ble_eq_true rfl) (Nat.le_of_ble_eq_true rfl) (Nat.le_of_ble_eq_true rfl) ?_
    show V 44 [some (.ref 0), some (.ref k1), some (.int x2), some (.int a1), some (.int a8)] [] σ10
    refine h.run (o := [kd 0 = 5, kd 1 = 0]) (ls' := [some (.ref 0), some (.ref k1), some (.int x2), some (.int a1), some (.int a8)]) (st' := [.int 3, .int x2, .ref k1, .int 1, .int a8, .ref 6]) (σ' := σ10) [(.aload_n 0, 1, 0, 0, 0, 0), (.getfield 10, 3, 0, 0, 5, 0), (.getfield 80, 3, 0, 0, 0, 3), (.iload 4, 2, 0, 0, 0, 0), (.iconst 1, 1, 1, 0, 0, 0), (.aload_n 1, 1, 0, 0, 0, 0), (.iload_n 2, 1, 0, 0, 0, 0), (.iconst 3, 1, 3, 0, 0, 0)] (pc2 := 57) (by decide +kernel) rfl (And.intro kd_0 (And.intro kd_1 trivial)) ?_
    obtain ⟨a11, e11, hf⟩ := bR_some hf
    refine h.callV (as := [.int x2, .int 3]) (rest := [.int 1, .int a8, .ref 6]) (by decide +kernel) lk5_87 cwX4_read hk1 (kmX4_read l hk1 e11) rfl (Nat.le_of_ble_eq_true rfl) (Nat.le_of_ble_eq_true rfl) (Nat.le_of_ble_eq_true rfl) ?_
    show V 60 [some (.ref 0), some (.ref k1), some (.int x2), some (.int a1), some (.int a8)] [.int a11, .int 1, .int a8, .ref 6] σ10
    obtain ⟨σ12, e12, hf⟩ := bR_some hf
    refine h.callV (as := [.int a8, .int 1, .int a11]) (rest := []) (by decide +kernel) lk5_113 cwX4_write kd_6 (kmX4_write l kd_6 e12) rfl (Nat.le_of_ble_eq_true rfl) (Nat.le_of_ble_eq_true rfl) (Nat.le_of_ble_eq_true rfl) ?_
    show V 63 [some (.ref 0), some (.ref k1), some (.int x2), some (.int a1), some (.int a8)] [] σ12
    refine h.run (o := [kd 0 = 5, kd 1 = 0]) (ls' := [some (.ref 0), some (.ref k1), some (.int x2), some (.int a1), some (.int a8)]) (st' := [.int 4, .int x2, .ref k1, .int 2, .int a8, .ref 6]) (σ' := σ12) [(.aload_n 0, 1, 0, 0, 0, 0), (.getfield 10, 3, 0, 0, 5, 0), (.getfield 80, 3, 0, 0, 0, 3), (.iload 4, 2, 0, 0, 0, 0), (.iconst 2, 1, 2, 0, 0, 0), (.aload_n 1, 1, 0, 0, 0, 0), (.iload_n 2, 1, 0, 0, 0, 0), (.iconst 4, 1, 4, 0, 0, 0)] (pc2 := 76) (by decide +kernel) rfl (And.intro kd_0 (And.intro kd_1 trivial)) ?_
    obtain ⟨a13, e13, hf⟩ := bR_some hf
    refine h.callV (as := [.int x2, .int 4]) (rest := [.int 2, .int a8, .ref 6]) (by decide +kernel) lk5_87 cwX4_read hk1 (kmX4_read l hk1 e13) rfl (Nat.le_of_ble_eq_true rfl) (Nat.le_of_ble_eq_true rfl) (Nat.le_of_ble_eq_true rfl) ?_
    show V 79 [some (.ref 0), some (.ref k1), some (.int x2), some (.int a1), some (.int a8)] [.int a13, .int 2, .int a8, .ref 6] σ12
    obtain ⟨σ14, e14, hf⟩ := bR_some hf
    refine h.callV (as := [.int a8, .int 2, .int a13]) (rest := []) (by decide +kernel) lk5_113 cwX4_write kd_6 (kmX4_write l kd_6 e14) rfl (Nat.le_of_ble_eq_true rfl) (Nat.le_of_ble_eq_true rfl) (Nat.le_of_ble_eq_true rfl) ?_
    show V 82 [some (.ref 0), some (.ref k1), some (.int x2), some (.int a1), some (.int a8)] [] σ14
    refine h.run (o := []) (ls' := [some (.ref 0), some (.ref k1), some (.int x2), some (.int a1), some (.int a8)]) (st' := []) (σ' := σ14) [(.goto 159, 3, 0, 0, 0, 241)] (pc2 := 241) (by decide +kernel) rfl trivial ?_
    refine h.drop (ls' := [none, none, none, none, none]) trivial ?_
    exact wX5_carryOut_241 hm hf
def fX5_room_84 (n : Nat) (x5 : Int32) (σ : ST) : Option (Int32 × ST) := match n with
  | 0 => none
  | n + 1 =>
    if (σ.1 18 3) ≤ x5 then
      some (σ.1 18 3, σ)
    else
      bR (fX5_carryOut 18 x5 σ) fun σ1 =>
      fX5_room_84 n (x5 + 1) σ1
set_option maxHeartbeats 4000000 in
theorem wX5_room_84 {l : Launch} {V : Nat → List (Option Value) → List Value → ST → Prop} {r : Int32} {τ : ST} (hm : BM l 5 cX5_room 6 (some .int) 6 144 (some (.int r)) τ V) : ∀ (n : Nat) (x5 : Int32) (σ : ST), fX5_room_84 n x5 σ = some (r, τ) → V 84 [some (.ref 0), none, none, none, none, some (.int x5)] [] σ := by
  have h := hm.bd
  intro n
  induction n with
  | zero => intro x5 σ hf; cases hf
  | succ n ih =>
    intro x5 σ hf
    rw [fX5_room_84] at hf
    refine h.run (o := [kd 0 = 5, kd 4 = 2, kd 18 = 4]) (ls' := [some (.ref 0), none, none, none, none, some (.int x5)]) (st' := [.int (σ.1 18 3), .int x5]) (σ' := σ) [(.iload 5, 2, 0, 0, 0, 0), (.aload_n 0, 1, 0, 0, 0, 0), (.getfield 33, 3, 0, 0, 5, 4), (.getfield 63, 3, 0, 0, 2, 0), (.getfield 71, 3, 0, 0, 4, 3)] (pc2 := 96) (by decide +kernel) rfl (And.intro kd_0 (And.intro kd_4 (And.intro kd_18 trivial))) ?_
    refine h.icmp_ge (tgt := 118) (show decode cX5_room 96 = .ok (.if_icmp .ge 22, 3) by decide +kernel) (by decide) (fun c2 => ?_) (fun c2 => ?_)
    · rw [if_pos c2] at hf
      refine h.run (o := [kd 0 = 5, kd 4 = 2, kd 18 = 4]) (ls' := [some (.ref 0), none, none, none, none, some (.int x5)]) (st' := [.int (σ.1 18 3)]) (σ' := σ) [(.aload_n 0, 1, 0, 0, 0, 0), (.getfield 33, 3, 0, 0, 5, 4), (.getfield 63, 3, 0, 0, 2, 0), (.getfield 71, 3, 0, 0, 4, 3)] (pc2 := 128) (by decide +kernel) rfl (And.intro kd_0 (And.intro kd_4 (And.intro kd_18 trivial))) ?_
      obtain ⟨rfl, rfl⟩ := Prod.mk.inj (Option.some.inj hf)
      exact hm.iret (by decide +kernel)
    · rw [if_neg c2] at hf
      show V 99 [some (.ref 0), none, none, none, none, some (.int x5)] [] σ
      refine h.run (o := [kd 0 = 5, kd 4 = 2]) (ls' := [some (.ref 0), none, none, none, none, some (.int x5)]) (st' := [.int x5, .ref 18, .ref 0]) (σ' := σ) [(.aload_n 0, 1, 0, 0, 0, 0), (.aload_n 0, 1, 0, 0, 0, 0), (.getfield 33, 3, 0, 0, 5, 4), (.getfield 63, 3, 0, 0, 2, 0), (.iload 5, 2, 0, 0, 0, 0)] (pc2 := 109) (by decide +kernel) rfl (And.intro kd_0 (And.intro kd_4 trivial)) ?_
      obtain ⟨σ1, e1, hf⟩ := bR_some hf
      refine h.callV (as := [.ref 18, .int x5]) (rest := []) (by decide +kernel) lk5_76 cwX5_carryOut kd_0 (kmX5_carryOut l kd_18 e1) rfl (Nat.le_of_ble_eq_true rfl) (Nat.le_of_ble_eq_true rfl) (Nat.le_of_ble_eq_true rfl) ?_
      show V 112 [some (.ref 0), none, none, none, none, some (.int x5)] [] σ1
      refine h.run (o := []) (ls' := [some (.ref 0), none, none, none, none, some (.int (x5 + 1))]) (st' := []) (σ' := σ1) [(.iinc 5 1, 3, 1, 0, 0, 0), (.goto (-31), 3, 0, 0, 0, 84)] (pc2 := 84) (by decide +kernel) rfl trivial ?_
      exact ih (x5 + 1) _ hf
def fX5_room (x1 : Int32) (σ : ST) : Option (Int32 × ST) :=
  bR (fX5_shelfAt x1 σ) fun o1 =>
  match o1 with
  | none =>
    some ((-1), σ)
  | some s1 =>
    bR (fX3_refusalAsRow s1 σ) fun a2 =>
    if a2 = 0 then
      if (σ.1 s1 5) = 0 then
        bI (fX2_takesIn s1 σ) fun a3 σ3 =>
        if a3 = 0 then
          some ((-1000) - (σ3.1 4 1), σ3)
        else
          bR (fX5_placeOfUntold 18 σ3) fun a4 =>
          if a4 < 0 then
            fX5_room_84 FU 0 σ3
          else
            some ((-2000) - a4, σ3)
      else
        some ((-12), σ)
    else
      some (a2, σ)
set_option maxHeartbeats 4000000 in
theorem kmX5_room (l : Launch) {x1 : Int32} {σ : ST} {r : Int32} {τ : ST} (hf : fX5_room x1 σ = some (r, τ)) : KM l yX5_room cX5_room 6 (some .int) 6 144 [.ref 0, .int x1] σ (some (.int r)) τ := by
  refine KM.intro (ow := 5) (by decide +kernel) rfl (Nat.le_of_ble_eq_true rfl) (fun V hm => ?_)
  show V 0 [some (.ref 0), some (.int x1), none, none, none, none] [] σ
  have h := hm.bd
  unfold fX5_room at hf
  refine h.run (o := []) (ls' := [some (.ref 0), some (.int x1), none, none, none, none]) (st' := [.int x1, .ref 0]) (σ' := σ) [(.aload_n 0, 1, 0, 0, 0, 0), (.iload_n 1, 1, 0, 0, 0, 0)] (pc2 := 2) (by decide +kernel) rfl trivial ?_
  obtain ⟨o1, e1, hf⟩ := bR_some hf
  refine h.callV (as := [.int x1]) (rest := []) (by decide +kernel) lk5_44 cwX5_shelfAt kd_0 (kmX5_shelfAt l e1) rfl (Nat.le_of_ble_eq_true rfl) (Nat.le_of_ble_eq_true rfl) (Nat.le_of_ble_eq_true rfl) ?_
  cases o1 with
  | none =>
    dsimp only at hf
    show V 5 [some (.ref 0), some (.int x1), none, none, none, none] [.null] σ
    refine h.run (o := []) (ls' := [some (.ref 0), some (.int x1), some (.null), none, none, none]) (st' := [.null]) (σ' := σ) [(.astore_n 2, 1, 0, 0, 0, 0), (.aload_n 2, 1, 0, 0, 0, 0)] (pc2 := 7) (by decide +kernel) rfl trivial ?_
    refine h.ifnonnullN (show decode cX5_room 7 = .ok (.ifnonnull 5, 3) by decide +kernel) ?_
    show V 10 [some (.ref 0), some (.int x1), some (.null), none, none, none] [] σ
    refine h.run (o := []) (ls' := [some (.ref 0), some (.int x1), some (.null), none, none, none]) (st' := [.int (-1)]) (σ' := σ) [(.iconst (-1), 1, (-1), 0, 0, 0)] (pc2 := 11) (by decide +kernel) rfl trivial ?_
    obtain ⟨rfl, rfl⟩ := Prod.mk.inj (Option.some.inj hf)
    exact hm.iret (by decide +kernel)
  | some s1 =>
    dsimp only at hf
    have hs1 : kd s1 = 3 := shelfAt_kd e1
    show V 5 [some (.ref 0), some (.int x1), none, none, none, none] [.ref s1] σ
    refine h.run (o := []) (ls' := [some (.ref 0), some (.int x1), some (.ref s1), none, none, none]) (st' := [.ref s1]) (σ' := σ) [(.astore_n 2, 1, 0, 0, 0, 0), (.aload_n 2, 1, 0, 0, 0, 0)] (pc2 := 7) (by decide +kernel) rfl trivial ?_
    refine h.ifnonnull (show decode cX5_room 7 = .ok (.ifnonnull 5, 3) by decide +kernel) (tgt := 12) (by decide) ?_
    refine h.run (o := []) (ls' := [some (.ref 0), some (.int x1), some (.ref s1), none, none, none]) (st' := [.ref s1]) (σ' := σ) [(.aload_n 2, 1, 0, 0, 0, 0)] (pc2 := 13) (by decide +kernel) rfl trivial ?_
    obtain ⟨a2, e2, hf⟩ := bR_some hf
    refine h.callV (as := []) (rest := []) (by decide +kernel) lk5_48 cwX3_refusalAsRow hs1 (kmX3_refusalAsRow l hs1 e2) rfl (Nat.le_of_ble_eq_true rfl) (Nat.le_of_ble_eq_true rfl) (Nat.le_of_ble_eq_true rfl) ?_
    show V 16 [some (.ref 0), some (.int x1), some (.ref s1), none, none, none] [.int a2] σ
    refine h.run (o := []) (ls' := [some (.ref 0), some (.int x1), some (.ref s1), some (.int a2), none, none]) (st' := [.int a2]) (σ' := σ) [(.istore_n 3, 1, 0, 0, 0, 0), (.iload_n 3, 1, 0, 0, 0, 0)] (pc2 := 18) (by decide +kernel) rfl trivial ?_
    refine h.if_eq (tgt := 23) (show decode cX5_room 18 = .ok (.ifCond .eq 5, 3) by decide +kernel) (by decide) (fun c8 => ?_) (fun c8 => ?_)
    · rw [if_pos c8] at hf
      refine h.run (o := [kd s1 = 3]) (ls' := [some (.ref 0), some (.int x1), some (.ref s1), some (.int a2), none, none]) (st' := [.int (σ.1 s1 5)]) (σ' := σ) [(.aload_n 2, 1, 0, 0, 0, 0), (.getfield 52, 3, 0, 0, 3, 5)] (pc2 := 27) (by decide +kernel) rfl (And.intro hs1 trivial) ?_
      refine h.if_eq (tgt := 33) (show decode cX5_room 27 = .ok (.ifCond .eq 6, 3) by decide +kernel) (by decide) (fun c7 => ?_) (fun c7 => ?_)
      · rw [if_pos c7] at hf
        refine h.run (o := [kd 0 = 5]) (ls' := [some (.ref 0), some (.int x1), some (.ref s1), some (.int a2), none, none]) (st' := [.ref s1, .ref 4]) (σ' := σ) [(.aload_n 0, 1, 0, 0, 0, 0), (.getfield 33, 3, 0, 0, 5, 4), (.aload_n 2, 1, 0, 0, 0, 0)] (pc2 := 38) (by decide +kernel) rfl (And.intro kd_0 trivial) ?_
        obtain ⟨a3, σ3, e3, hf⟩ := bI_some hf
        refine h.callV (as := [.ref s1]) (rest := []) (by decide +kernel) lk5_56 cwX2_takesIn kd_4 (kmX2_takesIn l hs1 e3) rfl (Nat.le_of_ble_eq_true rfl) (Nat.le_of_ble_eq_true rfl) (Nat.le_of_ble_eq_true rfl) ?_
        show V 41 [some (.ref 0), some (.int x1), some (.ref s1), some (.int a2), none, none] [.int a3] σ3
        refine h.if_ne (tgt := 56) (show decode cX5_room 41 = .ok (.ifCond .ne 15, 3) by decide +kernel) (by decide) (fun c6 => ?_) (fun c6 => ?_)
        · rw [if_neg c6] at hf
          refine h.run (o := [kd 0 = 5, kd 4 = 2]) (ls' := [some (.ref 0), some (.int x1), some (.ref s1), some (.int a2), none, none]) (st' := [.ref 18, .ref 0]) (σ' := σ3) [(.aload_n 0, 1, 0, 0, 0, 0), (.aload_n 0, 1, 0, 0, 0, 0), (.getfield 33, 3, 0, 0, 5, 4), (.getfield 63, 3, 0, 0, 2, 0)] (pc2 := 64) (by decide +kernel) rfl (And.intro kd_0 (And.intro kd_4 trivial)) ?_
          obtain ⟨a4, e4, hf⟩ := bR_some hf
          refine h.callV (as := [.ref 18]) (rest := []) (by decide +kernel) lk5_67 cwX5_placeOfUntold kd_0 (kmX5_placeOfUntold l kd_18 e4) rfl (Nat.le_of_ble_eq_true rfl) (Nat.le_of_ble_eq_true rfl) (Nat.le_of_ble_eq_true rfl) ?_
          show V 67 [some (.ref 0), some (.int x1), some (.ref s1), some (.int a2), none, none] [.int a4] σ3
          refine h.run (o := []) (ls' := [some (.ref 0), some (.int x1), some (.ref s1), some (.int a2), some (.int a4), none]) (st' := [.int a4]) (σ' := σ3) [(.istore 4, 2, 0, 0, 0, 0), (.iload 4, 2, 0, 0, 0, 0)] (pc2 := 71) (by decide +kernel) rfl trivial ?_
          refine h.if_lt (tgt := 81) (show decode cX5_room 71 = .ok (.ifCond .lt 10, 3) by decide +kernel) (by decide) (fun c5 => ?_) (fun c5 => ?_)
          · rw [if_pos c5] at hf
            refine h.run (o := []) (ls' := [some (.ref 0), some (.int x1), some (.ref s1), some (.int a2), some (.int a4), some (.int 0)]) (st' := []) (σ' := σ3) [(.iconst 0, 1, 0, 0, 0, 0), (.istore 5, 2, 0, 0, 0, 0)] (pc2 := 84) (by decide +kernel) rfl trivial ?_
            refine h.drop (ls' := [some (.ref 0), none, none, none, none, some (.int 0)]) (And.intro rfl (And.intro rfl trivial)) ?_
            exact wX5_room_84 hm FU 0 _ hf
          · rw [if_neg c5] at hf
            show V 74 [some (.ref 0), some (.int x1), some (.ref s1), some (.int a2), some (.int a4), none] [] σ3
            refine h.run (o := []) (ls' := [some (.ref 0), some (.int x1), some (.ref s1), some (.int a2), some (.int a4), none]) (st' := [.int ((-2000) - a4)]) (σ' := σ3) [(.sipush (-2000), 3, (-2000), 0, 0, 0), (.iload 4, 2, 0, 0, 0, 0), (.isub, 1, 0, 0, 0, 0)] (pc2 := 80) (by decide +kernel) rfl trivial ?_
            obtain ⟨rfl, rfl⟩ := Prod.mk.inj (Option.some.inj hf)
            exact hm.iret (by decide +kernel)
        · rw [if_pos c6] at hf
          show V 44 [some (.ref 0), some (.int x1), some (.ref s1), some (.int a2), none, none] [] σ3
          refine h.run (o := [kd 0 = 5, kd 4 = 2]) (ls' := [some (.ref 0), some (.int x1), some (.ref s1), some (.int a2), none, none]) (st' := [.int ((-1000) - (σ3.1 4 1))]) (σ' := σ3) [(.sipush (-1000), 3, (-1000), 0, 0, 0), (.aload_n 0, 1, 0, 0, 0, 0), (.getfield 33, 3, 0, 0, 5, 4), (.getfield 60, 3, 0, 0, 2, 1), (.isub, 1, 0, 0, 0, 0)] (pc2 := 55) (by decide +kernel) rfl (And.intro kd_0 (And.intro kd_4 trivial)) ?_
          obtain ⟨rfl, rfl⟩ := Prod.mk.inj (Option.some.inj hf)
          exact hm.iret (by decide +kernel)
      · rw [if_neg c7] at hf
        show V 30 [some (.ref 0), some (.int x1), some (.ref s1), some (.int a2), none, none] [] σ
        refine h.run (o := []) (ls' := [some (.ref 0), some (.int x1), some (.ref s1), some (.int a2), none, none]) (st' := [.int (-12)]) (σ' := σ) [(.bipush (-12), 2, (-12), 0, 0, 0)] (pc2 := 32) (by decide +kernel) rfl trivial ?_
        obtain ⟨rfl, rfl⟩ := Prod.mk.inj (Option.some.inj hf)
        exact hm.iret (by decide +kernel)
    · rw [if_neg c8] at hf
      show V 21 [some (.ref 0), some (.int x1), some (.ref s1), some (.int a2), none, none] [] σ
      refine h.run (o := []) (ls' := [some (.ref 0), some (.int x1), some (.ref s1), some (.int a2), none, none]) (st' := [.int a2]) (σ' := σ) [(.iload_n 3, 1, 0, 0, 0, 0)] (pc2 := 22) (by decide +kernel) rfl trivial ?_
      obtain ⟨rfl, rfl⟩ := Prod.mk.inj (Option.some.inj hf)
      exact hm.iret (by decide +kernel)
def fX5_sender_23 (σ : ST) : Option Int32 :=
  some (-1)
set_option maxHeartbeats 4000000 in
theorem wX5_sender_23 {l : Launch} {V : Nat → List (Option Value) → List Value → ST → Prop} {r : Int32} {σ : ST} (hm : BM l 5 cX5_sender 3 (some .int) 2 46 (some (.int r)) σ V) (hf : fX5_sender_23 σ = some r) : V 23 [none, none, none] [] σ := by
  have h := hm.bd
  unfold fX5_sender_23 at hf
  refine h.run (o := []) (ls' := [none, none, none]) (st' := [.int (-1)]) (σ' := σ) [(.iconst (-1), 1, (-1), 0, 0, 0)] (pc2 := 24) (by decide +kernel) rfl trivial ?_
  obtain rfl := Option.some.inj hf
  exact hm.iret (by decide +kernel)
def fX5_sender (x1 : Int32) (x2 : Int32) (σ : ST) : Option Int32 :=
  bR (fX4_has 6 x1 σ) fun a1 =>
  if a1 = 0 then
    fX5_sender_23 σ
  else
    if x2 < 0 then
      fX5_sender_23 σ
    else
      if x2 < 3 then
        bR (fX4_read 6 x1 x2 σ) fun a2 =>
        some a2
      else
        fX5_sender_23 σ
set_option maxHeartbeats 4000000 in
theorem kmX5_sender (l : Launch) {x1 : Int32} {x2 : Int32} {σ : ST} {r : Int32} (hf : fX5_sender x1 x2 σ = some r) : KM l yX5_sender cX5_sender 3 (some .int) 2 46 [.ref 0, .int x1, .int x2] σ (some (.int r)) σ := by
  refine KM.intro (ow := 5) (by decide +kernel) rfl (Nat.le_of_ble_eq_true rfl) (fun V hm => ?_)
  show V 0 [some (.ref 0), some (.int x1), some (.int x2)] [] σ
  have h := hm.bd
  unfold fX5_sender at hf
  refine h.run (o := [kd 0 = 5, kd 1 = 0]) (ls' := [some (.ref 0), some (.int x1), some (.int x2)]) (st' := [.int x1, .ref 6]) (σ' := σ) [(.aload_n 0, 1, 0, 0, 0, 0), (.getfield 10, 3, 0, 0, 5, 0), (.getfield 80, 3, 0, 0, 0, 3), (.iload_n 1, 1, 0, 0, 0, 0)] (pc2 := 8) (by decide +kernel) rfl (And.intro kd_0 (And.intro kd_1 trivial)) ?_
  obtain ⟨a1, e1, hf⟩ := bR_some hf
  refine h.callV (as := [.int x1]) (rest := []) (by decide +kernel) lk5_83 cwX4_has kd_6 (kmX4_has l kd_6 e1) rfl (Nat.le_of_ble_eq_true rfl) (Nat.le_of_ble_eq_true rfl) (Nat.le_of_ble_eq_true rfl) ?_
  show V 11 [some (.ref 0), some (.int x1), some (.int x2)] [.int a1] σ
  refine h.if_eq (tgt := 23) (show decode cX5_sender 11 = .ok (.ifCond .eq 12, 3) by decide +kernel) (by decide) (fun c5 => ?_) (fun c5 => ?_)
  · rw [if_pos c5] at hf
    refine h.drop (ls' := [none, none, none]) trivial ?_
    exact wX5_sender_23 hm hf
  · rw [if_neg c5] at hf
    show V 14 [some (.ref 0), some (.int x1), some (.int x2)] [] σ
    refine h.run (o := []) (ls' := [some (.ref 0), some (.int x1), some (.int x2)]) (st' := [.int x2]) (σ' := σ) [(.iload_n 2, 1, 0, 0, 0, 0)] (pc2 := 15) (by decide +kernel) rfl trivial ?_
    refine h.if_lt (tgt := 23) (show decode cX5_sender 15 = .ok (.ifCond .lt 8, 3) by decide +kernel) (by decide) (fun c4 => ?_) (fun c4 => ?_)
    · rw [if_pos c4] at hf
      refine h.drop (ls' := [none, none, none]) trivial ?_
      exact wX5_sender_23 hm hf
    · rw [if_neg c4] at hf
      show V 18 [some (.ref 0), some (.int x1), some (.int x2)] [] σ
      refine h.run (o := []) (ls' := [some (.ref 0), some (.int x1), some (.int x2)]) (st' := [.int 3, .int x2]) (σ' := σ) [(.iload_n 2, 1, 0, 0, 0, 0), (.iconst 3, 1, 3, 0, 0, 0)] (pc2 := 20) (by decide +kernel) rfl trivial ?_
      refine h.icmp_lt (tgt := 25) (show decode cX5_sender 20 = .ok (.if_icmp .lt 5, 3) by decide +kernel) (by decide) (fun c3 => ?_) (fun c3 => ?_)
      · rw [if_pos c3] at hf
        refine h.run (o := [kd 0 = 5, kd 1 = 0]) (ls' := [some (.ref 0), some (.int x1), some (.int x2)]) (st' := [.int x2, .int x1, .ref 6]) (σ' := σ) [(.aload_n 0, 1, 0, 0, 0, 0), (.getfield 10, 3, 0, 0, 5, 0), (.getfield 80, 3, 0, 0, 0, 3), (.iload_n 1, 1, 0, 0, 0, 0), (.iload_n 2, 1, 0, 0, 0, 0)] (pc2 := 34) (by decide +kernel) rfl (And.intro kd_0 (And.intro kd_1 trivial)) ?_
        obtain ⟨a2, e2, hf⟩ := bR_some hf
        refine h.callV (as := [.int x1, .int x2]) (rest := []) (by decide +kernel) lk5_87 cwX4_read kd_6 (kmX4_read l kd_6 e2) rfl (Nat.le_of_ble_eq_true rfl) (Nat.le_of_ble_eq_true rfl) (Nat.le_of_ble_eq_true rfl) ?_
        show V 37 [some (.ref 0), some (.int x1), some (.int x2)] [.int a2] σ
        obtain rfl := Option.some.inj hf
        exact hm.iret (by decide +kernel)
      · rw [if_neg c3] at hf
        show V 23 [some (.ref 0), some (.int x1), some (.int x2)] [] σ
        refine h.drop (ls' := [none, none, none]) trivial ?_
        exact wX5_sender_23 hm hf
def fX5_bringPastOf (x1 : Int32) (σ : ST) : Option ST :=
  bR (fX4_sumWhere 10 1 x1 3 σ) fun a1 =>
  bR (fX4_sumWhere 10 1 x1 4 (setI σ 3 11 a1)) fun a2 =>
  some (setI (setI σ 3 11 a1) 3 12 a2)
set_option maxHeartbeats 4000000 in
theorem kmX5_bringPastOf (l : Launch) {x1 : Int32} {σ : ST} {τ : ST} (hf : fX5_bringPastOf x1 σ = some τ) : KM l yX5_bringPastOf cX5_bringPastOf 2 none 3 71 [.ref 0, .int x1] σ none τ := by
  refine KM.intro (ow := 5) (by decide +kernel) rfl (Nat.le_of_ble_eq_true rfl) (fun V hm => ?_)
  show V 0 [some (.ref 0), some (.int x1)] [] σ
  have h := hm.bd
  unfold fX5_bringPastOf at hf
  refine h.run (o := [kd 0 = 5, kd 0 = 5, kd 1 = 0]) (ls' := [some (.ref 0), some (.int x1)]) (st' := [.int 3, .int x1, .int 1, .ref 10, .ref 3]) (σ' := σ) [(.aload_n 0, 1, 0, 0, 0, 0), (.getfield 26, 3, 0, 0, 5, 3), (.aload_n 0, 1, 0, 0, 0, 0), (.getfield 10, 3, 0, 0, 5, 0), (.getfield 104, 3, 0, 0, 0, 5), (.iconst 1, 1, 1, 0, 0, 0), (.iload_n 1, 1, 0, 0, 0, 0), (.iconst 3, 1, 3, 0, 0, 0)] (pc2 := 14) (by decide +kernel) rfl (And.intro kd_0 (And.intro kd_0 (And.intro kd_1 trivial))) ?_
  obtain ⟨a1, e1, hf⟩ := bR_some hf
  refine h.callV (as := [.int 1, .int x1, .int 3]) (rest := [.ref 3]) (by decide +kernel) lk5_125 cwX4_sumWhere kd_10 (kmX4_sumWhere l kd_10 e1) rfl (Nat.le_of_ble_eq_true rfl) (Nat.le_of_ble_eq_true rfl) (Nat.le_of_ble_eq_true rfl) ?_
  show V 17 [some (.ref 0), some (.int x1)] [.int a1, .ref 3] σ
  refine h.run (o := [kd 3 = 1, kd 0 = 5, kd 0 = 5, kd 1 = 0]) (ls' := [some (.ref 0), some (.int x1)]) (st' := [.int 4, .int x1, .int 1, .ref 10, .ref 3]) (σ' := setI σ 3 11 a1) [(.putfield 276, 3, 0, 0, 1, 11), (.aload_n 0, 1, 0, 0, 0, 0), (.getfield 26, 3, 0, 0, 5, 3), (.aload_n 0, 1, 0, 0, 0, 0), (.getfield 10, 3, 0, 0, 5, 0), (.getfield 104, 3, 0, 0, 0, 5), (.iconst 1, 1, 1, 0, 0, 0), (.iload_n 1, 1, 0, 0, 0, 0), (.iconst 4, 1, 4, 0, 0, 0)] (pc2 := 34) (by decide +kernel) rfl (And.intro kd_3 (And.intro kd_0 (And.intro kd_0 (And.intro kd_1 trivial)))) ?_
  obtain ⟨a2, e2, hf⟩ := bR_some hf
  refine h.callV (as := [.int 1, .int x1, .int 4]) (rest := [.ref 3]) (by decide +kernel) lk5_125 cwX4_sumWhere kd_10 (kmX4_sumWhere l kd_10 e2) rfl (Nat.le_of_ble_eq_true rfl) (Nat.le_of_ble_eq_true rfl) (Nat.le_of_ble_eq_true rfl) ?_
  show V 37 [some (.ref 0), some (.int x1)] [.int a2, .ref 3] (setI σ 3 11 a1)
  refine h.run (o := [kd 3 = 1]) (ls' := [some (.ref 0), some (.int x1)]) (st' := []) (σ' := setI (setI σ 3 11 a1) 3 12 a2) [(.putfield 279, 3, 0, 0, 1, 12)] (pc2 := 40) (by decide +kernel) rfl (And.intro kd_3 trivial) ?_
  obtain rfl := Option.some.inj hf
  exact hm.vret (by decide +kernel)
