def fL_law_575 (xs : Nat → Int32) (L : Nat) (kt_23 : Int32 → ST → Option Int32) (x4 : Int32) (σ : ST) : Option Int32 :=
  gd (inb (x4 + 1) L) <|
  gd (inb (x4 + 2) L) <|
  bI (fX5_sends (xs (x4 + 1).toNatClampNeg) (xs (x4 + 2).toNatClampNeg) σ) fun a3 σ3 =>
  gd (inb (x4 + 1) L) <|
  gd (inb (x4 + 2) L) <|
  bI (fX6_sends (xs (x4 + 1).toNatClampNeg) (xs (x4 + 2).toNatClampNeg) σ3) fun a6 σ6 =>
  if a3 = a6 then
    fL_law_1483 xs L kt_23 x4 σ6
  else
    some 0
set_option maxHeartbeats 4000000 in
theorem wL_law_575 {l : Launch} {xs : Nat → Int32} {L n : Nat} {V : Nat → Nat → Nat → List (Option Value) → List Value → ST → Prop} {kt_23 : Int32 → ST → Option Int32} {x4 : Int32} {σ : ST} {c ns : Nat} (hm : BL l xs L V) (hkt : ∀ (c ns : Nat), c + n ≤ 601024 → ns + 6 * n ≤ 7293034 → ∀ (x4 : Int32) (σ : ST), kt_23 x4 σ = some 1 → V c ns 23 [some (.ref 68), some (.ref 0), some (.ref 36), some (.ref 67), some (.int x4), none, none, none] [] σ) (hc : c + (n + 0) ≤ 601024) (hs : ns + 6 * (n + 0) ≤ 7293034) (hf : fL_law_575 xs L kt_23 x4 σ = some 1) : V c ns 575 [some (.ref 68), some (.ref 0), some (.ref 36), some (.ref 67), some (.int x4), none, none, none] [] σ := by
  unfold fL_law_575 at hf
  have h := hm.bd (c := c) (n := ns) (by omega) (by omega)
  refine h.run (o := []) (ls' := [some (.ref 68), some (.ref 0), some (.ref 36), some (.ref 67), some (.int x4), none, none, none]) (st' := [.int (x4 + 1), .ref 68, .ref 0]) (σ' := σ) [(.aload_n 1, 1, 0, 0, 0, 0), (.aload_n 0, 1, 0, 0, 0, 0), (.iload 4, 2, 0, 0, 0, 0), (.iconst 1, 1, 1, 0, 0, 0), (.iadd, 1, 0, 0, 0, 0)] (pc2 := 581) (by decide +kernel) rfl trivial ?_
  obtain ⟨g1, hf⟩ := gd_some hf
  refine hm.sld g1 (show decode cL_law 581 = .ok (.iaload, 1) by decide +kernel) ?_
  show V c ns 582 [some (.ref 68), some (.ref 0), some (.ref 36), some (.ref 67), some (.int x4), none, none, none] [.int (xs (x4 + 1).toNatClampNeg), .ref 0] σ
  refine h.run (o := []) (ls' := [some (.ref 68), some (.ref 0), some (.ref 36), some (.ref 67), some (.int x4), none, none, none]) (st' := [.int (x4 + 2), .ref 68, .int (xs (x4 + 1).toNatClampNeg), .ref 0]) (σ' := σ) [(.aload_n 0, 1, 0, 0, 0, 0), (.iload 4, 2, 0, 0, 0, 0), (.iconst 2, 1, 2, 0, 0, 0), (.iadd, 1, 0, 0, 0, 0)] (pc2 := 587) (by decide +kernel) rfl trivial ?_
  obtain ⟨g2, hf⟩ := gd_some hf
  refine hm.sld g2 (show decode cL_law 587 = .ok (.iaload, 1) by decide +kernel) ?_
  show V c ns 588 [some (.ref 68), some (.ref 0), some (.ref 36), some (.ref 67), some (.int x4), none, none, none] [.int (xs (x4 + 2).toNatClampNeg), .int (xs (x4 + 1).toNatClampNeg), .ref 0] σ
  obtain ⟨a3, σ3, e3, hf⟩ := bI_some hf
  refine h.callV (as := [.int (xs (x4 + 1).toNatClampNeg), .int (xs (x4 + 2).toNatClampNeg)]) (rest := []) (by decide +kernel) lk7_69 cwX5_sends kd_0 (kmX5_sends l e3) rfl (Nat.le_of_ble_eq_true rfl) (Nat.le_of_ble_eq_true rfl) (Nat.le_of_ble_eq_true rfl) ?_
  show V c ns 591 [some (.ref 68), some (.ref 0), some (.ref 36), some (.ref 67), some (.int x4), none, none, none] [.int a3] σ3
  refine h.run (o := []) (ls' := [some (.ref 68), some (.ref 0), some (.ref 36), some (.ref 67), some (.int x4), none, none, none]) (st' := [.int (x4 + 1), .ref 68, .ref 36, .int a3]) (σ' := σ3) [(.aload_n 2, 1, 0, 0, 0, 0), (.aload_n 0, 1, 0, 0, 0, 0), (.iload 4, 2, 0, 0, 0, 0), (.iconst 1, 1, 1, 0, 0, 0), (.iadd, 1, 0, 0, 0, 0)] (pc2 := 597) (by decide +kernel) rfl trivial ?_
  obtain ⟨g4, hf⟩ := gd_some hf
  refine hm.sld g4 (show decode cL_law 597 = .ok (.iaload, 1) by decide +kernel) ?_
  show V c ns 598 [some (.ref 68), some (.ref 0), some (.ref 36), some (.ref 67), some (.int x4), none, none, none] [.int (xs (x4 + 1).toNatClampNeg), .ref 36, .int a3] σ3
  refine h.run (o := []) (ls' := [some (.ref 68), some (.ref 0), some (.ref 36), some (.ref 67), some (.int x4), none, none, none]) (st' := [.int (x4 + 2), .ref 68, .int (xs (x4 + 1).toNatClampNeg), .ref 36, .int a3]) (σ' := σ3) [(.aload_n 0, 1, 0, 0, 0, 0), (.iload 4, 2, 0, 0, 0, 0), (.iconst 2, 1, 2, 0, 0, 0), (.iadd, 1, 0, 0, 0, 0)] (pc2 := 603) (by decide +kernel) rfl trivial ?_
  obtain ⟨g5, hf⟩ := gd_some hf
  refine hm.sld g5 (show decode cL_law 603 = .ok (.iaload, 1) by decide +kernel) ?_
  show V c ns 604 [some (.ref 68), some (.ref 0), some (.ref 36), some (.ref 67), some (.int x4), none, none, none] [.int (xs (x4 + 2).toNatClampNeg), .int (xs (x4 + 1).toNatClampNeg), .ref 36, .int a3] σ3
  obtain ⟨a6, σ6, e6, hf⟩ := bI_some hf
  refine h.callV (as := [.int (xs (x4 + 1).toNatClampNeg), .int (xs (x4 + 2).toNatClampNeg)]) (rest := [.int a3]) (by decide +kernel) lk7_72 cwX6_sends kd_36 (kmX6_sends l e6) rfl (Nat.le_of_ble_eq_true rfl) (Nat.le_of_ble_eq_true rfl) (Nat.le_of_ble_eq_true rfl) ?_
  show V c ns 607 [some (.ref 68), some (.ref 0), some (.ref 36), some (.ref 67), some (.int x4), none, none, none] [.int a6, .int a3] σ6
  refine h.icmp_eq (tgt := 1483) (show decode cL_law 607 = .ok (.if_icmp .eq 876, 3) by decide +kernel) (by decide) (fun c7 => ?_) (fun c7 => ?_)
  · rw [if_pos c7] at hf
    exact wL_law_1483 hm hkt (n := n) (by omega) (by omega) hf
  · rw [if_neg c7] at hf
    show V c ns 610 [some (.ref 68), some (.ref 0), some (.ref 36), some (.ref 67), some (.int x4), none, none, none] [] σ6
    refine h.run (o := []) (ls' := [some (.ref 68), some (.ref 0), some (.ref 36), some (.ref 67), some (.int x4), none, none, none]) (st' := [.int 0]) (σ' := σ6) [(.iconst 0, 1, 0, 0, 0, 0)] (pc2 := 611) (by decide +kernel) rfl trivial ?_
    exact absurd (Option.some.inj hf) (by decide)
def fL_law_669 (xs : Nat → Int32) (L : Nat) (kt_23 : Int32 → ST → Option Int32) (x4 : Int32) (t0 : Int32) (t2 : Int32) (t3 : Int32) (t4 : Int32) (σ : ST) : Option Int32 :=
  bI (fX6_back t2 t3 t4 σ) fun a1 σ1 =>
  if t0 = a1 then
    fL_law_1483 xs L kt_23 x4 σ1
  else
    some 0
set_option maxHeartbeats 4000000 in
theorem wL_law_669 {l : Launch} {xs : Nat → Int32} {L n : Nat} {V : Nat → Nat → Nat → List (Option Value) → List Value → ST → Prop} {kt_23 : Int32 → ST → Option Int32} {x4 : Int32} {t0 : Int32} {t2 : Int32} {t3 : Int32} {t4 : Int32} {σ : ST} {c ns : Nat} (hm : BL l xs L V) (hkt : ∀ (c ns : Nat), c + n ≤ 601024 → ns + 6 * n ≤ 7293034 → ∀ (x4 : Int32) (σ : ST), kt_23 x4 σ = some 1 → V c ns 23 [some (.ref 68), some (.ref 0), some (.ref 36), some (.ref 67), some (.int x4), none, none, none] [] σ) (hc : c + (n + 0) ≤ 601024) (hs : ns + 6 * (n + 0) ≤ 7293034) (hf : fL_law_669 xs L kt_23 x4 t0 t2 t3 t4 σ = some 1) : V c ns 669 [some (.ref 68), some (.ref 0), some (.ref 36), some (.ref 67), some (.int x4), none, none, none] [.int t4, .int t3, .int t2, .ref 36, .int t0] σ := by
  unfold fL_law_669 at hf
  have h := hm.bd (c := c) (n := ns) (by omega) (by omega)
  obtain ⟨a1, σ1, e1, hf⟩ := bI_some hf
  refine h.callV (as := [.int t2, .int t3, .int t4]) (rest := [.int t0]) (by decide +kernel) lk7_76 cwX6_back kd_36 (kmX6_back l e1) rfl (Nat.le_of_ble_eq_true rfl) (Nat.le_of_ble_eq_true rfl) (Nat.le_of_ble_eq_true rfl) ?_
  show V c ns 672 [some (.ref 68), some (.ref 0), some (.ref 36), some (.ref 67), some (.int x4), none, none, none] [.int a1, .int t0] σ1
  refine h.icmp_eq (tgt := 1483) (show decode cL_law 672 = .ok (.if_icmp .eq 811, 3) by decide +kernel) (by decide) (fun c2 => ?_) (fun c2 => ?_)
  · rw [if_pos c2] at hf
    exact wL_law_1483 hm hkt (n := n) (by omega) (by omega) hf
  · rw [if_neg c2] at hf
    show V c ns 675 [some (.ref 68), some (.ref 0), some (.ref 36), some (.ref 67), some (.int x4), none, none, none] [] σ1
    refine h.run (o := []) (ls' := [some (.ref 68), some (.ref 0), some (.ref 36), some (.ref 67), some (.int x4), none, none, none]) (st' := [.int 0]) (σ' := σ1) [(.iconst 0, 1, 0, 0, 0, 0)] (pc2 := 676) (by decide +kernel) rfl trivial ?_
    exact absurd (Option.some.inj hf) (by decide)
def fL_law_639 (xs : Nat → Int32) (L : Nat) (kt_23 : Int32 → ST → Option Int32) (x4 : Int32) (t1 : Int32) (t2 : Int32) (t3 : Int32) (σ : ST) : Option Int32 :=
  bI (fX5_back t1 t2 t3 σ) fun a1 σ1 =>
  gd (inb (x4 + 1) L) <|
  gd (inb (x4 + 2) L) <|
  gd (inb (x4 + 3) L) <|
  if (xs (x4 + 3).toNatClampNeg) = 0 then
    fL_law_669 xs L kt_23 x4 a1 (xs (x4 + 1).toNatClampNeg) (xs (x4 + 2).toNatClampNeg) 0 σ1
  else
    fL_law_669 xs L kt_23 x4 a1 (xs (x4 + 1).toNatClampNeg) (xs (x4 + 2).toNatClampNeg) 1 σ1
set_option maxHeartbeats 4000000 in
theorem wL_law_639 {l : Launch} {xs : Nat → Int32} {L n : Nat} {V : Nat → Nat → Nat → List (Option Value) → List Value → ST → Prop} {kt_23 : Int32 → ST → Option Int32} {x4 : Int32} {t1 : Int32} {t2 : Int32} {t3 : Int32} {σ : ST} {c ns : Nat} (hm : BL l xs L V) (hkt : ∀ (c ns : Nat), c + n ≤ 601024 → ns + 6 * n ≤ 7293034 → ∀ (x4 : Int32) (σ : ST), kt_23 x4 σ = some 1 → V c ns 23 [some (.ref 68), some (.ref 0), some (.ref 36), some (.ref 67), some (.int x4), none, none, none] [] σ) (hc : c + (n + 0) ≤ 601024) (hs : ns + 6 * (n + 0) ≤ 7293034) (hf : fL_law_639 xs L kt_23 x4 t1 t2 t3 σ = some 1) : V c ns 639 [some (.ref 68), some (.ref 0), some (.ref 36), some (.ref 67), some (.int x4), none, none, none] [.int t3, .int t2, .int t1, .ref 0] σ := by
  unfold fL_law_639 at hf
  have h := hm.bd (c := c) (n := ns) (by omega) (by omega)
  obtain ⟨a1, σ1, e1, hf⟩ := bI_some hf
  refine h.callV (as := [.int t1, .int t2, .int t3]) (rest := []) (by decide +kernel) lk7_73 cwX5_back kd_0 (kmX5_back l e1) rfl (Nat.le_of_ble_eq_true rfl) (Nat.le_of_ble_eq_true rfl) (Nat.le_of_ble_eq_true rfl) ?_
  show V c ns 642 [some (.ref 68), some (.ref 0), some (.ref 36), some (.ref 67), some (.int x4), none, none, none] [.int a1] σ1
  refine h.run (o := []) (ls' := [some (.ref 68), some (.ref 0), some (.ref 36), some (.ref 67), some (.int x4), none, none, none]) (st' := [.int (x4 + 1), .ref 68, .ref 36, .int a1]) (σ' := σ1) [(.aload_n 2, 1, 0, 0, 0, 0), (.aload_n 0, 1, 0, 0, 0, 0), (.iload 4, 2, 0, 0, 0, 0), (.iconst 1, 1, 1, 0, 0, 0), (.iadd, 1, 0, 0, 0, 0)] (pc2 := 648) (by decide +kernel) rfl trivial ?_
  obtain ⟨g2, hf⟩ := gd_some hf
  refine hm.sld g2 (show decode cL_law 648 = .ok (.iaload, 1) by decide +kernel) ?_
  show V c ns 649 [some (.ref 68), some (.ref 0), some (.ref 36), some (.ref 67), some (.int x4), none, none, none] [.int (xs (x4 + 1).toNatClampNeg), .ref 36, .int a1] σ1
  refine h.run (o := []) (ls' := [some (.ref 68), some (.ref 0), some (.ref 36), some (.ref 67), some (.int x4), none, none, none]) (st' := [.int (x4 + 2), .ref 68, .int (xs (x4 + 1).toNatClampNeg), .ref 36, .int a1]) (σ' := σ1) [(.aload_n 0, 1, 0, 0, 0, 0), (.iload 4, 2, 0, 0, 0, 0), (.iconst 2, 1, 2, 0, 0, 0), (.iadd, 1, 0, 0, 0, 0)] (pc2 := 654) (by decide +kernel) rfl trivial ?_
  obtain ⟨g3, hf⟩ := gd_some hf
  refine hm.sld g3 (show decode cL_law 654 = .ok (.iaload, 1) by decide +kernel) ?_
  show V c ns 655 [some (.ref 68), some (.ref 0), some (.ref 36), some (.ref 67), some (.int x4), none, none, none] [.int (xs (x4 + 2).toNatClampNeg), .int (xs (x4 + 1).toNatClampNeg), .ref 36, .int a1] σ1
  refine h.run (o := []) (ls' := [some (.ref 68), some (.ref 0), some (.ref 36), some (.ref 67), some (.int x4), none, none, none]) (st' := [.int (x4 + 3), .ref 68, .int (xs (x4 + 2).toNatClampNeg), .int (xs (x4 + 1).toNatClampNeg), .ref 36, .int a1]) (σ' := σ1) [(.aload_n 0, 1, 0, 0, 0, 0), (.iload 4, 2, 0, 0, 0, 0), (.iconst 3, 1, 3, 0, 0, 0), (.iadd, 1, 0, 0, 0, 0)] (pc2 := 660) (by decide +kernel) rfl trivial ?_
  obtain ⟨g4, hf⟩ := gd_some hf
  refine hm.sld g4 (show decode cL_law 660 = .ok (.iaload, 1) by decide +kernel) ?_
  show V c ns 661 [some (.ref 68), some (.ref 0), some (.ref 36), some (.ref 67), some (.int x4), none, none, none] [.int (xs (x4 + 3).toNatClampNeg), .int (xs (x4 + 2).toNatClampNeg), .int (xs (x4 + 1).toNatClampNeg), .ref 36, .int a1] σ1
  refine h.if_eq (tgt := 668) (show decode cL_law 661 = .ok (.ifCond .eq 7, 3) by decide +kernel) (by decide) (fun c5 => ?_) (fun c5 => ?_)
  · rw [if_pos c5] at hf
    refine h.run (o := []) (ls' := [some (.ref 68), some (.ref 0), some (.ref 36), some (.ref 67), some (.int x4), none, none, none]) (st' := [.int 0, .int (xs (x4 + 2).toNatClampNeg), .int (xs (x4 + 1).toNatClampNeg), .ref 36, .int a1]) (σ' := σ1) [(.iconst 0, 1, 0, 0, 0, 0)] (pc2 := 669) (by decide +kernel) rfl trivial ?_
    exact wL_law_669 hm hkt (n := n) (by omega) (by omega) hf
  · rw [if_neg c5] at hf
    show V c ns 664 [some (.ref 68), some (.ref 0), some (.ref 36), some (.ref 67), some (.int x4), none, none, none] [.int (xs (x4 + 2).toNatClampNeg), .int (xs (x4 + 1).toNatClampNeg), .ref 36, .int a1] σ1
    refine h.run (o := []) (ls' := [some (.ref 68), some (.ref 0), some (.ref 36), some (.ref 67), some (.int x4), none, none, none]) (st' := [.int 1, .int (xs (x4 + 2).toNatClampNeg), .int (xs (x4 + 1).toNatClampNeg), .ref 36, .int a1]) (σ' := σ1) [(.iconst 1, 1, 1, 0, 0, 0), (.goto 4, 3, 0, 0, 0, 669)] (pc2 := 669) (by decide +kernel) rfl trivial ?_
    exact wL_law_669 hm hkt (n := n) (by omega) (by omega) hf
def fL_law_612 (xs : Nat → Int32) (L : Nat) (kt_23 : Int32 → ST → Option Int32) (x4 : Int32) (σ : ST) : Option Int32 :=
  gd (inb (x4 + 1) L) <|
  gd (inb (x4 + 2) L) <|
  gd (inb (x4 + 3) L) <|
  if (xs (x4 + 3).toNatClampNeg) = 0 then
    fL_law_639 xs L kt_23 x4 (xs (x4 + 1).toNatClampNeg) (xs (x4 + 2).toNatClampNeg) 0 σ
  else
    fL_law_639 xs L kt_23 x4 (xs (x4 + 1).toNatClampNeg) (xs (x4 + 2).toNatClampNeg) 1 σ
set_option maxHeartbeats 4000000 in
theorem wL_law_612 {l : Launch} {xs : Nat → Int32} {L n : Nat} {V : Nat → Nat → Nat → List (Option Value) → List Value → ST → Prop} {kt_23 : Int32 → ST → Option Int32} {x4 : Int32} {σ : ST} {c ns : Nat} (hm : BL l xs L V) (hkt : ∀ (c ns : Nat), c + n ≤ 601024 → ns + 6 * n ≤ 7293034 → ∀ (x4 : Int32) (σ : ST), kt_23 x4 σ = some 1 → V c ns 23 [some (.ref 68), some (.ref 0), some (.ref 36), some (.ref 67), some (.int x4), none, none, none] [] σ) (hc : c + (n + 0) ≤ 601024) (hs : ns + 6 * (n + 0) ≤ 7293034) (hf : fL_law_612 xs L kt_23 x4 σ = some 1) : V c ns 612 [some (.ref 68), some (.ref 0), some (.ref 36), some (.ref 67), some (.int x4), none, none, none] [] σ := by
  unfold fL_law_612 at hf
  have h := hm.bd (c := c) (n := ns) (by omega) (by omega)
  refine h.run (o := []) (ls' := [some (.ref 68), some (.ref 0), some (.ref 36), some (.ref 67), some (.int x4), none, none, none]) (st' := [.int (x4 + 1), .ref 68, .ref 0]) (σ' := σ) [(.aload_n 1, 1, 0, 0, 0, 0), (.aload_n 0, 1, 0, 0, 0, 0), (.iload 4, 2, 0, 0, 0, 0), (.iconst 1, 1, 1, 0, 0, 0), (.iadd, 1, 0, 0, 0, 0)] (pc2 := 618) (by decide +kernel) rfl trivial ?_
  obtain ⟨g1, hf⟩ := gd_some hf
  refine hm.sld g1 (show decode cL_law 618 = .ok (.iaload, 1) by decide +kernel) ?_
  show V c ns 619 [some (.ref 68), some (.ref 0), some (.ref 36), some (.ref 67), some (.int x4), none, none, none] [.int (xs (x4 + 1).toNatClampNeg), .ref 0] σ
  refine h.run (o := []) (ls' := [some (.ref 68), some (.ref 0), some (.ref 36), some (.ref 67), some (.int x4), none, none, none]) (st' := [.int (x4 + 2), .ref 68, .int (xs (x4 + 1).toNatClampNeg), .ref 0]) (σ' := σ) [(.aload_n 0, 1, 0, 0, 0, 0), (.iload 4, 2, 0, 0, 0, 0), (.iconst 2, 1, 2, 0, 0, 0), (.iadd, 1, 0, 0, 0, 0)] (pc2 := 624) (by decide +kernel) rfl trivial ?_
  obtain ⟨g2, hf⟩ := gd_some hf
  refine hm.sld g2 (show decode cL_law 624 = .ok (.iaload, 1) by decide +kernel) ?_
  show V c ns 625 [some (.ref 68), some (.ref 0), some (.ref 36), some (.ref 67), some (.int x4), none, none, none] [.int (xs (x4 + 2).toNatClampNeg), .int (xs (x4 + 1).toNatClampNeg), .ref 0] σ
  refine h.run (o := []) (ls' := [some (.ref 68), some (.ref 0), some (.ref 36), some (.ref 67), some (.int x4), none, none, none]) (st' := [.int (x4 + 3), .ref 68, .int (xs (x4 + 2).toNatClampNeg), .int (xs (x4 + 1).toNatClampNeg), .ref 0]) (σ' := σ) [(.aload_n 0, 1, 0, 0, 0, 0), (.iload 4, 2, 0, 0, 0, 0), (.iconst 3, 1, 3, 0, 0, 0), (.iadd, 1, 0, 0, 0, 0)] (pc2 := 630) (by decide +kernel) rfl trivial ?_
  obtain ⟨g3, hf⟩ := gd_some hf
  refine hm.sld g3 (show decode cL_law 630 = .ok (.iaload, 1) by decide +kernel) ?_
  show V c ns 631 [some (.ref 68), some (.ref 0), some (.ref 36), some (.ref 67), some (.int x4), none, none, none] [.int (xs (x4 + 3).toNatClampNeg), .int (xs (x4 + 2).toNatClampNeg), .int (xs (x4 + 1).toNatClampNeg), .ref 0] σ
  refine h.if_eq (tgt := 638) (show decode cL_law 631 = .ok (.ifCond .eq 7, 3) by decide +kernel) (by decide) (fun c4 => ?_) (fun c4 => ?_)
  · rw [if_pos c4] at hf
    refine h.run (o := []) (ls' := [some (.ref 68), some (.ref 0), some (.ref 36), some (.ref 67), some (.int x4), none, none, none]) (st' := [.int 0, .int (xs (x4 + 2).toNatClampNeg), .int (xs (x4 + 1).toNatClampNeg), .ref 0]) (σ' := σ) [(.iconst 0, 1, 0, 0, 0, 0)] (pc2 := 639) (by decide +kernel) rfl trivial ?_
    exact wL_law_639 hm hkt (n := n) (by omega) (by omega) hf
  · rw [if_neg c4] at hf
    show V c ns 634 [some (.ref 68), some (.ref 0), some (.ref 36), some (.ref 67), some (.int x4), none, none, none] [.int (xs (x4 + 2).toNatClampNeg), .int (xs (x4 + 1).toNatClampNeg), .ref 0] σ
    refine h.run (o := []) (ls' := [some (.ref 68), some (.ref 0), some (.ref 36), some (.ref 67), some (.int x4), none, none, none]) (st' := [.int 1, .int (xs (x4 + 2).toNatClampNeg), .int (xs (x4 + 1).toNatClampNeg), .ref 0]) (σ' := σ) [(.iconst 1, 1, 1, 0, 0, 0), (.goto 4, 3, 0, 0, 0, 639)] (pc2 := 639) (by decide +kernel) rfl trivial ?_
    exact wL_law_639 hm hkt (n := n) (by omega) (by omega) hf
def fL_law_677 (xs : Nat → Int32) (L : Nat) (kt_23 : Int32 → ST → Option Int32) (x4 : Int32) (σ : ST) : Option Int32 :=
  gd (inb (x4 + 1) L) <|
  gd (inb (x4 + 2) L) <|
  bI (fX5_held (xs (x4 + 1).toNatClampNeg) (xs (x4 + 2).toNatClampNeg) σ) fun a3 σ3 =>
  gd (inb (x4 + 1) L) <|
  gd (inb (x4 + 2) L) <|
  bI (fX6_held (xs (x4 + 1).toNatClampNeg) (xs (x4 + 2).toNatClampNeg) σ3) fun a6 σ6 =>
  if a3 = a6 then
    fL_law_1483 xs L kt_23 x4 σ6
  else
    some 0
set_option maxHeartbeats 4000000 in
theorem wL_law_677 {l : Launch} {xs : Nat → Int32} {L n : Nat} {V : Nat → Nat → Nat → List (Option Value) → List Value → ST → Prop} {kt_23 : Int32 → ST → Option Int32} {x4 : Int32} {σ : ST} {c ns : Nat} (hm : BL l xs L V) (hkt : ∀ (c ns : Nat), c + n ≤ 601024 → ns + 6 * n ≤ 7293034 → ∀ (x4 : Int32) (σ : ST), kt_23 x4 σ = some 1 → V c ns 23 [some (.ref 68), some (.ref 0), some (.ref 36), some (.ref 67), some (.int x4), none, none, none] [] σ) (hc : c + (n + 0) ≤ 601024) (hs : ns + 6 * (n + 0) ≤ 7293034) (hf : fL_law_677 xs L kt_23 x4 σ = some 1) : V c ns 677 [some (.ref 68), some (.ref 0), some (.ref 36), some (.ref 67), some (.int x4), none, none, none] [] σ := by
  unfold fL_law_677 at hf
  have h := hm.bd (c := c) (n := ns) (by omega) (by omega)
  refine h.run (o := []) (ls' := [some (.ref 68), some (.ref 0), some (.ref 36), some (.ref 67), some (.int x4), none, none, none]) (st' := [.int (x4 + 1), .ref 68, .ref 0]) (σ' := σ) [(.aload_n 1, 1, 0, 0, 0, 0), (.aload_n 0, 1, 0, 0, 0, 0), (.iload 4, 2, 0, 0, 0, 0), (.iconst 1, 1, 1, 0, 0, 0), (.iadd, 1, 0, 0, 0, 0)] (pc2 := 683) (by decide +kernel) rfl trivial ?_
  obtain ⟨g1, hf⟩ := gd_some hf
  refine hm.sld g1 (show decode cL_law 683 = .ok (.iaload, 1) by decide +kernel) ?_
  show V c ns 684 [some (.ref 68), some (.ref 0), some (.ref 36), some (.ref 67), some (.int x4), none, none, none] [.int (xs (x4 + 1).toNatClampNeg), .ref 0] σ
  refine h.run (o := []) (ls' := [some (.ref 68), some (.ref 0), some (.ref 36), some (.ref 67), some (.int x4), none, none, none]) (st' := [.int (x4 + 2), .ref 68, .int (xs (x4 + 1).toNatClampNeg), .ref 0]) (σ' := σ) [(.aload_n 0, 1, 0, 0, 0, 0), (.iload 4, 2, 0, 0, 0, 0), (.iconst 2, 1, 2, 0, 0, 0), (.iadd, 1, 0, 0, 0, 0)] (pc2 := 689) (by decide +kernel) rfl trivial ?_
  obtain ⟨g2, hf⟩ := gd_some hf
  refine hm.sld g2 (show decode cL_law 689 = .ok (.iaload, 1) by decide +kernel) ?_
  show V c ns 690 [some (.ref 68), some (.ref 0), some (.ref 36), some (.ref 67), some (.int x4), none, none, none] [.int (xs (x4 + 2).toNatClampNeg), .int (xs (x4 + 1).toNatClampNeg), .ref 0] σ
  obtain ⟨a3, σ3, e3, hf⟩ := bI_some hf
  refine h.callV (as := [.int (xs (x4 + 1).toNatClampNeg), .int (xs (x4 + 2).toNatClampNeg)]) (rest := []) (by decide +kernel) lk7_77 cwX5_held kd_0 (kmX5_held l e3) rfl (Nat.le_of_ble_eq_true rfl) (Nat.le_of_ble_eq_true rfl) (Nat.le_of_ble_eq_true rfl) ?_
  show V c ns 693 [some (.ref 68), some (.ref 0), some (.ref 36), some (.ref 67), some (.int x4), none, none, none] [.int a3] σ3
  refine h.run (o := []) (ls' := [some (.ref 68), some (.ref 0), some (.ref 36), some (.ref 67), some (.int x4), none, none, none]) (st' := [.int (x4 + 1), .ref 68, .ref 36, .int a3]) (σ' := σ3) [(.aload_n 2, 1, 0, 0, 0, 0), (.aload_n 0, 1, 0, 0, 0, 0), (.iload 4, 2, 0, 0, 0, 0), (.iconst 1, 1, 1, 0, 0, 0), (.iadd, 1, 0, 0, 0, 0)] (pc2 := 699) (by decide +kernel) rfl trivial ?_
  obtain ⟨g4, hf⟩ := gd_some hf
  refine hm.sld g4 (show decode cL_law 699 = .ok (.iaload, 1) by decide +kernel) ?_
  show V c ns 700 [some (.ref 68), some (.ref 0), some (.ref 36), some (.ref 67), some (.int x4), none, none, none] [.int (xs (x4 + 1).toNatClampNeg), .ref 36, .int a3] σ3
  refine h.run (o := []) (ls' := [some (.ref 68), some (.ref 0), some (.ref 36), some (.ref 67), some (.int x4), none, none, none]) (st' := [.int (x4 + 2), .ref 68, .int (xs (x4 + 1).toNatClampNeg), .ref 36, .int a3]) (σ' := σ3) [(.aload_n 0, 1, 0, 0, 0, 0), (.iload 4, 2, 0, 0, 0, 0), (.iconst 2, 1, 2, 0, 0, 0), (.iadd, 1, 0, 0, 0, 0)] (pc2 := 705) (by decide +kernel) rfl trivial ?_
  obtain ⟨g5, hf⟩ := gd_some hf
  refine hm.sld g5 (show decode cL_law 705 = .ok (.iaload, 1) by decide +kernel) ?_
  show V c ns 706 [some (.ref 68), some (.ref 0), some (.ref 36), some (.ref 67), some (.int x4), none, none, none] [.int (xs (x4 + 2).toNatClampNeg), .int (xs (x4 + 1).toNatClampNeg), .ref 36, .int a3] σ3
  obtain ⟨a6, σ6, e6, hf⟩ := bI_some hf
  refine h.callV (as := [.int (xs (x4 + 1).toNatClampNeg), .int (xs (x4 + 2).toNatClampNeg)]) (rest := [.int a3]) (by decide +kernel) lk7_80 cwX6_held kd_36 (kmX6_held l e6) rfl (Nat.le_of_ble_eq_true rfl) (Nat.le_of_ble_eq_true rfl) (Nat.le_of_ble_eq_true rfl) ?_
  show V c ns 709 [some (.ref 68), some (.ref 0), some (.ref 36), some (.ref 67), some (.int x4), none, none, none] [.int a6, .int a3] σ6
  refine h.icmp_eq (tgt := 1483) (show decode cL_law 709 = .ok (.if_icmp .eq 774, 3) by decide +kernel) (by decide) (fun c7 => ?_) (fun c7 => ?_)
  · rw [if_pos c7] at hf
    exact wL_law_1483 hm hkt (n := n) (by omega) (by omega) hf
  · rw [if_neg c7] at hf
    show V c ns 712 [some (.ref 68), some (.ref 0), some (.ref 36), some (.ref 67), some (.int x4), none, none, none] [] σ6
    refine h.run (o := []) (ls' := [some (.ref 68), some (.ref 0), some (.ref 36), some (.ref 67), some (.int x4), none, none, none]) (st' := [.int 0]) (σ' := σ6) [(.iconst 0, 1, 0, 0, 0, 0)] (pc2 := 713) (by decide +kernel) rfl trivial ?_
    exact absurd (Option.some.inj hf) (by decide)
def fL_law_714 (xs : Nat → Int32) (L : Nat) (kt_23 : Int32 → ST → Option Int32) (x4 : Int32) (σ : ST) : Option Int32 :=
  gd (inb (x4 + 1) L) <|
  gd (inb (x4 + 2) L) <|
  bI (fX5_trust (xs (x4 + 1).toNatClampNeg) (xs (x4 + 2).toNatClampNeg) σ) fun a3 σ3 =>
  gd (inb (x4 + 1) L) <|
  gd (inb (x4 + 2) L) <|
  bI (fX6_trust (xs (x4 + 1).toNatClampNeg) (xs (x4 + 2).toNatClampNeg) σ3) fun a6 σ6 =>
  if a3 = a6 then
    fL_law_1483 xs L kt_23 x4 σ6
  else
    some 0
set_option maxHeartbeats 4000000 in
theorem wL_law_714 {l : Launch} {xs : Nat → Int32} {L n : Nat} {V : Nat → Nat → Nat → List (Option Value) → List Value → ST → Prop} {kt_23 : Int32 → ST → Option Int32} {x4 : Int32} {σ : ST} {c ns : Nat} (hm : BL l xs L V) (hkt : ∀ (c ns : Nat), c + n ≤ 601024 → ns + 6 * n ≤ 7293034 → ∀ (x4 : Int32) (σ : ST), kt_23 x4 σ = some 1 → V c ns 23 [some (.ref 68), some (.ref 0), some (.ref 36), some (.ref 67), some (.int x4), none, none, none] [] σ) (hc : c + (n + 0) ≤ 601024) (hs : ns + 6 * (n + 0) ≤ 7293034) (hf : fL_law_714 xs L kt_23 x4 σ = some 1) : V c ns 714 [some (.ref 68), some (.ref 0), some (.ref 36), some (.ref 67), some (.int x4), none, none, none] [] σ := by
  unfold fL_law_714 at hf
  have h := hm.bd (c := c) (n := ns) (by omega) (by omega)
  refine h.run (o := []) (ls' := [some (.ref 68), some (.ref 0), some (.ref 36), some (.ref 67), some (.int x4), none, none, none]) (st' := [.int (x4 + 1), .ref 68, .ref 0]) (σ' := σ) [(.aload_n 1, 1, 0, 0, 0, 0), (.aload_n 0, 1, 0, 0, 0, 0), (.iload 4, 2, 0, 0, 0, 0), (.iconst 1, 1, 1, 0, 0, 0), (.iadd, 1, 0, 0, 0, 0)] (pc2 := 720) (by decide +kernel) rfl trivial ?_
  obtain ⟨g1, hf⟩ := gd_some hf
  refine hm.sld g1 (show decode cL_law 720 = .ok (.iaload, 1) by decide +kernel) ?_
  show V c ns 721 [some (.ref 68), some (.ref 0), some (.ref 36), some (.ref 67), some (.int x4), none, none, none] [.int (xs (x4 + 1).toNatClampNeg), .ref 0] σ
  refine h.run (o := []) (ls' := [some (.ref 68), some (.ref 0), some (.ref 36), some (.ref 67), some (.int x4), none, none, none]) (st' := [.int (x4 + 2), .ref 68, .int (xs (x4 + 1).toNatClampNeg), .ref 0]) (σ' := σ) [(.aload_n 0, 1, 0, 0, 0, 0), (.iload 4, 2, 0, 0, 0, 0), (.iconst 2, 1, 2, 0, 0, 0), (.iadd, 1, 0, 0, 0, 0)] (pc2 := 726) (by decide +kernel) rfl trivial ?_
  obtain ⟨g2, hf⟩ := gd_some hf
  refine hm.sld g2 (show decode cL_law 726 = .ok (.iaload, 1) by decide +kernel) ?_
  show V c ns 727 [some (.ref 68), some (.ref 0), some (.ref 36), some (.ref 67), some (.int x4), none, none, none] [.int (xs (x4 + 2).toNatClampNeg), .int (xs (x4 + 1).toNatClampNeg), .ref 0] σ
  obtain ⟨a3, σ3, e3, hf⟩ := bI_some hf
  refine h.callV (as := [.int (xs (x4 + 1).toNatClampNeg), .int (xs (x4 + 2).toNatClampNeg)]) (rest := []) (by decide +kernel) lk7_81 cwX5_trust kd_0 (kmX5_trust l e3) rfl (Nat.le_of_ble_eq_true rfl) (Nat.le_of_ble_eq_true rfl) (Nat.le_of_ble_eq_true rfl) ?_
  show V c ns 730 [some (.ref 68), some (.ref 0), some (.ref 36), some (.ref 67), some (.int x4), none, none, none] [.int a3] σ3
  refine h.run (o := []) (ls' := [some (.ref 68), some (.ref 0), some (.ref 36), some (.ref 67), some (.int x4), none, none, none]) (st' := [.int (x4 + 1), .ref 68, .ref 36, .int a3]) (σ' := σ3) [(.aload_n 2, 1, 0, 0, 0, 0), (.aload_n 0, 1, 0, 0, 0, 0), (.iload 4, 2, 0, 0, 0, 0), (.iconst 1, 1, 1, 0, 0, 0), (.iadd, 1, 0, 0, 0, 0)] (pc2 := 736) (by decide +kernel) rfl trivial ?_
  obtain ⟨g4, hf⟩ := gd_some hf
  refine hm.sld g4 (show decode cL_law 736 = .ok (.iaload, 1) by decide +kernel) ?_
  show V c ns 737 [some (.ref 68), some (.ref 0), some (.ref 36), some (.ref 67), some (.int x4), none, none, none] [.int (xs (x4 + 1).toNatClampNeg), .ref 36, .int a3] σ3
  refine h.run (o := []) (ls' := [some (.ref 68), some (.ref 0), some (.ref 36), some (.ref 67), some (.int x4), none, none, none]) (st' := [.int (x4 + 2), .ref 68, .int (xs (x4 + 1).toNatClampNeg), .ref 36, .int a3]) (σ' := σ3) [(.aload_n 0, 1, 0, 0, 0, 0), (.iload 4, 2, 0, 0, 0, 0), (.iconst 2, 1, 2, 0, 0, 0), (.iadd, 1, 0, 0, 0, 0)] (pc2 := 742) (by decide +kernel) rfl trivial ?_
  obtain ⟨g5, hf⟩ := gd_some hf
  refine hm.sld g5 (show decode cL_law 742 = .ok (.iaload, 1) by decide +kernel) ?_
  show V c ns 743 [some (.ref 68), some (.ref 0), some (.ref 36), some (.ref 67), some (.int x4), none, none, none] [.int (xs (x4 + 2).toNatClampNeg), .int (xs (x4 + 1).toNatClampNeg), .ref 36, .int a3] σ3
  obtain ⟨a6, σ6, e6, hf⟩ := bI_some hf
  refine h.callV (as := [.int (xs (x4 + 1).toNatClampNeg), .int (xs (x4 + 2).toNatClampNeg)]) (rest := [.int a3]) (by decide +kernel) lk7_84 cwX6_trust kd_36 (kmX6_trust l e6) rfl (Nat.le_of_ble_eq_true rfl) (Nat.le_of_ble_eq_true rfl) (Nat.le_of_ble_eq_true rfl) ?_
  show V c ns 746 [some (.ref 68), some (.ref 0), some (.ref 36), some (.ref 67), some (.int x4), none, none, none] [.int a6, .int a3] σ6
  refine h.icmp_eq (tgt := 1483) (show decode cL_law 746 = .ok (.if_icmp .eq 737, 3) by decide +kernel) (by decide) (fun c7 => ?_) (fun c7 => ?_)
  · rw [if_pos c7] at hf
    exact wL_law_1483 hm hkt (n := n) (by omega) (by omega) hf
  · rw [if_neg c7] at hf
    show V c ns 749 [some (.ref 68), some (.ref 0), some (.ref 36), some (.ref 67), some (.int x4), none, none, none] [] σ6
    refine h.run (o := []) (ls' := [some (.ref 68), some (.ref 0), some (.ref 36), some (.ref 67), some (.int x4), none, none, none]) (st' := [.int 0]) (σ' := σ6) [(.iconst 0, 1, 0, 0, 0, 0)] (pc2 := 750) (by decide +kernel) rfl trivial ?_
    exact absurd (Option.some.inj hf) (by decide)
def fL_law_751 (xs : Nat → Int32) (L : Nat) (kt_23 : Int32 → ST → Option Int32) (x4 : Int32) (σ : ST) : Option Int32 :=
  gd (inb (x4 + 1) L) <|
  bI (fX5_giving (xs (x4 + 1).toNatClampNeg) σ) fun a2 σ2 =>
  gd (inb (x4 + 1) L) <|
  bI (fX6_giving (xs (x4 + 1).toNatClampNeg) σ2) fun a4 σ4 =>
  if a2 = a4 then
    fL_law_1483 xs L kt_23 x4 σ4
  else
    some 0
set_option maxHeartbeats 4000000 in
theorem wL_law_751 {l : Launch} {xs : Nat → Int32} {L n : Nat} {V : Nat → Nat → Nat → List (Option Value) → List Value → ST → Prop} {kt_23 : Int32 → ST → Option Int32} {x4 : Int32} {σ : ST} {c ns : Nat} (hm : BL l xs L V) (hkt : ∀ (c ns : Nat), c + n ≤ 601024 → ns + 6 * n ≤ 7293034 → ∀ (x4 : Int32) (σ : ST), kt_23 x4 σ = some 1 → V c ns 23 [some (.ref 68), some (.ref 0), some (.ref 36), some (.ref 67), some (.int x4), none, none, none] [] σ) (hc : c + (n + 0) ≤ 601024) (hs : ns + 6 * (n + 0) ≤ 7293034) (hf : fL_law_751 xs L kt_23 x4 σ = some 1) : V c ns 751 [some (.ref 68), some (.ref 0), some (.ref 36), some (.ref 67), some (.int x4), none, none, none] [] σ := by
  unfold fL_law_751 at hf
  have h := hm.bd (c := c) (n := ns) (by omega) (by omega)
  refine h.run (o := []) (ls' := [some (.ref 68), some (.ref 0), some (.ref 36), some (.ref 67), some (.int x4), none, none, none]) (st' := [.int (x4 + 1), .ref 68, .ref 0]) (σ' := σ) [(.aload_n 1, 1, 0, 0, 0, 0), (.aload_n 0, 1, 0, 0, 0, 0), (.iload 4, 2, 0, 0, 0, 0), (.iconst 1, 1, 1, 0, 0, 0), (.iadd, 1, 0, 0, 0, 0)] (pc2 := 757) (by decide +kernel) rfl trivial ?_
  obtain ⟨g1, hf⟩ := gd_some hf
  refine hm.sld g1 (show decode cL_law 757 = .ok (.iaload, 1) by decide +kernel) ?_
  show V c ns 758 [some (.ref 68), some (.ref 0), some (.ref 36), some (.ref 67), some (.int x4), none, none, none] [.int (xs (x4 + 1).toNatClampNeg), .ref 0] σ
  obtain ⟨a2, σ2, e2, hf⟩ := bI_some hf
  refine h.callV (as := [.int (xs (x4 + 1).toNatClampNeg)]) (rest := []) (by decide +kernel) lk7_85 cwX5_giving kd_0 (kmX5_giving l e2) rfl (Nat.le_of_ble_eq_true rfl) (Nat.le_of_ble_eq_true rfl) (Nat.le_of_ble_eq_true rfl) ?_
  show V c ns 761 [some (.ref 68), some (.ref 0), some (.ref 36), some (.ref 67), some (.int x4), none, none, none] [.int a2] σ2
  refine h.run (o := []) (ls' := [some (.ref 68), some (.ref 0), some (.ref 36), some (.ref 67), some (.int x4), none, none, none]) (st' := [.int (x4 + 1), .ref 68, .ref 36, .int a2]) (σ' := σ2) [(.aload_n 2, 1, 0, 0, 0, 0), (.aload_n 0, 1, 0, 0, 0, 0), (.iload 4, 2, 0, 0, 0, 0), (.iconst 1, 1, 1, 0, 0, 0), (.iadd, 1, 0, 0, 0, 0)] (pc2 := 767) (by decide +kernel) rfl trivial ?_
  obtain ⟨g3, hf⟩ := gd_some hf
  refine hm.sld g3 (show decode cL_law 767 = .ok (.iaload, 1) by decide +kernel) ?_
  show V c ns 768 [some (.ref 68), some (.ref 0), some (.ref 36), some (.ref 67), some (.int x4), none, none, none] [.int (xs (x4 + 1).toNatClampNeg), .ref 36, .int a2] σ2
  obtain ⟨a4, σ4, e4, hf⟩ := bI_some hf
  refine h.callV (as := [.int (xs (x4 + 1).toNatClampNeg)]) (rest := [.int a2]) (by decide +kernel) lk7_88 cwX6_giving kd_36 (kmX6_giving l e4) rfl (Nat.le_of_ble_eq_true rfl) (Nat.le_of_ble_eq_true rfl) (Nat.le_of_ble_eq_true rfl) ?_
  show V c ns 771 [some (.ref 68), some (.ref 0), some (.ref 36), some (.ref 67), some (.int x4), none, none, none] [.int a4, .int a2] σ4
  refine h.icmp_eq (tgt := 1483) (show decode cL_law 771 = .ok (.if_icmp .eq 712, 3) by decide +kernel) (by decide) (fun c5 => ?_) (fun c5 => ?_)
  · rw [if_pos c5] at hf
    exact wL_law_1483 hm hkt (n := n) (by omega) (by omega) hf
  · rw [if_neg c5] at hf
    show V c ns 774 [some (.ref 68), some (.ref 0), some (.ref 36), some (.ref 67), some (.int x4), none, none, none] [] σ4
    refine h.run (o := []) (ls' := [some (.ref 68), some (.ref 0), some (.ref 36), some (.ref 67), some (.int x4), none, none, none]) (st' := [.int 0]) (σ' := σ4) [(.iconst 0, 1, 0, 0, 0, 0)] (pc2 := 775) (by decide +kernel) rfl trivial ?_
    exact absurd (Option.some.inj hf) (by decide)
def fL_law_776 (xs : Nat → Int32) (L : Nat) (kt_23 : Int32 → ST → Option Int32) (x4 : Int32) (σ : ST) : Option Int32 :=
  gd (inb (x4 + 1) L) <|
  gd (inb (x4 + 2) L) <|
  bI (fX5_best (xs (x4 + 1).toNatClampNeg) (xs (x4 + 2).toNatClampNeg) σ) fun a3 σ3 =>
  gd (inb (x4 + 1) L) <|
  gd (inb (x4 + 2) L) <|
  bI (fX6_best (xs (x4 + 1).toNatClampNeg) (xs (x4 + 2).toNatClampNeg) σ3) fun a6 σ6 =>
  if a3 = a6 then
    fL_law_1483 xs L kt_23 x4 σ6
  else
    some 0
set_option maxHeartbeats 4000000 in
theorem wL_law_776 {l : Launch} {xs : Nat → Int32} {L n : Nat} {V : Nat → Nat → Nat → List (Option Value) → List Value → ST → Prop} {kt_23 : Int32 → ST → Option Int32} {x4 : Int32} {σ : ST} {c ns : Nat} (hm : BL l xs L V) (hkt : ∀ (c ns : Nat), c + n ≤ 601024 → ns + 6 * n ≤ 7293034 → ∀ (x4 : Int32) (σ : ST), kt_23 x4 σ = some 1 → V c ns 23 [some (.ref 68), some (.ref 0), some (.ref 36), some (.ref 67), some (.int x4), none, none, none] [] σ) (hc : c + (n + 0) ≤ 601024) (hs : ns + 6 * (n + 0) ≤ 7293034) (hf : fL_law_776 xs L kt_23 x4 σ = some 1) : V c ns 776 [some (.ref 68), some (.ref 0), some (.ref 36), some (.ref 67), some (.int x4), none, none, none] [] σ := by
  unfold fL_law_776 at hf
  have h := hm.bd (c := c) (n := ns) (by omega) (by omega)
  refine h.run (o := []) (ls' := [some (.ref 68), some (.ref 0), some (.ref 36), some (.ref 67), some (.int x4), none, none, none]) (st' := [.int (x4 + 1), .ref 68, .ref 0]) (σ' := σ) [(.aload_n 1, 1, 0, 0, 0, 0), (.aload_n 0, 1, 0, 0, 0, 0), (.iload 4, 2, 0, 0, 0, 0), (.iconst 1, 1, 1, 0, 0, 0), (.iadd, 1, 0, 0, 0, 0)] (pc2 := 782) (by decide +kernel) rfl trivial ?_
  obtain ⟨g1, hf⟩ := gd_some hf
  refine hm.sld g1 (show decode cL_law 782 = .ok (.iaload, 1) by decide +kernel) ?_
  show V c ns 783 [some (.ref 68), some (.ref 0), some (.ref 36), some (.ref 67), some (.int x4), none, none, none] [.int (xs (x4 + 1).toNatClampNeg), .ref 0] σ
  refine h.run (o := []) (ls' := [some (.ref 68), some (.ref 0), some (.ref 36), some (.ref 67), some (.int x4), none, none, none]) (st' := [.int (x4 + 2), .ref 68, .int (xs (x4 + 1).toNatClampNeg), .ref 0]) (σ' := σ) [(.aload_n 0, 1, 0, 0, 0, 0), (.iload 4, 2, 0, 0, 0, 0), (.iconst 2, 1, 2, 0, 0, 0), (.iadd, 1, 0, 0, 0, 0)] (pc2 := 788) (by decide +kernel) rfl trivial ?_
  obtain ⟨g2, hf⟩ := gd_some hf
  refine hm.sld g2 (show decode cL_law 788 = .ok (.iaload, 1) by decide +kernel) ?_
  show V c ns 789 [some (.ref 68), some (.ref 0), some (.ref 36), some (.ref 67), some (.int x4), none, none, none] [.int (xs (x4 + 2).toNatClampNeg), .int (xs (x4 + 1).toNatClampNeg), .ref 0] σ
  obtain ⟨a3, σ3, e3, hf⟩ := bI_some hf
  refine h.callV (as := [.int (xs (x4 + 1).toNatClampNeg), .int (xs (x4 + 2).toNatClampNeg)]) (rest := []) (by decide +kernel) lk7_89 cwX5_best kd_0 (kmX5_best l e3) rfl (Nat.le_of_ble_eq_true rfl) (Nat.le_of_ble_eq_true rfl) (Nat.le_of_ble_eq_true rfl) ?_
  show V c ns 792 [some (.ref 68), some (.ref 0), some (.ref 36), some (.ref 67), some (.int x4), none, none, none] [.int a3] σ3
  refine h.run (o := []) (ls' := [some (.ref 68), some (.ref 0), some (.ref 36), some (.ref 67), some (.int x4), none, none, none]) (st' := [.int (x4 + 1), .ref 68, .ref 36, .int a3]) (σ' := σ3) [(.aload_n 2, 1, 0, 0, 0, 0), (.aload_n 0, 1, 0, 0, 0, 0), (.iload 4, 2, 0, 0, 0, 0), (.iconst 1, 1, 1, 0, 0, 0), (.iadd, 1, 0, 0, 0, 0)] (pc2 := 798) (by decide +kernel) rfl trivial ?_
  obtain ⟨g4, hf⟩ := gd_some hf
  refine hm.sld g4 (show decode cL_law 798 = .ok (.iaload, 1) by decide +kernel) ?_
  show V c ns 799 [some (.ref 68), some (.ref 0), some (.ref 36), some (.ref 67), some (.int x4), none, none, none] [.int (xs (x4 + 1).toNatClampNeg), .ref 36, .int a3] σ3
  refine h.run (o := []) (ls' := [some (.ref 68), some (.ref 0), some (.ref 36), some (.ref 67), some (.int x4), none, none, none]) (st' := [.int (x4 + 2), .ref 68, .int (xs (x4 + 1).toNatClampNeg), .ref 36, .int a3]) (σ' := σ3) [(.aload_n 0, 1, 0, 0, 0, 0), (.iload 4, 2, 0, 0, 0, 0), (.iconst 2, 1, 2, 0, 0, 0), (.iadd, 1, 0, 0, 0, 0)] (pc2 := 804) (by decide +kernel) rfl trivial ?_
  obtain ⟨g5, hf⟩ := gd_some hf
  refine hm.sld g5 (show decode cL_law 804 = .ok (.iaload, 1) by decide +kernel) ?_
  show V c ns 805 [some (.ref 68), some (.ref 0), some (.ref 36), some (.ref 67), some (.int x4), none, none, none] [.int (xs (x4 + 2).toNatClampNeg), .int (xs (x4 + 1).toNatClampNeg), .ref 36, .int a3] σ3
  obtain ⟨a6, σ6, e6, hf⟩ := bI_some hf
  refine h.callV (as := [.int (xs (x4 + 1).toNatClampNeg), .int (xs (x4 + 2).toNatClampNeg)]) (rest := [.int a3]) (by decide +kernel) lk7_92 cwX6_best kd_36 (kmX6_best l e6) rfl (Nat.le_of_ble_eq_true rfl) (Nat.le_of_ble_eq_true rfl) (Nat.le_of_ble_eq_true rfl) ?_
  show V c ns 808 [some (.ref 68), some (.ref 0), some (.ref 36), some (.ref 67), some (.int x4), none, none, none] [.int a6, .int a3] σ6
  refine h.icmp_eq (tgt := 1483) (show decode cL_law 808 = .ok (.if_icmp .eq 675, 3) by decide +kernel) (by decide) (fun c7 => ?_) (fun c7 => ?_)
  · rw [if_pos c7] at hf
    exact wL_law_1483 hm hkt (n := n) (by omega) (by omega) hf
  · rw [if_neg c7] at hf
    show V c ns 811 [some (.ref 68), some (.ref 0), some (.ref 36), some (.ref 67), some (.int x4), none, none, none] [] σ6
    refine h.run (o := []) (ls' := [some (.ref 68), some (.ref 0), some (.ref 36), some (.ref 67), some (.int x4), none, none, none]) (st' := [.int 0]) (σ' := σ6) [(.iconst 0, 1, 0, 0, 0, 0)] (pc2 := 812) (by decide +kernel) rfl trivial ?_
    exact absurd (Option.some.inj hf) (by decide)
def fL_law_813 (xs : Nat → Int32) (L : Nat) (kt_23 : Int32 → ST → Option Int32) (x4 : Int32) (σ : ST) : Option Int32 :=
  gd (inb (x4 + 1) L) <|
  gd (inb (x4 + 2) L) <|
  gd (inb (x4 + 3) L) <|
  bI (fX5_worth (xs (x4 + 1).toNatClampNeg) (xs (x4 + 2).toNatClampNeg) (xs (x4 + 3).toNatClampNeg) σ) fun a4 σ4 =>
  gd (inb (x4 + 1) L) <|
  gd (inb (x4 + 2) L) <|
  gd (inb (x4 + 3) L) <|
  bI (fX6_worth (xs (x4 + 1).toNatClampNeg) (xs (x4 + 2).toNatClampNeg) (xs (x4 + 3).toNatClampNeg) σ4) fun a8 σ8 =>
  if a4 = a8 then
    fL_law_1483 xs L kt_23 x4 σ8
  else
    some 0
set_option maxHeartbeats 4000000 in
theorem wL_law_813 {l : Launch} {xs : Nat → Int32} {L n : Nat} {V : Nat → Nat → Nat → List (Option Value) → List Value → ST → Prop} {kt_23 : Int32 → ST → Option Int32} {x4 : Int32} {σ : ST} {c ns : Nat} (hm : BL l xs L V) (hkt : ∀ (c ns : Nat), c + n ≤ 601024 → ns + 6 * n ≤ 7293034 → ∀ (x4 : Int32) (σ : ST), kt_23 x4 σ = some 1 → V c ns 23 [some (.ref 68), some (.ref 0), some (.ref 36), some (.ref 67), some (.int x4), none, none, none] [] σ) (hc : c + (n + 0) ≤ 601024) (hs : ns + 6 * (n + 0) ≤ 7293034) (hf : fL_law_813 xs L kt_23 x4 σ = some 1) : V c ns 813 [some (.ref 68), some (.ref 0), some (.ref 36), some (.ref 67), some (.int x4), none, none, none] [] σ := by
  unfold fL_law_813 at hf
  have h := hm.bd (c := c) (n := ns) (by omega) (by omega)
  refine h.run (o := []) (ls' := [some (.ref 68), some (.ref 0), some (.ref 36), some (.ref 67), some (.int x4), none, none, none]) (st' := [.int (x4 + 1), .ref 68, .ref 0]) (σ' := σ) [(.aload_n 1, 1, 0, 0, 0, 0), (.aload_n 0, 1, 0, 0, 0, 0), (.iload 4, 2, 0, 0, 0, 0), (.iconst 1, 1, 1, 0, 0, 0), (.iadd, 1, 0, 0, 0, 0)] (pc2 := 819) (by decide +kernel) rfl trivial ?_
  obtain ⟨g1, hf⟩ := gd_some hf
  refine hm.sld g1 (show decode cL_law 819 = .ok (.iaload, 1) by decide +kernel) ?_
  show V c ns 820 [some (.ref 68), some (.ref 0), some (.ref 36), some (.ref 67), some (.int x4), none, none, none] [.int (xs (x4 + 1).toNatClampNeg), .ref 0] σ
  refine h.run (o := []) (ls' := [some (.ref 68), some (.ref 0), some (.ref 36), some (.ref 67), some (.int x4), none, none, none]) (st' := [.int (x4 + 2), .ref 68, .int (xs (x4 + 1).toNatClampNeg), .ref 0]) (σ' := σ) [(.aload_n 0, 1, 0, 0, 0, 0), (.iload 4, 2, 0, 0, 0, 0), (.iconst 2, 1, 2, 0, 0, 0), (.iadd, 1, 0, 0, 0, 0)] (pc2 := 825) (by decide +kernel) rfl trivial ?_
  obtain ⟨g2, hf⟩ := gd_some hf
  refine hm.sld g2 (show decode cL_law 825 = .ok (.iaload, 1) by decide +kernel) ?_
  show V c ns 826 [some (.ref 68), some (.ref 0), some (.ref 36), some (.ref 67), some (.int x4), none, none, none] [.int (xs (x4 + 2).toNatClampNeg), .int (xs (x4 + 1).toNatClampNeg), .ref 0] σ
  refine h.run (o := []) (ls' := [some (.ref 68), some (.ref 0), some (.ref 36), some (.ref 67), some (.int x4), none, none, none]) (st' := [.int (x4 + 3), .ref 68, .int (xs (x4 + 2).toNatClampNeg), .int (xs (x4 + 1).toNatClampNeg), .ref 0]) (σ' := σ) [(.aload_n 0, 1, 0, 0, 0, 0), (.iload 4, 2, 0, 0, 0, 0), (.iconst 3, 1, 3, 0, 0, 0), (.iadd, 1, 0, 0, 0, 0)] (pc2 := 831) (by decide +kernel) rfl trivial ?_
  obtain ⟨g3, hf⟩ := gd_some hf
  refine hm.sld g3 (show decode cL_law 831 = .ok (.iaload, 1) by decide +kernel) ?_
  show V c ns 832 [some (.ref 68), some (.ref 0), some (.ref 36), some (.ref 67), some (.int x4), none, none, none] [.int (xs (x4 + 3).toNatClampNeg), .int (xs (x4 + 2).toNatClampNeg), .int (xs (x4 + 1).toNatClampNeg), .ref 0] σ
  obtain ⟨a4, σ4, e4, hf⟩ := bI_some hf
  refine h.callV (as := [.int (xs (x4 + 1).toNatClampNeg), .int (xs (x4 + 2).toNatClampNeg), .int (xs (x4 + 3).toNatClampNeg)]) (rest := []) (by decide +kernel) lk7_93 cwX5_worth kd_0 (kmX5_worth l e4) rfl (Nat.le_of_ble_eq_true rfl) (Nat.le_of_ble_eq_true rfl) (Nat.le_of_ble_eq_true rfl) ?_
  show V c ns 835 [some (.ref 68), some (.ref 0), some (.ref 36), some (.ref 67), some (.int x4), none, none, none] [.int a4] σ4
  refine h.run (o := []) (ls' := [some (.ref 68), some (.ref 0), some (.ref 36), some (.ref 67), some (.int x4), none, none, none]) (st' := [.int (x4 + 1), .ref 68, .ref 36, .int a4]) (σ' := σ4) [(.aload_n 2, 1, 0, 0, 0, 0), (.aload_n 0, 1, 0, 0, 0, 0), (.iload 4, 2, 0, 0, 0, 0), (.iconst 1, 1, 1, 0, 0, 0), (.iadd, 1, 0, 0, 0, 0)] (pc2 := 841) (by decide +kernel) rfl trivial ?_
  obtain ⟨g5, hf⟩ := gd_some hf
  refine hm.sld g5 (show decode cL_law 841 = .ok (.iaload, 1) by decide +kernel) ?_
  show V c ns 842 [some (.ref 68), some (.ref 0), some (.ref 36), some (.ref 67), some (.int x4), none, none, none] [.int (xs (x4 + 1).toNatClampNeg), .ref 36, .int a4] σ4
  refine h.run (o := []) (ls' := [some (.ref 68), some (.ref 0), some (.ref 36), some (.ref 67), some (.int x4), none, none, none]) (st' := [.int (x4 + 2), .ref 68, .int (xs (x4 + 1).toNatClampNeg), .ref 36, .int a4]) (σ' := σ4) [(.aload_n 0, 1, 0, 0, 0, 0), (.iload 4, 2, 0, 0, 0, 0), (.iconst 2, 1, 2, 0, 0, 0), (.iadd, 1, 0, 0, 0, 0)] (pc2 := 847) (by decide +kernel) rfl trivial ?_
  obtain ⟨g6, hf⟩ := gd_some hf
  refine hm.sld g6 (show decode cL_law 847 = .ok (.iaload, 1) by decide +kernel) ?_
  show V c ns 848 [some (.ref 68), some (.ref 0), some (.ref 36), some (.ref 67), some (.int x4), none, none, none] [.int (xs (x4 + 2).toNatClampNeg), .int (xs (x4 + 1).toNatClampNeg), .ref 36, .int a4] σ4
  refine h.run (o := []) (ls' := [some (.ref 68), some (.ref 0), some (.ref 36), some (.ref 67), some (.int x4), none, none, none]) (st' := [.int (x4 + 3), .ref 68, .int (xs (x4 + 2).toNatClampNeg), .int (xs (x4 + 1).toNatClampNeg), .ref 36, .int a4]) (σ' := σ4) [(.aload_n 0, 1, 0, 0, 0, 0), (.iload 4, 2, 0, 0, 0, 0), (.iconst 3, 1, 3, 0, 0, 0), (.iadd, 1, 0, 0, 0, 0)] (pc2 := 853) (by decide +kernel) rfl trivial ?_
  obtain ⟨g7, hf⟩ := gd_some hf
  refine hm.sld g7 (show decode cL_law 853 = .ok (.iaload, 1) by decide +kernel) ?_
  show V c ns 854 [some (.ref 68), some (.ref 0), some (.ref 36), some (.ref 67), some (.int x4), none, none, none] [.int (xs (x4 + 3).toNatClampNeg), .int (xs (x4 + 2).toNatClampNeg), .int (xs (x4 + 1).toNatClampNeg), .ref 36, .int a4] σ4
  obtain ⟨a8, σ8, e8, hf⟩ := bI_some hf
  refine h.callV (as := [.int (xs (x4 + 1).toNatClampNeg), .int (xs (x4 + 2).toNatClampNeg), .int (xs (x4 + 3).toNatClampNeg)]) (rest := [.int a4]) (by decide +kernel) lk7_97 cwX6_worth kd_36 (kmX6_worth l e8) rfl (Nat.le_of_ble_eq_true rfl) (Nat.le_of_ble_eq_true rfl) (Nat.le_of_ble_eq_true rfl) ?_
  show V c ns 857 [some (.ref 68), some (.ref 0), some (.ref 36), some (.ref 67), some (.int x4), none, none, none] [.int a8, .int a4] σ8
  refine h.icmp_eq (tgt := 1483) (show decode cL_law 857 = .ok (.if_icmp .eq 626, 3) by decide +kernel) (by decide) (fun c9 => ?_) (fun c9 => ?_)
  · rw [if_pos c9] at hf
    exact wL_law_1483 hm hkt (n := n) (by omega) (by omega) hf
  · rw [if_neg c9] at hf
    show V c ns 860 [some (.ref 68), some (.ref 0), some (.ref 36), some (.ref 67), some (.int x4), none, none, none] [] σ8
    refine h.run (o := []) (ls' := [some (.ref 68), some (.ref 0), some (.ref 36), some (.ref 67), some (.int x4), none, none, none]) (st' := [.int 0]) (σ' := σ8) [(.iconst 0, 1, 0, 0, 0, 0)] (pc2 := 861) (by decide +kernel) rfl trivial ?_
    exact absurd (Option.some.inj hf) (by decide)
def fL_law_862 (xs : Nat → Int32) (L : Nat) (kt_23 : Int32 → ST → Option Int32) (x4 : Int32) (σ : ST) : Option Int32 :=
  gd (inb (x4 + 1) L) <|
  gd (inb (x4 + 2) L) <|
  gd (inb (x4 + 3) L) <|
  bI (fX5_promise (xs (x4 + 1).toNatClampNeg) (xs (x4 + 2).toNatClampNeg) (xs (x4 + 3).toNatClampNeg) σ) fun a4 σ4 =>
  gd (inb (x4 + 1) L) <|
  gd (inb (x4 + 2) L) <|
  gd (inb (x4 + 3) L) <|
  bI (fX6_promise (xs (x4 + 1).toNatClampNeg) (xs (x4 + 2).toNatClampNeg) (xs (x4 + 3).toNatClampNeg) σ4) fun a8 σ8 =>
  if a4 = a8 then
    fL_law_1483 xs L kt_23 x4 σ8
  else
    some 0
set_option maxHeartbeats 4000000 in
theorem wL_law_862 {l : Launch} {xs : Nat → Int32} {L n : Nat} {V : Nat → Nat → Nat → List (Option Value) → List Value → ST → Prop} {kt_23 : Int32 → ST → Option Int32} {x4 : Int32} {σ : ST} {c ns : Nat} (hm : BL l xs L V) (hkt : ∀ (c ns : Nat), c + n ≤ 601024 → ns + 6 * n ≤ 7293034 → ∀ (x4 : Int32) (σ : ST), kt_23 x4 σ = some 1 → V c ns 23 [some (.ref 68), some (.ref 0), some (.ref 36), some (.ref 67), some (.int x4), none, none, none] [] σ) (hc : c + (n + 0) ≤ 601024) (hs : ns + 6 * (n + 0) ≤ 7293034) (hf : fL_law_862 xs L kt_23 x4 σ = some 1) : V c ns 862 [some (.ref 68), some (.ref 0), some (.ref 36), some (.ref 67), some (.int x4), none, none, none] [] σ := by
  unfold fL_law_862 at hf
  have h := hm.bd (c := c) (n := ns) (by omega) (by omega)
  refine h.run (o := []) (ls' := [some (.ref 68), some (.ref 0), some (.ref 36), some (.ref 67), some (.int x4), none, none, none]) (st' := [.int (x4 + 1), .ref 68, .ref 0]) (σ' := σ) [(.aload_n 1, 1, 0, 0, 0, 0), (.aload_n 0, 1, 0, 0, 0, 0), (.iload 4, 2, 0, 0, 0, 0), (.iconst 1, 1, 1, 0, 0, 0), (.iadd, 1, 0, 0, 0, 0)] (pc2 := 868) (by decide +kernel) rfl trivial ?_
  obtain ⟨g1, hf⟩ := gd_some hf
  refine hm.sld g1 (show decode cL_law 868 = .ok (.iaload, 1) by decide +kernel) ?_
  show V c ns 869 [some (.ref 68), some (.ref 0), some (.ref 36), some (.ref 67), some (.int x4), none, none, none] [.int (xs (x4 + 1).toNatClampNeg), .ref 0] σ
  refine h.run (o := []) (ls' := [some (.ref 68), some (.ref 0), some (.ref 36), some (.ref 67), some (.int x4), none, none, none]) (st' := [.int (x4 + 2), .ref 68, .int (xs (x4 + 1).toNatClampNeg), .ref 0]) (σ' := σ) [(.aload_n 0, 1, 0, 0, 0, 0), (.iload 4, 2, 0, 0, 0, 0), (.iconst 2, 1, 2, 0, 0, 0), (.iadd, 1, 0, 0, 0, 0)] (pc2 := 874) (by decide +kernel) rfl trivial ?_
  obtain ⟨g2, hf⟩ := gd_some hf
  refine hm.sld g2 (show decode cL_law 874 = .ok (.iaload, 1) by decide +kernel) ?_
  show V c ns 875 [some (.ref 68), some (.ref 0), some (.ref 36), some (.ref 67), some (.int x4), none, none, none] [.int (xs (x4 + 2).toNatClampNeg), .int (xs (x4 + 1).toNatClampNeg), .ref 0] σ
  refine h.run (o := []) (ls' := [some (.ref 68), some (.ref 0), some (.ref 36), some (.ref 67), some (.int x4), none, none, none]) (st' := [.int (x4 + 3), .ref 68, .int (xs (x4 + 2).toNatClampNeg), .int (xs (x4 + 1).toNatClampNeg), .ref 0]) (σ' := σ) [(.aload_n 0, 1, 0, 0, 0, 0), (.iload 4, 2, 0, 0, 0, 0), (.iconst 3, 1, 3, 0, 0, 0), (.iadd, 1, 0, 0, 0, 0)] (pc2 := 880) (by decide +kernel) rfl trivial ?_
  obtain ⟨g3, hf⟩ := gd_some hf
  refine hm.sld g3 (show decode cL_law 880 = .ok (.iaload, 1) by decide +kernel) ?_
  show V c ns 881 [some (.ref 68), some (.ref 0), some (.ref 36), some (.ref 67), some (.int x4), none, none, none] [.int (xs (x4 + 3).toNatClampNeg), .int (xs (x4 + 2).toNatClampNeg), .int (xs (x4 + 1).toNatClampNeg), .ref 0] σ
  obtain ⟨a4, σ4, e4, hf⟩ := bI_some hf
  refine h.callV (as := [.int (xs (x4 + 1).toNatClampNeg), .int (xs (x4 + 2).toNatClampNeg), .int (xs (x4 + 3).toNatClampNeg)]) (rest := []) (by decide +kernel) lk7_98 cwX5_promise kd_0 (kmX5_promise l e4) rfl (Nat.le_of_ble_eq_true rfl) (Nat.le_of_ble_eq_true rfl) (Nat.le_of_ble_eq_true rfl) ?_
  show V c ns 884 [some (.ref 68), some (.ref 0), some (.ref 36), some (.ref 67), some (.int x4), none, none, none] [.int a4] σ4
  refine h.run (o := []) (ls' := [some (.ref 68), some (.ref 0), some (.ref 36), some (.ref 67), some (.int x4), none, none, none]) (st' := [.int (x4 + 1), .ref 68, .ref 36, .int a4]) (σ' := σ4) [(.aload_n 2, 1, 0, 0, 0, 0), (.aload_n 0, 1, 0, 0, 0, 0), (.iload 4, 2, 0, 0, 0, 0), (.iconst 1, 1, 1, 0, 0, 0), (.iadd, 1, 0, 0, 0, 0)] (pc2 := 890) (by decide +kernel) rfl trivial ?_
  obtain ⟨g5, hf⟩ := gd_some hf
  refine hm.sld g5 (show decode cL_law 890 = .ok (.iaload, 1) by decide +kernel) ?_
  show V c ns 891 [some (.ref 68), some (.ref 0), some (.ref 36), some (.ref 67), some (.int x4), none, none, none] [.int (xs (x4 + 1).toNatClampNeg), .ref 36, .int a4] σ4
  refine h.run (o := []) (ls' := [some (.ref 68), some (.ref 0), some (.ref 36), some (.ref 67), some (.int x4), none, none, none]) (st' := [.int (x4 + 2), .ref 68, .int (xs (x4 + 1).toNatClampNeg), .ref 36, .int a4]) (σ' := σ4) [(.aload_n 0, 1, 0, 0, 0, 0), (.iload 4, 2, 0, 0, 0, 0), (.iconst 2, 1, 2, 0, 0, 0), (.iadd, 1, 0, 0, 0, 0)] (pc2 := 896) (by decide +kernel) rfl trivial ?_
  obtain ⟨g6, hf⟩ := gd_some hf
  refine hm.sld g6 (show decode cL_law 896 = .ok (.iaload, 1) by decide +kernel) ?_
  show V c ns 897 [some (.ref 68), some (.ref 0), some (.ref 36), some (.ref 67), some (.int x4), none, none, none] [.int (xs (x4 + 2).toNatClampNeg), .int (xs (x4 + 1).toNatClampNeg), .ref 36, .int a4] σ4
  refine h.run (o := []) (ls' := [some (.ref 68), some (.ref 0), some (.ref 36), some (.ref 67), some (.int x4), none, none, none]) (st' := [.int (x4 + 3), .ref 68, .int (xs (x4 + 2).toNatClampNeg), .int (xs (x4 + 1).toNatClampNeg), .ref 36, .int a4]) (σ' := σ4) [(.aload_n 0, 1, 0, 0, 0, 0), (.iload 4, 2, 0, 0, 0, 0), (.iconst 3, 1, 3, 0, 0, 0), (.iadd, 1, 0, 0, 0, 0)] (pc2 := 902) (by decide +kernel) rfl trivial ?_
  obtain ⟨g7, hf⟩ := gd_some hf
  refine hm.sld g7 (show decode cL_law 902 = .ok (.iaload, 1) by decide +kernel) ?_
  show V c ns 903 [some (.ref 68), some (.ref 0), some (.ref 36), some (.ref 67), some (.int x4), none, none, none] [.int (xs (x4 + 3).toNatClampNeg), .int (xs (x4 + 2).toNatClampNeg), .int (xs (x4 + 1).toNatClampNeg), .ref 36, .int a4] σ4
  obtain ⟨a8, σ8, e8, hf⟩ := bI_some hf
  refine h.callV (as := [.int (xs (x4 + 1).toNatClampNeg), .int (xs (x4 + 2).toNatClampNeg), .int (xs (x4 + 3).toNatClampNeg)]) (rest := [.int a4]) (by decide +kernel) lk7_101 cwX6_promise kd_36 (kmX6_promise l e8) rfl (Nat.le_of_ble_eq_true rfl) (Nat.le_of_ble_eq_true rfl) (Nat.le_of_ble_eq_true rfl) ?_
  show V c ns 906 [some (.ref 68), some (.ref 0), some (.ref 36), some (.ref 67), some (.int x4), none, none, none] [.int a8, .int a4] σ8
  refine h.icmp_eq (tgt := 1483) (show decode cL_law 906 = .ok (.if_icmp .eq 577, 3) by decide +kernel) (by decide) (fun c9 => ?_) (fun c9 => ?_)
  · rw [if_pos c9] at hf
    exact wL_law_1483 hm hkt (n := n) (by omega) (by omega) hf
  · rw [if_neg c9] at hf
    show V c ns 909 [some (.ref 68), some (.ref 0), some (.ref 36), some (.ref 67), some (.int x4), none, none, none] [] σ8
    refine h.run (o := []) (ls' := [some (.ref 68), some (.ref 0), some (.ref 36), some (.ref 67), some (.int x4), none, none, none]) (st' := [.int 0]) (σ' := σ8) [(.iconst 0, 1, 0, 0, 0, 0)] (pc2 := 910) (by decide +kernel) rfl trivial ?_
    exact absurd (Option.some.inj hf) (by decide)
def fL_law_911 (xs : Nat → Int32) (L : Nat) (kt_23 : Int32 → ST → Option Int32) (x4 : Int32) (σ : ST) : Option Int32 :=
  gd (inb (x4 + 1) L) <|
  gd (inb (x4 + 2) L) <|
  gd (inb (x4 + 3) L) <|
  bR (fX5_lastTurn (xs (x4 + 1).toNatClampNeg) (xs (x4 + 2).toNatClampNeg) (xs (x4 + 3).toNatClampNeg) σ) fun a4 =>
  gd (inb (x4 + 1) L) <|
  gd (inb (x4 + 2) L) <|
  gd (inb (x4 + 3) L) <|
  bI (fX6_lastTurn (xs (x4 + 1).toNatClampNeg) (xs (x4 + 2).toNatClampNeg) (xs (x4 + 3).toNatClampNeg) σ) fun a8 σ8 =>
  if a4 = a8 then
    fL_law_1483 xs L kt_23 x4 σ8
  else
    some 0
set_option maxHeartbeats 4000000 in
theorem wL_law_911 {l : Launch} {xs : Nat → Int32} {L n : Nat} {V : Nat → Nat → Nat → List (Option Value) → List Value → ST → Prop} {kt_23 : Int32 → ST → Option Int32} {x4 : Int32} {σ : ST} {c ns : Nat} (hm : BL l xs L V) (hkt : ∀ (c ns : Nat), c + n ≤ 601024 → ns + 6 * n ≤ 7293034 → ∀ (x4 : Int32) (σ : ST), kt_23 x4 σ = some 1 → V c ns 23 [some (.ref 68), some (.ref 0), some (.ref 36), some (.ref 67), some (.int x4), none, none, none] [] σ) (hc : c + (n + 0) ≤ 601024) (hs : ns + 6 * (n + 0) ≤ 7293034) (hf : fL_law_911 xs L kt_23 x4 σ = some 1) : V c ns 911 [some (.ref 68), some (.ref 0), some (.ref 36), some (.ref 67), some (.int x4), none, none, none] [] σ := by
  unfold fL_law_911 at hf
  have h := hm.bd (c := c) (n := ns) (by omega) (by omega)
  refine h.run (o := []) (ls' := [some (.ref 68), some (.ref 0), some (.ref 36), some (.ref 67), some (.int x4), none, none, none]) (st' := [.int (x4 + 1), .ref 68, .ref 0]) (σ' := σ) [(.aload_n 1, 1, 0, 0, 0, 0), (.aload_n 0, 1, 0, 0, 0, 0), (.iload 4, 2, 0, 0, 0, 0), (.iconst 1, 1, 1, 0, 0, 0), (.iadd, 1, 0, 0, 0, 0)] (pc2 := 917) (by decide +kernel) rfl trivial ?_
  obtain ⟨g1, hf⟩ := gd_some hf
  refine hm.sld g1 (show decode cL_law 917 = .ok (.iaload, 1) by decide +kernel) ?_
  show V c ns 918 [some (.ref 68), some (.ref 0), some (.ref 36), some (.ref 67), some (.int x4), none, none, none] [.int (xs (x4 + 1).toNatClampNeg), .ref 0] σ
  refine h.run (o := []) (ls' := [some (.ref 68), some (.ref 0), some (.ref 36), some (.ref 67), some (.int x4), none, none, none]) (st' := [.int (x4 + 2), .ref 68, .int (xs (x4 + 1).toNatClampNeg), .ref 0]) (σ' := σ) [(.aload_n 0, 1, 0, 0, 0, 0), (.iload 4, 2, 0, 0, 0, 0), (.iconst 2, 1, 2, 0, 0, 0), (.iadd, 1, 0, 0, 0, 0)] (pc2 := 923) (by decide +kernel) rfl trivial ?_
  obtain ⟨g2, hf⟩ := gd_some hf
  refine hm.sld g2 (show decode cL_law 923 = .ok (.iaload, 1) by decide +kernel) ?_
  show V c ns 924 [some (.ref 68), some (.ref 0), some (.ref 36), some (.ref 67), some (.int x4), none, none, none] [.int (xs (x4 + 2).toNatClampNeg), .int (xs (x4 + 1).toNatClampNeg), .ref 0] σ
  refine h.run (o := []) (ls' := [some (.ref 68), some (.ref 0), some (.ref 36), some (.ref 67), some (.int x4), none, none, none]) (st' := [.int (x4 + 3), .ref 68, .int (xs (x4 + 2).toNatClampNeg), .int (xs (x4 + 1).toNatClampNeg), .ref 0]) (σ' := σ) [(.aload_n 0, 1, 0, 0, 0, 0), (.iload 4, 2, 0, 0, 0, 0), (.iconst 3, 1, 3, 0, 0, 0), (.iadd, 1, 0, 0, 0, 0)] (pc2 := 929) (by decide +kernel) rfl trivial ?_
  obtain ⟨g3, hf⟩ := gd_some hf
  refine hm.sld g3 (show decode cL_law 929 = .ok (.iaload, 1) by decide +kernel) ?_
  show V c ns 930 [some (.ref 68), some (.ref 0), some (.ref 36), some (.ref 67), some (.int x4), none, none, none] [.int (xs (x4 + 3).toNatClampNeg), .int (xs (x4 + 2).toNatClampNeg), .int (xs (x4 + 1).toNatClampNeg), .ref 0] σ
  obtain ⟨a4, e4, hf⟩ := bR_some hf
  refine h.callV (as := [.int (xs (x4 + 1).toNatClampNeg), .int (xs (x4 + 2).toNatClampNeg), .int (xs (x4 + 3).toNatClampNeg)]) (rest := []) (by decide +kernel) lk7_102 cwX5_lastTurn kd_0 (kmX5_lastTurn l e4) rfl (Nat.le_of_ble_eq_true rfl) (Nat.le_of_ble_eq_true rfl) (Nat.le_of_ble_eq_true rfl) ?_
  show V c ns 933 [some (.ref 68), some (.ref 0), some (.ref 36), some (.ref 67), some (.int x4), none, none, none] [.int a4] σ
  refine h.run (o := []) (ls' := [some (.ref 68), some (.ref 0), some (.ref 36), some (.ref 67), some (.int x4), none, none, none]) (st' := [.int (x4 + 1), .ref 68, .ref 36, .int a4]) (σ' := σ) [(.aload_n 2, 1, 0, 0, 0, 0), (.aload_n 0, 1, 0, 0, 0, 0), (.iload 4, 2, 0, 0, 0, 0), (.iconst 1, 1, 1, 0, 0, 0), (.iadd, 1, 0, 0, 0, 0)] (pc2 := 939) (by decide +kernel) rfl trivial ?_
  obtain ⟨g5, hf⟩ := gd_some hf
  refine hm.sld g5 (show decode cL_law 939 = .ok (.iaload, 1) by decide +kernel) ?_
  show V c ns 940 [some (.ref 68), some (.ref 0), some (.ref 36), some (.ref 67), some (.int x4), none, none, none] [.int (xs (x4 + 1).toNatClampNeg), .ref 36, .int a4] σ
  refine h.run (o := []) (ls' := [some (.ref 68), some (.ref 0), some (.ref 36), some (.ref 67), some (.int x4), none, none, none]) (st' := [.int (x4 + 2), .ref 68, .int (xs (x4 + 1).toNatClampNeg), .ref 36, .int a4]) (σ' := σ) [(.aload_n 0, 1, 0, 0, 0, 0), (.iload 4, 2, 0, 0, 0, 0), (.iconst 2, 1, 2, 0, 0, 0), (.iadd, 1, 0, 0, 0, 0)] (pc2 := 945) (by decide +kernel) rfl trivial ?_
  obtain ⟨g6, hf⟩ := gd_some hf
  refine hm.sld g6 (show decode cL_law 945 = .ok (.iaload, 1) by decide +kernel) ?_
  show V c ns 946 [some (.ref 68), some (.ref 0), some (.ref 36), some (.ref 67), some (.int x4), none, none, none] [.int (xs (x4 + 2).toNatClampNeg), .int (xs (x4 + 1).toNatClampNeg), .ref 36, .int a4] σ
  refine h.run (o := []) (ls' := [some (.ref 68), some (.ref 0), some (.ref 36), some (.ref 67), some (.int x4), none, none, none]) (st' := [.int (x4 + 3), .ref 68, .int (xs (x4 + 2).toNatClampNeg), .int (xs (x4 + 1).toNatClampNeg), .ref 36, .int a4]) (σ' := σ) [(.aload_n 0, 1, 0, 0, 0, 0), (.iload 4, 2, 0, 0, 0, 0), (.iconst 3, 1, 3, 0, 0, 0), (.iadd, 1, 0, 0, 0, 0)] (pc2 := 951) (by decide +kernel) rfl trivial ?_
  obtain ⟨g7, hf⟩ := gd_some hf
  refine hm.sld g7 (show decode cL_law 951 = .ok (.iaload, 1) by decide +kernel) ?_
  show V c ns 952 [some (.ref 68), some (.ref 0), some (.ref 36), some (.ref 67), some (.int x4), none, none, none] [.int (xs (x4 + 3).toNatClampNeg), .int (xs (x4 + 2).toNatClampNeg), .int (xs (x4 + 1).toNatClampNeg), .ref 36, .int a4] σ
  obtain ⟨a8, σ8, e8, hf⟩ := bI_some hf
  refine h.callV (as := [.int (xs (x4 + 1).toNatClampNeg), .int (xs (x4 + 2).toNatClampNeg), .int (xs (x4 + 3).toNatClampNeg)]) (rest := [.int a4]) (by decide +kernel) lk7_105 cwX6_lastTurn kd_36 (kmX6_lastTurn l e8) rfl (Nat.le_of_ble_eq_true rfl) (Nat.le_of_ble_eq_true rfl) (Nat.le_of_ble_eq_true rfl) ?_
  show V c ns 955 [some (.ref 68), some (.ref 0), some (.ref 36), some (.ref 67), some (.int x4), none, none, none] [.int a8, .int a4] σ8
  refine h.icmp_eq (tgt := 1483) (show decode cL_law 955 = .ok (.if_icmp .eq 528, 3) by decide +kernel) (by decide) (fun c9 => ?_) (fun c9 => ?_)
  · rw [if_pos c9] at hf
    exact wL_law_1483 hm hkt (n := n) (by omega) (by omega) hf
  · rw [if_neg c9] at hf
    show V c ns 958 [some (.ref 68), some (.ref 0), some (.ref 36), some (.ref 67), some (.int x4), none, none, none] [] σ8
    refine h.run (o := []) (ls' := [some (.ref 68), some (.ref 0), some (.ref 36), some (.ref 67), some (.int x4), none, none, none]) (st' := [.int 0]) (σ' := σ8) [(.iconst 0, 1, 0, 0, 0, 0)] (pc2 := 959) (by decide +kernel) rfl trivial ?_
    exact absurd (Option.some.inj hf) (by decide)
def fL_law_960 (xs : Nat → Int32) (L : Nat) (kt_23 : Int32 → ST → Option Int32) (x4 : Int32) (σ : ST) : Option Int32 :=
  gd (inb (x4 + 1) L) <|
  gd (inb (x4 + 2) L) <|
  bR (fX5_lands (xs (x4 + 1).toNatClampNeg) (xs (x4 + 2).toNatClampNeg) σ) fun a3 =>
  gd (inb (x4 + 1) L) <|
  gd (inb (x4 + 2) L) <|
  bI (fX6_lands (xs (x4 + 1).toNatClampNeg) (xs (x4 + 2).toNatClampNeg) σ) fun a6 σ6 =>
  if a3 = a6 then
    fL_law_1483 xs L kt_23 x4 σ6
  else
    some 0
set_option maxHeartbeats 4000000 in
theorem wL_law_960 {l : Launch} {xs : Nat → Int32} {L n : Nat} {V : Nat → Nat → Nat → List (Option Value) → List Value → ST → Prop} {kt_23 : Int32 → ST → Option Int32} {x4 : Int32} {σ : ST} {c ns : Nat} (hm : BL l xs L V) (hkt : ∀ (c ns : Nat), c + n ≤ 601024 → ns + 6 * n ≤ 7293034 → ∀ (x4 : Int32) (σ : ST), kt_23 x4 σ = some 1 → V c ns 23 [some (.ref 68), some (.ref 0), some (.ref 36), some (.ref 67), some (.int x4), none, none, none] [] σ) (hc : c + (n + 0) ≤ 601024) (hs : ns + 6 * (n + 0) ≤ 7293034) (hf : fL_law_960 xs L kt_23 x4 σ = some 1) : V c ns 960 [some (.ref 68), some (.ref 0), some (.ref 36), some (.ref 67), some (.int x4), none, none, none] [] σ := by
  unfold fL_law_960 at hf
  have h := hm.bd (c := c) (n := ns) (by omega) (by omega)
  refine h.run (o := []) (ls' := [some (.ref 68), some (.ref 0), some (.ref 36), some (.ref 67), some (.int x4), none, none, none]) (st' := [.int (x4 + 1), .ref 68, .ref 0]) (σ' := σ) [(.aload_n 1, 1, 0, 0, 0, 0), (.aload_n 0, 1, 0, 0, 0, 0), (.iload 4, 2, 0, 0, 0, 0), (.iconst 1, 1, 1, 0, 0, 0), (.iadd, 1, 0, 0, 0, 0)] (pc2 := 966) (by decide +kernel) rfl trivial ?_
  obtain ⟨g1, hf⟩ := gd_some hf
  refine hm.sld g1 (show decode cL_law 966 = .ok (.iaload, 1) by decide +kernel) ?_
  show V c ns 967 [some (.ref 68), some (.ref 0), some (.ref 36), some (.ref 67), some (.int x4), none, none, none] [.int (xs (x4 + 1).toNatClampNeg), .ref 0] σ
  refine h.run (o := []) (ls' := [some (.ref 68), some (.ref 0), some (.ref 36), some (.ref 67), some (.int x4), none, none, none]) (st' := [.int (x4 + 2), .ref 68, .int (xs (x4 + 1).toNatClampNeg), .ref 0]) (σ' := σ) [(.aload_n 0, 1, 0, 0, 0, 0), (.iload 4, 2, 0, 0, 0, 0), (.iconst 2, 1, 2, 0, 0, 0), (.iadd, 1, 0, 0, 0, 0)] (pc2 := 972) (by decide +kernel) rfl trivial ?_
  obtain ⟨g2, hf⟩ := gd_some hf
  refine hm.sld g2 (show decode cL_law 972 = .ok (.iaload, 1) by decide +kernel) ?_
  show V c ns 973 [some (.ref 68), some (.ref 0), some (.ref 36), some (.ref 67), some (.int x4), none, none, none] [.int (xs (x4 + 2).toNatClampNeg), .int (xs (x4 + 1).toNatClampNeg), .ref 0] σ
  obtain ⟨a3, e3, hf⟩ := bR_some hf
  refine h.callV (as := [.int (xs (x4 + 1).toNatClampNeg), .int (xs (x4 + 2).toNatClampNeg)]) (rest := []) (by decide +kernel) lk7_106 cwX5_lands kd_0 (kmX5_lands l e3) rfl (Nat.le_of_ble_eq_true rfl) (Nat.le_of_ble_eq_true rfl) (Nat.le_of_ble_eq_true rfl) ?_
  show V c ns 976 [some (.ref 68), some (.ref 0), some (.ref 36), some (.ref 67), some (.int x4), none, none, none] [.int a3] σ
  refine h.run (o := []) (ls' := [some (.ref 68), some (.ref 0), some (.ref 36), some (.ref 67), some (.int x4), none, none, none]) (st' := [.int (x4 + 1), .ref 68, .ref 36, .int a3]) (σ' := σ) [(.aload_n 2, 1, 0, 0, 0, 0), (.aload_n 0, 1, 0, 0, 0, 0), (.iload 4, 2, 0, 0, 0, 0), (.iconst 1, 1, 1, 0, 0, 0), (.iadd, 1, 0, 0, 0, 0)] (pc2 := 982) (by decide +kernel) rfl trivial ?_
  obtain ⟨g4, hf⟩ := gd_some hf
  refine hm.sld g4 (show decode cL_law 982 = .ok (.iaload, 1) by decide +kernel) ?_
  show V c ns 983 [some (.ref 68), some (.ref 0), some (.ref 36), some (.ref 67), some (.int x4), none, none, none] [.int (xs (x4 + 1).toNatClampNeg), .ref 36, .int a3] σ
  refine h.run (o := []) (ls' := [some (.ref 68), some (.ref 0), some (.ref 36), some (.ref 67), some (.int x4), none, none, none]) (st' := [.int (x4 + 2), .ref 68, .int (xs (x4 + 1).toNatClampNeg), .ref 36, .int a3]) (σ' := σ) [(.aload_n 0, 1, 0, 0, 0, 0), (.iload 4, 2, 0, 0, 0, 0), (.iconst 2, 1, 2, 0, 0, 0), (.iadd, 1, 0, 0, 0, 0)] (pc2 := 988) (by decide +kernel) rfl trivial ?_
  obtain ⟨g5, hf⟩ := gd_some hf
  refine hm.sld g5 (show decode cL_law 988 = .ok (.iaload, 1) by decide +kernel) ?_
  show V c ns 989 [some (.ref 68), some (.ref 0), some (.ref 36), some (.ref 67), some (.int x4), none, none, none] [.int (xs (x4 + 2).toNatClampNeg), .int (xs (x4 + 1).toNatClampNeg), .ref 36, .int a3] σ
  obtain ⟨a6, σ6, e6, hf⟩ := bI_some hf
  refine h.callV (as := [.int (xs (x4 + 1).toNatClampNeg), .int (xs (x4 + 2).toNatClampNeg)]) (rest := [.int a3]) (by decide +kernel) lk7_109 cwX6_lands kd_36 (kmX6_lands l e6) rfl (Nat.le_of_ble_eq_true rfl) (Nat.le_of_ble_eq_true rfl) (Nat.le_of_ble_eq_true rfl) ?_
  show V c ns 992 [some (.ref 68), some (.ref 0), some (.ref 36), some (.ref 67), some (.int x4), none, none, none] [.int a6, .int a3] σ6
  refine h.icmp_eq (tgt := 1483) (show decode cL_law 992 = .ok (.if_icmp .eq 491, 3) by decide +kernel) (by decide) (fun c7 => ?_) (fun c7 => ?_)
  · rw [if_pos c7] at hf
    exact wL_law_1483 hm hkt (n := n) (by omega) (by omega) hf
  · rw [if_neg c7] at hf
    show V c ns 995 [some (.ref 68), some (.ref 0), some (.ref 36), some (.ref 67), some (.int x4), none, none, none] [] σ6
    refine h.run (o := []) (ls' := [some (.ref 68), some (.ref 0), some (.ref 36), some (.ref 67), some (.int x4), none, none, none]) (st' := [.int 0]) (σ' := σ6) [(.iconst 0, 1, 0, 0, 0, 0)] (pc2 := 996) (by decide +kernel) rfl trivial ?_
    exact absurd (Option.some.inj hf) (by decide)
def fL_law_997 (xs : Nat → Int32) (L : Nat) (kt_23 : Int32 → ST → Option Int32) (x4 : Int32) (σ : ST) : Option Int32 :=
  gd (inb (x4 + 1) L) <|
  gd (inb (x4 + 2) L) <|
  bR (fX5_words (xs (x4 + 1).toNatClampNeg) (xs (x4 + 2).toNatClampNeg) σ) fun a3 =>
  gd (inb (x4 + 1) L) <|
  gd (inb (x4 + 2) L) <|
  bI (fX6_words (xs (x4 + 1).toNatClampNeg) (xs (x4 + 2).toNatClampNeg) σ) fun a6 σ6 =>
  if a3 = a6 then
    fL_law_1483 xs L kt_23 x4 σ6
  else
    some 0
set_option maxHeartbeats 4000000 in
theorem wL_law_997 {l : Launch} {xs : Nat → Int32} {L n : Nat} {V : Nat → Nat → Nat → List (Option Value) → List Value → ST → Prop} {kt_23 : Int32 → ST → Option Int32} {x4 : Int32} {σ : ST} {c ns : Nat} (hm : BL l xs L V) (hkt : ∀ (c ns : Nat), c + n ≤ 601024 → ns + 6 * n ≤ 7293034 → ∀ (x4 : Int32) (σ : ST), kt_23 x4 σ = some 1 → V c ns 23 [some (.ref 68), some (.ref 0), some (.ref 36), some (.ref 67), some (.int x4), none, none, none] [] σ) (hc : c + (n + 0) ≤ 601024) (hs : ns + 6 * (n + 0) ≤ 7293034) (hf : fL_law_997 xs L kt_23 x4 σ = some 1) : V c ns 997 [some (.ref 68), some (.ref 0), some (.ref 36), some (.ref 67), some (.int x4), none, none, none] [] σ := by
  unfold fL_law_997 at hf
  have h := hm.bd (c := c) (n := ns) (by omega) (by omega)
  refine h.run (o := []) (ls' := [some (.ref 68), some (.ref 0), some (.ref 36), some (.ref 67), some (.int x4), none, none, none]) (st' := [.int (x4 + 1), .ref 68, .ref 0]) (σ' := σ) [(.aload_n 1, 1, 0, 0, 0, 0), (.aload_n 0, 1, 0, 0, 0, 0), (.iload 4, 2, 0, 0, 0, 0), (.iconst 1, 1, 1, 0, 0, 0), (.iadd, 1, 0, 0, 0, 0)] (pc2 := 1003) (by decide +kernel) rfl trivial ?_
  obtain ⟨g1, hf⟩ := gd_some hf
  refine hm.sld g1 (show decode cL_law 1003 = .ok (.iaload, 1) by decide +kernel) ?_
  show V c ns 1004 [some (.ref 68), some (.ref 0), some (.ref 36), some (.ref 67), some (.int x4), none, none, none] [.int (xs (x4 + 1).toNatClampNeg), .ref 0] σ
  refine h.run (o := []) (ls' := [some (.ref 68), some (.ref 0), some (.ref 36), some (.ref 67), some (.int x4), none, none, none]) (st' := [.int (x4 + 2), .ref 68, .int (xs (x4 + 1).toNatClampNeg), .ref 0]) (σ' := σ) [(.aload_n 0, 1, 0, 0, 0, 0), (.iload 4, 2, 0, 0, 0, 0), (.iconst 2, 1, 2, 0, 0, 0), (.iadd, 1, 0, 0, 0, 0)] (pc2 := 1009) (by decide +kernel) rfl trivial ?_
  obtain ⟨g2, hf⟩ := gd_some hf
  refine hm.sld g2 (show decode cL_law 1009 = .ok (.iaload, 1) by decide +kernel) ?_
  show V c ns 1010 [some (.ref 68), some (.ref 0), some (.ref 36), some (.ref 67), some (.int x4), none, none, none] [.int (xs (x4 + 2).toNatClampNeg), .int (xs (x4 + 1).toNatClampNeg), .ref 0] σ
  obtain ⟨a3, e3, hf⟩ := bR_some hf
  refine h.callV (as := [.int (xs (x4 + 1).toNatClampNeg), .int (xs (x4 + 2).toNatClampNeg)]) (rest := []) (by decide +kernel) lk7_110 cwX5_words kd_0 (kmX5_words l e3) rfl (Nat.le_of_ble_eq_true rfl) (Nat.le_of_ble_eq_true rfl) (Nat.le_of_ble_eq_true rfl) ?_
  show V c ns 1013 [some (.ref 68), some (.ref 0), some (.ref 36), some (.ref 67), some (.int x4), none, none, none] [.int a3] σ
  refine h.run (o := []) (ls' := [some (.ref 68), some (.ref 0), some (.ref 36), some (.ref 67), some (.int x4), none, none, none]) (st' := [.int (x4 + 1), .ref 68, .ref 36, .int a3]) (σ' := σ) [(.aload_n 2, 1, 0, 0, 0, 0), (.aload_n 0, 1, 0, 0, 0, 0), (.iload 4, 2, 0, 0, 0, 0), (.iconst 1, 1, 1, 0, 0, 0), (.iadd, 1, 0, 0, 0, 0)] (pc2 := 1019) (by decide +kernel) rfl trivial ?_
  obtain ⟨g4, hf⟩ := gd_some hf
  refine hm.sld g4 (show decode cL_law 1019 = .ok (.iaload, 1) by decide +kernel) ?_
  show V c ns 1020 [some (.ref 68), some (.ref 0), some (.ref 36), some (.ref 67), some (.int x4), none, none, none] [.int (xs (x4 + 1).toNatClampNeg), .ref 36, .int a3] σ
  refine h.run (o := []) (ls' := [some (.ref 68), some (.ref 0), some (.ref 36), some (.ref 67), some (.int x4), none, none, none]) (st' := [.int (x4 + 2), .ref 68, .int (xs (x4 + 1).toNatClampNeg), .ref 36, .int a3]) (σ' := σ) [(.aload_n 0, 1, 0, 0, 0, 0), (.iload 4, 2, 0, 0, 0, 0), (.iconst 2, 1, 2, 0, 0, 0), (.iadd, 1, 0, 0, 0, 0)] (pc2 := 1025) (by decide +kernel) rfl trivial ?_
  obtain ⟨g5, hf⟩ := gd_some hf
  refine hm.sld g5 (show decode cL_law 1025 = .ok (.iaload, 1) by decide +kernel) ?_
  show V c ns 1026 [some (.ref 68), some (.ref 0), some (.ref 36), some (.ref 67), some (.int x4), none, none, none] [.int (xs (x4 + 2).toNatClampNeg), .int (xs (x4 + 1).toNatClampNeg), .ref 36, .int a3] σ
  obtain ⟨a6, σ6, e6, hf⟩ := bI_some hf
  refine h.callV (as := [.int (xs (x4 + 1).toNatClampNeg), .int (xs (x4 + 2).toNatClampNeg)]) (rest := [.int a3]) (by decide +kernel) lk7_113 cwX6_words kd_36 (kmX6_words l e6) rfl (Nat.le_of_ble_eq_true rfl) (Nat.le_of_ble_eq_true rfl) (Nat.le_of_ble_eq_true rfl) ?_
  show V c ns 1029 [some (.ref 68), some (.ref 0), some (.ref 36), some (.ref 67), some (.int x4), none, none, none] [.int a6, .int a3] σ6
  refine h.icmp_eq (tgt := 1483) (show decode cL_law 1029 = .ok (.if_icmp .eq 454, 3) by decide +kernel) (by decide) (fun c7 => ?_) (fun c7 => ?_)
  · rw [if_pos c7] at hf
    exact wL_law_1483 hm hkt (n := n) (by omega) (by omega) hf
  · rw [if_neg c7] at hf
    show V c ns 1032 [some (.ref 68), some (.ref 0), some (.ref 36), some (.ref 67), some (.int x4), none, none, none] [] σ6
    refine h.run (o := []) (ls' := [some (.ref 68), some (.ref 0), some (.ref 36), some (.ref 67), some (.int x4), none, none, none]) (st' := [.int 0]) (σ' := σ6) [(.iconst 0, 1, 0, 0, 0, 0)] (pc2 := 1033) (by decide +kernel) rfl trivial ?_
    exact absurd (Option.some.inj hf) (by decide)
def fL_law_1034 (xs : Nat → Int32) (L : Nat) (kt_23 : Int32 → ST → Option Int32) (x4 : Int32) (σ : ST) : Option Int32 :=
  gd (inb (x4 + 1) L) <|
  gd (inb (x4 + 2) L) <|
  gd (inb (x4 + 3) L) <|
  gd (inb (x4 + 4) L) <|
  bI (fX5_parts (xs (x4 + 1).toNatClampNeg) (xs (x4 + 2).toNatClampNeg) (xs (x4 + 3).toNatClampNeg) (xs (x4 + 4).toNatClampNeg) σ) fun a5 σ5 =>
  gd (inb (x4 + 1) L) <|
  gd (inb (x4 + 2) L) <|
  gd (inb (x4 + 3) L) <|
  gd (inb (x4 + 4) L) <|
  bI (fX6_parts (xs (x4 + 1).toNatClampNeg) (xs (x4 + 2).toNatClampNeg) (xs (x4 + 3).toNatClampNeg) (xs (x4 + 4).toNatClampNeg) σ5) fun a10 σ10 =>
  if a5 = a10 then
    fL_law_1483 xs L kt_23 x4 σ10
  else
    some 0
set_option maxHeartbeats 4000000 in
theorem wL_law_1034 {l : Launch} {xs : Nat → Int32} {L n : Nat} {V : Nat → Nat → Nat → List (Option Value) → List Value → ST → Prop} {kt_23 : Int32 → ST → Option Int32} {x4 : Int32} {σ : ST} {c ns : Nat} (hm : BL l xs L V) (hkt : ∀ (c ns : Nat), c + n ≤ 601024 → ns + 6 * n ≤ 7293034 → ∀ (x4 : Int32) (σ : ST), kt_23 x4 σ = some 1 → V c ns 23 [some (.ref 68), some (.ref 0), some (.ref 36), some (.ref 67), some (.int x4), none, none, none] [] σ) (hc : c + (n + 0) ≤ 601024) (hs : ns + 6 * (n + 0) ≤ 7293034) (hf : fL_law_1034 xs L kt_23 x4 σ = some 1) : V c ns 1034 [some (.ref 68), some (.ref 0), some (.ref 36), some (.ref 67), some (.int x4), none, none, none] [] σ := by
  unfold fL_law_1034 at hf
  have h := hm.bd (c := c) (n := ns) (by omega) (by omega)
  refine h.run (o := []) (ls' := [some (.ref 68), some (.ref 0), some (.ref 36), some (.ref 67), some (.int x4), none, none, none]) (st' := [.int (x4 + 1), .ref 68, .ref 0]) (σ' := σ) [(.aload_n 1, 1, 0, 0, 0, 0), (.aload_n 0, 1, 0, 0, 0, 0), (.iload 4, 2, 0, 0, 0, 0), (.iconst 1, 1, 1, 0, 0, 0), (.iadd, 1, 0, 0, 0, 0)] (pc2 := 1040) (by decide +kernel) rfl trivial ?_
  obtain ⟨g1, hf⟩ := gd_some hf
  refine hm.sld g1 (show decode cL_law 1040 = .ok (.iaload, 1) by decide +kernel) ?_
  show V c ns 1041 [some (.ref 68), some (.ref 0), some (.ref 36), some (.ref 67), some (.int x4), none, none, none] [.int (xs (x4 + 1).toNatClampNeg), .ref 0] σ
  refine h.run (o := []) (ls' := [some (.ref 68), some (.ref 0), some (.ref 36), some (.ref 67), some (.int x4), none, none, none]) (st' := [.int (x4 + 2), .ref 68, .int (xs (x4 + 1).toNatClampNeg), .ref 0]) (σ' := σ) [(.aload_n 0, 1, 0, 0, 0, 0), (.iload 4, 2, 0, 0, 0, 0), (.iconst 2, 1, 2, 0, 0, 0), (.iadd, 1, 0, 0, 0, 0)] (pc2 := 1046) (by decide +kernel) rfl trivial ?_
  obtain ⟨g2, hf⟩ := gd_some hf
  refine hm.sld g2 (show decode cL_law 1046 = .ok (.iaload, 1) by decide +kernel) ?_
  show V c ns 1047 [some (.ref 68), some (.ref 0), some (.ref 36), some (.ref 67), some (.int x4), none, none, none] [.int (xs (x4 + 2).toNatClampNeg), .int (xs (x4 + 1).toNatClampNeg), .ref 0] σ
  refine h.run (o := []) (ls' := [some (.ref 68), some (.ref 0), some (.ref 36), some (.ref 67), some (.int x4), none, none, none]) (st' := [.int (x4 + 3), .ref 68, .int (xs (x4 + 2).toNatClampNeg), .int (xs (x4 + 1).toNatClampNeg), .ref 0]) (σ' := σ) [(.aload_n 0, 1, 0, 0, 0, 0), (.iload 4, 2, 0, 0, 0, 0), (.iconst 3, 1, 3, 0, 0, 0), (.iadd, 1, 0, 0, 0, 0)] (pc2 := 1052) (by decide +kernel) rfl trivial ?_
  obtain ⟨g3, hf⟩ := gd_some hf
  refine hm.sld g3 (show decode cL_law 1052 = .ok (.iaload, 1) by decide +kernel) ?_
  show V c ns 1053 [some (.ref 68), some (.ref 0), some (.ref 36), some (.ref 67), some (.int x4), none, none, none] [.int (xs (x4 + 3).toNatClampNeg), .int (xs (x4 + 2).toNatClampNeg), .int (xs (x4 + 1).toNatClampNeg), .ref 0] σ
  refine h.run (o := []) (ls' := [some (.ref 68), some (.ref 0), some (.ref 36), some (.ref 67), some (.int x4), none, none, none]) (st' := [.int (x4 + 4), .ref 68, .int (xs (x4 + 3).toNatClampNeg), .int (xs (x4 + 2).toNatClampNeg), .int (xs (x4 + 1).toNatClampNeg), .ref 0]) (σ' := σ) [(.aload_n 0, 1, 0, 0, 0, 0), (.iload 4, 2, 0, 0, 0, 0), (.iconst 4, 1, 4, 0, 0, 0), (.iadd, 1, 0, 0, 0, 0)] (pc2 := 1058) (by decide +kernel) rfl trivial ?_
  obtain ⟨g4, hf⟩ := gd_some hf
  refine hm.sld g4 (show decode cL_law 1058 = .ok (.iaload, 1) by decide +kernel) ?_
  show V c ns 1059 [some (.ref 68), some (.ref 0), some (.ref 36), some (.ref 67), some (.int x4), none, none, none] [.int (xs (x4 + 4).toNatClampNeg), .int (xs (x4 + 3).toNatClampNeg), .int (xs (x4 + 2).toNatClampNeg), .int (xs (x4 + 1).toNatClampNeg), .ref 0] σ
  obtain ⟨a5, σ5, e5, hf⟩ := bI_some hf
  refine h.callV (as := [.int (xs (x4 + 1).toNatClampNeg), .int (xs (x4 + 2).toNatClampNeg), .int (xs (x4 + 3).toNatClampNeg), .int (xs (x4 + 4).toNatClampNeg)]) (rest := []) (by decide +kernel) lk7_114 cwX5_parts kd_0 (kmX5_parts l e5) rfl (Nat.le_of_ble_eq_true rfl) (Nat.le_of_ble_eq_true rfl) (Nat.le_of_ble_eq_true rfl) ?_
  show V c ns 1062 [some (.ref 68), some (.ref 0), some (.ref 36), some (.ref 67), some (.int x4), none, none, none] [.int a5] σ5
  refine h.run (o := []) (ls' := [some (.ref 68), some (.ref 0), some (.ref 36), some (.ref 67), some (.int x4), none, none, none]) (st' := [.int (x4 + 1), .ref 68, .ref 36, .int a5]) (σ' := σ5) [(.aload_n 2, 1, 0, 0, 0, 0), (.aload_n 0, 1, 0, 0, 0, 0), (.iload 4, 2, 0, 0, 0, 0), (.iconst 1, 1, 1, 0, 0, 0), (.iadd, 1, 0, 0, 0, 0)] (pc2 := 1068) (by decide +kernel) rfl trivial ?_
  obtain ⟨g6, hf⟩ := gd_some hf
  refine hm.sld g6 (show decode cL_law 1068 = .ok (.iaload, 1) by decide +kernel) ?_
  show V c ns 1069 [some (.ref 68), some (.ref 0), some (.ref 36), some (.ref 67), some (.int x4), none, none, none] [.int (xs (x4 + 1).toNatClampNeg), .ref 36, .int a5] σ5
  refine h.run (o := []) (ls' := [some (.ref 68), some (.ref 0), some (.ref 36), some (.ref 67), some (.int x4), none, none, none]) (st' := [.int (x4 + 2), .ref 68, .int (xs (x4 + 1).toNatClampNeg), .ref 36, .int a5]) (σ' := σ5) [(.aload_n 0, 1, 0, 0, 0, 0), (.iload 4, 2, 0, 0, 0, 0), (.iconst 2, 1, 2, 0, 0, 0), (.iadd, 1, 0, 0, 0, 0)] (pc2 := 1074) (by decide +kernel) rfl trivial ?_
  obtain ⟨g7, hf⟩ := gd_some hf
  refine hm.sld g7 (show decode cL_law 1074 = .ok (.iaload, 1) by decide +kernel) ?_
  show V c ns 1075 [some (.ref 68), some (.ref 0), some (.ref 36), some (.ref 67), some (.int x4), none, none, none] [.int (xs (x4 + 2).toNatClampNeg), .int (xs (x4 + 1).toNatClampNeg), .ref 36, .int a5] σ5
  refine h.run (o := []) (ls' := [some (.ref 68), some (.ref 0), some (.ref 36), some (.ref 67), some (.int x4), none, none, none]) (st' := [.int (x4 + 3), .ref 68, .int (xs (x4 + 2).toNatClampNeg), .int (xs (x4 + 1).toNatClampNeg), .ref 36, .int a5]) (σ' := σ5) [(.aload_n 0, 1, 0, 0, 0, 0), (.iload 4, 2, 0, 0, 0, 0), (.iconst 3, 1, 3, 0, 0, 0), (.iadd, 1, 0, 0, 0, 0)] (pc2 := 1080) (by decide +kernel) rfl trivial ?_
  obtain ⟨g8, hf⟩ := gd_some hf
  refine hm.sld g8 (show decode cL_law 1080 = .ok (.iaload, 1) by decide +kernel) ?_
  show V c ns 1081 [some (.ref 68), some (.ref 0), some (.ref 36), some (.ref 67), some (.int x4), none, none, none] [.int (xs (x4 + 3).toNatClampNeg), .int (xs (x4 + 2).toNatClampNeg), .int (xs (x4 + 1).toNatClampNeg), .ref 36, .int a5] σ5
  refine h.run (o := []) (ls' := [some (.ref 68), some (.ref 0), some (.ref 36), some (.ref 67), some (.int x4), none, none, none]) (st' := [.int (x4 + 4), .ref 68, .int (xs (x4 + 3).toNatClampNeg), .int (xs (x4 + 2).toNatClampNeg), .int (xs (x4 + 1).toNatClampNeg), .ref 36, .int a5]) (σ' := σ5) [(.aload_n 0, 1, 0, 0, 0, 0), (.iload 4, 2, 0, 0, 0, 0), (.iconst 4, 1, 4, 0, 0, 0), (.iadd, 1, 0, 0, 0, 0)] (pc2 := 1086) (by decide +kernel) rfl trivial ?_
  obtain ⟨g9, hf⟩ := gd_some hf
  refine hm.sld g9 (show decode cL_law 1086 = .ok (.iaload, 1) by decide +kernel) ?_
  show V c ns 1087 [some (.ref 68), some (.ref 0), some (.ref 36), some (.ref 67), some (.int x4), none, none, none] [.int (xs (x4 + 4).toNatClampNeg), .int (xs (x4 + 3).toNatClampNeg), .int (xs (x4 + 2).toNatClampNeg), .int (xs (x4 + 1).toNatClampNeg), .ref 36, .int a5] σ5
  obtain ⟨a10, σ10, e10, hf⟩ := bI_some hf
  refine h.callV (as := [.int (xs (x4 + 1).toNatClampNeg), .int (xs (x4 + 2).toNatClampNeg), .int (xs (x4 + 3).toNatClampNeg), .int (xs (x4 + 4).toNatClampNeg)]) (rest := [.int a5]) (by decide +kernel) lk7_118 cwX6_parts kd_36 (kmX6_parts l e10) rfl (Nat.le_of_ble_eq_true rfl) (Nat.le_of_ble_eq_true rfl) (Nat.le_of_ble_eq_true rfl) ?_
  show V c ns 1090 [some (.ref 68), some (.ref 0), some (.ref 36), some (.ref 67), some (.int x4), none, none, none] [.int a10, .int a5] σ10
  refine h.icmp_eq (tgt := 1483) (show decode cL_law 1090 = .ok (.if_icmp .eq 393, 3) by decide +kernel) (by decide) (fun c11 => ?_) (fun c11 => ?_)
  · rw [if_pos c11] at hf
    exact wL_law_1483 hm hkt (n := n) (by omega) (by omega) hf
  · rw [if_neg c11] at hf
    show V c ns 1093 [some (.ref 68), some (.ref 0), some (.ref 36), some (.ref 67), some (.int x4), none, none, none] [] σ10
    refine h.run (o := []) (ls' := [some (.ref 68), some (.ref 0), some (.ref 36), some (.ref 67), some (.int x4), none, none, none]) (st' := [.int 0]) (σ' := σ10) [(.iconst 0, 1, 0, 0, 0, 0)] (pc2 := 1094) (by decide +kernel) rfl trivial ?_
    exact absurd (Option.some.inj hf) (by decide)
