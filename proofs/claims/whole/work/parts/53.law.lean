def fL_law_1095 (xs : Nat → Int32) (L : Nat) (kt_23 : Int32 → ST → Option Int32) (x4 : Int32) (σ : ST) : Option Int32 :=
  bI (fX5_image σ) fun a1 σ1 =>
  bI (fX6_image σ1) fun a2 σ2 =>
  if a1 = a2 then
    fL_law_1483 xs L kt_23 x4 σ2
  else
    some 0
set_option maxHeartbeats 4000000 in
theorem wL_law_1095 {l : Launch} {xs : Nat → Int32} {L n : Nat} {V : Nat → Nat → Nat → List (Option Value) → List Value → ST → Prop} {kt_23 : Int32 → ST → Option Int32} {x4 : Int32} {σ : ST} {c ns : Nat} (hm : BL l xs L V) (hkt : ∀ (c ns : Nat), c + n ≤ 601024 → ns + 6 * n ≤ 7293034 → ∀ (x4 : Int32) (σ : ST), kt_23 x4 σ = some 1 → V c ns 23 [some (.ref 68), some (.ref 0), some (.ref 36), some (.ref 67), some (.int x4), none, none, none] [] σ) (hc : c + (n + 0) ≤ 601024) (hs : ns + 6 * (n + 0) ≤ 7293034) (hf : fL_law_1095 xs L kt_23 x4 σ = some 1) : V c ns 1095 [some (.ref 68), some (.ref 0), some (.ref 36), some (.ref 67), some (.int x4), none, none, none] [] σ := by
  unfold fL_law_1095 at hf
  have h := hm.bd (c := c) (n := ns) (by omega) (by omega)
  refine h.run (o := []) (ls' := [some (.ref 68), some (.ref 0), some (.ref 36), some (.ref 67), some (.int x4), none, none, none]) (st' := [.ref 0]) (σ' := σ) [(.aload_n 1, 1, 0, 0, 0, 0)] (pc2 := 1096) (by decide +kernel) rfl trivial ?_
  obtain ⟨a1, σ1, e1, hf⟩ := bI_some hf
  refine h.callV (as := []) (rest := []) (by decide +kernel) lk7_119 cwX5_image kd_0 (kmX5_image l e1) rfl (Nat.le_of_ble_eq_true rfl) (Nat.le_of_ble_eq_true rfl) (Nat.le_of_ble_eq_true rfl) ?_
  show V c ns 1099 [some (.ref 68), some (.ref 0), some (.ref 36), some (.ref 67), some (.int x4), none, none, none] [.int a1] σ1
  refine h.run (o := []) (ls' := [some (.ref 68), some (.ref 0), some (.ref 36), some (.ref 67), some (.int x4), none, none, none]) (st' := [.ref 36, .int a1]) (σ' := σ1) [(.aload_n 2, 1, 0, 0, 0, 0)] (pc2 := 1100) (by decide +kernel) rfl trivial ?_
  obtain ⟨a2, σ2, e2, hf⟩ := bI_some hf
  refine h.callV (as := []) (rest := [.int a1]) (by decide +kernel) lk7_122 cwX6_image kd_36 (kmX6_image l e2) rfl (Nat.le_of_ble_eq_true rfl) (Nat.le_of_ble_eq_true rfl) (Nat.le_of_ble_eq_true rfl) ?_
  show V c ns 1103 [some (.ref 68), some (.ref 0), some (.ref 36), some (.ref 67), some (.int x4), none, none, none] [.int a2, .int a1] σ2
  refine h.icmp_eq (tgt := 1483) (show decode cL_law 1103 = .ok (.if_icmp .eq 380, 3) by decide +kernel) (by decide) (fun c3 => ?_) (fun c3 => ?_)
  · rw [if_pos c3] at hf
    exact wL_law_1483 hm hkt (n := n) (by omega) (by omega) hf
  · rw [if_neg c3] at hf
    show V c ns 1106 [some (.ref 68), some (.ref 0), some (.ref 36), some (.ref 67), some (.int x4), none, none, none] [] σ2
    refine h.run (o := []) (ls' := [some (.ref 68), some (.ref 0), some (.ref 36), some (.ref 67), some (.int x4), none, none, none]) (st' := [.int 0]) (σ' := σ2) [(.iconst 0, 1, 0, 0, 0, 0)] (pc2 := 1107) (by decide +kernel) rfl trivial ?_
    exact absurd (Option.some.inj hf) (by decide)
def fL_law_1108 (xs : Nat → Int32) (L : Nat) (kt_23 : Int32 → ST → Option Int32) (x4 : Int32) (σ : ST) : Option Int32 :=
  bI (fX5_restore σ) fun a1 σ1 =>
  bI (fX6_restore σ1) fun a2 σ2 =>
  if a1 = a2 then
    fL_law_1483 xs L kt_23 x4 σ2
  else
    some 0
set_option maxHeartbeats 4000000 in
theorem wL_law_1108 {l : Launch} {xs : Nat → Int32} {L n : Nat} {V : Nat → Nat → Nat → List (Option Value) → List Value → ST → Prop} {kt_23 : Int32 → ST → Option Int32} {x4 : Int32} {σ : ST} {c ns : Nat} (hm : BL l xs L V) (hkt : ∀ (c ns : Nat), c + n ≤ 601024 → ns + 6 * n ≤ 7293034 → ∀ (x4 : Int32) (σ : ST), kt_23 x4 σ = some 1 → V c ns 23 [some (.ref 68), some (.ref 0), some (.ref 36), some (.ref 67), some (.int x4), none, none, none] [] σ) (hc : c + (n + 0) ≤ 601024) (hs : ns + 6 * (n + 0) ≤ 7293034) (hf : fL_law_1108 xs L kt_23 x4 σ = some 1) : V c ns 1108 [some (.ref 68), some (.ref 0), some (.ref 36), some (.ref 67), some (.int x4), none, none, none] [] σ := by
  unfold fL_law_1108 at hf
  have h := hm.bd (c := c) (n := ns) (by omega) (by omega)
  refine h.run (o := []) (ls' := [some (.ref 68), some (.ref 0), some (.ref 36), some (.ref 67), some (.int x4), none, none, none]) (st' := [.ref 0]) (σ' := σ) [(.aload_n 1, 1, 0, 0, 0, 0)] (pc2 := 1109) (by decide +kernel) rfl trivial ?_
  obtain ⟨a1, σ1, e1, hf⟩ := bI_some hf
  refine h.callV (as := []) (rest := []) (by decide +kernel) lk7_123 cwX5_restore kd_0 (kmX5_restore l e1) rfl (Nat.le_of_ble_eq_true rfl) (Nat.le_of_ble_eq_true rfl) (Nat.le_of_ble_eq_true rfl) ?_
  show V c ns 1112 [some (.ref 68), some (.ref 0), some (.ref 36), some (.ref 67), some (.int x4), none, none, none] [.int a1] σ1
  refine h.run (o := []) (ls' := [some (.ref 68), some (.ref 0), some (.ref 36), some (.ref 67), some (.int x4), none, none, none]) (st' := [.ref 36, .int a1]) (σ' := σ1) [(.aload_n 2, 1, 0, 0, 0, 0)] (pc2 := 1113) (by decide +kernel) rfl trivial ?_
  obtain ⟨a2, σ2, e2, hf⟩ := bI_some hf
  refine h.callV (as := []) (rest := [.int a1]) (by decide +kernel) lk7_126 cwX6_restore kd_36 (kmX6_restore l e2) rfl (Nat.le_of_ble_eq_true rfl) (Nat.le_of_ble_eq_true rfl) (Nat.le_of_ble_eq_true rfl) ?_
  show V c ns 1116 [some (.ref 68), some (.ref 0), some (.ref 36), some (.ref 67), some (.int x4), none, none, none] [.int a2, .int a1] σ2
  refine h.icmp_eq (tgt := 1483) (show decode cL_law 1116 = .ok (.if_icmp .eq 367, 3) by decide +kernel) (by decide) (fun c3 => ?_) (fun c3 => ?_)
  · rw [if_pos c3] at hf
    exact wL_law_1483 hm hkt (n := n) (by omega) (by omega) hf
  · rw [if_neg c3] at hf
    show V c ns 1119 [some (.ref 68), some (.ref 0), some (.ref 36), some (.ref 67), some (.int x4), none, none, none] [] σ2
    refine h.run (o := []) (ls' := [some (.ref 68), some (.ref 0), some (.ref 36), some (.ref 67), some (.int x4), none, none, none]) (st' := [.int 0]) (σ' := σ2) [(.iconst 0, 1, 0, 0, 0, 0)] (pc2 := 1120) (by decide +kernel) rfl trivial ?_
    exact absurd (Option.some.inj hf) (by decide)
def fL_law_1121 (xs : Nat → Int32) (L : Nat) (kt_23 : Int32 → ST → Option Int32) (x4 : Int32) (σ : ST) : Option Int32 :=
  gd (inb (x4 + 1) L) <|
  bR (fX5_count (xs (x4 + 1).toNatClampNeg) σ) fun a2 =>
  gd (inb (x4 + 1) L) <|
  bI (fX6_count (xs (x4 + 1).toNatClampNeg) σ) fun a4 σ4 =>
  if a2 = a4 then
    fL_law_1483 xs L kt_23 x4 σ4
  else
    some 0
set_option maxHeartbeats 4000000 in
theorem wL_law_1121 {l : Launch} {xs : Nat → Int32} {L n : Nat} {V : Nat → Nat → Nat → List (Option Value) → List Value → ST → Prop} {kt_23 : Int32 → ST → Option Int32} {x4 : Int32} {σ : ST} {c ns : Nat} (hm : BL l xs L V) (hkt : ∀ (c ns : Nat), c + n ≤ 601024 → ns + 6 * n ≤ 7293034 → ∀ (x4 : Int32) (σ : ST), kt_23 x4 σ = some 1 → V c ns 23 [some (.ref 68), some (.ref 0), some (.ref 36), some (.ref 67), some (.int x4), none, none, none] [] σ) (hc : c + (n + 0) ≤ 601024) (hs : ns + 6 * (n + 0) ≤ 7293034) (hf : fL_law_1121 xs L kt_23 x4 σ = some 1) : V c ns 1121 [some (.ref 68), some (.ref 0), some (.ref 36), some (.ref 67), some (.int x4), none, none, none] [] σ := by
  unfold fL_law_1121 at hf
  have h := hm.bd (c := c) (n := ns) (by omega) (by omega)
  refine h.run (o := []) (ls' := [some (.ref 68), some (.ref 0), some (.ref 36), some (.ref 67), some (.int x4), none, none, none]) (st' := [.int (x4 + 1), .ref 68, .ref 0]) (σ' := σ) [(.aload_n 1, 1, 0, 0, 0, 0), (.aload_n 0, 1, 0, 0, 0, 0), (.iload 4, 2, 0, 0, 0, 0), (.iconst 1, 1, 1, 0, 0, 0), (.iadd, 1, 0, 0, 0, 0)] (pc2 := 1127) (by decide +kernel) rfl trivial ?_
  obtain ⟨g1, hf⟩ := gd_some hf
  refine hm.sld g1 (show decode cL_law 1127 = .ok (.iaload, 1) by decide +kernel) ?_
  show V c ns 1128 [some (.ref 68), some (.ref 0), some (.ref 36), some (.ref 67), some (.int x4), none, none, none] [.int (xs (x4 + 1).toNatClampNeg), .ref 0] σ
  obtain ⟨a2, e2, hf⟩ := bR_some hf
  refine h.callV (as := [.int (xs (x4 + 1).toNatClampNeg)]) (rest := []) (by decide +kernel) lk7_127 cwX5_count kd_0 (kmX5_count l e2) rfl (Nat.le_of_ble_eq_true rfl) (Nat.le_of_ble_eq_true rfl) (Nat.le_of_ble_eq_true rfl) ?_
  show V c ns 1131 [some (.ref 68), some (.ref 0), some (.ref 36), some (.ref 67), some (.int x4), none, none, none] [.int a2] σ
  refine h.run (o := []) (ls' := [some (.ref 68), some (.ref 0), some (.ref 36), some (.ref 67), some (.int x4), none, none, none]) (st' := [.int (x4 + 1), .ref 68, .ref 36, .int a2]) (σ' := σ) [(.aload_n 2, 1, 0, 0, 0, 0), (.aload_n 0, 1, 0, 0, 0, 0), (.iload 4, 2, 0, 0, 0, 0), (.iconst 1, 1, 1, 0, 0, 0), (.iadd, 1, 0, 0, 0, 0)] (pc2 := 1137) (by decide +kernel) rfl trivial ?_
  obtain ⟨g3, hf⟩ := gd_some hf
  refine hm.sld g3 (show decode cL_law 1137 = .ok (.iaload, 1) by decide +kernel) ?_
  show V c ns 1138 [some (.ref 68), some (.ref 0), some (.ref 36), some (.ref 67), some (.int x4), none, none, none] [.int (xs (x4 + 1).toNatClampNeg), .ref 36, .int a2] σ
  obtain ⟨a4, σ4, e4, hf⟩ := bI_some hf
  refine h.callV (as := [.int (xs (x4 + 1).toNatClampNeg)]) (rest := [.int a2]) (by decide +kernel) lk7_130 cwX6_count kd_36 (kmX6_count l e4) rfl (Nat.le_of_ble_eq_true rfl) (Nat.le_of_ble_eq_true rfl) (Nat.le_of_ble_eq_true rfl) ?_
  show V c ns 1141 [some (.ref 68), some (.ref 0), some (.ref 36), some (.ref 67), some (.int x4), none, none, none] [.int a4, .int a2] σ4
  refine h.icmp_eq (tgt := 1483) (show decode cL_law 1141 = .ok (.if_icmp .eq 342, 3) by decide +kernel) (by decide) (fun c5 => ?_) (fun c5 => ?_)
  · rw [if_pos c5] at hf
    exact wL_law_1483 hm hkt (n := n) (by omega) (by omega) hf
  · rw [if_neg c5] at hf
    show V c ns 1144 [some (.ref 68), some (.ref 0), some (.ref 36), some (.ref 67), some (.int x4), none, none, none] [] σ4
    refine h.run (o := []) (ls' := [some (.ref 68), some (.ref 0), some (.ref 36), some (.ref 67), some (.int x4), none, none, none]) (st' := [.int 0]) (σ' := σ4) [(.iconst 0, 1, 0, 0, 0, 0)] (pc2 := 1145) (by decide +kernel) rfl trivial ?_
    exact absurd (Option.some.inj hf) (by decide)
def fL_law_1146 (xs : Nat → Int32) (L : Nat) (kt_23 : Int32 → ST → Option Int32) (x4 : Int32) (σ : ST) : Option Int32 :=
  gd (inb (x4 + 1) L) <|
  gd (inb (x4 + 2) L) <|
  gd (inb (x4 + 3) L) <|
  bI (fX5_keep (xs (x4 + 1).toNatClampNeg) (xs (x4 + 2).toNatClampNeg) (xs (x4 + 3).toNatClampNeg) σ) fun a4 σ4 =>
  gd (inb (x4 + 1) L) <|
  gd (inb (x4 + 2) L) <|
  gd (inb (x4 + 3) L) <|
  bI (fX6_keep (xs (x4 + 1).toNatClampNeg) (xs (x4 + 2).toNatClampNeg) (xs (x4 + 3).toNatClampNeg) σ4) fun a8 σ8 =>
  if a4 = a8 then
    fL_law_1483 xs L kt_23 x4 σ8
  else
    some 0
set_option maxHeartbeats 4000000 in
theorem wL_law_1146 {l : Launch} {xs : Nat → Int32} {L n : Nat} {V : Nat → Nat → Nat → List (Option Value) → List Value → ST → Prop} {kt_23 : Int32 → ST → Option Int32} {x4 : Int32} {σ : ST} {c ns : Nat} (hm : BL l xs L V) (hkt : ∀ (c ns : Nat), c + n ≤ 601024 → ns + 6 * n ≤ 7293034 → ∀ (x4 : Int32) (σ : ST), kt_23 x4 σ = some 1 → V c ns 23 [some (.ref 68), some (.ref 0), some (.ref 36), some (.ref 67), some (.int x4), none, none, none] [] σ) (hc : c + (n + 0) ≤ 601024) (hs : ns + 6 * (n + 0) ≤ 7293034) (hf : fL_law_1146 xs L kt_23 x4 σ = some 1) : V c ns 1146 [some (.ref 68), some (.ref 0), some (.ref 36), some (.ref 67), some (.int x4), none, none, none] [] σ := by
  unfold fL_law_1146 at hf
  have h := hm.bd (c := c) (n := ns) (by omega) (by omega)
  refine h.run (o := []) (ls' := [some (.ref 68), some (.ref 0), some (.ref 36), some (.ref 67), some (.int x4), none, none, none]) (st' := [.int (x4 + 1), .ref 68, .ref 0]) (σ' := σ) [(.aload_n 1, 1, 0, 0, 0, 0), (.aload_n 0, 1, 0, 0, 0, 0), (.iload 4, 2, 0, 0, 0, 0), (.iconst 1, 1, 1, 0, 0, 0), (.iadd, 1, 0, 0, 0, 0)] (pc2 := 1152) (by decide +kernel) rfl trivial ?_
  obtain ⟨g1, hf⟩ := gd_some hf
  refine hm.sld g1 (show decode cL_law 1152 = .ok (.iaload, 1) by decide +kernel) ?_
  show V c ns 1153 [some (.ref 68), some (.ref 0), some (.ref 36), some (.ref 67), some (.int x4), none, none, none] [.int (xs (x4 + 1).toNatClampNeg), .ref 0] σ
  refine h.run (o := []) (ls' := [some (.ref 68), some (.ref 0), some (.ref 36), some (.ref 67), some (.int x4), none, none, none]) (st' := [.int (x4 + 2), .ref 68, .int (xs (x4 + 1).toNatClampNeg), .ref 0]) (σ' := σ) [(.aload_n 0, 1, 0, 0, 0, 0), (.iload 4, 2, 0, 0, 0, 0), (.iconst 2, 1, 2, 0, 0, 0), (.iadd, 1, 0, 0, 0, 0)] (pc2 := 1158) (by decide +kernel) rfl trivial ?_
  obtain ⟨g2, hf⟩ := gd_some hf
  refine hm.sld g2 (show decode cL_law 1158 = .ok (.iaload, 1) by decide +kernel) ?_
  show V c ns 1159 [some (.ref 68), some (.ref 0), some (.ref 36), some (.ref 67), some (.int x4), none, none, none] [.int (xs (x4 + 2).toNatClampNeg), .int (xs (x4 + 1).toNatClampNeg), .ref 0] σ
  refine h.run (o := []) (ls' := [some (.ref 68), some (.ref 0), some (.ref 36), some (.ref 67), some (.int x4), none, none, none]) (st' := [.int (x4 + 3), .ref 68, .int (xs (x4 + 2).toNatClampNeg), .int (xs (x4 + 1).toNatClampNeg), .ref 0]) (σ' := σ) [(.aload_n 0, 1, 0, 0, 0, 0), (.iload 4, 2, 0, 0, 0, 0), (.iconst 3, 1, 3, 0, 0, 0), (.iadd, 1, 0, 0, 0, 0)] (pc2 := 1164) (by decide +kernel) rfl trivial ?_
  obtain ⟨g3, hf⟩ := gd_some hf
  refine hm.sld g3 (show decode cL_law 1164 = .ok (.iaload, 1) by decide +kernel) ?_
  show V c ns 1165 [some (.ref 68), some (.ref 0), some (.ref 36), some (.ref 67), some (.int x4), none, none, none] [.int (xs (x4 + 3).toNatClampNeg), .int (xs (x4 + 2).toNatClampNeg), .int (xs (x4 + 1).toNatClampNeg), .ref 0] σ
  obtain ⟨a4, σ4, e4, hf⟩ := bI_some hf
  refine h.callV (as := [.int (xs (x4 + 1).toNatClampNeg), .int (xs (x4 + 2).toNatClampNeg), .int (xs (x4 + 3).toNatClampNeg)]) (rest := []) (by decide +kernel) lk7_131 cwX5_keep kd_0 (kmX5_keep l e4) rfl (Nat.le_of_ble_eq_true rfl) (Nat.le_of_ble_eq_true rfl) (Nat.le_of_ble_eq_true rfl) ?_
  show V c ns 1168 [some (.ref 68), some (.ref 0), some (.ref 36), some (.ref 67), some (.int x4), none, none, none] [.int a4] σ4
  refine h.run (o := []) (ls' := [some (.ref 68), some (.ref 0), some (.ref 36), some (.ref 67), some (.int x4), none, none, none]) (st' := [.int (x4 + 1), .ref 68, .ref 36, .int a4]) (σ' := σ4) [(.aload_n 2, 1, 0, 0, 0, 0), (.aload_n 0, 1, 0, 0, 0, 0), (.iload 4, 2, 0, 0, 0, 0), (.iconst 1, 1, 1, 0, 0, 0), (.iadd, 1, 0, 0, 0, 0)] (pc2 := 1174) (by decide +kernel) rfl trivial ?_
  obtain ⟨g5, hf⟩ := gd_some hf
  refine hm.sld g5 (show decode cL_law 1174 = .ok (.iaload, 1) by decide +kernel) ?_
  show V c ns 1175 [some (.ref 68), some (.ref 0), some (.ref 36), some (.ref 67), some (.int x4), none, none, none] [.int (xs (x4 + 1).toNatClampNeg), .ref 36, .int a4] σ4
  refine h.run (o := []) (ls' := [some (.ref 68), some (.ref 0), some (.ref 36), some (.ref 67), some (.int x4), none, none, none]) (st' := [.int (x4 + 2), .ref 68, .int (xs (x4 + 1).toNatClampNeg), .ref 36, .int a4]) (σ' := σ4) [(.aload_n 0, 1, 0, 0, 0, 0), (.iload 4, 2, 0, 0, 0, 0), (.iconst 2, 1, 2, 0, 0, 0), (.iadd, 1, 0, 0, 0, 0)] (pc2 := 1180) (by decide +kernel) rfl trivial ?_
  obtain ⟨g6, hf⟩ := gd_some hf
  refine hm.sld g6 (show decode cL_law 1180 = .ok (.iaload, 1) by decide +kernel) ?_
  show V c ns 1181 [some (.ref 68), some (.ref 0), some (.ref 36), some (.ref 67), some (.int x4), none, none, none] [.int (xs (x4 + 2).toNatClampNeg), .int (xs (x4 + 1).toNatClampNeg), .ref 36, .int a4] σ4
  refine h.run (o := []) (ls' := [some (.ref 68), some (.ref 0), some (.ref 36), some (.ref 67), some (.int x4), none, none, none]) (st' := [.int (x4 + 3), .ref 68, .int (xs (x4 + 2).toNatClampNeg), .int (xs (x4 + 1).toNatClampNeg), .ref 36, .int a4]) (σ' := σ4) [(.aload_n 0, 1, 0, 0, 0, 0), (.iload 4, 2, 0, 0, 0, 0), (.iconst 3, 1, 3, 0, 0, 0), (.iadd, 1, 0, 0, 0, 0)] (pc2 := 1186) (by decide +kernel) rfl trivial ?_
  obtain ⟨g7, hf⟩ := gd_some hf
  refine hm.sld g7 (show decode cL_law 1186 = .ok (.iaload, 1) by decide +kernel) ?_
  show V c ns 1187 [some (.ref 68), some (.ref 0), some (.ref 36), some (.ref 67), some (.int x4), none, none, none] [.int (xs (x4 + 3).toNatClampNeg), .int (xs (x4 + 2).toNatClampNeg), .int (xs (x4 + 1).toNatClampNeg), .ref 36, .int a4] σ4
  obtain ⟨a8, σ8, e8, hf⟩ := bI_some hf
  refine h.callV (as := [.int (xs (x4 + 1).toNatClampNeg), .int (xs (x4 + 2).toNatClampNeg), .int (xs (x4 + 3).toNatClampNeg)]) (rest := [.int a4]) (by decide +kernel) lk7_134 cwX6_keep kd_36 (kmX6_keep l e8) rfl (Nat.le_of_ble_eq_true rfl) (Nat.le_of_ble_eq_true rfl) (Nat.le_of_ble_eq_true rfl) ?_
  show V c ns 1190 [some (.ref 68), some (.ref 0), some (.ref 36), some (.ref 67), some (.int x4), none, none, none] [.int a8, .int a4] σ8
  refine h.icmp_eq (tgt := 1483) (show decode cL_law 1190 = .ok (.if_icmp .eq 293, 3) by decide +kernel) (by decide) (fun c9 => ?_) (fun c9 => ?_)
  · rw [if_pos c9] at hf
    exact wL_law_1483 hm hkt (n := n) (by omega) (by omega) hf
  · rw [if_neg c9] at hf
    show V c ns 1193 [some (.ref 68), some (.ref 0), some (.ref 36), some (.ref 67), some (.int x4), none, none, none] [] σ8
    refine h.run (o := []) (ls' := [some (.ref 68), some (.ref 0), some (.ref 36), some (.ref 67), some (.int x4), none, none, none]) (st' := [.int 0]) (σ' := σ8) [(.iconst 0, 1, 0, 0, 0, 0)] (pc2 := 1194) (by decide +kernel) rfl trivial ?_
    exact absurd (Option.some.inj hf) (by decide)
def fL_law_1195 (xs : Nat → Int32) (L : Nat) (kt_23 : Int32 → ST → Option Int32) (x4 : Int32) (σ : ST) : Option Int32 :=
  gd (inb (x4 + 1) L) <|
  gd (inb (x4 + 2) L) <|
  gd (inb (x4 + 3) L) <|
  bI (fX5_row (xs (x4 + 1).toNatClampNeg) (xs (x4 + 2).toNatClampNeg) (xs (x4 + 3).toNatClampNeg) σ) fun a4 σ4 =>
  gd (inb (x4 + 1) L) <|
  gd (inb (x4 + 2) L) <|
  gd (inb (x4 + 3) L) <|
  bI (fX6_row (xs (x4 + 1).toNatClampNeg) (xs (x4 + 2).toNatClampNeg) (xs (x4 + 3).toNatClampNeg) σ4) fun a8 σ8 =>
  if a4 = a8 then
    fL_law_1483 xs L kt_23 x4 σ8
  else
    some 0
set_option maxHeartbeats 4000000 in
theorem wL_law_1195 {l : Launch} {xs : Nat → Int32} {L n : Nat} {V : Nat → Nat → Nat → List (Option Value) → List Value → ST → Prop} {kt_23 : Int32 → ST → Option Int32} {x4 : Int32} {σ : ST} {c ns : Nat} (hm : BL l xs L V) (hkt : ∀ (c ns : Nat), c + n ≤ 601024 → ns + 6 * n ≤ 7293034 → ∀ (x4 : Int32) (σ : ST), kt_23 x4 σ = some 1 → V c ns 23 [some (.ref 68), some (.ref 0), some (.ref 36), some (.ref 67), some (.int x4), none, none, none] [] σ) (hc : c + (n + 0) ≤ 601024) (hs : ns + 6 * (n + 0) ≤ 7293034) (hf : fL_law_1195 xs L kt_23 x4 σ = some 1) : V c ns 1195 [some (.ref 68), some (.ref 0), some (.ref 36), some (.ref 67), some (.int x4), none, none, none] [] σ := by
  unfold fL_law_1195 at hf
  have h := hm.bd (c := c) (n := ns) (by omega) (by omega)
  refine h.run (o := []) (ls' := [some (.ref 68), some (.ref 0), some (.ref 36), some (.ref 67), some (.int x4), none, none, none]) (st' := [.int (x4 + 1), .ref 68, .ref 0]) (σ' := σ) [(.aload_n 1, 1, 0, 0, 0, 0), (.aload_n 0, 1, 0, 0, 0, 0), (.iload 4, 2, 0, 0, 0, 0), (.iconst 1, 1, 1, 0, 0, 0), (.iadd, 1, 0, 0, 0, 0)] (pc2 := 1201) (by decide +kernel) rfl trivial ?_
  obtain ⟨g1, hf⟩ := gd_some hf
  refine hm.sld g1 (show decode cL_law 1201 = .ok (.iaload, 1) by decide +kernel) ?_
  show V c ns 1202 [some (.ref 68), some (.ref 0), some (.ref 36), some (.ref 67), some (.int x4), none, none, none] [.int (xs (x4 + 1).toNatClampNeg), .ref 0] σ
  refine h.run (o := []) (ls' := [some (.ref 68), some (.ref 0), some (.ref 36), some (.ref 67), some (.int x4), none, none, none]) (st' := [.int (x4 + 2), .ref 68, .int (xs (x4 + 1).toNatClampNeg), .ref 0]) (σ' := σ) [(.aload_n 0, 1, 0, 0, 0, 0), (.iload 4, 2, 0, 0, 0, 0), (.iconst 2, 1, 2, 0, 0, 0), (.iadd, 1, 0, 0, 0, 0)] (pc2 := 1207) (by decide +kernel) rfl trivial ?_
  obtain ⟨g2, hf⟩ := gd_some hf
  refine hm.sld g2 (show decode cL_law 1207 = .ok (.iaload, 1) by decide +kernel) ?_
  show V c ns 1208 [some (.ref 68), some (.ref 0), some (.ref 36), some (.ref 67), some (.int x4), none, none, none] [.int (xs (x4 + 2).toNatClampNeg), .int (xs (x4 + 1).toNatClampNeg), .ref 0] σ
  refine h.run (o := []) (ls' := [some (.ref 68), some (.ref 0), some (.ref 36), some (.ref 67), some (.int x4), none, none, none]) (st' := [.int (x4 + 3), .ref 68, .int (xs (x4 + 2).toNatClampNeg), .int (xs (x4 + 1).toNatClampNeg), .ref 0]) (σ' := σ) [(.aload_n 0, 1, 0, 0, 0, 0), (.iload 4, 2, 0, 0, 0, 0), (.iconst 3, 1, 3, 0, 0, 0), (.iadd, 1, 0, 0, 0, 0)] (pc2 := 1213) (by decide +kernel) rfl trivial ?_
  obtain ⟨g3, hf⟩ := gd_some hf
  refine hm.sld g3 (show decode cL_law 1213 = .ok (.iaload, 1) by decide +kernel) ?_
  show V c ns 1214 [some (.ref 68), some (.ref 0), some (.ref 36), some (.ref 67), some (.int x4), none, none, none] [.int (xs (x4 + 3).toNatClampNeg), .int (xs (x4 + 2).toNatClampNeg), .int (xs (x4 + 1).toNatClampNeg), .ref 0] σ
  obtain ⟨a4, σ4, e4, hf⟩ := bI_some hf
  refine h.callV (as := [.int (xs (x4 + 1).toNatClampNeg), .int (xs (x4 + 2).toNatClampNeg), .int (xs (x4 + 3).toNatClampNeg)]) (rest := []) (by decide +kernel) lk7_135 cwX5_row kd_0 (kmX5_row l e4) rfl (Nat.le_of_ble_eq_true rfl) (Nat.le_of_ble_eq_true rfl) (Nat.le_of_ble_eq_true rfl) ?_
  show V c ns 1217 [some (.ref 68), some (.ref 0), some (.ref 36), some (.ref 67), some (.int x4), none, none, none] [.int a4] σ4
  refine h.run (o := []) (ls' := [some (.ref 68), some (.ref 0), some (.ref 36), some (.ref 67), some (.int x4), none, none, none]) (st' := [.int (x4 + 1), .ref 68, .ref 36, .int a4]) (σ' := σ4) [(.aload_n 2, 1, 0, 0, 0, 0), (.aload_n 0, 1, 0, 0, 0, 0), (.iload 4, 2, 0, 0, 0, 0), (.iconst 1, 1, 1, 0, 0, 0), (.iadd, 1, 0, 0, 0, 0)] (pc2 := 1223) (by decide +kernel) rfl trivial ?_
  obtain ⟨g5, hf⟩ := gd_some hf
  refine hm.sld g5 (show decode cL_law 1223 = .ok (.iaload, 1) by decide +kernel) ?_
  show V c ns 1224 [some (.ref 68), some (.ref 0), some (.ref 36), some (.ref 67), some (.int x4), none, none, none] [.int (xs (x4 + 1).toNatClampNeg), .ref 36, .int a4] σ4
  refine h.run (o := []) (ls' := [some (.ref 68), some (.ref 0), some (.ref 36), some (.ref 67), some (.int x4), none, none, none]) (st' := [.int (x4 + 2), .ref 68, .int (xs (x4 + 1).toNatClampNeg), .ref 36, .int a4]) (σ' := σ4) [(.aload_n 0, 1, 0, 0, 0, 0), (.iload 4, 2, 0, 0, 0, 0), (.iconst 2, 1, 2, 0, 0, 0), (.iadd, 1, 0, 0, 0, 0)] (pc2 := 1229) (by decide +kernel) rfl trivial ?_
  obtain ⟨g6, hf⟩ := gd_some hf
  refine hm.sld g6 (show decode cL_law 1229 = .ok (.iaload, 1) by decide +kernel) ?_
  show V c ns 1230 [some (.ref 68), some (.ref 0), some (.ref 36), some (.ref 67), some (.int x4), none, none, none] [.int (xs (x4 + 2).toNatClampNeg), .int (xs (x4 + 1).toNatClampNeg), .ref 36, .int a4] σ4
  refine h.run (o := []) (ls' := [some (.ref 68), some (.ref 0), some (.ref 36), some (.ref 67), some (.int x4), none, none, none]) (st' := [.int (x4 + 3), .ref 68, .int (xs (x4 + 2).toNatClampNeg), .int (xs (x4 + 1).toNatClampNeg), .ref 36, .int a4]) (σ' := σ4) [(.aload_n 0, 1, 0, 0, 0, 0), (.iload 4, 2, 0, 0, 0, 0), (.iconst 3, 1, 3, 0, 0, 0), (.iadd, 1, 0, 0, 0, 0)] (pc2 := 1235) (by decide +kernel) rfl trivial ?_
  obtain ⟨g7, hf⟩ := gd_some hf
  refine hm.sld g7 (show decode cL_law 1235 = .ok (.iaload, 1) by decide +kernel) ?_
  show V c ns 1236 [some (.ref 68), some (.ref 0), some (.ref 36), some (.ref 67), some (.int x4), none, none, none] [.int (xs (x4 + 3).toNatClampNeg), .int (xs (x4 + 2).toNatClampNeg), .int (xs (x4 + 1).toNatClampNeg), .ref 36, .int a4] σ4
  obtain ⟨a8, σ8, e8, hf⟩ := bI_some hf
  refine h.callV (as := [.int (xs (x4 + 1).toNatClampNeg), .int (xs (x4 + 2).toNatClampNeg), .int (xs (x4 + 3).toNatClampNeg)]) (rest := [.int a4]) (by decide +kernel) lk7_138 cwX6_row kd_36 (kmX6_row l e8) rfl (Nat.le_of_ble_eq_true rfl) (Nat.le_of_ble_eq_true rfl) (Nat.le_of_ble_eq_true rfl) ?_
  show V c ns 1239 [some (.ref 68), some (.ref 0), some (.ref 36), some (.ref 67), some (.int x4), none, none, none] [.int a8, .int a4] σ8
  refine h.icmp_eq (tgt := 1483) (show decode cL_law 1239 = .ok (.if_icmp .eq 244, 3) by decide +kernel) (by decide) (fun c9 => ?_) (fun c9 => ?_)
  · rw [if_pos c9] at hf
    exact wL_law_1483 hm hkt (n := n) (by omega) (by omega) hf
  · rw [if_neg c9] at hf
    show V c ns 1242 [some (.ref 68), some (.ref 0), some (.ref 36), some (.ref 67), some (.int x4), none, none, none] [] σ8
    refine h.run (o := []) (ls' := [some (.ref 68), some (.ref 0), some (.ref 36), some (.ref 67), some (.int x4), none, none, none]) (st' := [.int 0]) (σ' := σ8) [(.iconst 0, 1, 0, 0, 0, 0)] (pc2 := 1243) (by decide +kernel) rfl trivial ?_
    exact absurd (Option.some.inj hf) (by decide)
def fL_law_1244 (xs : Nat → Int32) (L : Nat) (kt_23 : Int32 → ST → Option Int32) (x4 : Int32) (σ : ST) : Option Int32 :=
  gd (inb (x4 + 1) L) <|
  gd (inb (x4 + 2) L) <|
  gd (inb (x4 + 3) L) <|
  bI (fX5_put (xs (x4 + 1).toNatClampNeg) (xs (x4 + 2).toNatClampNeg) (xs (x4 + 3).toNatClampNeg) σ) fun a4 σ4 =>
  gd (inb (x4 + 1) L) <|
  gd (inb (x4 + 2) L) <|
  gd (inb (x4 + 3) L) <|
  bI (fX6_put (xs (x4 + 1).toNatClampNeg) (xs (x4 + 2).toNatClampNeg) (xs (x4 + 3).toNatClampNeg) σ4) fun a8 σ8 =>
  if a4 = a8 then
    fL_law_1483 xs L kt_23 x4 σ8
  else
    some 0
set_option maxHeartbeats 4000000 in
theorem wL_law_1244 {l : Launch} {xs : Nat → Int32} {L n : Nat} {V : Nat → Nat → Nat → List (Option Value) → List Value → ST → Prop} {kt_23 : Int32 → ST → Option Int32} {x4 : Int32} {σ : ST} {c ns : Nat} (hm : BL l xs L V) (hkt : ∀ (c ns : Nat), c + n ≤ 601024 → ns + 6 * n ≤ 7293034 → ∀ (x4 : Int32) (σ : ST), kt_23 x4 σ = some 1 → V c ns 23 [some (.ref 68), some (.ref 0), some (.ref 36), some (.ref 67), some (.int x4), none, none, none] [] σ) (hc : c + (n + 0) ≤ 601024) (hs : ns + 6 * (n + 0) ≤ 7293034) (hf : fL_law_1244 xs L kt_23 x4 σ = some 1) : V c ns 1244 [some (.ref 68), some (.ref 0), some (.ref 36), some (.ref 67), some (.int x4), none, none, none] [] σ := by
  unfold fL_law_1244 at hf
  have h := hm.bd (c := c) (n := ns) (by omega) (by omega)
  refine h.run (o := []) (ls' := [some (.ref 68), some (.ref 0), some (.ref 36), some (.ref 67), some (.int x4), none, none, none]) (st' := [.int (x4 + 1), .ref 68, .ref 0]) (σ' := σ) [(.aload_n 1, 1, 0, 0, 0, 0), (.aload_n 0, 1, 0, 0, 0, 0), (.iload 4, 2, 0, 0, 0, 0), (.iconst 1, 1, 1, 0, 0, 0), (.iadd, 1, 0, 0, 0, 0)] (pc2 := 1250) (by decide +kernel) rfl trivial ?_
  obtain ⟨g1, hf⟩ := gd_some hf
  refine hm.sld g1 (show decode cL_law 1250 = .ok (.iaload, 1) by decide +kernel) ?_
  show V c ns 1251 [some (.ref 68), some (.ref 0), some (.ref 36), some (.ref 67), some (.int x4), none, none, none] [.int (xs (x4 + 1).toNatClampNeg), .ref 0] σ
  refine h.run (o := []) (ls' := [some (.ref 68), some (.ref 0), some (.ref 36), some (.ref 67), some (.int x4), none, none, none]) (st' := [.int (x4 + 2), .ref 68, .int (xs (x4 + 1).toNatClampNeg), .ref 0]) (σ' := σ) [(.aload_n 0, 1, 0, 0, 0, 0), (.iload 4, 2, 0, 0, 0, 0), (.iconst 2, 1, 2, 0, 0, 0), (.iadd, 1, 0, 0, 0, 0)] (pc2 := 1256) (by decide +kernel) rfl trivial ?_
  obtain ⟨g2, hf⟩ := gd_some hf
  refine hm.sld g2 (show decode cL_law 1256 = .ok (.iaload, 1) by decide +kernel) ?_
  show V c ns 1257 [some (.ref 68), some (.ref 0), some (.ref 36), some (.ref 67), some (.int x4), none, none, none] [.int (xs (x4 + 2).toNatClampNeg), .int (xs (x4 + 1).toNatClampNeg), .ref 0] σ
  refine h.run (o := []) (ls' := [some (.ref 68), some (.ref 0), some (.ref 36), some (.ref 67), some (.int x4), none, none, none]) (st' := [.int (x4 + 3), .ref 68, .int (xs (x4 + 2).toNatClampNeg), .int (xs (x4 + 1).toNatClampNeg), .ref 0]) (σ' := σ) [(.aload_n 0, 1, 0, 0, 0, 0), (.iload 4, 2, 0, 0, 0, 0), (.iconst 3, 1, 3, 0, 0, 0), (.iadd, 1, 0, 0, 0, 0)] (pc2 := 1262) (by decide +kernel) rfl trivial ?_
  obtain ⟨g3, hf⟩ := gd_some hf
  refine hm.sld g3 (show decode cL_law 1262 = .ok (.iaload, 1) by decide +kernel) ?_
  show V c ns 1263 [some (.ref 68), some (.ref 0), some (.ref 36), some (.ref 67), some (.int x4), none, none, none] [.int (xs (x4 + 3).toNatClampNeg), .int (xs (x4 + 2).toNatClampNeg), .int (xs (x4 + 1).toNatClampNeg), .ref 0] σ
  obtain ⟨a4, σ4, e4, hf⟩ := bI_some hf
  refine h.callV (as := [.int (xs (x4 + 1).toNatClampNeg), .int (xs (x4 + 2).toNatClampNeg), .int (xs (x4 + 3).toNatClampNeg)]) (rest := []) (by decide +kernel) lk7_139 cwX5_put kd_0 (kmX5_put l e4) rfl (Nat.le_of_ble_eq_true rfl) (Nat.le_of_ble_eq_true rfl) (Nat.le_of_ble_eq_true rfl) ?_
  show V c ns 1266 [some (.ref 68), some (.ref 0), some (.ref 36), some (.ref 67), some (.int x4), none, none, none] [.int a4] σ4
  refine h.run (o := []) (ls' := [some (.ref 68), some (.ref 0), some (.ref 36), some (.ref 67), some (.int x4), none, none, none]) (st' := [.int (x4 + 1), .ref 68, .ref 36, .int a4]) (σ' := σ4) [(.aload_n 2, 1, 0, 0, 0, 0), (.aload_n 0, 1, 0, 0, 0, 0), (.iload 4, 2, 0, 0, 0, 0), (.iconst 1, 1, 1, 0, 0, 0), (.iadd, 1, 0, 0, 0, 0)] (pc2 := 1272) (by decide +kernel) rfl trivial ?_
  obtain ⟨g5, hf⟩ := gd_some hf
  refine hm.sld g5 (show decode cL_law 1272 = .ok (.iaload, 1) by decide +kernel) ?_
  show V c ns 1273 [some (.ref 68), some (.ref 0), some (.ref 36), some (.ref 67), some (.int x4), none, none, none] [.int (xs (x4 + 1).toNatClampNeg), .ref 36, .int a4] σ4
  refine h.run (o := []) (ls' := [some (.ref 68), some (.ref 0), some (.ref 36), some (.ref 67), some (.int x4), none, none, none]) (st' := [.int (x4 + 2), .ref 68, .int (xs (x4 + 1).toNatClampNeg), .ref 36, .int a4]) (σ' := σ4) [(.aload_n 0, 1, 0, 0, 0, 0), (.iload 4, 2, 0, 0, 0, 0), (.iconst 2, 1, 2, 0, 0, 0), (.iadd, 1, 0, 0, 0, 0)] (pc2 := 1278) (by decide +kernel) rfl trivial ?_
  obtain ⟨g6, hf⟩ := gd_some hf
  refine hm.sld g6 (show decode cL_law 1278 = .ok (.iaload, 1) by decide +kernel) ?_
  show V c ns 1279 [some (.ref 68), some (.ref 0), some (.ref 36), some (.ref 67), some (.int x4), none, none, none] [.int (xs (x4 + 2).toNatClampNeg), .int (xs (x4 + 1).toNatClampNeg), .ref 36, .int a4] σ4
  refine h.run (o := []) (ls' := [some (.ref 68), some (.ref 0), some (.ref 36), some (.ref 67), some (.int x4), none, none, none]) (st' := [.int (x4 + 3), .ref 68, .int (xs (x4 + 2).toNatClampNeg), .int (xs (x4 + 1).toNatClampNeg), .ref 36, .int a4]) (σ' := σ4) [(.aload_n 0, 1, 0, 0, 0, 0), (.iload 4, 2, 0, 0, 0, 0), (.iconst 3, 1, 3, 0, 0, 0), (.iadd, 1, 0, 0, 0, 0)] (pc2 := 1284) (by decide +kernel) rfl trivial ?_
  obtain ⟨g7, hf⟩ := gd_some hf
  refine hm.sld g7 (show decode cL_law 1284 = .ok (.iaload, 1) by decide +kernel) ?_
  show V c ns 1285 [some (.ref 68), some (.ref 0), some (.ref 36), some (.ref 67), some (.int x4), none, none, none] [.int (xs (x4 + 3).toNatClampNeg), .int (xs (x4 + 2).toNatClampNeg), .int (xs (x4 + 1).toNatClampNeg), .ref 36, .int a4] σ4
  obtain ⟨a8, σ8, e8, hf⟩ := bI_some hf
  refine h.callV (as := [.int (xs (x4 + 1).toNatClampNeg), .int (xs (x4 + 2).toNatClampNeg), .int (xs (x4 + 3).toNatClampNeg)]) (rest := [.int a4]) (by decide +kernel) lk7_142 cwX6_put kd_36 (kmX6_put l e8) rfl (Nat.le_of_ble_eq_true rfl) (Nat.le_of_ble_eq_true rfl) (Nat.le_of_ble_eq_true rfl) ?_
  show V c ns 1288 [some (.ref 68), some (.ref 0), some (.ref 36), some (.ref 67), some (.int x4), none, none, none] [.int a8, .int a4] σ8
  refine h.icmp_eq (tgt := 1483) (show decode cL_law 1288 = .ok (.if_icmp .eq 195, 3) by decide +kernel) (by decide) (fun c9 => ?_) (fun c9 => ?_)
  · rw [if_pos c9] at hf
    exact wL_law_1483 hm hkt (n := n) (by omega) (by omega) hf
  · rw [if_neg c9] at hf
    show V c ns 1291 [some (.ref 68), some (.ref 0), some (.ref 36), some (.ref 67), some (.int x4), none, none, none] [] σ8
    refine h.run (o := []) (ls' := [some (.ref 68), some (.ref 0), some (.ref 36), some (.ref 67), some (.int x4), none, none, none]) (st' := [.int 0]) (σ' := σ8) [(.iconst 0, 1, 0, 0, 0, 0)] (pc2 := 1292) (by decide +kernel) rfl trivial ?_
    exact absurd (Option.some.inj hf) (by decide)
def fL_law_1357 (xs : Nat → Int32) (L : Nat) (kt_23 : Int32 → ST → Option Int32) (x4 : Int32) (σ : ST) : Option Int32 :=
  fL_law_1483 xs L kt_23 x4 σ
set_option maxHeartbeats 4000000 in
theorem wL_law_1357 {l : Launch} {xs : Nat → Int32} {L n : Nat} {V : Nat → Nat → Nat → List (Option Value) → List Value → ST → Prop} {kt_23 : Int32 → ST → Option Int32} {x4 : Int32} {σ : ST} {c ns : Nat} (hm : BL l xs L V) (hkt : ∀ (c ns : Nat), c + n ≤ 601024 → ns + 6 * n ≤ 7293034 → ∀ (x4 : Int32) (σ : ST), kt_23 x4 σ = some 1 → V c ns 23 [some (.ref 68), some (.ref 0), some (.ref 36), some (.ref 67), some (.int x4), none, none, none] [] σ) (hc : c + (n + 0) ≤ 601024) (hs : ns + 6 * (n + 0) ≤ 7293034) (hf : fL_law_1357 xs L kt_23 x4 σ = some 1) : V c ns 1357 [some (.ref 68), some (.ref 0), some (.ref 36), some (.ref 67), some (.int x4), none, none, none] [] σ := by
  unfold fL_law_1357 at hf
  have h := hm.bd (c := c) (n := ns) (by omega) (by omega)
  refine h.run (o := []) (ls' := [some (.ref 68), some (.ref 0), some (.ref 36), some (.ref 67), some (.int x4), none, none, none]) (st' := []) (σ' := σ) [(.goto 126, 3, 0, 0, 0, 1483)] (pc2 := 1483) (by decide +kernel) rfl trivial ?_
  exact wL_law_1483 hm hkt (n := n) (by omega) (by omega) hf
def fL_law_1293 (xs : Nat → Int32) (L : Nat) (kt_23 : Int32 → ST → Option Int32) (x4 : Int32) (σ : ST) : Option Int32 :=
  gd (inb (x4 + 1) L) <|
  gd (inb (x4 + 2) L) <|
  bI (fL_element (xs (x4 + 1).toNatClampNeg) (xs (x4 + 2).toNatClampNeg) σ) fun a3 σ3 =>
  gd (inb (x4 + 1) L) <|
  gd (inb (x4 + 2) L) <|
  bJ (fX6_element (xs (x4 + 1).toNatClampNeg) (xs (x4 + 2).toNatClampNeg) σ3) fun a6 σ6 =>
  bR (fX6_thrown σ6) fun a7 =>
  if a7 = a3 then
    if a3 = 0 then
      gd (inb 0 (alen 67)) <|
      if (lg_cmp (σ6.2 67 ((0 : Int32).toNatClampNeg)) a6) = 0 then
        fL_law_1357 xs L kt_23 x4 σ6
      else
        some 0
    else
      fL_law_1357 xs L kt_23 x4 σ6
  else
    some 0
set_option maxHeartbeats 4000000 in
theorem wL_law_1293 {l : Launch} {xs : Nat → Int32} {L n : Nat} {V : Nat → Nat → Nat → List (Option Value) → List Value → ST → Prop} {kt_23 : Int32 → ST → Option Int32} {x4 : Int32} {σ : ST} {c ns : Nat} (hm : BL l xs L V) (hkt : ∀ (c ns : Nat), c + n ≤ 601024 → ns + 6 * n ≤ 7293034 → ∀ (x4 : Int32) (σ : ST), kt_23 x4 σ = some 1 → V c ns 23 [some (.ref 68), some (.ref 0), some (.ref 36), some (.ref 67), some (.int x4), none, none, none] [] σ) (hc : c + (n + 1) ≤ 601024) (hs : ns + 6 * (n + 1) ≤ 7293034) (hf : fL_law_1293 xs L kt_23 x4 σ = some 1) : V c ns 1293 [some (.ref 68), some (.ref 0), some (.ref 36), some (.ref 67), some (.int x4), none, none, none] [] σ := by
  unfold fL_law_1293 at hf
  have h := hm.bd (c := c) (n := ns) (by omega) (by omega)
  refine h.run (o := []) (ls' := [some (.ref 68), some (.ref 0), some (.ref 36), some (.ref 67), some (.int x4), none, none, none]) (st' := [.int (x4 + 1), .ref 68, .ref 0]) (σ' := σ) [(.aload_n 1, 1, 0, 0, 0, 0), (.aload_n 0, 1, 0, 0, 0, 0), (.iload 4, 2, 0, 0, 0, 0), (.iconst 1, 1, 1, 0, 0, 0), (.iadd, 1, 0, 0, 0, 0)] (pc2 := 1299) (by decide +kernel) rfl trivial ?_
  obtain ⟨g1, hf⟩ := gd_some hf
  refine hm.sld g1 (show decode cL_law 1299 = .ok (.iaload, 1) by decide +kernel) ?_
  show V c ns 1300 [some (.ref 68), some (.ref 0), some (.ref 36), some (.ref 67), some (.int x4), none, none, none] [.int (xs (x4 + 1).toNatClampNeg), .ref 0] σ
  refine h.run (o := []) (ls' := [some (.ref 68), some (.ref 0), some (.ref 36), some (.ref 67), some (.int x4), none, none, none]) (st' := [.int (x4 + 2), .ref 68, .int (xs (x4 + 1).toNatClampNeg), .ref 0]) (σ' := σ) [(.aload_n 0, 1, 0, 0, 0, 0), (.iload 4, 2, 0, 0, 0, 0), (.iconst 2, 1, 2, 0, 0, 0), (.iadd, 1, 0, 0, 0, 0)] (pc2 := 1305) (by decide +kernel) rfl trivial ?_
  obtain ⟨g2, hf⟩ := gd_some hf
  refine hm.sld g2 (show decode cL_law 1305 = .ok (.iaload, 1) by decide +kernel) ?_
  show V c ns 1306 [some (.ref 68), some (.ref 0), some (.ref 36), some (.ref 67), some (.int x4), none, none, none] [.int (xs (x4 + 2).toNatClampNeg), .int (xs (x4 + 1).toNatClampNeg), .ref 0] σ
  refine h.run (o := []) (ls' := [some (.ref 68), some (.ref 0), some (.ref 36), some (.ref 67), some (.int x4), none, none, none]) (st' := [.ref 67, .int (xs (x4 + 2).toNatClampNeg), .int (xs (x4 + 1).toNatClampNeg), .ref 0]) (σ' := σ) [(.aload_n 3, 1, 0, 0, 0, 0)] (pc2 := 1307) (by decide +kernel) rfl trivial ?_
  obtain ⟨a3, σ3, e3, hf⟩ := bI_some hf
  refine hm.el e3 (by omega) (by omega) ?_
  have h := hm.bd (c := c + 1) (n := ns + 6) (by omega) (by omega)
  show V (c + 1) (ns + 6) 1310 [some (.ref 68), some (.ref 0), some (.ref 36), some (.ref 67), some (.int x4), none, none, none] [.int a3] σ3
  refine h.run (o := []) (ls' := [some (.ref 68), some (.ref 0), some (.ref 36), some (.ref 67), some (.int x4), some (.int a3), none, none]) (st' := [.int (x4 + 1), .ref 68, .ref 36]) (σ' := σ3) [(.istore 5, 2, 0, 0, 0, 0), (.aload_n 2, 1, 0, 0, 0, 0), (.aload_n 0, 1, 0, 0, 0, 0), (.iload 4, 2, 0, 0, 0, 0), (.iconst 1, 1, 1, 0, 0, 0), (.iadd, 1, 0, 0, 0, 0)] (pc2 := 1318) (by decide +kernel) rfl trivial ?_
  obtain ⟨g4, hf⟩ := gd_some hf
  refine hm.sld g4 (show decode cL_law 1318 = .ok (.iaload, 1) by decide +kernel) ?_
  show V (c + 1) (ns + 6) 1319 [some (.ref 68), some (.ref 0), some (.ref 36), some (.ref 67), some (.int x4), some (.int a3), none, none] [.int (xs (x4 + 1).toNatClampNeg), .ref 36] σ3
  refine h.run (o := []) (ls' := [some (.ref 68), some (.ref 0), some (.ref 36), some (.ref 67), some (.int x4), some (.int a3), none, none]) (st' := [.int (x4 + 2), .ref 68, .int (xs (x4 + 1).toNatClampNeg), .ref 36]) (σ' := σ3) [(.aload_n 0, 1, 0, 0, 0, 0), (.iload 4, 2, 0, 0, 0, 0), (.iconst 2, 1, 2, 0, 0, 0), (.iadd, 1, 0, 0, 0, 0)] (pc2 := 1324) (by decide +kernel) rfl trivial ?_
  obtain ⟨g5, hf⟩ := gd_some hf
  refine hm.sld g5 (show decode cL_law 1324 = .ok (.iaload, 1) by decide +kernel) ?_
  show V (c + 1) (ns + 6) 1325 [some (.ref 68), some (.ref 0), some (.ref 36), some (.ref 67), some (.int x4), some (.int a3), none, none] [.int (xs (x4 + 2).toNatClampNeg), .int (xs (x4 + 1).toNatClampNeg), .ref 36] σ3
  obtain ⟨a6, σ6, e6, hf⟩ := bJ_some hf
  refine h.callV (as := [.int (xs (x4 + 1).toNatClampNeg), .int (xs (x4 + 2).toNatClampNeg)]) (rest := []) (by decide +kernel) lk7_148 cwX6_element kd_36 (kmX6_element l e6) rfl (Nat.le_of_ble_eq_true rfl) (Nat.le_of_ble_eq_true rfl) (Nat.le_of_ble_eq_true rfl) ?_
  show V (c + 1) (ns + 6) 1328 [some (.ref 68), some (.ref 0), some (.ref 36), some (.ref 67), some (.int x4), some (.int a3), none, none] [.long a6] σ6
  refine h.run (o := []) (ls' := [some (.ref 68), some (.ref 0), some (.ref 36), some (.ref 67), some (.int x4), some (.int a3), some (.long a6), none]) (st' := [.ref 36]) (σ' := σ6) [(.lstore 6, 2, 0, 0, 0, 0), (.aload_n 2, 1, 0, 0, 0, 0)] (pc2 := 1331) (by decide +kernel) rfl trivial ?_
  obtain ⟨a7, e7, hf⟩ := bR_some hf
  refine h.callV (as := []) (rest := []) (by decide +kernel) lk7_149 cwX6_thrown kd_36 (kmX6_thrown l e7) rfl (Nat.le_of_ble_eq_true rfl) (Nat.le_of_ble_eq_true rfl) (Nat.le_of_ble_eq_true rfl) ?_
  show V (c + 1) (ns + 6) 1334 [some (.ref 68), some (.ref 0), some (.ref 36), some (.ref 67), some (.int x4), some (.int a3), some (.long a6), none] [.int a7] σ6
  refine h.run (o := []) (ls' := [some (.ref 68), some (.ref 0), some (.ref 36), some (.ref 67), some (.int x4), some (.int a3), some (.long a6), none]) (st' := [.int a3, .int a7]) (σ' := σ6) [(.iload 5, 2, 0, 0, 0, 0)] (pc2 := 1336) (by decide +kernel) rfl trivial ?_
  refine h.icmp_eq (tgt := 1341) (show decode cL_law 1336 = .ok (.if_icmp .eq 5, 3) by decide +kernel) (by decide) (fun c11 => ?_) (fun c11 => ?_)
  · rw [if_pos c11] at hf
    refine h.run (o := []) (ls' := [some (.ref 68), some (.ref 0), some (.ref 36), some (.ref 67), some (.int x4), some (.int a3), some (.long a6), none]) (st' := [.int a3]) (σ' := σ6) [(.iload 5, 2, 0, 0, 0, 0)] (pc2 := 1343) (by decide +kernel) rfl trivial ?_
    refine h.if_ne (tgt := 1357) (show decode cL_law 1343 = .ok (.ifCond .ne 14, 3) by decide +kernel) (by decide) (fun c10 => ?_) (fun c10 => ?_)
    · rw [if_neg c10] at hf
      refine h.drop (ls' := [some (.ref 68), some (.ref 0), some (.ref 36), some (.ref 67), some (.int x4), none, none, none]) (And.intro rfl (And.intro rfl (And.intro rfl (And.intro rfl (And.intro rfl trivial))))) ?_
      exact wL_law_1357 hm hkt (n := n) (by omega) (by omega) hf
    · rw [if_pos c10] at hf
      show V (c + 1) (ns + 6) 1346 [some (.ref 68), some (.ref 0), some (.ref 36), some (.ref 67), some (.int x4), some (.int a3), some (.long a6), none] [] σ6
      obtain ⟨g8, hf⟩ := gd_some hf
      refine h.run (o := [kd 67 = 12, inb 0 (alen 67) = true]) (ls' := [some (.ref 68), some (.ref 0), some (.ref 36), some (.ref 67), some (.int x4), some (.int a3), some (.long a6), none]) (st' := [.int (lg_cmp (σ6.2 67 ((0 : Int32).toNatClampNeg)) a6)]) (σ' := σ6) [(.aload_n 3, 1, 0, 0, 0, 0), (.iconst 0, 1, 0, 0, 0, 0), (.laload, 1, 0, 0, 0, 0), (.lload 6, 2, 0, 0, 0, 0), (.lcmp, 1, 0, 0, 0, 0)] (pc2 := 1352) (by decide +kernel) rfl (And.intro kd_67 (And.intro g8 trivial)) ?_
      refine h.if_eq (tgt := 1357) (show decode cL_law 1352 = .ok (.ifCond .eq 5, 3) by decide +kernel) (by decide) (fun c9 => ?_) (fun c9 => ?_)
      · rw [if_pos c9] at hf
        refine h.drop (ls' := [some (.ref 68), some (.ref 0), some (.ref 36), some (.ref 67), some (.int x4), none, none, none]) (And.intro rfl (And.intro rfl (And.intro rfl (And.intro rfl (And.intro rfl trivial))))) ?_
        exact wL_law_1357 hm hkt (n := n) (by omega) (by omega) hf
      · rw [if_neg c9] at hf
        show V (c + 1) (ns + 6) 1355 [some (.ref 68), some (.ref 0), some (.ref 36), some (.ref 67), some (.int x4), some (.int a3), some (.long a6), none] [] σ6
        refine h.run (o := []) (ls' := [some (.ref 68), some (.ref 0), some (.ref 36), some (.ref 67), some (.int x4), some (.int a3), some (.long a6), none]) (st' := [.int 0]) (σ' := σ6) [(.iconst 0, 1, 0, 0, 0, 0)] (pc2 := 1356) (by decide +kernel) rfl trivial ?_
        exact absurd (Option.some.inj hf) (by decide)
  · rw [if_neg c11] at hf
    show V (c + 1) (ns + 6) 1339 [some (.ref 68), some (.ref 0), some (.ref 36), some (.ref 67), some (.int x4), some (.int a3), some (.long a6), none] [] σ6
    refine h.run (o := []) (ls' := [some (.ref 68), some (.ref 0), some (.ref 36), some (.ref 67), some (.int x4), some (.int a3), some (.long a6), none]) (st' := [.int 0]) (σ' := σ6) [(.iconst 0, 1, 0, 0, 0, 0)] (pc2 := 1340) (by decide +kernel) rfl trivial ?_
    exact absurd (Option.some.inj hf) (by decide)
def fL_law_1360 (xs : Nat → Int32) (L : Nat) (kt_23 : Int32 → ST → Option Int32) (x4 : Int32) (σ : ST) : Option Int32 :=
  gd (inb (x4 + 1) L) <|
  gd (inb (x4 + 2) L) <|
  gd (inb (x4 + 3) L) <|
  gd (inb (x4 + 4) L) <|
  gd (inb (x4 + 5) L) <|
  bI (fX5_copy (xs (x4 + 1).toNatClampNeg) (xs (x4 + 2).toNatClampNeg) (xs (x4 + 3).toNatClampNeg) (xs (x4 + 4).toNatClampNeg) (xs (x4 + 5).toNatClampNeg) σ) fun a6 σ6 =>
  gd (inb (x4 + 1) L) <|
  gd (inb (x4 + 2) L) <|
  gd (inb (x4 + 3) L) <|
  gd (inb (x4 + 4) L) <|
  gd (inb (x4 + 5) L) <|
  bI (fX6_copy (xs (x4 + 1).toNatClampNeg) (xs (x4 + 2).toNatClampNeg) (xs (x4 + 3).toNatClampNeg) (xs (x4 + 4).toNatClampNeg) (xs (x4 + 5).toNatClampNeg) σ6) fun a12 σ12 =>
  if a6 = a12 then
    fL_law_1483 xs L kt_23 x4 σ12
  else
    some 0
set_option maxHeartbeats 4000000 in
theorem wL_law_1360 {l : Launch} {xs : Nat → Int32} {L n : Nat} {V : Nat → Nat → Nat → List (Option Value) → List Value → ST → Prop} {kt_23 : Int32 → ST → Option Int32} {x4 : Int32} {σ : ST} {c ns : Nat} (hm : BL l xs L V) (hkt : ∀ (c ns : Nat), c + n ≤ 601024 → ns + 6 * n ≤ 7293034 → ∀ (x4 : Int32) (σ : ST), kt_23 x4 σ = some 1 → V c ns 23 [some (.ref 68), some (.ref 0), some (.ref 36), some (.ref 67), some (.int x4), none, none, none] [] σ) (hc : c + (n + 0) ≤ 601024) (hs : ns + 6 * (n + 0) ≤ 7293034) (hf : fL_law_1360 xs L kt_23 x4 σ = some 1) : V c ns 1360 [some (.ref 68), some (.ref 0), some (.ref 36), some (.ref 67), some (.int x4), none, none, none] [] σ := by
  unfold fL_law_1360 at hf
  have h := hm.bd (c := c) (n := ns) (by omega) (by omega)
  refine h.run (o := []) (ls' := [some (.ref 68), some (.ref 0), some (.ref 36), some (.ref 67), some (.int x4), none, none, none]) (st' := [.int (x4 + 1), .ref 68, .ref 0]) (σ' := σ) [(.aload_n 1, 1, 0, 0, 0, 0), (.aload_n 0, 1, 0, 0, 0, 0), (.iload 4, 2, 0, 0, 0, 0), (.iconst 1, 1, 1, 0, 0, 0), (.iadd, 1, 0, 0, 0, 0)] (pc2 := 1366) (by decide +kernel) rfl trivial ?_
  obtain ⟨g1, hf⟩ := gd_some hf
  refine hm.sld g1 (show decode cL_law 1366 = .ok (.iaload, 1) by decide +kernel) ?_
  show V c ns 1367 [some (.ref 68), some (.ref 0), some (.ref 36), some (.ref 67), some (.int x4), none, none, none] [.int (xs (x4 + 1).toNatClampNeg), .ref 0] σ
  refine h.run (o := []) (ls' := [some (.ref 68), some (.ref 0), some (.ref 36), some (.ref 67), some (.int x4), none, none, none]) (st' := [.int (x4 + 2), .ref 68, .int (xs (x4 + 1).toNatClampNeg), .ref 0]) (σ' := σ) [(.aload_n 0, 1, 0, 0, 0, 0), (.iload 4, 2, 0, 0, 0, 0), (.iconst 2, 1, 2, 0, 0, 0), (.iadd, 1, 0, 0, 0, 0)] (pc2 := 1372) (by decide +kernel) rfl trivial ?_
  obtain ⟨g2, hf⟩ := gd_some hf
  refine hm.sld g2 (show decode cL_law 1372 = .ok (.iaload, 1) by decide +kernel) ?_
  show V c ns 1373 [some (.ref 68), some (.ref 0), some (.ref 36), some (.ref 67), some (.int x4), none, none, none] [.int (xs (x4 + 2).toNatClampNeg), .int (xs (x4 + 1).toNatClampNeg), .ref 0] σ
  refine h.run (o := []) (ls' := [some (.ref 68), some (.ref 0), some (.ref 36), some (.ref 67), some (.int x4), none, none, none]) (st' := [.int (x4 + 3), .ref 68, .int (xs (x4 + 2).toNatClampNeg), .int (xs (x4 + 1).toNatClampNeg), .ref 0]) (σ' := σ) [(.aload_n 0, 1, 0, 0, 0, 0), (.iload 4, 2, 0, 0, 0, 0), (.iconst 3, 1, 3, 0, 0, 0), (.iadd, 1, 0, 0, 0, 0)] (pc2 := 1378) (by decide +kernel) rfl trivial ?_
  obtain ⟨g3, hf⟩ := gd_some hf
  refine hm.sld g3 (show decode cL_law 1378 = .ok (.iaload, 1) by decide +kernel) ?_
  show V c ns 1379 [some (.ref 68), some (.ref 0), some (.ref 36), some (.ref 67), some (.int x4), none, none, none] [.int (xs (x4 + 3).toNatClampNeg), .int (xs (x4 + 2).toNatClampNeg), .int (xs (x4 + 1).toNatClampNeg), .ref 0] σ
  refine h.run (o := []) (ls' := [some (.ref 68), some (.ref 0), some (.ref 36), some (.ref 67), some (.int x4), none, none, none]) (st' := [.int (x4 + 4), .ref 68, .int (xs (x4 + 3).toNatClampNeg), .int (xs (x4 + 2).toNatClampNeg), .int (xs (x4 + 1).toNatClampNeg), .ref 0]) (σ' := σ) [(.aload_n 0, 1, 0, 0, 0, 0), (.iload 4, 2, 0, 0, 0, 0), (.iconst 4, 1, 4, 0, 0, 0), (.iadd, 1, 0, 0, 0, 0)] (pc2 := 1384) (by decide +kernel) rfl trivial ?_
  obtain ⟨g4, hf⟩ := gd_some hf
  refine hm.sld g4 (show decode cL_law 1384 = .ok (.iaload, 1) by decide +kernel) ?_
  show V c ns 1385 [some (.ref 68), some (.ref 0), some (.ref 36), some (.ref 67), some (.int x4), none, none, none] [.int (xs (x4 + 4).toNatClampNeg), .int (xs (x4 + 3).toNatClampNeg), .int (xs (x4 + 2).toNatClampNeg), .int (xs (x4 + 1).toNatClampNeg), .ref 0] σ
  refine h.run (o := []) (ls' := [some (.ref 68), some (.ref 0), some (.ref 36), some (.ref 67), some (.int x4), none, none, none]) (st' := [.int (x4 + 5), .ref 68, .int (xs (x4 + 4).toNatClampNeg), .int (xs (x4 + 3).toNatClampNeg), .int (xs (x4 + 2).toNatClampNeg), .int (xs (x4 + 1).toNatClampNeg), .ref 0]) (σ' := σ) [(.aload_n 0, 1, 0, 0, 0, 0), (.iload 4, 2, 0, 0, 0, 0), (.iconst 5, 1, 5, 0, 0, 0), (.iadd, 1, 0, 0, 0, 0)] (pc2 := 1390) (by decide +kernel) rfl trivial ?_
  obtain ⟨g5, hf⟩ := gd_some hf
  refine hm.sld g5 (show decode cL_law 1390 = .ok (.iaload, 1) by decide +kernel) ?_
  show V c ns 1391 [some (.ref 68), some (.ref 0), some (.ref 36), some (.ref 67), some (.int x4), none, none, none] [.int (xs (x4 + 5).toNatClampNeg), .int (xs (x4 + 4).toNatClampNeg), .int (xs (x4 + 3).toNatClampNeg), .int (xs (x4 + 2).toNatClampNeg), .int (xs (x4 + 1).toNatClampNeg), .ref 0] σ
  obtain ⟨a6, σ6, e6, hf⟩ := bI_some hf
  refine h.callV (as := [.int (xs (x4 + 1).toNatClampNeg), .int (xs (x4 + 2).toNatClampNeg), .int (xs (x4 + 3).toNatClampNeg), .int (xs (x4 + 4).toNatClampNeg), .int (xs (x4 + 5).toNatClampNeg)]) (rest := []) (by decide +kernel) lk7_152 cwX5_copy kd_0 (kmX5_copy l e6) rfl (Nat.le_of_ble_eq_true rfl) (Nat.le_of_ble_eq_true rfl) (Nat.le_of_ble_eq_true rfl) ?_
  show V c ns 1394 [some (.ref 68), some (.ref 0), some (.ref 36), some (.ref 67), some (.int x4), none, none, none] [.int a6] σ6
  refine h.run (o := []) (ls' := [some (.ref 68), some (.ref 0), some (.ref 36), some (.ref 67), some (.int x4), none, none, none]) (st' := [.int (x4 + 1), .ref 68, .ref 36, .int a6]) (σ' := σ6) [(.aload_n 2, 1, 0, 0, 0, 0), (.aload_n 0, 1, 0, 0, 0, 0), (.iload 4, 2, 0, 0, 0, 0), (.iconst 1, 1, 1, 0, 0, 0), (.iadd, 1, 0, 0, 0, 0)] (pc2 := 1400) (by decide +kernel) rfl trivial ?_
  obtain ⟨g7, hf⟩ := gd_some hf
  refine hm.sld g7 (show decode cL_law 1400 = .ok (.iaload, 1) by decide +kernel) ?_
  show V c ns 1401 [some (.ref 68), some (.ref 0), some (.ref 36), some (.ref 67), some (.int x4), none, none, none] [.int (xs (x4 + 1).toNatClampNeg), .ref 36, .int a6] σ6
  refine h.run (o := []) (ls' := [some (.ref 68), some (.ref 0), some (.ref 36), some (.ref 67), some (.int x4), none, none, none]) (st' := [.int (x4 + 2), .ref 68, .int (xs (x4 + 1).toNatClampNeg), .ref 36, .int a6]) (σ' := σ6) [(.aload_n 0, 1, 0, 0, 0, 0), (.iload 4, 2, 0, 0, 0, 0), (.iconst 2, 1, 2, 0, 0, 0), (.iadd, 1, 0, 0, 0, 0)] (pc2 := 1406) (by decide +kernel) rfl trivial ?_
  obtain ⟨g8, hf⟩ := gd_some hf
  refine hm.sld g8 (show decode cL_law 1406 = .ok (.iaload, 1) by decide +kernel) ?_
  show V c ns 1407 [some (.ref 68), some (.ref 0), some (.ref 36), some (.ref 67), some (.int x4), none, none, none] [.int (xs (x4 + 2).toNatClampNeg), .int (xs (x4 + 1).toNatClampNeg), .ref 36, .int a6] σ6
  refine h.run (o := []) (ls' := [some (.ref 68), some (.ref 0), some (.ref 36), some (.ref 67), some (.int x4), none, none, none]) (st' := [.int (x4 + 3), .ref 68, .int (xs (x4 + 2).toNatClampNeg), .int (xs (x4 + 1).toNatClampNeg), .ref 36, .int a6]) (σ' := σ6) [(.aload_n 0, 1, 0, 0, 0, 0), (.iload 4, 2, 0, 0, 0, 0), (.iconst 3, 1, 3, 0, 0, 0), (.iadd, 1, 0, 0, 0, 0)] (pc2 := 1412) (by decide +kernel) rfl trivial ?_
  obtain ⟨g9, hf⟩ := gd_some hf
  refine hm.sld g9 (show decode cL_law 1412 = .ok (.iaload, 1) by decide +kernel) ?_
  show V c ns 1413 [some (.ref 68), some (.ref 0), some (.ref 36), some (.ref 67), some (.int x4), none, none, none] [.int (xs (x4 + 3).toNatClampNeg), .int (xs (x4 + 2).toNatClampNeg), .int (xs (x4 + 1).toNatClampNeg), .ref 36, .int a6] σ6
  refine h.run (o := []) (ls' := [some (.ref 68), some (.ref 0), some (.ref 36), some (.ref 67), some (.int x4), none, none, none]) (st' := [.int (x4 + 4), .ref 68, .int (xs (x4 + 3).toNatClampNeg), .int (xs (x4 + 2).toNatClampNeg), .int (xs (x4 + 1).toNatClampNeg), .ref 36, .int a6]) (σ' := σ6) [(.aload_n 0, 1, 0, 0, 0, 0), (.iload 4, 2, 0, 0, 0, 0), (.iconst 4, 1, 4, 0, 0, 0), (.iadd, 1, 0, 0, 0, 0)] (pc2 := 1418) (by decide +kernel) rfl trivial ?_
  obtain ⟨g10, hf⟩ := gd_some hf
  refine hm.sld g10 (show decode cL_law 1418 = .ok (.iaload, 1) by decide +kernel) ?_
  show V c ns 1419 [some (.ref 68), some (.ref 0), some (.ref 36), some (.ref 67), some (.int x4), none, none, none] [.int (xs (x4 + 4).toNatClampNeg), .int (xs (x4 + 3).toNatClampNeg), .int (xs (x4 + 2).toNatClampNeg), .int (xs (x4 + 1).toNatClampNeg), .ref 36, .int a6] σ6
  refine h.run (o := []) (ls' := [some (.ref 68), some (.ref 0), some (.ref 36), some (.ref 67), some (.int x4), none, none, none]) (st' := [.int (x4 + 5), .ref 68, .int (xs (x4 + 4).toNatClampNeg), .int (xs (x4 + 3).toNatClampNeg), .int (xs (x4 + 2).toNatClampNeg), .int (xs (x4 + 1).toNatClampNeg), .ref 36, .int a6]) (σ' := σ6) [(.aload_n 0, 1, 0, 0, 0, 0), (.iload 4, 2, 0, 0, 0, 0), (.iconst 5, 1, 5, 0, 0, 0), (.iadd, 1, 0, 0, 0, 0)] (pc2 := 1424) (by decide +kernel) rfl trivial ?_
  obtain ⟨g11, hf⟩ := gd_some hf
  refine hm.sld g11 (show decode cL_law 1424 = .ok (.iaload, 1) by decide +kernel) ?_
  show V c ns 1425 [some (.ref 68), some (.ref 0), some (.ref 36), some (.ref 67), some (.int x4), none, none, none] [.int (xs (x4 + 5).toNatClampNeg), .int (xs (x4 + 4).toNatClampNeg), .int (xs (x4 + 3).toNatClampNeg), .int (xs (x4 + 2).toNatClampNeg), .int (xs (x4 + 1).toNatClampNeg), .ref 36, .int a6] σ6
  obtain ⟨a12, σ12, e12, hf⟩ := bI_some hf
  refine h.callV (as := [.int (xs (x4 + 1).toNatClampNeg), .int (xs (x4 + 2).toNatClampNeg), .int (xs (x4 + 3).toNatClampNeg), .int (xs (x4 + 4).toNatClampNeg), .int (xs (x4 + 5).toNatClampNeg)]) (rest := [.int a6]) (by decide +kernel) lk7_156 cwX6_copy kd_36 (kmX6_copy l e12) rfl (Nat.le_of_ble_eq_true rfl) (Nat.le_of_ble_eq_true rfl) (Nat.le_of_ble_eq_true rfl) ?_
  show V c ns 1428 [some (.ref 68), some (.ref 0), some (.ref 36), some (.ref 67), some (.int x4), none, none, none] [.int a12, .int a6] σ12
  refine h.icmp_eq (tgt := 1483) (show decode cL_law 1428 = .ok (.if_icmp .eq 55, 3) by decide +kernel) (by decide) (fun c13 => ?_) (fun c13 => ?_)
  · rw [if_pos c13] at hf
    exact wL_law_1483 hm hkt (n := n) (by omega) (by omega) hf
  · rw [if_neg c13] at hf
    show V c ns 1431 [some (.ref 68), some (.ref 0), some (.ref 36), some (.ref 67), some (.int x4), none, none, none] [] σ12
    refine h.run (o := []) (ls' := [some (.ref 68), some (.ref 0), some (.ref 36), some (.ref 67), some (.int x4), none, none, none]) (st' := [.int 0]) (σ' := σ12) [(.iconst 0, 1, 0, 0, 0, 0)] (pc2 := 1432) (by decide +kernel) rfl trivial ?_
    exact absurd (Option.some.inj hf) (by decide)
def fL_law_1433 (xs : Nat → Int32) (L : Nat) (kt_23 : Int32 → ST → Option Int32) (x4 : Int32) (σ : ST) : Option Int32 :=
  gd (inb (x4 + 1) L) <|
  bR (fX5_faith (xs (x4 + 1).toNatClampNeg) σ) fun a2 =>
  gd (inb (x4 + 1) L) <|
  bI (fX6_faith (xs (x4 + 1).toNatClampNeg) σ) fun a4 σ4 =>
  if a2 = a4 then
    fL_law_1483 xs L kt_23 x4 σ4
  else
    some 0
set_option maxHeartbeats 4000000 in
theorem wL_law_1433 {l : Launch} {xs : Nat → Int32} {L n : Nat} {V : Nat → Nat → Nat → List (Option Value) → List Value → ST → Prop} {kt_23 : Int32 → ST → Option Int32} {x4 : Int32} {σ : ST} {c ns : Nat} (hm : BL l xs L V) (hkt : ∀ (c ns : Nat), c + n ≤ 601024 → ns + 6 * n ≤ 7293034 → ∀ (x4 : Int32) (σ : ST), kt_23 x4 σ = some 1 → V c ns 23 [some (.ref 68), some (.ref 0), some (.ref 36), some (.ref 67), some (.int x4), none, none, none] [] σ) (hc : c + (n + 0) ≤ 601024) (hs : ns + 6 * (n + 0) ≤ 7293034) (hf : fL_law_1433 xs L kt_23 x4 σ = some 1) : V c ns 1433 [some (.ref 68), some (.ref 0), some (.ref 36), some (.ref 67), some (.int x4), none, none, none] [] σ := by
  unfold fL_law_1433 at hf
  have h := hm.bd (c := c) (n := ns) (by omega) (by omega)
  refine h.run (o := []) (ls' := [some (.ref 68), some (.ref 0), some (.ref 36), some (.ref 67), some (.int x4), none, none, none]) (st' := [.int (x4 + 1), .ref 68, .ref 0]) (σ' := σ) [(.aload_n 1, 1, 0, 0, 0, 0), (.aload_n 0, 1, 0, 0, 0, 0), (.iload 4, 2, 0, 0, 0, 0), (.iconst 1, 1, 1, 0, 0, 0), (.iadd, 1, 0, 0, 0, 0)] (pc2 := 1439) (by decide +kernel) rfl trivial ?_
  obtain ⟨g1, hf⟩ := gd_some hf
  refine hm.sld g1 (show decode cL_law 1439 = .ok (.iaload, 1) by decide +kernel) ?_
  show V c ns 1440 [some (.ref 68), some (.ref 0), some (.ref 36), some (.ref 67), some (.int x4), none, none, none] [.int (xs (x4 + 1).toNatClampNeg), .ref 0] σ
  obtain ⟨a2, e2, hf⟩ := bR_some hf
  refine h.callV (as := [.int (xs (x4 + 1).toNatClampNeg)]) (rest := []) (by decide +kernel) lk7_157 cwX5_faith kd_0 (kmX5_faith l e2) rfl (Nat.le_of_ble_eq_true rfl) (Nat.le_of_ble_eq_true rfl) (Nat.le_of_ble_eq_true rfl) ?_
  show V c ns 1443 [some (.ref 68), some (.ref 0), some (.ref 36), some (.ref 67), some (.int x4), none, none, none] [.int a2] σ
  refine h.run (o := []) (ls' := [some (.ref 68), some (.ref 0), some (.ref 36), some (.ref 67), some (.int x4), none, none, none]) (st' := [.int (x4 + 1), .ref 68, .ref 36, .int a2]) (σ' := σ) [(.aload_n 2, 1, 0, 0, 0, 0), (.aload_n 0, 1, 0, 0, 0, 0), (.iload 4, 2, 0, 0, 0, 0), (.iconst 1, 1, 1, 0, 0, 0), (.iadd, 1, 0, 0, 0, 0)] (pc2 := 1449) (by decide +kernel) rfl trivial ?_
  obtain ⟨g3, hf⟩ := gd_some hf
  refine hm.sld g3 (show decode cL_law 1449 = .ok (.iaload, 1) by decide +kernel) ?_
  show V c ns 1450 [some (.ref 68), some (.ref 0), some (.ref 36), some (.ref 67), some (.int x4), none, none, none] [.int (xs (x4 + 1).toNatClampNeg), .ref 36, .int a2] σ
  obtain ⟨a4, σ4, e4, hf⟩ := bI_some hf
  refine h.callV (as := [.int (xs (x4 + 1).toNatClampNeg)]) (rest := [.int a2]) (by decide +kernel) lk7_160 cwX6_faith kd_36 (kmX6_faith l e4) rfl (Nat.le_of_ble_eq_true rfl) (Nat.le_of_ble_eq_true rfl) (Nat.le_of_ble_eq_true rfl) ?_
  show V c ns 1453 [some (.ref 68), some (.ref 0), some (.ref 36), some (.ref 67), some (.int x4), none, none, none] [.int a4, .int a2] σ4
  refine h.icmp_eq (tgt := 1483) (show decode cL_law 1453 = .ok (.if_icmp .eq 30, 3) by decide +kernel) (by decide) (fun c5 => ?_) (fun c5 => ?_)
  · rw [if_pos c5] at hf
    exact wL_law_1483 hm hkt (n := n) (by omega) (by omega) hf
  · rw [if_neg c5] at hf
    show V c ns 1456 [some (.ref 68), some (.ref 0), some (.ref 36), some (.ref 67), some (.int x4), none, none, none] [] σ4
    refine h.run (o := []) (ls' := [some (.ref 68), some (.ref 0), some (.ref 36), some (.ref 67), some (.int x4), none, none, none]) (st' := [.int 0]) (σ' := σ4) [(.iconst 0, 1, 0, 0, 0, 0)] (pc2 := 1457) (by decide +kernel) rfl trivial ?_
    exact absurd (Option.some.inj hf) (by decide)
def fL_law_1458 (xs : Nat → Int32) (L : Nat) (kt_23 : Int32 → ST → Option Int32) (x4 : Int32) (σ : ST) : Option Int32 :=
  gd (inb (x4 + 1) L) <|
  bR (fX5_toss (xs (x4 + 1).toNatClampNeg) σ) fun a2 =>
  gd (inb (x4 + 1) L) <|
  bI (fX6_toss (xs (x4 + 1).toNatClampNeg) σ) fun a4 σ4 =>
  if a2 = a4 then
    fL_law_1483 xs L kt_23 x4 σ4
  else
    some 0
set_option maxHeartbeats 4000000 in
theorem wL_law_1458 {l : Launch} {xs : Nat → Int32} {L n : Nat} {V : Nat → Nat → Nat → List (Option Value) → List Value → ST → Prop} {kt_23 : Int32 → ST → Option Int32} {x4 : Int32} {σ : ST} {c ns : Nat} (hm : BL l xs L V) (hkt : ∀ (c ns : Nat), c + n ≤ 601024 → ns + 6 * n ≤ 7293034 → ∀ (x4 : Int32) (σ : ST), kt_23 x4 σ = some 1 → V c ns 23 [some (.ref 68), some (.ref 0), some (.ref 36), some (.ref 67), some (.int x4), none, none, none] [] σ) (hc : c + (n + 1) ≤ 601024) (hs : ns + 6 * (n + 1) ≤ 7293034) (hf : fL_law_1458 xs L kt_23 x4 σ = some 1) : V c ns 1458 [some (.ref 68), some (.ref 0), some (.ref 36), some (.ref 67), some (.int x4), none, none, none] [] σ := by
  unfold fL_law_1458 at hf
  have h := hm.bd (c := c) (n := ns) (by omega) (by omega)
  refine h.run (o := []) (ls' := [some (.ref 68), some (.ref 0), some (.ref 36), some (.ref 67), some (.int x4), none, none, none]) (st' := [.int (x4 + 1), .ref 68, .ref 0]) (σ' := σ) [(.aload_n 1, 1, 0, 0, 0, 0), (.aload_n 0, 1, 0, 0, 0, 0), (.iload 4, 2, 0, 0, 0, 0), (.iconst 1, 1, 1, 0, 0, 0), (.iadd, 1, 0, 0, 0, 0)] (pc2 := 1464) (by decide +kernel) rfl trivial ?_
  obtain ⟨g1, hf⟩ := gd_some hf
  refine hm.sld g1 (show decode cL_law 1464 = .ok (.iaload, 1) by decide +kernel) ?_
  show V c ns 1465 [some (.ref 68), some (.ref 0), some (.ref 36), some (.ref 67), some (.int x4), none, none, none] [.int (xs (x4 + 1).toNatClampNeg), .ref 0] σ
  obtain ⟨a2, e2, hf⟩ := bR_some hf
  refine hm.toss (rest := []) e2 (by decide) (by omega) (by omega) ?_
  have h := hm.bd (c := c + 1) (n := ns + 6) (by omega) (by omega)
  show V (c + 1) (ns + 6) 1468 [some (.ref 68), some (.ref 0), some (.ref 36), some (.ref 67), some (.int x4), none, none, none] [.int a2] σ
  refine h.run (o := []) (ls' := [some (.ref 68), some (.ref 0), some (.ref 36), some (.ref 67), some (.int x4), none, none, none]) (st' := [.int (x4 + 1), .ref 68, .ref 36, .int a2]) (σ' := σ) [(.aload_n 2, 1, 0, 0, 0, 0), (.aload_n 0, 1, 0, 0, 0, 0), (.iload 4, 2, 0, 0, 0, 0), (.iconst 1, 1, 1, 0, 0, 0), (.iadd, 1, 0, 0, 0, 0)] (pc2 := 1474) (by decide +kernel) rfl trivial ?_
  obtain ⟨g3, hf⟩ := gd_some hf
  refine hm.sld g3 (show decode cL_law 1474 = .ok (.iaload, 1) by decide +kernel) ?_
  show V (c + 1) (ns + 6) 1475 [some (.ref 68), some (.ref 0), some (.ref 36), some (.ref 67), some (.int x4), none, none, none] [.int (xs (x4 + 1).toNatClampNeg), .ref 36, .int a2] σ
  obtain ⟨a4, σ4, e4, hf⟩ := bI_some hf
  refine h.callV (as := [.int (xs (x4 + 1).toNatClampNeg)]) (rest := [.int a2]) (by decide +kernel) lk7_164 cwX6_toss kd_36 (kmX6_toss l e4) rfl (Nat.le_of_ble_eq_true rfl) (Nat.le_of_ble_eq_true rfl) (Nat.le_of_ble_eq_true rfl) ?_
  show V (c + 1) (ns + 6) 1478 [some (.ref 68), some (.ref 0), some (.ref 36), some (.ref 67), some (.int x4), none, none, none] [.int a4, .int a2] σ4
  refine h.icmp_eq (tgt := 1483) (show decode cL_law 1478 = .ok (.if_icmp .eq 5, 3) by decide +kernel) (by decide) (fun c5 => ?_) (fun c5 => ?_)
  · rw [if_pos c5] at hf
    exact wL_law_1483 hm hkt (n := n) (by omega) (by omega) hf
  · rw [if_neg c5] at hf
    show V (c + 1) (ns + 6) 1481 [some (.ref 68), some (.ref 0), some (.ref 36), some (.ref 67), some (.int x4), none, none, none] [] σ4
    refine h.run (o := []) (ls' := [some (.ref 68), some (.ref 0), some (.ref 36), some (.ref 67), some (.int x4), none, none, none]) (st' := [.int 0]) (σ' := σ4) [(.iconst 0, 1, 0, 0, 0, 0)] (pc2 := 1482) (by decide +kernel) rfl trivial ?_
    exact absurd (Option.some.inj hf) (by decide)
