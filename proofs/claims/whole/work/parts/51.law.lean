def fL_law_1483 (xs : Nat → Int32) (L : Nat) (kt_23 : Int32 → ST → Option Int32) (x4 : Int32) (σ : ST) : Option Int32 :=
  kt_23 (x4 + 6) σ
set_option maxHeartbeats 4000000 in
theorem wL_law_1483 {l : Launch} {xs : Nat → Int32} {L n : Nat} {V : Nat → Nat → Nat → List (Option Value) → List Value → ST → Prop} {kt_23 : Int32 → ST → Option Int32} {x4 : Int32} {σ : ST} {c ns : Nat} (hm : BL l xs L V) (hkt : ∀ (c ns : Nat), c + n ≤ 601024 → ns + 6 * n ≤ 7293034 → ∀ (x4 : Int32) (σ : ST), kt_23 x4 σ = some 1 → V c ns 23 [some (.ref 68), some (.ref 0), some (.ref 36), some (.ref 67), some (.int x4), none, none, none] [] σ) (hc : c + (n + 0) ≤ 601024) (hs : ns + 6 * (n + 0) ≤ 7293034) (hf : fL_law_1483 xs L kt_23 x4 σ = some 1) : V c ns 1483 [some (.ref 68), some (.ref 0), some (.ref 36), some (.ref 67), some (.int x4), none, none, none] [] σ := by
  unfold fL_law_1483 at hf
  have h := hm.bd (c := c) (n := ns) (by omega) (by omega)
  refine h.run (o := []) (ls' := [some (.ref 68), some (.ref 0), some (.ref 36), some (.ref 67), some (.int (x4 + 6)), none, none, none]) (st' := []) (σ' := σ) [(.iinc 4 6, 3, 6, 0, 0, 0), (.goto (-1463), 3, 0, 0, 0, 23)] (pc2 := 23) (by decide +kernel) rfl trivial ?_
  exact hkt c ns (by omega) (by omega) (x4 + 6) _ hf
def fL_law_188 (xs : Nat → Int32) (L : Nat) (kt_23 : Int32 → ST → Option Int32) (x4 : Int32) (σ : ST) : Option Int32 :=
  gd (inb (x4 + 1) L) <|
  bI (fX5_room (xs (x4 + 1).toNatClampNeg) σ) fun a2 σ2 =>
  gd (inb (x4 + 1) L) <|
  bI (fX6_room (xs (x4 + 1).toNatClampNeg) σ2) fun a4 σ4 =>
  if a2 = a4 then
    fL_law_1483 xs L kt_23 x4 σ4
  else
    some 0
set_option maxHeartbeats 4000000 in
theorem wL_law_188 {l : Launch} {xs : Nat → Int32} {L n : Nat} {V : Nat → Nat → Nat → List (Option Value) → List Value → ST → Prop} {kt_23 : Int32 → ST → Option Int32} {x4 : Int32} {σ : ST} {c ns : Nat} (hm : BL l xs L V) (hkt : ∀ (c ns : Nat), c + n ≤ 601024 → ns + 6 * n ≤ 7293034 → ∀ (x4 : Int32) (σ : ST), kt_23 x4 σ = some 1 → V c ns 23 [some (.ref 68), some (.ref 0), some (.ref 36), some (.ref 67), some (.int x4), none, none, none] [] σ) (hc : c + (n + 0) ≤ 601024) (hs : ns + 6 * (n + 0) ≤ 7293034) (hf : fL_law_188 xs L kt_23 x4 σ = some 1) : V c ns 188 [some (.ref 68), some (.ref 0), some (.ref 36), some (.ref 67), some (.int x4), none, none, none] [] σ := by
  unfold fL_law_188 at hf
  have h := hm.bd (c := c) (n := ns) (by omega) (by omega)
  refine h.run (o := []) (ls' := [some (.ref 68), some (.ref 0), some (.ref 36), some (.ref 67), some (.int x4), none, none, none]) (st' := [.int (x4 + 1), .ref 68, .ref 0]) (σ' := σ) [(.aload_n 1, 1, 0, 0, 0, 0), (.aload_n 0, 1, 0, 0, 0, 0), (.iload 4, 2, 0, 0, 0, 0), (.iconst 1, 1, 1, 0, 0, 0), (.iadd, 1, 0, 0, 0, 0)] (pc2 := 194) (by decide +kernel) rfl trivial ?_
  obtain ⟨g1, hf⟩ := gd_some hf
  refine hm.sld g1 (show decode cL_law 194 = .ok (.iaload, 1) by decide +kernel) ?_
  show V c ns 195 [some (.ref 68), some (.ref 0), some (.ref 36), some (.ref 67), some (.int x4), none, none, none] [.int (xs (x4 + 1).toNatClampNeg), .ref 0] σ
  obtain ⟨a2, σ2, e2, hf⟩ := bI_some hf
  refine h.callV (as := [.int (xs (x4 + 1).toNatClampNeg)]) (rest := []) (by decide +kernel) lk7_21 cwX5_room kd_0 (kmX5_room l e2) rfl (Nat.le_of_ble_eq_true rfl) (Nat.le_of_ble_eq_true rfl) (Nat.le_of_ble_eq_true rfl) ?_
  show V c ns 198 [some (.ref 68), some (.ref 0), some (.ref 36), some (.ref 67), some (.int x4), none, none, none] [.int a2] σ2
  refine h.run (o := []) (ls' := [some (.ref 68), some (.ref 0), some (.ref 36), some (.ref 67), some (.int x4), none, none, none]) (st' := [.int (x4 + 1), .ref 68, .ref 36, .int a2]) (σ' := σ2) [(.aload_n 2, 1, 0, 0, 0, 0), (.aload_n 0, 1, 0, 0, 0, 0), (.iload 4, 2, 0, 0, 0, 0), (.iconst 1, 1, 1, 0, 0, 0), (.iadd, 1, 0, 0, 0, 0)] (pc2 := 204) (by decide +kernel) rfl trivial ?_
  obtain ⟨g3, hf⟩ := gd_some hf
  refine hm.sld g3 (show decode cL_law 204 = .ok (.iaload, 1) by decide +kernel) ?_
  show V c ns 205 [some (.ref 68), some (.ref 0), some (.ref 36), some (.ref 67), some (.int x4), none, none, none] [.int (xs (x4 + 1).toNatClampNeg), .ref 36, .int a2] σ2
  obtain ⟨a4, σ4, e4, hf⟩ := bI_some hf
  refine h.callV (as := [.int (xs (x4 + 1).toNatClampNeg)]) (rest := [.int a2]) (by decide +kernel) lk7_25 cwX6_room kd_36 (kmX6_room l e4) rfl (Nat.le_of_ble_eq_true rfl) (Nat.le_of_ble_eq_true rfl) (Nat.le_of_ble_eq_true rfl) ?_
  show V c ns 208 [some (.ref 68), some (.ref 0), some (.ref 36), some (.ref 67), some (.int x4), none, none, none] [.int a4, .int a2] σ4
  refine h.icmp_eq (tgt := 1483) (show decode cL_law 208 = .ok (.if_icmp .eq 1275, 3) by decide +kernel) (by decide) (fun c5 => ?_) (fun c5 => ?_)
  · rw [if_pos c5] at hf
    exact wL_law_1483 hm hkt (n := n) (by omega) (by omega) hf
  · rw [if_neg c5] at hf
    show V c ns 211 [some (.ref 68), some (.ref 0), some (.ref 36), some (.ref 67), some (.int x4), none, none, none] [] σ4
    refine h.run (o := []) (ls' := [some (.ref 68), some (.ref 0), some (.ref 36), some (.ref 67), some (.int x4), none, none, none]) (st' := [.int 0]) (σ' := σ4) [(.iconst 0, 1, 0, 0, 0, 0)] (pc2 := 212) (by decide +kernel) rfl trivial ?_
    exact absurd (Option.some.inj hf) (by decide)
def fL_law_213 (xs : Nat → Int32) (L : Nat) (kt_23 : Int32 → ST → Option Int32) (x4 : Int32) (σ : ST) : Option Int32 :=
  gd (inb (x4 + 1) L) <|
  gd (inb (x4 + 2) L) <|
  bR (fX5_sender (xs (x4 + 1).toNatClampNeg) (xs (x4 + 2).toNatClampNeg) σ) fun a3 =>
  gd (inb (x4 + 1) L) <|
  gd (inb (x4 + 2) L) <|
  bI (fX6_sender (xs (x4 + 1).toNatClampNeg) (xs (x4 + 2).toNatClampNeg) σ) fun a6 σ6 =>
  if a3 = a6 then
    fL_law_1483 xs L kt_23 x4 σ6
  else
    some 0
set_option maxHeartbeats 4000000 in
theorem wL_law_213 {l : Launch} {xs : Nat → Int32} {L n : Nat} {V : Nat → Nat → Nat → List (Option Value) → List Value → ST → Prop} {kt_23 : Int32 → ST → Option Int32} {x4 : Int32} {σ : ST} {c ns : Nat} (hm : BL l xs L V) (hkt : ∀ (c ns : Nat), c + n ≤ 601024 → ns + 6 * n ≤ 7293034 → ∀ (x4 : Int32) (σ : ST), kt_23 x4 σ = some 1 → V c ns 23 [some (.ref 68), some (.ref 0), some (.ref 36), some (.ref 67), some (.int x4), none, none, none] [] σ) (hc : c + (n + 0) ≤ 601024) (hs : ns + 6 * (n + 0) ≤ 7293034) (hf : fL_law_213 xs L kt_23 x4 σ = some 1) : V c ns 213 [some (.ref 68), some (.ref 0), some (.ref 36), some (.ref 67), some (.int x4), none, none, none] [] σ := by
  unfold fL_law_213 at hf
  have h := hm.bd (c := c) (n := ns) (by omega) (by omega)
  refine h.run (o := []) (ls' := [some (.ref 68), some (.ref 0), some (.ref 36), some (.ref 67), some (.int x4), none, none, none]) (st' := [.int (x4 + 1), .ref 68, .ref 0]) (σ' := σ) [(.aload_n 1, 1, 0, 0, 0, 0), (.aload_n 0, 1, 0, 0, 0, 0), (.iload 4, 2, 0, 0, 0, 0), (.iconst 1, 1, 1, 0, 0, 0), (.iadd, 1, 0, 0, 0, 0)] (pc2 := 219) (by decide +kernel) rfl trivial ?_
  obtain ⟨g1, hf⟩ := gd_some hf
  refine hm.sld g1 (show decode cL_law 219 = .ok (.iaload, 1) by decide +kernel) ?_
  show V c ns 220 [some (.ref 68), some (.ref 0), some (.ref 36), some (.ref 67), some (.int x4), none, none, none] [.int (xs (x4 + 1).toNatClampNeg), .ref 0] σ
  refine h.run (o := []) (ls' := [some (.ref 68), some (.ref 0), some (.ref 36), some (.ref 67), some (.int x4), none, none, none]) (st' := [.int (x4 + 2), .ref 68, .int (xs (x4 + 1).toNatClampNeg), .ref 0]) (σ' := σ) [(.aload_n 0, 1, 0, 0, 0, 0), (.iload 4, 2, 0, 0, 0, 0), (.iconst 2, 1, 2, 0, 0, 0), (.iadd, 1, 0, 0, 0, 0)] (pc2 := 225) (by decide +kernel) rfl trivial ?_
  obtain ⟨g2, hf⟩ := gd_some hf
  refine hm.sld g2 (show decode cL_law 225 = .ok (.iaload, 1) by decide +kernel) ?_
  show V c ns 226 [some (.ref 68), some (.ref 0), some (.ref 36), some (.ref 67), some (.int x4), none, none, none] [.int (xs (x4 + 2).toNatClampNeg), .int (xs (x4 + 1).toNatClampNeg), .ref 0] σ
  obtain ⟨a3, e3, hf⟩ := bR_some hf
  refine h.callV (as := [.int (xs (x4 + 1).toNatClampNeg), .int (xs (x4 + 2).toNatClampNeg)]) (rest := []) (by decide +kernel) lk7_26 cwX5_sender kd_0 (kmX5_sender l e3) rfl (Nat.le_of_ble_eq_true rfl) (Nat.le_of_ble_eq_true rfl) (Nat.le_of_ble_eq_true rfl) ?_
  show V c ns 229 [some (.ref 68), some (.ref 0), some (.ref 36), some (.ref 67), some (.int x4), none, none, none] [.int a3] σ
  refine h.run (o := []) (ls' := [some (.ref 68), some (.ref 0), some (.ref 36), some (.ref 67), some (.int x4), none, none, none]) (st' := [.int (x4 + 1), .ref 68, .ref 36, .int a3]) (σ' := σ) [(.aload_n 2, 1, 0, 0, 0, 0), (.aload_n 0, 1, 0, 0, 0, 0), (.iload 4, 2, 0, 0, 0, 0), (.iconst 1, 1, 1, 0, 0, 0), (.iadd, 1, 0, 0, 0, 0)] (pc2 := 235) (by decide +kernel) rfl trivial ?_
  obtain ⟨g4, hf⟩ := gd_some hf
  refine hm.sld g4 (show decode cL_law 235 = .ok (.iaload, 1) by decide +kernel) ?_
  show V c ns 236 [some (.ref 68), some (.ref 0), some (.ref 36), some (.ref 67), some (.int x4), none, none, none] [.int (xs (x4 + 1).toNatClampNeg), .ref 36, .int a3] σ
  refine h.run (o := []) (ls' := [some (.ref 68), some (.ref 0), some (.ref 36), some (.ref 67), some (.int x4), none, none, none]) (st' := [.int (x4 + 2), .ref 68, .int (xs (x4 + 1).toNatClampNeg), .ref 36, .int a3]) (σ' := σ) [(.aload_n 0, 1, 0, 0, 0, 0), (.iload 4, 2, 0, 0, 0, 0), (.iconst 2, 1, 2, 0, 0, 0), (.iadd, 1, 0, 0, 0, 0)] (pc2 := 241) (by decide +kernel) rfl trivial ?_
  obtain ⟨g5, hf⟩ := gd_some hf
  refine hm.sld g5 (show decode cL_law 241 = .ok (.iaload, 1) by decide +kernel) ?_
  show V c ns 242 [some (.ref 68), some (.ref 0), some (.ref 36), some (.ref 67), some (.int x4), none, none, none] [.int (xs (x4 + 2).toNatClampNeg), .int (xs (x4 + 1).toNatClampNeg), .ref 36, .int a3] σ
  obtain ⟨a6, σ6, e6, hf⟩ := bI_some hf
  refine h.callV (as := [.int (xs (x4 + 1).toNatClampNeg), .int (xs (x4 + 2).toNatClampNeg)]) (rest := [.int a3]) (by decide +kernel) lk7_30 cwX6_sender kd_36 (kmX6_sender l e6) rfl (Nat.le_of_ble_eq_true rfl) (Nat.le_of_ble_eq_true rfl) (Nat.le_of_ble_eq_true rfl) ?_
  show V c ns 245 [some (.ref 68), some (.ref 0), some (.ref 36), some (.ref 67), some (.int x4), none, none, none] [.int a6, .int a3] σ6
  refine h.icmp_eq (tgt := 1483) (show decode cL_law 245 = .ok (.if_icmp .eq 1238, 3) by decide +kernel) (by decide) (fun c7 => ?_) (fun c7 => ?_)
  · rw [if_pos c7] at hf
    exact wL_law_1483 hm hkt (n := n) (by omega) (by omega) hf
  · rw [if_neg c7] at hf
    show V c ns 248 [some (.ref 68), some (.ref 0), some (.ref 36), some (.ref 67), some (.int x4), none, none, none] [] σ6
    refine h.run (o := []) (ls' := [some (.ref 68), some (.ref 0), some (.ref 36), some (.ref 67), some (.int x4), none, none, none]) (st' := [.int 0]) (σ' := σ6) [(.iconst 0, 1, 0, 0, 0, 0)] (pc2 := 249) (by decide +kernel) rfl trivial ?_
    exact absurd (Option.some.inj hf) (by decide)
def fL_law_250 (xs : Nat → Int32) (L : Nat) (kt_23 : Int32 → ST → Option Int32) (x4 : Int32) (σ : ST) : Option Int32 :=
  gd (inb (x4 + 1) L) <|
  gd (inb (x4 + 2) L) <|
  bI (fX5_returner (xs (x4 + 1).toNatClampNeg) (xs (x4 + 2).toNatClampNeg) σ) fun a3 σ3 =>
  gd (inb (x4 + 1) L) <|
  gd (inb (x4 + 2) L) <|
  bI (fX6_returner (xs (x4 + 1).toNatClampNeg) (xs (x4 + 2).toNatClampNeg) σ3) fun a6 σ6 =>
  if a3 = a6 then
    fL_law_1483 xs L kt_23 x4 σ6
  else
    some 0
set_option maxHeartbeats 4000000 in
theorem wL_law_250 {l : Launch} {xs : Nat → Int32} {L n : Nat} {V : Nat → Nat → Nat → List (Option Value) → List Value → ST → Prop} {kt_23 : Int32 → ST → Option Int32} {x4 : Int32} {σ : ST} {c ns : Nat} (hm : BL l xs L V) (hkt : ∀ (c ns : Nat), c + n ≤ 601024 → ns + 6 * n ≤ 7293034 → ∀ (x4 : Int32) (σ : ST), kt_23 x4 σ = some 1 → V c ns 23 [some (.ref 68), some (.ref 0), some (.ref 36), some (.ref 67), some (.int x4), none, none, none] [] σ) (hc : c + (n + 0) ≤ 601024) (hs : ns + 6 * (n + 0) ≤ 7293034) (hf : fL_law_250 xs L kt_23 x4 σ = some 1) : V c ns 250 [some (.ref 68), some (.ref 0), some (.ref 36), some (.ref 67), some (.int x4), none, none, none] [] σ := by
  unfold fL_law_250 at hf
  have h := hm.bd (c := c) (n := ns) (by omega) (by omega)
  refine h.run (o := []) (ls' := [some (.ref 68), some (.ref 0), some (.ref 36), some (.ref 67), some (.int x4), none, none, none]) (st' := [.int (x4 + 1), .ref 68, .ref 0]) (σ' := σ) [(.aload_n 1, 1, 0, 0, 0, 0), (.aload_n 0, 1, 0, 0, 0, 0), (.iload 4, 2, 0, 0, 0, 0), (.iconst 1, 1, 1, 0, 0, 0), (.iadd, 1, 0, 0, 0, 0)] (pc2 := 256) (by decide +kernel) rfl trivial ?_
  obtain ⟨g1, hf⟩ := gd_some hf
  refine hm.sld g1 (show decode cL_law 256 = .ok (.iaload, 1) by decide +kernel) ?_
  show V c ns 257 [some (.ref 68), some (.ref 0), some (.ref 36), some (.ref 67), some (.int x4), none, none, none] [.int (xs (x4 + 1).toNatClampNeg), .ref 0] σ
  refine h.run (o := []) (ls' := [some (.ref 68), some (.ref 0), some (.ref 36), some (.ref 67), some (.int x4), none, none, none]) (st' := [.int (x4 + 2), .ref 68, .int (xs (x4 + 1).toNatClampNeg), .ref 0]) (σ' := σ) [(.aload_n 0, 1, 0, 0, 0, 0), (.iload 4, 2, 0, 0, 0, 0), (.iconst 2, 1, 2, 0, 0, 0), (.iadd, 1, 0, 0, 0, 0)] (pc2 := 262) (by decide +kernel) rfl trivial ?_
  obtain ⟨g2, hf⟩ := gd_some hf
  refine hm.sld g2 (show decode cL_law 262 = .ok (.iaload, 1) by decide +kernel) ?_
  show V c ns 263 [some (.ref 68), some (.ref 0), some (.ref 36), some (.ref 67), some (.int x4), none, none, none] [.int (xs (x4 + 2).toNatClampNeg), .int (xs (x4 + 1).toNatClampNeg), .ref 0] σ
  obtain ⟨a3, σ3, e3, hf⟩ := bI_some hf
  refine h.callV (as := [.int (xs (x4 + 1).toNatClampNeg), .int (xs (x4 + 2).toNatClampNeg)]) (rest := []) (by decide +kernel) lk7_31 cwX5_returner kd_0 (kmX5_returner l e3) rfl (Nat.le_of_ble_eq_true rfl) (Nat.le_of_ble_eq_true rfl) (Nat.le_of_ble_eq_true rfl) ?_
  show V c ns 266 [some (.ref 68), some (.ref 0), some (.ref 36), some (.ref 67), some (.int x4), none, none, none] [.int a3] σ3
  refine h.run (o := []) (ls' := [some (.ref 68), some (.ref 0), some (.ref 36), some (.ref 67), some (.int x4), none, none, none]) (st' := [.int (x4 + 1), .ref 68, .ref 36, .int a3]) (σ' := σ3) [(.aload_n 2, 1, 0, 0, 0, 0), (.aload_n 0, 1, 0, 0, 0, 0), (.iload 4, 2, 0, 0, 0, 0), (.iconst 1, 1, 1, 0, 0, 0), (.iadd, 1, 0, 0, 0, 0)] (pc2 := 272) (by decide +kernel) rfl trivial ?_
  obtain ⟨g4, hf⟩ := gd_some hf
  refine hm.sld g4 (show decode cL_law 272 = .ok (.iaload, 1) by decide +kernel) ?_
  show V c ns 273 [some (.ref 68), some (.ref 0), some (.ref 36), some (.ref 67), some (.int x4), none, none, none] [.int (xs (x4 + 1).toNatClampNeg), .ref 36, .int a3] σ3
  refine h.run (o := []) (ls' := [some (.ref 68), some (.ref 0), some (.ref 36), some (.ref 67), some (.int x4), none, none, none]) (st' := [.int (x4 + 2), .ref 68, .int (xs (x4 + 1).toNatClampNeg), .ref 36, .int a3]) (σ' := σ3) [(.aload_n 0, 1, 0, 0, 0, 0), (.iload 4, 2, 0, 0, 0, 0), (.iconst 2, 1, 2, 0, 0, 0), (.iadd, 1, 0, 0, 0, 0)] (pc2 := 278) (by decide +kernel) rfl trivial ?_
  obtain ⟨g5, hf⟩ := gd_some hf
  refine hm.sld g5 (show decode cL_law 278 = .ok (.iaload, 1) by decide +kernel) ?_
  show V c ns 279 [some (.ref 68), some (.ref 0), some (.ref 36), some (.ref 67), some (.int x4), none, none, none] [.int (xs (x4 + 2).toNatClampNeg), .int (xs (x4 + 1).toNatClampNeg), .ref 36, .int a3] σ3
  obtain ⟨a6, σ6, e6, hf⟩ := bI_some hf
  refine h.callV (as := [.int (xs (x4 + 1).toNatClampNeg), .int (xs (x4 + 2).toNatClampNeg)]) (rest := [.int a3]) (by decide +kernel) lk7_34 cwX6_returner kd_36 (kmX6_returner l e6) rfl (Nat.le_of_ble_eq_true rfl) (Nat.le_of_ble_eq_true rfl) (Nat.le_of_ble_eq_true rfl) ?_
  show V c ns 282 [some (.ref 68), some (.ref 0), some (.ref 36), some (.ref 67), some (.int x4), none, none, none] [.int a6, .int a3] σ6
  refine h.icmp_eq (tgt := 1483) (show decode cL_law 282 = .ok (.if_icmp .eq 1201, 3) by decide +kernel) (by decide) (fun c7 => ?_) (fun c7 => ?_)
  · rw [if_pos c7] at hf
    exact wL_law_1483 hm hkt (n := n) (by omega) (by omega) hf
  · rw [if_neg c7] at hf
    show V c ns 285 [some (.ref 68), some (.ref 0), some (.ref 36), some (.ref 67), some (.int x4), none, none, none] [] σ6
    refine h.run (o := []) (ls' := [some (.ref 68), some (.ref 0), some (.ref 36), some (.ref 67), some (.int x4), none, none, none]) (st' := [.int 0]) (σ' := σ6) [(.iconst 0, 1, 0, 0, 0, 0)] (pc2 := 286) (by decide +kernel) rfl trivial ?_
    exact absurd (Option.some.inj hf) (by decide)
def fL_law_287 (xs : Nat → Int32) (L : Nat) (kt_23 : Int32 → ST → Option Int32) (x4 : Int32) (σ : ST) : Option Int32 :=
  gd (inb (x4 + 1) L) <|
  gd (inb (x4 + 2) L) <|
  bI (fX5_set (xs (x4 + 1).toNatClampNeg) (xs (x4 + 2).toNatClampNeg) σ) fun a3 σ3 =>
  gd (inb (x4 + 1) L) <|
  gd (inb (x4 + 2) L) <|
  bI (fX6_set (xs (x4 + 1).toNatClampNeg) (xs (x4 + 2).toNatClampNeg) σ3) fun a6 σ6 =>
  if a3 = a6 then
    fL_law_1483 xs L kt_23 x4 σ6
  else
    some 0
set_option maxHeartbeats 4000000 in
theorem wL_law_287 {l : Launch} {xs : Nat → Int32} {L n : Nat} {V : Nat → Nat → Nat → List (Option Value) → List Value → ST → Prop} {kt_23 : Int32 → ST → Option Int32} {x4 : Int32} {σ : ST} {c ns : Nat} (hm : BL l xs L V) (hkt : ∀ (c ns : Nat), c + n ≤ 601024 → ns + 6 * n ≤ 7293034 → ∀ (x4 : Int32) (σ : ST), kt_23 x4 σ = some 1 → V c ns 23 [some (.ref 68), some (.ref 0), some (.ref 36), some (.ref 67), some (.int x4), none, none, none] [] σ) (hc : c + (n + 0) ≤ 601024) (hs : ns + 6 * (n + 0) ≤ 7293034) (hf : fL_law_287 xs L kt_23 x4 σ = some 1) : V c ns 287 [some (.ref 68), some (.ref 0), some (.ref 36), some (.ref 67), some (.int x4), none, none, none] [] σ := by
  unfold fL_law_287 at hf
  have h := hm.bd (c := c) (n := ns) (by omega) (by omega)
  refine h.run (o := []) (ls' := [some (.ref 68), some (.ref 0), some (.ref 36), some (.ref 67), some (.int x4), none, none, none]) (st' := [.int (x4 + 1), .ref 68, .ref 0]) (σ' := σ) [(.aload_n 1, 1, 0, 0, 0, 0), (.aload_n 0, 1, 0, 0, 0, 0), (.iload 4, 2, 0, 0, 0, 0), (.iconst 1, 1, 1, 0, 0, 0), (.iadd, 1, 0, 0, 0, 0)] (pc2 := 293) (by decide +kernel) rfl trivial ?_
  obtain ⟨g1, hf⟩ := gd_some hf
  refine hm.sld g1 (show decode cL_law 293 = .ok (.iaload, 1) by decide +kernel) ?_
  show V c ns 294 [some (.ref 68), some (.ref 0), some (.ref 36), some (.ref 67), some (.int x4), none, none, none] [.int (xs (x4 + 1).toNatClampNeg), .ref 0] σ
  refine h.run (o := []) (ls' := [some (.ref 68), some (.ref 0), some (.ref 36), some (.ref 67), some (.int x4), none, none, none]) (st' := [.int (x4 + 2), .ref 68, .int (xs (x4 + 1).toNatClampNeg), .ref 0]) (σ' := σ) [(.aload_n 0, 1, 0, 0, 0, 0), (.iload 4, 2, 0, 0, 0, 0), (.iconst 2, 1, 2, 0, 0, 0), (.iadd, 1, 0, 0, 0, 0)] (pc2 := 299) (by decide +kernel) rfl trivial ?_
  obtain ⟨g2, hf⟩ := gd_some hf
  refine hm.sld g2 (show decode cL_law 299 = .ok (.iaload, 1) by decide +kernel) ?_
  show V c ns 300 [some (.ref 68), some (.ref 0), some (.ref 36), some (.ref 67), some (.int x4), none, none, none] [.int (xs (x4 + 2).toNatClampNeg), .int (xs (x4 + 1).toNatClampNeg), .ref 0] σ
  obtain ⟨a3, σ3, e3, hf⟩ := bI_some hf
  refine h.callV (as := [.int (xs (x4 + 1).toNatClampNeg), .int (xs (x4 + 2).toNatClampNeg)]) (rest := []) (by decide +kernel) lk7_35 cwX5_set kd_0 (kmX5_set l e3) rfl (Nat.le_of_ble_eq_true rfl) (Nat.le_of_ble_eq_true rfl) (Nat.le_of_ble_eq_true rfl) ?_
  show V c ns 303 [some (.ref 68), some (.ref 0), some (.ref 36), some (.ref 67), some (.int x4), none, none, none] [.int a3] σ3
  refine h.run (o := []) (ls' := [some (.ref 68), some (.ref 0), some (.ref 36), some (.ref 67), some (.int x4), none, none, none]) (st' := [.int (x4 + 1), .ref 68, .ref 36, .int a3]) (σ' := σ3) [(.aload_n 2, 1, 0, 0, 0, 0), (.aload_n 0, 1, 0, 0, 0, 0), (.iload 4, 2, 0, 0, 0, 0), (.iconst 1, 1, 1, 0, 0, 0), (.iadd, 1, 0, 0, 0, 0)] (pc2 := 309) (by decide +kernel) rfl trivial ?_
  obtain ⟨g4, hf⟩ := gd_some hf
  refine hm.sld g4 (show decode cL_law 309 = .ok (.iaload, 1) by decide +kernel) ?_
  show V c ns 310 [some (.ref 68), some (.ref 0), some (.ref 36), some (.ref 67), some (.int x4), none, none, none] [.int (xs (x4 + 1).toNatClampNeg), .ref 36, .int a3] σ3
  refine h.run (o := []) (ls' := [some (.ref 68), some (.ref 0), some (.ref 36), some (.ref 67), some (.int x4), none, none, none]) (st' := [.int (x4 + 2), .ref 68, .int (xs (x4 + 1).toNatClampNeg), .ref 36, .int a3]) (σ' := σ3) [(.aload_n 0, 1, 0, 0, 0, 0), (.iload 4, 2, 0, 0, 0, 0), (.iconst 2, 1, 2, 0, 0, 0), (.iadd, 1, 0, 0, 0, 0)] (pc2 := 315) (by decide +kernel) rfl trivial ?_
  obtain ⟨g5, hf⟩ := gd_some hf
  refine hm.sld g5 (show decode cL_law 315 = .ok (.iaload, 1) by decide +kernel) ?_
  show V c ns 316 [some (.ref 68), some (.ref 0), some (.ref 36), some (.ref 67), some (.int x4), none, none, none] [.int (xs (x4 + 2).toNatClampNeg), .int (xs (x4 + 1).toNatClampNeg), .ref 36, .int a3] σ3
  obtain ⟨a6, σ6, e6, hf⟩ := bI_some hf
  refine h.callV (as := [.int (xs (x4 + 1).toNatClampNeg), .int (xs (x4 + 2).toNatClampNeg)]) (rest := [.int a3]) (by decide +kernel) lk7_38 cwX6_set kd_36 (kmX6_set l e6) rfl (Nat.le_of_ble_eq_true rfl) (Nat.le_of_ble_eq_true rfl) (Nat.le_of_ble_eq_true rfl) ?_
  show V c ns 319 [some (.ref 68), some (.ref 0), some (.ref 36), some (.ref 67), some (.int x4), none, none, none] [.int a6, .int a3] σ6
  refine h.icmp_eq (tgt := 1483) (show decode cL_law 319 = .ok (.if_icmp .eq 1164, 3) by decide +kernel) (by decide) (fun c7 => ?_) (fun c7 => ?_)
  · rw [if_pos c7] at hf
    exact wL_law_1483 hm hkt (n := n) (by omega) (by omega) hf
  · rw [if_neg c7] at hf
    show V c ns 322 [some (.ref 68), some (.ref 0), some (.ref 36), some (.ref 67), some (.int x4), none, none, none] [] σ6
    refine h.run (o := []) (ls' := [some (.ref 68), some (.ref 0), some (.ref 36), some (.ref 67), some (.int x4), none, none, none]) (st' := [.int 0]) (σ' := σ6) [(.iconst 0, 1, 0, 0, 0, 0)] (pc2 := 323) (by decide +kernel) rfl trivial ?_
    exact absurd (Option.some.inj hf) (by decide)
def fL_law_324 (xs : Nat → Int32) (L : Nat) (kt_23 : Int32 → ST → Option Int32) (x4 : Int32) (σ : ST) : Option Int32 :=
  gd (inb (x4 + 1) L) <|
  gd (inb (x4 + 2) L) <|
  bI (fX5_holds (xs (x4 + 1).toNatClampNeg) (xs (x4 + 2).toNatClampNeg) σ) fun a3 σ3 =>
  gd (inb (x4 + 1) L) <|
  gd (inb (x4 + 2) L) <|
  bI (fX6_holds (xs (x4 + 1).toNatClampNeg) (xs (x4 + 2).toNatClampNeg) σ3) fun a6 σ6 =>
  if a3 = a6 then
    fL_law_1483 xs L kt_23 x4 σ6
  else
    some 0
set_option maxHeartbeats 4000000 in
theorem wL_law_324 {l : Launch} {xs : Nat → Int32} {L n : Nat} {V : Nat → Nat → Nat → List (Option Value) → List Value → ST → Prop} {kt_23 : Int32 → ST → Option Int32} {x4 : Int32} {σ : ST} {c ns : Nat} (hm : BL l xs L V) (hkt : ∀ (c ns : Nat), c + n ≤ 601024 → ns + 6 * n ≤ 7293034 → ∀ (x4 : Int32) (σ : ST), kt_23 x4 σ = some 1 → V c ns 23 [some (.ref 68), some (.ref 0), some (.ref 36), some (.ref 67), some (.int x4), none, none, none] [] σ) (hc : c + (n + 0) ≤ 601024) (hs : ns + 6 * (n + 0) ≤ 7293034) (hf : fL_law_324 xs L kt_23 x4 σ = some 1) : V c ns 324 [some (.ref 68), some (.ref 0), some (.ref 36), some (.ref 67), some (.int x4), none, none, none] [] σ := by
  unfold fL_law_324 at hf
  have h := hm.bd (c := c) (n := ns) (by omega) (by omega)
  refine h.run (o := []) (ls' := [some (.ref 68), some (.ref 0), some (.ref 36), some (.ref 67), some (.int x4), none, none, none]) (st' := [.int (x4 + 1), .ref 68, .ref 0]) (σ' := σ) [(.aload_n 1, 1, 0, 0, 0, 0), (.aload_n 0, 1, 0, 0, 0, 0), (.iload 4, 2, 0, 0, 0, 0), (.iconst 1, 1, 1, 0, 0, 0), (.iadd, 1, 0, 0, 0, 0)] (pc2 := 330) (by decide +kernel) rfl trivial ?_
  obtain ⟨g1, hf⟩ := gd_some hf
  refine hm.sld g1 (show decode cL_law 330 = .ok (.iaload, 1) by decide +kernel) ?_
  show V c ns 331 [some (.ref 68), some (.ref 0), some (.ref 36), some (.ref 67), some (.int x4), none, none, none] [.int (xs (x4 + 1).toNatClampNeg), .ref 0] σ
  refine h.run (o := []) (ls' := [some (.ref 68), some (.ref 0), some (.ref 36), some (.ref 67), some (.int x4), none, none, none]) (st' := [.int (x4 + 2), .ref 68, .int (xs (x4 + 1).toNatClampNeg), .ref 0]) (σ' := σ) [(.aload_n 0, 1, 0, 0, 0, 0), (.iload 4, 2, 0, 0, 0, 0), (.iconst 2, 1, 2, 0, 0, 0), (.iadd, 1, 0, 0, 0, 0)] (pc2 := 336) (by decide +kernel) rfl trivial ?_
  obtain ⟨g2, hf⟩ := gd_some hf
  refine hm.sld g2 (show decode cL_law 336 = .ok (.iaload, 1) by decide +kernel) ?_
  show V c ns 337 [some (.ref 68), some (.ref 0), some (.ref 36), some (.ref 67), some (.int x4), none, none, none] [.int (xs (x4 + 2).toNatClampNeg), .int (xs (x4 + 1).toNatClampNeg), .ref 0] σ
  obtain ⟨a3, σ3, e3, hf⟩ := bI_some hf
  refine h.callV (as := [.int (xs (x4 + 1).toNatClampNeg), .int (xs (x4 + 2).toNatClampNeg)]) (rest := []) (by decide +kernel) lk7_39 cwX5_holds kd_0 (kmX5_holds l e3) rfl (Nat.le_of_ble_eq_true rfl) (Nat.le_of_ble_eq_true rfl) (Nat.le_of_ble_eq_true rfl) ?_
  show V c ns 340 [some (.ref 68), some (.ref 0), some (.ref 36), some (.ref 67), some (.int x4), none, none, none] [.int a3] σ3
  refine h.run (o := []) (ls' := [some (.ref 68), some (.ref 0), some (.ref 36), some (.ref 67), some (.int x4), none, none, none]) (st' := [.int (x4 + 1), .ref 68, .ref 36, .int a3]) (σ' := σ3) [(.aload_n 2, 1, 0, 0, 0, 0), (.aload_n 0, 1, 0, 0, 0, 0), (.iload 4, 2, 0, 0, 0, 0), (.iconst 1, 1, 1, 0, 0, 0), (.iadd, 1, 0, 0, 0, 0)] (pc2 := 346) (by decide +kernel) rfl trivial ?_
  obtain ⟨g4, hf⟩ := gd_some hf
  refine hm.sld g4 (show decode cL_law 346 = .ok (.iaload, 1) by decide +kernel) ?_
  show V c ns 347 [some (.ref 68), some (.ref 0), some (.ref 36), some (.ref 67), some (.int x4), none, none, none] [.int (xs (x4 + 1).toNatClampNeg), .ref 36, .int a3] σ3
  refine h.run (o := []) (ls' := [some (.ref 68), some (.ref 0), some (.ref 36), some (.ref 67), some (.int x4), none, none, none]) (st' := [.int (x4 + 2), .ref 68, .int (xs (x4 + 1).toNatClampNeg), .ref 36, .int a3]) (σ' := σ3) [(.aload_n 0, 1, 0, 0, 0, 0), (.iload 4, 2, 0, 0, 0, 0), (.iconst 2, 1, 2, 0, 0, 0), (.iadd, 1, 0, 0, 0, 0)] (pc2 := 352) (by decide +kernel) rfl trivial ?_
  obtain ⟨g5, hf⟩ := gd_some hf
  refine hm.sld g5 (show decode cL_law 352 = .ok (.iaload, 1) by decide +kernel) ?_
  show V c ns 353 [some (.ref 68), some (.ref 0), some (.ref 36), some (.ref 67), some (.int x4), none, none, none] [.int (xs (x4 + 2).toNatClampNeg), .int (xs (x4 + 1).toNatClampNeg), .ref 36, .int a3] σ3
  obtain ⟨a6, σ6, e6, hf⟩ := bI_some hf
  refine h.callV (as := [.int (xs (x4 + 1).toNatClampNeg), .int (xs (x4 + 2).toNatClampNeg)]) (rest := [.int a3]) (by decide +kernel) lk7_42 cwX6_holds kd_36 (kmX6_holds l e6) rfl (Nat.le_of_ble_eq_true rfl) (Nat.le_of_ble_eq_true rfl) (Nat.le_of_ble_eq_true rfl) ?_
  show V c ns 356 [some (.ref 68), some (.ref 0), some (.ref 36), some (.ref 67), some (.int x4), none, none, none] [.int a6, .int a3] σ6
  refine h.icmp_eq (tgt := 1483) (show decode cL_law 356 = .ok (.if_icmp .eq 1127, 3) by decide +kernel) (by decide) (fun c7 => ?_) (fun c7 => ?_)
  · rw [if_pos c7] at hf
    exact wL_law_1483 hm hkt (n := n) (by omega) (by omega) hf
  · rw [if_neg c7] at hf
    show V c ns 359 [some (.ref 68), some (.ref 0), some (.ref 36), some (.ref 67), some (.int x4), none, none, none] [] σ6
    refine h.run (o := []) (ls' := [some (.ref 68), some (.ref 0), some (.ref 36), some (.ref 67), some (.int x4), none, none, none]) (st' := [.int 0]) (σ' := σ6) [(.iconst 0, 1, 0, 0, 0, 0)] (pc2 := 360) (by decide +kernel) rfl trivial ?_
    exact absurd (Option.some.inj hf) (by decide)
def fL_law_418 (xs : Nat → Int32) (L : Nat) (kt_23 : Int32 → ST → Option Int32) (x4 : Int32) (t0 : Int32) (t2 : Int32) (t3 : Int32) (t4 : Int32) (σ : ST) : Option Int32 :=
  bI (fX6_pair t2 t3 t4 σ) fun a1 σ1 =>
  if t0 = a1 then
    fL_law_1483 xs L kt_23 x4 σ1
  else
    some 0
set_option maxHeartbeats 4000000 in
theorem wL_law_418 {l : Launch} {xs : Nat → Int32} {L n : Nat} {V : Nat → Nat → Nat → List (Option Value) → List Value → ST → Prop} {kt_23 : Int32 → ST → Option Int32} {x4 : Int32} {t0 : Int32} {t2 : Int32} {t3 : Int32} {t4 : Int32} {σ : ST} {c ns : Nat} (hm : BL l xs L V) (hkt : ∀ (c ns : Nat), c + n ≤ 601024 → ns + 6 * n ≤ 7293034 → ∀ (x4 : Int32) (σ : ST), kt_23 x4 σ = some 1 → V c ns 23 [some (.ref 68), some (.ref 0), some (.ref 36), some (.ref 67), some (.int x4), none, none, none] [] σ) (hc : c + (n + 0) ≤ 601024) (hs : ns + 6 * (n + 0) ≤ 7293034) (hf : fL_law_418 xs L kt_23 x4 t0 t2 t3 t4 σ = some 1) : V c ns 418 [some (.ref 68), some (.ref 0), some (.ref 36), some (.ref 67), some (.int x4), none, none, none] [.int t4, .int t3, .int t2, .ref 36, .int t0] σ := by
  unfold fL_law_418 at hf
  have h := hm.bd (c := c) (n := ns) (by omega) (by omega)
  obtain ⟨a1, σ1, e1, hf⟩ := bI_some hf
  refine h.callV (as := [.int t2, .int t3, .int t4]) (rest := [.int t0]) (by decide +kernel) lk7_47 cwX6_pair kd_36 (kmX6_pair l e1) rfl (Nat.le_of_ble_eq_true rfl) (Nat.le_of_ble_eq_true rfl) (Nat.le_of_ble_eq_true rfl) ?_
  show V c ns 421 [some (.ref 68), some (.ref 0), some (.ref 36), some (.ref 67), some (.int x4), none, none, none] [.int a1, .int t0] σ1
  refine h.icmp_eq (tgt := 1483) (show decode cL_law 421 = .ok (.if_icmp .eq 1062, 3) by decide +kernel) (by decide) (fun c2 => ?_) (fun c2 => ?_)
  · rw [if_pos c2] at hf
    exact wL_law_1483 hm hkt (n := n) (by omega) (by omega) hf
  · rw [if_neg c2] at hf
    show V c ns 424 [some (.ref 68), some (.ref 0), some (.ref 36), some (.ref 67), some (.int x4), none, none, none] [] σ1
    refine h.run (o := []) (ls' := [some (.ref 68), some (.ref 0), some (.ref 36), some (.ref 67), some (.int x4), none, none, none]) (st' := [.int 0]) (σ' := σ1) [(.iconst 0, 1, 0, 0, 0, 0)] (pc2 := 425) (by decide +kernel) rfl trivial ?_
    exact absurd (Option.some.inj hf) (by decide)
def fL_law_388 (xs : Nat → Int32) (L : Nat) (kt_23 : Int32 → ST → Option Int32) (x4 : Int32) (t1 : Int32) (t2 : Int32) (t3 : Int32) (σ : ST) : Option Int32 :=
  bI (fX5_pair t1 t2 t3 σ) fun a1 σ1 =>
  gd (inb (x4 + 1) L) <|
  gd (inb (x4 + 2) L) <|
  gd (inb (x4 + 3) L) <|
  if (xs (x4 + 3).toNatClampNeg) = 0 then
    fL_law_418 xs L kt_23 x4 a1 (xs (x4 + 1).toNatClampNeg) (xs (x4 + 2).toNatClampNeg) 0 σ1
  else
    fL_law_418 xs L kt_23 x4 a1 (xs (x4 + 1).toNatClampNeg) (xs (x4 + 2).toNatClampNeg) 1 σ1
set_option maxHeartbeats 4000000 in
theorem wL_law_388 {l : Launch} {xs : Nat → Int32} {L n : Nat} {V : Nat → Nat → Nat → List (Option Value) → List Value → ST → Prop} {kt_23 : Int32 → ST → Option Int32} {x4 : Int32} {t1 : Int32} {t2 : Int32} {t3 : Int32} {σ : ST} {c ns : Nat} (hm : BL l xs L V) (hkt : ∀ (c ns : Nat), c + n ≤ 601024 → ns + 6 * n ≤ 7293034 → ∀ (x4 : Int32) (σ : ST), kt_23 x4 σ = some 1 → V c ns 23 [some (.ref 68), some (.ref 0), some (.ref 36), some (.ref 67), some (.int x4), none, none, none] [] σ) (hc : c + (n + 0) ≤ 601024) (hs : ns + 6 * (n + 0) ≤ 7293034) (hf : fL_law_388 xs L kt_23 x4 t1 t2 t3 σ = some 1) : V c ns 388 [some (.ref 68), some (.ref 0), some (.ref 36), some (.ref 67), some (.int x4), none, none, none] [.int t3, .int t2, .int t1, .ref 0] σ := by
  unfold fL_law_388 at hf
  have h := hm.bd (c := c) (n := ns) (by omega) (by omega)
  obtain ⟨a1, σ1, e1, hf⟩ := bI_some hf
  refine h.callV (as := [.int t1, .int t2, .int t3]) (rest := []) (by decide +kernel) lk7_43 cwX5_pair kd_0 (kmX5_pair l e1) rfl (Nat.le_of_ble_eq_true rfl) (Nat.le_of_ble_eq_true rfl) (Nat.le_of_ble_eq_true rfl) ?_
  show V c ns 391 [some (.ref 68), some (.ref 0), some (.ref 36), some (.ref 67), some (.int x4), none, none, none] [.int a1] σ1
  refine h.run (o := []) (ls' := [some (.ref 68), some (.ref 0), some (.ref 36), some (.ref 67), some (.int x4), none, none, none]) (st' := [.int (x4 + 1), .ref 68, .ref 36, .int a1]) (σ' := σ1) [(.aload_n 2, 1, 0, 0, 0, 0), (.aload_n 0, 1, 0, 0, 0, 0), (.iload 4, 2, 0, 0, 0, 0), (.iconst 1, 1, 1, 0, 0, 0), (.iadd, 1, 0, 0, 0, 0)] (pc2 := 397) (by decide +kernel) rfl trivial ?_
  obtain ⟨g2, hf⟩ := gd_some hf
  refine hm.sld g2 (show decode cL_law 397 = .ok (.iaload, 1) by decide +kernel) ?_
  show V c ns 398 [some (.ref 68), some (.ref 0), some (.ref 36), some (.ref 67), some (.int x4), none, none, none] [.int (xs (x4 + 1).toNatClampNeg), .ref 36, .int a1] σ1
  refine h.run (o := []) (ls' := [some (.ref 68), some (.ref 0), some (.ref 36), some (.ref 67), some (.int x4), none, none, none]) (st' := [.int (x4 + 2), .ref 68, .int (xs (x4 + 1).toNatClampNeg), .ref 36, .int a1]) (σ' := σ1) [(.aload_n 0, 1, 0, 0, 0, 0), (.iload 4, 2, 0, 0, 0, 0), (.iconst 2, 1, 2, 0, 0, 0), (.iadd, 1, 0, 0, 0, 0)] (pc2 := 403) (by decide +kernel) rfl trivial ?_
  obtain ⟨g3, hf⟩ := gd_some hf
  refine hm.sld g3 (show decode cL_law 403 = .ok (.iaload, 1) by decide +kernel) ?_
  show V c ns 404 [some (.ref 68), some (.ref 0), some (.ref 36), some (.ref 67), some (.int x4), none, none, none] [.int (xs (x4 + 2).toNatClampNeg), .int (xs (x4 + 1).toNatClampNeg), .ref 36, .int a1] σ1
  refine h.run (o := []) (ls' := [some (.ref 68), some (.ref 0), some (.ref 36), some (.ref 67), some (.int x4), none, none, none]) (st' := [.int (x4 + 3), .ref 68, .int (xs (x4 + 2).toNatClampNeg), .int (xs (x4 + 1).toNatClampNeg), .ref 36, .int a1]) (σ' := σ1) [(.aload_n 0, 1, 0, 0, 0, 0), (.iload 4, 2, 0, 0, 0, 0), (.iconst 3, 1, 3, 0, 0, 0), (.iadd, 1, 0, 0, 0, 0)] (pc2 := 409) (by decide +kernel) rfl trivial ?_
  obtain ⟨g4, hf⟩ := gd_some hf
  refine hm.sld g4 (show decode cL_law 409 = .ok (.iaload, 1) by decide +kernel) ?_
  show V c ns 410 [some (.ref 68), some (.ref 0), some (.ref 36), some (.ref 67), some (.int x4), none, none, none] [.int (xs (x4 + 3).toNatClampNeg), .int (xs (x4 + 2).toNatClampNeg), .int (xs (x4 + 1).toNatClampNeg), .ref 36, .int a1] σ1
  refine h.if_eq (tgt := 417) (show decode cL_law 410 = .ok (.ifCond .eq 7, 3) by decide +kernel) (by decide) (fun c5 => ?_) (fun c5 => ?_)
  · rw [if_pos c5] at hf
    refine h.run (o := []) (ls' := [some (.ref 68), some (.ref 0), some (.ref 36), some (.ref 67), some (.int x4), none, none, none]) (st' := [.int 0, .int (xs (x4 + 2).toNatClampNeg), .int (xs (x4 + 1).toNatClampNeg), .ref 36, .int a1]) (σ' := σ1) [(.iconst 0, 1, 0, 0, 0, 0)] (pc2 := 418) (by decide +kernel) rfl trivial ?_
    exact wL_law_418 hm hkt (n := n) (by omega) (by omega) hf
  · rw [if_neg c5] at hf
    show V c ns 413 [some (.ref 68), some (.ref 0), some (.ref 36), some (.ref 67), some (.int x4), none, none, none] [.int (xs (x4 + 2).toNatClampNeg), .int (xs (x4 + 1).toNatClampNeg), .ref 36, .int a1] σ1
    refine h.run (o := []) (ls' := [some (.ref 68), some (.ref 0), some (.ref 36), some (.ref 67), some (.int x4), none, none, none]) (st' := [.int 1, .int (xs (x4 + 2).toNatClampNeg), .int (xs (x4 + 1).toNatClampNeg), .ref 36, .int a1]) (σ' := σ1) [(.iconst 1, 1, 1, 0, 0, 0), (.goto 4, 3, 0, 0, 0, 418)] (pc2 := 418) (by decide +kernel) rfl trivial ?_
    exact wL_law_418 hm hkt (n := n) (by omega) (by omega) hf
def fL_law_361 (xs : Nat → Int32) (L : Nat) (kt_23 : Int32 → ST → Option Int32) (x4 : Int32) (σ : ST) : Option Int32 :=
  gd (inb (x4 + 1) L) <|
  gd (inb (x4 + 2) L) <|
  gd (inb (x4 + 3) L) <|
  if (xs (x4 + 3).toNatClampNeg) = 0 then
    fL_law_388 xs L kt_23 x4 (xs (x4 + 1).toNatClampNeg) (xs (x4 + 2).toNatClampNeg) 0 σ
  else
    fL_law_388 xs L kt_23 x4 (xs (x4 + 1).toNatClampNeg) (xs (x4 + 2).toNatClampNeg) 1 σ
set_option maxHeartbeats 4000000 in
theorem wL_law_361 {l : Launch} {xs : Nat → Int32} {L n : Nat} {V : Nat → Nat → Nat → List (Option Value) → List Value → ST → Prop} {kt_23 : Int32 → ST → Option Int32} {x4 : Int32} {σ : ST} {c ns : Nat} (hm : BL l xs L V) (hkt : ∀ (c ns : Nat), c + n ≤ 601024 → ns + 6 * n ≤ 7293034 → ∀ (x4 : Int32) (σ : ST), kt_23 x4 σ = some 1 → V c ns 23 [some (.ref 68), some (.ref 0), some (.ref 36), some (.ref 67), some (.int x4), none, none, none] [] σ) (hc : c + (n + 0) ≤ 601024) (hs : ns + 6 * (n + 0) ≤ 7293034) (hf : fL_law_361 xs L kt_23 x4 σ = some 1) : V c ns 361 [some (.ref 68), some (.ref 0), some (.ref 36), some (.ref 67), some (.int x4), none, none, none] [] σ := by
  unfold fL_law_361 at hf
  have h := hm.bd (c := c) (n := ns) (by omega) (by omega)
  refine h.run (o := []) (ls' := [some (.ref 68), some (.ref 0), some (.ref 36), some (.ref 67), some (.int x4), none, none, none]) (st' := [.int (x4 + 1), .ref 68, .ref 0]) (σ' := σ) [(.aload_n 1, 1, 0, 0, 0, 0), (.aload_n 0, 1, 0, 0, 0, 0), (.iload 4, 2, 0, 0, 0, 0), (.iconst 1, 1, 1, 0, 0, 0), (.iadd, 1, 0, 0, 0, 0)] (pc2 := 367) (by decide +kernel) rfl trivial ?_
  obtain ⟨g1, hf⟩ := gd_some hf
  refine hm.sld g1 (show decode cL_law 367 = .ok (.iaload, 1) by decide +kernel) ?_
  show V c ns 368 [some (.ref 68), some (.ref 0), some (.ref 36), some (.ref 67), some (.int x4), none, none, none] [.int (xs (x4 + 1).toNatClampNeg), .ref 0] σ
  refine h.run (o := []) (ls' := [some (.ref 68), some (.ref 0), some (.ref 36), some (.ref 67), some (.int x4), none, none, none]) (st' := [.int (x4 + 2), .ref 68, .int (xs (x4 + 1).toNatClampNeg), .ref 0]) (σ' := σ) [(.aload_n 0, 1, 0, 0, 0, 0), (.iload 4, 2, 0, 0, 0, 0), (.iconst 2, 1, 2, 0, 0, 0), (.iadd, 1, 0, 0, 0, 0)] (pc2 := 373) (by decide +kernel) rfl trivial ?_
  obtain ⟨g2, hf⟩ := gd_some hf
  refine hm.sld g2 (show decode cL_law 373 = .ok (.iaload, 1) by decide +kernel) ?_
  show V c ns 374 [some (.ref 68), some (.ref 0), some (.ref 36), some (.ref 67), some (.int x4), none, none, none] [.int (xs (x4 + 2).toNatClampNeg), .int (xs (x4 + 1).toNatClampNeg), .ref 0] σ
  refine h.run (o := []) (ls' := [some (.ref 68), some (.ref 0), some (.ref 36), some (.ref 67), some (.int x4), none, none, none]) (st' := [.int (x4 + 3), .ref 68, .int (xs (x4 + 2).toNatClampNeg), .int (xs (x4 + 1).toNatClampNeg), .ref 0]) (σ' := σ) [(.aload_n 0, 1, 0, 0, 0, 0), (.iload 4, 2, 0, 0, 0, 0), (.iconst 3, 1, 3, 0, 0, 0), (.iadd, 1, 0, 0, 0, 0)] (pc2 := 379) (by decide +kernel) rfl trivial ?_
  obtain ⟨g3, hf⟩ := gd_some hf
  refine hm.sld g3 (show decode cL_law 379 = .ok (.iaload, 1) by decide +kernel) ?_
  show V c ns 380 [some (.ref 68), some (.ref 0), some (.ref 36), some (.ref 67), some (.int x4), none, none, none] [.int (xs (x4 + 3).toNatClampNeg), .int (xs (x4 + 2).toNatClampNeg), .int (xs (x4 + 1).toNatClampNeg), .ref 0] σ
  refine h.if_eq (tgt := 387) (show decode cL_law 380 = .ok (.ifCond .eq 7, 3) by decide +kernel) (by decide) (fun c4 => ?_) (fun c4 => ?_)
  · rw [if_pos c4] at hf
    refine h.run (o := []) (ls' := [some (.ref 68), some (.ref 0), some (.ref 36), some (.ref 67), some (.int x4), none, none, none]) (st' := [.int 0, .int (xs (x4 + 2).toNatClampNeg), .int (xs (x4 + 1).toNatClampNeg), .ref 0]) (σ' := σ) [(.iconst 0, 1, 0, 0, 0, 0)] (pc2 := 388) (by decide +kernel) rfl trivial ?_
    exact wL_law_388 hm hkt (n := n) (by omega) (by omega) hf
  · rw [if_neg c4] at hf
    show V c ns 383 [some (.ref 68), some (.ref 0), some (.ref 36), some (.ref 67), some (.int x4), none, none, none] [.int (xs (x4 + 2).toNatClampNeg), .int (xs (x4 + 1).toNatClampNeg), .ref 0] σ
    refine h.run (o := []) (ls' := [some (.ref 68), some (.ref 0), some (.ref 36), some (.ref 67), some (.int x4), none, none, none]) (st' := [.int 1, .int (xs (x4 + 2).toNatClampNeg), .int (xs (x4 + 1).toNatClampNeg), .ref 0]) (σ' := σ) [(.iconst 1, 1, 1, 0, 0, 0), (.goto 4, 3, 0, 0, 0, 388)] (pc2 := 388) (by decide +kernel) rfl trivial ?_
    exact wL_law_388 hm hkt (n := n) (by omega) (by omega) hf
def fL_law_426 (xs : Nat → Int32) (L : Nat) (kt_23 : Int32 → ST → Option Int32) (x4 : Int32) (σ : ST) : Option Int32 :=
  bI (fX5_all σ) fun a1 σ1 =>
  bI (fX6_all σ1) fun a2 σ2 =>
  if a1 = a2 then
    fL_law_1483 xs L kt_23 x4 σ2
  else
    some 0
set_option maxHeartbeats 4000000 in
theorem wL_law_426 {l : Launch} {xs : Nat → Int32} {L n : Nat} {V : Nat → Nat → Nat → List (Option Value) → List Value → ST → Prop} {kt_23 : Int32 → ST → Option Int32} {x4 : Int32} {σ : ST} {c ns : Nat} (hm : BL l xs L V) (hkt : ∀ (c ns : Nat), c + n ≤ 601024 → ns + 6 * n ≤ 7293034 → ∀ (x4 : Int32) (σ : ST), kt_23 x4 σ = some 1 → V c ns 23 [some (.ref 68), some (.ref 0), some (.ref 36), some (.ref 67), some (.int x4), none, none, none] [] σ) (hc : c + (n + 0) ≤ 601024) (hs : ns + 6 * (n + 0) ≤ 7293034) (hf : fL_law_426 xs L kt_23 x4 σ = some 1) : V c ns 426 [some (.ref 68), some (.ref 0), some (.ref 36), some (.ref 67), some (.int x4), none, none, none] [] σ := by
  unfold fL_law_426 at hf
  have h := hm.bd (c := c) (n := ns) (by omega) (by omega)
  refine h.run (o := []) (ls' := [some (.ref 68), some (.ref 0), some (.ref 36), some (.ref 67), some (.int x4), none, none, none]) (st' := [.ref 0]) (σ' := σ) [(.aload_n 1, 1, 0, 0, 0, 0)] (pc2 := 427) (by decide +kernel) rfl trivial ?_
  obtain ⟨a1, σ1, e1, hf⟩ := bI_some hf
  refine h.callV (as := []) (rest := []) (by decide +kernel) lk7_48 cwX5_all kd_0 (kmX5_all l e1) rfl (Nat.le_of_ble_eq_true rfl) (Nat.le_of_ble_eq_true rfl) (Nat.le_of_ble_eq_true rfl) ?_
  show V c ns 430 [some (.ref 68), some (.ref 0), some (.ref 36), some (.ref 67), some (.int x4), none, none, none] [.int a1] σ1
  refine h.run (o := []) (ls' := [some (.ref 68), some (.ref 0), some (.ref 36), some (.ref 67), some (.int x4), none, none, none]) (st' := [.ref 36, .int a1]) (σ' := σ1) [(.aload_n 2, 1, 0, 0, 0, 0)] (pc2 := 431) (by decide +kernel) rfl trivial ?_
  obtain ⟨a2, σ2, e2, hf⟩ := bI_some hf
  refine h.callV (as := []) (rest := [.int a1]) (by decide +kernel) lk7_52 cwX6_all kd_36 (kmX6_all l e2) rfl (Nat.le_of_ble_eq_true rfl) (Nat.le_of_ble_eq_true rfl) (Nat.le_of_ble_eq_true rfl) ?_
  show V c ns 434 [some (.ref 68), some (.ref 0), some (.ref 36), some (.ref 67), some (.int x4), none, none, none] [.int a2, .int a1] σ2
  refine h.icmp_eq (tgt := 1483) (show decode cL_law 434 = .ok (.if_icmp .eq 1049, 3) by decide +kernel) (by decide) (fun c3 => ?_) (fun c3 => ?_)
  · rw [if_pos c3] at hf
    exact wL_law_1483 hm hkt (n := n) (by omega) (by omega) hf
  · rw [if_neg c3] at hf
    show V c ns 437 [some (.ref 68), some (.ref 0), some (.ref 36), some (.ref 67), some (.int x4), none, none, none] [] σ2
    refine h.run (o := []) (ls' := [some (.ref 68), some (.ref 0), some (.ref 36), some (.ref 67), some (.int x4), none, none, none]) (st' := [.int 0]) (σ' := σ2) [(.iconst 0, 1, 0, 0, 0, 0)] (pc2 := 438) (by decide +kernel) rfl trivial ?_
    exact absurd (Option.some.inj hf) (by decide)
def fL_law_439 (xs : Nat → Int32) (L : Nat) (kt_23 : Int32 → ST → Option Int32) (x4 : Int32) (σ : ST) : Option Int32 :=
  gd (inb (x4 + 1) L) <|
  gd (inb (x4 + 2) L) <|
  bR (fX5_of (xs (x4 + 1).toNatClampNeg) (xs (x4 + 2).toNatClampNeg) σ) fun a3 =>
  gd (inb (x4 + 1) L) <|
  gd (inb (x4 + 2) L) <|
  bI (fX6_of (xs (x4 + 1).toNatClampNeg) (xs (x4 + 2).toNatClampNeg) σ) fun a6 σ6 =>
  if a3 = a6 then
    fL_law_1483 xs L kt_23 x4 σ6
  else
    some 0
set_option maxHeartbeats 4000000 in
theorem wL_law_439 {l : Launch} {xs : Nat → Int32} {L n : Nat} {V : Nat → Nat → Nat → List (Option Value) → List Value → ST → Prop} {kt_23 : Int32 → ST → Option Int32} {x4 : Int32} {σ : ST} {c ns : Nat} (hm : BL l xs L V) (hkt : ∀ (c ns : Nat), c + n ≤ 601024 → ns + 6 * n ≤ 7293034 → ∀ (x4 : Int32) (σ : ST), kt_23 x4 σ = some 1 → V c ns 23 [some (.ref 68), some (.ref 0), some (.ref 36), some (.ref 67), some (.int x4), none, none, none] [] σ) (hc : c + (n + 0) ≤ 601024) (hs : ns + 6 * (n + 0) ≤ 7293034) (hf : fL_law_439 xs L kt_23 x4 σ = some 1) : V c ns 439 [some (.ref 68), some (.ref 0), some (.ref 36), some (.ref 67), some (.int x4), none, none, none] [] σ := by
  unfold fL_law_439 at hf
  have h := hm.bd (c := c) (n := ns) (by omega) (by omega)
  refine h.run (o := []) (ls' := [some (.ref 68), some (.ref 0), some (.ref 36), some (.ref 67), some (.int x4), none, none, none]) (st' := [.int (x4 + 1), .ref 68, .ref 0]) (σ' := σ) [(.aload_n 1, 1, 0, 0, 0, 0), (.aload_n 0, 1, 0, 0, 0, 0), (.iload 4, 2, 0, 0, 0, 0), (.iconst 1, 1, 1, 0, 0, 0), (.iadd, 1, 0, 0, 0, 0)] (pc2 := 445) (by decide +kernel) rfl trivial ?_
  obtain ⟨g1, hf⟩ := gd_some hf
  refine hm.sld g1 (show decode cL_law 445 = .ok (.iaload, 1) by decide +kernel) ?_
  show V c ns 446 [some (.ref 68), some (.ref 0), some (.ref 36), some (.ref 67), some (.int x4), none, none, none] [.int (xs (x4 + 1).toNatClampNeg), .ref 0] σ
  refine h.run (o := []) (ls' := [some (.ref 68), some (.ref 0), some (.ref 36), some (.ref 67), some (.int x4), none, none, none]) (st' := [.int (x4 + 2), .ref 68, .int (xs (x4 + 1).toNatClampNeg), .ref 0]) (σ' := σ) [(.aload_n 0, 1, 0, 0, 0, 0), (.iload 4, 2, 0, 0, 0, 0), (.iconst 2, 1, 2, 0, 0, 0), (.iadd, 1, 0, 0, 0, 0)] (pc2 := 451) (by decide +kernel) rfl trivial ?_
  obtain ⟨g2, hf⟩ := gd_some hf
  refine hm.sld g2 (show decode cL_law 451 = .ok (.iaload, 1) by decide +kernel) ?_
  show V c ns 452 [some (.ref 68), some (.ref 0), some (.ref 36), some (.ref 67), some (.int x4), none, none, none] [.int (xs (x4 + 2).toNatClampNeg), .int (xs (x4 + 1).toNatClampNeg), .ref 0] σ
  obtain ⟨a3, e3, hf⟩ := bR_some hf
  refine h.callV (as := [.int (xs (x4 + 1).toNatClampNeg), .int (xs (x4 + 2).toNatClampNeg)]) (rest := []) (by decide +kernel) lk7_53 cwX5_of kd_0 (kmX5_of l e3) rfl (Nat.le_of_ble_eq_true rfl) (Nat.le_of_ble_eq_true rfl) (Nat.le_of_ble_eq_true rfl) ?_
  show V c ns 455 [some (.ref 68), some (.ref 0), some (.ref 36), some (.ref 67), some (.int x4), none, none, none] [.int a3] σ
  refine h.run (o := []) (ls' := [some (.ref 68), some (.ref 0), some (.ref 36), some (.ref 67), some (.int x4), none, none, none]) (st' := [.int (x4 + 1), .ref 68, .ref 36, .int a3]) (σ' := σ) [(.aload_n 2, 1, 0, 0, 0, 0), (.aload_n 0, 1, 0, 0, 0, 0), (.iload 4, 2, 0, 0, 0, 0), (.iconst 1, 1, 1, 0, 0, 0), (.iadd, 1, 0, 0, 0, 0)] (pc2 := 461) (by decide +kernel) rfl trivial ?_
  obtain ⟨g4, hf⟩ := gd_some hf
  refine hm.sld g4 (show decode cL_law 461 = .ok (.iaload, 1) by decide +kernel) ?_
  show V c ns 462 [some (.ref 68), some (.ref 0), some (.ref 36), some (.ref 67), some (.int x4), none, none, none] [.int (xs (x4 + 1).toNatClampNeg), .ref 36, .int a3] σ
  refine h.run (o := []) (ls' := [some (.ref 68), some (.ref 0), some (.ref 36), some (.ref 67), some (.int x4), none, none, none]) (st' := [.int (x4 + 2), .ref 68, .int (xs (x4 + 1).toNatClampNeg), .ref 36, .int a3]) (σ' := σ) [(.aload_n 0, 1, 0, 0, 0, 0), (.iload 4, 2, 0, 0, 0, 0), (.iconst 2, 1, 2, 0, 0, 0), (.iadd, 1, 0, 0, 0, 0)] (pc2 := 467) (by decide +kernel) rfl trivial ?_
  obtain ⟨g5, hf⟩ := gd_some hf
  refine hm.sld g5 (show decode cL_law 467 = .ok (.iaload, 1) by decide +kernel) ?_
  show V c ns 468 [some (.ref 68), some (.ref 0), some (.ref 36), some (.ref 67), some (.int x4), none, none, none] [.int (xs (x4 + 2).toNatClampNeg), .int (xs (x4 + 1).toNatClampNeg), .ref 36, .int a3] σ
  obtain ⟨a6, σ6, e6, hf⟩ := bI_some hf
  refine h.callV (as := [.int (xs (x4 + 1).toNatClampNeg), .int (xs (x4 + 2).toNatClampNeg)]) (rest := [.int a3]) (by decide +kernel) lk7_56 cwX6_of kd_36 (kmX6_of l e6) rfl (Nat.le_of_ble_eq_true rfl) (Nat.le_of_ble_eq_true rfl) (Nat.le_of_ble_eq_true rfl) ?_
  show V c ns 471 [some (.ref 68), some (.ref 0), some (.ref 36), some (.ref 67), some (.int x4), none, none, none] [.int a6, .int a3] σ6
  refine h.icmp_eq (tgt := 1483) (show decode cL_law 471 = .ok (.if_icmp .eq 1012, 3) by decide +kernel) (by decide) (fun c7 => ?_) (fun c7 => ?_)
  · rw [if_pos c7] at hf
    exact wL_law_1483 hm hkt (n := n) (by omega) (by omega) hf
  · rw [if_neg c7] at hf
    show V c ns 474 [some (.ref 68), some (.ref 0), some (.ref 36), some (.ref 67), some (.int x4), none, none, none] [] σ6
    refine h.run (o := []) (ls' := [some (.ref 68), some (.ref 0), some (.ref 36), some (.ref 67), some (.int x4), none, none, none]) (st' := [.int 0]) (σ' := σ6) [(.iconst 0, 1, 0, 0, 0, 0)] (pc2 := 475) (by decide +kernel) rfl trivial ?_
    exact absurd (Option.some.inj hf) (by decide)
def fL_law_476 (xs : Nat → Int32) (L : Nat) (kt_23 : Int32 → ST → Option Int32) (x4 : Int32) (σ : ST) : Option Int32 :=
  gd (inb (x4 + 1) L) <|
  gd (inb (x4 + 2) L) <|
  bR (fX5_sumSent (xs (x4 + 1).toNatClampNeg) (xs (x4 + 2).toNatClampNeg) σ) fun a3 =>
  gd (inb (x4 + 1) L) <|
  gd (inb (x4 + 2) L) <|
  bI (fX6_sumSent (xs (x4 + 1).toNatClampNeg) (xs (x4 + 2).toNatClampNeg) σ) fun a6 σ6 =>
  if a3 = a6 then
    fL_law_1483 xs L kt_23 x4 σ6
  else
    some 0
set_option maxHeartbeats 4000000 in
theorem wL_law_476 {l : Launch} {xs : Nat → Int32} {L n : Nat} {V : Nat → Nat → Nat → List (Option Value) → List Value → ST → Prop} {kt_23 : Int32 → ST → Option Int32} {x4 : Int32} {σ : ST} {c ns : Nat} (hm : BL l xs L V) (hkt : ∀ (c ns : Nat), c + n ≤ 601024 → ns + 6 * n ≤ 7293034 → ∀ (x4 : Int32) (σ : ST), kt_23 x4 σ = some 1 → V c ns 23 [some (.ref 68), some (.ref 0), some (.ref 36), some (.ref 67), some (.int x4), none, none, none] [] σ) (hc : c + (n + 0) ≤ 601024) (hs : ns + 6 * (n + 0) ≤ 7293034) (hf : fL_law_476 xs L kt_23 x4 σ = some 1) : V c ns 476 [some (.ref 68), some (.ref 0), some (.ref 36), some (.ref 67), some (.int x4), none, none, none] [] σ := by
  unfold fL_law_476 at hf
  have h := hm.bd (c := c) (n := ns) (by omega) (by omega)
  refine h.run (o := []) (ls' := [some (.ref 68), some (.ref 0), some (.ref 36), some (.ref 67), some (.int x4), none, none, none]) (st' := [.int (x4 + 1), .ref 68, .ref 0]) (σ' := σ) [(.aload_n 1, 1, 0, 0, 0, 0), (.aload_n 0, 1, 0, 0, 0, 0), (.iload 4, 2, 0, 0, 0, 0), (.iconst 1, 1, 1, 0, 0, 0), (.iadd, 1, 0, 0, 0, 0)] (pc2 := 482) (by decide +kernel) rfl trivial ?_
  obtain ⟨g1, hf⟩ := gd_some hf
  refine hm.sld g1 (show decode cL_law 482 = .ok (.iaload, 1) by decide +kernel) ?_
  show V c ns 483 [some (.ref 68), some (.ref 0), some (.ref 36), some (.ref 67), some (.int x4), none, none, none] [.int (xs (x4 + 1).toNatClampNeg), .ref 0] σ
  refine h.run (o := []) (ls' := [some (.ref 68), some (.ref 0), some (.ref 36), some (.ref 67), some (.int x4), none, none, none]) (st' := [.int (x4 + 2), .ref 68, .int (xs (x4 + 1).toNatClampNeg), .ref 0]) (σ' := σ) [(.aload_n 0, 1, 0, 0, 0, 0), (.iload 4, 2, 0, 0, 0, 0), (.iconst 2, 1, 2, 0, 0, 0), (.iadd, 1, 0, 0, 0, 0)] (pc2 := 488) (by decide +kernel) rfl trivial ?_
  obtain ⟨g2, hf⟩ := gd_some hf
  refine hm.sld g2 (show decode cL_law 488 = .ok (.iaload, 1) by decide +kernel) ?_
  show V c ns 489 [some (.ref 68), some (.ref 0), some (.ref 36), some (.ref 67), some (.int x4), none, none, none] [.int (xs (x4 + 2).toNatClampNeg), .int (xs (x4 + 1).toNatClampNeg), .ref 0] σ
  obtain ⟨a3, e3, hf⟩ := bR_some hf
  refine h.callV (as := [.int (xs (x4 + 1).toNatClampNeg), .int (xs (x4 + 2).toNatClampNeg)]) (rest := []) (by decide +kernel) lk7_57 cwX5_sumSent kd_0 (kmX5_sumSent l e3) rfl (Nat.le_of_ble_eq_true rfl) (Nat.le_of_ble_eq_true rfl) (Nat.le_of_ble_eq_true rfl) ?_
  show V c ns 492 [some (.ref 68), some (.ref 0), some (.ref 36), some (.ref 67), some (.int x4), none, none, none] [.int a3] σ
  refine h.run (o := []) (ls' := [some (.ref 68), some (.ref 0), some (.ref 36), some (.ref 67), some (.int x4), none, none, none]) (st' := [.int (x4 + 1), .ref 68, .ref 36, .int a3]) (σ' := σ) [(.aload_n 2, 1, 0, 0, 0, 0), (.aload_n 0, 1, 0, 0, 0, 0), (.iload 4, 2, 0, 0, 0, 0), (.iconst 1, 1, 1, 0, 0, 0), (.iadd, 1, 0, 0, 0, 0)] (pc2 := 498) (by decide +kernel) rfl trivial ?_
  obtain ⟨g4, hf⟩ := gd_some hf
  refine hm.sld g4 (show decode cL_law 498 = .ok (.iaload, 1) by decide +kernel) ?_
  show V c ns 499 [some (.ref 68), some (.ref 0), some (.ref 36), some (.ref 67), some (.int x4), none, none, none] [.int (xs (x4 + 1).toNatClampNeg), .ref 36, .int a3] σ
  refine h.run (o := []) (ls' := [some (.ref 68), some (.ref 0), some (.ref 36), some (.ref 67), some (.int x4), none, none, none]) (st' := [.int (x4 + 2), .ref 68, .int (xs (x4 + 1).toNatClampNeg), .ref 36, .int a3]) (σ' := σ) [(.aload_n 0, 1, 0, 0, 0, 0), (.iload 4, 2, 0, 0, 0, 0), (.iconst 2, 1, 2, 0, 0, 0), (.iadd, 1, 0, 0, 0, 0)] (pc2 := 504) (by decide +kernel) rfl trivial ?_
  obtain ⟨g5, hf⟩ := gd_some hf
  refine hm.sld g5 (show decode cL_law 504 = .ok (.iaload, 1) by decide +kernel) ?_
  show V c ns 505 [some (.ref 68), some (.ref 0), some (.ref 36), some (.ref 67), some (.int x4), none, none, none] [.int (xs (x4 + 2).toNatClampNeg), .int (xs (x4 + 1).toNatClampNeg), .ref 36, .int a3] σ
  obtain ⟨a6, σ6, e6, hf⟩ := bI_some hf
  refine h.callV (as := [.int (xs (x4 + 1).toNatClampNeg), .int (xs (x4 + 2).toNatClampNeg)]) (rest := [.int a3]) (by decide +kernel) lk7_60 cwX6_sumSent kd_36 (kmX6_sumSent l e6) rfl (Nat.le_of_ble_eq_true rfl) (Nat.le_of_ble_eq_true rfl) (Nat.le_of_ble_eq_true rfl) ?_
  show V c ns 508 [some (.ref 68), some (.ref 0), some (.ref 36), some (.ref 67), some (.int x4), none, none, none] [.int a6, .int a3] σ6
  refine h.icmp_eq (tgt := 1483) (show decode cL_law 508 = .ok (.if_icmp .eq 975, 3) by decide +kernel) (by decide) (fun c7 => ?_) (fun c7 => ?_)
  · rw [if_pos c7] at hf
    exact wL_law_1483 hm hkt (n := n) (by omega) (by omega) hf
  · rw [if_neg c7] at hf
    show V c ns 511 [some (.ref 68), some (.ref 0), some (.ref 36), some (.ref 67), some (.int x4), none, none, none] [] σ6
    refine h.run (o := []) (ls' := [some (.ref 68), some (.ref 0), some (.ref 36), some (.ref 67), some (.int x4), none, none, none]) (st' := [.int 0]) (σ' := σ6) [(.iconst 0, 1, 0, 0, 0, 0)] (pc2 := 512) (by decide +kernel) rfl trivial ?_
    exact absurd (Option.some.inj hf) (by decide)
def fL_law_513 (xs : Nat → Int32) (L : Nat) (kt_23 : Int32 → ST → Option Int32) (x4 : Int32) (σ : ST) : Option Int32 :=
  gd (inb (x4 + 1) L) <|
  gd (inb (x4 + 2) L) <|
  bR (fX5_sumCame (xs (x4 + 1).toNatClampNeg) (xs (x4 + 2).toNatClampNeg) σ) fun a3 =>
  gd (inb (x4 + 1) L) <|
  gd (inb (x4 + 2) L) <|
  bI (fX6_sumCame (xs (x4 + 1).toNatClampNeg) (xs (x4 + 2).toNatClampNeg) σ) fun a6 σ6 =>
  if a3 = a6 then
    fL_law_1483 xs L kt_23 x4 σ6
  else
    some 0
set_option maxHeartbeats 4000000 in
theorem wL_law_513 {l : Launch} {xs : Nat → Int32} {L n : Nat} {V : Nat → Nat → Nat → List (Option Value) → List Value → ST → Prop} {kt_23 : Int32 → ST → Option Int32} {x4 : Int32} {σ : ST} {c ns : Nat} (hm : BL l xs L V) (hkt : ∀ (c ns : Nat), c + n ≤ 601024 → ns + 6 * n ≤ 7293034 → ∀ (x4 : Int32) (σ : ST), kt_23 x4 σ = some 1 → V c ns 23 [some (.ref 68), some (.ref 0), some (.ref 36), some (.ref 67), some (.int x4), none, none, none] [] σ) (hc : c + (n + 0) ≤ 601024) (hs : ns + 6 * (n + 0) ≤ 7293034) (hf : fL_law_513 xs L kt_23 x4 σ = some 1) : V c ns 513 [some (.ref 68), some (.ref 0), some (.ref 36), some (.ref 67), some (.int x4), none, none, none] [] σ := by
  unfold fL_law_513 at hf
  have h := hm.bd (c := c) (n := ns) (by omega) (by omega)
  refine h.run (o := []) (ls' := [some (.ref 68), some (.ref 0), some (.ref 36), some (.ref 67), some (.int x4), none, none, none]) (st' := [.int (x4 + 1), .ref 68, .ref 0]) (σ' := σ) [(.aload_n 1, 1, 0, 0, 0, 0), (.aload_n 0, 1, 0, 0, 0, 0), (.iload 4, 2, 0, 0, 0, 0), (.iconst 1, 1, 1, 0, 0, 0), (.iadd, 1, 0, 0, 0, 0)] (pc2 := 519) (by decide +kernel) rfl trivial ?_
  obtain ⟨g1, hf⟩ := gd_some hf
  refine hm.sld g1 (show decode cL_law 519 = .ok (.iaload, 1) by decide +kernel) ?_
  show V c ns 520 [some (.ref 68), some (.ref 0), some (.ref 36), some (.ref 67), some (.int x4), none, none, none] [.int (xs (x4 + 1).toNatClampNeg), .ref 0] σ
  refine h.run (o := []) (ls' := [some (.ref 68), some (.ref 0), some (.ref 36), some (.ref 67), some (.int x4), none, none, none]) (st' := [.int (x4 + 2), .ref 68, .int (xs (x4 + 1).toNatClampNeg), .ref 0]) (σ' := σ) [(.aload_n 0, 1, 0, 0, 0, 0), (.iload 4, 2, 0, 0, 0, 0), (.iconst 2, 1, 2, 0, 0, 0), (.iadd, 1, 0, 0, 0, 0)] (pc2 := 525) (by decide +kernel) rfl trivial ?_
  obtain ⟨g2, hf⟩ := gd_some hf
  refine hm.sld g2 (show decode cL_law 525 = .ok (.iaload, 1) by decide +kernel) ?_
  show V c ns 526 [some (.ref 68), some (.ref 0), some (.ref 36), some (.ref 67), some (.int x4), none, none, none] [.int (xs (x4 + 2).toNatClampNeg), .int (xs (x4 + 1).toNatClampNeg), .ref 0] σ
  obtain ⟨a3, e3, hf⟩ := bR_some hf
  refine h.callV (as := [.int (xs (x4 + 1).toNatClampNeg), .int (xs (x4 + 2).toNatClampNeg)]) (rest := []) (by decide +kernel) lk7_61 cwX5_sumCame kd_0 (kmX5_sumCame l e3) rfl (Nat.le_of_ble_eq_true rfl) (Nat.le_of_ble_eq_true rfl) (Nat.le_of_ble_eq_true rfl) ?_
  show V c ns 529 [some (.ref 68), some (.ref 0), some (.ref 36), some (.ref 67), some (.int x4), none, none, none] [.int a3] σ
  refine h.run (o := []) (ls' := [some (.ref 68), some (.ref 0), some (.ref 36), some (.ref 67), some (.int x4), none, none, none]) (st' := [.int (x4 + 1), .ref 68, .ref 36, .int a3]) (σ' := σ) [(.aload_n 2, 1, 0, 0, 0, 0), (.aload_n 0, 1, 0, 0, 0, 0), (.iload 4, 2, 0, 0, 0, 0), (.iconst 1, 1, 1, 0, 0, 0), (.iadd, 1, 0, 0, 0, 0)] (pc2 := 535) (by decide +kernel) rfl trivial ?_
  obtain ⟨g4, hf⟩ := gd_some hf
  refine hm.sld g4 (show decode cL_law 535 = .ok (.iaload, 1) by decide +kernel) ?_
  show V c ns 536 [some (.ref 68), some (.ref 0), some (.ref 36), some (.ref 67), some (.int x4), none, none, none] [.int (xs (x4 + 1).toNatClampNeg), .ref 36, .int a3] σ
  refine h.run (o := []) (ls' := [some (.ref 68), some (.ref 0), some (.ref 36), some (.ref 67), some (.int x4), none, none, none]) (st' := [.int (x4 + 2), .ref 68, .int (xs (x4 + 1).toNatClampNeg), .ref 36, .int a3]) (σ' := σ) [(.aload_n 0, 1, 0, 0, 0, 0), (.iload 4, 2, 0, 0, 0, 0), (.iconst 2, 1, 2, 0, 0, 0), (.iadd, 1, 0, 0, 0, 0)] (pc2 := 541) (by decide +kernel) rfl trivial ?_
  obtain ⟨g5, hf⟩ := gd_some hf
  refine hm.sld g5 (show decode cL_law 541 = .ok (.iaload, 1) by decide +kernel) ?_
  show V c ns 542 [some (.ref 68), some (.ref 0), some (.ref 36), some (.ref 67), some (.int x4), none, none, none] [.int (xs (x4 + 2).toNatClampNeg), .int (xs (x4 + 1).toNatClampNeg), .ref 36, .int a3] σ
  obtain ⟨a6, σ6, e6, hf⟩ := bI_some hf
  refine h.callV (as := [.int (xs (x4 + 1).toNatClampNeg), .int (xs (x4 + 2).toNatClampNeg)]) (rest := [.int a3]) (by decide +kernel) lk7_64 cwX6_sumCame kd_36 (kmX6_sumCame l e6) rfl (Nat.le_of_ble_eq_true rfl) (Nat.le_of_ble_eq_true rfl) (Nat.le_of_ble_eq_true rfl) ?_
  show V c ns 545 [some (.ref 68), some (.ref 0), some (.ref 36), some (.ref 67), some (.int x4), none, none, none] [.int a6, .int a3] σ6
  refine h.icmp_eq (tgt := 1483) (show decode cL_law 545 = .ok (.if_icmp .eq 938, 3) by decide +kernel) (by decide) (fun c7 => ?_) (fun c7 => ?_)
  · rw [if_pos c7] at hf
    exact wL_law_1483 hm hkt (n := n) (by omega) (by omega) hf
  · rw [if_neg c7] at hf
    show V c ns 548 [some (.ref 68), some (.ref 0), some (.ref 36), some (.ref 67), some (.int x4), none, none, none] [] σ6
    refine h.run (o := []) (ls' := [some (.ref 68), some (.ref 0), some (.ref 36), some (.ref 67), some (.int x4), none, none, none]) (st' := [.int 0]) (σ' := σ6) [(.iconst 0, 1, 0, 0, 0, 0)] (pc2 := 549) (by decide +kernel) rfl trivial ?_
    exact absurd (Option.some.inj hf) (by decide)
def fL_law_550 (xs : Nat → Int32) (L : Nat) (kt_23 : Int32 → ST → Option Int32) (x4 : Int32) (σ : ST) : Option Int32 :=
  gd (inb (x4 + 1) L) <|
  bR (fX5_judge (xs (x4 + 1).toNatClampNeg) σ) fun a2 =>
  gd (inb (x4 + 1) L) <|
  bI (fX6_judge (xs (x4 + 1).toNatClampNeg) σ) fun a4 σ4 =>
  if a2 = a4 then
    fL_law_1483 xs L kt_23 x4 σ4
  else
    some 0
set_option maxHeartbeats 4000000 in
theorem wL_law_550 {l : Launch} {xs : Nat → Int32} {L n : Nat} {V : Nat → Nat → Nat → List (Option Value) → List Value → ST → Prop} {kt_23 : Int32 → ST → Option Int32} {x4 : Int32} {σ : ST} {c ns : Nat} (hm : BL l xs L V) (hkt : ∀ (c ns : Nat), c + n ≤ 601024 → ns + 6 * n ≤ 7293034 → ∀ (x4 : Int32) (σ : ST), kt_23 x4 σ = some 1 → V c ns 23 [some (.ref 68), some (.ref 0), some (.ref 36), some (.ref 67), some (.int x4), none, none, none] [] σ) (hc : c + (n + 0) ≤ 601024) (hs : ns + 6 * (n + 0) ≤ 7293034) (hf : fL_law_550 xs L kt_23 x4 σ = some 1) : V c ns 550 [some (.ref 68), some (.ref 0), some (.ref 36), some (.ref 67), some (.int x4), none, none, none] [] σ := by
  unfold fL_law_550 at hf
  have h := hm.bd (c := c) (n := ns) (by omega) (by omega)
  refine h.run (o := []) (ls' := [some (.ref 68), some (.ref 0), some (.ref 36), some (.ref 67), some (.int x4), none, none, none]) (st' := [.int (x4 + 1), .ref 68, .ref 0]) (σ' := σ) [(.aload_n 1, 1, 0, 0, 0, 0), (.aload_n 0, 1, 0, 0, 0, 0), (.iload 4, 2, 0, 0, 0, 0), (.iconst 1, 1, 1, 0, 0, 0), (.iadd, 1, 0, 0, 0, 0)] (pc2 := 556) (by decide +kernel) rfl trivial ?_
  obtain ⟨g1, hf⟩ := gd_some hf
  refine hm.sld g1 (show decode cL_law 556 = .ok (.iaload, 1) by decide +kernel) ?_
  show V c ns 557 [some (.ref 68), some (.ref 0), some (.ref 36), some (.ref 67), some (.int x4), none, none, none] [.int (xs (x4 + 1).toNatClampNeg), .ref 0] σ
  obtain ⟨a2, e2, hf⟩ := bR_some hf
  refine h.callV (as := [.int (xs (x4 + 1).toNatClampNeg)]) (rest := []) (by decide +kernel) lk7_65 cwX5_judge kd_0 (kmX5_judge l e2) rfl (Nat.le_of_ble_eq_true rfl) (Nat.le_of_ble_eq_true rfl) (Nat.le_of_ble_eq_true rfl) ?_
  show V c ns 560 [some (.ref 68), some (.ref 0), some (.ref 36), some (.ref 67), some (.int x4), none, none, none] [.int a2] σ
  refine h.run (o := []) (ls' := [some (.ref 68), some (.ref 0), some (.ref 36), some (.ref 67), some (.int x4), none, none, none]) (st' := [.int (x4 + 1), .ref 68, .ref 36, .int a2]) (σ' := σ) [(.aload_n 2, 1, 0, 0, 0, 0), (.aload_n 0, 1, 0, 0, 0, 0), (.iload 4, 2, 0, 0, 0, 0), (.iconst 1, 1, 1, 0, 0, 0), (.iadd, 1, 0, 0, 0, 0)] (pc2 := 566) (by decide +kernel) rfl trivial ?_
  obtain ⟨g3, hf⟩ := gd_some hf
  refine hm.sld g3 (show decode cL_law 566 = .ok (.iaload, 1) by decide +kernel) ?_
  show V c ns 567 [some (.ref 68), some (.ref 0), some (.ref 36), some (.ref 67), some (.int x4), none, none, none] [.int (xs (x4 + 1).toNatClampNeg), .ref 36, .int a2] σ
  obtain ⟨a4, σ4, e4, hf⟩ := bI_some hf
  refine h.callV (as := [.int (xs (x4 + 1).toNatClampNeg)]) (rest := [.int a2]) (by decide +kernel) lk7_68 cwX6_judge kd_36 (kmX6_judge l e4) rfl (Nat.le_of_ble_eq_true rfl) (Nat.le_of_ble_eq_true rfl) (Nat.le_of_ble_eq_true rfl) ?_
  show V c ns 570 [some (.ref 68), some (.ref 0), some (.ref 36), some (.ref 67), some (.int x4), none, none, none] [.int a4, .int a2] σ4
  refine h.icmp_eq (tgt := 1483) (show decode cL_law 570 = .ok (.if_icmp .eq 913, 3) by decide +kernel) (by decide) (fun c5 => ?_) (fun c5 => ?_)
  · rw [if_pos c5] at hf
    exact wL_law_1483 hm hkt (n := n) (by omega) (by omega) hf
  · rw [if_neg c5] at hf
    show V c ns 573 [some (.ref 68), some (.ref 0), some (.ref 36), some (.ref 67), some (.int x4), none, none, none] [] σ4
    refine h.run (o := []) (ls' := [some (.ref 68), some (.ref 0), some (.ref 36), some (.ref 67), some (.int x4), none, none, none]) (st' := [.int 0]) (σ' := σ4) [(.iconst 0, 1, 0, 0, 0, 0)] (pc2 := 574) (by decide +kernel) rfl trivial ?_
    exact absurd (Option.some.inj hf) (by decide)
