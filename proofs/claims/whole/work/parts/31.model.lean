/-! Printed by wip/whole/prt.py: functions and walks. -/
def fX6_comes_109 (σ : ST) : Option (Int32 × ST) :=
  some (0, σ)
set_option maxHeartbeats 4000000 in
theorem wX6_comes_109 {l : Launch} {V : Nat → List (Option Value) → List Value → ST → Prop} {r : Int32} {τ : ST} {σ : ST} (hm : BM l 6 cX6_comes 7 (some .boolean) 1 25 (some (.int r)) τ V) (hf : fX6_comes_109 σ = some (r, τ)) : V 109 [none, none, none, none, none, none, none] [] σ := by
  have h := hm.bd
  unfold fX6_comes_109 at hf
  refine h.run (o := []) (ls' := [none, none, none, none, none, none, none]) (st' := [.int 0]) (σ' := σ) [(.iconst 0, 1, 0, 0, 0, 0)] (pc2 := 110) (by decide +kernel) rfl trivial ?_
  obtain ⟨rfl, rfl⟩ := Prod.mk.inj (Option.some.inj hf)
  exact hm.zret (by decide +kernel) rfl
def fX6_comes_174 (σ : ST) : Option (Int32 × ST) :=
  some (0, σ)
set_option maxHeartbeats 4000000 in
theorem wX6_comes_174 {l : Launch} {V : Nat → List (Option Value) → List Value → ST → Prop} {r : Int32} {τ : ST} {σ : ST} (hm : BM l 6 cX6_comes 7 (some .boolean) 1 25 (some (.int r)) τ V) (hf : fX6_comes_174 σ = some (r, τ)) : V 174 [none, none, none, none, none, none, none] [] σ := by
  have h := hm.bd
  unfold fX6_comes_174 at hf
  refine h.run (o := []) (ls' := [none, none, none, none, none, none, none]) (st' := [.int 0]) (σ' := σ) [(.iconst 0, 1, 0, 0, 0, 0)] (pc2 := 175) (by decide +kernel) rfl trivial ?_
  obtain ⟨rfl, rfl⟩ := Prod.mk.inj (Option.some.inj hf)
  exact hm.zret (by decide +kernel) rfl
def fX6_comes_202 (σ : ST) : Option (Int32 × ST) :=
  some (0, σ)
set_option maxHeartbeats 4000000 in
theorem wX6_comes_202 {l : Launch} {V : Nat → List (Option Value) → List Value → ST → Prop} {r : Int32} {τ : ST} {σ : ST} (hm : BM l 6 cX6_comes 7 (some .boolean) 1 25 (some (.int r)) τ V) (hf : fX6_comes_202 σ = some (r, τ)) : V 202 [none, none, none, none, none, none, none] [] σ := by
  have h := hm.bd
  unfold fX6_comes_202 at hf
  refine h.run (o := []) (ls' := [none, none, none, none, none, none, none]) (st' := [.int 0]) (σ' := σ) [(.iconst 0, 1, 0, 0, 0, 0)] (pc2 := 203) (by decide +kernel) rfl trivial ?_
  obtain ⟨rfl, rfl⟩ := Prod.mk.inj (Option.some.inj hf)
  exact hm.zret (by decide +kernel) rfl
def fX6_comes_247 (σ : ST) : Option (Int32 × ST) :=
  some (0, σ)
set_option maxHeartbeats 4000000 in
theorem wX6_comes_247 {l : Launch} {V : Nat → List (Option Value) → List Value → ST → Prop} {r : Int32} {τ : ST} {σ : ST} (hm : BM l 6 cX6_comes 7 (some .boolean) 1 25 (some (.int r)) τ V) (hf : fX6_comes_247 σ = some (r, τ)) : V 247 [none, none, none, none, none, none, none] [] σ := by
  have h := hm.bd
  unfold fX6_comes_247 at hf
  refine h.run (o := []) (ls' := [none, none, none, none, none, none, none]) (st' := [.int 0]) (σ' := σ) [(.iconst 0, 1, 0, 0, 0, 0)] (pc2 := 248) (by decide +kernel) rfl trivial ?_
  obtain ⟨rfl, rfl⟩ := Prod.mk.inj (Option.some.inj hf)
  exact hm.zret (by decide +kernel) rfl
def fX6_comes_273 (x3 : Int32) (x4 : Int32) (x5 : Int32) (x6 : Int32) (t1 : Int32) (t2 : Int32) (σ : ST) : Option (Int32 × ST) :=
  gd (inb t1 (alen 40)) <|
  gd (inb ((setI σ 40 (t1.toNatClampNeg) t2).1 36 7) (alen 41)) <|
  gd (inb ((setI (setI σ 40 (t1.toNatClampNeg) t2) 41 (((setI σ 40 (t1.toNatClampNeg) t2).1 36 7).toNatClampNeg) x3).1 36 7) (alen 42)) <|
  gd (inb ((setI (setI (setI σ 40 (t1.toNatClampNeg) t2) 41 (((setI σ 40 (t1.toNatClampNeg) t2).1 36 7).toNatClampNeg) x3) 42 (((setI (setI σ 40 (t1.toNatClampNeg) t2) 41 (((setI σ 40 (t1.toNatClampNeg) t2).1 36 7).toNatClampNeg) x3).1 36 7).toNatClampNeg) x4).1 36 7) (alen 43)) <|
  gd (inb ((setI (setI (setI (setI σ 40 (t1.toNatClampNeg) t2) 41 (((setI σ 40 (t1.toNatClampNeg) t2).1 36 7).toNatClampNeg) x3) 42 (((setI (setI σ 40 (t1.toNatClampNeg) t2) 41 (((setI σ 40 (t1.toNatClampNeg) t2).1 36 7).toNatClampNeg) x3).1 36 7).toNatClampNeg) x4) 43 (((setI (setI (setI σ 40 (t1.toNatClampNeg) t2) 41 (((setI σ 40 (t1.toNatClampNeg) t2).1 36 7).toNatClampNeg) x3) 42 (((setI (setI σ 40 (t1.toNatClampNeg) t2) 41 (((setI σ 40 (t1.toNatClampNeg) t2).1 36 7).toNatClampNeg) x3).1 36 7).toNatClampNeg) x4).1 36 7).toNatClampNeg) x5).1 36 7) (alen 44)) <|
  gd (inb ((setI (setI (setI (setI (setI σ 40 (t1.toNatClampNeg) t2) 41 (((setI σ 40 (t1.toNatClampNeg) t2).1 36 7).toNatClampNeg) x3) 42 (((setI (setI σ 40 (t1.toNatClampNeg) t2) 41 (((setI σ 40 (t1.toNatClampNeg) t2).1 36 7).toNatClampNeg) x3).1 36 7).toNatClampNeg) x4) 43 (((setI (setI (setI σ 40 (t1.toNatClampNeg) t2) 41 (((setI σ 40 (t1.toNatClampNeg) t2).1 36 7).toNatClampNeg) x3) 42 (((setI (setI σ 40 (t1.toNatClampNeg) t2) 41 (((setI σ 40 (t1.toNatClampNeg) t2).1 36 7).toNatClampNeg) x3).1 36 7).toNatClampNeg) x4).1 36 7).toNatClampNeg) x5) 44 (((setI (setI (setI (setI σ 40 (t1.toNatClampNeg) t2) 41 (((setI σ 40 (t1.toNatClampNeg) t2).1 36 7).toNatClampNeg) x3) 42 (((setI (setI σ 40 (t1.toNatClampNeg) t2) 41 (((setI σ 40 (t1.toNatClampNeg) t2).1 36 7).toNatClampNeg) x3).1 36 7).toNatClampNeg) x4) 43 (((setI (setI (setI σ 40 (t1.toNatClampNeg) t2) 41 (((setI σ 40 (t1.toNatClampNeg) t2).1 36 7).toNatClampNeg) x3) 42 (((setI (setI σ 40 (t1.toNatClampNeg) t2) 41 (((setI σ 40 (t1.toNatClampNeg) t2).1 36 7).toNatClampNeg) x3).1 36 7).toNatClampNeg) x4).1 36 7).toNatClampNeg) x5).1 36 7).toNatClampNeg) x6).1 36 7) (alen 45)) <|
  gd (inb ((setI (setI (setI (setI (setI (setI σ 40 (t1.toNatClampNeg) t2) 41 (((setI σ 40 (t1.toNatClampNeg) t2).1 36 7).toNatClampNeg) x3) 42 (((setI (setI σ 40 (t1.toNatClampNeg) t2) 41 (((setI σ 40 (t1.toNatClampNeg) t2).1 36 7).toNatClampNeg) x3).1 36 7).toNatClampNeg) x4) 43 (((setI (setI (setI σ 40 (t1.toNatClampNeg) t2) 41 (((setI σ 40 (t1.toNatClampNeg) t2).1 36 7).toNatClampNeg) x3) 42 (((setI (setI σ 40 (t1.toNatClampNeg) t2) 41 (((setI σ 40 (t1.toNatClampNeg) t2).1 36 7).toNatClampNeg) x3).1 36 7).toNatClampNeg) x4).1 36 7).toNatClampNeg) x5) 44 (((setI (setI (setI (setI σ 40 (t1.toNatClampNeg) t2) 41 (((setI σ 40 (t1.toNatClampNeg) t2).1 36 7).toNatClampNeg) x3) 42 (((setI (setI σ 40 (t1.toNatClampNeg) t2) 41 (((setI σ 40 (t1.toNatClampNeg) t2).1 36 7).toNatClampNeg) x3).1 36 7).toNatClampNeg) x4) 43 (((setI (setI (setI σ 40 (t1.toNatClampNeg) t2) 41 (((setI σ 40 (t1.toNatClampNeg) t2).1 36 7).toNatClampNeg) x3) 42 (((setI (setI σ 40 (t1.toNatClampNeg) t2) 41 (((setI σ 40 (t1.toNatClampNeg) t2).1 36 7).toNatClampNeg) x3).1 36 7).toNatClampNeg) x4).1 36 7).toNatClampNeg) x5).1 36 7).toNatClampNeg) x6) 45 (((setI (setI (setI (setI (setI σ 40 (t1.toNatClampNeg) t2) 41 (((setI σ 40 (t1.toNatClampNeg) t2).1 36 7).toNatClampNeg) x3) 42 (((setI (setI σ 40 (t1.toNatClampNeg) t2) 41 (((setI σ 40 (t1.toNatClampNeg) t2).1 36 7).toNatClampNeg) x3).1 36 7).toNatClampNeg) x4) 43 (((setI (setI (setI σ 40 (t1.toNatClampNeg) t2) 41 (((setI σ 40 (t1.toNatClampNeg) t2).1 36 7).toNatClampNeg) x3) 42 (((setI (setI σ 40 (t1.toNatClampNeg) t2) 41 (((setI σ 40 (t1.toNatClampNeg) t2).1 36 7).toNatClampNeg) x3).1 36 7).toNatClampNeg) x4).1 36 7).toNatClampNeg) x5) 44 (((setI (setI (setI (setI σ 40 (t1.toNatClampNeg) t2) 41 (((setI σ 40 (t1.toNatClampNeg) t2).1 36 7).toNatClampNeg) x3) 42 (((setI (setI σ 40 (t1.toNatClampNeg) t2) 41 (((setI σ 40 (t1.toNatClampNeg) t2).1 36 7).toNatClampNeg) x3).1 36 7).toNatClampNeg) x4) 43 (((setI (setI (setI σ 40 (t1.toNatClampNeg) t2) 41 (((setI σ 40 (t1.toNatClampNeg) t2).1 36 7).toNatClampNeg) x3) 42 (((setI (setI σ 40 (t1.toNatClampNeg) t2) 41 (((setI σ 40 (t1.toNatClampNeg) t2).1 36 7).toNatClampNeg) x3).1 36 7).toNatClampNeg) x4).1 36 7).toNatClampNeg) x5).1 36 7).toNatClampNeg) x6).1 36 7).toNatClampNeg) 0).1 36 7) (alen 46)) <|
  some (1, setI (setI (setI (setI (setI (setI (setI (setI σ 40 (t1.toNatClampNeg) t2) 41 (((setI σ 40 (t1.toNatClampNeg) t2).1 36 7).toNatClampNeg) x3) 42 (((setI (setI σ 40 (t1.toNatClampNeg) t2) 41 (((setI σ 40 (t1.toNatClampNeg) t2).1 36 7).toNatClampNeg) x3).1 36 7).toNatClampNeg) x4) 43 (((setI (setI (setI σ 40 (t1.toNatClampNeg) t2) 41 (((setI σ 40 (t1.toNatClampNeg) t2).1 36 7).toNatClampNeg) x3) 42 (((setI (setI σ 40 (t1.toNatClampNeg) t2) 41 (((setI σ 40 (t1.toNatClampNeg) t2).1 36 7).toNatClampNeg) x3).1 36 7).toNatClampNeg) x4).1 36 7).toNatClampNeg) x5) 44 (((setI (setI (setI (setI σ 40 (t1.toNatClampNeg) t2) 41 (((setI σ 40 (t1.toNatClampNeg) t2).1 36 7).toNatClampNeg) x3) 42 (((setI (setI σ 40 (t1.toNatClampNeg) t2) 41 (((setI σ 40 (t1.toNatClampNeg) t2).1 36 7).toNatClampNeg) x3).1 36 7).toNatClampNeg) x4) 43 (((setI (setI (setI σ 40 (t1.toNatClampNeg) t2) 41 (((setI σ 40 (t1.toNatClampNeg) t2).1 36 7).toNatClampNeg) x3) 42 (((setI (setI σ 40 (t1.toNatClampNeg) t2) 41 (((setI σ 40 (t1.toNatClampNeg) t2).1 36 7).toNatClampNeg) x3).1 36 7).toNatClampNeg) x4).1 36 7).toNatClampNeg) x5).1 36 7).toNatClampNeg) x6) 45 (((setI (setI (setI (setI (setI σ 40 (t1.toNatClampNeg) t2) 41 (((setI σ 40 (t1.toNatClampNeg) t2).1 36 7).toNatClampNeg) x3) 42 (((setI (setI σ 40 (t1.toNatClampNeg) t2) 41 (((setI σ 40 (t1.toNatClampNeg) t2).1 36 7).toNatClampNeg) x3).1 36 7).toNatClampNeg) x4) 43 (((setI (setI (setI σ 40 (t1.toNatClampNeg) t2) 41 (((setI σ 40 (t1.toNatClampNeg) t2).1 36 7).toNatClampNeg) x3) 42 (((setI (setI σ 40 (t1.toNatClampNeg) t2) 41 (((setI σ 40 (t1.toNatClampNeg) t2).1 36 7).toNatClampNeg) x3).1 36 7).toNatClampNeg) x4).1 36 7).toNatClampNeg) x5) 44 (((setI (setI (setI (setI σ 40 (t1.toNatClampNeg) t2) 41 (((setI σ 40 (t1.toNatClampNeg) t2).1 36 7).toNatClampNeg) x3) 42 (((setI (setI σ 40 (t1.toNatClampNeg) t2) 41 (((setI σ 40 (t1.toNatClampNeg) t2).1 36 7).toNatClampNeg) x3).1 36 7).toNatClampNeg) x4) 43 (((setI (setI (setI σ 40 (t1.toNatClampNeg) t2) 41 (((setI σ 40 (t1.toNatClampNeg) t2).1 36 7).toNatClampNeg) x3) 42 (((setI (setI σ 40 (t1.toNatClampNeg) t2) 41 (((setI σ 40 (t1.toNatClampNeg) t2).1 36 7).toNatClampNeg) x3).1 36 7).toNatClampNeg) x4).1 36 7).toNatClampNeg) x5).1 36 7).toNatClampNeg) x6).1 36 7).toNatClampNeg) 0) 46 (((setI (setI (setI (setI (setI (setI σ 40 (t1.toNatClampNeg) t2) 41 (((setI σ 40 (t1.toNatClampNeg) t2).1 36 7).toNatClampNeg) x3) 42 (((setI (setI σ 40 (t1.toNatClampNeg) t2) 41 (((setI σ 40 (t1.toNatClampNeg) t2).1 36 7).toNatClampNeg) x3).1 36 7).toNatClampNeg) x4) 43 (((setI (setI (setI σ 40 (t1.toNatClampNeg) t2) 41 (((setI σ 40 (t1.toNatClampNeg) t2).1 36 7).toNatClampNeg) x3) 42 (((setI (setI σ 40 (t1.toNatClampNeg) t2) 41 (((setI σ 40 (t1.toNatClampNeg) t2).1 36 7).toNatClampNeg) x3).1 36 7).toNatClampNeg) x4).1 36 7).toNatClampNeg) x5) 44 (((setI (setI (setI (setI σ 40 (t1.toNatClampNeg) t2) 41 (((setI σ 40 (t1.toNatClampNeg) t2).1 36 7).toNatClampNeg) x3) 42 (((setI (setI σ 40 (t1.toNatClampNeg) t2) 41 (((setI σ 40 (t1.toNatClampNeg) t2).1 36 7).toNatClampNeg) x3).1 36 7).toNatClampNeg) x4) 43 (((setI (setI (setI σ 40 (t1.toNatClampNeg) t2) 41 (((setI σ 40 (t1.toNatClampNeg) t2).1 36 7).toNatClampNeg) x3) 42 (((setI (setI σ 40 (t1.toNatClampNeg) t2) 41 (((setI σ 40 (t1.toNatClampNeg) t2).1 36 7).toNatClampNeg) x3).1 36 7).toNatClampNeg) x4).1 36 7).toNatClampNeg) x5).1 36 7).toNatClampNeg) x6) 45 (((setI (setI (setI (setI (setI σ 40 (t1.toNatClampNeg) t2) 41 (((setI σ 40 (t1.toNatClampNeg) t2).1 36 7).toNatClampNeg) x3) 42 (((setI (setI σ 40 (t1.toNatClampNeg) t2) 41 (((setI σ 40 (t1.toNatClampNeg) t2).1 36 7).toNatClampNeg) x3).1 36 7).toNatClampNeg) x4) 43 (((setI (setI (setI σ 40 (t1.toNatClampNeg) t2) 41 (((setI σ 40 (t1.toNatClampNeg) t2).1 36 7).toNatClampNeg) x3) 42 (((setI (setI σ 40 (t1.toNatClampNeg) t2) 41 (((setI σ 40 (t1.toNatClampNeg) t2).1 36 7).toNatClampNeg) x3).1 36 7).toNatClampNeg) x4).1 36 7).toNatClampNeg) x5) 44 (((setI (setI (setI (setI σ 40 (t1.toNatClampNeg) t2) 41 (((setI σ 40 (t1.toNatClampNeg) t2).1 36 7).toNatClampNeg) x3) 42 (((setI (setI σ 40 (t1.toNatClampNeg) t2) 41 (((setI σ 40 (t1.toNatClampNeg) t2).1 36 7).toNatClampNeg) x3).1 36 7).toNatClampNeg) x4) 43 (((setI (setI (setI σ 40 (t1.toNatClampNeg) t2) 41 (((setI σ 40 (t1.toNatClampNeg) t2).1 36 7).toNatClampNeg) x3) 42 (((setI (setI σ 40 (t1.toNatClampNeg) t2) 41 (((setI σ 40 (t1.toNatClampNeg) t2).1 36 7).toNatClampNeg) x3).1 36 7).toNatClampNeg) x4).1 36 7).toNatClampNeg) x5).1 36 7).toNatClampNeg) x6).1 36 7).toNatClampNeg) 0).1 36 7).toNatClampNeg) 0) 36 7 (((setI (setI (setI (setI (setI (setI (setI σ 40 (t1.toNatClampNeg) t2) 41 (((setI σ 40 (t1.toNatClampNeg) t2).1 36 7).toNatClampNeg) x3) 42 (((setI (setI σ 40 (t1.toNatClampNeg) t2) 41 (((setI σ 40 (t1.toNatClampNeg) t2).1 36 7).toNatClampNeg) x3).1 36 7).toNatClampNeg) x4) 43 (((setI (setI (setI σ 40 (t1.toNatClampNeg) t2) 41 (((setI σ 40 (t1.toNatClampNeg) t2).1 36 7).toNatClampNeg) x3) 42 (((setI (setI σ 40 (t1.toNatClampNeg) t2) 41 (((setI σ 40 (t1.toNatClampNeg) t2).1 36 7).toNatClampNeg) x3).1 36 7).toNatClampNeg) x4).1 36 7).toNatClampNeg) x5) 44 (((setI (setI (setI (setI σ 40 (t1.toNatClampNeg) t2) 41 (((setI σ 40 (t1.toNatClampNeg) t2).1 36 7).toNatClampNeg) x3) 42 (((setI (setI σ 40 (t1.toNatClampNeg) t2) 41 (((setI σ 40 (t1.toNatClampNeg) t2).1 36 7).toNatClampNeg) x3).1 36 7).toNatClampNeg) x4) 43 (((setI (setI (setI σ 40 (t1.toNatClampNeg) t2) 41 (((setI σ 40 (t1.toNatClampNeg) t2).1 36 7).toNatClampNeg) x3) 42 (((setI (setI σ 40 (t1.toNatClampNeg) t2) 41 (((setI σ 40 (t1.toNatClampNeg) t2).1 36 7).toNatClampNeg) x3).1 36 7).toNatClampNeg) x4).1 36 7).toNatClampNeg) x5).1 36 7).toNatClampNeg) x6) 45 (((setI (setI (setI (setI (setI σ 40 (t1.toNatClampNeg) t2) 41 (((setI σ 40 (t1.toNatClampNeg) t2).1 36 7).toNatClampNeg) x3) 42 (((setI (setI σ 40 (t1.toNatClampNeg) t2) 41 (((setI σ 40 (t1.toNatClampNeg) t2).1 36 7).toNatClampNeg) x3).1 36 7).toNatClampNeg) x4) 43 (((setI (setI (setI σ 40 (t1.toNatClampNeg) t2) 41 (((setI σ 40 (t1.toNatClampNeg) t2).1 36 7).toNatClampNeg) x3) 42 (((setI (setI σ 40 (t1.toNatClampNeg) t2) 41 (((setI σ 40 (t1.toNatClampNeg) t2).1 36 7).toNatClampNeg) x3).1 36 7).toNatClampNeg) x4).1 36 7).toNatClampNeg) x5) 44 (((setI (setI (setI (setI σ 40 (t1.toNatClampNeg) t2) 41 (((setI σ 40 (t1.toNatClampNeg) t2).1 36 7).toNatClampNeg) x3) 42 (((setI (setI σ 40 (t1.toNatClampNeg) t2) 41 (((setI σ 40 (t1.toNatClampNeg) t2).1 36 7).toNatClampNeg) x3).1 36 7).toNatClampNeg) x4) 43 (((setI (setI (setI σ 40 (t1.toNatClampNeg) t2) 41 (((setI σ 40 (t1.toNatClampNeg) t2).1 36 7).toNatClampNeg) x3) 42 (((setI (setI σ 40 (t1.toNatClampNeg) t2) 41 (((setI σ 40 (t1.toNatClampNeg) t2).1 36 7).toNatClampNeg) x3).1 36 7).toNatClampNeg) x4).1 36 7).toNatClampNeg) x5).1 36 7).toNatClampNeg) x6).1 36 7).toNatClampNeg) 0) 46 (((setI (setI (setI (setI (setI (setI σ 40 (t1.toNatClampNeg) t2) 41 (((setI σ 40 (t1.toNatClampNeg) t2).1 36 7).toNatClampNeg) x3) 42 (((setI (setI σ 40 (t1.toNatClampNeg) t2) 41 (((setI σ 40 (t1.toNatClampNeg) t2).1 36 7).toNatClampNeg) x3).1 36 7).toNatClampNeg) x4) 43 (((setI (setI (setI σ 40 (t1.toNatClampNeg) t2) 41 (((setI σ 40 (t1.toNatClampNeg) t2).1 36 7).toNatClampNeg) x3) 42 (((setI (setI σ 40 (t1.toNatClampNeg) t2) 41 (((setI σ 40 (t1.toNatClampNeg) t2).1 36 7).toNatClampNeg) x3).1 36 7).toNatClampNeg) x4).1 36 7).toNatClampNeg) x5) 44 (((setI (setI (setI (setI σ 40 (t1.toNatClampNeg) t2) 41 (((setI σ 40 (t1.toNatClampNeg) t2).1 36 7).toNatClampNeg) x3) 42 (((setI (setI σ 40 (t1.toNatClampNeg) t2) 41 (((setI σ 40 (t1.toNatClampNeg) t2).1 36 7).toNatClampNeg) x3).1 36 7).toNatClampNeg) x4) 43 (((setI (setI (setI σ 40 (t1.toNatClampNeg) t2) 41 (((setI σ 40 (t1.toNatClampNeg) t2).1 36 7).toNatClampNeg) x3) 42 (((setI (setI σ 40 (t1.toNatClampNeg) t2) 41 (((setI σ 40 (t1.toNatClampNeg) t2).1 36 7).toNatClampNeg) x3).1 36 7).toNatClampNeg) x4).1 36 7).toNatClampNeg) x5).1 36 7).toNatClampNeg) x6) 45 (((setI (setI (setI (setI (setI σ 40 (t1.toNatClampNeg) t2) 41 (((setI σ 40 (t1.toNatClampNeg) t2).1 36 7).toNatClampNeg) x3) 42 (((setI (setI σ 40 (t1.toNatClampNeg) t2) 41 (((setI σ 40 (t1.toNatClampNeg) t2).1 36 7).toNatClampNeg) x3).1 36 7).toNatClampNeg) x4) 43 (((setI (setI (setI σ 40 (t1.toNatClampNeg) t2) 41 (((setI σ 40 (t1.toNatClampNeg) t2).1 36 7).toNatClampNeg) x3) 42 (((setI (setI σ 40 (t1.toNatClampNeg) t2) 41 (((setI σ 40 (t1.toNatClampNeg) t2).1 36 7).toNatClampNeg) x3).1 36 7).toNatClampNeg) x4).1 36 7).toNatClampNeg) x5) 44 (((setI (setI (setI (setI σ 40 (t1.toNatClampNeg) t2) 41 (((setI σ 40 (t1.toNatClampNeg) t2).1 36 7).toNatClampNeg) x3) 42 (((setI (setI σ 40 (t1.toNatClampNeg) t2) 41 (((setI σ 40 (t1.toNatClampNeg) t2).1 36 7).toNatClampNeg) x3).1 36 7).toNatClampNeg) x4) 43 (((setI (setI (setI σ 40 (t1.toNatClampNeg) t2) 41 (((setI σ 40 (t1.toNatClampNeg) t2).1 36 7).toNatClampNeg) x3) 42 (((setI (setI σ 40 (t1.toNatClampNeg) t2) 41 (((setI σ 40 (t1.toNatClampNeg) t2).1 36 7).toNatClampNeg) x3).1 36 7).toNatClampNeg) x4).1 36 7).toNatClampNeg) x5).1 36 7).toNatClampNeg) x6).1 36 7).toNatClampNeg) 0).1 36 7).toNatClampNeg) 0).1 36 7) + 1))
set_option maxHeartbeats 4000000 in
theorem wX6_comes_273 {l : Launch} {V : Nat → List (Option Value) → List Value → ST → Prop} {r : Int32} {τ : ST} {σ : ST} {x3 : Int32} {x4 : Int32} {x5 : Int32} {x6 : Int32} {t1 : Int32} {t2 : Int32} (hm : BM l 6 cX6_comes 7 (some .boolean) 1 25 (some (.int r)) τ V) (hf : fX6_comes_273 x3 x4 x5 x6 t1 t2 σ = some (r, τ)) : V 273 [some (.ref 36), none, none, some (.int x3), some (.int x4), some (.int x5), some (.int x6)] [.int t2, .int t1, .ref 40] σ := by
  have h := hm.bd
  unfold fX6_comes_273 at hf
  obtain ⟨g1, hf⟩ := gd_some hf
  obtain ⟨g2, hf⟩ := gd_some hf
  obtain ⟨g3, hf⟩ := gd_some hf
  obtain ⟨g4, hf⟩ := gd_some hf
  obtain ⟨g5, hf⟩ := gd_some hf
  obtain ⟨g6, hf⟩ := gd_some hf
  obtain ⟨g7, hf⟩ := gd_some hf
  refine h.run (o := [kd 40 = 10, inb t1 (alen 40) = true, kd 36 = 6, kd 36 = 6, kd 41 = 10, inb ((setI σ 40 (t1.toNatClampNeg) t2).1 36 7) (alen 41) = true, kd 36 = 6, kd 36 = 6, kd 42 = 10, inb ((setI (setI σ 40 (t1.toNatClampNeg) t2) 41 (((setI σ 40 (t1.toNatClampNeg) t2).1 36 7).toNatClampNeg) x3).1 36 7) (alen 42) = true, kd 36 = 6, kd 36 = 6, kd 43 = 10, inb ((setI (setI (setI σ 40 (t1.toNatClampNeg) t2) 41 (((setI σ 40 (t1.toNatClampNeg) t2).1 36 7).toNatClampNeg) x3) 42 (((setI (setI σ 40 (t1.toNatClampNeg) t2) 41 (((setI σ 40 (t1.toNatClampNeg) t2).1 36 7).toNatClampNeg) x3).1 36 7).toNatClampNeg) x4).1 36 7) (alen 43) = true, kd 36 = 6, kd 36 = 6, kd 44 = 10, inb ((setI (setI (setI (setI σ 40 (t1.toNatClampNeg) t2) 41 (((setI σ 40 (t1.toNatClampNeg) t2).1 36 7).toNatClampNeg) x3) 42 (((setI (setI σ 40 (t1.toNatClampNeg) t2) 41 (((setI σ 40 (t1.toNatClampNeg) t2).1 36 7).toNatClampNeg) x3).1 36 7).toNatClampNeg) x4) 43 (((setI (setI (setI σ 40 (t1.toNatClampNeg) t2) 41 (((setI σ 40 (t1.toNatClampNeg) t2).1 36 7).toNatClampNeg) x3) 42 (((setI (setI σ 40 (t1.toNatClampNeg) t2) 41 (((setI σ 40 (t1.toNatClampNeg) t2).1 36 7).toNatClampNeg) x3).1 36 7).toNatClampNeg) x4).1 36 7).toNatClampNeg) x5).1 36 7) (alen 44) = true, kd 36 = 6, kd 36 = 6, kd 45 = 10, inb ((setI (setI (setI (setI (setI σ 40 (t1.toNatClampNeg) t2) 41 (((setI σ 40 (t1.toNatClampNeg) t2).1 36 7).toNatClampNeg) x3) 42 (((setI (setI σ 40 (t1.toNatClampNeg) t2) 41 (((setI σ 40 (t1.toNatClampNeg) t2).1 36 7).toNatClampNeg) x3).1 36 7).toNatClampNeg) x4) 43 (((setI (setI (setI σ 40 (t1.toNatClampNeg) t2) 41 (((setI σ 40 (t1.toNatClampNeg) t2).1 36 7).toNatClampNeg) x3) 42 (((setI (setI σ 40 (t1.toNatClampNeg) t2) 41 (((setI σ 40 (t1.toNatClampNeg) t2).1 36 7).toNatClampNeg) x3).1 36 7).toNatClampNeg) x4).1 36 7).toNatClampNeg) x5) 44 (((setI (setI (setI (setI σ 40 (t1.toNatClampNeg) t2) 41 (((setI σ 40 (t1.toNatClampNeg) t2).1 36 7).toNatClampNeg) x3) 42 (((setI (setI σ 40 (t1.toNatClampNeg) t2) 41 (((setI σ 40 (t1.toNatClampNeg) t2).1 36 7).toNatClampNeg) x3).1 36 7).toNatClampNeg) x4) 43 (((setI (setI (setI σ 40 (t1.toNatClampNeg) t2) 41 (((setI σ 40 (t1.toNatClampNeg) t2).1 36 7).toNatClampNeg) x3) 42 (((setI (setI σ 40 (t1.toNatClampNeg) t2) 41 (((setI σ 40 (t1.toNatClampNeg) t2).1 36 7).toNatClampNeg) x3).1 36 7).toNatClampNeg) x4).1 36 7).toNatClampNeg) x5).1 36 7).toNatClampNeg) x6).1 36 7) (alen 45) = true, kd 36 = 6, kd 36 = 6, kd 46 = 10, inb ((setI (setI (setI (setI (setI (setI σ 40 (t1.toNatClampNeg) t2) 41 (((setI σ 40 (t1.toNatClampNeg) t2).1 36 7).toNatClampNeg) x3) 42 (((setI (setI σ 40 (t1.toNatClampNeg) t2) 41 (((setI σ 40 (t1.toNatClampNeg) t2).1 36 7).toNatClampNeg) x3).1 36 7).toNatClampNeg) x4) 43 (((setI (setI (setI σ 40 (t1.toNatClampNeg) t2) 41 (((setI σ 40 (t1.toNatClampNeg) t2).1 36 7).toNatClampNeg) x3) 42 (((setI (setI σ 40 (t1.toNatClampNeg) t2) 41 (((setI σ 40 (t1.toNatClampNeg) t2).1 36 7).toNatClampNeg) x3).1 36 7).toNatClampNeg) x4).1 36 7).toNatClampNeg) x5) 44 (((setI (setI (setI (setI σ 40 (t1.toNatClampNeg) t2) 41 (((setI σ 40 (t1.toNatClampNeg) t2).1 36 7).toNatClampNeg) x3) 42 (((setI (setI σ 40 (t1.toNatClampNeg) t2) 41 (((setI σ 40 (t1.toNatClampNeg) t2).1 36 7).toNatClampNeg) x3).1 36 7).toNatClampNeg) x4) 43 (((setI (setI (setI σ 40 (t1.toNatClampNeg) t2) 41 (((setI σ 40 (t1.toNatClampNeg) t2).1 36 7).toNatClampNeg) x3) 42 (((setI (setI σ 40 (t1.toNatClampNeg) t2) 41 (((setI σ 40 (t1.toNatClampNeg) t2).1 36 7).toNatClampNeg) x3).1 36 7).toNatClampNeg) x4).1 36 7).toNatClampNeg) x5).1 36 7).toNatClampNeg) x6) 45 (((setI (setI (setI (setI (setI σ 40 (t1.toNatClampNeg) t2) 41 (((setI σ 40 (t1.toNatClampNeg) t2).1 36 7).toNatClampNeg) x3) 42 (((setI (setI σ 40 (t1.toNatClampNeg) t2) 41 (((setI σ 40 (t1.toNatClampNeg) t2).1 36 7).toNatClampNeg) x3).1 36 7).toNatClampNeg) x4) 43 (((setI (setI (setI σ 40 (t1.toNatClampNeg) t2) 41 (((setI σ 40 (t1.toNatClampNeg) t2).1 36 7).toNatClampNeg) x3) 42 (((setI (setI σ 40 (t1.toNatClampNeg) t2) 41 (((setI σ 40 (t1.toNatClampNeg) t2).1 36 7).toNatClampNeg) x3).1 36 7).toNatClampNeg) x4).1 36 7).toNatClampNeg) x5) 44 (((setI (setI (setI (setI σ 40 (t1.toNatClampNeg) t2) 41 (((setI σ 40 (t1.toNatClampNeg) t2).1 36 7).toNatClampNeg) x3) 42 (((setI (setI σ 40 (t1.toNatClampNeg) t2) 41 (((setI σ 40 (t1.toNatClampNeg) t2).1 36 7).toNatClampNeg) x3).1 36 7).toNatClampNeg) x4) 43 (((setI (setI (setI σ 40 (t1.toNatClampNeg) t2) 41 (((setI σ 40 (t1.toNatClampNeg) t2).1 36 7).toNatClampNeg) x3) 42 (((setI (setI σ 40 (t1.toNatClampNeg) t2) 41 (((setI σ 40 (t1.toNatClampNeg) t2).1 36 7).toNatClampNeg) x3).1 36 7).toNatClampNeg) x4).1 36 7).toNatClampNeg) x5).1 36 7).toNatClampNeg) x6).1 36 7).toNatClampNeg) 0).1 36 7) (alen 46) = true, kd 36 = 6, kd 36 = 6]) (ls' := [some (.ref 36), none, none, some (.int x3), some (.int x4), some (.int x5), some (.int x6)]) (st' := [.int 1]) (σ' := setI (setI (setI (setI (setI (setI (setI (setI σ 40 (t1.toNatClampNeg) t2) 41 (((setI σ 40 (t1.toNatClampNeg) t2).1 36 7).toNatClampNeg) x3) 42 (((setI (setI σ 40 (t1.toNatClampNeg) t2) 41 (((setI σ 40 (t1.toNatClampNeg) t2).1 36 7).toNatClampNeg) x3).1 36 7).toNatClampNeg) x4) 43 (((setI (setI (setI σ 40 (t1.toNatClampNeg) t2) 41 (((setI σ 40 (t1.toNatClampNeg) t2).1 36 7).toNatClampNeg) x3) 42 (((setI (setI σ 40 (t1.toNatClampNeg) t2) 41 (((setI σ 40 (t1.toNatClampNeg) t2).1 36 7).toNatClampNeg) x3).1 36 7).toNatClampNeg) x4).1 36 7).toNatClampNeg) x5) 44 (((setI (setI (setI (setI σ 40 (t1.toNatClampNeg) t2) 41 (((setI σ 40 (t1.toNatClampNeg) t2).1 36 7).toNatClampNeg) x3) 42 (((setI (setI σ 40 (t1.toNatClampNeg) t2) 41 (((setI σ 40 (t1.toNatClampNeg) t2).1 36 7).toNatClampNeg) x3).1 36 7).toNatClampNeg) x4) 43 (((setI (setI (setI σ 40 (t1.toNatClampNeg) t2) 41 (((setI σ 40 (t1.toNatClampNeg) t2).1 36 7).toNatClampNeg) x3) 42 (((setI (setI σ 40 (t1.toNatClampNeg) t2) 41 (((setI σ 40 (t1.toNatClampNeg) t2).1 36 7).toNatClampNeg) x3).1 36 7).toNatClampNeg) x4).1 36 7).toNatClampNeg) x5).1 36 7).toNatClampNeg) x6) 45 (((setI (setI (setI (setI (setI σ 40 (t1.toNatClampNeg) t2) 41 (((setI σ 40 (t1.toNatClampNeg) t2).1 36 7).toNatClampNeg) x3) 42 (((setI (setI σ 40 (t1.toNatClampNeg) t2) 41 (((setI σ 40 (t1.toNatClampNeg) t2).1 36 7).toNatClampNeg) x3).1 36 7).toNatClampNeg) x4) 43 (((setI (setI (setI σ 40 (t1.toNatClampNeg) t2) 41 (((setI σ 40 (t1.toNatClampNeg) t2).1 36 7).toNatClampNeg) x3) 42 (((setI (setI σ 40 (t1.toNatClampNeg) t2) 41 (((setI σ 40 (t1.toNatClampNeg) t2).1 36 7).toNatClampNeg) x3).1 36 7).toNatClampNeg) x4).1 36 7).toNatClampNeg) x5) 44 (((setI (setI (setI (setI σ 40 (t1.toNatClampNeg) t2) 41 (((setI σ 40 (t1.toNatClampNeg) t2).1 36 7).toNatClampNeg) x3) 42 (((setI (setI σ 40 (t1.toNatClampNeg) t2) 41 (((setI σ 40 (t1.toNatClampNeg) t2).1 36 7).toNatClampNeg) x3).1 36 7).toNatClampNeg) x4) 43 (((setI (setI (setI σ 40 (t1.toNatClampNeg) t2) 41 (((setI σ 40 (t1.toNatClampNeg) t2).1 36 7).toNatClampNeg) x3) 42 (((setI (setI σ 40 (t1.toNatClampNeg) t2) 41 (((setI σ 40 (t1.toNatClampNeg) t2).1 36 7).toNatClampNeg) x3).1 36 7).toNatClampNeg) x4).1 36 7).toNatClampNeg) x5).1 36 7).toNatClampNeg) x6).1 36 7).toNatClampNeg) 0) 46 (((setI (setI (setI (setI (setI (setI σ 40 (t1.toNatClampNeg) t2) 41 (((setI σ 40 (t1.toNatClampNeg) t2).1 36 7).toNatClampNeg) x3) 42 (((setI (setI σ 40 (t1.toNatClampNeg) t2) 41 (((setI σ 40 (t1.toNatClampNeg) t2).1 36 7).toNatClampNeg) x3).1 36 7).toNatClampNeg) x4) 43 (((setI (setI (setI σ 40 (t1.toNatClampNeg) t2) 41 (((setI σ 40 (t1.toNatClampNeg) t2).1 36 7).toNatClampNeg) x3) 42 (((setI (setI σ 40 (t1.toNatClampNeg) t2) 41 (((setI σ 40 (t1.toNatClampNeg) t2).1 36 7).toNatClampNeg) x3).1 36 7).toNatClampNeg) x4).1 36 7).toNatClampNeg) x5) 44 (((setI (setI (setI (setI σ 40 (t1.toNatClampNeg) t2) 41 (((setI σ 40 (t1.toNatClampNeg) t2).1 36 7).toNatClampNeg) x3) 42 (((setI (setI σ 40 (t1.toNatClampNeg) t2) 41 (((setI σ 40 (t1.toNatClampNeg) t2).1 36 7).toNatClampNeg) x3).1 36 7).toNatClampNeg) x4) 43 (((setI (setI (setI σ 40 (t1.toNatClampNeg) t2) 41 (((setI σ 40 (t1.toNatClampNeg) t2).1 36 7).toNatClampNeg) x3) 42 (((setI (setI σ 40 (t1.toNatClampNeg) t2) 41 (((setI σ 40 (t1.toNatClampNeg) t2).1 36 7).toNatClampNeg) x3).1 36 7).toNatClampNeg) x4).1 36 7).toNatClampNeg) x5).1 36 7).toNatClampNeg) x6) 45 (((setI (setI (setI (setI (setI σ 40 (t1.toNatClampNeg) t2) 41 (((setI σ 40 (t1.toNatClampNeg) t2).1 36 7).toNatClampNeg) x3) 42 (((setI (setI σ 40 (t1.toNatClampNeg) t2) 41 (((setI σ 40 (t1.toNatClampNeg) t2).1 36 7).toNatClampNeg) x3).1 36 7).toNatClampNeg) x4) 43 (((setI (setI (setI σ 40 (t1.toNatClampNeg) t2) 41 (((setI σ 40 (t1.toNatClampNeg) t2).1 36 7).toNatClampNeg) x3) 42 (((setI (setI σ 40 (t1.toNatClampNeg) t2) 41 (((setI σ 40 (t1.toNatClampNeg) t2).1 36 7).toNatClampNeg) x3).1 36 7).toNatClampNeg) x4).1 36 7).toNatClampNeg) x5) 44 (((setI (setI (setI (setI σ 40 (t1.toNatClampNeg) t2) 41 (((setI σ 40 (t1.toNatClampNeg) t2).1 36 7).toNatClampNeg) x3) 42 (((setI (setI σ 40 (t1.toNatClampNeg) t2) 41 (((setI σ 40 (t1.toNatClampNeg) t2).1 36 7).toNatClampNeg) x3).1 36 7).toNatClampNeg) x4) 43 (((setI (setI (setI σ 40 (t1.toNatClampNeg) t2) 41 (((setI σ 40 (t1.toNatClampNeg) t2).1 36 7).toNatClampNeg) x3) 42 (((setI (setI σ 40 (t1.toNatClampNeg) t2) 41 (((setI σ 40 (t1.toNatClampNeg) t2).1 36 7).toNatClampNeg) x3).1 36 7).toNatClampNeg) x4).1 36 7).toNatClampNeg) x5).1 36 7).toNatClampNeg) x6).1 36 7).toNatClampNeg) 0).1 36 7).toNatClampNeg) 0) 36 7 (((setI (setI (setI (setI (setI (setI (setI σ 40 (t1.toNatClampNeg) t2) 41 (((setI σ 40 (t1.toNatClampNeg) t2).1 36 7).toNatClampNeg) x3) 42 (((setI (setI σ 40 (t1.toNatClampNeg) t2) 41 (((setI σ 40 (t1.toNatClampNeg) t2).1 36 7).toNatClampNeg) x3).1 36 7).toNatClampNeg) x4) 43 (((setI (setI (setI σ 40 (t1.toNatClampNeg) t2) 41 (((setI σ 40 (t1.toNatClampNeg) t2).1 36 7).toNatClampNeg) x3) 42 (((setI (setI σ 40 (t1.toNatClampNeg) t2) 41 (((setI σ 40 (t1.toNatClampNeg) t2).1 36 7).toNatClampNeg) x3).1 36 7).toNatClampNeg) x4).1 36 7).toNatClampNeg) x5) 44 (((setI (setI (setI (setI σ 40 (t1.toNatClampNeg) t2) 41 (((setI σ 40 (t1.toNatClampNeg) t2).1 36 7).toNatClampNeg) x3) 42 (((setI (setI σ 40 (t1.toNatClampNeg) t2) 41 (((setI σ 40 (t1.toNatClampNeg) t2).1 36 7).toNatClampNeg) x3).1 36 7).toNatClampNeg) x4) 43 (((setI (setI (setI σ 40 (t1.toNatClampNeg) t2) 41 (((setI σ 40 (t1.toNatClampNeg) t2).1 36 7).toNatClampNeg) x3) 42 (((setI (setI σ 40 (t1.toNatClampNeg) t2) 41 (((setI σ 40 (t1.toNatClampNeg) t2).1 36 7).toNatClampNeg) x3).1 36 7).toNatClampNeg) x4).1 36 7).toNatClampNeg) x5).1 36 7).toNatClampNeg) x6) 45 (((setI (setI (setI (setI (setI σ 40 (t1.toNatClampNeg) t2) 41 (((setI σ 40 (t1.toNatClampNeg) t2).1 36 7).toNatClampNeg) x3) 42 (((setI (setI σ 40 (t1.toNatClampNeg) t2) 41 (((setI σ 40 (t1.toNatClampNeg) t2).1 36 7).toNatClampNeg) x3).1 36 7).toNatClampNeg) x4) 43 (((setI (setI (setI σ 40 (t1.toNatClampNeg) t2) 41 (((setI σ 40 (t1.toNatClampNeg) t2).1 36 7).toNatClampNeg) x3) 42 (((setI (setI σ 40 (t1.toNatClampNeg) t2) 41 (((setI σ 40 (t1.toNatClampNeg) t2).1 36 7).toNatClampNeg) x3).1 36 7).toNatClampNeg) x4).1 36 7).toNatClampNeg) x5) 44 (((setI (setI (setI (setI σ 40 (t1.toNatClampNeg) t2) 41 (((setI σ 40 (t1.toNatClampNeg) t2).1 36 7).toNatClampNeg) x3) 42 (((setI (setI σ 40 (t1.toNatClampNeg) t2) 41 (((setI σ 40 (t1.toNatClampNeg) t2).1 36 7).toNatClampNeg) x3).1 36 7).toNatClampNeg) x4) 43 (((setI (setI (setI σ 40 (t1.toNatClampNeg) t2) 41 (((setI σ 40 (t1.toNatClampNeg) t2).1 36 7).toNatClampNeg) x3) 42 (((setI (setI σ 40 (t1.toNatClampNeg) t2) 41 (((setI σ 40 (t1.toNatClampNeg) t2).1 36 7).toNatClampNeg) x3).1 36 7).toNatClampNeg) x4).1 36 7).toNatClampNeg) x5).1 36 7).toNatClampNeg) x6).1 36 7).toNatClampNeg) 0) 46 (((setI (setI (setI (setI (setI (setI σ 40 (t1.toNatClampNeg) t2) 41 (((setI σ 40 (t1.toNatClampNeg) t2).1 36 7).toNatClampNeg) x3) 42 (((setI (setI σ 40 (t1.toNatClampNeg) t2) 41 (((setI σ 40 (t1.toNatClampNeg) t2).1 36 7).toNatClampNeg) x3).1 36 7).toNatClampNeg) x4) 43 (((setI (setI (setI σ 40 (t1.toNatClampNeg) t2) 41 (((setI σ 40 (t1.toNatClampNeg) t2).1 36 7).toNatClampNeg) x3) 42 (((setI (setI σ 40 (t1.toNatClampNeg) t2) 41 (((setI σ 40 (t1.toNatClampNeg) t2).1 36 7).toNatClampNeg) x3).1 36 7).toNatClampNeg) x4).1 36 7).toNatClampNeg) x5) 44 (((setI (setI (setI (setI σ 40 (t1.toNatClampNeg) t2) 41 (((setI σ 40 (t1.toNatClampNeg) t2).1 36 7).toNatClampNeg) x3) 42 (((setI (setI σ 40 (t1.toNatClampNeg) t2) 41 (((setI σ 40 (t1.toNatClampNeg) t2).1 36 7).toNatClampNeg) x3).1 36 7).toNatClampNeg) x4) 43 (((setI (setI (setI σ 40 (t1.toNatClampNeg) t2) 41 (((setI σ 40 (t1.toNatClampNeg) t2).1 36 7).toNatClampNeg) x3) 42 (((setI (setI σ 40 (t1.toNatClampNeg) t2) 41 (((setI σ 40 (t1.toNatClampNeg) t2).1 36 7).toNatClampNeg) x3).1 36 7).toNatClampNeg) x4).1 36 7).toNatClampNeg) x5).1 36 7).toNatClampNeg) x6) 45 (((setI (setI (setI (setI (setI σ 40 (t1.toNatClampNeg) t2) 41 (((setI σ 40 (t1.toNatClampNeg) t2).1 36 7).toNatClampNeg) x3) 42 (((setI (setI σ 40 (t1.toNatClampNeg) t2) 41 (((setI σ 40 (t1.toNatClampNeg) t2).1 36 7).toNatClampNeg) x3).1 36 7).toNatClampNeg) x4) 43 (((setI (setI (setI σ 40 (t1.toNatClampNeg) t2) 41 (((setI σ 40 (t1.toNatClampNeg) t2).1 36 7).toNatClampNeg) x3) 42 (((setI (setI σ 40 (t1.toNatClampNeg) t2) 41 (((setI σ 40 (t1.toNatClampNeg) t2).1 36 7).toNatClampNeg) x3).1 36 7).toNatClampNeg) x4).1 36 7).toNatClampNeg) x5) 44 (((setI (setI (setI (setI σ 40 (t1.toNatClampNeg) t2) 41 (((setI σ 40 (t1.toNatClampNeg) t2).1 36 7).toNatClampNeg) x3) 42 (((setI (setI σ 40 (t1.toNatClampNeg) t2) 41 (((setI σ 40 (t1.toNatClampNeg) t2).1 36 7).toNatClampNeg) x3).1 36 7).toNatClampNeg) x4) 43 (((setI (setI (setI σ 40 (t1.toNatClampNeg) t2) 41 (((setI σ 40 (t1.toNatClampNeg) t2).1 36 7).toNatClampNeg) x3) 42 (((setI (setI σ 40 (t1.toNatClampNeg) t2) 41 (((setI σ 40 (t1.toNatClampNeg) t2).1 36 7).toNatClampNeg) x3).1 36 7).toNatClampNeg) x4).1 36 7).toNatClampNeg) x5).1 36 7).toNatClampNeg) x6).1 36 7).toNatClampNeg) 0).1 36 7).toNatClampNeg) 0).1 36 7) + 1)) [(.iastore, 1, 0, 0, 0, 0), (.aload_n 0, 1, 0, 0, 0, 0), (.getfield 32, 3, 0, 0, 6, 9), (.aload_n 0, 1, 0, 0, 0, 0), (.getfield 123, 3, 0, 0, 6, 7), (.iload_n 3, 1, 0, 0, 0, 0), (.iastore, 1, 0, 0, 0, 0), (.aload_n 0, 1, 0, 0, 0, 0), (.getfield 35, 3, 0, 0, 6, 10), (.aload_n 0, 1, 0, 0, 0, 0), (.getfield 123, 3, 0, 0, 6, 7), (.iload 4, 2, 0, 0, 0, 0), (.iastore, 1, 0, 0, 0, 0), (.aload_n 0, 1, 0, 0, 0, 0), (.getfield 38, 3, 0, 0, 6, 11), (.aload_n 0, 1, 0, 0, 0, 0), (.getfield 123, 3, 0, 0, 6, 7), (.iload 5, 2, 0, 0, 0, 0), (.iastore, 1, 0, 0, 0, 0), (.aload_n 0, 1, 0, 0, 0, 0), (.getfield 41, 3, 0, 0, 6, 12), (.aload_n 0, 1, 0, 0, 0, 0), (.getfield 123, 3, 0, 0, 6, 7), (.iload 6, 2, 0, 0, 0, 0), (.iastore, 1, 0, 0, 0, 0), (.aload_n 0, 1, 0, 0, 0, 0), (.getfield 44, 3, 0, 0, 6, 13), (.aload_n 0, 1, 0, 0, 0, 0), (.getfield 123, 3, 0, 0, 6, 7), (.iconst 0, 1, 0, 0, 0, 0), (.iastore, 1, 0, 0, 0, 0), (.aload_n 0, 1, 0, 0, 0, 0), (.getfield 47, 3, 0, 0, 6, 14), (.aload_n 0, 1, 0, 0, 0, 0), (.getfield 123, 3, 0, 0, 6, 7), (.iconst 0, 1, 0, 0, 0, 0), (.iastore, 1, 0, 0, 0, 0), (.aload_n 0, 1, 0, 0, 0, 0), (.dup, 1, 0, 0, 0, 0), (.getfield 123, 3, 0, 0, 6, 7), (.iconst 1, 1, 1, 0, 0, 0), (.iadd, 1, 0, 0, 0, 0), (.putfield 123, 3, 0, 0, 6, 7), (.iconst 1, 1, 1, 0, 0, 0)] (pc2 := 348) (by decide +kernel) rfl (And.intro kd_40 (And.intro g1 (And.intro kd_36 (And.intro kd_36 (And.intro kd_41 (And.intro g2 (And.intro kd_36 (And.intro kd_36 (And.intro kd_42 (And.intro g3 (And.intro kd_36 (And.intro kd_36 (And.intro kd_43 (And.intro g4 (And.intro kd_36 (And.intro kd_36 (And.intro kd_44 (And.intro g5 (And.intro kd_36 (And.intro kd_36 (And.intro kd_45 (And.intro g6 (And.intro kd_36 (And.intro kd_36 (And.intro kd_46 (And.intro g7 (And.intro kd_36 (And.intro kd_36 trivial)))))))))))))))))))))))))))) ?_
  obtain ⟨rfl, rfl⟩ := Prod.mk.inj (Option.some.inj hf)
  exact hm.zret (by decide +kernel) rfl
def fX6_comes (x1 : Int32) (σ : ST) : Option (Int32 × ST) :=
  gd (inb (4 * x1) (alen 56)) <|
  gd (inb ((4 * x1) + 1) (alen 56)) <|
  gd (inb ((4 * x1) + 2) (alen 56)) <|
  gd (inb ((4 * x1) + 3) (alen 56)) <|
  gd (inb x1 (alen 55)) <|
  if (σ.1 55 x1.toNatClampNeg) = 99 then
    bR (fX6_in ((σ.1 56 ((4 * x1).toNatClampNeg)).toInt64) 1 20 σ) fun a6 =>
    if a6 = 0 then
      fX6_comes_174 σ
    else
      if (σ.1 36 16) ≤ 0 then
        some (1, setI σ 36 0 (σ.1 56 ((4 * x1).toNatClampNeg)))
      else
        fX6_comes_174 σ
  else
    if (σ.1 55 x1.toNatClampNeg) = 115 then
      if 7 < (σ.1 56 ((4 * x1).toNatClampNeg)) then
        fX6_comes_109 σ
      else
        if 20 < (σ.1 56 (((4 * x1) + 1).toNatClampNeg)) then
          fX6_comes_109 σ
        else
          if 100 < (σ.1 56 (((4 * x1) + 2).toNatClampNeg)) then
            fX6_comes_109 σ
          else
            if (σ.1 36 3) = 8 then
              fX6_comes_109 σ
            else
              gd (inb (σ.1 36 3) (alen 37)) <|
              gd (inb ((setI σ 37 ((σ.1 36 3).toNatClampNeg) (σ.1 56 ((4 * x1).toNatClampNeg))).1 36 3) (alen 38)) <|
              gd (inb ((setI (setI σ 37 ((σ.1 36 3).toNatClampNeg) (σ.1 56 ((4 * x1).toNatClampNeg))) 38 (((setI σ 37 ((σ.1 36 3).toNatClampNeg) (σ.1 56 ((4 * x1).toNatClampNeg))).1 36 3).toNatClampNeg) (σ.1 56 (((4 * x1) + 1).toNatClampNeg))).1 36 3) (alen 39)) <|
              some (1, setI (setI (setI (setI σ 37 ((σ.1 36 3).toNatClampNeg) (σ.1 56 ((4 * x1).toNatClampNeg))) 38 (((setI σ 37 ((σ.1 36 3).toNatClampNeg) (σ.1 56 ((4 * x1).toNatClampNeg))).1 36 3).toNatClampNeg) (σ.1 56 (((4 * x1) + 1).toNatClampNeg))) 39 (((setI (setI σ 37 ((σ.1 36 3).toNatClampNeg) (σ.1 56 ((4 * x1).toNatClampNeg))) 38 (((setI σ 37 ((σ.1 36 3).toNatClampNeg) (σ.1 56 ((4 * x1).toNatClampNeg))).1 36 3).toNatClampNeg) (σ.1 56 (((4 * x1) + 1).toNatClampNeg))).1 36 3).toNatClampNeg) (σ.1 56 (((4 * x1) + 2).toNatClampNeg))) 36 3 (((setI (setI (setI σ 37 ((σ.1 36 3).toNatClampNeg) (σ.1 56 ((4 * x1).toNatClampNeg))) 38 (((setI σ 37 ((σ.1 36 3).toNatClampNeg) (σ.1 56 ((4 * x1).toNatClampNeg))).1 36 3).toNatClampNeg) (σ.1 56 (((4 * x1) + 1).toNatClampNeg))) 39 (((setI (setI σ 37 ((σ.1 36 3).toNatClampNeg) (σ.1 56 ((4 * x1).toNatClampNeg))) 38 (((setI σ 37 ((σ.1 36 3).toNatClampNeg) (σ.1 56 ((4 * x1).toNatClampNeg))).1 36 3).toNatClampNeg) (σ.1 56 (((4 * x1) + 1).toNatClampNeg))).1 36 3).toNatClampNeg) (σ.1 56 (((4 * x1) + 2).toNatClampNeg))).1 36 3) + 1))
    else
      if (σ.1 55 x1.toNatClampNeg) = 116 then
        bR (fX6_in ((σ.1 56 ((4 * x1).toNatClampNeg)).toInt64) 1 5 σ) fun a18 =>
        if a18 = 0 then
          fX6_comes_202 σ
        else
          if (σ.1 36 16) ≤ 0 then
            some (1, setI σ 36 1 (σ.1 56 ((4 * x1).toNatClampNeg)))
          else
            fX6_comes_202 σ
      else
        if 100 < (σ.1 56 ((4 * x1).toNatClampNeg)) then
          fX6_comes_247 σ
        else
          if 100 < (σ.1 56 (((4 * x1) + 1).toNatClampNeg)) then
            fX6_comes_247 σ
          else
            if 100 < (σ.1 56 (((4 * x1) + 2).toNatClampNeg)) then
              fX6_comes_247 σ
            else
              if 100 < (σ.1 56 (((4 * x1) + 3).toNatClampNeg)) then
                fX6_comes_247 σ
              else
                if (σ.1 36 7) = 8 then
                  fX6_comes_247 σ
                else
                  gd (inb x1 (alen 55)) <|
                  if (σ.1 55 x1.toNatClampNeg) = 120 then
                    fX6_comes_273 (σ.1 56 ((4 * x1).toNatClampNeg)) (σ.1 56 (((4 * x1) + 1).toNatClampNeg)) (σ.1 56 (((4 * x1) + 2).toNatClampNeg)) (σ.1 56 (((4 * x1) + 3).toNatClampNeg)) (σ.1 36 7) 1 σ
                  else
                    fX6_comes_273 (σ.1 56 ((4 * x1).toNatClampNeg)) (σ.1 56 (((4 * x1) + 1).toNatClampNeg)) (σ.1 56 (((4 * x1) + 2).toNatClampNeg)) (σ.1 56 (((4 * x1) + 3).toNatClampNeg)) (σ.1 36 7) 0 σ
set_option maxHeartbeats 4000000 in
theorem kmX6_comes (l : Launch) {x1 : Int32} {σ : ST} {r : Int32} {τ : ST} (hf : fX6_comes x1 σ = some (r, τ)) : KM l yX6_comes cX6_comes 7 (some .boolean) 1 25 [.ref 36, .int x1] σ (some (.int r)) τ := by
  refine KM.intro (ow := 6) (by decide +kernel) rfl (Nat.le_of_ble_eq_true rfl) (fun V hm => ?_)
  show V 0 [some (.ref 36), some (.int x1), none, none, none, none, none] [] σ
  have h := hm.bd
  unfold fX6_comes at hf
  obtain ⟨g1, hf⟩ := gd_some hf
  obtain ⟨g2, hf⟩ := gd_some hf
  obtain ⟨g3, hf⟩ := gd_some hf
  obtain ⟨g4, hf⟩ := gd_some hf
  obtain ⟨g5, hf⟩ := gd_some hf
  refine h.run (o := [kd 36 = 6, kd 56 = 10, inb (4 * x1) (alen 56) = true, kd 36 = 6, kd 56 = 10, inb ((4 * x1) + 1) (alen 56) = true, kd 36 = 6, kd 56 = 10, inb ((4 * x1) + 2) (alen 56) = true, kd 36 = 6, kd 56 = 10, inb ((4 * x1) + 3) (alen 56) = true, kd 36 = 6, kd 55 = 10, inb x1 (alen 55) = true]) (ls' := [some (.ref 36), some (.int x1), some (.int (4 * x1)), some (.int (σ.1 56 ((4 * x1).toNatClampNeg))), some (.int (σ.1 56 (((4 * x1) + 1).toNatClampNeg))), some (.int (σ.1 56 (((4 * x1) + 2).toNatClampNeg))), some (.int (σ.1 56 (((4 * x1) + 3).toNatClampNeg)))]) (st' := [.int (σ.1 55 x1.toNatClampNeg)]) (σ' := σ) [(.iconst 4, 1, 4, 0, 0, 0), (.iload_n 1, 1, 0, 0, 0, 0), (.imul, 1, 0, 0, 0, 0), (.istore_n 2, 1, 0, 0, 0, 0), (.aload_n 0, 1, 0, 0, 0, 0), (.getfield 78, 3, 0, 0, 6, 31), (.iload_n 2, 1, 0, 0, 0, 0), (.iaload, 1, 0, 0, 0, 0), (.istore_n 3, 1, 0, 0, 0, 0), (.aload_n 0, 1, 0, 0, 0, 0), (.getfield 78, 3, 0, 0, 6, 31), (.iload_n 2, 1, 0, 0, 0, 0), (.iconst 1, 1, 1, 0, 0, 0), (.iadd, 1, 0, 0, 0, 0), (.iaload, 1, 0, 0, 0, 0), (.istore 4, 2, 0, 0, 0, 0), (.aload_n 0, 1, 0, 0, 0, 0), (.getfield 78, 3, 0, 0, 6, 31), (.iload_n 2, 1, 0, 0, 0, 0), (.iconst 2, 1, 2, 0, 0, 0), (.iadd, 1, 0, 0, 0, 0), (.iaload, 1, 0, 0, 0, 0), (.istore 5, 2, 0, 0, 0, 0), (.aload_n 0, 1, 0, 0, 0, 0), (.getfield 78, 3, 0, 0, 6, 31), (.iload_n 2, 1, 0, 0, 0, 0), (.iconst 3, 1, 3, 0, 0, 0), (.iadd, 1, 0, 0, 0, 0), (.iaload, 1, 0, 0, 0, 0), (.istore 6, 2, 0, 0, 0, 0), (.aload_n 0, 1, 0, 0, 0, 0), (.getfield 75, 3, 0, 0, 6, 30), (.iload_n 1, 1, 0, 0, 0, 0), (.iaload, 1, 0, 0, 0, 0)] (pc2 := 47) (by decide +kernel) rfl (And.intro kd_36 (And.intro kd_56 (And.intro g1 (And.intro kd_36 (And.intro kd_56 (And.intro g2 (And.intro kd_36 (And.intro kd_56 (And.intro g3 (And.intro kd_36 (And.intro kd_56 (And.intro g4 (And.intro kd_36 (And.intro kd_55 (And.intro g5 trivial))))))))))))))) ?_
  by_cases c9 : (σ.1 55 x1.toNatClampNeg) = 99
  · rw [if_pos c9] at hf
    refine h.lookup (off := 108) (tgt := 155) (show decode cX6_comes 47 = .ok (.lookupswitch 164 #[(99, 108), (115, 33), (116, 136)], 33) by decide +kernel) (by decide) (by rw [c9]; decide) (by decide) ?_
    refine h.run (o := []) (ls' := [some (.ref 36), some (.int x1), some (.int (4 * x1)), some (.int (σ.1 56 ((4 * x1).toNatClampNeg))), some (.int (σ.1 56 (((4 * x1) + 1).toNatClampNeg))), some (.int (σ.1 56 (((4 * x1) + 2).toNatClampNeg))), some (.int (σ.1 56 (((4 * x1) + 3).toNatClampNeg)))]) (st' := [.long 20, .long 1, .long ((σ.1 56 ((4 * x1).toNatClampNeg)).toInt64)]) (σ' := σ) [(.iload_n 3, 1, 0, 0, 0, 0), (.i2l, 1, 0, 0, 0, 0), (.lconst 1, 1, 0, 1, 0, 0), (.ldc2_w 164, 3, 0, 20, 0, 0)] (pc2 := 161) (by decide +kernel) rfl trivial ?_
    obtain ⟨a6, e6, hf⟩ := bR_some hf
    refine h.callS (as := [.long ((σ.1 56 ((4 * x1).toNatClampNeg)).toInt64), .long 1, .long 20]) (rest := []) (by decide +kernel) lk6_119 cwX6_in (kmX6_in l e6) rfl (Nat.le_of_ble_eq_true rfl) (Nat.le_of_ble_eq_true rfl) (Nat.le_of_ble_eq_true rfl) ?_
    show V 164 [some (.ref 36), some (.int x1), some (.int (4 * x1)), some (.int (σ.1 56 ((4 * x1).toNatClampNeg))), some (.int (σ.1 56 (((4 * x1) + 1).toNatClampNeg))), some (.int (σ.1 56 (((4 * x1) + 2).toNatClampNeg))), some (.int (σ.1 56 (((4 * x1) + 3).toNatClampNeg)))] [.int a6] σ
    refine h.if_eq (tgt := 174) (show decode cX6_comes 164 = .ok (.ifCond .eq 10, 3) by decide +kernel) (by decide) (fun c8 => ?_) (fun c8 => ?_)
    · rw [if_pos c8] at hf
      refine h.drop (ls' := [none, none, none, none, none, none, none]) trivial ?_
      exact wX6_comes_174 hm hf
    · rw [if_neg c8] at hf
      show V 167 [some (.ref 36), some (.int x1), some (.int (4 * x1)), some (.int (σ.1 56 ((4 * x1).toNatClampNeg))), some (.int (σ.1 56 (((4 * x1) + 1).toNatClampNeg))), some (.int (σ.1 56 (((4 * x1) + 2).toNatClampNeg))), some (.int (σ.1 56 (((4 * x1) + 3).toNatClampNeg)))] [] σ
      refine h.run (o := [kd 36 = 6]) (ls' := [some (.ref 36), some (.int x1), some (.int (4 * x1)), some (.int (σ.1 56 ((4 * x1).toNatClampNeg))), some (.int (σ.1 56 (((4 * x1) + 1).toNatClampNeg))), some (.int (σ.1 56 (((4 * x1) + 2).toNatClampNeg))), some (.int (σ.1 56 (((4 * x1) + 3).toNatClampNeg)))]) (st' := [.int (σ.1 36 16)]) (σ' := σ) [(.aload_n 0, 1, 0, 0, 0, 0), (.getfield 166, 3, 0, 0, 6, 16)] (pc2 := 171) (by decide +kernel) rfl (And.intro kd_36 trivial) ?_
      refine h.if_le (tgt := 176) (show decode cX6_comes 171 = .ok (.ifCond .le 5, 3) by decide +kernel) (by decide) (fun c7 => ?_) (fun c7 => ?_)
      · rw [if_pos c7] at hf
        refine h.run (o := [kd 36 = 6]) (ls' := [some (.ref 36), some (.int x1), some (.int (4 * x1)), some (.int (σ.1 56 ((4 * x1).toNatClampNeg))), some (.int (σ.1 56 (((4 * x1) + 1).toNatClampNeg))), some (.int (σ.1 56 (((4 * x1) + 2).toNatClampNeg))), some (.int (σ.1 56 (((4 * x1) + 3).toNatClampNeg)))]) (st' := [.int 1]) (σ' := setI σ 36 0 (σ.1 56 ((4 * x1).toNatClampNeg))) [(.aload_n 0, 1, 0, 0, 0, 0), (.iload_n 3, 1, 0, 0, 0, 0), (.putfield 7, 3, 0, 0, 6, 0), (.iconst 1, 1, 1, 0, 0, 0)] (pc2 := 182) (by decide +kernel) rfl (And.intro kd_36 trivial) ?_
        obtain ⟨rfl, rfl⟩ := Prod.mk.inj (Option.some.inj hf)
        exact hm.zret (by decide +kernel) rfl
      · rw [if_neg c7] at hf
        show V 174 [some (.ref 36), some (.int x1), some (.int (4 * x1)), some (.int (σ.1 56 ((4 * x1).toNatClampNeg))), some (.int (σ.1 56 (((4 * x1) + 1).toNatClampNeg))), some (.int (σ.1 56 (((4 * x1) + 2).toNatClampNeg))), some (.int (σ.1 56 (((4 * x1) + 3).toNatClampNeg)))] [] σ
        refine h.drop (ls' := [none, none, none, none, none, none, none]) trivial ?_
        exact wX6_comes_174 hm hf
  · rw [if_neg c9] at hf
    by_cases c17 : (σ.1 55 x1.toNatClampNeg) = 115
    · rw [if_pos c17] at hf
      refine h.lookup (off := 33) (tgt := 80) (show decode cX6_comes 47 = .ok (.lookupswitch 164 #[(99, 108), (115, 33), (116, 136)], 33) by decide +kernel) (by decide) (by rw [c17]; decide) (by decide) ?_
      refine h.run (o := []) (ls' := [some (.ref 36), some (.int x1), some (.int (4 * x1)), some (.int (σ.1 56 ((4 * x1).toNatClampNeg))), some (.int (σ.1 56 (((4 * x1) + 1).toNatClampNeg))), some (.int (σ.1 56 (((4 * x1) + 2).toNatClampNeg))), some (.int (σ.1 56 (((4 * x1) + 3).toNatClampNeg)))]) (st' := [.int 7, .int (σ.1 56 ((4 * x1).toNatClampNeg))]) (σ' := σ) [(.iload_n 3, 1, 0, 0, 0, 0), (.bipush 7, 2, 7, 0, 0, 0)] (pc2 := 83) (by decide +kernel) rfl trivial ?_
      refine h.icmp_gt (tgt := 109) (show decode cX6_comes 83 = .ok (.if_icmp .gt 26, 3) by decide +kernel) (by decide) (fun c16 => ?_) (fun c16 => ?_)
      · rw [if_pos c16] at hf
        refine h.drop (ls' := [none, none, none, none, none, none, none]) trivial ?_
        exact wX6_comes_109 hm hf
      · rw [if_neg c16] at hf
        show V 86 [some (.ref 36), some (.int x1), some (.int (4 * x1)), some (.int (σ.1 56 ((4 * x1).toNatClampNeg))), some (.int (σ.1 56 (((4 * x1) + 1).toNatClampNeg))), some (.int (σ.1 56 (((4 * x1) + 2).toNatClampNeg))), some (.int (σ.1 56 (((4 * x1) + 3).toNatClampNeg)))] [] σ
        refine h.run (o := []) (ls' := [some (.ref 36), some (.int x1), some (.int (4 * x1)), some (.int (σ.1 56 ((4 * x1).toNatClampNeg))), some (.int (σ.1 56 (((4 * x1) + 1).toNatClampNeg))), some (.int (σ.1 56 (((4 * x1) + 2).toNatClampNeg))), some (.int (σ.1 56 (((4 * x1) + 3).toNatClampNeg)))]) (st' := [.int 20, .int (σ.1 56 (((4 * x1) + 1).toNatClampNeg))]) (σ' := σ) [(.iload 4, 2, 0, 0, 0, 0), (.bipush 20, 2, 20, 0, 0, 0)] (pc2 := 90) (by decide +kernel) rfl trivial ?_
        refine h.icmp_gt (tgt := 109) (show decode cX6_comes 90 = .ok (.if_icmp .gt 19, 3) by decide +kernel) (by decide) (fun c15 => ?_) (fun c15 => ?_)
        · rw [if_pos c15] at hf
          refine h.drop (ls' := [none, none, none, none, none, none, none]) trivial ?_
          exact wX6_comes_109 hm hf
        · rw [if_neg c15] at hf
          show V 93 [some (.ref 36), some (.int x1), some (.int (4 * x1)), some (.int (σ.1 56 ((4 * x1).toNatClampNeg))), some (.int (σ.1 56 (((4 * x1) + 1).toNatClampNeg))), some (.int (σ.1 56 (((4 * x1) + 2).toNatClampNeg))), some (.int (σ.1 56 (((4 * x1) + 3).toNatClampNeg)))] [] σ
          refine h.run (o := []) (ls' := [some (.ref 36), some (.int x1), some (.int (4 * x1)), some (.int (σ.1 56 ((4 * x1).toNatClampNeg))), some (.int (σ.1 56 (((4 * x1) + 1).toNatClampNeg))), some (.int (σ.1 56 (((4 * x1) + 2).toNatClampNeg))), some (.int (σ.1 56 (((4 * x1) + 3).toNatClampNeg)))]) (st' := [.int 100, .int (σ.1 56 (((4 * x1) + 2).toNatClampNeg))]) (σ' := σ) [(.iload 5, 2, 0, 0, 0, 0), (.bipush 100, 2, 100, 0, 0, 0)] (pc2 := 97) (by decide +kernel) rfl trivial ?_
          refine h.icmp_gt (tgt := 109) (show decode cX6_comes 97 = .ok (.if_icmp .gt 12, 3) by decide +kernel) (by decide) (fun c14 => ?_) (fun c14 => ?_)
          · rw [if_pos c14] at hf
            refine h.drop (ls' := [none, none, none, none, none, none, none]) trivial ?_
            exact wX6_comes_109 hm hf
          · rw [if_neg c14] at hf
            show V 100 [some (.ref 36), some (.int x1), some (.int (4 * x1)), some (.int (σ.1 56 ((4 * x1).toNatClampNeg))), some (.int (σ.1 56 (((4 * x1) + 1).toNatClampNeg))), some (.int (σ.1 56 (((4 * x1) + 2).toNatClampNeg))), some (.int (σ.1 56 (((4 * x1) + 3).toNatClampNeg)))] [] σ
            refine h.run (o := [kd 36 = 6]) (ls' := [some (.ref 36), some (.int x1), some (.int (4 * x1)), some (.int (σ.1 56 ((4 * x1).toNatClampNeg))), some (.int (σ.1 56 (((4 * x1) + 1).toNatClampNeg))), some (.int (σ.1 56 (((4 * x1) + 2).toNatClampNeg))), some (.int (σ.1 56 (((4 * x1) + 3).toNatClampNeg)))]) (st' := [.int 8, .int (σ.1 36 3)]) (σ' := σ) [(.aload_n 0, 1, 0, 0, 0, 0), (.getfield 116, 3, 0, 0, 6, 3), (.bipush 8, 2, 8, 0, 0, 0)] (pc2 := 106) (by decide +kernel) rfl (And.intro kd_36 trivial) ?_
            refine h.icmp_ne (tgt := 111) (show decode cX6_comes 106 = .ok (.if_icmp .ne 5, 3) by decide +kernel) (by decide) (fun c13 => ?_) (fun c13 => ?_)
            · rw [if_neg c13] at hf
              obtain ⟨g10, hf⟩ := gd_some hf
              obtain ⟨g11, hf⟩ := gd_some hf
              obtain ⟨g12, hf⟩ := gd_some hf
              refine h.run (o := [kd 36 = 6, kd 36 = 6, kd 37 = 10, inb (σ.1 36 3) (alen 37) = true, kd 36 = 6, kd 36 = 6, kd 38 = 10, inb ((setI σ 37 ((σ.1 36 3).toNatClampNeg) (σ.1 56 ((4 * x1).toNatClampNeg))).1 36 3) (alen 38) = true, kd 36 = 6, kd 36 = 6, kd 39 = 10, inb ((setI (setI σ 37 ((σ.1 36 3).toNatClampNeg) (σ.1 56 ((4 * x1).toNatClampNeg))) 38 (((setI σ 37 ((σ.1 36 3).toNatClampNeg) (σ.1 56 ((4 * x1).toNatClampNeg))).1 36 3).toNatClampNeg) (σ.1 56 (((4 * x1) + 1).toNatClampNeg))).1 36 3) (alen 39) = true, kd 36 = 6, kd 36 = 6]) (ls' := [some (.ref 36), some (.int x1), some (.int (4 * x1)), some (.int (σ.1 56 ((4 * x1).toNatClampNeg))), some (.int (σ.1 56 (((4 * x1) + 1).toNatClampNeg))), some (.int (σ.1 56 (((4 * x1) + 2).toNatClampNeg))), some (.int (σ.1 56 (((4 * x1) + 3).toNatClampNeg)))]) (st' := [.int 1]) (σ' := setI (setI (setI (setI σ 37 ((σ.1 36 3).toNatClampNeg) (σ.1 56 ((4 * x1).toNatClampNeg))) 38 (((setI σ 37 ((σ.1 36 3).toNatClampNeg) (σ.1 56 ((4 * x1).toNatClampNeg))).1 36 3).toNatClampNeg) (σ.1 56 (((4 * x1) + 1).toNatClampNeg))) 39 (((setI (setI σ 37 ((σ.1 36 3).toNatClampNeg) (σ.1 56 ((4 * x1).toNatClampNeg))) 38 (((setI σ 37 ((σ.1 36 3).toNatClampNeg) (σ.1 56 ((4 * x1).toNatClampNeg))).1 36 3).toNatClampNeg) (σ.1 56 (((4 * x1) + 1).toNatClampNeg))).1 36 3).toNatClampNeg) (σ.1 56 (((4 * x1) + 2).toNatClampNeg))) 36 3 (((setI (setI (setI σ 37 ((σ.1 36 3).toNatClampNeg) (σ.1 56 ((4 * x1).toNatClampNeg))) 38 (((setI σ 37 ((σ.1 36 3).toNatClampNeg) (σ.1 56 ((4 * x1).toNatClampNeg))).1 36 3).toNatClampNeg) (σ.1 56 (((4 * x1) + 1).toNatClampNeg))) 39 (((setI (setI σ 37 ((σ.1 36 3).toNatClampNeg) (σ.1 56 ((4 * x1).toNatClampNeg))) 38 (((setI σ 37 ((σ.1 36 3).toNatClampNeg) (σ.1 56 ((4 * x1).toNatClampNeg))).1 36 3).toNatClampNeg) (σ.1 56 (((4 * x1) + 1).toNatClampNeg))).1 36 3).toNatClampNeg) (σ.1 56 (((4 * x1) + 2).toNatClampNeg))).1 36 3) + 1)) [(.aload_n 0, 1, 0, 0, 0, 0), (.getfield 19, 3, 0, 0, 6, 4), (.aload_n 0, 1, 0, 0, 0, 0), (.getfield 116, 3, 0, 0, 6, 3), (.iload_n 3, 1, 0, 0, 0, 0), (.iastore, 1, 0, 0, 0, 0), (.aload_n 0, 1, 0, 0, 0, 0), (.getfield 23, 3, 0, 0, 6, 5), (.aload_n 0, 1, 0, 0, 0, 0), (.getfield 116, 3, 0, 0, 6, 3), (.iload 4, 2, 0, 0, 0, 0), (.iastore, 1, 0, 0, 0, 0), (.aload_n 0, 1, 0, 0, 0, 0), (.getfield 26, 3, 0, 0, 6, 6), (.aload_n 0, 1, 0, 0, 0, 0), (.getfield 116, 3, 0, 0, 6, 3), (.iload 5, 2, 0, 0, 0, 0), (.iastore, 1, 0, 0, 0, 0), (.aload_n 0, 1, 0, 0, 0, 0), (.dup, 1, 0, 0, 0, 0), (.getfield 116, 3, 0, 0, 6, 3), (.iconst 1, 1, 1, 0, 0, 0), (.iadd, 1, 0, 0, 0, 0), (.putfield 116, 3, 0, 0, 6, 3), (.iconst 1, 1, 1, 0, 0, 0)] (pc2 := 154) (by decide +kernel) rfl (And.intro kd_36 (And.intro kd_36 (And.intro kd_37 (And.intro g10 (And.intro kd_36 (And.intro kd_36 (And.intro kd_38 (And.intro g11 (And.intro kd_36 (And.intro kd_36 (And.intro kd_39 (And.intro g12 (And.intro kd_36 (And.intro kd_36 trivial)))))))))))))) ?_
              obtain ⟨rfl, rfl⟩ := Prod.mk.inj (Option.some.inj hf)
              exact hm.zret (by decide +kernel) rfl
            · rw [if_pos c13] at hf
              show V 109 [some (.ref 36), some (.int x1), some (.int (4 * x1)), some (.int (σ.1 56 ((4 * x1).toNatClampNeg))), some (.int (σ.1 56 (((4 * x1) + 1).toNatClampNeg))), some (.int (σ.1 56 (((4 * x1) + 2).toNatClampNeg))), some (.int (σ.1 56 (((4 * x1) + 3).toNatClampNeg)))] [] σ
              refine h.drop (ls' := [none, none, none, none, none, none, none]) trivial ?_
              exact wX6_comes_109 hm hf
    · rw [if_neg c17] at hf
      by_cases c21 : (σ.1 55 x1.toNatClampNeg) = 116
      · rw [if_pos c21] at hf
        refine h.lookup (off := 136) (tgt := 183) (show decode cX6_comes 47 = .ok (.lookupswitch 164 #[(99, 108), (115, 33), (116, 136)], 33) by decide +kernel) (by decide) (by rw [c21]; decide) (by decide) ?_
        refine h.run (o := []) (ls' := [some (.ref 36), some (.int x1), some (.int (4 * x1)), some (.int (σ.1 56 ((4 * x1).toNatClampNeg))), some (.int (σ.1 56 (((4 * x1) + 1).toNatClampNeg))), some (.int (σ.1 56 (((4 * x1) + 2).toNatClampNeg))), some (.int (σ.1 56 (((4 * x1) + 3).toNatClampNeg)))]) (st' := [.long 5, .long 1, .long ((σ.1 56 ((4 * x1).toNatClampNeg)).toInt64)]) (σ' := σ) [(.iload_n 3, 1, 0, 0, 0, 0), (.i2l, 1, 0, 0, 0, 0), (.lconst 1, 1, 0, 1, 0, 0), (.ldc2_w 169, 3, 0, 5, 0, 0)] (pc2 := 189) (by decide +kernel) rfl trivial ?_
        obtain ⟨a18, e18, hf⟩ := bR_some hf
        refine h.callS (as := [.long ((σ.1 56 ((4 * x1).toNatClampNeg)).toInt64), .long 1, .long 5]) (rest := []) (by decide +kernel) lk6_119 cwX6_in (kmX6_in l e18) rfl (Nat.le_of_ble_eq_true rfl) (Nat.le_of_ble_eq_true rfl) (Nat.le_of_ble_eq_true rfl) ?_
        show V 192 [some (.ref 36), some (.int x1), some (.int (4 * x1)), some (.int (σ.1 56 ((4 * x1).toNatClampNeg))), some (.int (σ.1 56 (((4 * x1) + 1).toNatClampNeg))), some (.int (σ.1 56 (((4 * x1) + 2).toNatClampNeg))), some (.int (σ.1 56 (((4 * x1) + 3).toNatClampNeg)))] [.int a18] σ
        refine h.if_eq (tgt := 202) (show decode cX6_comes 192 = .ok (.ifCond .eq 10, 3) by decide +kernel) (by decide) (fun c20 => ?_) (fun c20 => ?_)
        · rw [if_pos c20] at hf
          refine h.drop (ls' := [none, none, none, none, none, none, none]) trivial ?_
          exact wX6_comes_202 hm hf
        · rw [if_neg c20] at hf
          show V 195 [some (.ref 36), some (.int x1), some (.int (4 * x1)), some (.int (σ.1 56 ((4 * x1).toNatClampNeg))), some (.int (σ.1 56 (((4 * x1) + 1).toNatClampNeg))), some (.int (σ.1 56 (((4 * x1) + 2).toNatClampNeg))), some (.int (σ.1 56 (((4 * x1) + 3).toNatClampNeg)))] [] σ
          refine h.run (o := [kd 36 = 6]) (ls' := [some (.ref 36), some (.int x1), some (.int (4 * x1)), some (.int (σ.1 56 ((4 * x1).toNatClampNeg))), some (.int (σ.1 56 (((4 * x1) + 1).toNatClampNeg))), some (.int (σ.1 56 (((4 * x1) + 2).toNatClampNeg))), some (.int (σ.1 56 (((4 * x1) + 3).toNatClampNeg)))]) (st' := [.int (σ.1 36 16)]) (σ' := σ) [(.aload_n 0, 1, 0, 0, 0, 0), (.getfield 166, 3, 0, 0, 6, 16)] (pc2 := 199) (by decide +kernel) rfl (And.intro kd_36 trivial) ?_
          refine h.if_le (tgt := 204) (show decode cX6_comes 199 = .ok (.ifCond .le 5, 3) by decide +kernel) (by decide) (fun c19 => ?_) (fun c19 => ?_)
          · rw [if_pos c19] at hf
            refine h.run (o := [kd 36 = 6]) (ls' := [some (.ref 36), some (.int x1), some (.int (4 * x1)), some (.int (σ.1 56 ((4 * x1).toNatClampNeg))), some (.int (σ.1 56 (((4 * x1) + 1).toNatClampNeg))), some (.int (σ.1 56 (((4 * x1) + 2).toNatClampNeg))), some (.int (σ.1 56 (((4 * x1) + 3).toNatClampNeg)))]) (st' := [.int 1]) (σ' := setI σ 36 1 (σ.1 56 ((4 * x1).toNatClampNeg))) [(.aload_n 0, 1, 0, 0, 0, 0), (.iload_n 3, 1, 0, 0, 0, 0), (.putfield 13, 3, 0, 0, 6, 1), (.iconst 1, 1, 1, 0, 0, 0)] (pc2 := 210) (by decide +kernel) rfl (And.intro kd_36 trivial) ?_
            obtain ⟨rfl, rfl⟩ := Prod.mk.inj (Option.some.inj hf)
            exact hm.zret (by decide +kernel) rfl
          · rw [if_neg c19] at hf
            show V 202 [some (.ref 36), some (.int x1), some (.int (4 * x1)), some (.int (σ.1 56 ((4 * x1).toNatClampNeg))), some (.int (σ.1 56 (((4 * x1) + 1).toNatClampNeg))), some (.int (σ.1 56 (((4 * x1) + 2).toNatClampNeg))), some (.int (σ.1 56 (((4 * x1) + 3).toNatClampNeg)))] [] σ
            refine h.drop (ls' := [none, none, none, none, none, none, none]) trivial ?_
            exact wX6_comes_202 hm hf
      · rw [if_neg c21] at hf
        refine h.lookup (off := 164) (tgt := 211) (show decode cX6_comes 47 = .ok (.lookupswitch 164 #[(99, 108), (115, 33), (116, 136)], 33) by decide +kernel) (by decide) (lk_out3 (sw_ne c9 (i := 99) (by decide)) (sw_ne c17 (i := 115) (by decide)) (sw_ne c21 (i := 116) (by decide))) (by decide) ?_
        refine h.run (o := []) (ls' := [some (.ref 36), some (.int x1), some (.int (4 * x1)), some (.int (σ.1 56 ((4 * x1).toNatClampNeg))), some (.int (σ.1 56 (((4 * x1) + 1).toNatClampNeg))), some (.int (σ.1 56 (((4 * x1) + 2).toNatClampNeg))), some (.int (σ.1 56 (((4 * x1) + 3).toNatClampNeg)))]) (st' := [.int 100, .int (σ.1 56 ((4 * x1).toNatClampNeg))]) (σ' := σ) [(.iload_n 3, 1, 0, 0, 0, 0), (.bipush 100, 2, 100, 0, 0, 0)] (pc2 := 214) (by decide +kernel) rfl trivial ?_
        refine h.icmp_gt (tgt := 247) (show decode cX6_comes 214 = .ok (.if_icmp .gt 33, 3) by decide +kernel) (by decide) (fun c28 => ?_) (fun c28 => ?_)
        · rw [if_pos c28] at hf
          refine h.drop (ls' := [none, none, none, none, none, none, none]) trivial ?_
          exact wX6_comes_247 hm hf
        · rw [if_neg c28] at hf
          show V 217 [some (.ref 36), some (.int x1), some (.int (4 * x1)), some (.int (σ.1 56 ((4 * x1).toNatClampNeg))), some (.int (σ.1 56 (((4 * x1) + 1).toNatClampNeg))), some (.int (σ.1 56 (((4 * x1) + 2).toNatClampNeg))), some (.int (σ.1 56 (((4 * x1) + 3).toNatClampNeg)))] [] σ
          refine h.run (o := []) (ls' := [some (.ref 36), some (.int x1), some (.int (4 * x1)), some (.int (σ.1 56 ((4 * x1).toNatClampNeg))), some (.int (σ.1 56 (((4 * x1) + 1).toNatClampNeg))), some (.int (σ.1 56 (((4 * x1) + 2).toNatClampNeg))), some (.int (σ.1 56 (((4 * x1) + 3).toNatClampNeg)))]) (st' := [.int 100, .int (σ.1 56 (((4 * x1) + 1).toNatClampNeg))]) (σ' := σ) [(.iload 4, 2, 0, 0, 0, 0), (.bipush 100, 2, 100, 0, 0, 0)] (pc2 := 221) (by decide +kernel) rfl trivial ?_
          refine h.icmp_gt (tgt := 247) (show decode cX6_comes 221 = .ok (.if_icmp .gt 26, 3) by decide +kernel) (by decide) (fun c27 => ?_) (fun c27 => ?_)
          · rw [if_pos c27] at hf
            refine h.drop (ls' := [none, none, none, none, none, none, none]) trivial ?_
            exact wX6_comes_247 hm hf
          · rw [if_neg c27] at hf
            show V 224 [some (.ref 36), some (.int x1), some (.int (4 * x1)), some (.int (σ.1 56 ((4 * x1).toNatClampNeg))), some (.int (σ.1 56 (((4 * x1) + 1).toNatClampNeg))), some (.int (σ.1 56 (((4 * x1) + 2).toNatClampNeg))), some (.int (σ.1 56 (((4 * x1) + 3).toNatClampNeg)))] [] σ
            refine h.run (o := []) (ls' := [some (.ref 36), some (.int x1), some (.int (4 * x1)), some (.int (σ.1 56 ((4 * x1).toNatClampNeg))), some (.int (σ.1 56 (((4 * x1) + 1).toNatClampNeg))), some (.int (σ.1 56 (((4 * x1) + 2).toNatClampNeg))), some (.int (σ.1 56 (((4 * x1) + 3).toNatClampNeg)))]) (st' := [.int 100, .int (σ.1 56 (((4 * x1) + 2).toNatClampNeg))]) (σ' := σ) [(.iload 5, 2, 0, 0, 0, 0), (.bipush 100, 2, 100, 0, 0, 0)] (pc2 := 228) (by decide +kernel) rfl trivial ?_
            refine h.icmp_gt (tgt := 247) (show decode cX6_comes 228 = .ok (.if_icmp .gt 19, 3) by decide +kernel) (by decide) (fun c26 => ?_) (fun c26 => ?_)
            · rw [if_pos c26] at hf
              refine h.drop (ls' := [none, none, none, none, none, none, none]) trivial ?_
              exact wX6_comes_247 hm hf
            · rw [if_neg c26] at hf
              show V 231 [some (.ref 36), some (.int x1), some (.int (4 * x1)), some (.int (σ.1 56 ((4 * x1).toNatClampNeg))), some (.int (σ.1 56 (((4 * x1) + 1).toNatClampNeg))), some (.int (σ.1 56 (((4 * x1) + 2).toNatClampNeg))), some (.int (σ.1 56 (((4 * x1) + 3).toNatClampNeg)))] [] σ
              refine h.run (o := []) (ls' := [some (.ref 36), some (.int x1), some (.int (4 * x1)), some (.int (σ.1 56 ((4 * x1).toNatClampNeg))), some (.int (σ.1 56 (((4 * x1) + 1).toNatClampNeg))), some (.int (σ.1 56 (((4 * x1) + 2).toNatClampNeg))), some (.int (σ.1 56 (((4 * x1) + 3).toNatClampNeg)))]) (st' := [.int 100, .int (σ.1 56 (((4 * x1) + 3).toNatClampNeg))]) (σ' := σ) [(.iload 6, 2, 0, 0, 0, 0), (.bipush 100, 2, 100, 0, 0, 0)] (pc2 := 235) (by decide +kernel) rfl trivial ?_
              refine h.icmp_gt (tgt := 247) (show decode cX6_comes 235 = .ok (.if_icmp .gt 12, 3) by decide +kernel) (by decide) (fun c25 => ?_) (fun c25 => ?_)
              · rw [if_pos c25] at hf
                refine h.drop (ls' := [none, none, none, none, none, none, none]) trivial ?_
                exact wX6_comes_247 hm hf
              · rw [if_neg c25] at hf
                show V 238 [some (.ref 36), some (.int x1), some (.int (4 * x1)), some (.int (σ.1 56 ((4 * x1).toNatClampNeg))), some (.int (σ.1 56 (((4 * x1) + 1).toNatClampNeg))), some (.int (σ.1 56 (((4 * x1) + 2).toNatClampNeg))), some (.int (σ.1 56 (((4 * x1) + 3).toNatClampNeg)))] [] σ
                refine h.run (o := [kd 36 = 6]) (ls' := [some (.ref 36), some (.int x1), some (.int (4 * x1)), some (.int (σ.1 56 ((4 * x1).toNatClampNeg))), some (.int (σ.1 56 (((4 * x1) + 1).toNatClampNeg))), some (.int (σ.1 56 (((4 * x1) + 2).toNatClampNeg))), some (.int (σ.1 56 (((4 * x1) + 3).toNatClampNeg)))]) (st' := [.int 8, .int (σ.1 36 7)]) (σ' := σ) [(.aload_n 0, 1, 0, 0, 0, 0), (.getfield 123, 3, 0, 0, 6, 7), (.bipush 8, 2, 8, 0, 0, 0)] (pc2 := 244) (by decide +kernel) rfl (And.intro kd_36 trivial) ?_
                refine h.icmp_ne (tgt := 249) (show decode cX6_comes 244 = .ok (.if_icmp .ne 5, 3) by decide +kernel) (by decide) (fun c24 => ?_) (fun c24 => ?_)
                · rw [if_neg c24] at hf
                  obtain ⟨g22, hf⟩ := gd_some hf
                  refine h.run (o := [kd 36 = 6, kd 36 = 6, kd 36 = 6, kd 55 = 10, inb x1 (alen 55) = true]) (ls' := [some (.ref 36), some (.int x1), some (.int (4 * x1)), some (.int (σ.1 56 ((4 * x1).toNatClampNeg))), some (.int (σ.1 56 (((4 * x1) + 1).toNatClampNeg))), some (.int (σ.1 56 (((4 * x1) + 2).toNatClampNeg))), some (.int (σ.1 56 (((4 * x1) + 3).toNatClampNeg)))]) (st' := [.int 120, .int (σ.1 55 x1.toNatClampNeg), .int (σ.1 36 7), .ref 40]) (σ' := σ) [(.aload_n 0, 1, 0, 0, 0, 0), (.getfield 29, 3, 0, 0, 6, 8), (.aload_n 0, 1, 0, 0, 0, 0), (.getfield 123, 3, 0, 0, 6, 7), (.aload_n 0, 1, 0, 0, 0, 0), (.getfield 75, 3, 0, 0, 6, 30), (.iload_n 1, 1, 0, 0, 0, 0), (.iaload, 1, 0, 0, 0, 0), (.bipush 120, 2, 120, 0, 0, 0)] (pc2 := 265) (by decide +kernel) rfl (And.intro kd_36 (And.intro kd_36 (And.intro kd_36 (And.intro kd_55 (And.intro g22 trivial))))) ?_
                  refine h.icmp_ne (tgt := 272) (show decode cX6_comes 265 = .ok (.if_icmp .ne 7, 3) by decide +kernel) (by decide) (fun c23 => ?_) (fun c23 => ?_)
                  · rw [if_neg c23] at hf
                    refine h.run (o := []) (ls' := [some (.ref 36), some (.int x1), some (.int (4 * x1)), some (.int (σ.1 56 ((4 * x1).toNatClampNeg))), some (.int (σ.1 56 (((4 * x1) + 1).toNatClampNeg))), some (.int (σ.1 56 (((4 * x1) + 2).toNatClampNeg))), some (.int (σ.1 56 (((4 * x1) + 3).toNatClampNeg)))]) (st' := [.int 0, .int (σ.1 36 7), .ref 40]) (σ' := σ) [(.iconst 0, 1, 0, 0, 0, 0)] (pc2 := 273) (by decide +kernel) rfl trivial ?_
                    refine h.drop (ls' := [some (.ref 36), none, none, some (.int (σ.1 56 ((4 * x1).toNatClampNeg))), some (.int (σ.1 56 (((4 * x1) + 1).toNatClampNeg))), some (.int (σ.1 56 (((4 * x1) + 2).toNatClampNeg))), some (.int (σ.1 56 (((4 * x1) + 3).toNatClampNeg)))]) (And.intro rfl (And.intro rfl (And.intro rfl (And.intro rfl (And.intro rfl trivial))))) ?_
                    exact wX6_comes_273 hm hf
                  · rw [if_pos c23] at hf
                    show V 268 [some (.ref 36), some (.int x1), some (.int (4 * x1)), some (.int (σ.1 56 ((4 * x1).toNatClampNeg))), some (.int (σ.1 56 (((4 * x1) + 1).toNatClampNeg))), some (.int (σ.1 56 (((4 * x1) + 2).toNatClampNeg))), some (.int (σ.1 56 (((4 * x1) + 3).toNatClampNeg)))] [.int (σ.1 36 7), .ref 40] σ
                    refine h.run (o := []) (ls' := [some (.ref 36), some (.int x1), some (.int (4 * x1)), some (.int (σ.1 56 ((4 * x1).toNatClampNeg))), some (.int (σ.1 56 (((4 * x1) + 1).toNatClampNeg))), some (.int (σ.1 56 (((4 * x1) + 2).toNatClampNeg))), some (.int (σ.1 56 (((4 * x1) + 3).toNatClampNeg)))]) (st' := [.int 1, .int (σ.1 36 7), .ref 40]) (σ' := σ) [(.iconst 1, 1, 1, 0, 0, 0), (.goto 4, 3, 0, 0, 0, 273)] (pc2 := 273) (by decide +kernel) rfl trivial ?_
                    refine h.drop (ls' := [some (.ref 36), none, none, some (.int (σ.1 56 ((4 * x1).toNatClampNeg))), some (.int (σ.1 56 (((4 * x1) + 1).toNatClampNeg))), some (.int (σ.1 56 (((4 * x1) + 2).toNatClampNeg))), some (.int (σ.1 56 (((4 * x1) + 3).toNatClampNeg)))]) (And.intro rfl (And.intro rfl (And.intro rfl (And.intro rfl (And.intro rfl trivial))))) ?_
                    exact wX6_comes_273 hm hf
                · rw [if_pos c24] at hf
                  show V 247 [some (.ref 36), some (.int x1), some (.int (4 * x1)), some (.int (σ.1 56 ((4 * x1).toNatClampNeg))), some (.int (σ.1 56 (((4 * x1) + 1).toNatClampNeg))), some (.int (σ.1 56 (((4 * x1) + 2).toNatClampNeg))), some (.int (σ.1 56 (((4 * x1) + 3).toNatClampNeg)))] [] σ
                  refine h.drop (ls' := [none, none, none, none, none, none, none]) trivial ?_
                  exact wX6_comes_247 hm hf
def fX6_wrongRow_46 (t0 : Int32) (σ : ST) : Option Int32 :=
  some t0
set_option maxHeartbeats 4000000 in
theorem wX6_wrongRow_46 {l : Launch} {V : Nat → List (Option Value) → List Value → ST → Prop} {r : Int32} {σ : ST} {t0 : Int32} (hm : BM l 6 cX6_wrongRow 2 (some .int) 1 25 (some (.int r)) σ V) (hf : fX6_wrongRow_46 t0 σ = some r) : V 46 [none, none] [.int t0] σ := by
  have h := hm.bd
  unfold fX6_wrongRow_46 at hf
  obtain rfl := Option.some.inj hf
  exact hm.iret (by decide +kernel)
def fX6_wrongRow (x1 : Int32) (σ : ST) : Option Int32 :=
  bR (fX6_in x1.toInt64 0 7 σ) fun a1 =>
  if a1 = 0 then
    fX6_wrongRow_46 (-1) σ
  else
    gd (inb x1 (alen 58)) <|
    if (σ.1 58 x1.toNatClampNeg) = 0 then
      fX6_wrongRow_46 (-11) σ
    else
      gd (inb x1 (alen 58)) <|
      if (σ.1 58 x1.toNatClampNeg) = 2 then
        fX6_wrongRow_46 0 σ
      else
        fX6_wrongRow_46 (-12) σ
set_option maxHeartbeats 4000000 in
theorem kmX6_wrongRow (l : Launch) {x1 : Int32} {σ : ST} {r : Int32} (hf : fX6_wrongRow x1 σ = some r) : KM l yX6_wrongRow cX6_wrongRow 2 (some .int) 1 25 [.ref 36, .int x1] σ (some (.int r)) σ := by
  refine KM.intro (ow := 6) (by decide +kernel) rfl (Nat.le_of_ble_eq_true rfl) (fun V hm => ?_)
  show V 0 [some (.ref 36), some (.int x1)] [] σ
  have h := hm.bd
  unfold fX6_wrongRow at hf
  refine h.run (o := []) (ls' := [some (.ref 36), some (.int x1)]) (st' := [.long 7, .long 0, .long x1.toInt64]) (σ' := σ) [(.iload_n 1, 1, 0, 0, 0, 0), (.i2l, 1, 0, 0, 0, 0), (.lconst 0, 1, 0, 0, 0, 0), (.ldc2_w 247, 3, 0, 7, 0, 0)] (pc2 := 6) (by decide +kernel) rfl trivial ?_
  obtain ⟨a1, e1, hf⟩ := bR_some hf
  refine h.callS (as := [.long x1.toInt64, .long 0, .long 7]) (rest := []) (by decide +kernel) lk6_119 cwX6_in (kmX6_in l e1) rfl (Nat.le_of_ble_eq_true rfl) (Nat.le_of_ble_eq_true rfl) (Nat.le_of_ble_eq_true rfl) ?_
  show V 9 [some (.ref 36), some (.int x1)] [.int a1] σ
  refine h.if_ne (tgt := 16) (show decode cX6_wrongRow 9 = .ok (.ifCond .ne 7, 3) by decide +kernel) (by decide) (fun c6 => ?_) (fun c6 => ?_)
  · rw [if_neg c6] at hf
    obtain ⟨g2, hf⟩ := gd_some hf
    refine h.run (o := [kd 36 = 6, kd 58 = 10, inb x1 (alen 58) = true]) (ls' := [some (.ref 36), some (.int x1)]) (st' := [.int (σ.1 58 x1.toNatClampNeg)]) (σ' := σ) [(.aload_n 0, 1, 0, 0, 0, 0), (.getfield 84, 3, 0, 0, 6, 38), (.iload_n 1, 1, 0, 0, 0, 0), (.iaload, 1, 0, 0, 0, 0)] (pc2 := 22) (by decide +kernel) rfl (And.intro kd_36 (And.intro kd_58 (And.intro g2 trivial))) ?_
    refine h.if_ne (tgt := 30) (show decode cX6_wrongRow 22 = .ok (.ifCond .ne 8, 3) by decide +kernel) (by decide) (fun c5 => ?_) (fun c5 => ?_)
    · rw [if_neg c5] at hf
      obtain ⟨g3, hf⟩ := gd_some hf
      refine h.run (o := [kd 36 = 6, kd 58 = 10, inb x1 (alen 58) = true]) (ls' := [some (.ref 36), some (.int x1)]) (st' := [.int 2, .int (σ.1 58 x1.toNatClampNeg)]) (σ' := σ) [(.aload_n 0, 1, 0, 0, 0, 0), (.getfield 84, 3, 0, 0, 6, 38), (.iload_n 1, 1, 0, 0, 0, 0), (.iaload, 1, 0, 0, 0, 0), (.iconst 2, 1, 2, 0, 0, 0)] (pc2 := 37) (by decide +kernel) rfl (And.intro kd_36 (And.intro kd_58 (And.intro g3 trivial))) ?_
      refine h.icmp_eq (tgt := 45) (show decode cX6_wrongRow 37 = .ok (.if_icmp .eq 8, 3) by decide +kernel) (by decide) (fun c4 => ?_) (fun c4 => ?_)
      · rw [if_pos c4] at hf
        refine h.run (o := []) (ls' := [some (.ref 36), some (.int x1)]) (st' := [.int 0]) (σ' := σ) [(.iconst 0, 1, 0, 0, 0, 0)] (pc2 := 46) (by decide +kernel) rfl trivial ?_
        refine h.drop (ls' := [none, none]) trivial ?_
        exact wX6_wrongRow_46 hm hf
      · rw [if_neg c4] at hf
        show V 40 [some (.ref 36), some (.int x1)] [] σ
        refine h.run (o := []) (ls' := [some (.ref 36), some (.int x1)]) (st' := [.int (-12)]) (σ' := σ) [(.bipush (-12), 2, (-12), 0, 0, 0), (.goto 4, 3, 0, 0, 0, 46)] (pc2 := 46) (by decide +kernel) rfl trivial ?_
        refine h.drop (ls' := [none, none]) trivial ?_
        exact wX6_wrongRow_46 hm hf
    · rw [if_pos c5] at hf
      show V 25 [some (.ref 36), some (.int x1)] [] σ
      refine h.run (o := []) (ls' := [some (.ref 36), some (.int x1)]) (st' := [.int (-11)]) (σ' := σ) [(.bipush (-11), 2, (-11), 0, 0, 0), (.goto 19, 3, 0, 0, 0, 46)] (pc2 := 46) (by decide +kernel) rfl trivial ?_
      refine h.drop (ls' := [none, none]) trivial ?_
      exact wX6_wrongRow_46 hm hf
  · rw [if_pos c6] at hf
    show V 12 [some (.ref 36), some (.int x1)] [] σ
    refine h.run (o := []) (ls' := [some (.ref 36), some (.int x1)]) (st' := [.int (-1)]) (σ' := σ) [(.iconst (-1), 1, (-1), 0, 0, 0), (.goto 33, 3, 0, 0, 0, 46)] (pc2 := 46) (by decide +kernel) rfl trivial ?_
    refine h.drop (ls' := [none, none]) trivial ?_
    exact wX6_wrongRow_46 hm hf
def fX6_room_150 (n : Nat) (x3 : Int32) (x4 : Int32) (x5 : Int32) (x6 : Int32) (x7 : Int32) (σ : ST) : Option (Int32 × ST) := match n with
  | 0 => none
  | n + 1 =>
    if (σ.1 36 28) ≤ x7 then
      some (σ.1 36 28, σ)
    else
      bI (fX6_comes x7 σ) fun a1 σ1 =>
      if a1 = 0 then
        gd (inb x7 (alen 54)) <|
        some ((-2000) - ((setI (setI (setI (setI σ1 36 3 x3) 36 7 x4) 36 0 x5) 36 1 x6).1 54 x7.toNatClampNeg), setI (setI (setI (setI σ1 36 3 x3) 36 7 x4) 36 0 x5) 36 1 x6)
      else
        fX6_room_150 n x3 x4 x5 x6 (x7 + 1) σ1
set_option maxHeartbeats 4000000 in
theorem wX6_room_150 {l : Launch} {V : Nat → List (Option Value) → List Value → ST → Prop} {r : Int32} {τ : ST} (hm : BM l 6 cX6_room 8 (some .int) 5 110 (some (.int r)) τ V) : ∀ (n : Nat) (x3 : Int32) (x4 : Int32) (x5 : Int32) (x6 : Int32) (x7 : Int32) (σ : ST), fX6_room_150 n x3 x4 x5 x6 x7 σ = some (r, τ) → V 150 [some (.ref 36), none, none, some (.int x3), some (.int x4), some (.int x5), some (.int x6), some (.int x7)] [] σ := by
  have h := hm.bd
  intro n
  induction n with
  | zero => intro x3 x4 x5 x6 x7 σ hf; cases hf
  | succ n ih =>
    intro x3 x4 x5 x6 x7 σ hf
    rw [fX6_room_150] at hf
    refine h.run (o := [kd 36 = 6]) (ls' := [some (.ref 36), none, none, some (.int x3), some (.int x4), some (.int x5), some (.int x6), some (.int x7)]) (st' := [.int (σ.1 36 28), .int x7]) (σ' := σ) [(.iload 7, 2, 0, 0, 0, 0), (.aload_n 0, 1, 0, 0, 0, 0), (.getfield 153, 3, 0, 0, 6, 28)] (pc2 := 156) (by decide +kernel) rfl (And.intro kd_36 trivial) ?_
    refine h.icmp_ge (tgt := 209) (show decode cX6_room 156 = .ok (.if_icmp .ge 53, 3) by decide +kernel) (by decide) (fun c4 => ?_) (fun c4 => ?_)
    · rw [if_pos c4] at hf
      refine h.run (o := [kd 36 = 6]) (ls' := [some (.ref 36), none, none, some (.int x3), some (.int x4), some (.int x5), some (.int x6), some (.int x7)]) (st' := [.int (σ.1 36 28)]) (σ' := σ) [(.aload_n 0, 1, 0, 0, 0, 0), (.getfield 153, 3, 0, 0, 6, 28)] (pc2 := 213) (by decide +kernel) rfl (And.intro kd_36 trivial) ?_
      obtain ⟨rfl, rfl⟩ := Prod.mk.inj (Option.some.inj hf)
      exact hm.iret (by decide +kernel)
    · rw [if_neg c4] at hf
      show V 159 [some (.ref 36), none, none, some (.int x3), some (.int x4), some (.int x5), some (.int x6), some (.int x7)] [] σ
      refine h.run (o := []) (ls' := [some (.ref 36), none, none, some (.int x3), some (.int x4), some (.int x5), some (.int x6), some (.int x7)]) (st' := [.int x7, .ref 36]) (σ' := σ) [(.aload_n 0, 1, 0, 0, 0, 0), (.iload 7, 2, 0, 0, 0, 0)] (pc2 := 162) (by decide +kernel) rfl trivial ?_
      obtain ⟨a1, σ1, e1, hf⟩ := bI_some hf
      refine h.callV (as := [.int x7]) (rest := []) (by decide +kernel) lk6_177 cwX6_comes kd_36 (kmX6_comes l e1) rfl (Nat.le_of_ble_eq_true rfl) (Nat.le_of_ble_eq_true rfl) (Nat.le_of_ble_eq_true rfl) ?_
      show V 165 [some (.ref 36), none, none, some (.int x3), some (.int x4), some (.int x5), some (.int x6), some (.int x7)] [.int a1] σ1
      refine h.if_ne (tgt := 203) (show decode cX6_room 165 = .ok (.ifCond .ne 38, 3) by decide +kernel) (by decide) (fun c3 => ?_) (fun c3 => ?_)
      · rw [if_neg c3] at hf
        refine h.run (o := []) (ls' := [some (.ref 36), none, none, some (.int x3), some (.int x4), some (.int x5), some (.int x6), some (.int (x7 + 1))]) (st' := []) (σ' := σ1) [(.iinc 7 1, 3, 1, 0, 0, 0), (.goto (-56), 3, 0, 0, 0, 150)] (pc2 := 150) (by decide +kernel) rfl trivial ?_
        exact ih x3 x4 x5 x6 (x7 + 1) _ hf
      · rw [if_pos c3] at hf
        show V 168 [some (.ref 36), none, none, some (.int x3), some (.int x4), some (.int x5), some (.int x6), some (.int x7)] [] σ1
        obtain ⟨g2, hf⟩ := gd_some hf
        refine h.run (o := [kd 36 = 6, kd 36 = 6, kd 36 = 6, kd 36 = 6, kd 36 = 6, kd 54 = 10, inb x7 (alen 54) = true]) (ls' := [some (.ref 36), none, none, some (.int x3), some (.int x4), some (.int x5), some (.int x6), some (.int x7)]) (st' := [.int ((-2000) - ((setI (setI (setI (setI σ1 36 3 x3) 36 7 x4) 36 0 x5) 36 1 x6).1 54 x7.toNatClampNeg))]) (σ' := setI (setI (setI (setI σ1 36 3 x3) 36 7 x4) 36 0 x5) 36 1 x6) [(.aload_n 0, 1, 0, 0, 0, 0), (.iload_n 3, 1, 0, 0, 0, 0), (.putfield 116, 3, 0, 0, 6, 3), (.aload_n 0, 1, 0, 0, 0, 0), (.iload 4, 2, 0, 0, 0, 0), (.putfield 123, 3, 0, 0, 6, 7), (.aload_n 0, 1, 0, 0, 0, 0), (.iload 5, 2, 0, 0, 0, 0), (.putfield 7, 3, 0, 0, 6, 0), (.aload_n 0, 1, 0, 0, 0, 0), (.iload 6, 2, 0, 0, 0, 0), (.putfield 13, 3, 0, 0, 6, 1), (.sipush (-2000), 3, (-2000), 0, 0, 0), (.aload_n 0, 1, 0, 0, 0, 0), (.getfield 72, 3, 0, 0, 6, 29), (.iload 7, 2, 0, 0, 0, 0), (.iaload, 1, 0, 0, 0, 0), (.isub, 1, 0, 0, 0, 0)] (pc2 := 202) (by decide +kernel) rfl (And.intro kd_36 (And.intro kd_36 (And.intro kd_36 (And.intro kd_36 (And.intro kd_36 (And.intro kd_54 (And.intro g2 trivial))))))) ?_
        obtain ⟨rfl, rfl⟩ := Prod.mk.inj (Option.some.inj hf)
        exact hm.iret (by decide +kernel)
def fX6_room_108 (σ : ST) : Option (Int32 × ST) :=
  if (σ.1 36 27) = 0 then
    fX6_room_150 FU (σ.1 36 3) (σ.1 36 7) (σ.1 36 0) (σ.1 36 1) 0 σ
  else
    some ((-1000) - (σ.1 36 26), σ)
set_option maxHeartbeats 4000000 in
theorem wX6_room_108 {l : Launch} {V : Nat → List (Option Value) → List Value → ST → Prop} {r : Int32} {τ : ST} {σ : ST} (hm : BM l 6 cX6_room 8 (some .int) 5 110 (some (.int r)) τ V) (hf : fX6_room_108 σ = some (r, τ)) : V 108 [some (.ref 36), none, none, none, none, none, none, none] [] σ := by
  have h := hm.bd
  unfold fX6_room_108 at hf
  refine h.run (o := [kd 36 = 6]) (ls' := [some (.ref 36), none, none, none, none, none, none, none]) (st' := [.int (σ.1 36 27)]) (σ' := σ) [(.aload_n 0, 1, 0, 0, 0, 0), (.getfield 135, 3, 0, 0, 6, 27)] (pc2 := 112) (by decide +kernel) rfl (And.intro kd_36 trivial) ?_
  refine h.if_eq (tgt := 124) (show decode cX6_room 112 = .ok (.ifCond .eq 12, 3) by decide +kernel) (by decide) (fun c1 => ?_) (fun c1 => ?_)
  · rw [if_pos c1] at hf
    refine h.run (o := [kd 36 = 6, kd 36 = 6, kd 36 = 6, kd 36 = 6]) (ls' := [some (.ref 36), none, none, some (.int (σ.1 36 3)), some (.int (σ.1 36 7)), some (.int (σ.1 36 0)), some (.int (σ.1 36 1)), some (.int 0)]) (st' := []) (σ' := σ) [(.aload_n 0, 1, 0, 0, 0, 0), (.getfield 116, 3, 0, 0, 6, 3), (.istore_n 3, 1, 0, 0, 0, 0), (.aload_n 0, 1, 0, 0, 0, 0), (.getfield 123, 3, 0, 0, 6, 7), (.istore 4, 2, 0, 0, 0, 0), (.aload_n 0, 1, 0, 0, 0, 0), (.getfield 7, 3, 0, 0, 6, 0), (.istore 5, 2, 0, 0, 0, 0), (.aload_n 0, 1, 0, 0, 0, 0), (.getfield 13, 3, 0, 0, 6, 1), (.istore 6, 2, 0, 0, 0, 0), (.iconst 0, 1, 0, 0, 0, 0), (.istore 7, 2, 0, 0, 0, 0)] (pc2 := 150) (by decide +kernel) rfl (And.intro kd_36 (And.intro kd_36 (And.intro kd_36 (And.intro kd_36 trivial)))) ?_
    exact wX6_room_150 hm FU (σ.1 36 3) (σ.1 36 7) (σ.1 36 0) (σ.1 36 1) 0 _ hf
  · rw [if_neg c1] at hf
    show V 115 [some (.ref 36), none, none, none, none, none, none, none] [] σ
    refine h.run (o := [kd 36 = 6]) (ls' := [some (.ref 36), none, none, none, none, none, none, none]) (st' := [.int ((-1000) - (σ.1 36 26))]) (σ' := σ) [(.sipush (-1000), 3, (-1000), 0, 0, 0), (.aload_n 0, 1, 0, 0, 0, 0), (.getfield 126, 3, 0, 0, 6, 26), (.isub, 1, 0, 0, 0, 0)] (pc2 := 123) (by decide +kernel) rfl (And.intro kd_36 trivial) ?_
    obtain ⟨rfl, rfl⟩ := Prod.mk.inj (Option.some.inj hf)
    exact hm.iret (by decide +kernel)
def fX6_room_101 (kt_76 : ST → Option (Int32 × ST)) (σ : ST) : Option (Int32 × ST) :=
  bR (fX6_readStatement σ) fun σ1 =>
  kt_76 σ1
set_option maxHeartbeats 4000000 in
theorem wX6_room_101 {l : Launch} {V : Nat → List (Option Value) → List Value → ST → Prop} {r : Int32} {τ : ST} {σ : ST} {kt_76 : ST → Option (Int32 × ST)} (hm : BM l 6 cX6_room 8 (some .int) 5 110 (some (.int r)) τ V) (hkt_76 : ∀ (σ : ST), kt_76 σ = some (r, τ) → V 76 [some (.ref 36), none, none, none, none, none, none, none] [] σ) (hf : fX6_room_101 kt_76 σ = some (r, τ)) : V 101 [some (.ref 36), none, none, none, none, none, none, none] [] σ := by
  have h := hm.bd
  unfold fX6_room_101 at hf
  refine h.run (o := []) (ls' := [some (.ref 36), none, none, none, none, none, none, none]) (st' := [.ref 36]) (σ' := σ) [(.aload_n 0, 1, 0, 0, 0, 0)] (pc2 := 102) (by decide +kernel) rfl trivial ?_
  obtain ⟨σ1, e1, hf⟩ := bR_some hf
  refine h.callV (as := []) (rest := []) (by decide +kernel) lk6_174 cwX6_readStatement kd_36 (kmX6_readStatement l e1) rfl (Nat.le_of_ble_eq_true rfl) (Nat.le_of_ble_eq_true rfl) (Nat.le_of_ble_eq_true rfl) ?_
  show V 105 [some (.ref 36), none, none, none, none, none, none, none] [] σ1
  refine h.run (o := []) (ls' := [some (.ref 36), none, none, none, none, none, none, none]) (st' := []) (σ' := σ1) [(.goto (-29), 3, 0, 0, 0, 76)] (pc2 := 76) (by decide +kernel) rfl trivial ?_
  exact hkt_76 _ hf
def fX6_room_76 (n : Nat) (σ : ST) : Option (Int32 × ST) := match n with
  | 0 => none
  | n + 1 =>
    if (σ.1 36 27) = 0 then
      if (σ.1 36 28) = 0 then
        fX6_room_101 (fX6_room_76 n) σ
      else
        if (σ.1 36 25) ≤ (σ.1 36 26) then
          fX6_room_108 σ
        else
          fX6_room_101 (fX6_room_76 n) σ
    else
      fX6_room_108 σ
set_option maxHeartbeats 4000000 in
theorem wX6_room_76 {l : Launch} {V : Nat → List (Option Value) → List Value → ST → Prop} {r : Int32} {τ : ST} (hm : BM l 6 cX6_room 8 (some .int) 5 110 (some (.int r)) τ V) : ∀ (n : Nat) (σ : ST), fX6_room_76 n σ = some (r, τ) → V 76 [some (.ref 36), none, none, none, none, none, none, none] [] σ := by
  have h := hm.bd
  intro n
  induction n with
  | zero => intro σ hf; cases hf
  | succ n ih =>
    intro σ hf
    rw [fX6_room_76] at hf
    refine h.run (o := [kd 36 = 6]) (ls' := [some (.ref 36), none, none, none, none, none, none, none]) (st' := [.int (σ.1 36 27)]) (σ' := σ) [(.aload_n 0, 1, 0, 0, 0, 0), (.getfield 135, 3, 0, 0, 6, 27)] (pc2 := 80) (by decide +kernel) rfl (And.intro kd_36 trivial) ?_
    refine h.if_ne (tgt := 108) (show decode cX6_room 80 = .ok (.ifCond .ne 28, 3) by decide +kernel) (by decide) (fun c3 => ?_) (fun c3 => ?_)
    · rw [if_neg c3] at hf
      exact wX6_room_108 hm hf
    · rw [if_pos c3] at hf
      show V 83 [some (.ref 36), none, none, none, none, none, none, none] [] σ
      refine h.run (o := [kd 36 = 6]) (ls' := [some (.ref 36), none, none, none, none, none, none, none]) (st' := [.int (σ.1 36 28)]) (σ' := σ) [(.aload_n 0, 1, 0, 0, 0, 0), (.getfield 153, 3, 0, 0, 6, 28)] (pc2 := 87) (by decide +kernel) rfl (And.intro kd_36 trivial) ?_
      refine h.if_eq (tgt := 101) (show decode cX6_room 87 = .ok (.ifCond .eq 14, 3) by decide +kernel) (by decide) (fun c2 => ?_) (fun c2 => ?_)
      · rw [if_pos c2] at hf
        exact wX6_room_101 hm ih hf
      · rw [if_neg c2] at hf
        show V 90 [some (.ref 36), none, none, none, none, none, none, none] [] σ
        refine h.run (o := [kd 36 = 6, kd 36 = 6]) (ls' := [some (.ref 36), none, none, none, none, none, none, none]) (st' := [.int (σ.1 36 25), .int (σ.1 36 26)]) (σ' := σ) [(.aload_n 0, 1, 0, 0, 0, 0), (.getfield 126, 3, 0, 0, 6, 26), (.aload_n 0, 1, 0, 0, 0, 0), (.getfield 129, 3, 0, 0, 6, 25)] (pc2 := 98) (by decide +kernel) rfl (And.intro kd_36 (And.intro kd_36 trivial)) ?_
        refine h.icmp_ge (tgt := 108) (show decode cX6_room 98 = .ok (.if_icmp .ge 10, 3) by decide +kernel) (by decide) (fun c1 => ?_) (fun c1 => ?_)
        · rw [if_pos c1] at hf
          exact wX6_room_108 hm hf
        · rw [if_neg c1] at hf
          show V 101 [some (.ref 36), none, none, none, none, none, none, none] [] σ
          exact wX6_room_101 hm ih hf
def fX6_room_36 (x1 : Int32) (t0 : Int32) (σ : ST) : Option (Int32 × ST) :=
  if 0 ≤ t0 then
    gd (inb x1 (alen 64)) <|
    fX6_room_76 FU (setI (setI (setI (setI (setI σ 36 24 (100 * x1)) 36 25 ((setI σ 36 24 (100 * x1)).1 64 x1.toNatClampNeg)) 36 26 0) 36 27 0) 36 28 0)
  else
    some (t0, σ)
set_option maxHeartbeats 4000000 in
theorem wX6_room_36 {l : Launch} {V : Nat → List (Option Value) → List Value → ST → Prop} {r : Int32} {τ : ST} {σ : ST} {x1 : Int32} {t0 : Int32} (hm : BM l 6 cX6_room 8 (some .int) 5 110 (some (.int r)) τ V) (hf : fX6_room_36 x1 t0 σ = some (r, τ)) : V 36 [some (.ref 36), some (.int x1), none, none, none, none, none, none] [.int t0] σ := by
  have h := hm.bd
  unfold fX6_room_36 at hf
  refine h.run (o := []) (ls' := [some (.ref 36), some (.int x1), some (.int t0), none, none, none, none, none]) (st' := [.int t0]) (σ' := σ) [(.istore_n 2, 1, 0, 0, 0, 0), (.iload_n 2, 1, 0, 0, 0, 0)] (pc2 := 38) (by decide +kernel) rfl trivial ?_
  refine h.if_ge (tgt := 43) (show decode cX6_room 38 = .ok (.ifCond .ge 5, 3) by decide +kernel) (by decide) (fun c2 => ?_) (fun c2 => ?_)
  · rw [if_pos c2] at hf
    obtain ⟨g1, hf⟩ := gd_some hf
    refine h.run (o := [kd 36 = 6, kd 36 = 6, kd 64 = 10, inb x1 (alen 64) = true, kd 36 = 6, kd 36 = 6, kd 36 = 6, isb 0 = true, kd 36 = 6]) (ls' := [some (.ref 36), some (.int x1), some (.int t0), none, none, none, none, none]) (st' := []) (σ' := setI (setI (setI (setI (setI σ 36 24 (100 * x1)) 36 25 ((setI σ 36 24 (100 * x1)).1 64 x1.toNatClampNeg)) 36 26 0) 36 27 0) 36 28 0) [(.aload_n 0, 1, 0, 0, 0, 0), (.bipush 100, 2, 100, 0, 0, 0), (.iload_n 1, 1, 0, 0, 0, 0), (.imul, 1, 0, 0, 0, 0), (.putfield 132, 3, 0, 0, 6, 24), (.aload_n 0, 1, 0, 0, 0, 0), (.aload_n 0, 1, 0, 0, 0, 0), (.getfield 102, 3, 0, 0, 6, 44), (.iload_n 1, 1, 0, 0, 0, 0), (.iaload, 1, 0, 0, 0, 0), (.putfield 129, 3, 0, 0, 6, 25), (.aload_n 0, 1, 0, 0, 0, 0), (.iconst 0, 1, 0, 0, 0, 0), (.putfield 126, 3, 0, 0, 6, 26), (.aload_n 0, 1, 0, 0, 0, 0), (.iconst 0, 1, 0, 0, 0, 0), (.putfield 135, 3, 0, 0, 106, 27), (.aload_n 0, 1, 0, 0, 0, 0), (.iconst 0, 1, 0, 0, 0, 0), (.putfield 153, 3, 0, 0, 6, 28)] (pc2 := 76) (by decide +kernel) rfl (And.intro kd_36 (And.intro kd_36 (And.intro kd_64 (And.intro g1 (And.intro kd_36 (And.intro kd_36 (And.intro kd_36 (And.intro rfl (And.intro kd_36 trivial))))))))) ?_
    refine h.drop (ls' := [some (.ref 36), none, none, none, none, none, none, none]) (And.intro rfl trivial) ?_
    exact wX6_room_76 hm FU _ hf
  · rw [if_neg c2] at hf
    show V 41 [some (.ref 36), some (.int x1), some (.int t0), none, none, none, none, none] [] σ
    refine h.run (o := []) (ls' := [some (.ref 36), some (.int x1), some (.int t0), none, none, none, none, none]) (st' := [.int t0]) (σ' := σ) [(.iload_n 2, 1, 0, 0, 0, 0)] (pc2 := 42) (by decide +kernel) rfl trivial ?_
    obtain ⟨rfl, rfl⟩ := Prod.mk.inj (Option.some.inj hf)
    exact hm.iret (by decide +kernel)
def fX6_room (x1 : Int32) (σ : ST) : Option (Int32 × ST) :=
  bR (fX6_wrongRow x1 (setI σ 36 23 0)) fun a1 =>
  if 0 ≤ a1 then
    gd (inb x1 (alen 63)) <|
    if ((setI σ 36 23 0).1 63 x1.toNatClampNeg) = 0 then
      fX6_room_36 x1 0 (setI σ 36 23 0)
    else
      fX6_room_36 x1 (-12) (setI σ 36 23 0)
  else
    bR (fX6_wrongRow x1 (setI σ 36 23 0)) fun a4 =>
    fX6_room_36 x1 a4 (setI σ 36 23 0)
set_option maxHeartbeats 4000000 in
theorem kmX6_room (l : Launch) {x1 : Int32} {σ : ST} {r : Int32} {τ : ST} (hf : fX6_room x1 σ = some (r, τ)) : KM l yX6_room cX6_room 8 (some .int) 5 110 [.ref 36, .int x1] σ (some (.int r)) τ := by
  refine KM.intro (ow := 6) (by decide +kernel) rfl (Nat.le_of_ble_eq_true rfl) (fun V hm => ?_)
  show V 0 [some (.ref 36), some (.int x1), none, none, none, none, none, none] [] σ
  have h := hm.bd
  unfold fX6_room at hf
  refine h.run (o := [kd 36 = 6]) (ls' := [some (.ref 36), some (.int x1), none, none, none, none, none, none]) (st' := [.int x1, .ref 36]) (σ' := setI σ 36 23 0) [(.aload_n 0, 1, 0, 0, 0, 0), (.iconst 0, 1, 0, 0, 0, 0), (.putfield 112, 3, 0, 0, 6, 23), (.aload_n 0, 1, 0, 0, 0, 0), (.iload_n 1, 1, 0, 0, 0, 0)] (pc2 := 7) (by decide +kernel) rfl (And.intro kd_36 trivial) ?_
  obtain ⟨a1, e1, hf⟩ := bR_some hf
  refine h.callV (as := [.int x1]) (rest := []) (by decide +kernel) lk6_171 cwX6_wrongRow kd_36 (kmX6_wrongRow l e1) rfl (Nat.le_of_ble_eq_true rfl) (Nat.le_of_ble_eq_true rfl) (Nat.le_of_ble_eq_true rfl) ?_
  show V 10 [some (.ref 36), some (.int x1), none, none, none, none, none, none] [.int a1] (setI σ 36 23 0)
  refine h.if_ge (tgt := 21) (show decode cX6_room 10 = .ok (.ifCond .ge 11, 3) by decide +kernel) (by decide) (fun c5 => ?_) (fun c5 => ?_)
  · rw [if_pos c5] at hf
    obtain ⟨g2, hf⟩ := gd_some hf
    refine h.run (o := [kd 36 = 6, kd 63 = 10, inb x1 (alen 63) = true]) (ls' := [some (.ref 36), some (.int x1), none, none, none, none, none, none]) (st' := [.int ((setI σ 36 23 0).1 63 x1.toNatClampNeg)]) (σ' := setI σ 36 23 0) [(.aload_n 0, 1, 0, 0, 0, 0), (.getfield 99, 3, 0, 0, 6, 43), (.iload_n 1, 1, 0, 0, 0, 0), (.iaload, 1, 0, 0, 0, 0)] (pc2 := 27) (by decide +kernel) rfl (And.intro kd_36 (And.intro kd_63 (And.intro g2 trivial))) ?_
    refine h.if_eq (tgt := 35) (show decode cX6_room 27 = .ok (.ifCond .eq 8, 3) by decide +kernel) (by decide) (fun c3 => ?_) (fun c3 => ?_)
    · rw [if_pos c3] at hf
      refine h.run (o := []) (ls' := [some (.ref 36), some (.int x1), none, none, none, none, none, none]) (st' := [.int 0]) (σ' := setI σ 36 23 0) [(.iconst 0, 1, 0, 0, 0, 0)] (pc2 := 36) (by decide +kernel) rfl trivial ?_
      exact wX6_room_36 hm hf
    · rw [if_neg c3] at hf
      show V 30 [some (.ref 36), some (.int x1), none, none, none, none, none, none] [] (setI σ 36 23 0)
      refine h.run (o := []) (ls' := [some (.ref 36), some (.int x1), none, none, none, none, none, none]) (st' := [.int (-12)]) (σ' := setI σ 36 23 0) [(.bipush (-12), 2, (-12), 0, 0, 0), (.goto 4, 3, 0, 0, 0, 36)] (pc2 := 36) (by decide +kernel) rfl trivial ?_
      exact wX6_room_36 hm hf
  · rw [if_neg c5] at hf
    show V 13 [some (.ref 36), some (.int x1), none, none, none, none, none, none] [] (setI σ 36 23 0)
    refine h.run (o := []) (ls' := [some (.ref 36), some (.int x1), none, none, none, none, none, none]) (st' := [.int x1, .ref 36]) (σ' := setI σ 36 23 0) [(.aload_n 0, 1, 0, 0, 0, 0), (.iload_n 1, 1, 0, 0, 0, 0)] (pc2 := 15) (by decide +kernel) rfl trivial ?_
    obtain ⟨a4, e4, hf⟩ := bR_some hf
    refine h.callV (as := [.int x1]) (rest := []) (by decide +kernel) lk6_171 cwX6_wrongRow kd_36 (kmX6_wrongRow l e4) rfl (Nat.le_of_ble_eq_true rfl) (Nat.le_of_ble_eq_true rfl) (Nat.le_of_ble_eq_true rfl) ?_
    show V 18 [some (.ref 36), some (.int x1), none, none, none, none, none, none] [.int a4] (setI σ 36 23 0)
    refine h.run (o := []) (ls' := [some (.ref 36), some (.int x1), none, none, none, none, none, none]) (st' := [.int a4]) (σ' := setI σ 36 23 0) [(.goto 18, 3, 0, 0, 0, 36)] (pc2 := 36) (by decide +kernel) rfl trivial ?_
    exact wX6_room_36 hm hf
def fX6_nameOf_33 (t0 : Int32) (σ : ST) : Option Int32 :=
  some t0
set_option maxHeartbeats 4000000 in
theorem wX6_nameOf_33 {l : Launch} {V : Nat → List (Option Value) → List Value → ST → Prop} {r : Int32} {σ : ST} {t0 : Int32} (hm : BM l 6 cX6_nameOf 2 (some .int) 0 0 (some (.int r)) σ V) (hf : fX6_nameOf_33 t0 σ = some r) : V 33 [none, none] [.int t0] σ := by
  have h := hm.bd
  unfold fX6_nameOf_33 at hf
  obtain rfl := Option.some.inj hf
  exact hm.iret (by decide +kernel)
def fX6_nameOf (x1 : Int32) (σ : ST) : Option Int32 :=
  gd (inb x1 (alen 45)) <|
  if (σ.1 45 x1.toNatClampNeg) = 0 then
    fX6_nameOf_33 (-1) σ
  else
    gd (inb x1 (alen 46)) <|
    gd (inb x1 (alen 45)) <|
    gd (decide (¬ ((σ.1 45 x1.toNatClampNeg).toInt64) = 0)) <|
    fX6_nameOf_33 (((100 * ((σ.1 46 x1.toNatClampNeg).toInt64)) / ((σ.1 45 x1.toNatClampNeg).toInt64)).toInt32) σ
set_option maxHeartbeats 4000000 in
theorem kmX6_nameOf (l : Launch) {x1 : Int32} {σ : ST} {r : Int32} (hf : fX6_nameOf x1 σ = some r) : KM l yX6_nameOf cX6_nameOf 2 (some .int) 0 0 [.ref 36, .int x1] σ (some (.int r)) σ := by
  refine KM.intro (ow := 6) (by decide +kernel) rfl (Nat.le_of_ble_eq_true rfl) (fun V hm => ?_)
  show V 0 [some (.ref 36), some (.int x1)] [] σ
  have h := hm.bd
  unfold fX6_nameOf at hf
  obtain ⟨g1, hf⟩ := gd_some hf
  refine h.run (o := [kd 36 = 6, kd 45 = 10, inb x1 (alen 45) = true]) (ls' := [some (.ref 36), some (.int x1)]) (st' := [.int (σ.1 45 x1.toNatClampNeg)]) (σ' := σ) [(.aload_n 0, 1, 0, 0, 0, 0), (.getfield 44, 3, 0, 0, 6, 13), (.iload_n 1, 1, 0, 0, 0, 0), (.iaload, 1, 0, 0, 0, 0)] (pc2 := 6) (by decide +kernel) rfl (And.intro kd_36 (And.intro kd_45 (And.intro g1 trivial))) ?_
  refine h.if_ne (tgt := 13) (show decode cX6_nameOf 6 = .ok (.ifCond .ne 7, 3) by decide +kernel) (by decide) (fun c5 => ?_) (fun c5 => ?_)
  · rw [if_neg c5] at hf
    obtain ⟨g2, hf⟩ := gd_some hf
    obtain ⟨g3, hf⟩ := gd_some hf
    obtain ⟨g4, hf⟩ := gd_some hf
    refine h.run (o := [kd 36 = 6, kd 46 = 10, inb x1 (alen 46) = true, kd 36 = 6, kd 45 = 10, inb x1 (alen 45) = true, ¬ ((σ.1 45 x1.toNatClampNeg).toInt64) = 0]) (ls' := [some (.ref 36), some (.int x1)]) (st' := [.int (((100 * ((σ.1 46 x1.toNatClampNeg).toInt64)) / ((σ.1 45 x1.toNatClampNeg).toInt64)).toInt32)]) (σ' := σ) [(.ldc2_w 181, 3, 0, 100, 0, 0), (.aload_n 0, 1, 0, 0, 0, 0), (.getfield 47, 3, 0, 0, 6, 14), (.iload_n 1, 1, 0, 0, 0, 0), (.iaload, 1, 0, 0, 0, 0), (.i2l, 1, 0, 0, 0, 0), (.lmul, 1, 0, 0, 0, 0), (.aload_n 0, 1, 0, 0, 0, 0), (.getfield 44, 3, 0, 0, 6, 13), (.iload_n 1, 1, 0, 0, 0, 0), (.iaload, 1, 0, 0, 0, 0), (.i2l, 1, 0, 0, 0, 0), (.ldiv, 1, 0, 0, 0, 0), (.l2i, 1, 0, 0, 0, 0)] (pc2 := 33) (by decide +kernel) rfl (And.intro kd_36 (And.intro kd_46 (And.intro g2 (And.intro kd_36 (And.intro kd_45 (And.intro g3 (And.intro (of_decide_eq_true g4) trivial))))))) ?_
    refine h.drop (ls' := [none, none]) trivial ?_
    exact wX6_nameOf_33 hm hf
  · rw [if_pos c5] at hf
    show V 9 [some (.ref 36), some (.int x1)] [] σ
    refine h.run (o := []) (ls' := [some (.ref 36), some (.int x1)]) (st' := [.int (-1)]) (σ' := σ) [(.iconst (-1), 1, (-1), 0, 0, 0), (.goto 23, 3, 0, 0, 0, 33)] (pc2 := 33) (by decide +kernel) rfl trivial ?_
    refine h.drop (ls' := [none, none]) trivial ?_
    exact wX6_nameOf_33 hm hf
def fX6_sender_25 (σ : ST) : Option (Int32 × ST) :=
  some ((-1), σ)
set_option maxHeartbeats 4000000 in
theorem wX6_sender_25 {l : Launch} {V : Nat → List (Option Value) → List Value → ST → Prop} {r : Int32} {τ : ST} {σ : ST} (hm : BM l 6 cX6_sender 3 (some .int) 2 46 (some (.int r)) τ V) (hf : fX6_sender_25 σ = some (r, τ)) : V 25 [none, none, none] [] σ := by
  have h := hm.bd
  unfold fX6_sender_25 at hf
  refine h.run (o := []) (ls' := [none, none, none]) (st' := [.int (-1)]) (σ' := σ) [(.iconst (-1), 1, (-1), 0, 0, 0)] (pc2 := 26) (by decide +kernel) rfl trivial ?_
  obtain ⟨rfl, rfl⟩ := Prod.mk.inj (Option.some.inj hf)
  exact hm.iret (by decide +kernel)
def fX6_sender_60 (t0 : Int32) (σ : ST) : Option (Int32 × ST) :=
  some (t0, σ)
set_option maxHeartbeats 4000000 in
theorem wX6_sender_60 {l : Launch} {V : Nat → List (Option Value) → List Value → ST → Prop} {r : Int32} {τ : ST} {σ : ST} {t0 : Int32} (hm : BM l 6 cX6_sender 3 (some .int) 2 46 (some (.int r)) τ V) (hf : fX6_sender_60 t0 σ = some (r, τ)) : V 60 [none, none, none] [.int t0] σ := by
  have h := hm.bd
  unfold fX6_sender_60 at hf
  obtain ⟨rfl, rfl⟩ := Prod.mk.inj (Option.some.inj hf)
  exact hm.iret (by decide +kernel)
def fX6_sender (x1 : Int32) (x2 : Int32) (σ : ST) : Option (Int32 × ST) :=
  bR (fX6_isSender x1 (setI σ 36 23 0)) fun a1 =>
  if a1 = 0 then
    fX6_sender_25 (setI σ 36 23 0)
  else
    bR (fX6_in x2.toInt64 0 2 (setI σ 36 23 0)) fun a2 =>
    if a2 = 0 then
      fX6_sender_25 (setI σ 36 23 0)
    else
      if x2 = 0 then
        gd (inb x1 (alen 37)) <|
        fX6_sender_60 ((setI σ 36 23 0).1 37 x1.toNatClampNeg) (setI σ 36 23 0)
      else
        if x2 = 1 then
          gd (inb x1 (alen 38)) <|
          fX6_sender_60 ((setI σ 36 23 0).1 38 x1.toNatClampNeg) (setI σ 36 23 0)
        else
          gd (inb x1 (alen 39)) <|
          fX6_sender_60 ((setI σ 36 23 0).1 39 x1.toNatClampNeg) (setI σ 36 23 0)
set_option maxHeartbeats 4000000 in
theorem kmX6_sender (l : Launch) {x1 : Int32} {x2 : Int32} {σ : ST} {r : Int32} {τ : ST} (hf : fX6_sender x1 x2 σ = some (r, τ)) : KM l yX6_sender cX6_sender 3 (some .int) 2 46 [.ref 36, .int x1, .int x2] σ (some (.int r)) τ := by
  refine KM.intro (ow := 6) (by decide +kernel) rfl (Nat.le_of_ble_eq_true rfl) (fun V hm => ?_)
  show V 0 [some (.ref 36), some (.int x1), some (.int x2)] [] σ
  have h := hm.bd
  unfold fX6_sender at hf
  refine h.run (o := [kd 36 = 6]) (ls' := [some (.ref 36), some (.int x1), some (.int x2)]) (st' := [.int x1, .ref 36]) (σ' := setI σ 36 23 0) [(.aload_n 0, 1, 0, 0, 0, 0), (.iconst 0, 1, 0, 0, 0, 0), (.putfield 112, 3, 0, 0, 6, 23), (.aload_n 0, 1, 0, 0, 0, 0), (.iload_n 1, 1, 0, 0, 0, 0)] (pc2 := 7) (by decide +kernel) rfl (And.intro kd_36 trivial) ?_
  obtain ⟨a1, e1, hf⟩ := bR_some hf
  refine h.callV (as := [.int x1]) (rest := []) (by decide +kernel) lk6_183 cwX6_isSender kd_36 (kmX6_isSender l e1) rfl (Nat.le_of_ble_eq_true rfl) (Nat.le_of_ble_eq_true rfl) (Nat.le_of_ble_eq_true rfl) ?_
  show V 10 [some (.ref 36), some (.int x1), some (.int x2)] [.int a1] (setI σ 36 23 0)
  refine h.if_eq (tgt := 25) (show decode cX6_sender 10 = .ok (.ifCond .eq 15, 3) by decide +kernel) (by decide) (fun c9 => ?_) (fun c9 => ?_)
  · rw [if_pos c9] at hf
    refine h.drop (ls' := [none, none, none]) trivial ?_
    exact wX6_sender_25 hm hf
  · rw [if_neg c9] at hf
    show V 13 [some (.ref 36), some (.int x1), some (.int x2)] [] (setI σ 36 23 0)
    refine h.run (o := []) (ls' := [some (.ref 36), some (.int x1), some (.int x2)]) (st' := [.long 2, .long 0, .long x2.toInt64]) (σ' := setI σ 36 23 0) [(.iload_n 2, 1, 0, 0, 0, 0), (.i2l, 1, 0, 0, 0, 0), (.lconst 0, 1, 0, 0, 0, 0), (.ldc2_w 186, 3, 0, 2, 0, 0)] (pc2 := 19) (by decide +kernel) rfl trivial ?_
    obtain ⟨a2, e2, hf⟩ := bR_some hf
    refine h.callS (as := [.long x2.toInt64, .long 0, .long 2]) (rest := []) (by decide +kernel) lk6_119 cwX6_in (kmX6_in l e2) rfl (Nat.le_of_ble_eq_true rfl) (Nat.le_of_ble_eq_true rfl) (Nat.le_of_ble_eq_true rfl) ?_
    show V 22 [some (.ref 36), some (.int x1), some (.int x2)] [.int a2] (setI σ 36 23 0)
    refine h.if_ne (tgt := 27) (show decode cX6_sender 22 = .ok (.ifCond .ne 5, 3) by decide +kernel) (by decide) (fun c8 => ?_) (fun c8 => ?_)
    · rw [if_neg c8] at hf
      refine h.run (o := []) (ls' := [some (.ref 36), some (.int x1), some (.int x2)]) (st' := [.int x2]) (σ' := setI σ 36 23 0) [(.iload_n 2, 1, 0, 0, 0, 0)] (pc2 := 28) (by decide +kernel) rfl trivial ?_
      refine h.if_ne (tgt := 40) (show decode cX6_sender 28 = .ok (.ifCond .ne 12, 3) by decide +kernel) (by decide) (fun c7 => ?_) (fun c7 => ?_)
      · rw [if_neg c7] at hf
        refine h.run (o := []) (ls' := [some (.ref 36), some (.int x1), some (.int x2)]) (st' := [.int 1, .int x2]) (σ' := setI σ 36 23 0) [(.iload_n 2, 1, 0, 0, 0, 0), (.iconst 1, 1, 1, 0, 0, 0)] (pc2 := 42) (by decide +kernel) rfl trivial ?_
        refine h.icmp_ne (tgt := 54) (show decode cX6_sender 42 = .ok (.if_icmp .ne 12, 3) by decide +kernel) (by decide) (fun c5 => ?_) (fun c5 => ?_)
        · rw [if_neg c5] at hf
          obtain ⟨g3, hf⟩ := gd_some hf
          refine h.run (o := [kd 36 = 6, kd 39 = 10, inb x1 (alen 39) = true]) (ls' := [some (.ref 36), some (.int x1), some (.int x2)]) (st' := [.int ((setI σ 36 23 0).1 39 x1.toNatClampNeg)]) (σ' := setI σ 36 23 0) [(.aload_n 0, 1, 0, 0, 0, 0), (.getfield 26, 3, 0, 0, 6, 6), (.iload_n 1, 1, 0, 0, 0, 0), (.iaload, 1, 0, 0, 0, 0)] (pc2 := 60) (by decide +kernel) rfl (And.intro kd_36 (And.intro kd_39 (And.intro g3 trivial))) ?_
          refine h.drop (ls' := [none, none, none]) trivial ?_
          exact wX6_sender_60 hm hf
        · rw [if_pos c5] at hf
          show V 45 [some (.ref 36), some (.int x1), some (.int x2)] [] (setI σ 36 23 0)
          obtain ⟨g4, hf⟩ := gd_some hf
          refine h.run (o := [kd 36 = 6, kd 38 = 10, inb x1 (alen 38) = true]) (ls' := [some (.ref 36), some (.int x1), some (.int x2)]) (st' := [.int ((setI σ 36 23 0).1 38 x1.toNatClampNeg)]) (σ' := setI σ 36 23 0) [(.aload_n 0, 1, 0, 0, 0, 0), (.getfield 23, 3, 0, 0, 6, 5), (.iload_n 1, 1, 0, 0, 0, 0), (.iaload, 1, 0, 0, 0, 0), (.goto 9, 3, 0, 0, 0, 60)] (pc2 := 60) (by decide +kernel) rfl (And.intro kd_36 (And.intro kd_38 (And.intro g4 trivial))) ?_
          refine h.drop (ls' := [none, none, none]) trivial ?_
          exact wX6_sender_60 hm hf
      · rw [if_pos c7] at hf
        show V 31 [some (.ref 36), some (.int x1), some (.int x2)] [] (setI σ 36 23 0)
        obtain ⟨g6, hf⟩ := gd_some hf
        refine h.run (o := [kd 36 = 6, kd 37 = 10, inb x1 (alen 37) = true]) (ls' := [some (.ref 36), some (.int x1), some (.int x2)]) (st' := [.int ((setI σ 36 23 0).1 37 x1.toNatClampNeg)]) (σ' := setI σ 36 23 0) [(.aload_n 0, 1, 0, 0, 0, 0), (.getfield 19, 3, 0, 0, 6, 4), (.iload_n 1, 1, 0, 0, 0, 0), (.iaload, 1, 0, 0, 0, 0), (.goto 23, 3, 0, 0, 0, 60)] (pc2 := 60) (by decide +kernel) rfl (And.intro kd_36 (And.intro kd_37 (And.intro g6 trivial))) ?_
        refine h.drop (ls' := [none, none, none]) trivial ?_
        exact wX6_sender_60 hm hf
    · rw [if_pos c8] at hf
      show V 25 [some (.ref 36), some (.int x1), some (.int x2)] [] (setI σ 36 23 0)
      refine h.drop (ls' := [none, none, none]) trivial ?_
      exact wX6_sender_25 hm hf
