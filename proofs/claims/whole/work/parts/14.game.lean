/-! Printed by wip/whole/prt.py: functions and walks. -/
def fX0_become (k0 : Nat) (k1 : Nat) (σ : ST) : Option ST :=
  bR (fX4_become (6 * k0) (6 * k1) (setI (setI (setI σ k0 0 (σ.1 k1 0)) k0 1 ((setI σ k0 0 (σ.1 k1 0)).1 k1 1)) k0 2 ((setI (setI σ k0 0 (σ.1 k1 0)) k0 1 ((setI σ k0 0 (σ.1 k1 0)).1 k1 1)).1 k1 2))) fun σ1 =>
  bR (fX4_become (6 * k0 + 2) (6 * k1 + 2) σ1) fun σ2 =>
  bR (fX4_become (6 * k0 + 4) (6 * k1 + 4) σ2) fun σ3 =>
  some σ3
set_option maxHeartbeats 4000000 in
theorem kmX0_become (l : Launch) {k0 : Nat} {k1 : Nat} {σ : ST} {τ : ST} (hk0 : kd k0 = 0) (hk1 : kd k1 = 0) (hf : fX0_become k0 k1 σ = some τ) : KM l yX0_become cX0_become 2 none 2 61 [.ref k0, .ref k1] σ none τ := by
  refine KM.intro (ow := 0) (by decide +kernel) rfl (Nat.le_of_ble_eq_true rfl) (fun V hm => ?_)
  show V 0 [some (.ref k0), some (.ref k1)] [] σ
  have h := hm.bd
  unfold fX0_become at hf
  refine h.run (o := [kd k1 = 0, kd k0 = 0, kd k1 = 0, kd k0 = 0, kd k1 = 0, kd k0 = 0, kd k0 = 0, kd k1 = 0]) (ls' := [some (.ref k0), some (.ref k1)]) (st' := [.ref (6 * k1), .ref (6 * k0)]) (σ' := setI (setI (setI σ k0 0 (σ.1 k1 0)) k0 1 ((setI σ k0 0 (σ.1 k1 0)).1 k1 1)) k0 2 ((setI (setI σ k0 0 (σ.1 k1 0)) k0 1 ((setI σ k0 0 (σ.1 k1 0)).1 k1 1)).1 k1 2)) [(.aload_n 0, 1, 0, 0, 0, 0), (.aload_n 1, 1, 0, 0, 0, 0), (.getfield 9, 3, 0, 0, 0, 0), (.putfield 9, 3, 0, 0, 0, 0), (.aload_n 0, 1, 0, 0, 0, 0), (.aload_n 1, 1, 0, 0, 0, 0), (.getfield 15, 3, 0, 0, 0, 1), (.putfield 15, 3, 0, 0, 0, 1), (.aload_n 0, 1, 0, 0, 0, 0), (.aload_n 1, 1, 0, 0, 0, 0), (.getfield 18, 3, 0, 0, 0, 2), (.putfield 18, 3, 0, 0, 0, 2), (.aload_n 0, 1, 0, 0, 0, 0), (.getfield 26, 3, 0, 0, 0, 3), (.aload_n 1, 1, 0, 0, 0, 0), (.getfield 26, 3, 0, 0, 0, 3)] (pc2 := 32) (by decide +kernel) rfl (And.intro hk1 (And.intro hk0 (And.intro hk1 (And.intro hk0 (And.intro hk1 (And.intro hk0 (And.intro hk0 (And.intro hk1 trivial)))))))) ?_
  obtain ⟨σ1, e1, hf⟩ := bR_some hf
  refine h.callV (as := [.ref (6 * k1)]) (rest := []) (by decide +kernel) lk0_36 cwX4_become (kd_G hk0).1 (kmX4_become l (kd_G hk0).1 (kd_G hk1).1 e1) rfl (Nat.le_of_ble_eq_true rfl) (Nat.le_of_ble_eq_true rfl) (Nat.le_of_ble_eq_true rfl) ?_
  show V 35 [some (.ref k0), some (.ref k1)] [] σ1
  refine h.run (o := [kd k0 = 0, kd k1 = 0]) (ls' := [some (.ref k0), some (.ref k1)]) (st' := [.ref (6 * k1 + 2), .ref (6 * k0 + 2)]) (σ' := σ1) [(.aload_n 0, 1, 0, 0, 0, 0), (.getfield 30, 3, 0, 0, 0, 4), (.aload_n 1, 1, 0, 0, 0, 0), (.getfield 30, 3, 0, 0, 0, 4)] (pc2 := 43) (by decide +kernel) rfl (And.intro hk0 (And.intro hk1 trivial)) ?_
  obtain ⟨σ2, e2, hf⟩ := bR_some hf
  refine h.callV (as := [.ref (6 * k1 + 2)]) (rest := []) (by decide +kernel) lk0_36 cwX4_become (kd_G hk0).2.1 (kmX4_become l (kd_G hk0).2.1 (kd_G hk1).2.1 e2) rfl (Nat.le_of_ble_eq_true rfl) (Nat.le_of_ble_eq_true rfl) (Nat.le_of_ble_eq_true rfl) ?_
  show V 46 [some (.ref k0), some (.ref k1)] [] σ2
  refine h.run (o := [kd k0 = 0, kd k1 = 0]) (ls' := [some (.ref k0), some (.ref k1)]) (st' := [.ref (6 * k1 + 4), .ref (6 * k0 + 4)]) (σ' := σ2) [(.aload_n 0, 1, 0, 0, 0, 0), (.getfield 33, 3, 0, 0, 0, 5), (.aload_n 1, 1, 0, 0, 0, 0), (.getfield 33, 3, 0, 0, 0, 5)] (pc2 := 54) (by decide +kernel) rfl (And.intro hk0 (And.intro hk1 trivial)) ?_
  obtain ⟨σ3, e3, hf⟩ := bR_some hf
  refine h.callV (as := [.ref (6 * k1 + 4)]) (rest := []) (by decide +kernel) lk0_36 cwX4_become (kd_G hk0).2.2 (kmX4_become l (kd_G hk0).2.2 (kd_G hk1).2.2 e3) rfl (Nat.le_of_ble_eq_true rfl) (Nat.le_of_ble_eq_true rfl) (Nat.le_of_ble_eq_true rfl) ?_
  show V 57 [some (.ref k0), some (.ref k1)] [] σ3
  obtain rfl := Option.some.inj hf
  exact hm.vret (by decide +kernel)
