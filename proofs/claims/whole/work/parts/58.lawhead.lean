def fL_law_23 (xs : Nat → Int32) (L : Nat) (n : Nat) (x4 : Int32) (σ : ST) : Option Int32 := match n with
  | 0 => none
  | n + 1 =>
    if ((Int32.ofNat L) - 6) < x4 then
      some 1
    else
      gd (inb x4 L) <|
      if ((xs x4.toNatClampNeg) &&& 63) = 0 then
        fL_law_188 xs L (fL_law_23 xs L n) x4 σ
      else
        if ((xs x4.toNatClampNeg) &&& 63) = 1 then
          fL_law_213 xs L (fL_law_23 xs L n) x4 σ
        else
          if ((xs x4.toNatClampNeg) &&& 63) = 2 then
            fL_law_250 xs L (fL_law_23 xs L n) x4 σ
          else
            if ((xs x4.toNatClampNeg) &&& 63) = 3 then
              fL_law_287 xs L (fL_law_23 xs L n) x4 σ
            else
              if ((xs x4.toNatClampNeg) &&& 63) = 4 then
                fL_law_324 xs L (fL_law_23 xs L n) x4 σ
              else
                if ((xs x4.toNatClampNeg) &&& 63) = 5 then
                  fL_law_361 xs L (fL_law_23 xs L n) x4 σ
                else
                  if ((xs x4.toNatClampNeg) &&& 63) = 6 then
                    fL_law_426 xs L (fL_law_23 xs L n) x4 σ
                  else
                    if ((xs x4.toNatClampNeg) &&& 63) = 7 then
                      fL_law_439 xs L (fL_law_23 xs L n) x4 σ
                    else
                      if ((xs x4.toNatClampNeg) &&& 63) = 8 then
                        fL_law_476 xs L (fL_law_23 xs L n) x4 σ
                      else
                        if ((xs x4.toNatClampNeg) &&& 63) = 9 then
                          fL_law_513 xs L (fL_law_23 xs L n) x4 σ
                        else
                          if ((xs x4.toNatClampNeg) &&& 63) = 10 then
                            fL_law_550 xs L (fL_law_23 xs L n) x4 σ
                          else
                            if ((xs x4.toNatClampNeg) &&& 63) = 11 then
                              fL_law_575 xs L (fL_law_23 xs L n) x4 σ
                            else
                              if ((xs x4.toNatClampNeg) &&& 63) = 12 then
                                fL_law_612 xs L (fL_law_23 xs L n) x4 σ
                              else
                                if ((xs x4.toNatClampNeg) &&& 63) = 13 then
                                  fL_law_677 xs L (fL_law_23 xs L n) x4 σ
                                else
                                  if ((xs x4.toNatClampNeg) &&& 63) = 14 then
                                    fL_law_714 xs L (fL_law_23 xs L n) x4 σ
                                  else
                                    if ((xs x4.toNatClampNeg) &&& 63) = 15 then
                                      fL_law_751 xs L (fL_law_23 xs L n) x4 σ
                                    else
                                      if ((xs x4.toNatClampNeg) &&& 63) = 16 then
                                        fL_law_776 xs L (fL_law_23 xs L n) x4 σ
                                      else
                                        if ((xs x4.toNatClampNeg) &&& 63) = 17 then
                                          fL_law_813 xs L (fL_law_23 xs L n) x4 σ
                                        else
                                          if ((xs x4.toNatClampNeg) &&& 63) = 18 then
                                            fL_law_862 xs L (fL_law_23 xs L n) x4 σ
                                          else
                                            if ((xs x4.toNatClampNeg) &&& 63) = 19 then
                                              fL_law_911 xs L (fL_law_23 xs L n) x4 σ
                                            else
                                              if ((xs x4.toNatClampNeg) &&& 63) = 20 then
                                                fL_law_960 xs L (fL_law_23 xs L n) x4 σ
                                              else
                                                if ((xs x4.toNatClampNeg) &&& 63) = 21 then
                                                  fL_law_997 xs L (fL_law_23 xs L n) x4 σ
                                                else
                                                  if ((xs x4.toNatClampNeg) &&& 63) = 22 then
                                                    fL_law_1034 xs L (fL_law_23 xs L n) x4 σ
                                                  else
                                                    if ((xs x4.toNatClampNeg) &&& 63) = 23 then
                                                      fL_law_1095 xs L (fL_law_23 xs L n) x4 σ
                                                    else
                                                      if ((xs x4.toNatClampNeg) &&& 63) = 24 then
                                                        fL_law_1108 xs L (fL_law_23 xs L n) x4 σ
                                                      else
                                                        if ((xs x4.toNatClampNeg) &&& 63) = 25 then
                                                          fL_law_1121 xs L (fL_law_23 xs L n) x4 σ
                                                        else
                                                          if ((xs x4.toNatClampNeg) &&& 63) = 26 then
                                                            fL_law_1146 xs L (fL_law_23 xs L n) x4 σ
                                                          else
                                                            if ((xs x4.toNatClampNeg) &&& 63) = 27 then
                                                              fL_law_1195 xs L (fL_law_23 xs L n) x4 σ
                                                            else
                                                              if ((xs x4.toNatClampNeg) &&& 63) = 28 then
                                                                fL_law_1244 xs L (fL_law_23 xs L n) x4 σ
                                                              else
                                                                if ((xs x4.toNatClampNeg) &&& 63) = 29 then
                                                                  fL_law_1293 xs L (fL_law_23 xs L n) x4 σ
                                                                else
                                                                  if ((xs x4.toNatClampNeg) &&& 63) = 30 then
                                                                    fL_law_1360 xs L (fL_law_23 xs L n) x4 σ
                                                                  else
                                                                    if ((xs x4.toNatClampNeg) &&& 63) = 31 then
                                                                      fL_law_1433 xs L (fL_law_23 xs L n) x4 σ
                                                                    else
                                                                      if ((xs x4.toNatClampNeg) &&& 63) = 32 then
                                                                        fL_law_1458 xs L (fL_law_23 xs L n) x4 σ
                                                                      else
                                                                        fL_law_1483 xs L (fL_law_23 xs L n) x4 σ
set_option maxHeartbeats 4000000 in
theorem wL_law_23 {l : Launch} {xs : Nat → Int32} {L : Nat} {V : Nat → Nat → Nat → List (Option Value) → List Value → ST → Prop} (hm : BL l xs L V) : ∀ (n c ns : Nat), c + n ≤ 601024 → ns + 6 * n ≤ 7293034 → ∀ (x4 : Int32) (σ : ST), fL_law_23 xs L n x4 σ = some 1 → V c ns 23 [some (.ref 68), some (.ref 0), some (.ref 36), some (.ref 67), some (.int x4), none, none, none] [] σ := by
  intro n
  induction n with
  | zero => intro c ns hc hs x4 σ hf; cases hf
  | succ n ih =>
    intro c ns hc hs x4 σ hf
    rw [fL_law_23] at hf
    have h := hm.bd (c := c) (n := ns) (by omega) (by omega)
    refine h.run (o := []) (ls' := [some (.ref 68), some (.ref 0), some (.ref 36), some (.ref 67), some (.int x4), none, none, none]) (st' := [.ref 68, .int x4]) (σ' := σ) [(.iload 4, 2, 0, 0, 0, 0), (.aload_n 0, 1, 0, 0, 0, 0)] (pc2 := 26) (by decide +kernel) rfl trivial ?_
    refine hm.slen (show decode cL_law 26 = .ok (.arraylength, 1) by decide +kernel) ?_
    show V c ns 27 [some (.ref 68), some (.ref 0), some (.ref 36), some (.ref 67), some (.int x4), none, none, none] [.int (Int32.ofNat L), .int x4] σ
    refine h.run (o := []) (ls' := [some (.ref 68), some (.ref 0), some (.ref 36), some (.ref 67), some (.int x4), none, none, none]) (st' := [.int ((Int32.ofNat L) - 6), .int x4]) (σ' := σ) [(.bipush 6, 2, 6, 0, 0, 0), (.isub, 1, 0, 0, 0, 0)] (pc2 := 30) (by decide +kernel) rfl trivial ?_
    refine h.icmp_gt (tgt := 1489) (show decode cL_law 30 = .ok (.if_icmp .gt 1459, 3) by decide +kernel) (by decide) (fun c35 => ?_) (fun c35 => ?_)
    · rw [if_pos c35] at hf
      refine h.run (o := []) (ls' := [some (.ref 68), some (.ref 0), some (.ref 36), some (.ref 67), some (.int x4), none, none, none]) (st' := [.int 1]) (σ' := σ) [(.iconst 1, 1, 1, 0, 0, 0)] (pc2 := 1490) (by decide +kernel) rfl trivial ?_
      exact hm.ret (by omega) (by omega) (by decide +kernel)
    · rw [if_neg c35] at hf
      show V c ns 33 [some (.ref 68), some (.ref 0), some (.ref 36), some (.ref 67), some (.int x4), none, none, none] [] σ
      refine h.run (o := []) (ls' := [some (.ref 68), some (.ref 0), some (.ref 36), some (.ref 67), some (.int x4), none, none, none]) (st' := [.int x4, .ref 68]) (σ' := σ) [(.aload_n 0, 1, 0, 0, 0, 0), (.iload 4, 2, 0, 0, 0, 0)] (pc2 := 36) (by decide +kernel) rfl trivial ?_
      obtain ⟨g1, hf⟩ := gd_some hf
      refine hm.sld g1 (show decode cL_law 36 = .ok (.iaload, 1) by decide +kernel) ?_
      show V c ns 37 [some (.ref 68), some (.ref 0), some (.ref 36), some (.ref 67), some (.int x4), none, none, none] [.int (xs x4.toNatClampNeg)] σ
      refine h.run (o := []) (ls' := [some (.ref 68), some (.ref 0), some (.ref 36), some (.ref 67), some (.int x4), none, none, none]) (st' := [.int ((xs x4.toNatClampNeg) &&& 63)]) (σ' := σ) [(.bipush 63, 2, 63, 0, 0, 0), (.iand, 1, 0, 0, 0, 0)] (pc2 := 40) (by decide +kernel) rfl trivial ?_
      by_cases c2 : ((xs x4.toNatClampNeg) &&& 63) = 0
      · rw [if_pos c2] at hf
        refine h.tableIn (off := 148) (tgt := 188) (show decode cL_law 40 = .ok (.tableswitch 1443 0 32 #[148, 173, 210, 247, 284, 321, 386, 399, 436, 473, 510, 535, 572, 637, 674, 711, 736, 773, 822, 871, 920, 957, 994, 1055, 1068, 1081, 1106, 1155, 1204, 1253, 1320, 1393, 1418], 148) by decide +kernel) (by rw [c2]; decide) (by rw [c2]; decide) (by rw [c2]; decide) (by decide) ?_
        exact wL_law_188 hm ih (n := n) (by omega) (by omega) hf
      · rw [if_neg c2] at hf
        by_cases c3 : ((xs x4.toNatClampNeg) &&& 63) = 1
        · rw [if_pos c3] at hf
          refine h.tableIn (off := 173) (tgt := 213) (show decode cL_law 40 = .ok (.tableswitch 1443 0 32 #[148, 173, 210, 247, 284, 321, 386, 399, 436, 473, 510, 535, 572, 637, 674, 711, 736, 773, 822, 871, 920, 957, 994, 1055, 1068, 1081, 1106, 1155, 1204, 1253, 1320, 1393, 1418], 148) by decide +kernel) (by rw [c3]; decide) (by rw [c3]; decide) (by rw [c3]; decide) (by decide) ?_
          exact wL_law_213 hm ih (n := n) (by omega) (by omega) hf
        · rw [if_neg c3] at hf
          by_cases c4 : ((xs x4.toNatClampNeg) &&& 63) = 2
          · rw [if_pos c4] at hf
            refine h.tableIn (off := 210) (tgt := 250) (show decode cL_law 40 = .ok (.tableswitch 1443 0 32 #[148, 173, 210, 247, 284, 321, 386, 399, 436, 473, 510, 535, 572, 637, 674, 711, 736, 773, 822, 871, 920, 957, 994, 1055, 1068, 1081, 1106, 1155, 1204, 1253, 1320, 1393, 1418], 148) by decide +kernel) (by rw [c4]; decide) (by rw [c4]; decide) (by rw [c4]; decide) (by decide) ?_
            exact wL_law_250 hm ih (n := n) (by omega) (by omega) hf
          · rw [if_neg c4] at hf
            by_cases c5 : ((xs x4.toNatClampNeg) &&& 63) = 3
            · rw [if_pos c5] at hf
              refine h.tableIn (off := 247) (tgt := 287) (show decode cL_law 40 = .ok (.tableswitch 1443 0 32 #[148, 173, 210, 247, 284, 321, 386, 399, 436, 473, 510, 535, 572, 637, 674, 711, 736, 773, 822, 871, 920, 957, 994, 1055, 1068, 1081, 1106, 1155, 1204, 1253, 1320, 1393, 1418], 148) by decide +kernel) (by rw [c5]; decide) (by rw [c5]; decide) (by rw [c5]; decide) (by decide) ?_
              exact wL_law_287 hm ih (n := n) (by omega) (by omega) hf
            · rw [if_neg c5] at hf
              by_cases c6 : ((xs x4.toNatClampNeg) &&& 63) = 4
              · rw [if_pos c6] at hf
                refine h.tableIn (off := 284) (tgt := 324) (show decode cL_law 40 = .ok (.tableswitch 1443 0 32 #[148, 173, 210, 247, 284, 321, 386, 399, 436, 473, 510, 535, 572, 637, 674, 711, 736, 773, 822, 871, 920, 957, 994, 1055, 1068, 1081, 1106, 1155, 1204, 1253, 1320, 1393, 1418], 148) by decide +kernel) (by rw [c6]; decide) (by rw [c6]; decide) (by rw [c6]; decide) (by decide) ?_
                exact wL_law_324 hm ih (n := n) (by omega) (by omega) hf
              · rw [if_neg c6] at hf
                by_cases c7 : ((xs x4.toNatClampNeg) &&& 63) = 5
                · rw [if_pos c7] at hf
                  refine h.tableIn (off := 321) (tgt := 361) (show decode cL_law 40 = .ok (.tableswitch 1443 0 32 #[148, 173, 210, 247, 284, 321, 386, 399, 436, 473, 510, 535, 572, 637, 674, 711, 736, 773, 822, 871, 920, 957, 994, 1055, 1068, 1081, 1106, 1155, 1204, 1253, 1320, 1393, 1418], 148) by decide +kernel) (by rw [c7]; decide) (by rw [c7]; decide) (by rw [c7]; decide) (by decide) ?_
                  exact wL_law_361 hm ih (n := n) (by omega) (by omega) hf
                · rw [if_neg c7] at hf
                  by_cases c8 : ((xs x4.toNatClampNeg) &&& 63) = 6
                  · rw [if_pos c8] at hf
                    refine h.tableIn (off := 386) (tgt := 426) (show decode cL_law 40 = .ok (.tableswitch 1443 0 32 #[148, 173, 210, 247, 284, 321, 386, 399, 436, 473, 510, 535, 572, 637, 674, 711, 736, 773, 822, 871, 920, 957, 994, 1055, 1068, 1081, 1106, 1155, 1204, 1253, 1320, 1393, 1418], 148) by decide +kernel) (by rw [c8]; decide) (by rw [c8]; decide) (by rw [c8]; decide) (by decide) ?_
                    exact wL_law_426 hm ih (n := n) (by omega) (by omega) hf
                  · rw [if_neg c8] at hf
                    by_cases c9 : ((xs x4.toNatClampNeg) &&& 63) = 7
                    · rw [if_pos c9] at hf
                      refine h.tableIn (off := 399) (tgt := 439) (show decode cL_law 40 = .ok (.tableswitch 1443 0 32 #[148, 173, 210, 247, 284, 321, 386, 399, 436, 473, 510, 535, 572, 637, 674, 711, 736, 773, 822, 871, 920, 957, 994, 1055, 1068, 1081, 1106, 1155, 1204, 1253, 1320, 1393, 1418], 148) by decide +kernel) (by rw [c9]; decide) (by rw [c9]; decide) (by rw [c9]; decide) (by decide) ?_
                      exact wL_law_439 hm ih (n := n) (by omega) (by omega) hf
                    · rw [if_neg c9] at hf
                      by_cases c10 : ((xs x4.toNatClampNeg) &&& 63) = 8
                      · rw [if_pos c10] at hf
                        refine h.tableIn (off := 436) (tgt := 476) (show decode cL_law 40 = .ok (.tableswitch 1443 0 32 #[148, 173, 210, 247, 284, 321, 386, 399, 436, 473, 510, 535, 572, 637, 674, 711, 736, 773, 822, 871, 920, 957, 994, 1055, 1068, 1081, 1106, 1155, 1204, 1253, 1320, 1393, 1418], 148) by decide +kernel) (by rw [c10]; decide) (by rw [c10]; decide) (by rw [c10]; decide) (by decide) ?_
                        exact wL_law_476 hm ih (n := n) (by omega) (by omega) hf
                      · rw [if_neg c10] at hf
                        by_cases c11 : ((xs x4.toNatClampNeg) &&& 63) = 9
                        · rw [if_pos c11] at hf
                          refine h.tableIn (off := 473) (tgt := 513) (show decode cL_law 40 = .ok (.tableswitch 1443 0 32 #[148, 173, 210, 247, 284, 321, 386, 399, 436, 473, 510, 535, 572, 637, 674, 711, 736, 773, 822, 871, 920, 957, 994, 1055, 1068, 1081, 1106, 1155, 1204, 1253, 1320, 1393, 1418], 148) by decide +kernel) (by rw [c11]; decide) (by rw [c11]; decide) (by rw [c11]; decide) (by decide) ?_
                          exact wL_law_513 hm ih (n := n) (by omega) (by omega) hf
                        · rw [if_neg c11] at hf
                          by_cases c12 : ((xs x4.toNatClampNeg) &&& 63) = 10
                          · rw [if_pos c12] at hf
                            refine h.tableIn (off := 510) (tgt := 550) (show decode cL_law 40 = .ok (.tableswitch 1443 0 32 #[148, 173, 210, 247, 284, 321, 386, 399, 436, 473, 510, 535, 572, 637, 674, 711, 736, 773, 822, 871, 920, 957, 994, 1055, 1068, 1081, 1106, 1155, 1204, 1253, 1320, 1393, 1418], 148) by decide +kernel) (by rw [c12]; decide) (by rw [c12]; decide) (by rw [c12]; decide) (by decide) ?_
                            exact wL_law_550 hm ih (n := n) (by omega) (by omega) hf
                          · rw [if_neg c12] at hf
                            by_cases c13 : ((xs x4.toNatClampNeg) &&& 63) = 11
                            · rw [if_pos c13] at hf
                              refine h.tableIn (off := 535) (tgt := 575) (show decode cL_law 40 = .ok (.tableswitch 1443 0 32 #[148, 173, 210, 247, 284, 321, 386, 399, 436, 473, 510, 535, 572, 637, 674, 711, 736, 773, 822, 871, 920, 957, 994, 1055, 1068, 1081, 1106, 1155, 1204, 1253, 1320, 1393, 1418], 148) by decide +kernel) (by rw [c13]; decide) (by rw [c13]; decide) (by rw [c13]; decide) (by decide) ?_
                              exact wL_law_575 hm ih (n := n) (by omega) (by omega) hf
                            · rw [if_neg c13] at hf
                              by_cases c14 : ((xs x4.toNatClampNeg) &&& 63) = 12
                              · rw [if_pos c14] at hf
                                refine h.tableIn (off := 572) (tgt := 612) (show decode cL_law 40 = .ok (.tableswitch 1443 0 32 #[148, 173, 210, 247, 284, 321, 386, 399, 436, 473, 510, 535, 572, 637, 674, 711, 736, 773, 822, 871, 920, 957, 994, 1055, 1068, 1081, 1106, 1155, 1204, 1253, 1320, 1393, 1418], 148) by decide +kernel) (by rw [c14]; decide) (by rw [c14]; decide) (by rw [c14]; decide) (by decide) ?_
                                exact wL_law_612 hm ih (n := n) (by omega) (by omega) hf
                              · rw [if_neg c14] at hf
                                by_cases c15 : ((xs x4.toNatClampNeg) &&& 63) = 13
                                · rw [if_pos c15] at hf
                                  refine h.tableIn (off := 637) (tgt := 677) (show decode cL_law 40 = .ok (.tableswitch 1443 0 32 #[148, 173, 210, 247, 284, 321, 386, 399, 436, 473, 510, 535, 572, 637, 674, 711, 736, 773, 822, 871, 920, 957, 994, 1055, 1068, 1081, 1106, 1155, 1204, 1253, 1320, 1393, 1418], 148) by decide +kernel) (by rw [c15]; decide) (by rw [c15]; decide) (by rw [c15]; decide) (by decide) ?_
                                  exact wL_law_677 hm ih (n := n) (by omega) (by omega) hf
                                · rw [if_neg c15] at hf
                                  by_cases c16 : ((xs x4.toNatClampNeg) &&& 63) = 14
                                  · rw [if_pos c16] at hf
                                    refine h.tableIn (off := 674) (tgt := 714) (show decode cL_law 40 = .ok (.tableswitch 1443 0 32 #[148, 173, 210, 247, 284, 321, 386, 399, 436, 473, 510, 535, 572, 637, 674, 711, 736, 773, 822, 871, 920, 957, 994, 1055, 1068, 1081, 1106, 1155, 1204, 1253, 1320, 1393, 1418], 148) by decide +kernel) (by rw [c16]; decide) (by rw [c16]; decide) (by rw [c16]; decide) (by decide) ?_
                                    exact wL_law_714 hm ih (n := n) (by omega) (by omega) hf
                                  · rw [if_neg c16] at hf
                                    by_cases c17 : ((xs x4.toNatClampNeg) &&& 63) = 15
                                    · rw [if_pos c17] at hf
                                      refine h.tableIn (off := 711) (tgt := 751) (show decode cL_law 40 = .ok (.tableswitch 1443 0 32 #[148, 173, 210, 247, 284, 321, 386, 399, 436, 473, 510, 535, 572, 637, 674, 711, 736, 773, 822, 871, 920, 957, 994, 1055, 1068, 1081, 1106, 1155, 1204, 1253, 1320, 1393, 1418], 148) by decide +kernel) (by rw [c17]; decide) (by rw [c17]; decide) (by rw [c17]; decide) (by decide) ?_
                                      exact wL_law_751 hm ih (n := n) (by omega) (by omega) hf
                                    · rw [if_neg c17] at hf
                                      by_cases c18 : ((xs x4.toNatClampNeg) &&& 63) = 16
                                      · rw [if_pos c18] at hf
                                        refine h.tableIn (off := 736) (tgt := 776) (show decode cL_law 40 = .ok (.tableswitch 1443 0 32 #[148, 173, 210, 247, 284, 321, 386, 399, 436, 473, 510, 535, 572, 637, 674, 711, 736, 773, 822, 871, 920, 957, 994, 1055, 1068, 1081, 1106, 1155, 1204, 1253, 1320, 1393, 1418], 148) by decide +kernel) (by rw [c18]; decide) (by rw [c18]; decide) (by rw [c18]; decide) (by decide) ?_
                                        exact wL_law_776 hm ih (n := n) (by omega) (by omega) hf
                                      · rw [if_neg c18] at hf
                                        by_cases c19 : ((xs x4.toNatClampNeg) &&& 63) = 17
                                        · rw [if_pos c19] at hf
                                          refine h.tableIn (off := 773) (tgt := 813) (show decode cL_law 40 = .ok (.tableswitch 1443 0 32 #[148, 173, 210, 247, 284, 321, 386, 399, 436, 473, 510, 535, 572, 637, 674, 711, 736, 773, 822, 871, 920, 957, 994, 1055, 1068, 1081, 1106, 1155, 1204, 1253, 1320, 1393, 1418], 148) by decide +kernel) (by rw [c19]; decide) (by rw [c19]; decide) (by rw [c19]; decide) (by decide) ?_
                                          exact wL_law_813 hm ih (n := n) (by omega) (by omega) hf
                                        · rw [if_neg c19] at hf
                                          by_cases c20 : ((xs x4.toNatClampNeg) &&& 63) = 18
                                          · rw [if_pos c20] at hf
                                            refine h.tableIn (off := 822) (tgt := 862) (show decode cL_law 40 = .ok (.tableswitch 1443 0 32 #[148, 173, 210, 247, 284, 321, 386, 399, 436, 473, 510, 535, 572, 637, 674, 711, 736, 773, 822, 871, 920, 957, 994, 1055, 1068, 1081, 1106, 1155, 1204, 1253, 1320, 1393, 1418], 148) by decide +kernel) (by rw [c20]; decide) (by rw [c20]; decide) (by rw [c20]; decide) (by decide) ?_
                                            exact wL_law_862 hm ih (n := n) (by omega) (by omega) hf
                                          · rw [if_neg c20] at hf
                                            by_cases c21 : ((xs x4.toNatClampNeg) &&& 63) = 19
                                            · rw [if_pos c21] at hf
                                              refine h.tableIn (off := 871) (tgt := 911) (show decode cL_law 40 = .ok (.tableswitch 1443 0 32 #[148, 173, 210, 247, 284, 321, 386, 399, 436, 473, 510, 535, 572, 637, 674, 711, 736, 773, 822, 871, 920, 957, 994, 1055, 1068, 1081, 1106, 1155, 1204, 1253, 1320, 1393, 1418], 148) by decide +kernel) (by rw [c21]; decide) (by rw [c21]; decide) (by rw [c21]; decide) (by decide) ?_
                                              exact wL_law_911 hm ih (n := n) (by omega) (by omega) hf
                                            · rw [if_neg c21] at hf
                                              by_cases c22 : ((xs x4.toNatClampNeg) &&& 63) = 20
                                              · rw [if_pos c22] at hf
                                                refine h.tableIn (off := 920) (tgt := 960) (show decode cL_law 40 = .ok (.tableswitch 1443 0 32 #[148, 173, 210, 247, 284, 321, 386, 399, 436, 473, 510, 535, 572, 637, 674, 711, 736, 773, 822, 871, 920, 957, 994, 1055, 1068, 1081, 1106, 1155, 1204, 1253, 1320, 1393, 1418], 148) by decide +kernel) (by rw [c22]; decide) (by rw [c22]; decide) (by rw [c22]; decide) (by decide) ?_
                                                exact wL_law_960 hm ih (n := n) (by omega) (by omega) hf
                                              · rw [if_neg c22] at hf
                                                by_cases c23 : ((xs x4.toNatClampNeg) &&& 63) = 21
                                                · rw [if_pos c23] at hf
                                                  refine h.tableIn (off := 957) (tgt := 997) (show decode cL_law 40 = .ok (.tableswitch 1443 0 32 #[148, 173, 210, 247, 284, 321, 386, 399, 436, 473, 510, 535, 572, 637, 674, 711, 736, 773, 822, 871, 920, 957, 994, 1055, 1068, 1081, 1106, 1155, 1204, 1253, 1320, 1393, 1418], 148) by decide +kernel) (by rw [c23]; decide) (by rw [c23]; decide) (by rw [c23]; decide) (by decide) ?_
                                                  exact wL_law_997 hm ih (n := n) (by omega) (by omega) hf
                                                · rw [if_neg c23] at hf
                                                  by_cases c24 : ((xs x4.toNatClampNeg) &&& 63) = 22
                                                  · rw [if_pos c24] at hf
                                                    refine h.tableIn (off := 994) (tgt := 1034) (show decode cL_law 40 = .ok (.tableswitch 1443 0 32 #[148, 173, 210, 247, 284, 321, 386, 399, 436, 473, 510, 535, 572, 637, 674, 711, 736, 773, 822, 871, 920, 957, 994, 1055, 1068, 1081, 1106, 1155, 1204, 1253, 1320, 1393, 1418], 148) by decide +kernel) (by rw [c24]; decide) (by rw [c24]; decide) (by rw [c24]; decide) (by decide) ?_
                                                    exact wL_law_1034 hm ih (n := n) (by omega) (by omega) hf
                                                  · rw [if_neg c24] at hf
                                                    by_cases c25 : ((xs x4.toNatClampNeg) &&& 63) = 23
                                                    · rw [if_pos c25] at hf
                                                      refine h.tableIn (off := 1055) (tgt := 1095) (show decode cL_law 40 = .ok (.tableswitch 1443 0 32 #[148, 173, 210, 247, 284, 321, 386, 399, 436, 473, 510, 535, 572, 637, 674, 711, 736, 773, 822, 871, 920, 957, 994, 1055, 1068, 1081, 1106, 1155, 1204, 1253, 1320, 1393, 1418], 148) by decide +kernel) (by rw [c25]; decide) (by rw [c25]; decide) (by rw [c25]; decide) (by decide) ?_
                                                      exact wL_law_1095 hm ih (n := n) (by omega) (by omega) hf
                                                    · rw [if_neg c25] at hf
                                                      by_cases c26 : ((xs x4.toNatClampNeg) &&& 63) = 24
                                                      · rw [if_pos c26] at hf
                                                        refine h.tableIn (off := 1068) (tgt := 1108) (show decode cL_law 40 = .ok (.tableswitch 1443 0 32 #[148, 173, 210, 247, 284, 321, 386, 399, 436, 473, 510, 535, 572, 637, 674, 711, 736, 773, 822, 871, 920, 957, 994, 1055, 1068, 1081, 1106, 1155, 1204, 1253, 1320, 1393, 1418], 148) by decide +kernel) (by rw [c26]; decide) (by rw [c26]; decide) (by rw [c26]; decide) (by decide) ?_
                                                        exact wL_law_1108 hm ih (n := n) (by omega) (by omega) hf
                                                      · rw [if_neg c26] at hf
                                                        by_cases c27 : ((xs x4.toNatClampNeg) &&& 63) = 25
                                                        · rw [if_pos c27] at hf
                                                          refine h.tableIn (off := 1081) (tgt := 1121) (show decode cL_law 40 = .ok (.tableswitch 1443 0 32 #[148, 173, 210, 247, 284, 321, 386, 399, 436, 473, 510, 535, 572, 637, 674, 711, 736, 773, 822, 871, 920, 957, 994, 1055, 1068, 1081, 1106, 1155, 1204, 1253, 1320, 1393, 1418], 148) by decide +kernel) (by rw [c27]; decide) (by rw [c27]; decide) (by rw [c27]; decide) (by decide) ?_
                                                          exact wL_law_1121 hm ih (n := n) (by omega) (by omega) hf
                                                        · rw [if_neg c27] at hf
                                                          by_cases c28 : ((xs x4.toNatClampNeg) &&& 63) = 26
                                                          · rw [if_pos c28] at hf
                                                            refine h.tableIn (off := 1106) (tgt := 1146) (show decode cL_law 40 = .ok (.tableswitch 1443 0 32 #[148, 173, 210, 247, 284, 321, 386, 399, 436, 473, 510, 535, 572, 637, 674, 711, 736, 773, 822, 871, 920, 957, 994, 1055, 1068, 1081, 1106, 1155, 1204, 1253, 1320, 1393, 1418], 148) by decide +kernel) (by rw [c28]; decide) (by rw [c28]; decide) (by rw [c28]; decide) (by decide) ?_
                                                            exact wL_law_1146 hm ih (n := n) (by omega) (by omega) hf
                                                          · rw [if_neg c28] at hf
                                                            by_cases c29 : ((xs x4.toNatClampNeg) &&& 63) = 27
                                                            · rw [if_pos c29] at hf
                                                              refine h.tableIn (off := 1155) (tgt := 1195) (show decode cL_law 40 = .ok (.tableswitch 1443 0 32 #[148, 173, 210, 247, 284, 321, 386, 399, 436, 473, 510, 535, 572, 637, 674, 711, 736, 773, 822, 871, 920, 957, 994, 1055, 1068, 1081, 1106, 1155, 1204, 1253, 1320, 1393, 1418], 148) by decide +kernel) (by rw [c29]; decide) (by rw [c29]; decide) (by rw [c29]; decide) (by decide) ?_
                                                              exact wL_law_1195 hm ih (n := n) (by omega) (by omega) hf
                                                            · rw [if_neg c29] at hf
                                                              by_cases c30 : ((xs x4.toNatClampNeg) &&& 63) = 28
                                                              · rw [if_pos c30] at hf
                                                                refine h.tableIn (off := 1204) (tgt := 1244) (show decode cL_law 40 = .ok (.tableswitch 1443 0 32 #[148, 173, 210, 247, 284, 321, 386, 399, 436, 473, 510, 535, 572, 637, 674, 711, 736, 773, 822, 871, 920, 957, 994, 1055, 1068, 1081, 1106, 1155, 1204, 1253, 1320, 1393, 1418], 148) by decide +kernel) (by rw [c30]; decide) (by rw [c30]; decide) (by rw [c30]; decide) (by decide) ?_
                                                                exact wL_law_1244 hm ih (n := n) (by omega) (by omega) hf
                                                              · rw [if_neg c30] at hf
                                                                by_cases c31 : ((xs x4.toNatClampNeg) &&& 63) = 29
                                                                · rw [if_pos c31] at hf
                                                                  refine h.tableIn (off := 1253) (tgt := 1293) (show decode cL_law 40 = .ok (.tableswitch 1443 0 32 #[148, 173, 210, 247, 284, 321, 386, 399, 436, 473, 510, 535, 572, 637, 674, 711, 736, 773, 822, 871, 920, 957, 994, 1055, 1068, 1081, 1106, 1155, 1204, 1253, 1320, 1393, 1418], 148) by decide +kernel) (by rw [c31]; decide) (by rw [c31]; decide) (by rw [c31]; decide) (by decide) ?_
                                                                  exact wL_law_1293 hm ih (n := n) (by omega) (by omega) hf
                                                                · rw [if_neg c31] at hf
                                                                  by_cases c32 : ((xs x4.toNatClampNeg) &&& 63) = 30
                                                                  · rw [if_pos c32] at hf
                                                                    refine h.tableIn (off := 1320) (tgt := 1360) (show decode cL_law 40 = .ok (.tableswitch 1443 0 32 #[148, 173, 210, 247, 284, 321, 386, 399, 436, 473, 510, 535, 572, 637, 674, 711, 736, 773, 822, 871, 920, 957, 994, 1055, 1068, 1081, 1106, 1155, 1204, 1253, 1320, 1393, 1418], 148) by decide +kernel) (by rw [c32]; decide) (by rw [c32]; decide) (by rw [c32]; decide) (by decide) ?_
                                                                    exact wL_law_1360 hm ih (n := n) (by omega) (by omega) hf
                                                                  · rw [if_neg c32] at hf
                                                                    by_cases c33 : ((xs x4.toNatClampNeg) &&& 63) = 31
                                                                    · rw [if_pos c33] at hf
                                                                      refine h.tableIn (off := 1393) (tgt := 1433) (show decode cL_law 40 = .ok (.tableswitch 1443 0 32 #[148, 173, 210, 247, 284, 321, 386, 399, 436, 473, 510, 535, 572, 637, 674, 711, 736, 773, 822, 871, 920, 957, 994, 1055, 1068, 1081, 1106, 1155, 1204, 1253, 1320, 1393, 1418], 148) by decide +kernel) (by rw [c33]; decide) (by rw [c33]; decide) (by rw [c33]; decide) (by decide) ?_
                                                                      exact wL_law_1433 hm ih (n := n) (by omega) (by omega) hf
                                                                    · rw [if_neg c33] at hf
                                                                      by_cases c34 : ((xs x4.toNatClampNeg) &&& 63) = 32
                                                                      · rw [if_pos c34] at hf
                                                                        refine h.tableIn (off := 1418) (tgt := 1458) (show decode cL_law 40 = .ok (.tableswitch 1443 0 32 #[148, 173, 210, 247, 284, 321, 386, 399, 436, 473, 510, 535, 572, 637, 674, 711, 736, 773, 822, 871, 920, 957, 994, 1055, 1068, 1081, 1106, 1155, 1204, 1253, 1320, 1393, 1418], 148) by decide +kernel) (by rw [c34]; decide) (by rw [c34]; decide) (by rw [c34]; decide) (by decide) ?_
                                                                        exact wL_law_1458 hm ih (n := n) (by omega) (by omega) hf
                                                                      · rw [if_neg c34] at hf
                                                                        refine h.tableOut (tgt := 1483) (show decode cL_law 40 = .ok (.tableswitch 1443 0 32 #[148, 173, 210, 247, 284, 321, 386, 399, 436, 473, 510, 535, 572, 637, 674, 711, 736, 773, 822, 871, 920, 957, 994, 1055, 1068, 1081, 1106, 1155, 1204, 1253, 1320, 1393, 1418], 148) by decide +kernel) (sw_out (fun i hl hh => ?_)) (by decide) ?_
                                                                        · rcases (show i = 0 ∨ i = 1 ∨ i = 2 ∨ i = 3 ∨ i = 4 ∨ i = 5 ∨ i = 6 ∨ i = 7 ∨ i = 8 ∨ i = 9 ∨ i = 10 ∨ i = 11 ∨ i = 12 ∨ i = 13 ∨ i = 14 ∨ i = 15 ∨ i = 16 ∨ i = 17 ∨ i = 18 ∨ i = 19 ∨ i = 20 ∨ i = 21 ∨ i = 22 ∨ i = 23 ∨ i = 24 ∨ i = 25 ∨ i = 26 ∨ i = 27 ∨ i = 28 ∨ i = 29 ∨ i = 30 ∨ i = 31 ∨ i = 32 by omega) with rfl | rfl | rfl | rfl | rfl | rfl | rfl | rfl | rfl | rfl | rfl | rfl | rfl | rfl | rfl | rfl | rfl | rfl | rfl | rfl | rfl | rfl | rfl | rfl | rfl | rfl | rfl | rfl | rfl | rfl | rfl | rfl | rfl
                                                                          · exact sw_ne c2 (by decide)
                                                                          · exact sw_ne c3 (by decide)
                                                                          · exact sw_ne c4 (by decide)
                                                                          · exact sw_ne c5 (by decide)
                                                                          · exact sw_ne c6 (by decide)
                                                                          · exact sw_ne c7 (by decide)
                                                                          · exact sw_ne c8 (by decide)
                                                                          · exact sw_ne c9 (by decide)
                                                                          · exact sw_ne c10 (by decide)
                                                                          · exact sw_ne c11 (by decide)
                                                                          · exact sw_ne c12 (by decide)
                                                                          · exact sw_ne c13 (by decide)
                                                                          · exact sw_ne c14 (by decide)
                                                                          · exact sw_ne c15 (by decide)
                                                                          · exact sw_ne c16 (by decide)
                                                                          · exact sw_ne c17 (by decide)
                                                                          · exact sw_ne c18 (by decide)
                                                                          · exact sw_ne c19 (by decide)
                                                                          · exact sw_ne c20 (by decide)
                                                                          · exact sw_ne c21 (by decide)
                                                                          · exact sw_ne c22 (by decide)
                                                                          · exact sw_ne c23 (by decide)
                                                                          · exact sw_ne c24 (by decide)
                                                                          · exact sw_ne c25 (by decide)
                                                                          · exact sw_ne c26 (by decide)
                                                                          · exact sw_ne c27 (by decide)
                                                                          · exact sw_ne c28 (by decide)
                                                                          · exact sw_ne c29 (by decide)
                                                                          · exact sw_ne c30 (by decide)
                                                                          · exact sw_ne c31 (by decide)
                                                                          · exact sw_ne c32 (by decide)
                                                                          · exact sw_ne c33 (by decide)
                                                                          · exact sw_ne c34 (by decide)
                                                                        · exact wL_law_1483 hm ih (n := n) (by omega) (by omega) hf
