theorem by_rg (x : Int32) : rg x.toInt8.toInt32 (-128) 127 := by
  have h1 := Int8.le_toInt x.toInt8
  have h2 := Int8.toInt_lt x.toInt8
  constructor
  · rw [Int32.le_iff_toInt_le, Int8.toInt_toInt32, show (-128 : Int32).toInt = -128 from rfl]; omega
  · rw [Int32.le_iff_toInt_le, Int8.toInt_toInt32, show (127 : Int32).toInt = 127 from rfl]; omega
theorem put_inv {σ T : ST} {d i : Nat} {w : Int32} (hI : INV σ T) (hd : d < 8) (h2 : σ.1 (20 + 2 * d) 0 = 2) (hi : i < 100) (hw : σ.1 (20 + 2 * d) 5 = 0 → rg w (-128) 127) : INV (setI σ (21 + 2 * d) i w) (setL T 65 (100 * d + i) w.toInt64) := by
  have hS := hI.sh d hd
  obtain ⟨r1, r2, r3, r4, r5, r6⟩ := hS.r h2
  have e : ∀ j, (setI σ (21 + 2 * d) i w).1 (20 + 2 * d) j = σ.1 (20 + 2 * d) j := fun j => by rw [sg, if_neg (by omega)]
  have el : ∀ j, (setI σ (21 + 2 * d) i w).1 (21 + 2 * d) j = if j = i then w else σ.1 (21 + 2 * d) j := fun j => by
    rw [sg]
    by_cases h : j = i
    · rw [if_pos ⟨rfl, h⟩, if_pos h]
    · rw [if_neg (fun e => h e.2), if_neg h]
  refine INV.shelf hI hd (fun k j h1 h2 h3 => by rw [sg, if_neg (by omega)]) ⟨fun k j h1 h2 => rfl, fun e' j h1 h2 h3 => by rw [lg, if_neg (by omega)]⟩ ⟨by rw [e]; exact hS.h, by rw [e]; exact hS.hr, fun h => ?_, fun _ => ⟨by rw [e]; exact r1, by rw [e]; exact r2, by rw [e]; exact r3, by rw [e]; exact r4, fun j hj => ?_, fun h0 j hj => ?_⟩⟩
  · rw [e, h2] at h; exact absurd h (by decide)
  · rw [el, lg]
    by_cases h : j = i
    · rw [if_pos ⟨rfl, by omega⟩, if_pos h]
    · rw [if_neg (by omega), if_neg h]; exact r5 j hj
  · rw [e] at h0
    rw [el]
    by_cases h : j = i
    · rw [if_pos h]; exact hw h0
    · rw [if_neg h]; exact r6 h0 j hj
theorem sim_put (x1 x2 x3 : Int32) : SIM (fX5_put x1 x2 x3) (fX6_put x1 x2 x3) := by
  intro σ τ h0
  have hI := h0.r
  have hT := (scr6.r (τ := τ)).fr6
  unfold fX5_put fX6_put
  generalize setI τ 36 23 0 = T at *
  have no : ∀ v, ∃ a σ' τ', (some (v, σ) : Option (Int32 × ST)) = some (a, σ') ∧ (some (v, T) : Option (Int32 × ST)) = some (a, τ') ∧ INV σ' τ' ∧ fr5 σ σ' ∧ fr6 τ τ' := fun v => ⟨v, σ, T, rfl, rfl, hI, fr5.rfl, hT⟩
  rcases shelf_c x1 σ T with ⟨a1, a2⟩ | ⟨d, hd, rfl, a1, a2⟩
  · have w : fX6_wrongRow x1 T = some (-1) := by unfold fX6_wrongRow; rw [a2]; rfl
    rw [a1, w, bR_t, bR_t, if_neg (show ¬ (0 : Int32) ≤ -1 by decide)]; exact no (-1)
  have hS := hI.sh d hd
  have i8 : inb (nI d) 8 = true := inb_t hd (by decide)
  rw [a1, bR_t]
  show ∃ a σ' τ', (bR (fX3_refusalAsRow (20 + 2 * d) σ) fun a2 => if a2 = 0 then bR (fX3_has (20 + 2 * d) x2 σ) fun a3 => if a3 = 0 then some (-13, σ) else bR (fX3_write (20 + 2 * d) x2 x3 σ) fun σ4 => some (0, σ4) else some (a2, σ)) = some (a, σ') ∧ _
  rcases row_c hd hS with ⟨h2, e1, e2⟩ | ⟨v, hv, hne, e1, e2⟩
  · obtain ⟨r1, r2, r3, r4, r5, r6⟩ := hS.r h2
    obtain ⟨n, hn, en⟩ := rg_n (n := 100) (by decide) r4
    rw [e1, bR_t, if_pos rfl, e2, bR_t, if_pos (show (0 : Int32) ≤ 0 by decide), al_63, al_64, i8, gd_t, gd_t, nI_clamp (by omega), r3, en, r1]
    rcases has_el T hd hn en x2 with ⟨g1, g2⟩ | ⟨i, hi, rfl, g1, g2⟩
    · rw [g1, bR_t, if_pos rfl, g2, bR_t, if_pos rfl]; exact no (-13)
    · obtain ⟨j1, j2⟩ := ix800 hd (show i < 100 by omega)
      have i1 : inb (nI i) 100 = true := inb_t (by omega) (by decide)
      rw [g1, bR_t, if_neg h10, g2, bR_t, if_neg h10, al_65, j1, j2]
      have fin : ∀ w : Int32, (σ.1 (20 + 2 * d) 5 = 0 → rg w (-128) 127) → fX3_write (20 + 2 * d) (nI i) x3 σ = some (setI σ (21 + 2 * d) i w) → fX6_narrowed x3 (σ.1 (20 + 2 * d) 5) T = some w.toInt64 → ∃ (a : Int32) (σ' τ' : ST), (bR (fX3_write (20 + 2 * d) (nI i) x3 σ) fun σ4 => some (0, σ4)) = some (a, σ') ∧ (bR (fX6_narrowed x3 (σ.1 (20 + 2 * d) 5) T) fun a5 => gd true (some (0, setL T 65 (100 * d + i) a5))) = some (a, τ') ∧ INV σ' τ' ∧ fr5 σ σ' ∧ fr6 τ τ' := fun w hw q1 q2 => by
        refine ⟨0, setI σ (21 + 2 * d) i w, setL T 65 (100 * d + i) w.toInt64, by rw [q1]; rfl, by rw [q2]; rfl, put_inv hI hd h2 (by omega) hw, fr5.rfl.set (by omega), hT.setL⟩
      unfold fX3_write fX6_narrowed at fin ⊢
      rw [g1, bR_t, if_neg h10, al_el hd, i1, gd_t, gd_t, gd_t, nI_clamp (show i < 2 ^ 31 by omega), show 20 + 2 * d + 1 = 21 + 2 * d by omega] at fin ⊢
      by_cases s0 : σ.1 (20 + 2 * d) 5 = 0
      · exact fin x3.toInt8.toInt32 (fun _ => by_rg x3) (by rw [if_pos s0]; rfl) (by rw [if_pos s0]; rfl)
      by_cases s1 : σ.1 (20 + 2 * d) 5 = 1
      · exact fin x3.toInt16.toInt32 (fun h => absurd h s0) (by rw [if_neg s0, if_pos s1]; rfl) (by rw [if_neg s0, if_pos s1]; rfl)
      · exact fin x3 (fun h => absurd h s0) (by rw [if_neg s0, if_neg s1]; rfl) (by rw [if_neg s0, if_neg s1]; rfl)
  · obtain ⟨n1, n2⟩ := neg_v hv
    rw [e1, bR_t, if_neg n1, e2, bR_t, if_neg n2]; exact no v
