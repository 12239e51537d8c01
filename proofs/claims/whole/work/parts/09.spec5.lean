theorem AH_n {σ : Int → Int} {P : Nat} {w : Int} (h : ¬ sd σ w (σ (10 + (P : Int))) = true) : AH σ P w = -6 := by
  cases P with
  | zero => simp only [AH]; rw [if_neg h]
  | succ P => simp only [AH]; rw [if_neg h]
theorem AH_0y {σ : Int → Int} {w : Int} (h : sd σ w (σ (10 + ((0 : Nat) : Int))) = true) : AH σ 0 w = 0 := by
  simp only [AH]; rw [if_pos h]
theorem AH_sy {σ : Int → Int} {P : Nat} {w : Int} (h : sd σ w (σ (10 + ((P + 1 : Nat) : Int))) = true) : AH σ (P + 1) w = mbs (fun v => decide (0 ≤ AH σ P v)) (fun v => AH σ P v + flt σ v (σ (10 + (P : Int))) + eff σ v w) (-6) 64 := by
  simp only [AH]; rw [if_pos h]
