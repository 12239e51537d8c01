theorem LAY_keep {σ r r' : Int → Int} {w l w' l' : Int → Int64} {i : Nat} {c : Int} (h : LAY σ r w l i) (hc : ∀ x : Int, x ≠ c → r' x = r x ∧ w' x = w x ∧ l' x = l x) (hne : ∀ v : Int, 0 ≤ v → v < 64 → 64 * (σ 9 - 1 - (i : Int)) + v ≠ c) : LAY σ r' w' l' i := by
  intro v h1 h2
  have k := hc _ (hne v h1 h2)
  rw [k.1, k.2.1, k.2.2]
  exact h v h1 h2
def LAYK (σ r : Int → Int) (w l : Int → Int64) (j : Nat) (b : Int) (k : Nat) : Prop := ∀ v : Int, 0 ≤ v → v < (k : Int) → w (64 * b + v) = lW (WW σ j v) ∧ (sd σ v (ntj σ j) = true → r (64 * b + v) = RR σ j v ∧ l (64 * b + v) = TT σ j v)
theorem LAYK_0 {σ r : Int → Int} {w l : Int → Int64} {j : Nat} {b : Int} : LAYK σ r w l j b 0 := fun v h1 h2 => by omega
theorem LAYK_n {σ r : Int → Int} {w l : Int → Int64} {j : Nat} {b : Int} {k : Nat} (h : LAYK σ r w l j b k) (hs : ¬ sd σ (k : Int) (ntj σ j) = true) : LAYK σ r (upI w (64 * b + (k : Int)) 0) l j b (k + 1) := by
  intro v h1 h2
  by_cases hv : v = (k : Int)
  · subst hv
    rw [upI_s]
    refine ⟨?_, fun q => absurd q hs⟩
    unfold WW
    rw [if_neg hs, lW_0]
  · rw [upI_n (by omega)]
    exact h v h1 (by omega)
theorem LAYK_y {σ r r' : Int → Int} {w l w' l' : Int → Int64} {j : Nat} {b : Int} {k : Nat} (h : LAYK σ r w l j b k) (hs : sd σ (k : Int) (ntj σ j) = true) (hc : ∀ x : Int, x ≠ 64 * b + (k : Int) → r' x = r x ∧ w' x = w x ∧ l' x = l x) (e1 : r' (64 * b + (k : Int)) = RR σ j (k : Int)) (e2 : w' (64 * b + (k : Int)) = lW (PR σ j)) (e3 : l' (64 * b + (k : Int)) = TT σ j (k : Int)) : LAYK σ r' w' l' j b (k + 1) := by
  intro v h1 h2
  by_cases hv : v = (k : Int)
  · subst hv
    refine ⟨?_, fun _ => ⟨e1, e3⟩⟩
    rw [e2]
    unfold WW
    rw [if_pos hs]
  · have q := hc (64 * b + v) (by omega)
    rw [q.1, q.2.1, q.2.2]
    exact h v h1 (by omega)
theorem LAY_of {σ r : Int → Int} {w l : Int → Int64} {j : Nat} {b : Int} (hb : b = σ 9 - 1 - (j : Int)) (h : LAYK σ r w l j b 64) : LAY σ r w l j := by
  intro v h1 h2
  rw [← hb]
  exact h v h1 h2
theorem fnd_char (q : Int → Bool) (N : Nat) : ((∀ k : Nat, k < N → ¬ q (k : Int) = true) ∧ fnd q N = -6) ∨ (∃ k : Nat, k < N ∧ q (k : Int) = true ∧ fnd q N = (k : Int) ∧ ∀ i : Nat, i < k → ¬ q (i : Int) = true) := by
  induction N with
  | zero => exact Or.inl ⟨fun k h => by omega, rfl⟩
  | succ N ih =>
    rcases ih with ⟨h1, h2⟩ | ⟨k, hk, hq, he, hm⟩
    · by_cases hN : q (N : Int) = true
      · exact Or.inr ⟨N, by omega, hN, fnd_y h2 hN _ (by omega), h1⟩
      · refine Or.inl ⟨fun k hk => ?_, fnd_n h2 hN⟩
        by_cases hkN : k = N
        · subst hkN; exact hN
        · exact h1 k (by omega)
    · exact Or.inr ⟨k, by omega, hq, by simp [fnd, he], hm⟩
abbrev qN (σ : Int → Int) (j : Nat) (q a d : Int) : Int → Bool := fun v => decide (0 < WW σ j v) && decide ((if q = 0 then 0 else eff σ a v) + RR σ j v = d)
abbrev jP (σ : Int → Int) (p : Nat) : Nat := (σ 9 - 1 - (p : Int)).toNat
def wayAt (σ : Int → Int) : Nat → Int
  | 0 => fnd (qN σ (jP σ 0) 0 0 (LEAST σ)) 64
  | p + 1 => fnd (qN σ (jP σ (p + 1)) ((p : Int) + 1) (wayAt σ p) (RR σ (jP σ p) (wayAt σ p) - flt σ (wayAt σ p) (σ (10 + (p : Int))))) 64
def A_least (σ : Int → Int) (i : Int) : Int := if i < -1 then -2 else if i = -1 then LEAST σ else if LEAST σ < 0 ∨ σ 9 ≤ i then -6 else wayAt σ i.toNat
theorem LEAST_in {σ : Int → Int} (hO : Ok σ) : -6 ≤ LEAST σ ∧ LEAST σ ≤ 53352 := by
  have o9 := hO.2.2.2.2.2.2.2.2.2.1
  unfold LEAST
  split
  · omega
  · exact mbs_in (M := 53352) (by omega) 64 (fun k hk hq => by
      have h := RR_in hO (σ 9 - 1).toNat (by omega) (k : Int) (by omega)
      have h2 := h.2 (of_decide_eq_true hq)
      omega) 64 (by omega)
theorem RR_s (σ : Int → Int) (j : Nat) (w : Int) : RR σ (j + 1) w = mbs (qW σ j) (fun v => flt σ w (ntj σ (j + 1)) + eff σ w v + RR σ j v) (-6) 64 := rfl
theorem wayAt_0 (σ : Int → Int) : wayAt σ 0 = fnd (qN σ (jP σ 0) 0 0 (LEAST σ)) 64 := rfl
theorem wayAt_s (σ : Int → Int) (p : Nat) : wayAt σ (p + 1) = fnd (qN σ (jP σ (p + 1)) ((p : Int) + 1) (wayAt σ p) (RR σ (jP σ p) (wayAt σ p) - flt σ (wayAt σ p) (σ (10 + (p : Int))))) 64 := rfl
theorem wayAt_ok {σ : Int → Int} (hO : Ok σ) (hL : 0 ≤ LEAST σ) : ∀ p : Nat, (p : Int) < σ 9 → (0 ≤ wayAt σ p ∧ wayAt σ p < 64) ∧ 0 < WW σ (jP σ p) (wayAt σ p) := by
  intro p
  induction p with
  | zero =>
    intro hp
    have hj : (σ 9 - 1).toNat = jP σ 0 := by unfold jP; congr 1; omega
    rcases fnd_char (qN σ (jP σ 0) 0 0 (LEAST σ)) 64 with ⟨h1, h2⟩ | ⟨k, hk, hq, he, _⟩
    · exfalso
      have hlt : ((jP σ 0 : Nat) : Int) < σ 9 := by unfold jP; omega
      have e : LEAST σ = mbs (qW σ (jP σ 0)) (RR σ (jP σ 0)) (-6) 64 := by unfold LEAST; rw [if_neg (by omega), hj]
      rcases mbs_char (q := qW σ (jP σ 0)) (f := RR σ (jP σ 0)) 64 (fun k hk hq => (RR_in hO _ hlt (k : Int) (by omega)).2 (of_decide_eq_true hq)) with ⟨_, h4⟩ | ⟨⟨k, hk, hq, h4⟩, _⟩
      · omega
      · apply h1 k hk
        simp only [qN, Bool.and_eq_true]
        exact ⟨hq, decide_eq_true (by rw [if_pos trivial]; omega)⟩
    · simp only [qN, Bool.and_eq_true] at hq
      rw [wayAt_0]
      rw [he]
      exact ⟨by omega, of_decide_eq_true hq.1⟩
  | succ p ih =>
    intro hp
    have ih := ih (by omega)
    have hj : jP σ p = jP σ (p + 1) + 1 := by unfold jP; omega
    have hlt : ((jP σ (p + 1) : Nat) : Int) < σ 9 := by unfold jP; omega
    rcases fnd_char (qN σ (jP σ (p + 1)) ((p : Int) + 1) (wayAt σ p) (RR σ (jP σ p) (wayAt σ p) - flt σ (wayAt σ p) (σ (10 + (p : Int))))) 64 with ⟨h1, h2⟩ | ⟨k, hk, hq, he, _⟩
    · exfalso
      have hn : ntj σ (jP σ p) = σ (10 + (p : Int)) := by unfold ntj; rw [show 10 + (σ 9 - 1 - ((jP σ p : Nat) : Int)) = 10 + (p : Int) by unfold jP; omega]
      have hW := ih.2
      have hR0 := (RR_in hO (jP σ p) (by unfold jP; omega) (wayAt σ p) ih.1).2 hW
      have e : RR σ (jP σ p) (wayAt σ p) = mbs (qW σ (jP σ (p + 1))) (fun v => flt σ (wayAt σ p) (ntj σ (jP σ p)) + eff σ (wayAt σ p) v + RR σ (jP σ (p + 1)) v) (-6) 64 := by
        rw [hj, RR_s]
      have hf := flt_in hO (w := wayAt σ p) (n := ntj σ (jP σ p)) ih.1 (ntj_in hO (by unfold jP; omega))
      rcases mbs_char (q := qW σ (jP σ (p + 1))) (f := fun v => flt σ (wayAt σ p) (ntj σ (jP σ p)) + eff σ (wayAt σ p) v + RR σ (jP σ (p + 1)) v) 64 (fun k hk hq => by
          have a1 := (RR_in hO _ hlt (k : Int) (by omega)).2 (of_decide_eq_true hq)
          have a2 := eff_in hO (a := wayAt σ p) (b := (k : Int)) ih.1 (by omega)
          show 0 ≤ flt σ (wayAt σ p) (ntj σ (jP σ p)) + eff σ (wayAt σ p) (k : Int) + RR σ (jP σ (p + 1)) (k : Int)
          omega) with ⟨_, h4⟩ | ⟨⟨k, hk, hq, h4⟩, _⟩
      · omega
      · apply h1 k hk
        simp only [qN, Bool.and_eq_true]
        refine ⟨hq, decide_eq_true ?_⟩
        rw [if_neg (by omega), e, h4, hn]
        omega
    · simp only [qN, Bool.and_eq_true] at hq
      rw [wayAt_s]
      rw [he]
      exact ⟨by omega, of_decide_eq_true hq.1⟩
/-! what goes ahead of a way -/
def AH (σ : Int → Int) : Nat → Int → Int
  | 0, w => if sd σ w (σ (10 + ((0 : Nat) : Int))) = true then 0 else -6
  | p + 1, w => if sd σ w (σ (10 + ((p + 1 : Nat) : Int))) = true then mbs (fun v => decide (0 ≤ AH σ p v)) (fun v => AH σ p v + flt σ v (σ (10 + (p : Int))) + eff σ v w) (-6) 64 else -6
theorem AH_in {σ : Int → Int} (hO : Ok σ) : ∀ p : Nat, (p : Int) < σ 9 → ∀ w : Int, 0 ≤ w ∧ w < 64 → -6 ≤ AH σ p w ∧ AH σ p w ≤ 4446 * (p : Int) := by
  have o9 := hO.2.2.2.2.2.2.2.2.2.1
  intro p
  induction p with
  | zero => intro _ w _; simp only [AH]; split <;> omega
  | succ p ih =>
    intro hp w hw
    have ih := ih (by omega)
    simp only [AH]
    split
    · exact mbs_in (M := 4446 * ((p + 1 : Nat) : Int)) (by omega) 64 (fun k hk hq => by
        have a1 := ih (k : Int) (by omega)
        have a2 := flt_in hO (w := (k : Int)) (n := σ (10 + (p : Int))) (by omega) (hO.2.2.2.2.2.2.2.2.2.2 (p : Int) (by omega) (by omega))
        have a3 := eff_in hO (a := (k : Int)) (b := w) (by omega) hw
        have a4 := of_decide_eq_true hq
        omega) 64 (by omega)
    · omega
def cntAt (σ : Int → Int) (p : Nat) (d : Int) : Int := cnt (fun v => decide (0 ≤ AH σ p v) && (decide (0 < WW σ (jP σ p) v) && decide (AH σ p v + RR σ (jP σ p) v = d))) 64
def sumL (q : Int → Bool) (g : Int → Int64) : Nat → Int64
  | 0 => 0
  | k + 1 => if q (k : Int) = true then sumL q g k + g (k : Int) else sumL q g k
theorem sumL_s {q : Int → Bool} {g : Int → Int64} {k : Nat} {z : Int64} (e : z = sumL q g k) : sumL q g (k + 1) = if q (k : Int) = true then z + g (k : Int) else z := by subst e; rfl
def A_plans (σ : Int → Int) (q : Int) : Int64 := if 0 ≤ q ∧ q ≤ 1 then (if σ 9 = 0 then 1 else sumL (qW σ (jP σ 0)) (fun v => if q = 0 then lW (WW σ (jP σ 0) v) else if RR σ (jP σ 0) v = LEAST σ then TT σ (jP σ 0) v else 0) 64) else if 10 ≤ q ∧ q ≤ 21 then (if LEAST σ < 0 then -6 else if 0 ≤ q - 10 ∧ q - 10 ≤ σ 9 - 1 then lW (cntAt σ (q - 10).toNat (LEAST σ)) else -6) else -2
