/-! the planner's rows beside the tables RR, TT -/
abbrev jQ (σ : Int → Int) (r : Int) : Nat := (σ 9 - 1 - r).toNat
abbrev cP (σ : Int → Int) (r : Int) : Int := cnt (fun w => sd σ w (σ (10 + r))) 64
def WO1 (σ gf gW : Int → Int) (n : Int) : Prop := ∀ r : Int, 0 ≤ r → r < n → gf r = cP σ r ∧ ∀ i : Int, 0 ≤ i → i < cP σ r → gW (8 * r + i) = nw σ (σ (10 + r)) i
def WO2K (σ gb go : Int → Int) (gt : Int → Int64) (r n : Int) : Prop := ∀ i : Int, 0 ≤ i → i < n → (0 ≤ go (8 * r + i) ∧ go (8 * r + i) ≤ 1004320) ∧ (0 ≤ gb (8 * r + i) ∧ gb (8 * r + i) ≤ 1000000) ∧ (0 < PR σ (jQ σ r) → go (8 * r + i) = RR σ (jQ σ r) (nw σ (σ (10 + r)) i) ∧ gb (8 * r + i) + flt σ (nw σ (σ (10 + r)) i) (σ (10 + r)) = RR σ (jQ σ r) (nw σ (σ (10 + r)) i) ∧ gt (8 * r + i) = TT σ (jQ σ r) (nw σ (σ (10 + r)) i))
abbrev WO2 (σ gb go : Int → Int) (gt : Int → Int64) (r : Int) : Prop := WO2K σ gb go gt r (cP σ r)
theorem scan_eq {q : Int → Bool} {F f : Int → Int} {T T' : Int → Int64} {c : Int} (N : Nat) (hf : ∀ k : Nat, k < N → q (k : Int) = true → F (k : Int) = c + f (cnt q k) ∧ T (k : Int) = T' (cnt q k) ∧ 0 ≤ f (cnt q k) ∧ f (cnt q k) < 1000000) (hc : 0 ≤ c) :
    ∀ k : Nat, k ≤ N → (mbs q F (-6) k = if cnt q k = 0 then -6 else c + cmin f (cnt q k).toNat) ∧ tie q F T k = ctie f T' (cnt q k).toNat ∧ 0 ≤ cmin f (cnt q k).toNat := by
  intro k
  induction k with
  | zero => intro _; exact ⟨rfl, rfl, by show (0 : Int) ≤ 1000000; omega⟩
  | succ k ih =>
    intro hk
    obtain ⟨i1, i2, i3⟩ := ih (by omega)
    by_cases hq : q (k : Int) = true
    · obtain ⟨f1, f2, f3, f4⟩ := hf k (by omega) hq
      have hn := cnt_in q k
      have hc1 : cnt q (k + 1) = cnt q k + 1 := cnt_y hq
      have ht : (cnt q (k + 1)).toNat = (cnt q k).toNat + 1 := by omega
      have hcast : (((cnt q k).toNat : Nat) : Int) = cnt q k := by omega
      have m1 := cmin_s (f := f) (i := (cnt q k).toNat) rfl
      have m2 := ctie_s (f := f) (T := T') (i := (cnt q k).toNat) rfl rfl
      rw [hcast] at m1 m2
      rw [mbs_s rfl, tie_s rfl rfl, if_pos hq, if_pos hq, ht, m1, m2, if_neg (show ¬ cnt q (k + 1) = 0 by omega)]
      by_cases h0 : cnt q k = 0
      · rw [if_pos h0] at i1
        have e0 : (cnt q k).toNat = 0 := by omega
        have e1 : cmin f (cnt q k).toNat = 1000000 := by rw [e0]; rfl
        rw [i1, if_pos (Or.inl (by omega)), if_pos (Or.inl (by omega)), e1, if_pos f4, if_pos f4]
        exact ⟨f1, f2, f3⟩
      · rw [if_neg h0] at i1
        by_cases hlt : f (cnt q k) < cmin f (cnt q k).toNat
        · rw [i1, if_pos (Or.inr (by omega)), if_pos (Or.inr (by omega)), if_pos hlt, if_pos hlt]
          exact ⟨f1, f2, f3⟩
        · have n1 : ¬ (c + cmin f (cnt q k).toNat < 0 ∨ F (k : Int) < c + cmin f (cnt q k).toNat) := by omega
          rw [i1, if_neg n1, if_neg n1, if_neg hlt, if_neg hlt]
          refine ⟨rfl, ?_, i3⟩
          by_cases he : f (cnt q k) = cmin f (cnt q k).toNat
          · have e1 : F (k : Int) = c + cmin f (cnt q k).toNat := by omega
            rw [if_pos e1, if_pos he, i2, f2]
          · have e1 : ¬ F (k : Int) = c + cmin f (cnt q k).toNat := by omega
            rw [if_neg e1, if_neg he, i2]
    · rw [mbs_s rfl, tie_s rfl rfl, if_neg hq, if_neg hq, cnt_n hq]
      exact ⟨i1, i2, i3⟩
theorem qW_sd {σ : Int → Int} {j : Nat} (h : 0 < PR σ j) : qW σ j = fun v => sd σ v (ntj σ j) := by
  funext v
  unfold qW WW
  by_cases hs : sd σ v (ntj σ j) = true
  · rw [if_pos hs, hs]; exact decide_eq_true h
  · rw [if_neg hs]
    have : sd σ v (ntj σ j) = false := by simpa using hs
    rw [this]; rfl
theorem ntj_r {σ : Int → Int} {r : Int} (hr : r < σ 9) : ntj σ (jQ σ r) = σ (10 + r) := by
  unfold ntj
  rw [show 10 + (σ 9 - 1 - ((jQ σ r : Nat) : Int)) = 10 + r by unfold jQ; omega]
theorem cnt_lt {q : Int → Bool} {k N : Nat} (hk : k < N) (hq : q (k : Int) = true) : cnt q k < cnt q N := by
  have h := cnt_mono q (i := k + 1) (j := N) (by omega)
  rw [cnt_y hq] at h
  omega
theorem wg_ok {σ gf gW gb go : Int → Int} {gt : Int → Int64} (hO : Ok σ) (h1 : WO1 σ gf gW (σ 9)) {r i : Int} (hr : 0 ≤ r ∧ r < σ 9) (hi : 0 ≤ i ∧ i < cP σ r) (h2 : r + 1 < σ 9 → WO2 σ gb go gt (r + 1)) :
    (0 ≤ wC σ gf gW go (8 * r + i) r ∧ wC σ gf gW go (8 * r + i) r ≤ 1000000) ∧ (0 < PR σ (jQ σ r) → wC σ gf gW go (8 * r + i) r + flt σ (nw σ (σ (10 + r)) i) (σ (10 + r)) = RR σ (jQ σ r) (nw σ (σ (10 + r)) i) ∧ wT σ gf gW go gt (8 * r + i) r = TT σ (jQ σ r) (nw σ (σ (10 + r)) i)) := by
  have o9 := hO.2.2.2.2.2.2.2.2.2.1
  obtain ⟨k0, hk0, hs0, hc0, hw0⟩ := nw_in (σ := σ) (n := σ (10 + r)) i hi.1 hi.2
  have hW := (h1 r hr.1 hr.2).2 i hi.1 hi.2
  have hn0 := ntj_r (σ := σ) hr.2
  generalize hwe : nw σ (σ (10 + r)) i = w at hw0 hW ⊢
  have hw6 : 0 ≤ w ∧ w < 64 := by omega
  by_cases hl : r + 1 < σ 9
  · have g2 := h2 hl
    have g1 := h1 (r + 1) (by omega) hl
    have hfb : ∀ x : Int, 0 ≤ x → x < cP σ (r + 1) → wF σ gW go (8 * r + i) r x = eff σ w (nw σ (σ (10 + (r + 1))) x) + go (8 * (r + 1) + x) := by
      intro x h0 h3
      unfold wF
      rw [hW, g1.2 x h0 h3]
    have hpos : ∀ x : Int, 0 ≤ x → x < cP σ (r + 1) → 0 ≤ wF σ gW go (8 * r + i) r x := by
      intro x h0 h3
      obtain ⟨kx, a1, a2, a3, a4⟩ := nw_in (σ := σ) (n := σ (10 + (r + 1))) x h0 h3
      have b1 := (g2 x h0 h3).1
      have b2 := eff_in hO (a := w) (b := nw σ (σ (10 + (r + 1))) x) hw6 (by omega)
      rw [hfb x h0 h3]
      omega
    have hcn := cnt_in (fun w => sd σ w (σ (10 + (r + 1)))) 64
    unfold wC wT
    rw [if_pos hl, if_pos hl, g1.1]
    refine ⟨cmin_in _ (fun x hx => hpos (x : Int) (by omega) (by omega)), fun hPR => ?_⟩
    have hj : jQ σ r = jQ σ (r + 1) + 1 := by unfold jQ; omega
    have hn1 := ntj_r (σ := σ) hl
    rw [hj] at hPR
    have hcj := cj_in hO (jQ σ (r + 1))
    have hPj := (PR_in hO (jQ σ (r + 1))).1
    have hPR' : 0 < cj σ (jQ σ (r + 1)) * PR σ (jQ σ (r + 1)) := hPR
    have hP1 : 0 < PR σ (jQ σ (r + 1)) := by
      rcases Int.lt_or_eq_of_le hPj with h | h
      · exact h
      · rw [← h] at hPR'; simp at hPR'
    have hC1 : cj σ (jQ σ (r + 1)) ≠ 0 := by
      intro h
      rw [h] at hPR'; simp at hPR'
    have hsc := scan_eq (q := fun v => sd σ v (ntj σ (jQ σ (r + 1)))) (F := fun v => flt σ w (ntj σ (jQ σ (r + 1) + 1)) + eff σ w v + RR σ (jQ σ (r + 1)) v) (f := wF σ gW go (8 * r + i) r) (T := TT σ (jQ σ (r + 1))) (T' := fun i => gt (8 * (r + 1) + i)) (c := flt σ w (ntj σ (jQ σ (r + 1) + 1))) 64 (fun k hk hq => by
      have hq2 : sd σ (k : Int) (σ (10 + (r + 1))) = true := by rw [← hn1]; exact hq
      have hx0 := (cnt_in (fun v => sd σ v (ntj σ (jQ σ (r + 1)))) k).1
      have hx1 := cnt_lt (q := fun v => sd σ v (ntj σ (jQ σ (r + 1)))) (N := 64) hk hq
      simp only [hn1] at hx0 hx1 ⊢
      have hz := nw_at (σ := σ) (n := σ (10 + (r + 1))) hk hq2
      have b := g2 _ hx0 hx1
      have b3 := b.2.2 hP1
      rw [hfb _ hx0 hx1, hz, b3.1, hz, b3.2.2, hz]
      have hWW : 0 < WW σ (jQ σ (r + 1)) (k : Int) := by unfold WW; rw [if_pos hq]; exact hP1
      have r1 := RR_in hO (jQ σ (r + 1)) (by unfold jQ; omega) (k : Int) (by omega)
      have r2 := r1.2 hWW
      have r3 := eff_in hO (a := w) (b := (k : Int)) hw6 (by omega)
      refine ⟨by omega, rfl, by omega, ?_⟩
      have : ((jQ σ (r + 1) : Nat) : Int) ≤ 12 := by unfold jQ; omega
      omega) (flt_in hO hw6 (ntj_in hO (by unfold jQ; omega))).1 64 (by omega)
    rw [hj, RR_s, qW_sd hP1]
    have hcnt : cnt (fun v => sd σ v (ntj σ (jQ σ (r + 1)))) 64 = cP σ (r + 1) := by rw [hn1]
    have hcne : ¬ cnt (fun v => sd σ v (ntj σ (jQ σ (r + 1)))) 64 = 0 := hC1
    refine ⟨?_, ?_⟩
    · rw [hsc.1, if_neg hcne, hcnt, ← hj, hn0]
      omega
    · have e : TT σ (jQ σ (r + 1) + 1) w = tie (qW σ (jQ σ (r + 1))) (fun v => flt σ w (ntj σ (jQ σ (r + 1) + 1)) + eff σ w v + RR σ (jQ σ (r + 1)) v) (TT σ (jQ σ (r + 1))) 64 := rfl
      rw [e, qW_sd hP1, hsc.2.1, hcnt]
  · unfold wC wT
    rw [if_neg hl, if_neg hl]
    refine ⟨by omega, fun _ => ?_⟩
    have hj : jQ σ r = 0 := by unfold jQ; omega
    rw [hj] at hn0 ⊢
    refine ⟨?_, rfl⟩
    show 0 + flt σ w (σ (10 + r)) = flt σ w (ntj σ 0)
    rw [hn0]
    omega
theorem WO1_s {σ gf gW u : Int → Int} (hO : Ok σ) {k : Nat} (h : WO1 σ gf gW (k : Int)) (h1 : ∀ c : Int, c < 8 * (k : Int) ∨ 8 * (k : Int) + 8 ≤ c → u c = gW c) (h2 : ∀ i : Int, 0 ≤ i → i < cP σ (k : Int) → u (8 * (k : Int) + i) = nw σ (σ (10 + (k : Int))) i) : WO1 σ (upI gf (k : Int) (cP σ (k : Int))) u ((k + 1 : Nat) : Int) := by
  intro r h0 h3
  by_cases hr : r = (k : Int)
  · subst hr
    rw [upI_s]
    exact ⟨rfl, h2⟩
  · rw [upI_n hr]
    have h4 := h r h0 (by omega)
    refine ⟨h4.1, fun i a b => ?_⟩
    have h8 : cP σ r ≤ 8 := cnt8 hO (σ (10 + r)) 64
    rw [h1 _ (by omega)]
    exact h4.2 i a b
theorem WO2_keep {σ gb go gb' go' : Int → Int} {gt gt' : Int → Int64} {r n c : Int} (h : WO2K σ gb go gt r n) (hc : ∀ x : Int, x ≠ c → gb' x = gb x ∧ go' x = go x ∧ gt' x = gt x) (hne : ∀ i : Int, 0 ≤ i → i < n → 8 * r + i ≠ c) : WO2K σ gb' go' gt' r n := by
  intro i h0 h1
  have k := hc _ (hne i h0 h1)
  rw [k.1, k.2.1, k.2.2]
  exact h i h0 h1
theorem WO2_s {σ gf gW gb go : Int → Int} {gt : Int → Int64} (hO : Ok σ) (h1 : WO1 σ gf gW (σ 9)) {r : Int} {i : Nat} (hr : 0 ≤ r ∧ r < σ 9) (hi : (i : Int) < cP σ r) (h2 : r + 1 < σ 9 → WO2 σ gb go gt (r + 1)) (h3 : WO2K σ gb go gt r (i : Int)) :
    WO2K σ (upI gb (8 * r + (i : Int)) (wC σ gf gW go (8 * r + (i : Int)) r)) (upI go (8 * r + (i : Int)) (wC σ gf gW go (8 * r + (i : Int)) r + flt σ (gW (8 * r + (i : Int))) (σ (10 + r)))) (upI gt (8 * r + (i : Int)) (wT σ gf gW go gt (8 * r + (i : Int)) r)) r ((i + 1 : Nat) : Int) := by
  intro x h0 hx
  by_cases hxi : x = (i : Int)
  · subst hxi
    rw [upI_s, upI_s, upI_s]
    have g := wg_ok hO h1 hr ⟨h0, hi⟩ h2
    have hW := (h1 r hr.1 hr.2).2 (i : Int) h0 hi
    obtain ⟨kx, a1, a2, a3, a4⟩ := nw_in (σ := σ) (n := σ (10 + r)) (i : Int) h0 hi
    have hF := flt_in hO (w := gW (8 * r + (i : Int))) (n := σ (10 + r)) (by rw [hW]; omega) (hO.2.2.2.2.2.2.2.2.2.2 r hr.1 (by have := hO.2.2.2.2.2.2.2.2.2.1; omega))
    refine ⟨by omega, g.1, fun hP => ?_⟩
    have g2 := g.2 hP
    rw [hW]
    exact ⟨g2.1, g2.1, g2.2⟩
  · rw [upI_n (by omega), upI_n (by omega), upI_n (by omega)]
    exact h3 x h0 (by omega)
theorem WO2_of {σ gb go : Int → Int} {gt : Int → Int64} {r pp n : Int} (hrp : r = pp) (h : WO2K σ gb go gt pp n) (hn : n = cP σ pp) : WO2 σ gb go gt r := by
  subst hrp
  subst hn
  exact h
theorem WO1_of {σ gf gW : Int → Int} {n m : Int} (h : WO1 σ gf gW n) (e : m = n) : WO1 σ gf gW m := by
  subst e
  exact h
