/-! the planner's answers beside the reference's -/
theorem cP_cj {σ : Int → Int} {r : Int} (hr : r < σ 9) : cP σ r = cj σ (jQ σ r) := by
  unfold cj
  rw [ntj_r hr]
theorem pm_PR {σ gf gW : Int → Int} (h1 : WO1 σ gf gW (σ 9)) (h9 : 0 ≤ σ 9) : pmI gf (σ 9).toNat = PR σ (σ 9).toNat := by
  have key : ∀ j : Nat, j ≤ (σ 9).toNat → pmI gf ((σ 9).toNat - j) * PR σ j = pmI gf (σ 9).toNat := by
    intro j
    induction j with
    | zero => intro _; simp [PR]
    | succ j ih =>
      intro hj
      have e := ih (by omega)
      obtain ⟨n, hn⟩ : ∃ n : Nat, (σ 9).toNat - j = n + 1 := ⟨(σ 9).toNat - j - 1, by omega⟩
      rw [hn] at e
      have hg : gf (n : Int) = cj σ j := by
        rw [(h1 (n : Int) (by omega) (by omega)).1, cP_cj (by omega), show jQ σ (n : Int) = j by unfold jQ; omega]
      rw [show (σ 9).toNat - (j + 1) = n by omega, ← e]
      simp only [pmI, PR]
      rw [hg, Int.mul_assoc]
  have e := key (σ 9).toNat (by omega)
  rw [Nat.sub_self] at e
  rw [← e]
  simp [pmI]
theorem PR_pos {σ : Int → Int} (hO : Ok σ) {j : Nat} : ∀ n : Nat, j ≤ n → 0 < PR σ n → 0 < PR σ j := by
  intro n
  induction n with
  | zero => intro h hp; rw [show j = 0 by omega]; exact hp
  | succ n ih =>
    intro h hp
    by_cases hj : j = n + 1
    · rw [hj]; exact hp
    · apply ih (by omega)
      have h0 := (PR_in hO n).1
      rcases Int.lt_or_eq_of_le h0 with h1 | h1
      · exact h1
      · have hp2 : 0 < cj σ n * PR σ n := hp
        rw [← h1] at hp2; simp at hp2
theorem cj_pos {σ : Int → Int} (hO : Ok σ) {n : Nat} (hp : 0 < PR σ (n + 1)) : 0 < cj σ n := by
  have h0 := (cj_in hO n).1
  rcases Int.lt_or_eq_of_le h0 with h1 | h1
  · exact h1
  · have hp2 : 0 < cj σ n * PR σ n := hp
    rw [← h1] at hp2; simp at hp2
theorem WW_pos {σ : Int → Int} {j : Nat} (hp : 0 < PR σ j) {v : Int} : 0 < WW σ j v ↔ sd σ v (ntj σ j) = true := by
  unfold WW
  by_cases h : sd σ v (ntj σ j) = true
  · rw [if_pos h]; exact ⟨fun _ => h, fun _ => hp⟩
  · rw [if_neg h]; exact ⟨fun q => by omega, fun q => absurd q h⟩
theorem no_WW {σ : Int → Int} (hO : Ok σ) {n : Nat} (hp : ¬ 0 < PR σ (n + 1)) (k : Nat) (hk : k < 64) : ¬ 0 < WW σ n (k : Int) := by
  intro h
  obtain ⟨hs, he⟩ := WW_sd h
  apply hp
  have h1 := cnt_lt (q := fun w => sd σ w (ntj σ n)) hk hs
  have h2 := (cnt_in (fun w => sd σ w (ntj σ n)) k).1
  have h3 : 0 < cj σ n := by unfold cj; omega
  rw [he] at h
  exact Int.mul_pos h3 h
theorem LEAST_no {σ : Int → Int} (hO : Ok σ) (hp : ¬ 0 < PR σ (σ 9).toNat) : LEAST σ = -6 ∧ σ 9 ≠ 0 := by
  have o9 := hO.2.2.2.2.2.2.2.2.2.1
  have h9 : σ 9 ≠ 0 := by
    intro h
    apply hp
    rw [h]
    simp [PR]
  refine ⟨?_, h9⟩
  have hn : (σ 9).toNat = (σ 9 - 1).toNat + 1 := by omega
  rw [hn] at hp
  unfold LEAST
  rw [if_neg h9]
  rcases mbs_char (q := qW σ (σ 9 - 1).toNat) (f := RR σ (σ 9 - 1).toNat) 64 (fun k hk hq => absurd (of_decide_eq_true hq) (no_WW hO hp k hk)) with ⟨_, h⟩ | ⟨⟨k, hk, hq, _⟩, _⟩
  · exact h
  · exact absurd (of_decide_eq_true hq) (no_WW hO hp k hk)
theorem go_at {σ gf gW gb go : Int → Int} {gt : Int → Int64} (hO : Ok σ) (h2 : ∀ r : Int, 0 ≤ r → r < σ 9 → WO2 σ gb go gt r) (hp : 0 < PR σ (σ 9).toNat) {r : Int} (hr : 0 ≤ r ∧ r < σ 9) {k : Nat} (hk : k < 64) (hs : sd σ (k : Int) (σ (10 + r)) = true) :
    go (8 * r + cnt (fun w => sd σ w (σ (10 + r))) k) = RR σ (jQ σ r) (k : Int) ∧ gb (8 * r + cnt (fun w => sd σ w (σ (10 + r))) k) + flt σ (k : Int) (σ (10 + r)) = RR σ (jQ σ r) (k : Int) ∧ gt (8 * r + cnt (fun w => sd σ w (σ (10 + r))) k) = TT σ (jQ σ r) (k : Int) := by
  have hx := cnt_lt (q := fun w => sd σ w (σ (10 + r))) hk hs
  have h0 := (cnt_in (fun w => sd σ w (σ (10 + r))) k).1
  have h := (h2 r hr.1 hr.2 _ h0 hx).2.2 (PR_pos hO _ (by unfold jQ; omega) hp)
  rw [nw_at hk hs] at h
  exact h
theorem LEAST_yes {σ gf gW gb go : Int → Int} {gt : Int → Int64} (hO : Ok σ) (h1 : WO1 σ gf gW (σ 9)) (h2 : ∀ r : Int, 0 ≤ r → r < σ 9 → WO2 σ gb go gt r) (hp : 0 < PR σ (σ 9).toNat) : LEAST σ = lcC (σ 9) gf go ∧ 0 ≤ LEAST σ := by
  have o9 := hO.2.2.2.2.2.2.2.2.2.1
  unfold LEAST lcC
  by_cases h9 : σ 9 = 0
  · rw [if_pos h9, if_pos h9]; omega
  · rw [if_neg h9, if_neg h9]
    have hr : (0 : Int) < σ 9 := by omega
    have hn := ntj_r (σ := σ) (r := 0) hr
    have hj : (σ 9 - 1).toNat = jQ σ 0 := by unfold jQ; omega
    have hP0 : 0 < PR σ (jQ σ 0) := PR_pos hO _ (by unfold jQ; omega) hp
    rw [hj, qW_sd hP0, (h1 0 (by omega) hr).1]
    have hsc := scan_eq (q := fun v => sd σ v (ntj σ (jQ σ 0))) (F := RR σ (jQ σ 0)) (f := go) (T := TT σ (jQ σ 0)) (T' := gt) (c := 0) 64 (fun k hk hq => by
      have hq2 : sd σ (k : Int) (σ (10 + 0)) = true := by rw [← hn]; exact hq
      have g := go_at (gf := gf) (gW := gW) hO h2 hp (r := 0) ⟨by omega, hr⟩ hk hq2
      rw [show ∀ x : Int, 8 * (0 : Int) + x = x from fun x => by omega] at g
      simp only [hn]
      rw [g.1, g.2.2]
      have r1 := RR_in hO (jQ σ 0) (by unfold jQ; omega) (k : Int) (by omega)
      have r2 := r1.2 ((WW_pos hP0).mpr hq)
      have : ((jQ σ 0 : Nat) : Int) ≤ 12 := by unfold jQ; omega
      exact ⟨by omega, rfl, r2, by omega⟩) (by omega) 64 (by omega)
    have hc0 : 0 < cnt (fun v => sd σ v (ntj σ (jQ σ 0))) 64 := by
      have hz := cj_pos hO (n := jQ σ 0) (by rw [show jQ σ 0 + 1 = (σ 9).toNat by unfold jQ; omega]; exact hp)
      exact hz
    have hcc : cnt (fun v => sd σ v (ntj σ (jQ σ 0))) 64 = cP σ 0 := by rw [hn]
    rw [hsc.1, if_neg (by omega), hcc]
    have hz := hsc.2.2
    rw [hcc] at hz
    exact ⟨by omega, by omega⟩
/-! first of those that count, by ways and by their places -/
theorem fnd_first {q : Int → Bool} {k N : Nat} (h : ∀ i : Nat, i < k → ¬ q (i : Int) = true) (hq : q (k : Int) = true) (hk : k < N) : fnd q N = (k : Int) := by
  refine fnd_y ?_ hq N hk
  have key : ∀ n : Nat, n ≤ k → fnd q n = -6 := by
    intro n
    induction n with
    | zero => intro _; rfl
    | succ n ih => intro hn; exact fnd_n (ih (by omega)) (h n (by omega))
  exact key k (by omega)
theorem fnd_tr {σ : Int → Int} {n : Int} {Pn Pi : Int → Bool} (hc : cnt (fun w => sd σ w n) 64 ≤ 8) (h1 : ∀ k : Nat, k < 64 → Pn (k : Int) = true → sd σ (k : Int) n = true) (h2 : ∀ i : Int, 0 ≤ i → Pi i = true → i < cnt (fun w => sd σ w n) 64) (h3 : ∀ k : Nat, k < 64 → sd σ (k : Int) n = true → Pi (cnt (fun w => sd σ w n) k) = Pn (k : Int)) :
    (fnd Pn 64 = -6 ∧ fnd Pi 8 = -6) ∨ ∃ k : Nat, k < 64 ∧ sd σ (k : Int) n = true ∧ fnd Pn 64 = (k : Int) ∧ fnd Pi 8 = cnt (fun w => sd σ w n) k := by
  have back : ∀ i : Nat, Pi (i : Int) = true → ∃ k : Nat, k < 64 ∧ sd σ (k : Int) n = true ∧ cnt (fun w => sd σ w n) k = (i : Int) ∧ Pn (k : Int) = true := by
    intro i hi
    obtain ⟨k, a, b, c, _⟩ := nw_in (σ := σ) (n := n) (i : Int) (by omega) (h2 _ (by omega) hi)
    exact ⟨k, a, b, c, by rw [← h3 k a b, c]; exact hi⟩
  rcases fnd_char Pn 64 with ⟨g1, g2⟩ | ⟨k, hk, hq, he, hm⟩
  · left
    refine ⟨g2, ?_⟩
    rcases fnd_char Pi 8 with ⟨_, g3⟩ | ⟨i, _, hi, _, _⟩
    · exact g3
    · obtain ⟨k, a, _, _, d⟩ := back i hi
      exact absurd d (g1 k a)
  · right
    have hs := h1 k hk hq
    refine ⟨k, hk, hs, he, ?_⟩
    have c0 := (cnt_in (fun w => sd σ w n) k).1
    have c1 := cnt_lt (q := fun w => sd σ w n) hk hs
    have hcast : (((cnt (fun w => sd σ w n) k).toNat : Nat) : Int) = cnt (fun w => sd σ w n) k := by omega
    rw [← hcast]
    refine fnd_first ?_ (by rw [hcast, h3 k hk hs]; exact hq) (by omega)
    intro i hi hPi
    obtain ⟨k2, a, b, c, d⟩ := back i hPi
    by_cases hlt : k2 < k
    · exact hm k2 hlt d
    · have := cnt_mono (fun w => sd σ w n) (i := k) (j := k2) (by omega)
      omega
theorem any_one {g : Int → Bool} {a : Int} : ∀ n : Nat, 0 ≤ a → a < (n : Int) → anyB (fun i => decide (i = a) && g i) n = g a := by
  have none : ∀ n : Nat, (n : Int) ≤ a → anyB (fun i => decide (i = a) && g i) n = false := by
    intro n
    induction n with
    | zero => intro _; rfl
    | succ n ih =>
      intro h
      simp only [anyB]
      rw [ih (by omega), decide_eq_false (by omega)]
      rfl
  intro n
  induction n with
  | zero => intro h0 h1; omega
  | succ n ih =>
    intro h0 h1
    simp only [anyB]
    by_cases hn : (n : Int) = a
    · rw [none n (by omega), decide_eq_true hn, hn]; simp
    · rw [ih h0 (by omega), decide_eq_false hn]; simp
theorem LM_ok {σ gf gW gb go : Int → Int} {gt : Int → Int64} (hO : Ok σ) (h1 : WO1 σ gf gW (σ 9)) (h2 : ∀ r : Int, 0 ≤ r → r < σ 9 → WO2 σ gb go gt r) (hp : 0 < PR σ (σ 9).toNat) : ∀ p : Nat, (p : Int) < σ 9 → ∃ k : Nat, k < 64 ∧ sd σ (k : Int) (σ (10 + (p : Int))) = true ∧ wayAt σ p = (k : Int) ∧ LM σ (σ 9) gf gW gb go p = cnt (fun w => sd σ w (σ (10 + (p : Int)))) k := by
  obtain ⟨hL, hL0⟩ := LEAST_yes (gb := gb) (gt := gt) hO h1 h2 hp
  intro p
  induction p with
  | zero =>
    intro hp9
    have hn := ntj_r (σ := σ) (r := ((0 : Nat) : Int)) hp9
    have hP0 : 0 < PR σ (jP σ 0) := PR_pos hO _ (by unfold jP; omega) hp
    have hw := wayAt_ok hO hL0 0 hp9
    have g1 := h1 ((0 : Nat) : Int) (by omega) hp9
    rcases fnd_tr (σ := σ) (n := σ (10 + ((0 : Nat) : Int))) (Pn := qN σ (jP σ 0) 0 0 (LEAST σ)) (Pi := mk0 (σ 9) gf go) (cnt8 hO _ 64) (fun k _ h => by
        simp only [qN, Bool.and_eq_true] at h
        have := (WW_pos hP0).mp (of_decide_eq_true h.1)
        rw [← hn]; exact this) (fun i _ h => by
        simp only [mk0, Bool.and_eq_true] at h
        have h5 := of_decide_eq_true h.1
        show i < cP σ ((0 : Nat) : Int)
        rw [← g1.1]; exact h5) (fun k hk hs => by
        have g := go_at (gf := gf) (gW := gW) hO h2 hp (r := ((0 : Nat) : Int)) ⟨by omega, hp9⟩ hk hs
        have e : go (cnt (fun w => sd σ w (σ (10 + ((0 : Nat) : Int)))) k) = RR σ (jP σ 0) (k : Int) := by rw [← g.1]; congr 1; omega
        have c1 := cnt_lt (q := fun w => sd σ w (σ (10 + ((0 : Nat) : Int)))) hk hs
        simp only [mk0, qN]
        rw [e, decide_eq_true (show cnt (fun w => sd σ w (σ (10 + ((0 : Nat) : Int)))) k < gf 0 by have := g1.1; show _ < gf ((0 : Nat) : Int); rw [this]; exact c1), decide_eq_true ((WW_pos hP0).mpr (by rw [show ntj σ (jP σ 0) = σ (10 + ((0 : Nat) : Int)) from hn]; exact hs)), ← hL]
        simp) with ⟨a, _⟩ | ⟨k, hk, hs, a, b⟩
    · rw [wayAt_0, a] at hw; omega
    · exact ⟨k, hk, hs, by rw [wayAt_0]; exact a, b⟩
  | succ p ih =>
    intro hp9
    obtain ⟨k0, hk0, hs0, hw0, hl0⟩ := ih (by omega)
    have hn := ntj_r (σ := σ) (r := ((p + 1 : Nat) : Int)) hp9
    have hP0 : 0 < PR σ (jP σ (p + 1)) := PR_pos hO _ (by unfold jP; omega) hp
    have hw := wayAt_ok hO hL0 (p + 1) hp9
    have g1 := h1 ((p + 1 : Nat) : Int) (by omega) hp9
    have g0 := h1 (p : Int) (by omega) (by omega)
    have c00 := (cnt_in (fun w => sd σ w (σ (10 + (p : Int)))) k0).1
    have c01 := cnt_lt (q := fun w => sd σ w (σ (10 + (p : Int)))) hk0 hs0
    have c02 : cnt (fun w => sd σ w (σ (10 + (p : Int)))) k0 < cP σ (p : Int) := c01
    have gg := go_at (gf := gf) (gW := gW) hO h2 hp (r := (p : Int)) ⟨by omega, by omega⟩ hk0 hs0
    have gw0 : gW (8 * (p : Int) + cnt (fun w => sd σ w (σ (10 + (p : Int)))) k0) = (k0 : Int) := by rw [g0.2 _ c00 c01, nw_at hk0 hs0]
    rcases fnd_tr (σ := σ) (n := σ (10 + ((p + 1 : Nat) : Int))) (Pn := qN σ (jP σ (p + 1)) ((p : Int) + 1) (wayAt σ p) (RR σ (jP σ p) (wayAt σ p) - flt σ (wayAt σ p) (σ (10 + (p : Int))))) (Pi := mkN σ gf gW gb go (fun i => decide (i = LM σ (σ 9) gf gW gb go p)) (p : Int)) (cnt8 hO _ 64) (fun k _ h => by
        simp only [qN, Bool.and_eq_true] at h
        have := (WW_pos hP0).mp (of_decide_eq_true h.1)
        rw [← hn]; exact this) (fun i _ h => by
        simp only [mkN, Bool.and_eq_true] at h
        have h5 := of_decide_eq_true h.1
        show i < cP σ ((p + 1 : Nat) : Int)
        rw [← g1.1]; exact h5) (fun k hk hs => by
        have g := go_at (gf := gf) (gW := gW) hO h2 hp (r := ((p + 1 : Nat) : Int)) ⟨by omega, hp9⟩ hk hs
        have c0 := (cnt_in (fun w => sd σ w (σ (10 + ((p + 1 : Nat) : Int)))) k).1
        have c1 := cnt_lt (q := fun w => sd σ w (σ (10 + ((p + 1 : Nat) : Int)))) hk hs
        have gw1 : gW (8 * ((p : Int) + 1) + cnt (fun w => sd σ w (σ (10 + ((p + 1 : Nat) : Int)))) k) = (k : Int) := (g1.2 _ c0 c1).trans (nw_at hk hs)
        have e : go (8 * ((p : Int) + 1) + cnt (fun w => sd σ w (σ (10 + ((p + 1 : Nat) : Int)))) k) = RR σ (jP σ (p + 1)) (k : Int) := g.1
        simp only [mkN, qN]
        rw [any_one (g := fun i => decide (eff σ (gW (8 * (p : Int) + i)) (gW (8 * ((p : Int) + 1) + cnt (fun w => sd σ w (σ (10 + ((p + 1 : Nat) : Int)))) k)) + go (8 * ((p : Int) + 1) + cnt (fun w => sd σ w (σ (10 + ((p + 1 : Nat) : Int)))) k) = gb (8 * (p : Int) + i))) (gf (p : Int)).toNat (by rw [hl0]; exact c00) (by rw [hl0, g0.1]; omega)]
        rw [hl0, gw0, gw1, e, hw0, decide_eq_true (show cnt (fun w => sd σ w (σ (10 + ((p + 1 : Nat) : Int)))) k < gf ((p : Int) + 1) by have := g1.1; show _ < gf ((p + 1 : Nat) : Int); rw [this]; exact c1), decide_eq_true ((WW_pos hP0).mpr (by rw [show ntj σ (jP σ (p + 1)) = σ (10 + ((p + 1 : Nat) : Int)) from hn]; exact hs)), Bool.true_and, Bool.true_and, if_neg (show ¬ (p : Int) + 1 = 0 by omega)]
        apply decide_eq_decide.mpr
        have e2 : gb (8 * (p : Int) + cnt (fun w => sd σ w (σ (10 + (p : Int)))) k0) + flt σ (k0 : Int) (σ (10 + (p : Int))) = RR σ (jP σ p) (k0 : Int) := gg.2.1
        omega) with ⟨a, _⟩ | ⟨k, hk, hs, a, b⟩
    · rw [wayAt_s, a] at hw; omega
    · exact ⟨k, hk, hs, by rw [wayAt_s]; exact a, by rw [LM_s]; exact b⟩

/-! ways on a plan of the least cost -/
theorem RR_le {σ : Int → Int} (hO : Ok σ) (hp : 0 < PR σ (σ 9).toNat) {p : Nat} (hp9 : ((p + 1 : Nat) : Int) < σ 9) {w : Int} (hw : 0 ≤ w ∧ w < 64) {v : Nat} (hv : v < 64) (hs : sd σ (v : Int) (σ (10 + ((p + 1 : Nat) : Int))) = true) : RR σ (jP σ p) w ≤ flt σ w (σ (10 + (p : Int))) + eff σ w (v : Int) + RR σ (jP σ (p + 1)) (v : Int) := by
  have hj : jP σ p = jP σ (p + 1) + 1 := by unfold jP; omega
  have hn : ntj σ (jP σ p) = σ (10 + (p : Int)) := ntj_r (by omega)
  have hn1 : ntj σ (jP σ (p + 1)) = σ (10 + ((p + 1 : Nat) : Int)) := ntj_r hp9
  have hP0 : 0 < PR σ (jP σ (p + 1)) := PR_pos hO _ (by unfold jP; omega) hp
  have hlt : ((jP σ (p + 1) : Nat) : Int) < σ 9 := by unfold jP; omega
  have hF := flt_in hO (w := w) (n := ntj σ (jP σ p)) hw (by rw [hn]; exact hO.2.2.2.2.2.2.2.2.2.2 (p : Int) (by omega) (by have := hO.2.2.2.2.2.2.2.2.2.1; omega))
  have e : RR σ (jP σ p) w = mbs (qW σ (jP σ (p + 1))) (fun v => flt σ w (ntj σ (jP σ p)) + eff σ w v + RR σ (jP σ (p + 1)) v) (-6) 64 := by rw [hj, RR_s]
  rw [e, ← hn]
  have hq : qW σ (jP σ (p + 1)) (v : Int) = true := decide_eq_true ((WW_pos hP0).mpr (by rw [hn1]; exact hs))
  rcases mbs_char (q := qW σ (jP σ (p + 1))) (f := fun v => flt σ w (ntj σ (jP σ p)) + eff σ w v + RR σ (jP σ (p + 1)) v) 64 (fun k hk hq => by
      have a1 := (RR_in hO _ hlt (k : Int) (by omega)).2 (of_decide_eq_true hq)
      have a2 := eff_in hO (a := w) (b := (k : Int)) hw (by omega)
      show 0 ≤ flt σ w (ntj σ (jP σ p)) + eff σ w (k : Int) + RR σ (jP σ (p + 1)) (k : Int)
      omega) with ⟨h, _⟩ | ⟨_, h⟩
  · exact absurd hq (h v hv)
  · exact h v hv hq
theorem AH_char {σ : Int → Int} (hO : Ok σ) (hp : 0 < PR σ (σ 9).toNat) : ∀ p : Nat, (p : Int) < σ 9 → ∀ w : Nat, w < 64 → sd σ (w : Int) (σ (10 + (p : Int))) = true → 0 ≤ AH σ p (w : Int) ∧ LEAST σ ≤ AH σ p (w : Int) + RR σ (jP σ p) (w : Int) := by
  have o9 := hO.2.2.2.2.2.2.2.2.2.1
  intro p
  induction p with
  | zero =>
    intro hp9 w hw hs
    rw [AH_0y hs]
    refine ⟨by omega, ?_⟩
    have hP0 : 0 < PR σ (jP σ 0) := PR_pos hO _ (by unfold jP; omega) hp
    have hn : ntj σ (jP σ 0) = σ (10 + ((0 : Nat) : Int)) := ntj_r hp9
    have hlt : ((jP σ 0 : Nat) : Int) < σ 9 := by unfold jP; omega
    unfold LEAST
    rw [if_neg (by omega), show (σ 9 - 1).toNat = jP σ 0 by unfold jP; omega]
    have hq : qW σ (jP σ 0) (w : Int) = true := decide_eq_true ((WW_pos hP0).mpr (by rw [hn]; exact hs))
    rcases mbs_char (q := qW σ (jP σ 0)) (f := RR σ (jP σ 0)) 64 (fun k hk hq => (RR_in hO _ hlt (k : Int) (by omega)).2 (of_decide_eq_true hq)) with ⟨h, _⟩ | ⟨_, h⟩
    · exact absurd hq (h w hw)
    · have := h w hw hq; omega
  | succ p ih =>
    intro hp9 w hw hs
    have ih := ih (by omega)
    rw [AH_sy hs]
    rcases mbs_char (q := fun v => decide (0 ≤ AH σ p v)) (f := fun v => AH σ p v + flt σ v (σ (10 + (p : Int))) + eff σ v (w : Int)) 64 (fun k hk hq => by
        have a1 := of_decide_eq_true hq
        have a2 := flt_in hO (w := (k : Int)) (n := σ (10 + (p : Int))) (by omega) (hO.2.2.2.2.2.2.2.2.2.2 (p : Int) (by omega) (by omega))
        have a3 := eff_in hO (a := (k : Int)) (b := (w : Int)) (by omega) (by omega)
        show 0 ≤ AH σ p (k : Int) + flt σ (k : Int) (σ (10 + (p : Int))) + eff σ (k : Int) (w : Int)
        omega) with ⟨h, _⟩ | ⟨⟨k, hk, hq, h⟩, _⟩
    · exfalso
      have hz := cj_pos hO (n := jP σ p) (PR_pos hO _ (by unfold jP; omega) hp)
      have hn : ntj σ (jP σ p) = σ (10 + (p : Int)) := ntj_r (by omega)
      unfold cj at hz
      rw [hn] at hz
      obtain ⟨k, a, b, _, _⟩ := nw_in (σ := σ) (n := σ (10 + (p : Int))) 0 (by omega) hz
      exact h k a (decide_eq_true (ih k a b).1)
    · have hA := of_decide_eq_true hq
      have hsk : sd σ (k : Int) (σ (10 + (p : Int))) = true := by
        by_cases hh : sd σ (k : Int) (σ (10 + (p : Int))) = true
        · exact hh
        · have := AH_n hh; omega
      have i2 := ih k hk hsk
      have a2 := flt_in hO (w := (k : Int)) (n := σ (10 + (p : Int))) (by omega) (hO.2.2.2.2.2.2.2.2.2.2 (p : Int) (by omega) (by omega))
      have a3 := eff_in hO (a := (k : Int)) (b := (w : Int)) (by omega) (by omega)
      have a4 := RR_le hO hp hp9 (w := (k : Int)) (by omega) hw hs
      rw [h]
      exact ⟨by omega, by omega⟩
theorem any_iff {f : Int → Bool} : ∀ n : Nat, anyB f n = true ↔ ∃ i : Nat, i < n ∧ f (i : Int) = true := by
  intro n
  induction n with
  | zero => simp [anyB]
  | succ n ih =>
    simp only [anyB, Bool.or_eq_true, ih]
    constructor
    · rintro (⟨i, a, b⟩ | h)
      · exact ⟨i, by omega, b⟩
      · exact ⟨n, by omega, h⟩
    · rintro ⟨i, a, b⟩
      by_cases h : i = n
      · subst h; exact Or.inr b
      · exact Or.inl ⟨i, by omega, b⟩
theorem MK_ok {σ gf gW gb go : Int → Int} {gt : Int → Int64} (hO : Ok σ) (h1 : WO1 σ gf gW (σ 9)) (h2 : ∀ r : Int, 0 ≤ r → r < σ 9 → WO2 σ gb go gt r) (hp : 0 < PR σ (σ 9).toNat) : ∀ p : Nat, (p : Int) < σ 9 → ∀ k : Nat, k < 64 → sd σ (k : Int) (σ (10 + (p : Int))) = true → (MK σ (σ 9) gf gW gb go p (cnt (fun w => sd σ w (σ (10 + (p : Int)))) k) = true ↔ AH σ p (k : Int) + RR σ (jP σ p) (k : Int) = LEAST σ) := by
  have o9 := hO.2.2.2.2.2.2.2.2.2.1
  obtain ⟨hL, hL0⟩ := LEAST_yes (gb := gb) (gt := gt) hO h1 h2 hp
  intro p
  induction p with
  | zero =>
    intro hp9 k hk hs
    have g1 := h1 ((0 : Nat) : Int) (by omega) hp9
    have g := go_at (gf := gf) (gW := gW) hO h2 hp (r := ((0 : Nat) : Int)) ⟨by omega, hp9⟩ hk hs
    have e : go (cnt (fun w => sd σ w (σ (10 + ((0 : Nat) : Int)))) k) = RR σ (jP σ 0) (k : Int) := by rw [← g.1]; congr 1; omega
    have c1 : cnt (fun w => sd σ w (σ (10 + ((0 : Nat) : Int)))) k < gf ((0 : Nat) : Int) := by rw [g1.1]; exact cnt_lt (q := fun w => sd σ w (σ (10 + ((0 : Nat) : Int)))) hk hs
    rw [AH_0y hs]
    show (mk0 (σ 9) gf go (cnt (fun w => sd σ w (σ (10 + ((0 : Nat) : Int)))) k) = true) ↔ _
    simp only [mk0, Bool.and_eq_true, decide_eq_true_eq]
    rw [e, ← hL]
    constructor
    · intro h; omega
    · intro h; exact ⟨c1, by omega⟩
  | succ p ih =>
    intro hp9 k hk hs
    have ih := ih (by omega)
    have g1 := h1 ((p + 1 : Nat) : Int) (by omega) hp9
    have g0 := h1 (p : Int) (by omega) (by omega)
    have g := go_at (gf := gf) (gW := gW) hO h2 hp (r := ((p + 1 : Nat) : Int)) ⟨by omega, hp9⟩ hk hs
    have c0 := (cnt_in (fun w => sd σ w (σ (10 + ((p + 1 : Nat) : Int)))) k).1
    have c1 := cnt_lt (q := fun w => sd σ w (σ (10 + ((p + 1 : Nat) : Int)))) hk hs
    have gw1 : gW (8 * ((p : Int) + 1) + cnt (fun w => sd σ w (σ (10 + ((p + 1 : Nat) : Int)))) k) = (k : Int) := (g1.2 _ c0 c1).trans (nw_at hk hs)
    have e : go (8 * ((p : Int) + 1) + cnt (fun w => sd σ w (σ (10 + ((p + 1 : Nat) : Int)))) k) = RR σ (jP σ (p + 1)) (k : Int) := g.1
    have c2 : cnt (fun w => sd σ w (σ (10 + ((p + 1 : Nat) : Int)))) k < gf ((p : Int) + 1) := by show _ < gf ((p + 1 : Nat) : Int); rw [g1.1]; exact c1
    have hA := AH_char hO hp (p + 1) hp9 k hk hs
    rw [MK_s]
    simp only [mkN, Bool.and_eq_true, decide_eq_true_eq, any_iff]
    rw [gw1, e]
    have cpn := cnt_in (fun w => sd σ w (σ (10 + (p : Int)))) 64
    constructor
    · rintro ⟨_, i, hi, hM, hc⟩
      rw [g0.1] at hi
      have hi2 : (i : Int) < cP σ (p : Int) := by omega
      obtain ⟨k0, a1, a2, a3, a4⟩ := nw_in (σ := σ) (n := σ (10 + (p : Int))) (i : Int) (by omega) hi2
      have gg := go_at (gf := gf) (gW := gW) hO h2 hp (r := (p : Int)) ⟨by omega, by omega⟩ a1 a2
      have hM2 := (ih k0 a1 a2).mp (by rw [a3]; exact hM)
      have gw0 : gW (8 * (p : Int) + (i : Int)) = (k0 : Int) := by rw [g0.2 _ (by omega) hi2, a4]
      rw [gw0] at hc
      rw [a3] at gg
      have e2 : gb (8 * (p : Int) + (i : Int)) + flt σ (k0 : Int) (σ (10 + (p : Int))) = RR σ (jP σ p) (k0 : Int) := gg.2.1
      have hA0 := AH_char hO hp p (by omega) k0 a1 a2
      have hle : AH σ (p + 1) (k : Int) ≤ AH σ p (k0 : Int) + flt σ (k0 : Int) (σ (10 + (p : Int))) + eff σ (k0 : Int) (k : Int) := by
        rw [AH_sy hs]
        rcases mbs_char (q := fun v => decide (0 ≤ AH σ p v)) (f := fun v => AH σ p v + flt σ v (σ (10 + (p : Int))) + eff σ v (k : Int)) 64 (fun x hx hq => by
            have b1 := of_decide_eq_true hq
            have b2 := flt_in hO (w := (x : Int)) (n := σ (10 + (p : Int))) (by omega) (hO.2.2.2.2.2.2.2.2.2.2 (p : Int) (by omega) (by omega))
            have b3 := eff_in hO (a := (x : Int)) (b := (k : Int)) (by omega) (by omega)
            show 0 ≤ AH σ p (x : Int) + flt σ (x : Int) (σ (10 + (p : Int))) + eff σ (x : Int) (k : Int)
            omega) with ⟨h, _⟩ | ⟨_, h⟩
        · exact absurd (decide_eq_true hA0.1) (h k0 a1)
        · exact h k0 a1 (decide_eq_true hA0.1)
      omega
    · intro hE
      refine ⟨c2, ?_⟩
      have hx := AH_sy (σ := σ) (P := p) (w := (k : Int)) hs
      rcases mbs_char (q := fun v => decide (0 ≤ AH σ p v)) (f := fun v => AH σ p v + flt σ v (σ (10 + (p : Int))) + eff σ v (k : Int)) 64 (fun x hx hq => by
          have b1 := of_decide_eq_true hq
          have b2 := flt_in hO (w := (x : Int)) (n := σ (10 + (p : Int))) (by omega) (hO.2.2.2.2.2.2.2.2.2.2 (p : Int) (by omega) (by omega))
          have b3 := eff_in hO (a := (x : Int)) (b := (k : Int)) (by omega) (by omega)
          show 0 ≤ AH σ p (x : Int) + flt σ (x : Int) (σ (10 + (p : Int))) + eff σ (x : Int) (k : Int)
          omega) with ⟨_, h⟩ | ⟨⟨k0, a1, hq, h⟩, _⟩
      · omega
      · have hA0 := of_decide_eq_true hq
        have a2 : sd σ (k0 : Int) (σ (10 + (p : Int))) = true := by
          by_cases hh : sd σ (k0 : Int) (σ (10 + (p : Int))) = true
          · exact hh
          · have := AH_n hh; omega
        have hA1 := AH_char hO hp p (by omega) k0 a1 a2
        have a4 := RR_le hO hp hp9 (w := (k0 : Int)) (by omega) hk hs
        have gg := go_at (gf := gf) (gW := gW) hO h2 hp (r := (p : Int)) ⟨by omega, by omega⟩ a1 a2
        have d0 := (cnt_in (fun w => sd σ w (σ (10 + (p : Int)))) k0).1
        have d1 : cnt (fun w => sd σ w (σ (10 + (p : Int)))) k0 < cP σ (p : Int) := cnt_lt (q := fun w => sd σ w (σ (10 + (p : Int)))) a1 a2
        have hcast : (((cnt (fun w => sd σ w (σ (10 + (p : Int)))) k0).toNat : Nat) : Int) = cnt (fun w => sd σ w (σ (10 + (p : Int)))) k0 := by omega
        have gw0 : gW (8 * (p : Int) + cnt (fun w => sd σ w (σ (10 + (p : Int)))) k0) = (k0 : Int) := by rw [g0.2 _ d0 d1, nw_at a1 a2]
        have e2 : gb (8 * (p : Int) + cnt (fun w => sd σ w (σ (10 + (p : Int)))) k0) + flt σ (k0 : Int) (σ (10 + (p : Int))) = RR σ (jP σ p) (k0 : Int) := gg.2.1
        refine ⟨(cnt (fun w => sd σ w (σ (10 + (p : Int)))) k0).toNat, by rw [g0.1]; omega, ?_, ?_⟩
        · rw [hcast]; exact (ih k0 a1 a2).mpr (by omega)
        · rw [hcast, gw0]; omega
theorem cnt_tr {q R R' : Int → Bool} (N : Nat) (h : ∀ k : Nat, k < N → q (k : Int) = true → R' (cnt q k) = R (k : Int)) : ∀ k : Nat, k ≤ N → cnt (fun v => q v && R v) k = cnt R' (cnt q k).toNat := by
  intro k
  induction k with
  | zero => intro _; rfl
  | succ k ih =>
    intro hk
    have ih := ih (by omega)
    by_cases hq : q (k : Int) = true
    · have hn := cnt_in q k
      rw [cnt_y hq, show (cnt q k + 1).toNat = (cnt q k).toNat + 1 by omega, cnt_s rfl, cnt_s (q := R') rfl, ih, show (((cnt q k).toNat : Nat) : Int) = cnt q k by omega, h k (by omega) hq]
      simp [hq]
    · have hq2 : q (k : Int) = false := by simpa using hq
      rw [cnt_n hq, ← ih, cnt_n]
      simp [hq2]
theorem cnt_cut {R : Int → Bool} {n : Int} (h0 : 0 ≤ n) : ∀ N : Nat, n ≤ (N : Int) → (∀ i : Int, n ≤ i → R i = false) → cnt R N = cnt R n.toNat := by
  intro N
  induction N with
  | zero => intro h _; rw [show n.toNat = 0 by omega]
  | succ N ih =>
    intro h hR
    by_cases hn : n = ((N + 1 : Nat) : Int)
    · rw [hn]; rfl
    · rw [cnt_n (by rw [hR (N : Int) (by omega)]; simp)]
      exact ih (by omega) hR
theorem MK_out {σ gf gW gb go : Int → Int} (h1 : WO1 σ gf gW (σ 9)) : ∀ p : Nat, (p : Int) < σ 9 → ∀ i : Int, cP σ (p : Int) ≤ i → MK σ (σ 9) gf gW gb go p i = false := by
  intro p hp i hi
  cases p with
  | zero =>
    show mk0 (σ 9) gf go i = false
    unfold mk0
    have := (h1 ((0 : Nat) : Int) (by omega) hp).1
    rw [decide_eq_false (show ¬ i < gf 0 by show ¬ i < gf ((0 : Nat) : Int); omega), Bool.false_and]
  | succ p =>
    rw [MK_s]
    unfold mkN
    have := (h1 ((p + 1 : Nat) : Int) (by omega) hp).1
    rw [decide_eq_false (show ¬ i < gf ((p : Int) + 1) by show ¬ i < gf ((p + 1 : Nat) : Int); omega), Bool.false_and]
theorem cntAt_eq {σ gf gW gb go : Int → Int} {gt : Int → Int64} (hO : Ok σ) (h1 : WO1 σ gf gW (σ 9)) (h2 : ∀ r : Int, 0 ≤ r → r < σ 9 → WO2 σ gb go gt r) (hp : 0 < PR σ (σ 9).toNat) {p : Nat} (hp9 : (p : Int) < σ 9) : cnt (MK σ (σ 9) gf gW gb go p) 8 = cntAt σ p (LEAST σ) := by
  have hn : ntj σ (jP σ p) = σ (10 + (p : Int)) := ntj_r hp9
  have hP0 : 0 < PR σ (jP σ p) := PR_pos hO _ (by unfold jP; omega) hp
  have h8 : cP σ (p : Int) ≤ 8 := cnt8 hO _ 64
  have h0 : 0 ≤ cP σ (p : Int) := (cnt_in _ 64).1
  unfold cntAt
  have e1 : cnt (fun v => decide (0 ≤ AH σ p v) && (decide (0 < WW σ (jP σ p) v) && decide (AH σ p v + RR σ (jP σ p) v = LEAST σ))) 64 = cnt (fun v => sd σ v (σ (10 + (p : Int))) && decide (AH σ p v + RR σ (jP σ p) v = LEAST σ)) 64 := by
    apply cnt_cong
    intro k hk
    by_cases hs : sd σ (k : Int) (σ (10 + (p : Int))) = true
    · have hA := (AH_char hO hp p hp9 k hk hs).1
      rw [hs, decide_eq_true hA, decide_eq_true ((WW_pos hP0).mpr (by rw [hn]; exact hs))]
      rfl
    · have hs2 : sd σ (k : Int) (σ (10 + (p : Int))) = false := by simpa using hs
      rw [hs2, decide_eq_false (show ¬ 0 < WW σ (jP σ p) (k : Int) from fun hh => hs (by rw [← hn]; exact (WW_pos hP0).mp hh))]
      simp
  rw [e1, cnt_tr (q := fun v => sd σ v (σ (10 + (p : Int)))) (R := fun v => decide (AH σ p v + RR σ (jP σ p) v = LEAST σ)) (R' := MK σ (σ 9) gf gW gb go p) 64 (fun k hk hq => by
    have hm := MK_ok hO h1 h2 hp p hp9 k hk hq
    by_cases hh : AH σ p (k : Int) + RR σ (jP σ p) (k : Int) = LEAST σ
    · rw [hm.mpr hh, decide_eq_true hh]
    · rw [decide_eq_false hh]
      cases hb : MK σ (σ 9) gf gW gb go p (cnt (fun v => sd σ v (σ (10 + (p : Int)))) k) with
      | false => rfl
      | true => exact absurd (hm.mp hb) hh) 64 (by omega)]
  exact cnt_cut h0 8 (by omega) (MK_out h1 p hp9)
/-! how many plans -/
theorem sum_WW {σ : Int → Int} (hO : Ok σ) (j : Nat) : ∀ k : Nat, sumL (qW σ j) (fun v => lW (WW σ j v)) k = lW (cnt (fun v => sd σ v (ntj σ j)) k * PR σ j) := by
  intro k
  induction k with
  | zero => simp [sumL, cnt, lW_0]
  | succ k ih =>
    rw [sumL_s rfl]
    by_cases h : 0 < WW σ j (k : Int)
    · rw [if_pos (decide_eq_true h), ih, lW_add, WW_stepy h]
    · rw [if_neg (by rw [decide_eq_true_eq]; exact h), ih, WW_step hO h]
theorem plans_0 {σ : Int → Int} (hO : Ok σ) (h9 : σ 9 ≠ 0) (G : Int → Int64) (hG : ∀ v : Int, G v = lW (WW σ (jP σ 0) v)) : sumL (qW σ (jP σ 0)) G 64 = lW (PR σ (σ 9).toNat) := by
  have o9 := hO.2.2.2.2.2.2.2.2.2.1
  rw [show G = fun v => lW (WW σ (jP σ 0) v) from funext hG, sum_WW hO]
  rw [show (σ 9).toNat = jP σ 0 + 1 by unfold jP; omega]
  rfl
theorem sum_none {q : Int → Bool} {g : Int → Int64} : ∀ N : Nat, (∀ k : Nat, k < N → ¬ q (k : Int) = true) → sumL q g N = 0 := by
  intro N
  induction N with
  | zero => intro _; rfl
  | succ N ih =>
    intro h
    rw [sumL_s rfl, if_neg (h N (by omega))]
    exact ih (fun k hk => h k (by omega))
theorem sum_tr {q Pi : Int → Bool} {g G : Int → Int64} (N : Nat) (h : ∀ k : Nat, k < N → q (k : Int) = true → G (k : Int) = if Pi (cnt q k) = true then g (cnt q k) else 0) : ∀ k : Nat, k ≤ N → sumL q G k = sumL Pi g (cnt q k).toNat := by
  intro k
  induction k with
  | zero => intro _; rfl
  | succ k ih =>
    intro hk
    have ih := ih (by omega)
    rw [sumL_s rfl]
    by_cases hq : q (k : Int) = true
    · have hn := cnt_in q k
      rw [if_pos hq, cnt_y hq, show (cnt q k + 1).toNat = (cnt q k).toNat + 1 by omega, sumL_s (q := Pi) rfl, show (((cnt q k).toNat : Nat) : Int) = cnt q k by omega, ih, h k (by omega) hq]
      by_cases hP : Pi (cnt q k) = true
      · rw [if_pos hP, if_pos hP]
      · rw [if_neg hP, if_neg hP]; exact Int64.add_zero _
    · rw [if_neg hq, cnt_n hq]; exact ih
theorem plans_1 {σ gf gW gb go : Int → Int} {gt : Int → Int64} (hO : Ok σ) (h1 : WO1 σ gf gW (σ 9)) (h2 : ∀ r : Int, 0 ≤ r → r < σ 9 → WO2 σ gb go gt r) (hp : 0 < PR σ (σ 9).toNat) (h9 : σ 9 ≠ 0) (G : Int → Int64) (hG : ∀ v : Int, G v = if RR σ (jP σ 0) v = LEAST σ then TT σ (jP σ 0) v else 0) : sumL (fun i => decide (go i = lcC (σ 9) gf go)) gt (gf 0).toNat = sumL (qW σ (jP σ 0)) G 64 := by
  have o9 := hO.2.2.2.2.2.2.2.2.2.1
  obtain ⟨hL, hL0⟩ := LEAST_yes (gb := gb) (gt := gt) hO h1 h2 hp
  have hr : ((0 : Nat) : Int) < σ 9 := by omega
  have hn : ntj σ (jP σ 0) = σ (10 + ((0 : Nat) : Int)) := ntj_r hr
  have hP0 : 0 < PR σ (jP σ 0) := PR_pos hO _ (by unfold jP; omega) hp
  rw [qW_sd hP0, hn, sum_tr (q := fun v => sd σ v (σ (10 + ((0 : Nat) : Int)))) (Pi := fun i => decide (go i = lcC (σ 9) gf go)) (g := gt) 64 (fun k hk hq => by
    have g := go_at (gf := gf) (gW := gW) hO h2 hp (r := ((0 : Nat) : Int)) ⟨by omega, hr⟩ hk hq
    have e : go (cnt (fun w => sd σ w (σ (10 + ((0 : Nat) : Int)))) k) = RR σ (jP σ 0) (k : Int) := by rw [← g.1]; congr 1; omega
    have e2 : gt (cnt (fun w => sd σ w (σ (10 + ((0 : Nat) : Int)))) k) = TT σ (jP σ 0) (k : Int) := by rw [← g.2.2]; congr 1; omega
    rw [hG, e2, e, hL]
    by_cases hh : RR σ (jP σ 0) (k : Int) = lcC (σ 9) gf go
    · rw [if_pos hh, if_pos (decide_eq_true hh)]
    · rw [if_neg hh, if_neg (by rw [decide_eq_true_eq]; exact hh)]) 64 (by omega)]
  have e3 := (h1 ((0 : Nat) : Int) (by omega) hr).1
  have e4 : gf 0 = cP σ ((0 : Nat) : Int) := e3
  rw [e4]
abbrev ALLB (σ gf gW gb go : Int → Int) : Prop := ∀ r : Int, 0 ≤ r → r < σ 9 → (0 ≤ gf r ∧ gf r ≤ 8) ∧ ∀ i : Int, 0 ≤ i → i < gf r → (0 ≤ gW (8 * r + i) ∧ gW (8 * r + i) < 64) ∧ (0 ≤ go (8 * r + i) ∧ go (8 * r + i) ≤ 1100000) ∧ 0 ≤ gb (8 * r + i) ∧ gb (8 * r + i) ≤ 1100000
theorem wo_all {σ gf gW gb go : Int → Int} {gt : Int → Int64} (hO : Ok σ) (h1 : WO1 σ gf gW (σ 9)) (h2 : ∀ r : Int, 0 ≤ r → r < σ 9 → WO2 σ gb go gt r) : ALLB σ gf gW gb go := by
  intro r h0 h9
  have g1 := h1 r h0 h9
  have h8 : cP σ r ≤ 8 := cnt8 hO _ 64
  have h00 : 0 ≤ cP σ r := (cnt_in _ 64).1
  rw [g1.1]
  refine ⟨⟨h00, h8⟩, fun i a b => ?_⟩
  obtain ⟨k, x1, x2, x3, x4⟩ := nw_in (σ := σ) (n := σ (10 + r)) i a b
  have g2 := h2 r h0 h9 i a b
  rw [g1.2 i a b]
  omega
theorem A_plans_lo {σ : Int → Int} {q : Int} (h : 0 ≤ q ∧ q ≤ 1) : A_plans σ q = if σ 9 = 0 then 1 else sumL (qW σ (jP σ 0)) (fun v => if q = 0 then lW (WW σ (jP σ 0) v) else if RR σ (jP σ 0) v = LEAST σ then TT σ (jP σ 0) v else 0) 64 := by
  unfold A_plans
  rw [if_pos h]
theorem plans_1n {σ : Int → Int} (hO : Ok σ) (hp : ¬ 0 < PR σ (σ 9).toNat) (G : Int → Int64) : lW (PR σ (σ 9).toNat) = sumL (qW σ (jP σ 0)) G 64 := by
  have o9 := hO.2.2.2.2.2.2.2.2.2.1
  have h9 := (LEAST_no hO hp).2
  rw [sum_none 64 (fun k hk hq => no_WW hO (n := jP σ 0) (by rw [show jP σ 0 + 1 = (σ 9).toNat by unfold jP; omega]; exact hp) k hk (of_decide_eq_true hq)), show PR σ (σ 9).toNat = 0 by have := (PR_in hO (σ 9).toNat).1; omega]
  exact lW_0
