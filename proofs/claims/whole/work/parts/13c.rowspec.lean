theorem nw_out {σ : Int → Int} {n i : Int} (h : cnt (fun w => sd σ w n) 64 ≤ i) : nw σ n i = -6 := by
  unfold nw
  rcases fnd_char (fun w => sd σ w n && decide (cnt (fun v => sd σ v n) w.toNat = i)) 64 with ⟨_, h2⟩ | ⟨k, hk, hq, _, _⟩
  · exact h2
  · exfalso
    simp only [Bool.and_eq_true, decide_eq_true_eq, Int.toNat_natCast] at hq
    have := cnt_lt (q := fun v => sd σ v n) hk hq.1
    omega
def amc (w f : Int → Int) : Nat → Int × Int
  | 0 => (-6, 1000000)
  | i + 1 => if f (w (i : Int)) < (amc w f i).2 then (w (i : Int), f (w (i : Int))) else amc w f i
theorem amc_s {w f : Int → Int} {i : Nat} {b t : Int} (e : (b, t) = amc w f i) : amc w f (i + 1) = if f (w (i : Int)) < t then (w (i : Int), f (w (i : Int))) else (b, t) := by
  simp only [amc, ← e]
theorem amn_amc {q : Int → Bool} {f w : Int → Int} (N : Nat) (hf : ∀ k : Nat, k < N → q (k : Int) = true → 0 ≤ f (k : Int) ∧ f (k : Int) < 1000000) (hw : ∀ k : Nat, k < N → q (k : Int) = true → w (cnt q k) = (k : Int)) :
    ∀ k : Nat, k ≤ N → (amc w f (cnt q k).toNat).1 = amn q f k ∧ ((cnt q k = 0 ∧ amn q f k = -6 ∧ (amc w f (cnt q k).toNat).2 = 1000000) ∨ (0 < cnt q k ∧ 0 ≤ amn q f k ∧ (amc w f (cnt q k).toNat).2 = f (amn q f k))) := by
  intro k
  induction k with
  | zero => intro _; exact ⟨rfl, Or.inl ⟨rfl, rfl, rfl⟩⟩
  | succ k ih =>
    intro hk
    obtain ⟨i1, i2⟩ := ih (by omega)
    by_cases hq : q (k : Int) = true
    · have hn := cnt_in q k
      have hc1 : cnt q (k + 1) = cnt q k + 1 := cnt_y hq
      have ht : (cnt q (k + 1)).toNat = (cnt q k).toNat + 1 := by omega
      have hcast : (((cnt q k).toNat : Nat) : Int) = cnt q k := by omega
      have m1 := amc_s (w := w) (f := f) (i := (cnt q k).toNat) rfl
      rw [hcast, hw k (by omega) hq] at m1
      have h0 := hf k (by omega) hq
      rw [ht, m1, amn_s rfl]
      rcases i2 with ⟨a1, a2, a3⟩ | ⟨a1, a2, a3⟩
      · rw [a3, if_pos h0.2, if_pos ⟨hq, Or.inl (by omega)⟩]
        exact ⟨rfl, Or.inr ⟨by omega, by omega, rfl⟩⟩
      · by_cases hlt : f (k : Int) < f (amn q f k)
        · rw [a3, if_pos hlt, if_pos ⟨hq, Or.inr hlt⟩]
          exact ⟨rfl, Or.inr ⟨by omega, by omega, rfl⟩⟩
        · rw [a3, if_neg hlt, if_neg (fun h => h.2.elim (fun g => by omega) hlt)]
          exact ⟨i1, Or.inr ⟨by omega, a2, rfl⟩⟩
    · rw [cnt_n hq, amn_s rfl, if_neg (fun h => hq h.1)]
      exact ⟨i1, i2⟩
theorem truest_eq {σ : Int → Int} (hO : Ok σ) {n : Int} (hn : 0 ≤ n ∧ n ≤ 36) : (amc (nw σ n) (fun w => aI (off σ w n)) (cnt (fun w => sd σ w n) 64).toNat).1 = amn (fun w => sd σ w n) (fun w => aI (off σ w n)) 64 :=
  (amn_amc (q := fun w => sd σ w n) (f := fun w => aI (off σ w n)) (w := nw σ n) 64 (fun k hk _ => by
    have h1 := off_in hO (w := (k : Int)) (n := n) (by omega) hn
    have h2 := aI_in (a := off σ (k : Int) n) (b := 4800) (by omega)
    show 0 ≤ aI (off σ (k : Int) n) ∧ aI (off σ (k : Int) n) < 1000000
    omega) (fun k hk hq => nw_at hk hq) 64 (by omega)).1
/-! least of all pairs -/
def lm1 (f : Int → Int) (b : Int) : Nat → Int
  | 0 => b
  | j + 1 => mI (lm1 f b j) (f (j : Int))
def lm2 (F : Int → Int → Int) (n : Nat) : Nat → Int
  | 0 => 1000000
  | i + 1 => lm1 (F (i : Int)) (lm2 F n i) n
theorem lm1_s {f : Int → Int} {b y : Int} {j : Nat} (e : y = lm1 f b j) : lm1 f b (j + 1) = mI y (f (j : Int)) := by subst e; rfl
theorem lm2_s {F : Int → Int → Int} {n i : Nat} {x : Int} (e : x = lm2 F n i) : lm2 F n (i + 1) = lm1 (F (i : Int)) x n := by subst e; rfl
theorem mI_le (a b : Int) : mI a b ≤ a ∧ mI a b ≤ b ∧ (mI a b = a ∨ mI a b = b) := by unfold mI; split <;> omega
theorem lm1_char (f : Int → Int) (b : Int) : ∀ n : Nat, lm1 f b n ≤ b ∧ (∀ j : Nat, j < n → lm1 f b n ≤ f (j : Int)) ∧ (lm1 f b n = b ∨ ∃ j : Nat, j < n ∧ lm1 f b n = f (j : Int)) := by
  intro n
  induction n with
  | zero => exact ⟨Int.le_refl _, fun j h => by omega, Or.inl rfl⟩
  | succ n ih =>
    obtain ⟨h1, h2, h3⟩ := ih
    have hm := mI_le (lm1 f b n) (f (n : Int))
    have e : lm1 f b (n + 1) = mI (lm1 f b n) (f (n : Int)) := rfl
    rw [e]
    refine ⟨by omega, fun j hj => ?_, ?_⟩
    · by_cases hjn : j = n
      · subst hjn; exact hm.2.1
      · have := h2 j (by omega); omega
    · rcases hm.2.2 with h | h
      · rw [h]
        rcases h3 with h4 | ⟨j, hj, h4⟩
        · exact Or.inl h4
        · exact Or.inr ⟨j, by omega, h4⟩
      · exact Or.inr ⟨n, by omega, h⟩
theorem lm2_char (F : Int → Int → Int) (n : Nat) : ∀ m : Nat, lm2 F n m ≤ 1000000 ∧ (∀ i j : Nat, i < m → j < n → lm2 F n m ≤ F (i : Int) (j : Int)) ∧ (lm2 F n m = 1000000 ∨ ∃ i j : Nat, i < m ∧ j < n ∧ lm2 F n m = F (i : Int) (j : Int)) := by
  intro m
  induction m with
  | zero => exact ⟨Int.le_refl _, fun i j h => by omega, Or.inl rfl⟩
  | succ m ih =>
    obtain ⟨h1, h2, h3⟩ := ih
    obtain ⟨g1, g2, g3⟩ := lm1_char (F (m : Int)) (lm2 F n m) n
    have e : lm2 F n (m + 1) = lm1 (F (m : Int)) (lm2 F n m) n := rfl
    rw [e]
    refine ⟨by omega, fun i j hi hj => ?_, ?_⟩
    · by_cases him : i = m
      · subst him; exact g2 j hj
      · have := h2 i j (by omega) hj; omega
    · rcases g3 with h | ⟨j, hj, h⟩
      · rw [h]
        rcases h3 with h4 | ⟨i, j, hi, hj, h4⟩
        · exact Or.inl h4
        · exact Or.inr ⟨i, j, by omega, hj, h4⟩
      · exact Or.inr ⟨m, j, by omega, hj, h⟩
theorem lm1_in {f : Int → Int} {b : Int} (hb : 0 ≤ b) {n : Nat} (h : ∀ j : Nat, j < n → 0 ≤ f (j : Int)) : 0 ≤ lm1 f b n := by
  rcases (lm1_char f b n).2.2 with h1 | ⟨j, hj, h1⟩
  · omega
  · have := h j hj; omega
/-- from a start that is not below 0 -/
theorem mbs_ge {q : Int → Bool} {f : Int → Int} {b : Int} (hb : 0 ≤ b) (N : Nat) (hf : ∀ k : Nat, k < N → q (k : Int) = true → 0 ≤ f (k : Int)) :
    0 ≤ mbs q f b N ∧ mbs q f b N ≤ b ∧ (∀ k : Nat, k < N → q (k : Int) = true → mbs q f b N ≤ f (k : Int)) ∧ (mbs q f b N = b ∨ ∃ k : Nat, k < N ∧ q (k : Int) = true ∧ mbs q f b N = f (k : Int)) := by
  induction N with
  | zero => exact ⟨hb, Int.le_refl _, fun k h => by omega, Or.inl rfl⟩
  | succ N ih =>
    obtain ⟨h0, h1, h2, h3⟩ := ih (fun k hk => hf k (by omega))
    rw [mbs_s rfl]
    by_cases hq : q (N : Int) = true
    · have hN := hf N (by omega) hq
      rw [if_pos hq]
      by_cases hlt : f (N : Int) < mbs q f b N
      · rw [if_pos (Or.inr hlt)]
        refine ⟨hN, by omega, fun k hk hqk => ?_, Or.inr ⟨N, by omega, hq, rfl⟩⟩
        by_cases hkN : k = N
        · subst hkN; omega
        · have := h2 k (by omega) hqk; omega
      · rw [if_neg (by omega)]
        refine ⟨h0, h1, fun k hk hqk => ?_, ?_⟩
        · by_cases hkN : k = N
          · subst hkN; omega
          · exact h2 k (by omega) hqk
        · rcases h3 with h | ⟨k, hk, a, c⟩
          · exact Or.inl h
          · exact Or.inr ⟨k, by omega, a, c⟩
    · rw [if_neg hq]
      refine ⟨h0, h1, fun k hk hqk => ?_, ?_⟩
      · by_cases hkN : k = N
        · subst hkN; exact absurd hqk hq
        · exact h2 k (by omega) hqk
      · rcases h3 with h | ⟨k, hk, a, c⟩
        · exact Or.inl h
        · exact Or.inr ⟨k, by omega, a, c⟩
theorem tro_char {σ : Int → Int} (hO : Ok σ) (a b : Int) : ∀ N : Nat, N ≤ 64 →
    ((∀ v w : Nat, v < N → w < 64 → ¬ (sd σ (v : Int) a = true ∧ sd σ (w : Int) b = true)) ∧ tro σ a b N = -6) ∨
    (0 ≤ tro σ a b N ∧ (∃ v w : Nat, v < N ∧ w < 64 ∧ sd σ (v : Int) a = true ∧ sd σ (w : Int) b = true ∧ tro σ a b N = eff σ (v : Int) (w : Int)) ∧ ∀ v w : Nat, v < N → w < 64 → sd σ (v : Int) a = true → sd σ (w : Int) b = true → tro σ a b N ≤ eff σ (v : Int) (w : Int)) := by
  intro N
  induction N with
  | zero => intro _; exact Or.inl ⟨fun v w h => by omega, rfl⟩
  | succ N ih =>
    intro hN
    have hf : ∀ k : Nat, k < 64 → sd σ (k : Int) b = true → 0 ≤ eff σ (N : Int) (k : Int) := fun k hk _ => (eff_in hO (by omega) (by omega)).1
    rw [tro_s rfl]
    by_cases hs : sd σ (N : Int) a = true
    · rw [if_pos hs]
      rcases ih (by omega) with ⟨h1, h2⟩ | ⟨h0, ⟨v0, w0, e1, e2, e3, e4, e5⟩, h2⟩
      · rw [h2]
        rcases mbs_char (q := fun v => sd σ v b) (f := fun v => eff σ (N : Int) v) 64 hf with ⟨g1, g2⟩ | ⟨⟨k, hk, hq, g1⟩, g2⟩
        · refine Or.inl ⟨fun v w hv hw => ?_, g2⟩
          intro h
          exact g1 w hw h.2
        · refine Or.inr ⟨by rw [g1]; exact hf k hk hq, ⟨N, k, by omega, hk, hs, hq, g1⟩, fun v w hv hw hsv hsw => ?_⟩
          by_cases hvN : v = N
          · subst hvN; exact g2 w hw hsw
          · exact absurd ⟨hsv, hsw⟩ (h1 v w (by omega) hw)
      · obtain ⟨g0, g1, g2, g3⟩ := mbs_ge (q := fun v => sd σ v b) (f := fun v => eff σ (N : Int) v) h0 64 hf
        refine Or.inr ⟨g0, ?_, fun v w hv hw hsv hsw => ?_⟩
        · rcases g3 with h | ⟨k, hk, hq, h⟩
          · exact ⟨v0, w0, by omega, e2, e3, e4, by rw [h]; exact e5⟩
          · exact ⟨N, k, by omega, hk, hs, hq, h⟩
        · by_cases hvN : v = N
          · subst hvN; exact g2 w hw hsw
          · have := h2 v w (by omega) hw hsv hsw; omega
    · rw [if_neg hs]
      rcases ih (by omega) with ⟨h1, h2⟩ | ⟨h0, ⟨v0, w0, e1, e2, e3, e4, e5⟩, h2⟩
      · refine Or.inl ⟨fun v w hv hw h => ?_, h2⟩
        by_cases hvN : v = N
        · subst hvN; exact hs h.1
        · exact h1 v w (by omega) hw h
      · refine Or.inr ⟨h0, ⟨v0, w0, by omega, e2, e3, e4, e5⟩, fun v w hv hw hsv hsw => ?_⟩
        by_cases hvN : v = N
        · subst hvN; exact absurd hsv hs
        · exact h2 v w (by omega) hw hsv hsw
abbrev tF (σ : Int → Int) (a b : Int) : Int → Int → Int := fun i j => eff σ (nw σ a i) (nw σ b j)
theorem tro_lm2 {σ : Int → Int} (hO : Ok σ) (a b : Int) : tro σ a b 64 = if cnt (fun w => sd σ w a) 64 = 0 ∨ cnt (fun w => sd σ w b) 64 = 0 then -6 else lm2 (tF σ a b) (cnt (fun w => sd σ w b) 64).toNat (cnt (fun w => sd σ w a) 64).toNat := by
  have ca := cnt_in (fun w => sd σ w a) 64
  have cb := cnt_in (fun w => sd σ w b) 64
  rcases tro_char hO a b 64 (by omega) with ⟨h1, h2⟩ | ⟨h0, ⟨v0, w0, e1, e2, e3, e4, e5⟩, h2⟩
  · rw [h2, if_pos]
    rcases Int.lt_or_eq_of_le ca.1 with ha | ha
    · rcases Int.lt_or_eq_of_le cb.1 with hb | hb
      · exfalso
        obtain ⟨k, x1, x2, _, _⟩ := nw_in (σ := σ) (n := a) 0 (by omega) ha
        obtain ⟨k', y1, y2, _, _⟩ := nw_in (σ := σ) (n := b) 0 (by omega) hb
        exact h1 k k' x1 y1 ⟨x2, y2⟩
      · exact Or.inr hb.symm
    · exact Or.inl ha.symm
  · have la := cnt_lt (q := fun w => sd σ w a) e1 e3
    have lb := cnt_lt (q := fun w => sd σ w b) e2 e4
    have na := (cnt_in (fun w => sd σ w a) v0).1
    have nb := (cnt_in (fun w => sd σ w b) w0).1
    rw [if_neg (by omega)]
    obtain ⟨m0, m1, m2⟩ := lm2_char (tF σ a b) (cnt (fun w => sd σ w b) 64).toNat (cnt (fun w => sd σ w a) 64).toNat
    have k1 := m1 (cnt (fun w => sd σ w a) v0).toNat (cnt (fun w => sd σ w b) w0).toNat (by omega) (by omega)
    rw [show (((cnt (fun w => sd σ w a) v0).toNat : Nat) : Int) = cnt (fun w => sd σ w a) v0 by omega, show (((cnt (fun w => sd σ w b) w0).toNat : Nat) : Int) = cnt (fun w => sd σ w b) w0 by omega] at k1
    simp only [tF] at k1
    rw [nw_at e1 e3, nw_at e2 e4] at k1
    have hE := eff_in hO (a := (v0 : Int)) (b := (w0 : Int)) (by omega) (by omega)
    rcases m2 with h | ⟨i, j, hi, hj, h⟩
    · omega
    · obtain ⟨v, x1, x2, _, x4⟩ := nw_in (σ := σ) (n := a) (i : Int) (by omega) (by omega)
      obtain ⟨w, y1, y2, _, y4⟩ := nw_in (σ := σ) (n := b) (j : Int) (by omega) (by omega)
      have k2 := h2 v w x1 y1 x2 y2
      simp only [tF] at h
      rw [x4, y4] at h
      omega
theorem nrm_lm2 {σ gd : Int → Int} {n : Int} (hO : Ok σ) (hn : 0 ≤ n ∧ n ≤ 36) (hd : ∀ s : Int, 0 ≤ s → s < 8 → gd s = low σ s) : lm2 (fun s q => aI (hi q - (gd s + 100 * n))) 8 8 = nrm σ n := by
  have hoff : ∀ k : Nat, k < 64 → aI (hi ((k : Int) / 8) - (gd ((k : Int) % 8) + 100 * n)) = aI (off σ (k : Int) n) := by
    intro k hk
    rw [hd _ (by omega) (by omega)]
    unfold off
    congr 1
    omega
  obtain ⟨m0, m1, m2⟩ := lm2_char (fun s q => aI (hi q - (gd s + 100 * n))) 8 8
  unfold nrm
  rcases mbs_char (q := fun _ => true) (f := fun w => aI (off σ w n)) 64 (fun k _ _ => aI_nn _) with ⟨h1, _⟩ | ⟨⟨k, hk, _, h1⟩, h2⟩
  · exact absurd rfl (h1 0 (by omega))
  · rw [h1]
    have k1 := m1 (k % 8) (k / 8) (by omega) (by omega)
    rw [show ((k % 8 : Nat) : Int) = (k : Int) % 8 by omega, show ((k / 8 : Nat) : Int) = (k : Int) / 8 by omega] at k1
    have k2 := hoff k hk
    have hb := off_in hO (w := (k : Int)) (n := n) (by omega) hn
    have hb2 := aI_in (a := off σ (k : Int) n) (b := 4800) (by omega)
    rcases m2 with h | ⟨i, j, hi8, hj8, h⟩
    · omega
    · have k3 := h2 (8 * j + i) (by omega) rfl
      have k4 := hoff (8 * j + i) (by omega)
      rw [show (((8 * j + i : Nat) : Int) / 8) = (j : Int) by omega, show (((8 * j + i : Nat) : Int) % 8) = (i : Int) by omega] at k4
      rw [h1] at k3
      omega
theorem vdr_low {τ gd : Int → Int} {t : Int} (h : ∀ j : Int, 0 ≤ j → j < 3 → gd j = τ (1 + j)) (h0 : ¬ τ 0 = 1) : vdr gd t (τ 4) = low τ t := by
  rw [low_vdr τ t h0]
  unfold vdr
  rw [h 0 (by omega) (by omega), h 1 (by omega) (by omega), h 2 (by omega) (by omega)]
