/-! plans: what is to come behind a place, laid from the last place back -/
def lW (z : Int) : Int64 := Int64.ofInt z
theorem lW_add (a b : Int) : lW a + lW b = lW (a + b) := (Int64.ofInt_add a b).symm
theorem lW_mul (a b : Int) : lW a * lW b = lW (a * b) := (Int64.ofInt_mul a b).symm
theorem lW_toInt {a : Int} (h : -9223372036854775808 ≤ a ∧ a < 9223372036854775808) : (lW a).toInt = a := Int64.toInt_ofInt_of_le (by omega) (by omega)
theorem lW_0 : lW 0 = 0 := by decide +kernel
theorem lW_1 : lW 1 = 1 := by decide +kernel
theorem lW_le0 {a : Int} (h : -9223372036854775808 ≤ a ∧ a < 9223372036854775808) : lW a ≤ 0 ↔ a ≤ 0 := by
  rw [← lW_0, Int64.le_iff_toInt_le, lW_toInt h, lW_toInt (by omega)]
theorem lW_gt0 {a : Int} (h : -9223372036854775808 ≤ a ∧ a < 9223372036854775808) : 0 < lW a ↔ 0 < a := by
  rw [← lW_0, Int64.lt_iff_toInt_lt, lW_toInt h, lW_toInt (by omega)]
theorem zI_toL {a : Int} (h : -2147483648 ≤ a ∧ a < 2147483648) : (zI a).toInt64 = lW a := by
  apply Int64.toInt_inj.mp
  rw [Int32.toInt_toInt64, zI_toInt h, lW_toInt (by omega)]
theorem mbs_char {q : Int → Bool} {f : Int → Int} (N : Nat) (hf : ∀ k : Nat, k < N → q (k : Int) = true → 0 ≤ f (k : Int)) :
    ((∀ k : Nat, k < N → ¬ q (k : Int) = true) ∧ mbs q f (-6) N = -6) ∨ ((∃ k : Nat, k < N ∧ q (k : Int) = true ∧ mbs q f (-6) N = f (k : Int)) ∧ ∀ k : Nat, k < N → q (k : Int) = true → mbs q f (-6) N ≤ f (k : Int)) := by
  induction N with
  | zero => exact Or.inl ⟨fun k h => by omega, rfl⟩
  | succ N ih =>
    have ih := ih (fun k hk => hf k (by omega))
    by_cases hq : q (N : Int) = true
    · right
      have h0 := hf N (by omega) hq
      rcases ih with ⟨h1, h2⟩ | ⟨⟨k, hk, hqk, he⟩, h2⟩
      · have e : mbs q f (-6) (N + 1) = f (N : Int) := by simp only [mbs]; rw [if_pos hq, if_pos (Or.inl (by omega))]
        refine ⟨⟨N, by omega, hq, e⟩, fun k hk hqk => ?_⟩
        by_cases hkN : k = N
        · subst hkN; omega
        · exact absurd hqk (h1 k (by omega))
      · have hm := hf k (by omega) hqk
        by_cases hlt : f (N : Int) < mbs q f (-6) N
        · have e : mbs q f (-6) (N + 1) = f (N : Int) := by simp only [mbs]; rw [if_pos hq, if_pos (Or.inr hlt)]
          refine ⟨⟨N, by omega, hq, e⟩, fun j hj hqj => ?_⟩
          by_cases hkN : j = N
          · subst hkN; omega
          · have := h2 j (by omega) hqj; omega
        · have e : mbs q f (-6) (N + 1) = mbs q f (-6) N := by simp only [mbs]; rw [if_pos hq, if_neg (by omega)]
          refine ⟨⟨k, by omega, hqk, by rw [e]; exact he⟩, fun j hj hqj => ?_⟩
          by_cases hkN : j = N
          · subst hkN; omega
          · have := h2 j (by omega) hqj; omega
    · have e : mbs q f (-6) (N + 1) = mbs q f (-6) N := by simp only [mbs]; rw [if_neg hq]
      rcases ih with ⟨h1, h2⟩ | ⟨⟨k, hk, hqk, he⟩, h2⟩
      · left
        refine ⟨fun j hj => ?_, by rw [e]; exact h2⟩
        by_cases hkN : j = N
        · subst hkN; exact hq
        · exact h1 j (by omega)
      · right
        refine ⟨⟨k, by omega, hqk, by rw [e]; exact he⟩, fun j hj hqj => ?_⟩
        by_cases hkN : j = N
        · subst hkN; exact absurd hqj hq
        · rw [e]; exact h2 j (by omega) hqj
/-! no note has more than eight ways -/
theorem hi_gap {a b : Int} (ha : 0 ≤ a ∧ a < 8) (hb : 0 ≤ b ∧ b < 8) (h : -198 ≤ hi a - hi b ∧ hi a - hi b ≤ 198) : a = b := by
  rcases (show a = 0 ∨ a = 1 ∨ a = 2 ∨ a = 3 ∨ a = 4 ∨ a = 5 ∨ a = 6 ∨ a = 7 by omega) with rfl | rfl | rfl | rfl | rfl | rfl | rfl | rfl <;>
  rcases (show b = 0 ∨ b = 1 ∨ b = 2 ∨ b = 3 ∨ b = 4 ∨ b = 5 ∨ b = 6 ∨ b = 7 by omega) with rfl | rfl | rfl | rfl | rfl | rfl | rfl | rfl <;>
  first | rfl | (exfalso; revert h; decide)
theorem sd_ok {σ : Int → Int} {w n : Int} (h : sd σ w n = true) : okW σ w ∧ aI (off σ w n) ≤ σ 5 := by
  unfold sd at h
  exact of_decide_eq_true h
theorem sd_in {σ : Int → Int} {w n : Int} (h : sd σ w n = true) : 0 ≤ w ∧ w < 64 := by
  have := (sd_ok h).1.1
  omega
theorem sd_one {σ : Int → Int} (hO : Ok σ) {v w n : Int} (hv : sd σ v n = true) (hw : sd σ w n = true) (h : v % 8 = w % 8) : v = w := by
  have h5 := hO.2.2.2.2.2.1
  have k1 := sd_in hv
  have k2 := sd_in hw
  have a1 := (sd_ok hv).2
  have a2 := (sd_ok hw).2
  unfold off at a1 a2
  rw [h] at a1
  have b1 : -99 ≤ hi (v / 8) - low σ (w % 8) - 100 * n ∧ hi (v / 8) - low σ (w % 8) - 100 * n ≤ 99 := by unfold aI at a1; split at a1 <;> omega
  have b2 : -99 ≤ hi (w / 8) - low σ (w % 8) - 100 * n ∧ hi (w / 8) - low σ (w % 8) - 100 * n ≤ 99 := by unfold aI at a2; split at a2 <;> omega
  have e := hi_gap (a := v / 8) (b := w / 8) (by omega) (by omega) (by omega)
  omega
theorem cnt_le1 {q : Int → Bool} : ∀ N : Nat, (∀ i j : Nat, i < N → j < N → q (i : Int) = true → q (j : Int) = true → i = j) → cnt q N ≤ 1 := by
  intro N
  induction N with
  | zero => intro _; simp [cnt]
  | succ N ih =>
    intro h
    by_cases hq : q (N : Int) = true
    · have z : ∀ M : Nat, M ≤ N → cnt q M = 0 := by
        intro M
        induction M with
        | zero => intro _; rfl
        | succ M ihM =>
          intro hM
          rw [cnt_n (fun hqM => by have := h M N (by omega) (by omega) hqM hq; omega)]
          exact ihM (by omega)
      rw [cnt_y hq, z N (by omega)]
      omega
    · rw [cnt_n hq]
      exact ih (fun i j hi hj => h i j (by omega) (by omega))
theorem cnt_cong {q r : Int → Bool} : ∀ N : Nat, (∀ i : Nat, i < N → q (i : Int) = r (i : Int)) → cnt q N = cnt r N := by
  intro N
  induction N with
  | zero => intro _; rfl
  | succ N ih =>
    intro h
    simp only [cnt]
    rw [ih (fun i hi => h i (by omega)), h N (by omega)]
abbrev md (q : Int → Bool) (r : Int) : Int → Bool := fun w => q w && decide (w % 8 = r)
theorem md_s (q : Int → Bool) (r : Int) (k : Nat) : cnt (md q r) (k + 1) = cnt (md q r) k + (if q (k : Int) = true ∧ (k : Int) % 8 = r then 1 else 0) := by
  simp [cnt, md]
theorem cnt_md (q : Int → Bool) (N : Nat) : cnt q N = cnt (md q 0) N + cnt (md q 1) N + cnt (md q 2) N + cnt (md q 3) N + cnt (md q 4) N + cnt (md q 5) N + cnt (md q 6) N + cnt (md q 7) N := by
  induction N with
  | zero => rfl
  | succ N ih =>
    rw [md_s, md_s, md_s, md_s, md_s, md_s, md_s, md_s, cnt_s rfl]
    by_cases hq : q (N : Int) = true
    · simp only [hq, true_and, if_true]
      rcases (show (N : Int) % 8 = 0 ∨ (N : Int) % 8 = 1 ∨ (N : Int) % 8 = 2 ∨ (N : Int) % 8 = 3 ∨ (N : Int) % 8 = 4 ∨ (N : Int) % 8 = 5 ∨ (N : Int) % 8 = 6 ∨ (N : Int) % 8 = 7 by omega) with h | h | h | h | h | h | h | h <;> simp only [h] <;> simp <;> omega
    · have hq2 : q (N : Int) = false := by simpa using hq
      simp [hq2]
      omega
theorem cnt8 {σ : Int → Int} (hO : Ok σ) (n : Int) (N : Nat) : cnt (fun w => sd σ w n) N ≤ 8 := by
  rw [cnt_md]
  have k : ∀ r : Int, cnt (md (fun w => sd σ w n) r) N ≤ 1 := by
    intro r
    apply cnt_le1
    intro i j _ _ h1 h2
    simp only [md, Bool.and_eq_true, decide_eq_true_eq] at h1 h2
    have := sd_one hO h1.1 h2.1 (by omega)
    omega
  have k0 := k 0; have k1 := k 1; have k2 := k 2; have k3 := k 3; have k4 := k 4; have k5 := k 5; have k6 := k 6; have k7 := k 7
  omega
/-! the tables -/
def ntj (σ : Int → Int) (j : Nat) : Int := σ (10 + (σ 9 - 1 - (j : Int)))
def cj (σ : Int → Int) (j : Nat) : Int := cnt (fun w => sd σ w (ntj σ j)) 64
def PR (σ : Int → Int) : Nat → Int
  | 0 => 1
  | j + 1 => cj σ j * PR σ j
def WW (σ : Int → Int) (j : Nat) (w : Int) : Int := if sd σ w (ntj σ j) = true then PR σ j else 0
abbrev qW (σ : Int → Int) (j : Nat) : Int → Bool := fun v => decide (0 < WW σ j v)
def RR (σ : Int → Int) : Nat → Int → Int
  | 0, w => flt σ w (ntj σ 0)
  | j + 1, w => mbs (qW σ j) (fun v => flt σ w (ntj σ (j + 1)) + eff σ w v + RR σ j v) (-6) 64
def tie (q : Int → Bool) (f : Int → Int) (T : Int → Int64) : Nat → Int64
  | 0 => 0
  | k + 1 => if q (k : Int) = true then (if mbs q f (-6) k < 0 ∨ f (k : Int) < mbs q f (-6) k then T (k : Int) else if f (k : Int) = mbs q f (-6) k then tie q f T k + T (k : Int) else tie q f T k) else tie q f T k
theorem tie_s {q : Int → Bool} {f : Int → Int} {T : Int → Int64} {k : Nat} {y : Int} {z : Int64} (ey : y = mbs q f (-6) k) (ez : z = tie q f T k) : tie q f T (k + 1) = if q (k : Int) = true then (if y < 0 ∨ f (k : Int) < y then T (k : Int) else if f (k : Int) = y then z + T (k : Int) else z) else z := by
  subst ey; subst ez; rfl
def TT (σ : Int → Int) : Nat → Int → Int64
  | 0, _ => 1
  | j + 1, w => tie (qW σ j) (fun v => flt σ w (ntj σ (j + 1)) + eff σ w v + RR σ j v) (TT σ j) 64
theorem cj_in {σ : Int → Int} (hO : Ok σ) (j : Nat) : 0 ≤ cj σ j ∧ cj σ j ≤ 8 := ⟨(cnt_in _ 64).1, cnt8 hO _ 64⟩
theorem PR_in {σ : Int → Int} (hO : Ok σ) (j : Nat) : 0 ≤ PR σ j ∧ PR σ j ≤ ((8 ^ j : Nat) : Int) := by
  induction j with
  | zero => simp [PR]
  | succ j ih =>
    have h := mul_in (cj_in hO j) ih
    simp only [PR]
    rw [Nat.pow_succ]
    omega
theorem PR_lt {σ : Int → Int} (hO : Ok σ) {j : Nat} (hj : j ≤ 12) : 0 ≤ PR σ j ∧ PR σ j ≤ 68719476736 := by
  have h := PR_in hO j
  have h2 : 8 ^ j ≤ 8 ^ 12 := Nat.pow_le_pow_right (by omega) hj
  have h3 : 8 ^ 12 = 68719476736 := by decide +kernel
  omega
theorem WW_in {σ : Int → Int} (hO : Ok σ) {j : Nat} (hj : j ≤ 12) (w : Int) : 0 ≤ WW σ j w ∧ WW σ j w ≤ 68719476736 := by
  have h := PR_lt hO hj
  unfold WW
  split <;> omega
theorem WW_sd {σ : Int → Int} {j : Nat} {w : Int} (h : 0 < WW σ j w) : sd σ w (ntj σ j) = true ∧ WW σ j w = PR σ j := by
  unfold WW at h ⊢
  split at h
  · rename_i hs; exact ⟨hs, by rw [if_pos hs]⟩
  · omega
theorem WW_step {σ : Int → Int} (hO : Ok σ) {j k : Nat} (h : ¬ 0 < WW σ j (k : Int)) : cnt (fun v => sd σ v (ntj σ j)) (k + 1) * PR σ j = cnt (fun v => sd σ v (ntj σ j)) k * PR σ j := by
  by_cases hs : sd σ (k : Int) (ntj σ j) = true
  · unfold WW at h
    rw [if_pos hs] at h
    have := (PR_in hO j).1
    rw [show PR σ j = 0 by omega]
    simp
  · rw [cnt_n (q := fun v => sd σ v (ntj σ j)) hs]
theorem WW_stepy {σ : Int → Int} {j k : Nat} (h : 0 < WW σ j (k : Int)) : cnt (fun v => sd σ v (ntj σ j)) (k + 1) * PR σ j = cnt (fun v => sd σ v (ntj σ j)) k * PR σ j + WW σ j (k : Int) := by
  obtain ⟨hs, e⟩ := WW_sd h
  rw [cnt_y (q := fun v => sd σ v (ntj σ j)) hs, e, Int.add_mul, Int.one_mul]
theorem ntj_in {σ : Int → Int} (hO : Ok σ) {j : Nat} (hj : (j : Int) < σ 9) : 0 ≤ ntj σ j ∧ ntj σ j ≤ 36 := by
  have h9 := hO.2.2.2.2.2.2.2.2.2.1
  exact hO.2.2.2.2.2.2.2.2.2.2 (σ 9 - 1 - (j : Int)) (by omega) (by omega)
theorem RR_in {σ : Int → Int} (hO : Ok σ) : ∀ (j : Nat), (j : Int) < σ 9 → ∀ w : Int, 0 ≤ w ∧ w < 64 → (-6 ≤ RR σ j w ∧ RR σ j w ≤ 4446 * ((j : Int) + 1)) ∧ (0 < WW σ j w → 0 ≤ RR σ j w) := by
  intro j
  induction j with
  | zero =>
    intro hj w hw
    have h := flt_in hO (w := w) (n := ntj σ 0) hw (ntj_in hO hj)
    simp only [RR]
    constructor
    · omega
    · intro _; omega
  | succ j ih =>
    intro hj w hw
    have ih := ih (by omega)
    have h1 := flt_in hO (w := w) (n := ntj σ (j + 1)) hw (ntj_in hO hj)
    have hf : ∀ k : Nat, k < 64 → qW σ j (k : Int) = true → 0 ≤ flt σ w (ntj σ (j + 1)) + eff σ w (k : Int) + RR σ j (k : Int) ∧ flt σ w (ntj σ (j + 1)) + eff σ w (k : Int) + RR σ j (k : Int) ≤ 4446 * (((j + 1 : Nat) : Int) + 1) := by
      intro k hk hq
      have h2 := ih (k : Int) (by omega)
      have h3 := h2.2 (of_decide_eq_true hq)
      have h4 := eff_in hO (a := w) (b := (k : Int)) hw (by omega)
      omega
    have hM := mbs_in (q := qW σ j) (f := fun v => flt σ w (ntj σ (j + 1)) + eff σ w v + RR σ j v) (b := -6) (M := 4446 * (((j + 1 : Nat) : Int) + 1)) (by omega) 64 hf 64 (by omega)
    refine ⟨hM, fun hW => ?_⟩
    rcases mbs_char (q := qW σ j) (f := fun v => flt σ w (ntj σ (j + 1)) + eff σ w v + RR σ j v) 64 (fun k hk hq => (hf k hk hq).1) with ⟨h5, _⟩ | ⟨⟨k, hk, hq, he⟩, _⟩
    · exfalso
      have e := (WW_sd hW).2
      have hz : ∀ N : Nat, N ≤ 64 → cnt (fun v => sd σ v (ntj σ j)) N * PR σ j = 0 := by
        intro N
        induction N with
        | zero => intro _; simp [cnt]
        | succ N ihN =>
          intro hN
          rw [WW_step hO (fun hh => h5 N (by omega) (decide_eq_true hh))]
          exact ihN (by omega)
      have := hz 64 (by omega)
      have e2 : PR σ (j + 1) = 0 := this
      omega
    · have := (hf k hk hq).1
      show 0 ≤ mbs (qW σ j) (fun v => flt σ w (ntj σ (j + 1)) + eff σ w v + RR σ j v) (-6) 64
      rw [he]
      exact this
/-- what the three rows hold of a place: the j-th from the last -/
def LAY (σ gr : Int → Int) (gw gl : Int → Int64) (j : Nat) : Prop := ∀ v : Int, 0 ≤ v → v < 64 → gw (64 * (σ 9 - 1 - (j : Int)) + v) = lW (WW σ j v) ∧ (sd σ v (ntj σ j) = true → gr (64 * (σ 9 - 1 - (j : Int)) + v) = RR σ j v ∧ gl (64 * (σ 9 - 1 - (j : Int)) + v) = TT σ j v)
def LEAST (σ : Int → Int) : Int := if σ 9 = 0 then 0 else mbs (qW σ (σ 9 - 1).toNat) (RR σ (σ 9 - 1).toNat) (-6) 64
