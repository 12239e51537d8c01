/-! the picture: a state is σ : Int → Int (the reference's row of 22 numbers); what the calls answer of it -/
theorem zc_cast (k : Nat) : ((k + 1 : Nat) : Int) = (k : Int) + 1 := rfl
theorem z_bit0 {s : Int} (h : 0 ≤ s ∧ s < 8) : (zI s >>> (zI 0 &&& 31)) &&& zI 1 = zI (s % 2) := by
  rcases (show s = 0 ∨ s = 1 ∨ s = 2 ∨ s = 3 ∨ s = 4 ∨ s = 5 ∨ s = 6 ∨ s = 7 by omega) with rfl | rfl | rfl | rfl | rfl | rfl | rfl | rfl <;> decide +kernel
theorem z_bit1 {s : Int} (h : 0 ≤ s ∧ s < 8) : (zI s >>> (zI 1 &&& 31)) &&& zI 1 = zI (s / 2 % 2) := by
  rcases (show s = 0 ∨ s = 1 ∨ s = 2 ∨ s = 3 ∨ s = 4 ∨ s = 5 ∨ s = 6 ∨ s = 7 by omega) with rfl | rfl | rfl | rfl | rfl | rfl | rfl | rfl <;> decide +kernel
theorem z_bit2 {s : Int} (h : 0 ≤ s ∧ s < 8) : (zI s >>> (zI 2 &&& 31)) &&& zI 1 = zI (s / 4 % 2) := by
  rcases (show s = 0 ∨ s = 1 ∨ s = 2 ∨ s = 3 ∨ s = 4 ∨ s = 5 ∨ s = 6 ∨ s = 7 by omega) with rfl | rfl | rfl | rfl | rfl | rfl | rfl | rfl <;> decide +kernel
theorem z_and1 {s : Int} (h : 0 ≤ s ∧ s < 8) : zI s &&& zI 1 = zI (s % 2) := by
  rcases (show s = 0 ∨ s = 1 ∨ s = 2 ∨ s = 3 ∨ s = 4 ∨ s = 5 ∨ s = 6 ∨ s = 7 by omega) with rfl | rfl | rfl | rfl | rfl | rfl | rfl | rfl <;> decide +kernel
def bitsI (s : Int) : Int := s % 2 + s / 2 % 2 + s / 4 % 2
def xorI (a b : Int) : Int := ((a.toNat ^^^ b.toNat : Nat) : Int)
theorem xorI_in {a b : Int} (ha : 0 ≤ a ∧ a < 8) (hb : 0 ≤ b ∧ b < 8) : 0 ≤ xorI a b ∧ xorI a b < 8 := by
  unfold xorI
  have h := Nat.xor_lt_two_pow (x := a.toNat) (y := b.toNat) (n := 3) (by omega) (by omega)
  omega
theorem z_xor {a b : Int} (ha : 0 ≤ a ∧ a < 8) (hb : 0 ≤ b ∧ b < 8) : zI a ^^^ zI b = zI (xorI a b) := by
  rcases (show a = 0 ∨ a = 1 ∨ a = 2 ∨ a = 3 ∨ a = 4 ∨ a = 5 ∨ a = 6 ∨ a = 7 by omega) with rfl | rfl | rfl | rfl | rfl | rfl | rfl | rfl <;>
  rcases (show b = 0 ∨ b = 1 ∨ b = 2 ∨ b = 3 ∨ b = 4 ∨ b = 5 ∨ b = 6 ∨ b = 7 by omega) with rfl | rfl | rfl | rfl | rfl | rfl | rfl | rfl <;> decide +kernel
theorem bitsI_in (s : Int) : 0 ≤ bitsI s ∧ bitsI s ≤ 3 := by unfold bitsI; omega
theorem aI_in {a b : Int} (h : -b ≤ a ∧ a ≤ b) : 0 ≤ aI a ∧ aI a ≤ b := by unfold aI; split <;> omega
theorem aI_nn (a : Int) : 0 ≤ aI a := by unfold aI; split <;> omega
theorem hi_in (j : Int) : 0 ≤ hi j ∧ hi j ≤ 3600 := by unfold hi; (repeat' split) <;> omega
/-- by how much a setting lowers -/
def low (σ : Int → Int) (s : Int) : Int := if σ 0 = 1 then 100 * s else s % 2 * σ 1 + s / 2 % 2 * σ 2 + s / 4 % 2 * σ 3 - σ 4 * (bitsI s * (bitsI s - 1) / 2)
def off (σ : Int → Int) (w n : Int) : Int := hi (w / 8) - low σ (w % 8) - 100 * n
abbrev okS (σ : Int → Int) (s : Int) : Prop := 0 ≤ s ∧ s ≤ (if σ 0 = 0 then 7 else 6)
abbrev okW (σ : Int → Int) (w : Int) : Prop := (0 ≤ w ∧ w ≤ 63) ∧ okS σ (w % 8)
def sd (σ : Int → Int) (w n : Int) : Bool := decide (okW σ w ∧ aI (off σ w n) ≤ σ 5)
/-- what every state that is reached keeps to -/
def Ok (σ : Int → Int) : Prop := (0 ≤ σ 0 ∧ σ 0 ≤ 1) ∧ (0 ≤ σ 1 ∧ σ 1 ≤ 400) ∧ (0 ≤ σ 2 ∧ σ 2 ≤ 400) ∧ (0 ≤ σ 3 ∧ σ 3 ≤ 400) ∧ (0 ≤ σ 4 ∧ σ 4 ≤ 50) ∧ (0 ≤ σ 5 ∧ σ 5 ≤ 99) ∧ (0 ≤ σ 6 ∧ σ 6 ≤ 9) ∧ (0 ≤ σ 7 ∧ σ 7 ≤ 9) ∧ (0 ≤ σ 8 ∧ σ 8 ≤ 9) ∧ (0 ≤ σ 9 ∧ σ 9 ≤ 12) ∧ ∀ j : Int, 0 ≤ j → j < 12 → 0 ≤ σ (10 + j) ∧ σ (10 + j) ≤ 36
theorem low_in {σ : Int → Int} (h : Ok σ) {s : Int} (hs : 0 ≤ s ∧ s < 8) : -150 ≤ low σ s ∧ low σ s ≤ 1200 := by
  obtain ⟨h0, h1, h2, h3, h4, -⟩ := h
  unfold low
  split
  · omega
  · rcases (show s = 0 ∨ s = 1 ∨ s = 2 ∨ s = 3 ∨ s = 4 ∨ s = 5 ∨ s = 6 ∨ s = 7 by omega) with rfl | rfl | rfl | rfl | rfl | rfl | rfl | rfl <;> simp [bitsI] <;> omega
theorem off_in {σ : Int → Int} (h : Ok σ) {w n : Int} (hw : 0 ≤ w ∧ w < 64) (hn : 0 ≤ n ∧ n ≤ 36) : -4800 ≤ off σ w n ∧ off σ w n ≤ 3750 := by
  have h1 := low_in h (s := w % 8) (by omega)
  have h2 := hi_in (w / 8)
  unfold off
  omega
/-- how many of the first k -/
def cnt (q : Int → Bool) : Nat → Int
  | 0 => 0
  | k + 1 => cnt q k + (if q (k : Int) then 1 else 0)
theorem cnt_in (q : Int → Bool) (k : Nat) : 0 ≤ cnt q k ∧ cnt q k ≤ k := by
  induction k with
  | zero => simp [cnt]
  | succ k ih => simp only [cnt]; split <;> omega
theorem cnt_y {q : Int → Bool} {k : Nat} (h : q (k : Int) = true) : cnt q (k + 1) = cnt q k + 1 := by simp [cnt, h]
theorem cnt_n {q : Int → Bool} {k : Nat} (h : ¬ q (k : Int) = true) : cnt q (k + 1) = cnt q k := by simp [cnt, h]
/-- the first below k, or -6 -/
def fnd (q : Int → Bool) : Nat → Int
  | 0 => -6
  | k + 1 => if 0 ≤ fnd q k then fnd q k else if q (k : Int) then (k : Int) else -6
theorem fnd_n {q : Int → Bool} {k : Nat} (h0 : fnd q k = -6) (h : ¬ q (k : Int) = true) : fnd q (k + 1) = -6 := by simp [fnd, h0, h]
theorem fnd_y {q : Int → Bool} {k : Nat} (h0 : fnd q k = -6) (h : q (k : Int) = true) : ∀ N : Nat, k < N → fnd q N = (k : Int) := by
  intro N
  induction N with
  | zero => intro h; omega
  | succ N ih =>
    intro hN
    by_cases hk : k = N
    · subst hk; simp [fnd, h0, h]
    · simp [fnd, ih (by omega)]
/-- which of the first k has the least f, or -6 -/
def amn (q : Int → Bool) (f : Int → Int) : Nat → Int
  | 0 => -6
  | k + 1 => if q (k : Int) = true ∧ (amn q f k < 0 ∨ f (k : Int) < f (amn q f k)) then (k : Int) else amn q f k
theorem amn_in (q : Int → Bool) (f : Int → Int) (k : Nat) : amn q f k = -6 ∨ (0 ≤ amn q f k ∧ amn q f k < k) := by
  induction k with
  | zero => exact Or.inl rfl
  | succ k ih => simp only [amn]; split <;> omega
/-- the least f of the first k that count, from b on (below 0: none yet) -/
def mbs (q : Int → Bool) (f : Int → Int) (b : Int) : Nat → Int
  | 0 => b
  | k + 1 => if q (k : Int) = true then (if mbs q f b k < 0 ∨ f (k : Int) < mbs q f b k then f (k : Int) else mbs q f b k) else mbs q f b k
theorem mbs_in {q : Int → Bool} {f : Int → Int} {b M : Int} (hb : -6 ≤ b ∧ b ≤ M) (N : Nat) (hf : ∀ k : Nat, k < N → q (k : Int) = true → 0 ≤ f (k : Int) ∧ f (k : Int) ≤ M) : ∀ k : Nat, k ≤ N → -6 ≤ mbs q f b k ∧ mbs q f b k ≤ M := by
  intro k
  induction k with
  | zero => intro _; exact hb
  | succ k ih =>
    intro hk
    have h1 := ih (by omega)
    simp only [mbs]
    split
    · rename_i hq
      have h2 := hf k (by omega) hq
      split <;> omega
    · exact h1
/-! what the calls answer (A_) and what they leave (S_) -/
def eff (σ : Int → Int) (a b : Int) : Int := σ 6 * (if σ 0 = 0 then bitsI (xorI (a % 8) (b % 8)) else aI (a % 8 - b % 8)) + σ 7 * aI (a / 8 - b / 8)
def flt (σ : Int → Int) (w n : Int) : Int := σ 8 * aI (off σ w n) / 10
theorem mul_in {a b A B : Int} (ha : 0 ≤ a ∧ a ≤ A) (hb : 0 ≤ b ∧ b ≤ B) : 0 ≤ a * b ∧ a * b ≤ A * B :=
  ⟨Int.mul_nonneg ha.1 hb.1, Int.le_trans (Int.mul_le_mul_of_nonneg_right ha.2 hb.1) (Int.mul_le_mul_of_nonneg_left hb.2 (by omega))⟩
theorem eff_in {σ : Int → Int} (h : Ok σ) {a b : Int} (ha : 0 ≤ a ∧ a < 64) (hb : 0 ≤ b ∧ b < 64) : 0 ≤ eff σ a b ∧ eff σ a b ≤ 126 := by
  obtain ⟨h0, h1, h2, h3, h4, h5, h6, h7, -⟩ := h
  unfold eff
  have k1 : 0 ≤ aI (a / 8 - b / 8) ∧ aI (a / 8 - b / 8) ≤ 7 := aI_in (by omega)
  have k2 := mul_in h7 k1
  have k3 : 0 ≤ (if σ 0 = 0 then bitsI (xorI (a % 8) (b % 8)) else aI (a % 8 - b % 8)) ∧ (if σ 0 = 0 then bitsI (xorI (a % 8) (b % 8)) else aI (a % 8 - b % 8)) ≤ 7 := by
    split
    · have := bitsI_in (xorI (a % 8) (b % 8)); omega
    · exact aI_in (by omega)
  have k4 := mul_in h6 k3
  omega
theorem flt_in {σ : Int → Int} (h : Ok σ) {w n : Int} (hw : 0 ≤ w ∧ w < 64) (hn : 0 ≤ n ∧ n ≤ 36) : 0 ≤ flt σ w n ∧ flt σ w n ≤ 4320 := by
  have h1 := off_in h hw hn
  have h2 : 0 ≤ aI (off σ w n) ∧ aI (off σ w n) ≤ 4800 := aI_in (by omega)
  have h3 := mul_in h.2.2.2.2.2.2.2.2.1 h2
  unfold flt
  omega
def A_horn (σ : Int → Int) (v : Int) : Int := if 0 ≤ v ∧ v ≤ 1 then σ 0 else -2
def S_horn (σ : Int → Int) (v : Int) : Int → Int := if 0 ≤ v ∧ v ≤ 1 then upI σ 0 v else σ
def A_valve (σ : Int → Int) (q v : Int) : Int := if 0 ≤ q ∧ q ≤ 2 then (if 0 ≤ v ∧ v ≤ 400 then σ (1 + q) else -2) else -1
def S_valve (σ : Int → Int) (q v : Int) : Int → Int := if 0 ≤ q ∧ q ≤ 2 then (if 0 ≤ v ∧ v ≤ 400 then upI σ (1 + q) v else σ) else σ
def A_rule (σ : Int → Int) (q v : Int) : Int := if 0 ≤ q ∧ q ≤ 4 then (if 0 ≤ v ∧ v ≤ tp q then σ (4 + q) else -2) else -2
def S_rule (σ : Int → Int) (q v : Int) : Int → Int := if 0 ≤ q ∧ q ≤ 4 then (if 0 ≤ v ∧ v ≤ tp q then upI σ (4 + q) v else σ) else σ
def A_lowers (σ : Int → Int) (t : Int) : Int := if okS σ t then low σ t + 1000 else -2
def A_off (σ : Int → Int) (w n : Int) : Int := if okW σ w then (if 0 ≤ n ∧ n ≤ 36 then off σ w n + 10000 else -2) else -2
def A_note (σ : Int → Int) (n : Int) : Int := if 0 ≤ n ∧ n ≤ 36 then (if σ 9 = 12 then -4 else σ 9) else -2
def S_note (σ : Int → Int) (n : Int) : Int → Int := if 0 ≤ n ∧ n ≤ 36 then (if σ 9 = 12 then σ else upI (upI σ (10 + σ 9) n) 9 (σ 9 + 1)) else σ
def A_set (σ : Int → Int) (q n : Int) : Int := if 0 ≤ q ∧ q ≤ σ 9 - 1 then (if 0 ≤ n ∧ n ≤ 36 then σ (10 + q) else -2) else -1
def S_set (σ : Int → Int) (q n : Int) : Int → Int := if 0 ≤ q ∧ q ≤ σ 9 - 1 then (if 0 ≤ n ∧ n ≤ 36 then upI σ (10 + q) n else σ) else σ
def A_effort (σ : Int → Int) (a b : Int) : Int := if okW σ a then (if okW σ b then eff σ a b else -2) else -2
