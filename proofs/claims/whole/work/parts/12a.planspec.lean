/-! the planner's own scans -/
def cmin (f : Int → Int) : Nat → Int
  | 0 => 1000000
  | i + 1 => if f (i : Int) < cmin f i then f (i : Int) else cmin f i
theorem cmin_s {f : Int → Int} {i : Nat} {y : Int} (e : y = cmin f i) : cmin f (i + 1) = if f (i : Int) < y then f (i : Int) else y := by subst e; rfl
theorem cmin_in {f : Int → Int} : ∀ n : Nat, (∀ i : Nat, i < n → 0 ≤ f (i : Int)) → 0 ≤ cmin f n ∧ cmin f n ≤ 1000000 := by
  intro n
  induction n with
  | zero => intro _; simp [cmin]
  | succ n ih =>
    intro h
    have h1 := ih (fun i hi => h i (by omega))
    have h2 := h n (by omega)
    simp only [cmin]
    split <;> omega
def ctie (f : Int → Int) (T : Int → Int64) : Nat → Int64
  | 0 => 0
  | i + 1 => if f (i : Int) < cmin f i then T (i : Int) else if f (i : Int) = cmin f i then ctie f T i + T (i : Int) else ctie f T i
theorem ctie_s {f : Int → Int} {T : Int → Int64} {i : Nat} {y : Int} {z : Int64} (ey : y = cmin f i) (ez : z = ctie f T i) : ctie f T (i + 1) = if f (i : Int) < y then T (i : Int) else if f (i : Int) = y then z + T (i : Int) else z := by subst ey; subst ez; rfl
def pmI (g : Int → Int) : Nat → Int
  | 0 => 1
  | k + 1 => pmI g k * g (k : Int)
theorem pmI_in {g : Int → Int} : ∀ k : Nat, k ≤ 12 → (∀ i : Nat, i < k → 0 ≤ g (i : Int) ∧ g (i : Int) ≤ 8) → 0 ≤ pmI g k ∧ pmI g k ≤ 68719476736 := by
  have key : ∀ k : Nat, (∀ i : Nat, i < k → 0 ≤ g (i : Int) ∧ g (i : Int) ≤ 8) → 0 ≤ pmI g k ∧ pmI g k ≤ ((8 ^ k : Nat) : Int) := by
    intro k
    induction k with
    | zero => intro _; simp [pmI]
    | succ k ih =>
      intro h
      have h1 := mul_in (ih (fun i hi => h i (by omega))) (h k (by omega))
      simp only [pmI]
      rw [Nat.pow_succ]
      omega
  intro k hk h
  have h1 := key k h
  have h2 : 8 ^ k ≤ 8 ^ 12 := Nat.pow_le_pow_right (by omega) hk
  have h3 : 8 ^ 12 = 68719476736 := by decide +kernel
  omega
def wF (σ gW go : Int → Int) (c0 q : Int) : Int → Int := fun i => eff σ (gW c0) (gW (8 * (q + 1) + i)) + go (8 * (q + 1) + i)
def wC (σ gf gW go : Int → Int) (c0 q : Int) : Int := if q + 1 < σ 9 then cmin (wF σ gW go c0 q) (gf (q + 1)).toNat else 0
def wT (σ gf gW go : Int → Int) (gt : Int → Int64) (c0 q : Int) : Int64 := if q + 1 < σ 9 then ctie (wF σ gW go c0 q) (fun i => gt (8 * (q + 1) + i)) (gf (q + 1)).toNat else 1
def lcC (ps : Int) (gf go : Int → Int) : Int := if ps = 0 then 0 else cmin go (gf 0).toNat
/-! sets of up to eight, as bits -/
def mkb (q : Int → Bool) : Int := (if q 0 then 1 else 0) + (if q 1 then 2 else 0) + (if q 2 then 4 else 0) + (if q 3 then 8 else 0) + (if q 4 then 16 else 0) + (if q 5 then 32 else 0) + (if q 6 then 64 else 0) + (if q 7 then 128 else 0)
theorem mkb_cong {q r : Int → Bool} (h : ∀ i : Int, 0 ≤ i → i < 8 → q i = r i) : mkb q = mkb r := by
  unfold mkb
  rw [h 0 (by omega) (by omega), h 1 (by omega) (by omega), h 2 (by omega) (by omega), h 3 (by omega) (by omega), h 4 (by omega) (by omega), h 5 (by omega) (by omega), h 6 (by omega) (by omega), h 7 (by omega) (by omega)]
theorem mkb_in (q : Int → Bool) : 0 ≤ mkb q ∧ mkb q < 256 := by
  unfold mkb
  refine ⟨?_, ?_⟩ <;> ((repeat' split) <;> omega)
theorem fnd_cong {q r : Int → Bool} : ∀ N : Nat, (∀ i : Nat, i < N → q (i : Int) = r (i : Int)) → fnd q N = fnd r N := by
  intro N
  induction N with
  | zero => intro _; rfl
  | succ N ih =>
    intro h
    simp only [fnd]
    rw [ih (fun i hi => h i (by omega)), h N (by omega)]
def bq (a b c d e f g h : Bool) : Int → Bool := fun i => if i = 0 then a else if i = 1 then b else if i = 2 then c else if i = 3 then d else if i = 4 then e else if i = 5 then f else if i = 6 then g else h
theorem bq_of (q : Int → Bool) : ∀ i : Int, 0 ≤ i → i < 8 → q i = bq (q 0) (q 1) (q 2) (q 3) (q 4) (q 5) (q 6) (q 7) i := by
  intro i h0 h1
  rcases (show i = 0 ∨ i = 1 ∨ i = 2 ∨ i = 3 ∨ i = 4 ∨ i = 5 ∨ i = 6 ∨ i = 7 by omega) with h | h | h | h | h | h | h | h <;> subst h <;> rfl
theorem or_all : ∀ (a b c d e f g h : Bool) (j : Fin 8), zI (mkb (bq a b c d e f g h)) ||| (zI 1 <<< (zI ((j.val : Nat) : Int) &&& 31)) = zI (mkb (fun i => bq a b c d e f g h i || decide (i = ((j.val : Nat) : Int)))) := by decide +kernel
theorem bit_all : ∀ (a b c d e f g h : Bool) (j : Fin 8), (zI (mkb (bq a b c d e f g h)) >>> (zI ((j.val : Nat) : Int) &&& 31)) &&& zI 1 = zI (zB (bq a b c d e f g h ((j.val : Nat) : Int) = true)) := by decide +kernel
theorem low_all : ∀ (a b c d e f g h : Bool), zI (mkb (bq a b c d e f g h)) &&& zI (-(mkb (bq a b c d e f g h))) = zI (mkb (fun i => decide (i = fnd (bq a b c d e f g h) 8))) := by decide +kernel
theorem bcn_all : ∀ (a b c d e f g h : Bool), bcI (mkb (bq a b c d e f g h)) = cnt (bq a b c d e f g h) 8 := by decide +kernel
theorem mk_or (q : Int → Bool) {j : Int} (h : 0 ≤ j ∧ j < 8) : zI (mkb q) ||| (zI 1 <<< (zI j &&& 31)) = zI (mkb (fun i => q i || decide (i = j))) := by
  have k := or_all (q 0) (q 1) (q 2) (q 3) (q 4) (q 5) (q 6) (q 7) ⟨j.toNat, by omega⟩
  simp only [show ((j.toNat : Nat) : Int) = j by omega] at k
  rw [mkb_cong (bq_of q), k]
  exact congrArg zI (mkb_cong (fun i h0 h1 => by rw [← bq_of q i h0 h1]))
theorem mk_bit (q : Int → Bool) {j : Int} (h : 0 ≤ j ∧ j < 8) : (zI (mkb q) >>> (zI j &&& 31)) &&& zI 1 = zI (zB (q j = true)) := by
  have k := bit_all (q 0) (q 1) (q 2) (q 3) (q 4) (q 5) (q 6) (q 7) ⟨j.toNat, by omega⟩
  simp only [show ((j.toNat : Nat) : Int) = j by omega] at k
  rw [mkb_cong (bq_of q), k]
  exact congrArg zI (zB_congr (by rw [← bq_of q j h.1 h.2]))
theorem mk_low (q : Int → Bool) : zI (mkb q) &&& zI (-(mkb q)) = zI (mkb (fun i => decide (i = fnd q 8))) := by
  have k := low_all (q 0) (q 1) (q 2) (q 3) (q 4) (q 5) (q 6) (q 7)
  rw [mkb_cong (bq_of q), k, fnd_cong 8 (fun i hi => (bq_of q (i : Int) (by omega) (by omega)).symm)]
theorem mk_cnt (q : Int → Bool) : bcI (mkb q) = cnt q 8 := by
  have k := bcn_all (q 0) (q 1) (q 2) (q 3) (q 4) (q 5) (q 6) (q 7)
  rw [mkb_cong (bq_of q), k, cnt_cong 8 (fun i hi => (bq_of q (i : Int) (by omega) (by omega)).symm)]
theorem mk_one {a : Int} (h : 0 ≤ a ∧ a < 8) : bcI (mkb (fun i => decide (i = a)) - 1) = a ∧ 0 < mkb (fun i => decide (i = a)) ∧ mkb (fun i => decide (i = a)) ≤ 128 := by
  rcases (show a = 0 ∨ a = 1 ∨ a = 2 ∨ a = 3 ∨ a = 4 ∨ a = 5 ∨ a = 6 ∨ a = 7 by omega) with h | h | h | h | h | h | h | h <;> subst h <;> decide +kernel
theorem zB_1 {P : Prop} [Decidable P] : zB P = 1 ↔ P := by
  unfold zB; split <;> simp_all
def anyB (f : Int → Bool) : Nat → Bool
  | 0 => false
  | k + 1 => anyB f k || f (k : Int)
def mk0 (ps : Int) (gf go : Int → Int) : Int → Bool := fun i => decide (i < gf 0) && decide (go i = lcC ps gf go)
def mkN (σ gf gW gb go : Int → Int) (M : Int → Bool) (q : Int) : Int → Bool := fun j => decide (j < gf (q + 1)) && anyB (fun i => M i && decide (eff σ (gW (8 * q + i)) (gW (8 * (q + 1) + j)) + go (8 * (q + 1) + j) = gb (8 * q + i))) (gf q).toNat
def MK (σ : Int → Int) (ps : Int) (gf gW gb go : Int → Int) : Nat → Int → Bool
  | 0 => mk0 ps gf go
  | p + 1 => mkN σ gf gW gb go (MK σ ps gf gW gb go p) (p : Int)
def LM (σ : Int → Int) (ps : Int) (gf gW gb go : Int → Int) : Nat → Int
  | 0 => fnd (mk0 ps gf go) 8
  | p + 1 => fnd (mkN σ gf gW gb go (fun i => decide (i = LM σ ps gf gW gb go p)) (p : Int)) 8
theorem MK_s (σ : Int → Int) (ps : Int) (gf gW gb go : Int → Int) (k : Nat) : MK σ ps gf gW gb go (k + 1) = mkN σ gf gW gb go (MK σ ps gf gW gb go k) (k : Int) := rfl
theorem LM_s (σ : Int → Int) (ps : Int) (gf gW gb go : Int → Int) (k : Nat) : LM σ ps gf gW gb go (k + 1) = fnd (mkN σ gf gW gb go (fun i => decide (i = LM σ ps gf gW gb go k)) (k : Int)) 8 := rfl
theorem mk_stepn {q : Int → Bool} {k : Nat} (h : ¬ q (k : Int) = true) : mkb (fun i => decide (i < (k : Int)) && q i) = mkb (fun i => decide (i < ((k + 1 : Nat) : Int)) && q i) := by
  apply mkb_cong
  intro i _ _
  have h2 : q (k : Int) = false := by simpa using h
  by_cases hik : i = (k : Int)
  · subst hik; rw [h2]; simp
  · have e : decide (i < (k : Int)) = decide (i < ((k + 1 : Nat) : Int)) := decide_eq_decide.mpr (by omega)
    rw [e]
theorem mk_stepy {q : Int → Bool} {k : Nat} (h : q (k : Int) = true) : mkb (fun i => (decide (i < (k : Int)) && q i) || decide (i = (k : Int))) = mkb (fun i => decide (i < ((k + 1 : Nat) : Int)) && q i) := by
  apply mkb_cong
  intro i _ _
  by_cases hik : i = (k : Int)
  · subst hik
    rw [h, decide_eq_true (show ((k : Int) : Int) = (k : Int) from rfl), decide_eq_true (show (k : Int) < ((k + 1 : Nat) : Int) by omega)]
    simp
  · have e : decide (i < (k : Int)) = decide (i < ((k + 1 : Nat) : Int)) := decide_eq_decide.mpr (by omega)
    have e2 : decide (i = (k : Int)) = false := decide_eq_false hik
    rw [e, e2, Bool.or_false]
theorem mk_none (q : Int → Bool) : mkb (fun i => decide (i < ((0 : Nat) : Int)) && q i) = 0 := by
  rw [mkb_cong (r := fun _ => false) (fun i h0 _ => by rw [decide_eq_false (show ¬ i < ((0 : Nat) : Int) by omega), Bool.false_and])]
  rfl
/-! marks over pairs: rows first, then places -/
theorem any_n {f : Int → Bool} {k : Nat} (h : ¬ f (k : Int) = true) : anyB f (k + 1) = anyB f k := by
  have h2 : f (k : Int) = false := by simpa using h
  simp [anyB, h2]
def cst (σ gW gb go : Int → Int) (M : Int → Bool) (q j : Int) : Int → Bool := fun i => M i && decide (eff σ (gW (8 * q + i)) (gW (8 * (q + 1) + j)) + go (8 * (q + 1) + j) = gb (8 * q + i))
theorem mk_out0 (n : Int) (f : Int → Int → Bool) : mkb (fun j => decide (j < n) && anyB (f j) 0) = 0 := by
  rw [mkb_cong (r := fun _ => false) (fun i _ _ => by simp [anyB])]
  rfl
theorem mk_in0 (P R : Int → Bool) : mkb P = mkb (fun j => P j || (decide (j < ((0 : Nat) : Int)) && R j)) := by
  apply mkb_cong
  intro i h0 _
  rw [decide_eq_false (show ¬ i < ((0 : Nat) : Int) by omega), Bool.false_and, Bool.or_false]
theorem mk_inn (P : Int → Bool) {R : Int → Bool} {k : Nat} (h : ¬ R (k : Int) = true) : mkb (fun j => P j || (decide (j < (k : Int)) && R j)) = mkb (fun j => P j || (decide (j < ((k + 1 : Nat) : Int)) && R j)) := by
  apply mkb_cong
  intro i _ _
  have h2 : R (k : Int) = false := by simpa using h
  by_cases hik : i = (k : Int)
  · subst hik; rw [h2]; simp
  · have e : decide (i < (k : Int)) = decide (i < ((k + 1 : Nat) : Int)) := decide_eq_decide.mpr (by omega)
    rw [e]
theorem mk_iny (P : Int → Bool) {R : Int → Bool} {k : Nat} (h : R (k : Int) = true) : mkb (fun j => (P j || (decide (j < (k : Int)) && R j)) || decide (j = (k : Int))) = mkb (fun j => P j || (decide (j < ((k + 1 : Nat) : Int)) && R j)) := by
  apply mkb_cong
  intro i _ _
  by_cases hik : i = (k : Int)
  · subst hik
    rw [h, decide_eq_true (show ((k : Int) : Int) = (k : Int) from rfl), decide_eq_true (show (k : Int) < ((k + 1 : Nat) : Int) by omega)]
    simp
  · have e : decide (i < (k : Int)) = decide (i < ((k + 1 : Nat) : Int)) := decide_eq_decide.mpr (by omega)
    have e2 : decide (i = (k : Int)) = false := decide_eq_false hik
    rw [e, e2, Bool.or_false]
theorem mk_out (n : Int) (f : Int → Int → Bool) (k : Nat) : mkb (fun j => (decide (j < n) && anyB (f j) k) || (decide (j < n) && f j (k : Int))) = mkb (fun j => decide (j < n) && anyB (f j) (k + 1)) := by
  apply mkb_cong
  intro i _ _
  simp only [anyB]
  cases decide (i < n) <;> simp
