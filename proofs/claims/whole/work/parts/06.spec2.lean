/-! scans, one step on -/
theorem cnt_s {q : Int → Bool} {k : Nat} {x : Int} (e : x = cnt q k) : cnt q (k + 1) = x + (if q (k : Int) = true then 1 else 0) := by subst e; rfl
theorem amn_s {q : Int → Bool} {f : Int → Int} {k : Nat} {x : Int} (e : x = amn q f k) : amn q f (k + 1) = if q (k : Int) = true ∧ (x < 0 ∨ f (k : Int) < f x) then (k : Int) else x := by subst e; rfl
theorem mbs_s {q : Int → Bool} {f : Int → Int} {b y : Int} {k : Nat} (e : y = mbs q f b k) : mbs q f b (k + 1) = if q (k : Int) = true then (if y < 0 ∨ f (k : Int) < y then f (k : Int) else y) else y := by subst e; rfl
def A_ways (σ : Int → Int) (n i : Int) : Int := if 0 ≤ n ∧ n ≤ 36 then (if i < -1 then -2 else if i = -1 then cnt (fun w => sd σ w n) 64 else fnd (fun w => sd σ w n && decide (cnt (fun v => sd σ v n) w.toNat = i)) 64) else -2
def A_truest (σ : Int → Int) (n : Int) : Int := if 0 ≤ n ∧ n ≤ 36 then amn (fun w => sd σ w n) (fun w => aI (off σ w n)) 64 else -2
def A_range (σ : Int → Int) (q : Int) : Int := if -1 ≤ q ∧ q ≤ 64 then cnt (fun n => decide (if q = -1 then 0 < cnt (fun w => sd σ w n) 64 else cnt (fun w => sd σ w n) 64 = q)) 37 else -2
def tro (σ : Int → Int) (a b : Int) : Nat → Int
  | 0 => -6
  | k + 1 => if sd σ (k : Int) a = true then mbs (fun v => sd σ v b) (fun v => eff σ (k : Int) v) (tro σ a b k) 64 else tro σ a b k
theorem tro_s {σ : Int → Int} {a b x : Int} {k : Nat} (e : x = tro σ a b k) : tro σ a b (k + 1) = if sd σ (k : Int) a = true then mbs (fun v => sd σ v b) (fun v => eff σ (k : Int) v) x 64 else x := by subst e; rfl
theorem tro_in {σ : Int → Int} (h : Ok σ) (a b : Int) : ∀ k : Nat, k ≤ 64 → -6 ≤ tro σ a b k ∧ tro σ a b k ≤ 126 := by
  intro k
  induction k with
  | zero => intro _; simp [tro]
  | succ k ih =>
    intro hk
    have h1 := ih (by omega)
    simp only [tro]
    split
    · exact mbs_in (M := 126) h1 64 (fun j hj _ => eff_in h (by omega) (by omega)) 64 (by omega)
    · exact h1
def A_trill (σ : Int → Int) (a b : Int) : Int := if 0 ≤ a ∧ a ≤ 36 then (if 0 ≤ b ∧ b ≤ 36 then tro σ a b 64 else -2) else -2
def A_awk (σ : Int → Int) (d t : Int) : Int := if 1 ≤ d ∧ d ≤ 12 then (if 0 ≤ t ∧ t ≤ 99 then cnt (fun n => decide (t < tro σ n (n + d) 64)) (37 - d).toNat else -2) else -2
def nrm (σ : Int → Int) (n : Int) : Int := mbs (fun _ => true) (fun w => aI (off σ w n)) (-6) 64
def ofp (σ : Int → Int) : Nat → Int
  | 0 => 0
  | k + 1 => ofp σ k + nrm σ (σ (10 + (k : Int)))
theorem ofp_s {σ : Int → Int} {x : Int} {k : Nat} (e : x = ofp σ k) : ofp σ (k + 1) = x + nrm σ (σ (10 + (k : Int))) := by subst e; rfl
theorem nrm_in {σ : Int → Int} (h : Ok σ) {n : Int} (hn : 0 ≤ n ∧ n ≤ 36) : -6 ≤ nrm σ n ∧ nrm σ n ≤ 4800 := by
  have k := mbs_in (q := fun _ => true) (f := fun w => aI (off σ w n)) (b := -6) (M := 4800) (by omega) 64 (fun j hj _ => aI_in (by have := off_in h (w := (j : Int)) (n := n) (by omega) hn; omega)) 64 (by omega)
  exact k
theorem ofp_in {σ : Int → Int} (h : Ok σ) : ∀ k : Nat, k ≤ 12 → -72 ≤ ofp σ k ∧ ofp σ k ≤ 57600 := by
  have key : ∀ k : Nat, k ≤ 12 → -6 * (k : Int) ≤ ofp σ k ∧ ofp σ k ≤ 4800 * (k : Int) := by
    intro k
    induction k with
    | zero => intro _; simp [ofp]
    | succ k ih =>
      intro hk
      have h1 := ih (by omega)
      have h2 := nrm_in h (h.2.2.2.2.2.2.2.2.2.2 (k : Int) (by omega) (by omega))
      simp only [ofp]
      omega
  intro k hk
  have := key k hk
  omega
def A_ofp (σ : Int → Int) : Int := ofp σ (σ 9).toNat
theorem A_ofp_in {σ : Int → Int} (h : Ok σ) : -72 ≤ A_ofp σ ∧ A_ofp σ ≤ 57600 := ofp_in h _ (by have := h.2.2.2.2.2.2.2.2.2.1; omega)
theorem upI_uu {α : Type} (g : Int → α) (i : Int) (x y : α) : upI (upI g i x) i y = upI g i y := by
  funext j; unfold upI; by_cases h : j = i <;> simp [h]
theorem upI_self {α : Type} (g : Int → α) (i : Int) : upI g i (g i) = g := by
  funext j; unfold upI; by_cases h : j = i <;> simp [h]
theorem Ok_valve {σ : Int → Int} (h : Ok σ) {q v : Int} (hq : 0 ≤ q ∧ q ≤ 2) (hv : 0 ≤ v ∧ v ≤ 400) : Ok (upI σ (1 + q) v) := by
  obtain ⟨h0, h1, h2, h3, h4, h5, h6, h7, h8, h9, h10⟩ := h
  unfold Ok upI
  refine ⟨?_, ?_, ?_, ?_, ?_, ?_, ?_, ?_, ?_, ?_, ?_⟩
  · rw [if_neg (by omega)]; exact h0
  · split <;> assumption
  · split <;> assumption
  · split <;> assumption
  · rw [if_neg (by omega)]; exact h4
  · rw [if_neg (by omega)]; exact h5
  · rw [if_neg (by omega)]; exact h6
  · rw [if_neg (by omega)]; exact h7
  · rw [if_neg (by omega)]; exact h8
  · rw [if_neg (by omega)]; exact h9
  · intro j a b; rw [if_neg (by omega)]; exact h10 j a b
def tuB (F : Int → Int) : Nat → Int × Int
  | 0 => (-6, 0)
  | k + 1 => if (tuB F k).1 < 0 ∨ F (5 * (k : Int)) < (tuB F k).2 then (5 * (k : Int), F (5 * (k : Int))) else tuB F k
theorem tuB_s {F : Int → Int} {k : Nat} {b t : Int} (e : (b, t) = tuB F k) : tuB F (k + 1) = if b < 0 ∨ F (5 * (k : Int)) < t then (5 * (k : Int), F (5 * (k : Int))) else (b, t) := by
  simp only [tuB, ← e]
abbrev tuF (σ : Int → Int) (q : Int) : Int → Int := fun v => A_ofp (upI σ (1 + q) v)
def A_tune (σ : Int → Int) (q v : Int) : Int := if 0 ≤ q ∧ q ≤ 2 then (if 0 ≤ v ∧ v ≤ 1 then (if σ 0 = 1 then -3 else if v = 0 then (tuB (tuF σ q) 81).1 else (tuB (tuF σ q) 81).2) else -2) else -1
def A_dumb (σ : Int → Int) : Int := fnd (fun p => decide (cnt (fun w => sd σ w (σ (10 + p))) 64 = 0)) (σ 9).toNat
def cpI (g f : Int → Int) (b n : Int) : Int → Int := fun c => if b ≤ c ∧ c < b + n then f (c - b) else g c
theorem cpI_0 (g f : Int → Int) (b : Int) : cpI g f b 0 = g := by funext c; unfold cpI; rw [if_neg (by omega)]
theorem cpI_s (g f : Int → Int) (b n : Int) (h : 0 ≤ n) : upI (cpI g f b n) (b + n) (f n) = cpI g f b (n + 1) := by
  funext c; unfold upI cpI
  by_cases h1 : c = b + n
  · rw [if_pos h1, if_pos (by omega)]; congr 1; omega
  · rw [if_neg h1]
    by_cases h2 : b ≤ c ∧ c < b + n
    · rw [if_pos h2, if_pos (by omega)]
    · rw [if_neg h2, if_neg (by omega)]
def rsI (g f : Int → Int) (b n : Int) : Int → Int := fun c => if 0 ≤ c ∧ c < n then f (b + c) else g c
theorem rsI_0 (g f : Int → Int) (b : Int) : rsI g f b 0 = g := by funext c; unfold rsI; rw [if_neg (by omega)]
theorem rsI_s (g f : Int → Int) (b n : Int) (h : 0 ≤ n) : upI (rsI g f b n) n (f (b + n)) = rsI g f b (n + 1) := by
  funext c; unfold upI rsI
  by_cases h1 : c = n
  · rw [if_pos h1, if_pos (by omega), h1]
  · rw [if_neg h1]
    by_cases h2 : 0 ≤ c ∧ c < n
    · rw [if_pos h2, if_pos (by omega)]
    · rw [if_neg h2, if_neg (by omega)]
def A_image (q : Int) : Int := if 0 ≤ q ∧ q ≤ 1 then 1 else -2
def S_imi (gi σ : Int → Int) (q : Int) : Int → Int := if 0 ≤ q ∧ q ≤ 1 then cpI gi σ (22 * q) 22 else gi
def S_imk (gk : Int → Int) (q : Int) : Int → Int := if 0 ≤ q ∧ q ≤ 1 then upI gk q 1 else gk
def A_restore (gk : Int → Int) (q : Int) : Int := if 0 ≤ q ∧ q ≤ 1 then (if gk q = 0 then -3 else 1) else -2
def S_restore (σ gi gk : Int → Int) (q : Int) : Int → Int := if 0 ≤ q ∧ q ≤ 1 then (if gk q = 0 then σ else rsI σ gi (22 * q) 22) else σ
def A_count (σ gk : Int → Int) (q : Int) : Int := if 10 ≤ q ∧ q ≤ 14 then σ (4 + q - 10) else if 20 ≤ q ∧ q ≤ 22 then σ (1 + q - 20) else if 30 ≤ q ∧ q ≤ 41 then (if 0 ≤ q - 30 ∧ q - 30 ≤ σ 9 - 1 then σ (10 + q - 30) else -6) else if q = 0 then σ 0 else if q = 1 then σ 9 else if q = 2 then (if gk 0 = 0 then 0 else 1) + (if gk 1 = 0 then 0 else 2) else -2
section ZZ
variable {p : Program} {l : Launch} {e : Env} {R : Room} {s : State} {m : MethodId} {args : Array Value} {below : List Frame} {meth : Method} {c : Code} {H : Heap} {locs : List Loc} {cells slots : Nat} {Q : State → Prop}
variable {cc : ByteArray} {pc : Nat} {ls : Array Slot} {rest : List Value} {D : va_G} {cl : List vw_C} {A : Nat → Prop} {a : Nat} {tys : List (ClassId × FieldType)} {ws : va_W} {H0 : Heap}
theorem z_zast (hx : p.tables.exec = Jvm.exec) (hb : c.code = cc) (hK : va_K D cl tys s) (hP : va_P D cl ws H) (hD : va_D A ws) (hS : va_S A H0 H locs) (q0 t0 : Nat) {cA : ClassId} {n : Nat} {g : Int → Int} {k x : Int} (ha : ws[q0]? = some (a, .inl (cA, n, .inl (zF g)))) (ht : tys[t0]? = some (cA, .boolean)) (hk : (0 ≤ k ∧ k < (n : Int)) ∧ n ≤ 2147483647) (hnar : vp_nar .boolean (zI x) = zI x) (hdg : decode cc pc = .ok (.bastore, 1)) (kk : ∀ (H1 : Heap) (locs1 : List Loc), va_P D cl (ws.set q0 (a, .inl (cA, n, .inl (zF (upI g k x))))) H1 → va_D A (ws.set q0 (a, .inl (cA, n, .inl (zF (upI g k x))))) → va_S A H0 H1 locs1 → W p l e R s m args below meth c H1 locs1 cells slots Q (F0 m (pc + 1) ls rest)) : W p l e R s m args below meth c H locs cells slots Q (F0 m pc ls (.int (zI x) :: .int (zI k) :: .ref a :: rest)) := va_zast hx hb hK hP hD hS q0 t0 ha ht (zI_in hk.1.1 hk.1.2 hk.2) hdg (by rw [hnar, zF_up hk.1.1 (by omega)]; exact kk)
end ZZ
