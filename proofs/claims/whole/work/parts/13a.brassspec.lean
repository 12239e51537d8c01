theorem tp_in (j : Int) : 9 ≤ tp j ∧ tp j ≤ 99 := by unfold tp; (repeat' split) <;> omega
theorem ke_or {a b q : Int} (ha : a = 0 ∨ a = 1) (hb : b = 0 ∨ b = 1) (hq : 0 ≤ q ∧ q ≤ 1) : zI (a + 2 * b) ||| (zI 1 <<< (zI q &&& 31)) = zI ((if q = 0 then 1 else a) + 2 * (if q = 1 then 1 else b)) := by
  rcases ha with rfl | rfl <;> rcases hb with rfl | rfl <;> rcases (show q = 0 ∨ q = 1 by omega) with rfl | rfl <;> decide +kernel
theorem ke_bit {a b q : Int} (ha : a = 0 ∨ a = 1) (hb : b = 0 ∨ b = 1) (hq : 0 ≤ q ∧ q ≤ 1) : (zI (a + 2 * b) >>> (zI q &&& 31)) &&& zI 1 = zI (if q = 0 then a else b) := by
  rcases ha with rfl | rfl <;> rcases hb with rfl | rfl <;> rcases (show q = 0 ∨ q = 1 by omega) with rfl | rfl <;> decide +kernel
def imF (t0 t1 : Nat) : Nat → Option Nat := fun j => if j = 0 then some t0 else some t1
def S_tau (τ σ : Int → Int) (q k : Int) : Int → Int := if q = k then σ else τ
section ZQ
variable {p : Program} {l : Launch} {e : Env} {R : Room} {s : State} {m : MethodId} {args : Array Value} {below : List Frame} {meth : Method} {c : Code} {H : Heap} {locs : List Loc} {cells slots : Nat} {Q : State → Prop}
variable {cc : ByteArray} {pc : Nat} {ls : Array Slot} {rest : List Value} {D : va_G} {cl : List vw_C} {A : Nat → Prop} {a : Nat} {tys : List (ClassId × FieldType)} {ws : va_W} {H0 : Heap}
theorem z_aldq (hx : p.tables.exec = Jvm.exec) (hb : c.code = cc) (hK : va_K D cl tys s) (hP : va_P D cl ws H) (q0 t0 : Nat) {cA : ClassId} {C : String} {n : Nat} {f : Nat → Option Nat} {k : Int} {r : Nat} (ha : ws[q0]? = some (a, .inl (cA, n, .inr (.inr (.inr (.inr f)))))) (ht : tys[t0]? = some (cA, .object C)) (hk : (0 ≤ k ∧ k < (n : Int)) ∧ n ≤ 2147483647) (hr : f k.toNat = some r) (hdg : decode cc pc = .ok (.aaload, 1))
    (kk : W p l e R s m args below meth c H locs cells slots Q (F0 m (pc + 1) ls (.ref r :: rest))) : W p l e R s m args below meth c H locs cells slots Q (F0 m pc ls (.int (zI k) :: .ref a :: rest)) := va_aldq hx hb hK hP q0 t0 ha ht (zI_in hk.1.1 hk.1.2 hk.2) hdg (by rw [zI_clamp hk.1.1 (by omega), hr]; exact kk)
end ZQ
theorem up_shift (σ : Int → Int) (o q v j : Int) : upI (fun j => σ (o + j)) q v j = upI σ (o + q) v (o + j) := by
  unfold upI
  by_cases h : j = q
  · rw [if_pos h, if_pos (by omega)]
  · rw [if_neg h, if_neg (by omega)]
def S_imT (τ σ : Int → Int) (q k : Int) : Int → Int := if (0 ≤ q ∧ q ≤ 1) ∧ q = k then σ else τ
def S_reT (σ τ0 τ1 gk : Int → Int) (q : Int) : Int → Int := if 0 ≤ q ∧ q ≤ 1 then (if gk q = 0 then σ else if q = 0 then τ0 else τ1) else σ
theorem imk_eq {gk : Int → Int} {q : Int} (hq : 0 ≤ q ∧ q ≤ 1) : S_imk gk q 0 + 2 * S_imk gk q 1 = (if q = 0 then 1 else gk 0) + 2 * (if q = 1 then 1 else gk 1) := by
  unfold S_imk
  rw [if_pos hq]
  unfold upI
  rcases (show q = 0 ∨ q = 1 by omega) with h | h <;> subst h <;> rfl
