/-! the class's side: rows in their lengths, copies, bits -/
theorem arrV_cong {c : ClassId} {n : Nat} {f g : Nat → Value} (h : ∀ j : Nat, j < n → f j = g j) : arrV c n f = arrV c n g := by
  unfold arrV
  have e : (fun j : Fin n => f j.val) = (fun j : Fin n => g j.val) := funext fun j => h j.val j.isLt
  rw [e]
theorem zP_arr {D : va_G} {cl : List vw_C} {ws : va_W} {H : Heap} (k : Nat) {a : Nat} {c : ClassId} {n : Nat} {g : Int → Int} (g' : Int → Int) (hP : va_P D cl ws H) (h : ws[k]? = some (a, .inl (c, n, .inl (zF g)))) (hg : ∀ j : Int, 0 ≤ j → j < (n : Int) → g j = g' j) : va_P D cl (ws.set k (a, .inl (c, n, .inl (zF g')))) H := by
  intro i q hq
  by_cases hik : k = i
  · subst hik
    have hl := (List.getElem?_eq_some_iff.mp h).1
    rw [List.getElem?_set_self hl] at hq
    cases hq
    have h1 : H[a]? = some (vp_cell c (n, .inl (zF g))) := hP k _ h
    show H[a]? = some (vp_cell c (n, .inl (zF g')))
    rw [h1, vp_cell_i, vp_cell_i]
    exact congrArg some (arrV_cong (fun j hj => by show Value.int (zI (g (j : Int))) = Value.int (zI (g' (j : Int))); rw [hg (j : Int) (by omega) (by omega)]))
  · rw [List.getElem?_set_ne hik] at hq
    exact hP i q hq
def cpA (g f : Int → Int) (n : Int) : Int → Int := fun c => if 0 ≤ c ∧ c < n then f c else g c
theorem zF_cpy {f g : Int → Int} {N : Nat} (hN : (N : Int) < 2147483648) : va_cpy (zF f) (zF g) (zI 0).toNatClampNeg (zI 0).toNatClampNeg (zI (N : Int)).toNatClampNeg = zF (cpA g f (N : Int)) := by
  have e0 : (zI 0).toNatClampNeg = 0 := by rw [zI_clamp (by omega) (by omega)]; rfl
  have e1 : (zI (N : Int)).toNatClampNeg = N := by rw [zI_clamp (by omega) hN]; omega
  funext k
  unfold va_cpy zF cpA
  rw [e0, e1]
  by_cases h : k < N
  · rw [if_pos (by omega), if_pos (by omega)]
    congr 2
    omega
  · rw [if_neg (by omega), if_neg (by omega)]
section ZCp
variable {p : Program} {l : Launch} {e : Env} {R : Room} {s : State} {m : MethodId} {args : Array Value} {below : List Frame} {meth : Method} {c : Code} {H : Heap} {locs : List Loc} {cells slots : Nat} {Q : State → Prop}
variable {cc : ByteArray} {pc : Nat} {ls : Array Slot} {rest : List Value} {D : va_G} {cl : List vw_C} {A : Nat → Prop} {a : Nat} {tys : List (ClassId × FieldType)} {ws : va_W} {H0 : Heap}
theorem z_copyi (hx : p.tables.exec = Jvm.exec) (hb : c.code = cc) (hml : c.maxLocals = ls.size) {own : String} {index : Nat} (hown : s.vm.findClass own = some m.cls) (hlink : (Cond.methodLink own index arraycopyName).before args s = true) (hnat : (Cond.native arraycopyName).before args s = true) (hstat : (Cond.static arraycopyName).before args s = true) (hini : (Cond.initialized "java/lang/System").before args s = true)
    (hK : va_K D cl tys s) (hP : va_P D cl ws H) (hD : va_D A ws) (hS : va_S A H0 H locs) (q0 q1 : Nat) {a0 : Nat} {cI : ClassId} {f g : Int → Int} (N : Nat) (hN : (N : Int) < 2147483648) (ha0 : ws[q0]? = some (a0, .inl (cI, N, .inl (zF f)))) (ha1 : ws[q1]? = some (a, .inl (cI, N, .inl (zF g)))) (ht : tys[0]? = some (cI, .int))
    (hframes : 1 ≤ R.frames) (hlocals : (rest.map fun v => v.category).sum + (nativeFrameWords "java/lang/System" "arraycopy" 5 + 11) ≤ R.locals) (hdg : decode cc pc = .ok (.invokestatic index, 3))
    (kk : ∀ (H1 : Heap) (locs1 : List Loc), va_P D cl (ws.set q1 (a, .inl (cI, N, .inl (zF (cpA g f (N : Int)))))) H1 → va_D A (ws.set q1 (a, .inl (cI, N, .inl (zF (cpA g f (N : Int)))))) → va_S A H0 H1 locs1 → W p l e R s m args below meth c H1 locs1 cells slots Q (F0 m (pc + 3) ls rest)) : W p l e R s m args below meth c H locs cells slots Q (F0 m pc ls (.int (zI (N : Int)) :: .int (zI 0) :: .ref a :: .int (zI 0) :: .ref a0 :: rest)) := by
  have e0 : (zI 0).toNatClampNeg = 0 := by rw [zI_clamp (by omega) (by omega)]; rfl
  have e1 : (zI (N : Int)).toNatClampNeg = N := by rw [zI_clamp (by omega) hN]; omega
  have h0 : ¬ zI 0 < 0 := by decide
  have h1 : ¬ zI (N : Int) < 0 := by
    rw [← zI_zero, zI_lt (by omega) (by omega)]; omega
  refine va_copyi hx hb hml hown hlink hnat hstat hini hK hP hD hS q0 q1 0 0 ha0 ha1 ht ht rfl h0 h0 h1 (by rw [e0, e1]; omega) (by rw [e0, e1]; omega) (fun _ _ => rfl) hframes hlocals hdg ?_
  rw [zF_cpy hN]
  exact kk
end ZCp
/-- what a setting lowers by valves of lengths g -/
def vdr (g : Int → Int) (t ls : Int) : Int := t % 2 * g 0 + t / 2 % 2 * g 1 + t / 4 % 2 * g 2 - ls * (bitsI t * (bitsI t - 1) / 2)
theorem low_vdr (σ : Int → Int) (t : Int) (h : ¬ σ 0 = 1) : low σ t = vdr (fun j => σ (1 + j)) t (σ 4) := by
  unfold low vdr
  rw [if_neg h]
  rfl
/-- the i-th way of a note -/
def nw (σ : Int → Int) (n i : Int) : Int := fnd (fun w => sd σ w n && decide (cnt (fun v => sd σ v n) w.toNat = i)) 64
theorem cnt_mono (q : Int → Bool) {i j : Nat} (h : i ≤ j) : cnt q i ≤ cnt q j := by
  induction j with
  | zero => rw [show i = 0 by omega]; omega
  | succ j ih =>
    by_cases hij : i = j + 1
    · rw [hij]; omega
    · have h1 := ih (by omega)
      simp only [cnt]
      split <;> omega
theorem nw_at {σ : Int → Int} {n : Int} {k : Nat} (hk : k < 64) (hs : sd σ (k : Int) n = true) : nw σ n (cnt (fun w => sd σ w n) k) = (k : Int) := by
  unfold nw
  rcases fnd_char (fun w => sd σ w n && decide (cnt (fun v => sd σ v n) w.toNat = cnt (fun w => sd σ w n) k)) 64 with ⟨h1, _⟩ | ⟨i, hi, hq, he, hm⟩
  · exact absurd (by simp [hs]) (h1 k hk)
  · rw [he]
    simp only [Bool.and_eq_true, decide_eq_true_eq, Int.toNat_natCast] at hq
    rcases Nat.lt_trichotomy i k with h | h | h
    · have h2 := cnt_mono (fun v => sd σ v n) (i := i + 1) (j := k) (by omega)
      rw [cnt_y (q := fun v => sd σ v n) hq.1] at h2
      omega
    · rw [h]
    · exact absurd (by simp [hs]) (hm k h)
theorem nw_in {σ : Int → Int} {n : Int} : ∀ i : Int, 0 ≤ i → i < cnt (fun w => sd σ w n) 64 → ∃ k : Nat, k < 64 ∧ sd σ (k : Int) n = true ∧ cnt (fun w => sd σ w n) k = i ∧ nw σ n i = (k : Int) := by
  have key : ∀ (N : Nat), N ≤ 64 → ∀ i : Int, 0 ≤ i → i < cnt (fun w => sd σ w n) N → ∃ k : Nat, k < N ∧ sd σ (k : Int) n = true ∧ cnt (fun w => sd σ w n) k = i := by
    intro N
    induction N with
    | zero => intro _ i h0 h1; simp [cnt] at h1; omega
    | succ N ih =>
      intro hN i h0 h1
      by_cases hs : sd σ (N : Int) n = true
      · rw [cnt_y (q := fun w => sd σ w n) hs] at h1
        by_cases he : i = cnt (fun w => sd σ w n) N
        · exact ⟨N, by omega, hs, he.symm⟩
        · obtain ⟨k, a, b, c⟩ := ih (by omega) i h0 (by omega)
          exact ⟨k, by omega, b, c⟩
      · rw [cnt_n (q := fun w => sd σ w n) hs] at h1
        obtain ⟨k, a, b, c⟩ := ih (by omega) i h0 h1
        exact ⟨k, by omega, b, c⟩
  intro i h0 h1
  obtain ⟨k, a, b, c⟩ := key 64 (by omega) i h0 h1
  exact ⟨k, a, b, c, by rw [← c]; exact nw_at a b⟩
/-! Integer.bitCount, step by step -/
def bc1 (x : Int32) : Int32 := x - (((x.toUInt32 >>> ((zI 1).toUInt32 &&& Int32.toUInt32 31)).toInt32) &&& 1431655765)
def bc2 (x : Int32) : Int32 := (x &&& 858993459) + (((x.toUInt32 >>> ((zI 2).toUInt32 &&& Int32.toUInt32 31)).toInt32) &&& 858993459)
def bc3 (x : Int32) : Int32 := (x + ((x.toUInt32 >>> ((zI 4).toUInt32 &&& Int32.toUInt32 31)).toInt32)) &&& 252645135
def bc4 (x : Int32) : Int32 := x + ((x.toUInt32 >>> ((zI 8).toUInt32 &&& Int32.toUInt32 31)).toInt32)
def bc5 (x : Int32) : Int32 := x + ((x.toUInt32 >>> ((zI 16).toUInt32 &&& Int32.toUInt32 31)).toInt32)
def bcI (x : Int) : Int := x % 2 + x / 2 % 2 + x / 4 % 2 + x / 8 % 2 + x / 16 % 2 + x / 32 % 2 + x / 64 % 2 + x / 128 % 2
theorem bc_all : ∀ k : Fin 256, bc5 (bc4 (bc3 (bc2 (bc1 (zI ((k.val : Nat) : Int)))))) &&& zI 63 = zI (bcI ((k.val : Nat) : Int)) := by decide +kernel
theorem bc_eq {x : Int} (h : 0 ≤ x ∧ x < 256) : bc5 (bc4 (bc3 (bc2 (bc1 (zI x))))) &&& zI 63 = zI (bcI x) := by
  have k := bc_all ⟨x.toNat, by omega⟩
  simp only [show ((x.toNat : Nat) : Int) = x by omega] at k
  exact k
theorem bcI_small {x : Int} (h : 0 ≤ x ∧ x < 8) : bcI x = bitsI x := by unfold bcI bitsI; omega
