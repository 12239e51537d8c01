/-! numbers: a machine int is zI of an integer -/
def zI (z : Int) : Int32 := Int32.ofInt z
theorem zI_add (a b : Int) : zI a + zI b = zI (a + b) := (Int32.ofInt_add a b).symm
theorem zI_sub (a b : Int) : zI a - zI b = zI (a - b) := (Int32.ofInt_sub a b).symm
theorem zI_mul (a b : Int) : zI a * zI b = zI (a * b) := (Int32.ofInt_mul a b).symm
theorem zI_neg (a : Int) : -zI a = zI (-a) := (Int32.ofInt_neg a).symm
theorem zI_zero : zI 0 = 0 := by decide +kernel
theorem zI_toInt {a : Int} (h : -2147483648 ≤ a ∧ a < 2147483648) : (zI a).toInt = a := Int32.toInt_ofInt_of_le (by omega) (by omega)
theorem zI_of (x : Int32) : (-2147483648 ≤ x.toInt ∧ x.toInt < 2147483648) ∧ x = zI x.toInt := by
  have h1 := x.le_toInt
  have h2 := x.toInt_lt
  exact ⟨⟨by omega, by omega⟩, (Int32.ofInt_toInt x).symm⟩
theorem zI_lt {a b : Int} (ha : -2147483648 ≤ a ∧ a < 2147483648) (hb : -2147483648 ≤ b ∧ b < 2147483648) : zI a < zI b ↔ a < b := by
  rw [Int32.lt_iff_toInt_lt, zI_toInt ha, zI_toInt hb]
theorem zI_le {a b : Int} (ha : -2147483648 ≤ a ∧ a < 2147483648) (hb : -2147483648 ≤ b ∧ b < 2147483648) : zI a ≤ zI b ↔ a ≤ b := by
  rw [Int32.le_iff_toInt_le, zI_toInt ha, zI_toInt hb]
theorem zI_eq {a b : Int} (ha : -2147483648 ≤ a ∧ a < 2147483648) (hb : -2147483648 ≤ b ∧ b < 2147483648) : zI a = zI b ↔ a = b := by
  rw [← Int32.toInt_inj, zI_toInt ha, zI_toInt hb]
theorem zI_clamp {a : Int} (h0 : 0 ≤ a) (h1 : a < 2147483648) : (zI a).toNatClampNeg = a.toNat := by
  rw [← Int32.toNat_toInt, zI_toInt ⟨by omega, h1⟩]
theorem zI_clampI {a : Int} (h0 : 0 ≤ a) (h1 : a < 2147483648) : (((zI a).toNatClampNeg : Nat) : Int) = a := by
  rw [zI_clamp h0 h1]; omega
theorem zI_in {a : Int} {n : Nat} (h0 : 0 ≤ a) (h1 : a < (n : Int)) (hn : n ≤ 2147483647) : vp_in (zI a) n := by
  rw [vp_in_iff, zI_toInt ⟨by omega, by omega⟩]; exact ⟨h0, h1⟩
theorem zI_neM1 {b : Int} (hb0 : 0 < b) (hb1 : b < 2147483648) : zI b ≠ -1 := by
  intro h
  have h2 := congrArg Int32.toInt h
  rw [zI_toInt ⟨by omega, hb1⟩] at h2
  have h3 : (-1 : Int32).toInt = -1 := by decide
  omega
theorem zI_ne0 {b : Int} (hb0 : b ≠ 0) (hb : -2147483648 ≤ b ∧ b < 2147483648) : ¬ zI b = 0 := by
  intro h
  rw [← zI_zero, zI_eq hb (by omega)] at h
  exact hb0 h
theorem zI_div {a b : Int} (h0 : 0 ≤ a) (h1 : a < 2147483648) (hb0 : 0 < b) (hb1 : b < 2147483648) : zI a / zI b = zI (a / b) := by
  have k1 : 0 ≤ a / b := Int.ediv_nonneg h0 (by omega)
  have k2 : a / b ≤ a := Int.ediv_le_self b h0
  apply Int32.toInt_inj.mp
  rw [Int32.toInt_div_of_ne_right _ _ (zI_neM1 hb0 hb1), zI_toInt ⟨by omega, h1⟩, zI_toInt ⟨by omega, hb1⟩, zI_toInt ⟨by omega, by omega⟩, Int.tdiv_eq_ediv_of_nonneg h0]
theorem zI_rem {a b : Int} (h0 : 0 ≤ a) (h1 : a < 2147483648) (hb0 : 0 < b) (hb1 : b < 2147483648) : zI a - zI a / zI b * zI b = zI (a % b) := by
  rw [zI_div h0 h1 hb0 hb1, zI_mul, zI_sub, Int.emod_def, Int.mul_comm b]
def zB (P : Prop) [Decidable P] : Int := if P then 1 else 0
theorem zB_t {P : Prop} [Decidable P] (h : P) : zB P = 1 := if_pos h
theorem zB_f {P : Prop} [Decidable P] (h : ¬ P) : zB P = 0 := if_neg h
theorem zB_le {P : Prop} [Decidable P] : 0 ≤ zB P ∧ zB P ≤ 1 := by unfold zB; split <;> omega
theorem zB_eq0 {P : Prop} [Decidable P] : zI (zB P) = 0 ↔ ¬ P := by
  by_cases h : P
  · rw [zB_t h]; exact ⟨fun q => absurd q (by decide), fun q => absurd h q⟩
  · rw [zB_f h]; exact ⟨fun _ => h, fun _ => by decide⟩
theorem zB_nar {P : Prop} [Decidable P] : narrow .boolean (.int (zI (zB P))) = .int (zI (zB P)) := by
  by_cases h : P
  · rw [zB_t h]; rfl
  · rw [zB_f h]; rfl
theorem zB_congr {P P' : Prop} [Decidable P] [Decidable P'] (h : P ↔ P') : zB P = zB P' := by
  by_cases q : P
  · rw [zB_t q, zB_t (h.mp q)]
  · rw [zB_f q, zB_f (fun z => q (h.mpr z))]
/-! rows of ints as functions of an integer place -/
def zF (g : Int → Int) : Nat → Int32 := fun j => zI (g (j : Int))
def upI {α : Type} (g : Int → α) (i : Int) (x : α) : Int → α := fun j => if j = i then x else g j
def zL (g : Int → Int64) : Nat → Int64 := fun j => g (j : Int)
theorem upI_s {α : Type} {g : Int → α} {i : Int} {x : α} : upI g i x i = x := if_pos rfl
theorem upI_n {α : Type} {g : Int → α} {i j : Int} {x : α} (h : j ≠ i) : upI g i x j = g j := if_neg h
theorem zF_at {g : Int → Int} {k : Int} (h0 : 0 ≤ k) (h1 : k < 2147483648) : zF g (zI k).toNatClampNeg = zI (g k) := by
  show zI (g (((zI k).toNatClampNeg : Nat) : Int)) = _
  rw [zI_clampI h0 h1]
theorem zL_at {g : Int → Int64} {k : Int} (h0 : 0 ≤ k) (h1 : k < 2147483648) : zL g (zI k).toNatClampNeg = g k := by
  show g (((zI k).toNatClampNeg : Nat) : Int) = _
  rw [zI_clampI h0 h1]
theorem zF_up {g : Int → Int} {k x : Int} (h0 : 0 ≤ k) (h1 : k < 2147483648) : upd (zF g) (zI k).toNatClampNeg (zI x) = zF (upI g k x) := by
  funext j
  have e := zI_clampI h0 h1
  unfold upd zF upI
  by_cases h : j = (zI k).toNatClampNeg
  · rw [if_pos h, if_pos (by rw [h]; exact e)]
  · rw [if_neg h, if_neg (by intro q; apply h; omega)]
theorem zL_up {g : Int → Int64} {k : Int} {x : Int64} (h0 : 0 ≤ k) (h1 : k < 2147483648) : vp_updL (zL g) (zI k).toNatClampNeg x = zL (upI g k x) := by
  funext j
  have e := zI_clampI h0 h1
  unfold vp_updL zL upI
  by_cases h : j = (zI k).toNatClampNeg
  · rw [if_pos h, if_pos (by rw [h]; exact e)]
  · rw [if_neg h, if_neg (by intro q; apply h; omega)]
/-! instruction rows -/
section ZR
variable {p : Program} {l : Launch} {e : Env} {R : Room} {s : State} {m : MethodId} {args : Array Value} {below : List Frame} {meth : Method} {c : Code} {H : Heap} {locs : List Loc} {cells slots : Nat} {Q : State → Prop}
variable {cc : ByteArray} {pc : Nat} {ls : Array Slot} {rest : List Value}
theorem z_top {x y : Int32} (h : x = y) (k : W p l e R s m args below meth c H locs cells slots Q (F0 m pc ls (.int y :: rest))) : W p l e R s m args below meth c H locs cells slots Q (F0 m pc ls (.int x :: rest)) := h ▸ k
theorem z_topl {x y : Int64} (h : x = y) (k : W p l e R s m args below meth c H locs cells slots Q (F0 m pc ls (.long y :: rest))) : W p l e R s m args below meth c H locs cells slots Q (F0 m pc ls (.long x :: rest)) := h ▸ k
theorem z_iadd (hx : p.tables.exec = Jvm.exec) (hb : c.code = cc) {a b : Int} (hdg : decode cc pc = .ok (.iadd, 1)) (k : W p l e R s m args below meth c H locs cells slots Q (F0 m (pc + 1) ls (.int (zI (a + b)) :: rest))) : W p l e R s m args below meth c H locs cells slots Q (F0 m pc ls (.int (zI b) :: .int (zI a) :: rest)) := lv_iadd hx hb hdg (by rw [zI_add]; exact k)
theorem z_isub (hx : p.tables.exec = Jvm.exec) (hb : c.code = cc) {a b : Int} (hdg : decode cc pc = .ok (.isub, 1)) (k : W p l e R s m args below meth c H locs cells slots Q (F0 m (pc + 1) ls (.int (zI (a - b)) :: rest))) : W p l e R s m args below meth c H locs cells slots Q (F0 m pc ls (.int (zI b) :: .int (zI a) :: rest)) := lv_isub hx hb hdg (by rw [zI_sub]; exact k)
theorem z_imul (hx : p.tables.exec = Jvm.exec) (hb : c.code = cc) {a b : Int} (hdg : decode cc pc = .ok (.imul, 1)) (k : W p l e R s m args below meth c H locs cells slots Q (F0 m (pc + 1) ls (.int (zI (a * b)) :: rest))) : W p l e R s m args below meth c H locs cells slots Q (F0 m pc ls (.int (zI b) :: .int (zI a) :: rest)) := lv_imul hx hb hdg (by rw [zI_mul]; exact k)
theorem z_idiv (hx : p.tables.exec = Jvm.exec) (hb : c.code = cc) {a b : Int} (hr : (0 ≤ a ∧ a < 2147483648) ∧ 0 < b ∧ b < 2147483648) (hdg : decode cc pc = .ok (.idiv, 1)) (k : W p l e R s m args below meth c H locs cells slots Q (F0 m (pc + 1) ls (.int (zI (a / b)) :: rest))) : W p l e R s m args below meth c H locs cells slots Q (F0 m pc ls (.int (zI b) :: .int (zI a) :: rest)) := lv_idiv hx hb hdg (zI_ne0 (by omega) (by omega)) (by rw [zI_div hr.1.1 hr.1.2 hr.2.1 hr.2.2]; exact k)
theorem z_irem (hx : p.tables.exec = Jvm.exec) (hb : c.code = cc) {a b : Int} (hr : (0 ≤ a ∧ a < 2147483648) ∧ 0 < b ∧ b < 2147483648) (hdg : decode cc pc = .ok (.irem, 1)) (k : W p l e R s m args below meth c H locs cells slots Q (F0 m (pc + 1) ls (.int (zI (a % b)) :: rest))) : W p l e R s m args below meth c H locs cells slots Q (F0 m pc ls (.int (zI b) :: .int (zI a) :: rest)) := lv_irem hx hb hdg (zI_ne0 (by omega) (by omega)) (by rw [zI_rem hr.1.1 hr.1.2 hr.2.1 hr.2.2]; exact k)
theorem z_ineg (hx : p.tables.exec = Jvm.exec) (hb : c.code = cc) {a : Int} (hdg : decode cc pc = .ok (.ineg, 1)) (k : W p l e R s m args below meth c H locs cells slots Q (F0 m (pc + 1) ls (.int (zI (-a)) :: rest))) : W p l e R s m args below meth c H locs cells slots Q (F0 m pc ls (.int (zI a) :: rest)) := lv_ineg hx hb hdg (by first | (rw [zI_neg]; exact k) | (rw [show (0 : Int32) - zI a = zI (-a) from by rw [← zI_zero, zI_sub]; congr 1; omega]; exact k))
theorem z_icmp_lt (hx : p.tables.exec = Jvm.exec) (hb : c.code = cc) {a b : Int} (hr : (-2147483648 ≤ a ∧ a < 2147483648) ∧ -2147483648 ≤ b ∧ b < 2147483648) {off : Int} {tgt : Nat} (hdg : decode cc pc = .ok (.if_icmp .lt off, 3)) (ht : (pc : Int) + off = (tgt : Int)) (kt : a < b → W p l e R s m args below meth c H locs cells slots Q (F0 m tgt ls rest)) (kf : b ≤ a → W p l e R s m args below meth c H locs cells slots Q (F0 m (pc + 3) ls rest)) : W p l e R s m args below meth c H locs cells slots Q (F0 m pc ls (.int (zI b) :: .int (zI a) :: rest)) := lv_icmp_lt hx hb hdg ht (fun h => kt ((zI_lt hr.1 hr.2).mp h)) (fun h => kf (by have h2 := mt (zI_lt hr.1 hr.2).mpr h; omega))
theorem z_icmp_ge (hx : p.tables.exec = Jvm.exec) (hb : c.code = cc) {a b : Int} (hr : (-2147483648 ≤ a ∧ a < 2147483648) ∧ -2147483648 ≤ b ∧ b < 2147483648) {off : Int} {tgt : Nat} (hdg : decode cc pc = .ok (.if_icmp .ge off, 3)) (ht : (pc : Int) + off = (tgt : Int)) (kt : b ≤ a → W p l e R s m args below meth c H locs cells slots Q (F0 m tgt ls rest)) (kf : a < b → W p l e R s m args below meth c H locs cells slots Q (F0 m (pc + 3) ls rest)) : W p l e R s m args below meth c H locs cells slots Q (F0 m pc ls (.int (zI b) :: .int (zI a) :: rest)) := lv_icmp_ge hx hb hdg ht (fun h => kt ((zI_le hr.2 hr.1).mp h)) (fun h => kf (by have h2 := mt (zI_le hr.2 hr.1).mpr h; omega))
theorem z_icmp_gt (hx : p.tables.exec = Jvm.exec) (hb : c.code = cc) {a b : Int} (hr : (-2147483648 ≤ a ∧ a < 2147483648) ∧ -2147483648 ≤ b ∧ b < 2147483648) {off : Int} {tgt : Nat} (hdg : decode cc pc = .ok (.if_icmp .gt off, 3)) (ht : (pc : Int) + off = (tgt : Int)) (kt : b < a → W p l e R s m args below meth c H locs cells slots Q (F0 m tgt ls rest)) (kf : a ≤ b → W p l e R s m args below meth c H locs cells slots Q (F0 m (pc + 3) ls rest)) : W p l e R s m args below meth c H locs cells slots Q (F0 m pc ls (.int (zI b) :: .int (zI a) :: rest)) := lv_icmp_gt hx hb hdg ht (fun h => kt ((zI_lt hr.2 hr.1).mp h)) (fun h => kf (by have h2 := mt (zI_lt hr.2 hr.1).mpr h; omega))
theorem z_icmp_le (hx : p.tables.exec = Jvm.exec) (hb : c.code = cc) {a b : Int} (hr : (-2147483648 ≤ a ∧ a < 2147483648) ∧ -2147483648 ≤ b ∧ b < 2147483648) {off : Int} {tgt : Nat} (hdg : decode cc pc = .ok (.if_icmp .le off, 3)) (ht : (pc : Int) + off = (tgt : Int)) (kt : a ≤ b → W p l e R s m args below meth c H locs cells slots Q (F0 m tgt ls rest)) (kf : b < a → W p l e R s m args below meth c H locs cells slots Q (F0 m (pc + 3) ls rest)) : W p l e R s m args below meth c H locs cells slots Q (F0 m pc ls (.int (zI b) :: .int (zI a) :: rest)) := lv_icmp_le hx hb hdg ht (fun h => kt ((zI_le hr.1 hr.2).mp h)) (fun h => kf (by have h2 := mt (zI_le hr.1 hr.2).mpr h; omega))
theorem z_icmp_eq (hx : p.tables.exec = Jvm.exec) (hb : c.code = cc) {a b : Int} (hr : (-2147483648 ≤ a ∧ a < 2147483648) ∧ -2147483648 ≤ b ∧ b < 2147483648) {off : Int} {tgt : Nat} (hdg : decode cc pc = .ok (.if_icmp .eq off, 3)) (ht : (pc : Int) + off = (tgt : Int)) (kt : a = b → W p l e R s m args below meth c H locs cells slots Q (F0 m tgt ls rest)) (kf : a ≠ b → W p l e R s m args below meth c H locs cells slots Q (F0 m (pc + 3) ls rest)) : W p l e R s m args below meth c H locs cells slots Q (F0 m pc ls (.int (zI b) :: .int (zI a) :: rest)) := lv_icmp_eq hx hb hdg ht (fun h => kt ((zI_eq hr.1 hr.2).mp h)) (fun h => kf (fun q => h ((zI_eq hr.1 hr.2).mpr q)))
theorem z_icmp_ne (hx : p.tables.exec = Jvm.exec) (hb : c.code = cc) {a b : Int} (hr : (-2147483648 ≤ a ∧ a < 2147483648) ∧ -2147483648 ≤ b ∧ b < 2147483648) {off : Int} {tgt : Nat} (hdg : decode cc pc = .ok (.if_icmp .ne off, 3)) (ht : (pc : Int) + off = (tgt : Int)) (kt : a ≠ b → W p l e R s m args below meth c H locs cells slots Q (F0 m tgt ls rest)) (kf : a = b → W p l e R s m args below meth c H locs cells slots Q (F0 m (pc + 3) ls rest)) : W p l e R s m args below meth c H locs cells slots Q (F0 m pc ls (.int (zI b) :: .int (zI a) :: rest)) := lv_icmp_ne hx hb hdg ht (fun h => kt (fun q => h ((zI_eq hr.1 hr.2).mpr q))) (fun h => kf ((zI_eq hr.1 hr.2).mp h))
theorem z_if_lt (hx : p.tables.exec = Jvm.exec) (hb : c.code = cc) {a : Int} (hr : -2147483648 ≤ a ∧ a < 2147483648) {off : Int} {tgt : Nat} (hdg : decode cc pc = .ok (.ifCond .lt off, 3)) (ht : (pc : Int) + off = (tgt : Int)) (kt : a < 0 → W p l e R s m args below meth c H locs cells slots Q (F0 m tgt ls rest)) (kf : 0 ≤ a → W p l e R s m args below meth c H locs cells slots Q (F0 m (pc + 3) ls rest)) : W p l e R s m args below meth c H locs cells slots Q (F0 m pc ls (.int (zI a) :: rest)) := by
  have hz : -2147483648 ≤ (0 : Int) ∧ (0 : Int) < 2147483648 := by omega
  exact lv_if_lt hx hb hdg ht (fun h => kt (by rw [← zI_zero] at h; exact (zI_lt hr hz).mp h)) (fun h => kf (by rw [← zI_zero] at h; have h2 := mt (zI_lt hr hz).mpr h; omega))
theorem z_if_ge (hx : p.tables.exec = Jvm.exec) (hb : c.code = cc) {a : Int} (hr : -2147483648 ≤ a ∧ a < 2147483648) {off : Int} {tgt : Nat} (hdg : decode cc pc = .ok (.ifCond .ge off, 3)) (ht : (pc : Int) + off = (tgt : Int)) (kt : 0 ≤ a → W p l e R s m args below meth c H locs cells slots Q (F0 m tgt ls rest)) (kf : a < 0 → W p l e R s m args below meth c H locs cells slots Q (F0 m (pc + 3) ls rest)) : W p l e R s m args below meth c H locs cells slots Q (F0 m pc ls (.int (zI a) :: rest)) := by
  have hz : -2147483648 ≤ (0 : Int) ∧ (0 : Int) < 2147483648 := by omega
  exact lv_if_ge hx hb hdg ht (fun h => kt (by rw [← zI_zero] at h; exact (zI_le hz hr).mp h)) (fun h => kf (by rw [← zI_zero] at h; have h2 := mt (zI_le hz hr).mpr h; omega))
theorem z_if_gt (hx : p.tables.exec = Jvm.exec) (hb : c.code = cc) {a : Int} (hr : -2147483648 ≤ a ∧ a < 2147483648) {off : Int} {tgt : Nat} (hdg : decode cc pc = .ok (.ifCond .gt off, 3)) (ht : (pc : Int) + off = (tgt : Int)) (kt : 0 < a → W p l e R s m args below meth c H locs cells slots Q (F0 m tgt ls rest)) (kf : a ≤ 0 → W p l e R s m args below meth c H locs cells slots Q (F0 m (pc + 3) ls rest)) : W p l e R s m args below meth c H locs cells slots Q (F0 m pc ls (.int (zI a) :: rest)) := by
  have hz : -2147483648 ≤ (0 : Int) ∧ (0 : Int) < 2147483648 := by omega
  exact lv_if_gt hx hb hdg ht (fun h => kt (by rw [← zI_zero] at h; exact (zI_lt hz hr).mp h)) (fun h => kf (by rw [← zI_zero] at h; have h2 := mt (zI_lt hz hr).mpr h; omega))
theorem z_if_le (hx : p.tables.exec = Jvm.exec) (hb : c.code = cc) {a : Int} (hr : -2147483648 ≤ a ∧ a < 2147483648) {off : Int} {tgt : Nat} (hdg : decode cc pc = .ok (.ifCond .le off, 3)) (ht : (pc : Int) + off = (tgt : Int)) (kt : a ≤ 0 → W p l e R s m args below meth c H locs cells slots Q (F0 m tgt ls rest)) (kf : 0 < a → W p l e R s m args below meth c H locs cells slots Q (F0 m (pc + 3) ls rest)) : W p l e R s m args below meth c H locs cells slots Q (F0 m pc ls (.int (zI a) :: rest)) := by
  have hz : -2147483648 ≤ (0 : Int) ∧ (0 : Int) < 2147483648 := by omega
  exact lv_if_le hx hb hdg ht (fun h => kt (by rw [← zI_zero] at h; exact (zI_le hr hz).mp h)) (fun h => kf (by rw [← zI_zero] at h; have h2 := mt (zI_le hr hz).mpr h; omega))
theorem z_if_eq (hx : p.tables.exec = Jvm.exec) (hb : c.code = cc) {a : Int} (hr : -2147483648 ≤ a ∧ a < 2147483648) {off : Int} {tgt : Nat} (hdg : decode cc pc = .ok (.ifCond .eq off, 3)) (ht : (pc : Int) + off = (tgt : Int)) (kt : a = 0 → W p l e R s m args below meth c H locs cells slots Q (F0 m tgt ls rest)) (kf : a ≠ 0 → W p l e R s m args below meth c H locs cells slots Q (F0 m (pc + 3) ls rest)) : W p l e R s m args below meth c H locs cells slots Q (F0 m pc ls (.int (zI a) :: rest)) := by
  have hz : -2147483648 ≤ (0 : Int) ∧ (0 : Int) < 2147483648 := by omega
  exact lv_if_eq hx hb hdg ht (fun h => kt (by rw [← zI_zero] at h; exact (zI_eq hr hz).mp h)) (fun h => kf (fun q => h (by rw [← zI_zero]; exact (zI_eq hr hz).mpr q)))
theorem z_if_ne (hx : p.tables.exec = Jvm.exec) (hb : c.code = cc) {a : Int} (hr : -2147483648 ≤ a ∧ a < 2147483648) {off : Int} {tgt : Nat} (hdg : decode cc pc = .ok (.ifCond .ne off, 3)) (ht : (pc : Int) + off = (tgt : Int)) (kt : a ≠ 0 → W p l e R s m args below meth c H locs cells slots Q (F0 m tgt ls rest)) (kf : a = 0 → W p l e R s m args below meth c H locs cells slots Q (F0 m (pc + 3) ls rest)) : W p l e R s m args below meth c H locs cells slots Q (F0 m pc ls (.int (zI a) :: rest)) := by
  have hz : -2147483648 ≤ (0 : Int) ∧ (0 : Int) < 2147483648 := by omega
  exact lv_if_ne hx hb hdg ht (fun h => kt (fun q => h (by rw [← zI_zero]; exact (zI_eq hr hz).mpr q))) (fun h => kf (by rw [← zI_zero] at h; exact (zI_eq hr hz).mp h))
theorem z_ifB_eq (hx : p.tables.exec = Jvm.exec) (hb : c.code = cc) {P : Prop} [Decidable P] {off : Int} {tgt : Nat} (hdg : decode cc pc = .ok (.ifCond .eq off, 3)) (ht : (pc : Int) + off = (tgt : Int)) (kt : ¬ P → W p l e R s m args below meth c H locs cells slots Q (F0 m tgt ls rest)) (kf : P → W p l e R s m args below meth c H locs cells slots Q (F0 m (pc + 3) ls rest)) : W p l e R s m args below meth c H locs cells slots Q (F0 m pc ls (.int (zI (zB P)) :: rest)) := lv_if_eq hx hb hdg ht (fun h => kt (zB_eq0.mp h)) (fun h => kf (Decidable.byContradiction fun q => h (zB_eq0.mpr q)))
theorem z_ifB_ne (hx : p.tables.exec = Jvm.exec) (hb : c.code = cc) {P : Prop} [Decidable P] {off : Int} {tgt : Nat} (hdg : decode cc pc = .ok (.ifCond .ne off, 3)) (ht : (pc : Int) + off = (tgt : Int)) (kt : P → W p l e R s m args below meth c H locs cells slots Q (F0 m tgt ls rest)) (kf : ¬ P → W p l e R s m args below meth c H locs cells slots Q (F0 m (pc + 3) ls rest)) : W p l e R s m args below meth c H locs cells slots Q (F0 m pc ls (.int (zI (zB P)) :: rest)) := lv_if_ne hx hb hdg ht (fun h => kt (Decidable.byContradiction fun q => h (zB_eq0.mpr q))) (fun h => kf (zB_eq0.mp h))
theorem z_lcmp_le (hx : p.tables.exec = Jvm.exec) (hb : c.code = cc) {x y : Int64} {off : Int} {tgt : Nat} (hdg : decode cc pc = .ok (.lcmp, 1)) (hdg2 : decode cc (pc + 1) = .ok (.ifCond .le off, 3)) (ht : ((pc + 1 : Nat) : Int) + off = (tgt : Int)) (kt : x ≤ y → W p l e R s m args below meth c H locs cells slots Q (F0 m tgt ls rest)) (kf : y < x → W p l e R s m args below meth c H locs cells slots Q (F0 m (pc + 1 + 3) ls rest)) : W p l e R s m args below meth c H locs cells slots Q (F0 m pc ls (.long y :: .long x :: rest)) := by
  refine W.lcmp hx hb hdg (lv_if_le hx hb hdg2 ht (fun h => kt ?_) (fun h => kf ?_))
  · revert h; unfold lg_cmp; simp only [gt_iff_lt, Int64.lt_iff_toInt_lt, Int64.le_iff_toInt_le, ← Int64.toInt_inj, ne_eq]; split
    · intro h; first | omega | (exact absurd h (by decide))
    · split
      · intro h; first | omega | (exact absurd h (by decide))
      · intro h; first | omega | (exact absurd h (by decide))
  · revert h; unfold lg_cmp; simp only [gt_iff_lt, Int64.lt_iff_toInt_lt, Int64.le_iff_toInt_le, ← Int64.toInt_inj, ne_eq]; split
    · intro h; first | omega | (exact absurd h (by decide))
    · split
      · intro h; first | omega | (exact absurd h (by decide))
      · intro h; first | omega | (exact absurd h (by decide))
theorem z_lcmp_gt (hx : p.tables.exec = Jvm.exec) (hb : c.code = cc) {x y : Int64} {off : Int} {tgt : Nat} (hdg : decode cc pc = .ok (.lcmp, 1)) (hdg2 : decode cc (pc + 1) = .ok (.ifCond .gt off, 3)) (ht : ((pc + 1 : Nat) : Int) + off = (tgt : Int)) (kt : y < x → W p l e R s m args below meth c H locs cells slots Q (F0 m tgt ls rest)) (kf : x ≤ y → W p l e R s m args below meth c H locs cells slots Q (F0 m (pc + 1 + 3) ls rest)) : W p l e R s m args below meth c H locs cells slots Q (F0 m pc ls (.long y :: .long x :: rest)) := by
  refine W.lcmp hx hb hdg (lv_if_gt hx hb hdg2 ht (fun h => kt ?_) (fun h => kf ?_))
  · revert h; unfold lg_cmp; simp only [gt_iff_lt, Int64.lt_iff_toInt_lt, Int64.le_iff_toInt_le, ← Int64.toInt_inj, ne_eq]; split
    · intro h; first | omega | (exact absurd h (by decide))
    · split
      · intro h; first | omega | (exact absurd h (by decide))
      · intro h; first | omega | (exact absurd h (by decide))
  · revert h; unfold lg_cmp; simp only [gt_iff_lt, Int64.lt_iff_toInt_lt, Int64.le_iff_toInt_le, ← Int64.toInt_inj, ne_eq]; split
    · intro h; first | omega | (exact absurd h (by decide))
    · split
      · intro h; first | omega | (exact absurd h (by decide))
      · intro h; first | omega | (exact absurd h (by decide))
theorem z_lcmp_eq (hx : p.tables.exec = Jvm.exec) (hb : c.code = cc) {x y : Int64} {off : Int} {tgt : Nat} (hdg : decode cc pc = .ok (.lcmp, 1)) (hdg2 : decode cc (pc + 1) = .ok (.ifCond .eq off, 3)) (ht : ((pc + 1 : Nat) : Int) + off = (tgt : Int)) (kt : x = y → W p l e R s m args below meth c H locs cells slots Q (F0 m tgt ls rest)) (kf : x ≠ y → W p l e R s m args below meth c H locs cells slots Q (F0 m (pc + 1 + 3) ls rest)) : W p l e R s m args below meth c H locs cells slots Q (F0 m pc ls (.long y :: .long x :: rest)) := by
  refine W.lcmp hx hb hdg (lv_if_eq hx hb hdg2 ht (fun h => kt ?_) (fun h => kf ?_))
  · revert h; unfold lg_cmp; simp only [gt_iff_lt, Int64.lt_iff_toInt_lt, Int64.le_iff_toInt_le, ← Int64.toInt_inj, ne_eq]; split
    · intro h; first | omega | (exact absurd h (by decide))
    · split
      · intro h; first | omega | (exact absurd h (by decide))
      · intro h; first | omega | (exact absurd h (by decide))
  · revert h; unfold lg_cmp; simp only [gt_iff_lt, Int64.lt_iff_toInt_lt, Int64.le_iff_toInt_le, ← Int64.toInt_inj, ne_eq]; split
    · intro h; first | omega | (exact absurd h (by decide))
    · split
      · intro h; first | omega | (exact absurd h (by decide))
      · intro h; first | omega | (exact absurd h (by decide))
theorem z_lcmp_ne (hx : p.tables.exec = Jvm.exec) (hb : c.code = cc) {x y : Int64} {off : Int} {tgt : Nat} (hdg : decode cc pc = .ok (.lcmp, 1)) (hdg2 : decode cc (pc + 1) = .ok (.ifCond .ne off, 3)) (ht : ((pc + 1 : Nat) : Int) + off = (tgt : Int)) (kt : x ≠ y → W p l e R s m args below meth c H locs cells slots Q (F0 m tgt ls rest)) (kf : x = y → W p l e R s m args below meth c H locs cells slots Q (F0 m (pc + 1 + 3) ls rest)) : W p l e R s m args below meth c H locs cells slots Q (F0 m pc ls (.long y :: .long x :: rest)) := by
  refine W.lcmp hx hb hdg (lv_if_ne hx hb hdg2 ht (fun h => kt ?_) (fun h => kf ?_))
  · revert h; unfold lg_cmp; simp only [gt_iff_lt, Int64.lt_iff_toInt_lt, Int64.le_iff_toInt_le, ← Int64.toInt_inj, ne_eq]; split
    · intro h; first | omega | (exact absurd h (by decide))
    · split
      · intro h; first | omega | (exact absurd h (by decide))
      · intro h; first | omega | (exact absurd h (by decide))
  · revert h; unfold lg_cmp; simp only [gt_iff_lt, Int64.lt_iff_toInt_lt, Int64.le_iff_toInt_le, ← Int64.toInt_inj, ne_eq]; split
    · intro h; first | omega | (exact absurd h (by decide))
    · split
      · intro h; first | omega | (exact absurd h (by decide))
      · intro h; first | omega | (exact absurd h (by decide))
variable {D : va_G} {cl : List vw_C} {A : Nat → Prop} {a : Nat} {tys : List (ClassId × FieldType)} {ws : va_W} {H0 : Heap}
theorem z_iald (hx : p.tables.exec = Jvm.exec) (hb : c.code = cc) (hK : va_K D cl tys s) (hP : va_P D cl ws H) (q0 t0 : Nat) {cA : ClassId} {n : Nat} {g : Int → Int} {k : Int} (ha : ws[q0]? = some (a, .inl (cA, n, .inl (zF g)))) (ht : tys[t0]? = some (cA, .int)) (hk : (0 ≤ k ∧ k < (n : Int)) ∧ n ≤ 2147483647) (hdg : decode cc pc = .ok (.iaload, 1)) (kk : W p l e R s m args below meth c H locs cells slots Q (F0 m (pc + 1) ls (.int (zI (g k)) :: rest))) : W p l e R s m args below meth c H locs cells slots Q (F0 m pc ls (.int (zI k) :: .ref a :: rest)) := va_iald hx hb hK hP q0 t0 ha ht (zI_in hk.1.1 hk.1.2 hk.2) hdg (by rw [zF_at hk.1.1 (by omega)]; exact kk)
theorem z_zald (hx : p.tables.exec = Jvm.exec) (hb : c.code = cc) (hK : va_K D cl tys s) (hP : va_P D cl ws H) (q0 t0 : Nat) {cA : ClassId} {n : Nat} {g : Int → Int} {k : Int} (ha : ws[q0]? = some (a, .inl (cA, n, .inl (zF g)))) (ht : tys[t0]? = some (cA, .boolean)) (hk : (0 ≤ k ∧ k < (n : Int)) ∧ n ≤ 2147483647) (hdg : decode cc pc = .ok (.baload, 1)) (kk : W p l e R s m args below meth c H locs cells slots Q (F0 m (pc + 1) ls (.int (zI (g k)) :: rest))) : W p l e R s m args below meth c H locs cells slots Q (F0 m pc ls (.int (zI k) :: .ref a :: rest)) := va_zald hx hb hK hP q0 t0 ha ht (zI_in hk.1.1 hk.1.2 hk.2) hdg (by rw [zF_at hk.1.1 (by omega)]; exact kk)
theorem z_lald (hx : p.tables.exec = Jvm.exec) (hb : c.code = cc) (hK : va_K D cl tys s) (hP : va_P D cl ws H) (q0 t0 : Nat) {cA : ClassId} {n : Nat} {g : Int → Int64} {k : Int} (ha : ws[q0]? = some (a, .inl (cA, n, .inr (.inl (zL g))))) (ht : tys[t0]? = some (cA, .long)) (hk : (0 ≤ k ∧ k < (n : Int)) ∧ n ≤ 2147483647) (hdg : decode cc pc = .ok (.laload, 1)) (kk : W p l e R s m args below meth c H locs cells slots Q (F0 m (pc + 1) ls (.long (g k) :: rest))) : W p l e R s m args below meth c H locs cells slots Q (F0 m pc ls (.int (zI k) :: .ref a :: rest)) := va_lald hx hb hK hP q0 t0 ha ht (zI_in hk.1.1 hk.1.2 hk.2) hdg (by rw [zL_at hk.1.1 (by omega)]; exact kk)
theorem z_iast (hx : p.tables.exec = Jvm.exec) (hb : c.code = cc) (hK : va_K D cl tys s) (hP : va_P D cl ws H) (hD : va_D A ws) (hS : va_S A H0 H locs) (q0 t0 : Nat) {cA : ClassId} {n : Nat} {g : Int → Int} {k x : Int} (ha : ws[q0]? = some (a, .inl (cA, n, .inl (zF g)))) (ht : tys[t0]? = some (cA, .int)) (hk : (0 ≤ k ∧ k < (n : Int)) ∧ n ≤ 2147483647) (hdg : decode cc pc = .ok (.iastore, 1)) (kk : ∀ (H1 : Heap) (locs1 : List Loc), va_P D cl (ws.set q0 (a, .inl (cA, n, .inl (zF (upI g k x))))) H1 → va_D A (ws.set q0 (a, .inl (cA, n, .inl (zF (upI g k x))))) → va_S A H0 H1 locs1 → W p l e R s m args below meth c H1 locs1 cells slots Q (F0 m (pc + 1) ls rest)) : W p l e R s m args below meth c H locs cells slots Q (F0 m pc ls (.int (zI x) :: .int (zI k) :: .ref a :: rest)) := va_iast hx hb hK hP hD hS q0 t0 ha ht (zI_in hk.1.1 hk.1.2 hk.2) hdg (by rw [zF_up hk.1.1 (by omega)]; exact kk)
theorem z_last (hx : p.tables.exec = Jvm.exec) (hb : c.code = cc) (hK : va_K D cl tys s) (hP : va_P D cl ws H) (hD : va_D A ws) (hS : va_S A H0 H locs) (q0 t0 : Nat) {cA : ClassId} {n : Nat} {g : Int → Int64} {k : Int} {x : Int64} (ha : ws[q0]? = some (a, .inl (cA, n, .inr (.inl (zL g))))) (ht : tys[t0]? = some (cA, .long)) (hk : (0 ≤ k ∧ k < (n : Int)) ∧ n ≤ 2147483647) (hdg : decode cc pc = .ok (.lastore, 1)) (kk : ∀ (H1 : Heap) (locs1 : List Loc), va_P D cl (ws.set q0 (a, .inl (cA, n, .inr (.inl (zL (upI g k x)))))) H1 → va_D A (ws.set q0 (a, .inl (cA, n, .inr (.inl (zL (upI g k x)))))) → va_S A H0 H1 locs1 → W p l e R s m args below meth c H1 locs1 cells slots Q (F0 m (pc + 1) ls rest)) : W p l e R s m args below meth c H locs cells slots Q (F0 m pc ls (.long x :: .int (zI k) :: .ref a :: rest)) := va_last hx hb hK hP hD hS q0 t0 ha ht (zI_in hk.1.1 hk.1.2 hk.2) hdg (by rw [zL_up hk.1.1 (by omega)]; exact kk)
def aI (a : Int) : Int := if a < 0 then -a else a
def mI (a b : Int) : Int := if b < a then b else a
theorem z_mabs (hx : p.tables.exec = Jvm.exec) (hb : c.code = cc) (hml : c.maxLocals = ls.size) {own : String} {index : Nat} (hown : s.vm.findClass own = some m.cls) (hlink : (Cond.methodLink own index Lib.Math.abs.name).before args s = true) (hstat : (Cond.static Lib.Math.abs.name).before args s = true) (hini : (Cond.initialized "java/lang/Math").before args s = true) (hcode : (Cond.code Lib.Math.abs.name Lib.Math.abs.code 1 (some .int)).before args s = true) (hframes : 1 ≤ R.frames) (hlocals : (rest.map fun v => v.category).sum + 13 ≤ R.locals) (hc : cells ≤ R.cells) (hs : slots ≤ R.slots) {a : Int} (hr : -2147483647 ≤ a ∧ a < 2147483648) (hdg : decode cc pc = .ok (.invokestatic index, 3)) (kk : W p l e R s m args below meth c H locs cells slots Q (F0 m (pc + 3) ls (.int (zI (aI a)) :: rest))) : W p l e R s m args below meth c H locs cells slots Q (F0 m pc ls (.int (zI a) :: rest)) := by
  refine va_mabs hx hb hml hown hlink hstat hini hcode hframes hlocals hc hs hdg ?_
  have e0 : (if (0 : Int32) ≤ zI a then zI a else 0 - zI a) = zI (aI a) := by
    rw [← zI_zero]
    unfold aI
    by_cases h : a < 0
    · rw [if_neg (fun q => by have q2 := (zI_le (by omega) (by omega)).mp q; omega), if_pos h, zI_sub]; congr 1; omega
    · rw [if_pos ((zI_le (by omega) (by omega)).mpr (by omega)), if_neg h]
  rw [e0]
  exact kk
theorem z_mmin (hx : p.tables.exec = Jvm.exec) (hb : c.code = cc) (hml : c.maxLocals = ls.size) {own : String} {index : Nat} (hown : s.vm.findClass own = some m.cls) (hlink : (Cond.methodLink own index Lib.Math.min.name).before args s = true) (hstat : (Cond.static Lib.Math.min.name).before args s = true) (hini : (Cond.initialized "java/lang/Math").before args s = true) (hcode : (Cond.code Lib.Math.min.name Lib.Math.min.code 2 (some .int)).before args s = true) (hframes : 1 ≤ R.frames) (hlocals : (rest.map fun v => v.category).sum + 13 ≤ R.locals) (hc : cells ≤ R.cells) (hs : slots ≤ R.slots) {a b : Int} (hr : (-2147483648 ≤ a ∧ a < 2147483648) ∧ -2147483648 ≤ b ∧ b < 2147483648) (hdg : decode cc pc = .ok (.invokestatic index, 3)) (kk : W p l e R s m args below meth c H locs cells slots Q (F0 m (pc + 3) ls (.int (zI (mI a b)) :: rest))) : W p l e R s m args below meth c H locs cells slots Q (F0 m pc ls (.int (zI b) :: .int (zI a) :: rest)) := by
  refine va_mmin hx hb hml hown hlink hstat hini hcode hframes hlocals hc hs hdg ?_
  have e0 : (if zI b < zI a then zI b else zI a) = zI (mI a b) := by
    unfold mI
    by_cases h : b < a
    · rw [if_pos ((zI_lt hr.2 hr.1).mpr h), if_pos h]
    · rw [if_neg (fun q => h ((zI_lt hr.2 hr.1).mp q)), if_neg h]
  rw [e0]
  exact kk
theorem z_tswIn (hx : p.tables.exec = Jvm.exec) (hb : c.code = cc) {a v : Int} (h : a = v) (hr : -2147483648 ≤ v ∧ v < 2147483648) {dflt lo hi : Int} {offs : Array Int} {len : Nat} {off : Int} {tgt : Nat} (hdg : decode cc pc = .ok (.tableswitch dflt lo hi offs, len)) (h1 : lo ≤ v ∧ v ≤ hi) (ho : offs[(v - lo).toNat]? = some off) (ht : (pc : Int) + off = (tgt : Int)) (k : W p l e R s m args below meth c H locs cells slots Q (F0 m tgt ls rest)) : W p l e R s m args below meth c H locs cells slots Q (F0 m pc ls (.int (zI a) :: rest)) := by
  subst h
  exact lv_tableIn hx hb hdg (by rw [zI_toInt hr]; omega) (by rw [zI_toInt hr]; omega) (by rw [zI_toInt hr]; exact ho) ht k
theorem z_tswOut (hx : p.tables.exec = Jvm.exec) (hb : c.code = cc) {a : Int} (hr : -2147483648 ≤ a ∧ a < 2147483648) {dflt lo hi : Int} {offs : Array Int} {len : Nat} {tgt : Nat} (hdg : decode cc pc = .ok (.tableswitch dflt lo hi offs, len)) (h1 : a < lo ∨ hi < a) (ht : (pc : Int) + dflt = (tgt : Int)) (k : W p l e R s m args below meth c H locs cells slots Q (F0 m tgt ls rest)) : W p l e R s m args below meth c H locs cells slots Q (F0 m pc ls (.int (zI a) :: rest)) := lv_tableOut hx hb hdg (by rw [zI_toInt hr]; exact h1) ht k
end ZR
