def hi (j : Int) : Int := if j ≤ 0 then 0 else if j = 1 then 1200 else if j = 2 then 1902 else if j = 3 then 2400 else if j = 4 then 2786 else if j = 5 then 3102 else if j = 6 then 3369 else 3600
def tp (j : Int) : Int := if j ≤ 0 then 50 else if j = 1 then 99 else 9
abbrev zT (cI cJ cZ cO : ClassId) : List (ClassId × FieldType) := [(cI, .int), (cJ, .long), (cZ, .boolean), (cO, .object "BrassWays$Setup")]
/-- what holds of statics and nest links, at every method's start -/
def zSt (A : Nat → Prop) (U : State) (H : Heap) : Prop :=
  (∃ t : Nat, va_Z "BrassWays" "HIGH" "[I" (.ref t) A U H ∧ va_T .int t 8 (fun j => .int (zI (hi (j : Int)))) A U H) ∧
  (∃ t : Nat, va_Z "BrassWays" "RULE_TOP" "[I" (.ref t) A U H ∧ va_T .int t 5 (fun j => .int (zI (tp (j : Int)))) A U H) ∧
  va_Nw (.fieldLinkNest RX1 42 "BrassWays" "HIGH" "[I" "BrassWays") U ∧ va_Nw (.methodLinkNest RX1 38 yX2_valveDrop "BrassWays") U ∧
  va_Nw (.methodLinkNest RX2 11 yX1_init "BrassWays") U ∧ va_Nw (.methodLinkNest RX2 26 yX0_init "BrassWays") U ∧ va_AO RX1 U
theorem zSt.calling {A : Nat → Prop} {U : State} {g : JFrame} {mk : MethodId} {a : Array Value} (h : zSt A U U.heap) : zSt A (U.calling g mk a) (U.calling g mk a).heap := by
  obtain ⟨⟨t, a1, a2⟩, ⟨u, b1, b2⟩, n1, n2, n3, n4, o⟩ := h
  have hv : U.vm.Alike (U.calling g mk a).vm := Vm.Alike.refl U.vm
  exact ⟨⟨t, va_Z.moved hv a1, va_T.moved hv a2⟩, ⟨u, va_Z.moved hv b1, va_T.moved hv b2⟩, va_Nw.same rfl (u := U) rfl n1, va_Nw.same rfl (u := U) rfl n2, va_Nw.same rfl (u := U) rfl n3, va_Nw.same rfl (u := U) rfl n4, va_AO.moved hv o⟩
theorem zSt.go {A A1 : Nat → Prop} {s U : State} {H : Heap} {locs : List Loc} (h : zSt A s s.heap) (hS : va_S A s.heap H locs) (hF : ∀ q, A1 q → A q) (hU : U.heap = H) (hW : s.WarmedH U.vm) : zSt A1 U U.heap := by
  obtain ⟨⟨t, a1, a2⟩, ⟨u, b1, b2⟩, n1, n2, n3, n4, o⟩ := h
  have k : ∀ a : Nat, a < s.heap.size → ¬ A a → U.heap[a]? = s.heap[a]? := fun a h1 h2 => by rw [hU]; exact hS.2.1 a h1 h2
  exact ⟨⟨t, va_Z.moved hW.alike ((a1.kept k).narrow hF), va_T.moved hW.alike ((a2.kept k).narrow hF)⟩, ⟨u, va_Z.moved hW.alike ((b1.kept k).narrow hF), va_T.moved hW.alike ((b2.kept k).narrow hF)⟩, va_Nw.warmF hW n1, va_Nw.warmM hW n2, va_Nw.warmM hW n3, va_Nw.warmM hW n4, va_AO.moved hW.alike o⟩
def zPc (D : va_G) (cI cJ cZ cO : ClassId) (ws : va_W) (sz : Nat) (av : List Value) : Array Value → State → Prop := va_Pc av (fun U => U.heap.size = sz ∧ va_P D vwCl ws U.heap ∧ va_K D vwCl (zT cI cJ cZ cO) U ∧ va_D (fun _ => True) ws ∧ zSt (va_A ws sz) U U.heap)
theorem zPc_blind {D : va_G} {cI cJ cZ cO : ClassId} {ws : va_W} {sz : Nat} {av : List Value} : FrameBlind (zPc D cI cJ cZ cO ws sz av) := fun a U g mk q => by
  obtain ⟨q0, q1, qP, qK, qD, qZ⟩ := q
  exact ⟨q0, q1, qP, va_K.moved (u := U) (U := U.calling g mk a) (Vm.Alike.refl U.vm) qK, qD, zSt.calling qZ⟩
abbrev zQi {S : Type} (D : va_G) (post : Int32 → S → Prop) (w1 : S → va_W) (ws : va_W) (sz : Nat) : Array Value → State → Outcome → State → Prop := va_Qi post (fun u t => va_P D vwCl (w1 u) t.heap) (va_A ws sz)
abbrev zQl {S : Type} (D : va_G) (post : Int64 → S → Prop) (w1 : S → va_W) (ws : va_W) (sz : Nat) : Array Value → State → Outcome → State → Prop := va_Ql post (fun u t => va_P D vwCl (w1 u) t.heap) (va_A ws sz)
abbrev zQv {S : Type} (D : va_G) (post : S → Prop) (w1 : S → va_W) (ws : va_W) (sz : Nat) : Array Value → State → Outcome → State → Prop := va_Qv post (fun u t => va_P D vwCl (w1 u) t.heap) (va_A ws sz)
theorem z_meti {S : Type} {l : Launch} {y : MethodName} {wy wy' : List Cond} {rm : Room} {cc : ByteArray} {maxL : Nat} {D : va_G} {cI cJ cZ cO : ClassId} {ws : va_W} {sz : Nat} {av : List Value} {post : Int32 → S → Prop} {w1 : S → va_W}
    (hy : plainName y.cls = true) (hw : wy = Cond.code y cc maxL (some .int) :: wy') (hav : (lg_sl av).length ≤ maxL)
    (body : ∀ (p : Program) (e : Env) (s : State) (m : MethodId) (args : Array Value) (below : List Frame) (meth : Method) (c : Code) (A : Nat → Prop) (Q : State → Prop) (ls : Array Slot),
      p.tables.exec = Jvm.exec → c.code = cc → c.maxLocals = maxL → s.vm.findClass y.cls = some m.cls → (∀ w ∈ wy, w.before args s = true) → (∀ q : Nat, s.heap.size ≤ q → A q) → va_S A s.heap s.heap [] → va_P D vwCl ws s.heap → va_D A ws → va_K D vwCl (zT cI cJ cZ cO) s → zSt A s s.heap → lv_has ls maxL (lv_args 0 av) →
      (∀ (H : Heap) (locs : List Loc) (ls : Array Slot) (pc : Nat) (r : Int32) (u : S), decode cc pc = .ok (.ireturn, 1) → post r u → va_P D vwCl (w1 u) H → va_S A s.heap H locs → W p l e rm s m args below meth c H locs 0 0 Q (F0 m pc ls [.int r])) →
      W p l e rm s m args below meth c s.heap [] 0 0 Q (F0 m 0 ls [])) :
    Met l y wy rm (zPc D cI cJ cZ cO ws sz av) (zQi D post w1 ws sz) 0 0 (va_A ws sz) := by
  refine Met.ofW (cc := cc) (maxL := maxL) (ret := (some .int)) hy hw ?_
  intro p e s m args below meth c s₁ B hml hv
  obtain ⟨rfl, hsz, hP, hK, hD0, hZ⟩ := hv
  have hts := atoms_spec (ws := wy) B.pre
  have hown : s.vm.findClass y.cls = some m.cls := findClass_of_methodNamed B.named
  have hlocks := B.notSynchronized
  have hr := B.returns
  subst hsz
  have hl := lv_entry av (n := maxL) hav
  rw [lg_entry_eq]
  refine body p e s m av.toArray below meth c (va_A ws s.heap.size) _ _ B.exec B.bytes hml hown hts (fun q h => Or.inr h) va_S.rf hP hD0.self hK hZ hl ?_
  intro H locs ls pc r u hdg hpost hP1 hS
  exact W.iret B.exec B.bytes hr (fun t ht hW => ⟨⟨r, u, rfl, hpost, by show va_P D vwCl (w1 u) t.heap; rw [ht]; exact hP1⟩, hS.F ht⟩) hS.2.2 hdg
theorem z_metz {S : Type} {l : Launch} {y : MethodName} {wy wy' : List Cond} {rm : Room} {cc : ByteArray} {maxL : Nat} {D : va_G} {cI cJ cZ cO : ClassId} {ws : va_W} {sz : Nat} {av : List Value} {post : Int32 → S → Prop} {w1 : S → va_W}
    (hy : plainName y.cls = true) (hw : wy = Cond.code y cc maxL (some .boolean) :: wy') (hav : (lg_sl av).length ≤ maxL)
    (body : ∀ (p : Program) (e : Env) (s : State) (m : MethodId) (args : Array Value) (below : List Frame) (meth : Method) (c : Code) (A : Nat → Prop) (Q : State → Prop) (ls : Array Slot),
      p.tables.exec = Jvm.exec → c.code = cc → c.maxLocals = maxL → s.vm.findClass y.cls = some m.cls → (∀ w ∈ wy, w.before args s = true) → (∀ q : Nat, s.heap.size ≤ q → A q) → va_S A s.heap s.heap [] → va_P D vwCl ws s.heap → va_D A ws → va_K D vwCl (zT cI cJ cZ cO) s → zSt A s s.heap → lv_has ls maxL (lv_args 0 av) →
      (∀ (H : Heap) (locs : List Loc) (ls : Array Slot) (pc : Nat) (r : Int32) (u : S), decode cc pc = .ok (.ireturn, 1) → narrow .boolean (.int r) = .int r → post r u → va_P D vwCl (w1 u) H → va_S A s.heap H locs → W p l e rm s m args below meth c H locs 0 0 Q (F0 m pc ls [.int r])) →
      W p l e rm s m args below meth c s.heap [] 0 0 Q (F0 m 0 ls [])) :
    Met l y wy rm (zPc D cI cJ cZ cO ws sz av) (zQi D post w1 ws sz) 0 0 (va_A ws sz) := by
  refine Met.ofW (cc := cc) (maxL := maxL) (ret := (some .boolean)) hy hw ?_
  intro p e s m args below meth c s₁ B hml hv
  obtain ⟨rfl, hsz, hP, hK, hD0, hZ⟩ := hv
  have hts := atoms_spec (ws := wy) B.pre
  have hown : s.vm.findClass y.cls = some m.cls := findClass_of_methodNamed B.named
  have hlocks := B.notSynchronized
  have hr := B.returns
  subst hsz
  have hl := lv_entry av (n := maxL) hav
  rw [lg_entry_eq]
  refine body p e s m av.toArray below meth c (va_A ws s.heap.size) _ _ B.exec B.bytes hml hown hts (fun q h => Or.inr h) va_S.rf hP hD0.self hK hZ hl ?_
  intro H locs ls pc r u hdg hnar hpost hP1 hS
  exact W.zret B.exec B.bytes hr hnar (fun t ht hW => ⟨⟨r, u, rfl, hpost, by show va_P D vwCl (w1 u) t.heap; rw [ht]; exact hP1⟩, hS.F ht⟩) hS.2.2 hdg
theorem z_metl {S : Type} {l : Launch} {y : MethodName} {wy wy' : List Cond} {rm : Room} {cc : ByteArray} {maxL : Nat} {D : va_G} {cI cJ cZ cO : ClassId} {ws : va_W} {sz : Nat} {av : List Value} {post : Int64 → S → Prop} {w1 : S → va_W}
    (hy : plainName y.cls = true) (hw : wy = Cond.code y cc maxL (some .long) :: wy') (hav : (lg_sl av).length ≤ maxL)
    (body : ∀ (p : Program) (e : Env) (s : State) (m : MethodId) (args : Array Value) (below : List Frame) (meth : Method) (c : Code) (A : Nat → Prop) (Q : State → Prop) (ls : Array Slot),
      p.tables.exec = Jvm.exec → c.code = cc → c.maxLocals = maxL → s.vm.findClass y.cls = some m.cls → (∀ w ∈ wy, w.before args s = true) → (∀ q : Nat, s.heap.size ≤ q → A q) → va_S A s.heap s.heap [] → va_P D vwCl ws s.heap → va_D A ws → va_K D vwCl (zT cI cJ cZ cO) s → zSt A s s.heap → lv_has ls maxL (lv_args 0 av) →
      (∀ (H : Heap) (locs : List Loc) (ls : Array Slot) (pc : Nat) (r : Int64) (u : S), decode cc pc = .ok (.lreturn, 1) → post r u → va_P D vwCl (w1 u) H → va_S A s.heap H locs → W p l e rm s m args below meth c H locs 0 0 Q (F0 m pc ls [.long r])) →
      W p l e rm s m args below meth c s.heap [] 0 0 Q (F0 m 0 ls [])) :
    Met l y wy rm (zPc D cI cJ cZ cO ws sz av) (zQl D post w1 ws sz) 0 0 (va_A ws sz) := by
  refine Met.ofW (cc := cc) (maxL := maxL) (ret := (some .long)) hy hw ?_
  intro p e s m args below meth c s₁ B hml hv
  obtain ⟨rfl, hsz, hP, hK, hD0, hZ⟩ := hv
  have hts := atoms_spec (ws := wy) B.pre
  have hown : s.vm.findClass y.cls = some m.cls := findClass_of_methodNamed B.named
  have hlocks := B.notSynchronized
  have hr := B.returns
  subst hsz
  have hl := lv_entry av (n := maxL) hav
  rw [lg_entry_eq]
  refine body p e s m av.toArray below meth c (va_A ws s.heap.size) _ _ B.exec B.bytes hml hown hts (fun q h => Or.inr h) va_S.rf hP hD0.self hK hZ hl ?_
  intro H locs ls pc r u hdg hpost hP1 hS
  exact W.lret B.exec B.bytes hr (fun t ht hW => ⟨⟨r, u, rfl, hpost, by show va_P D vwCl (w1 u) t.heap; rw [ht]; exact hP1⟩, hS.F ht⟩) hS.2.2 hdg
theorem z_metv {S : Type} {l : Launch} {y : MethodName} {wy wy' : List Cond} {rm : Room} {cc : ByteArray} {maxL : Nat} {D : va_G} {cI cJ cZ cO : ClassId} {ws : va_W} {sz : Nat} {av : List Value} {post : S → Prop} {w1 : S → va_W}
    (hy : plainName y.cls = true) (hw : wy = Cond.code y cc maxL none :: wy') (hav : (lg_sl av).length ≤ maxL)
    (body : ∀ (p : Program) (e : Env) (s : State) (m : MethodId) (args : Array Value) (below : List Frame) (meth : Method) (c : Code) (A : Nat → Prop) (Q : State → Prop) (ls : Array Slot),
      p.tables.exec = Jvm.exec → c.code = cc → c.maxLocals = maxL → s.vm.findClass y.cls = some m.cls → (∀ w ∈ wy, w.before args s = true) → (∀ q : Nat, s.heap.size ≤ q → A q) → va_S A s.heap s.heap [] → va_P D vwCl ws s.heap → va_D A ws → va_K D vwCl (zT cI cJ cZ cO) s → zSt A s s.heap → lv_has ls maxL (lv_args 0 av) →
      (∀ (H : Heap) (locs : List Loc) (ls : Array Slot) (pc : Nat) (u : S), decode cc pc = .ok (.return_, 1) → post u → va_P D vwCl (w1 u) H → va_S A s.heap H locs → W p l e rm s m args below meth c H locs 0 0 Q (F0 m pc ls [])) →
      W p l e rm s m args below meth c s.heap [] 0 0 Q (F0 m 0 ls [])) :
    Met l y wy rm (zPc D cI cJ cZ cO ws sz av) (zQv D post w1 ws sz) 0 0 (va_A ws sz) := by
  refine Met.ofW (cc := cc) (maxL := maxL) (ret := none) hy hw ?_
  intro p e s m args below meth c s₁ B hml hv
  obtain ⟨rfl, hsz, hP, hK, hD0, hZ⟩ := hv
  have hts := atoms_spec (ws := wy) B.pre
  have hown : s.vm.findClass y.cls = some m.cls := findClass_of_methodNamed B.named
  have hlocks := B.notSynchronized
  have hr := B.returns
  subst hsz
  have hl := lv_entry av (n := maxL) hav
  rw [lg_entry_eq]
  refine body p e s m av.toArray below meth c (va_A ws s.heap.size) _ _ B.exec B.bytes hml hown hts (fun q h => Or.inr h) va_S.rf hP hD0.self hK hZ hl ?_
  intro H locs ls pc u hdg hpost hP1 hS
  exact W.vret B.exec B.bytes hr (fun t ht hW => ⟨⟨u, rfl, hpost, by show va_P D vwCl (w1 u) t.heap; rw [ht]; exact hP1⟩, hS.F ht⟩) hS.2.2 hdg
/-! worlds behind a call, in their places -/
def zmerge : va_W → List Nat → va_W → va_W
  | ws, i :: is, x :: xs => zmerge (ws.set i x) is xs
  | ws, _, _ => ws
theorem zmerge_at (is : List Nat) : ∀ (xs ws : va_W) (k : Nat) (q : Nat × va_E), is.length = xs.length → (zmerge ws is xs)[k]? = some q → (∃ j : Nat, is[j]? = some k ∧ xs[j]? = some q) ∨ (k ∉ is ∧ ws[k]? = some q) := by
  induction is with
  | nil =>
    intro xs ws k q hl h
    cases xs with
    | nil => exact Or.inr ⟨List.not_mem_nil, h⟩
    | cons x xs => cases hl
  | cons i is ih =>
    intro xs ws k q hl h
    cases xs with
    | nil => cases hl
    | cons x xs =>
      have h' : (zmerge (ws.set i x) is xs)[k]? = some q := h
      rcases ih xs (ws.set i x) k q (Nat.succ.inj hl) h' with ⟨j, h1, h2⟩ | ⟨h1, h2⟩
      · exact Or.inl ⟨j + 1, by simpa using h1, by simpa using h2⟩
      · by_cases hk : i = k
        · subst hk
          have hi : i < ws.length := by
            have h3 := (List.getElem?_eq_some_iff.mp h2).1
            simpa using h3
          rw [List.getElem?_set_self hi] at h2
          exact Or.inl ⟨0, rfl, h2⟩
        · rw [List.getElem?_set_ne hk] at h2
          exact Or.inr ⟨fun hm => by
            rcases List.mem_cons.mp hm with q1 | q1
            · exact hk q1.symm
            · exact h1 q1, h2⟩
theorem z_cut {ws wc : va_W} {isC : List Nat} (hC : isC.map (fun i => ws[i]?) = wc.map some) {j i : Nat} {q : Nat × va_E} (h1 : isC[j]? = some i) (h2 : wc[j]? = some q) : ws[i]? = some q := by
  have h := congrArg (fun l => l[j]?) hC
  simp only [List.getElem?_map, h1, h2, Option.map_some] at h
  exact Option.some.inj h
theorem z_cutj {ws wc : va_W} {isC : List Nat} (hC : isC.map (fun i => ws[i]?) = wc.map some) {j : Nat} {q : Nat × va_E} (h2 : wc[j]? = some q) : ∃ i, isC[j]? = some i ∧ ws[i]? = some q := by
  have hl : isC.length = wc.length := by have h := congrArg List.length hC; simpa using h
  have hj : j < isC.length := by rw [hl]; exact (List.getElem?_eq_some_iff.mp h2).1
  exact ⟨isC[j], List.getElem?_eq_getElem hj, z_cut hC (List.getElem?_eq_getElem hj) h2⟩
theorem z_off {A : Nat → Prop} {D : va_G} {cl : List vw_C} {ws wc : va_W} {H : Heap} (hP : va_P D cl ws H) (hD : va_D A ws) {isC : List Nat} (hC : isC.map (fun i => ws[i]?) = wc.map some) {k : Nat} {q : Nat × va_E} (hq : ws[k]? = some q) (hk : k ∉ isC) : ¬ va_A wc H.size q.1 := by
  rintro (⟨j, e, hj⟩ | hge)
  · obtain ⟨i, h1, h2⟩ := z_cutj hC hj
    have hik := hD.1 i k (q.1, e) q h2 hq rfl
    subst hik
    exact hk (List.mem_of_getElem? h1)
  · have hlt := (hP k q hq).lt
    omega
theorem z_join {A : Nat → Prop} {D : va_G} {cl : List vw_C} {ws wc w1 : va_W} {H H1 : Heap} (hP : va_P D cl ws H) (hD : va_D A ws) (isC : List Nat) (hC : isC.map (fun i => ws[i]?) = wc.map some) (hn : w1.map Prod.fst = wc.map Prod.fst)
    (hk : ∀ q : Nat, q < H.size → ¬ va_A wc H.size q → H1[q]? = H[q]?) (hP1 : va_P D cl w1 H1) : va_P D cl (zmerge ws isC w1) H1 ∧ va_D A (zmerge ws isC w1) := by
  have hl1 : isC.length = wc.length := by have h := congrArg List.length hC; simpa using h
  have hl2 : w1.length = wc.length := by have h := congrArg List.length hn; simpa using h
  have hl3 : isC.length = w1.length := by omega
  have key : ∀ (k : Nat) (q : Nat × va_E), (zmerge ws isC w1)[k]? = some q → ∃ q' : Nat × va_E, ws[k]? = some q' ∧ q'.1 = q.1 := by
    intro k q hq
    rcases zmerge_at isC w1 ws k q hl3 hq with ⟨j, h1, h2⟩ | ⟨h1, h2⟩
    · have hj : j < wc.length := by rw [← hl2]; exact (List.getElem?_eq_some_iff.mp h2).1
      have h3 := congrArg (fun l => l[j]?) hn
      simp only [List.getElem?_map, h2, List.getElem?_eq_getElem hj, Option.map_some] at h3
      exact ⟨wc[j], z_cut hC h1 (List.getElem?_eq_getElem hj), (Option.some.inj h3).symm⟩
    · exact ⟨q, h2, rfl⟩
  refine ⟨fun k q hq => ?_, fun i j x y hx hy hxy => ?_, fun k q hq => ?_⟩
  · rcases zmerge_at isC w1 ws k q hl3 hq with ⟨j, h1, h2⟩ | ⟨h1, h2⟩
    · exact hP1 j q h2
    · exact (hP k q h2).kept (hk q.1 ((hP k q h2).lt) (z_off hP hD hC h2 h1))
  · obtain ⟨x', h1, h2⟩ := key i x hx
    obtain ⟨y', h3, h4⟩ := key j y hy
    exact hD.1 i j x' y' h1 h3 (by rw [h2, h4]; exact hxy)
  · obtain ⟨q', h1, h2⟩ := key k q hq
    rw [← h2]
    exact hD.2 k q' h1
theorem z_keep {A : Nat → Prop} {D : va_G} {cl : List vw_C} {ws wc : va_W} {H H1 : Heap} (hP : va_P D cl ws H) (hD : va_D A ws) (isC : List Nat) (hC : isC.map (fun i => ws[i]?) = wc.map some)
    (hk : ∀ q : Nat, q < H.size → ¬ va_A wc H.size q → H1[q]? = H[q]?) (hP1 : va_P D cl wc H1) : va_P D cl ws H1 := by
  have hl1 : isC.length = wc.length := by have h := congrArg List.length hC; simpa using h
  intro k q hq
  by_cases hm : k ∈ isC
  · obtain ⟨j, hj⟩ := List.getElem?_of_mem hm
    have hj2 : j < wc.length := by rw [← hl1]; exact (List.getElem?_eq_some_iff.mp hj).1
    have h2 := z_cut hC hj (List.getElem?_eq_getElem hj2)
    rw [hq] at h2
    have e := Option.some.inj h2
    rw [e]
    exact hP1 j _ (List.getElem?_eq_getElem hj2)
  · exact (hP k q hq).kept (hk q.1 ((hP k q hq).lt) (z_off hP hD hC hq hm))
theorem z_sub {D : va_G} {cl : List vw_C} {ws wc : va_W} {H : Heap} (hP : va_P D cl ws H) {isC : List Nat} (hC : isC.map (fun i => ws[i]?) = wc.map some) : va_P D cl wc H := fun k q hq => by
  obtain ⟨i, -, h2⟩ := z_cutj hC hq
  exact hP i q h2
section ZC
variable {p : Program} {l : Launch} {e : Env} {R : Room} {s : State} {m : MethodId} {args : Array Value} {below : List Frame} {meth : Method} {c : Code} {H : Heap} {locs : List Loc} {cells slots : Nat} {Q : State → Prop}
variable {cc : ByteArray} {pc : Nat} {ls : Array Slot} {rest st0 As : List Value} {D : va_G} {cI cJ cZ cO : ClassId} {A : Nat → Prop} {b : Nat} {ws wc : va_W} {nL n index maxL : Nat} {own C host : String} {y : MethodName} {wy Ts : List Cond} {rm : Room} {bytes : ByteArray} {ret : Option FieldType} {fs : List Value} {T : u_T} {N : Nat}
theorem z_pre (hP : va_P D vwCl ws H) (hD : va_D A ws) (hS : va_S A s.heap H locs) (hA : ∀ q : Nat, s.heap.size ≤ q → A q) (hK : va_K D vwCl (zT cI cJ cZ cO) s) (hZ : zSt A s s.heap) {isC : List Nat} (hC : isC.map (fun i => ws[i]?) = wc.map some) (hnd : va_nd isC = true) {av : List Value} : ∀ U : State, U.heap = H → s.WarmedH U.vm → zPc D cI cJ cZ cO wc H.size av av.toArray U :=
  fun U hU hW => ⟨rfl, by rw [hU], by rw [hU]; exact z_sub hP hC, va_K.moved hW.alike hK, (hD.sub isC hnd hC).weaken (fun _ _ _ _ => trivial), hZ.go hS (va_free (wc := wc) hD hS hA isC hC) hU hW⟩
theorem z_Vir {S : Type} {post : Int32 → S → Prop} (hx : p.tables.exec = Jvm.exec) (hb : c.code = cc) (hml : c.maxLocals = nL) (hown : s.vm.findClass own = some m.cls) (hts : ∀ w ∈ Ts, w.before args s = true) (hA : ∀ q : Nat, s.heap.size ≤ q → A q) (hS : va_S A s.heap H locs) (hP : va_P D vwCl ws H) (hD : va_D A ws) (hK : va_K D vwCl (zT cI cJ cZ cO) s) (hZ : zSt A s s.heap) (hls : ls.size = nL)
    (hM : Met l y wy rm (zPc D cI cJ cZ cO wc H.size (.ref b :: As)) (zQi D post (fun _ => wc) wc H.size) 0 0 (va_A wc H.size)) (cw : CallW R s args own C index y bytes maxL ret wy rm 0 0 n) (isC : List Nat) (hC : isC.map (fun i => ws[i]?) = wc.map some) (hnd : va_nd isC = true) (q0 ci : Nat) (hq : ws[q0]? = some (b, .inr (ci, fs))) (hci : vwCl[ci]? = some (C, T, N)) (hlen : As.length = n) (hst : st0 = As.reverse ++ .ref b :: rest) (hroom : (rest.map fun v => v.category).sum ≤ 8) (hf : cells ≤ R.cells ∧ slots ≤ R.slots) (hdg : decode cc pc = .ok (.invokevirtual index, 3))
    (kk : ∀ (r : Int32) (u : S) (H1 : Heap) (locs1 : List Loc), post r u → va_P D vwCl ws H1 → va_S A s.heap H1 locs1 → W p l e R s m args below meth c H1 locs1 cells slots Q (F0 m (pc + 3) ls (.int r :: rest))) : W p l e R s m args below meth c H locs cells slots Q (F0 m pc ls st0) := by
  have hFc := va_free (wc := wc) hD hS hA isC hC
  refine va_calli (va_runV (As := As) (rest := rest) ⟨hx, hb, hml, hown, hts⟩ hM cw ⟨zPc_blind, va_recv hK hP (ci := ci) (q0 := q0) hci hq, z_pre hP hD hS hA hK hZ hC hnd⟩ rfl hlen hls hst (lv_room hroom) hdg hf) hS (fun q _ h => hFc q h) hFc (fun r u t H1 locs1 ht hvm hw hB hz1 hk1 hS1 => ?_)
  rw [ht] at hB
  exact kk r u H1 locs1 hw (z_keep hP hD isC hC hk1 hB) hS1
theorem z_Viw {S : Type} {post : Int32 → S → Prop} {w1 : S → va_W} (hx : p.tables.exec = Jvm.exec) (hb : c.code = cc) (hml : c.maxLocals = nL) (hown : s.vm.findClass own = some m.cls) (hts : ∀ w ∈ Ts, w.before args s = true) (hA : ∀ q : Nat, s.heap.size ≤ q → A q) (hS : va_S A s.heap H locs) (hP : va_P D vwCl ws H) (hD : va_D A ws) (hK : va_K D vwCl (zT cI cJ cZ cO) s) (hZ : zSt A s s.heap) (hls : ls.size = nL)
    (hM : Met l y wy rm (zPc D cI cJ cZ cO wc H.size (.ref b :: As)) (zQi D post w1 wc H.size) 0 0 (va_A wc H.size)) (cw : CallW R s args own C index y bytes maxL ret wy rm 0 0 n) (isC : List Nat) (hC : isC.map (fun i => ws[i]?) = wc.map some) (hnd : va_nd isC = true) (hn : ∀ u, (w1 u).map Prod.fst = wc.map Prod.fst) (q0 ci : Nat) (hq : ws[q0]? = some (b, .inr (ci, fs))) (hci : vwCl[ci]? = some (C, T, N)) (hlen : As.length = n) (hst : st0 = As.reverse ++ .ref b :: rest) (hroom : (rest.map fun v => v.category).sum ≤ 8) (hf : cells ≤ R.cells ∧ slots ≤ R.slots) (hdg : decode cc pc = .ok (.invokevirtual index, 3))
    (kk : ∀ (r : Int32) (u : S) (H1 : Heap) (locs1 : List Loc), post r u → va_P D vwCl (zmerge ws isC (w1 u)) H1 → va_D A (zmerge ws isC (w1 u)) → va_S A s.heap H1 locs1 → W p l e R s m args below meth c H1 locs1 cells slots Q (F0 m (pc + 3) ls (.int r :: rest))) : W p l e R s m args below meth c H locs cells slots Q (F0 m pc ls st0) := by
  have hFc := va_free (wc := wc) hD hS hA isC hC
  refine va_calli (va_runV (As := As) (rest := rest) ⟨hx, hb, hml, hown, hts⟩ hM cw ⟨zPc_blind, va_recv hK hP (ci := ci) (q0 := q0) hci hq, z_pre hP hD hS hA hK hZ hC hnd⟩ rfl hlen hls hst (lv_room hroom) hdg hf) hS (fun q _ h => hFc q h) hFc (fun r u t H1 locs1 ht hvm hw hB hz1 hk1 hS1 => ?_)
  rw [ht] at hB
  exact kk r u H1 locs1 hw (z_join hP hD isC hC (hn u) hk1 hB).1 (z_join hP hD isC hC (hn u) hk1 hB).2 hS1
theorem z_Vlr {S : Type} {post : Int64 → S → Prop} (hx : p.tables.exec = Jvm.exec) (hb : c.code = cc) (hml : c.maxLocals = nL) (hown : s.vm.findClass own = some m.cls) (hts : ∀ w ∈ Ts, w.before args s = true) (hA : ∀ q : Nat, s.heap.size ≤ q → A q) (hS : va_S A s.heap H locs) (hP : va_P D vwCl ws H) (hD : va_D A ws) (hK : va_K D vwCl (zT cI cJ cZ cO) s) (hZ : zSt A s s.heap) (hls : ls.size = nL)
    (hM : Met l y wy rm (zPc D cI cJ cZ cO wc H.size (.ref b :: As)) (zQl D post (fun _ => wc) wc H.size) 0 0 (va_A wc H.size)) (cw : CallW R s args own C index y bytes maxL ret wy rm 0 0 n) (isC : List Nat) (hC : isC.map (fun i => ws[i]?) = wc.map some) (hnd : va_nd isC = true) (q0 ci : Nat) (hq : ws[q0]? = some (b, .inr (ci, fs))) (hci : vwCl[ci]? = some (C, T, N)) (hlen : As.length = n) (hst : st0 = As.reverse ++ .ref b :: rest) (hroom : (rest.map fun v => v.category).sum ≤ 8) (hf : cells ≤ R.cells ∧ slots ≤ R.slots) (hdg : decode cc pc = .ok (.invokevirtual index, 3))
    (kk : ∀ (r : Int64) (u : S) (H1 : Heap) (locs1 : List Loc), post r u → va_P D vwCl ws H1 → va_S A s.heap H1 locs1 → W p l e R s m args below meth c H1 locs1 cells slots Q (F0 m (pc + 3) ls (.long r :: rest))) : W p l e R s m args below meth c H locs cells slots Q (F0 m pc ls st0) := by
  have hFc := va_free (wc := wc) hD hS hA isC hC
  refine va_calll (va_runV (As := As) (rest := rest) ⟨hx, hb, hml, hown, hts⟩ hM cw ⟨zPc_blind, va_recv hK hP (ci := ci) (q0 := q0) hci hq, z_pre hP hD hS hA hK hZ hC hnd⟩ rfl hlen hls hst (lv_room hroom) hdg hf) hS (fun q _ h => hFc q h) hFc (fun r u t H1 locs1 ht hvm hw hB hz1 hk1 hS1 => ?_)
  rw [ht] at hB
  exact kk r u H1 locs1 hw (z_keep hP hD isC hC hk1 hB) hS1
theorem z_Vlw {S : Type} {post : Int64 → S → Prop} {w1 : S → va_W} (hx : p.tables.exec = Jvm.exec) (hb : c.code = cc) (hml : c.maxLocals = nL) (hown : s.vm.findClass own = some m.cls) (hts : ∀ w ∈ Ts, w.before args s = true) (hA : ∀ q : Nat, s.heap.size ≤ q → A q) (hS : va_S A s.heap H locs) (hP : va_P D vwCl ws H) (hD : va_D A ws) (hK : va_K D vwCl (zT cI cJ cZ cO) s) (hZ : zSt A s s.heap) (hls : ls.size = nL)
    (hM : Met l y wy rm (zPc D cI cJ cZ cO wc H.size (.ref b :: As)) (zQl D post w1 wc H.size) 0 0 (va_A wc H.size)) (cw : CallW R s args own C index y bytes maxL ret wy rm 0 0 n) (isC : List Nat) (hC : isC.map (fun i => ws[i]?) = wc.map some) (hnd : va_nd isC = true) (hn : ∀ u, (w1 u).map Prod.fst = wc.map Prod.fst) (q0 ci : Nat) (hq : ws[q0]? = some (b, .inr (ci, fs))) (hci : vwCl[ci]? = some (C, T, N)) (hlen : As.length = n) (hst : st0 = As.reverse ++ .ref b :: rest) (hroom : (rest.map fun v => v.category).sum ≤ 8) (hf : cells ≤ R.cells ∧ slots ≤ R.slots) (hdg : decode cc pc = .ok (.invokevirtual index, 3))
    (kk : ∀ (r : Int64) (u : S) (H1 : Heap) (locs1 : List Loc), post r u → va_P D vwCl (zmerge ws isC (w1 u)) H1 → va_D A (zmerge ws isC (w1 u)) → va_S A s.heap H1 locs1 → W p l e R s m args below meth c H1 locs1 cells slots Q (F0 m (pc + 3) ls (.long r :: rest))) : W p l e R s m args below meth c H locs cells slots Q (F0 m pc ls st0) := by
  have hFc := va_free (wc := wc) hD hS hA isC hC
  refine va_calll (va_runV (As := As) (rest := rest) ⟨hx, hb, hml, hown, hts⟩ hM cw ⟨zPc_blind, va_recv hK hP (ci := ci) (q0 := q0) hci hq, z_pre hP hD hS hA hK hZ hC hnd⟩ rfl hlen hls hst (lv_room hroom) hdg hf) hS (fun q _ h => hFc q h) hFc (fun r u t H1 locs1 ht hvm hw hB hz1 hk1 hS1 => ?_)
  rw [ht] at hB
  exact kk r u H1 locs1 hw (z_join hP hD isC hC (hn u) hk1 hB).1 (z_join hP hD isC hC (hn u) hk1 hB).2 hS1
theorem z_Vvr {S : Type} {post : S → Prop} (hx : p.tables.exec = Jvm.exec) (hb : c.code = cc) (hml : c.maxLocals = nL) (hown : s.vm.findClass own = some m.cls) (hts : ∀ w ∈ Ts, w.before args s = true) (hA : ∀ q : Nat, s.heap.size ≤ q → A q) (hS : va_S A s.heap H locs) (hP : va_P D vwCl ws H) (hD : va_D A ws) (hK : va_K D vwCl (zT cI cJ cZ cO) s) (hZ : zSt A s s.heap) (hls : ls.size = nL)
    (hM : Met l y wy rm (zPc D cI cJ cZ cO wc H.size (.ref b :: As)) (zQv D post (fun _ => wc) wc H.size) 0 0 (va_A wc H.size)) (cw : CallW R s args own C index y bytes maxL ret wy rm 0 0 n) (isC : List Nat) (hC : isC.map (fun i => ws[i]?) = wc.map some) (hnd : va_nd isC = true) (q0 ci : Nat) (hq : ws[q0]? = some (b, .inr (ci, fs))) (hci : vwCl[ci]? = some (C, T, N)) (hlen : As.length = n) (hst : st0 = As.reverse ++ .ref b :: rest) (hroom : (rest.map fun v => v.category).sum ≤ 8) (hf : cells ≤ R.cells ∧ slots ≤ R.slots) (hdg : decode cc pc = .ok (.invokevirtual index, 3))
    (kk : ∀ (u : S) (H1 : Heap) (locs1 : List Loc), post u → va_P D vwCl ws H1 → va_S A s.heap H1 locs1 → W p l e R s m args below meth c H1 locs1 cells slots Q (F0 m (pc + 3) ls (rest))) : W p l e R s m args below meth c H locs cells slots Q (F0 m pc ls st0) := by
  have hFc := va_free (wc := wc) hD hS hA isC hC
  refine va_callv (va_runV (As := As) (rest := rest) ⟨hx, hb, hml, hown, hts⟩ hM cw ⟨zPc_blind, va_recv hK hP (ci := ci) (q0 := q0) hci hq, z_pre hP hD hS hA hK hZ hC hnd⟩ rfl hlen hls hst (lv_room hroom) hdg hf) hS (fun q _ h => hFc q h) hFc (fun u t H1 locs1 ht hvm hw hB hz1 hk1 hS1 => ?_)
  rw [ht] at hB
  exact kk u H1 locs1 hw (z_keep hP hD isC hC hk1 hB) hS1
theorem z_Vvw {S : Type} {post : S → Prop} {w1 : S → va_W} (hx : p.tables.exec = Jvm.exec) (hb : c.code = cc) (hml : c.maxLocals = nL) (hown : s.vm.findClass own = some m.cls) (hts : ∀ w ∈ Ts, w.before args s = true) (hA : ∀ q : Nat, s.heap.size ≤ q → A q) (hS : va_S A s.heap H locs) (hP : va_P D vwCl ws H) (hD : va_D A ws) (hK : va_K D vwCl (zT cI cJ cZ cO) s) (hZ : zSt A s s.heap) (hls : ls.size = nL)
    (hM : Met l y wy rm (zPc D cI cJ cZ cO wc H.size (.ref b :: As)) (zQv D post w1 wc H.size) 0 0 (va_A wc H.size)) (cw : CallW R s args own C index y bytes maxL ret wy rm 0 0 n) (isC : List Nat) (hC : isC.map (fun i => ws[i]?) = wc.map some) (hnd : va_nd isC = true) (hn : ∀ u, (w1 u).map Prod.fst = wc.map Prod.fst) (q0 ci : Nat) (hq : ws[q0]? = some (b, .inr (ci, fs))) (hci : vwCl[ci]? = some (C, T, N)) (hlen : As.length = n) (hst : st0 = As.reverse ++ .ref b :: rest) (hroom : (rest.map fun v => v.category).sum ≤ 8) (hf : cells ≤ R.cells ∧ slots ≤ R.slots) (hdg : decode cc pc = .ok (.invokevirtual index, 3))
    (kk : ∀ (u : S) (H1 : Heap) (locs1 : List Loc), post u → va_P D vwCl (zmerge ws isC (w1 u)) H1 → va_D A (zmerge ws isC (w1 u)) → va_S A s.heap H1 locs1 → W p l e R s m args below meth c H1 locs1 cells slots Q (F0 m (pc + 3) ls (rest))) : W p l e R s m args below meth c H locs cells slots Q (F0 m pc ls st0) := by
  have hFc := va_free (wc := wc) hD hS hA isC hC
  refine va_callv (va_runV (As := As) (rest := rest) ⟨hx, hb, hml, hown, hts⟩ hM cw ⟨zPc_blind, va_recv hK hP (ci := ci) (q0 := q0) hci hq, z_pre hP hD hS hA hK hZ hC hnd⟩ rfl hlen hls hst (lv_room hroom) hdg hf) hS (fun q _ h => hFc q h) hFc (fun u t H1 locs1 ht hvm hw hB hz1 hk1 hS1 => ?_)
  rw [ht] at hB
  exact kk u H1 locs1 hw (z_join hP hD isC hC (hn u) hk1 hB).1 (z_join hP hD isC hC (hn u) hk1 hB).2 hS1
theorem z_Sir {S : Type} {post : Int32 → S → Prop} (hx : p.tables.exec = Jvm.exec) (hb : c.code = cc) (hml : c.maxLocals = nL) (hown : s.vm.findClass own = some m.cls) (hts : ∀ w ∈ Ts, w.before args s = true) (hA : ∀ q : Nat, s.heap.size ≤ q → A q) (hS : va_S A s.heap H locs) (hP : va_P D vwCl ws H) (hD : va_D A ws) (hK : va_K D vwCl (zT cI cJ cZ cO) s) (hZ : zSt A s s.heap) (hls : ls.size = nL)
    (hM : Met l y wy rm (zPc D cI cJ cZ cO wc H.size As) (zQi D post (fun _ => wc) wc H.size) 0 0 (va_A wc H.size)) (cw : CallB R s args own index y bytes maxL ret wy rm 0 0 n ∧ (Cond.static y).before args s = true) (isC : List Nat) (hC : isC.map (fun i => ws[i]?) = wc.map some) (hnd : va_nd isC = true) (hlen : As.length = n) (hst : st0 = As.reverse ++ rest) (hroom : (rest.map fun v => v.category).sum ≤ 8) (hf : cells ≤ R.cells ∧ slots ≤ R.slots) (hdg : decode cc pc = .ok (.invokestatic index, 3))
    (kk : ∀ (r : Int32) (u : S) (H1 : Heap) (locs1 : List Loc), post r u → va_P D vwCl ws H1 → va_S A s.heap H1 locs1 → W p l e R s m args below meth c H1 locs1 cells slots Q (F0 m (pc + 3) ls (.int r :: rest))) : W p l e R s m args below meth c H locs cells slots Q (F0 m pc ls st0) := by
  have hFc := va_free (wc := wc) hD hS hA isC hC
  refine va_calli (va_runS (As := As) (rest := rest) ⟨hx, hb, hml, hown, hts⟩ hM cw ⟨zPc_blind, z_pre hP hD hS hA hK hZ hC hnd⟩ rfl hlen hls hst (lv_room hroom) hdg hf) hS (fun q _ h => hFc q h) hFc (fun r u t H1 locs1 ht hvm hw hB hz1 hk1 hS1 => ?_)
  rw [ht] at hB
  exact kk r u H1 locs1 hw (z_keep hP hD isC hC hk1 hB) hS1
theorem z_SNir {S : Type} {post : Int32 → S → Prop} (hx : p.tables.exec = Jvm.exec) (hb : c.code = cc) (hml : c.maxLocals = nL) (hown : s.vm.findClass own = some m.cls) (hts : ∀ w ∈ Ts, w.before args s = true) (hA : ∀ q : Nat, s.heap.size ≤ q → A q) (hS : va_S A s.heap H locs) (hP : va_P D vwCl ws H) (hD : va_D A ws) (hK : va_K D vwCl (zT cI cJ cZ cO) s) (hZ : zSt A s s.heap) (hls : ls.size = nL)
    (hM : Met l y wy rm (zPc D cI cJ cZ cO wc H.size As) (zQi D post (fun _ => wc) wc H.size) 0 0 (va_A wc H.size)) (cw : va_CN R s args own index y host bytes maxL ret wy rm 0 0 n ∧ (Cond.static y).before args s = true ∧ True) (isC : List Nat) (hC : isC.map (fun i => ws[i]?) = wc.map some) (hnd : va_nd isC = true) (hlen : As.length = n) (hst : st0 = As.reverse ++ rest) (hroom : (rest.map fun v => v.category).sum ≤ 8) (hf : cells ≤ R.cells ∧ slots ≤ R.slots) (hdg : decode cc pc = .ok (.invokestatic index, 3))
    (kk : ∀ (r : Int32) (u : S) (H1 : Heap) (locs1 : List Loc), post r u → va_P D vwCl ws H1 → va_S A s.heap H1 locs1 → W p l e R s m args below meth c H1 locs1 cells slots Q (F0 m (pc + 3) ls (.int r :: rest))) : W p l e R s m args below meth c H locs cells slots Q (F0 m pc ls st0) := by
  have hFc := va_free (wc := wc) hD hS hA isC hC
  refine va_calli (va_runSN (As := As) (rest := rest) ⟨hx, hb, hml, hown, hts⟩ hM cw ⟨zPc_blind, z_pre hP hD hS hA hK hZ hC hnd⟩ rfl hlen hls hst (lv_room hroom) hdg hf) hS (fun q _ h => hFc q h) hFc (fun r u t H1 locs1 ht hvm hw hB hz1 hk1 hS1 => ?_)
  rw [ht] at hB
  exact kk r u H1 locs1 hw (z_keep hP hD isC hC hk1 hB) hS1
end ZC
