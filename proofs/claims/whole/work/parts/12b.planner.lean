abbrev rmX0_weigh : Room := { frames := 4, cells := 0, slots := 0, locals := 90 }
theorem in_X0_weigh_X0 : ∀ w ∈ wsX00, w ∈ wsX0_weigh := fun _ h => List.mem_cons_of_mem _ (List.mem_append_left _ (List.mem_append_right _ h))
theorem m_X0_weigh_0 : (.fieldLink RX0 9 "BrassWays$Planner" "size" "I" : Cond) ∈ wsX0_weigh := List.mem_of_getElem? (i := 1) rfl
theorem m_X0_weigh_6 : (.fieldLink RX0 22 "BrassWays$Planner" "behind" "[I" : Cond) ∈ wsX0_weigh := List.mem_of_getElem? (i := 7) rfl
theorem m_X0_weigh_4 : (.fieldLink RX0 25 "BrassWays$Planner" "onward" "[I" : Cond) ∈ wsX0_weigh := List.mem_of_getElem? (i := 5) rfl
theorem m_X0_weigh_3 : (.fieldLink RX0 19 "BrassWays$Planner" "wayIn" "[I" : Cond) ∈ wsX0_weigh := List.mem_of_getElem? (i := 4) rfl
theorem in_X0_weigh_X1 : ∀ w ∈ wsX10, w ∈ wsX0_weigh := fun _ h => List.mem_cons_of_mem _ (List.mem_append_right _ h)
theorem m_X0_weigh_7 : (.fieldLink RX0 35 "BrassWays$Setup" "notes" "[I" : Cond) ∈ wsX0_weigh := List.mem_of_getElem? (i := 8) rfl
theorem m_X0_weigh_5 : (.fieldLink RX0 28 "BrassWays$Planner" "ties" "[J" : Cond) ∈ wsX0_weigh := List.mem_of_getElem? (i := 6) rfl
theorem m_X0_weigh_1 : (.constant RX0 46 (1000000) : Cond) ∈ wsX0_weigh := List.mem_of_getElem? (i := 2) rfl
theorem m_X0_weigh_2 : (.fieldLink RX0 15 "BrassWays$Planner" "found" "[I" : Cond) ∈ wsX0_weigh := List.mem_of_getElem? (i := 3) rfl
set_option maxHeartbeats 4000000 in
set_option maxRecDepth 100000 in
theorem c_X0_weigh (l : Launch) (D : va_G) (cI cJ cZ cO : ClassId) (sz : Nat) (p0 : Nat) (p1 : Nat) (p2 : Nat) (p3 : Nat) (p4 : Nat) (p5 : Nat) (ps : Int) (gf : Int → Int) (gW : Int → Int) (gb : Int → Int) (go : Int → Int) (gt : Int → Int64) (s0 : Nat) (b1 : Nat) (b2 : Nat) (b3 : Nat) (σ : Int → Int) (q : Int) (c0 : Int) (hps : ps = σ 9) (hq : 0 ≤ q ∧ q < σ 9) (hc : 0 ≤ c0 ∧ c0 < 96) (hw0 : 0 ≤ gW c0 ∧ gW c0 < 64) (hn : q + 1 < σ 9 → 0 ≤ gf (q + 1) ∧ gf (q + 1) ≤ 8) (hN : q + 1 < σ 9 → ∀ i : Int, 0 ≤ i → i < gf (q + 1) → (0 ≤ gW (8 * (q + 1) + i) ∧ gW (8 * (q + 1) + i) < 64) ∧ 0 ≤ go (8 * (q + 1) + i) ∧ go (8 * (q + 1) + i) ≤ 1100000) (hO : Ok σ) : Met l yX0_weigh wsX0_weigh rmX0_weigh (zPc D cI cJ cZ cO [(p0, .inr (0, [.int (zI (ps)), .ref p1, .ref p2, .ref p3, .ref p4, .ref p5])), (p1, .inl (cI, 12, .inl (zF (gf)))), (p2, .inl (cI, 96, .inl (zF (gW)))), (p3, .inl (cI, 96, .inl (zF (gb)))), (p4, .inl (cI, 96, .inl (zF (go)))), (p5, .inl (cJ, 96, .inr (.inl (zL (gt))))), (s0, .inr (1, [.int (zI (σ 0)), .ref b1, .ref b2, .ref b3, .int (zI (σ 9))])), (b1, .inl (cI, 3, .inl (zF (fun j => σ (1 + j))))), (b2, .inl (cI, 5, .inl (zF (fun j => σ (4 + j))))), (b3, .inl (cI, 12, .inl (zF (fun j => σ (10 + j)))))] sz [.ref p0, .ref s0, .int (zI (q)), .int (zI (c0))]) (zQv D (fun (_ : Unit) => True) (fun (_ : Unit) => [(p0, .inr (0, [.int (zI (ps)), .ref p1, .ref p2, .ref p3, .ref p4, .ref p5])), (p1, .inl (cI, 12, .inl (zF (gf)))), (p2, .inl (cI, 96, .inl (zF (gW)))), (p3, .inl (cI, 96, .inl (zF (upI gb c0 (wC σ gf gW go c0 q))))), (p4, .inl (cI, 96, .inl (zF (upI go c0 (wC σ gf gW go c0 q + flt σ (gW c0) (σ (10 + q))))))), (p5, .inl (cJ, 96, .inr (.inl (zL (upI gt c0 (wT σ gf gW go gt c0 q)))))), (s0, .inr (1, [.int (zI (σ 0)), .ref b1, .ref b2, .ref b3, .int (zI (σ 9))])), (b1, .inl (cI, 3, .inl (zF (fun j => σ (1 + j))))), (b2, .inl (cI, 5, .inl (zF (fun j => σ (4 + j))))), (b3, .inl (cI, 12, .inl (zF (fun j => σ (10 + j)))))]) [(p0, .inr (0, [.int (zI (ps)), .ref p1, .ref p2, .ref p3, .ref p4, .ref p5])), (p1, .inl (cI, 12, .inl (zF (gf)))), (p2, .inl (cI, 96, .inl (zF (gW)))), (p3, .inl (cI, 96, .inl (zF (gb)))), (p4, .inl (cI, 96, .inl (zF (go)))), (p5, .inl (cJ, 96, .inr (.inl (zL (gt))))), (s0, .inr (1, [.int (zI (σ 0)), .ref b1, .ref b2, .ref b3, .int (zI (σ 9))])), (b1, .inl (cI, 3, .inl (zF (fun j => σ (1 + j))))), (b2, .inl (cI, 5, .inl (zF (fun j => σ (4 + j))))), (b3, .inl (cI, 12, .inl (zF (fun j => σ (10 + j)))))] sz) 0 0 (va_A [(p0, .inr (0, [.int (zI (ps)), .ref p1, .ref p2, .ref p3, .ref p4, .ref p5])), (p1, .inl (cI, 12, .inl (zF (gf)))), (p2, .inl (cI, 96, .inl (zF (gW)))), (p3, .inl (cI, 96, .inl (zF (gb)))), (p4, .inl (cI, 96, .inl (zF (go)))), (p5, .inl (cJ, 96, .inr (.inl (zL (gt))))), (s0, .inr (1, [.int (zI (σ 0)), .ref b1, .ref b2, .ref b3, .int (zI (σ 9))])), (b1, .inl (cI, 3, .inl (zF (fun j => σ (1 + j))))), (b2, .inl (cI, 5, .inl (zF (fun j => σ (4 + j))))), (b3, .inl (cI, 12, .inl (zF (fun j => σ (10 + j)))))] sz) := by
  refine z_metv (by decide) rfl (Nat.le_of_ble_eq_true rfl) ?_
  intro p e s m args below meth c A Q ls hx hb hml hown hts hA hS hP hD hK hZ hl hret
  have hl : lv_has ls 10 [(0, .ref p0), (1, .ref s0), (2, .int (zI (q))), (3, .int (zI (c0)))] := hl
  have o9 := hO.2.2.2.2.2.2.2.2.2.1
  have o10 := hO.2.2.2.2.2.2.2.2.2.2 q (by omega) (by omega)
  refine lv_iconst (v := zI (0)) hx hb dX0_weigh_0 rfl ?_
  refine lv_istore (lv' := [(4, .int (zI (0))), (0, .ref p0), (1, .ref s0), (2, .int (zI (q))), (3, .int (zI (c0)))]) hx hb dX0_weigh_1 hl (by decide) rfl (fun ls hl => ?_)
  refine lv_lconst (v := 1) hx hb dX0_weigh_3 rfl ?_
  refine lv_lstore (lv' := [(5, .long (1)), (4, .int (zI (0))), (0, .ref p0), (1, .ref s0), (2, .int (zI (q))), (3, .int (zI (c0)))]) hx hb dX0_weigh_4 hl (by decide) rfl (fun ls hl => ?_)
  refine lv_iload_n hx hb dX0_weigh_6 rfl (lv_at hl 4 rfl) ?_
  refine lv_iconst (v := zI (1)) hx hb dX0_weigh_7 rfl ?_
  refine z_iadd (a := q) (b := 1) hx hb dX0_weigh_8 ?_
  refine lv_aload_n hx hb dX0_weigh_9 rfl (lv_at hl 2 rfl) ?_
  refine va_get (D := D) (ci := 0) (v := .int (zI (ps))) (C := RX0) (T := TX0) (N := 6) hx hb hts in_X0_weigh_X0 hown hK hP 0 rfl rfl 0 (by decide) (hts _ m_X0_weigh_0) (fun _ h9 => h9) rfl dX0_weigh_10 ?_
  refine z_icmp_ge (a := q + 1) (b := ps) (tgt := 126) hx hb (by omega) dX0_weigh_13 (by decide) (fun c_13 => ?_) (fun c_13 => ?_)
  · have hl : lv_has ls 10 [(5, .long (1)), (4, .int (zI (wC σ gf gW go c0 q))), (0, .ref p0), (1, .ref s0), (2, .int (zI (q))), (3, .int (zI (c0)))] := by have e0 : zI (0) = zI (wC σ gf gW go c0 q) := (by unfold wC; rw [if_neg (by omega)]); rw [← e0]; exact hl
    have hl : lv_has ls 10 [(5, .long (wT σ gf gW go gt c0 q)), (4, .int (zI (wC σ gf gW go c0 q))), (0, .ref p0), (1, .ref s0), (2, .int (zI (q))), (3, .int (zI (c0)))] := by have e0 : 1 = wT σ gf gW go gt c0 q := (by unfold wT; rw [if_neg (by omega)]); rw [← e0]; exact hl
    refine lv_aload_n hx hb dX0_weigh_126 rfl (lv_at hl 2 rfl) ?_
    refine va_get (D := D) (ci := 0) (v := .ref p3) (C := RX0) (T := TX0) (N := 6) hx hb hts in_X0_weigh_X0 hown hK hP 0 rfl rfl 3 (by decide) (hts _ m_X0_weigh_6) (fun _ h9 => h9) rfl dX0_weigh_127 ?_
    refine lv_iload_n hx hb dX0_weigh_130 rfl (lv_at hl 5 rfl) ?_
    refine lv_iload hx hb dX0_weigh_131 (lv_at hl 1 rfl) ?_
    refine z_iast (k := c0) (x := wC σ gf gW go c0 q) (g := gb) hx hb hK hP hD hS 3 0 rfl rfl (by omega) dX0_weigh_133 (fun H locs hP hD hS => ?_)
    have hP : va_P D vwCl [(p0, .inr (0, [.int (zI (ps)), .ref p1, .ref p2, .ref p3, .ref p4, .ref p5])), (p1, .inl (cI, 12, .inl (zF (gf)))), (p2, .inl (cI, 96, .inl (zF (gW)))), (p3, .inl (cI, 96, .inl (zF (upI gb c0 (wC σ gf gW go c0 q))))), (p4, .inl (cI, 96, .inl (zF (go)))), (p5, .inl (cJ, 96, .inr (.inl (zL (gt))))), (s0, .inr (1, [.int (zI (σ 0)), .ref b1, .ref b2, .ref b3, .int (zI (σ 9))])), (b1, .inl (cI, 3, .inl (zF (fun j => σ (1 + j))))), (b2, .inl (cI, 5, .inl (zF (fun j => σ (4 + j))))), (b3, .inl (cI, 12, .inl (zF (fun j => σ (10 + j)))))] H := hP
    have hD : va_D A [(p0, .inr (0, [.int (zI (ps)), .ref p1, .ref p2, .ref p3, .ref p4, .ref p5])), (p1, .inl (cI, 12, .inl (zF (gf)))), (p2, .inl (cI, 96, .inl (zF (gW)))), (p3, .inl (cI, 96, .inl (zF (upI gb c0 (wC σ gf gW go c0 q))))), (p4, .inl (cI, 96, .inl (zF (go)))), (p5, .inl (cJ, 96, .inr (.inl (zL (gt))))), (s0, .inr (1, [.int (zI (σ 0)), .ref b1, .ref b2, .ref b3, .int (zI (σ 9))])), (b1, .inl (cI, 3, .inl (zF (fun j => σ (1 + j))))), (b2, .inl (cI, 5, .inl (zF (fun j => σ (4 + j))))), (b3, .inl (cI, 12, .inl (zF (fun j => σ (10 + j)))))] := hD
    refine lv_aload_n hx hb dX0_weigh_134 rfl (lv_at hl 2 rfl) ?_
    refine va_get (D := D) (ci := 0) (v := .ref p4) (C := RX0) (T := TX0) (N := 6) hx hb hts in_X0_weigh_X0 hown hK hP 0 rfl rfl 4 (by decide) (hts _ m_X0_weigh_4) (fun _ h9 => h9) rfl dX0_weigh_135 ?_
    refine lv_iload_n hx hb dX0_weigh_138 rfl (lv_at hl 5 rfl) ?_
    refine lv_iload hx hb dX0_weigh_139 (lv_at hl 1 rfl) ?_
    refine lv_aload_n hx hb dX0_weigh_141 rfl (lv_at hl 3 rfl) ?_
    refine lv_aload_n hx hb dX0_weigh_142 rfl (lv_at hl 2 rfl) ?_
    refine va_get (D := D) (ci := 0) (v := .ref p2) (C := RX0) (T := TX0) (N := 6) hx hb hts in_X0_weigh_X0 hown hK hP 0 rfl rfl 2 (by decide) (hts _ m_X0_weigh_3) (fun _ h9 => h9) rfl dX0_weigh_143 ?_
    refine lv_iload_n hx hb dX0_weigh_146 rfl (lv_at hl 5 rfl) ?_
    refine z_iald (k := c0) (g := gW) hx hb hK hP 2 0 rfl rfl (by omega) dX0_weigh_147 ?_
    try dsimp only
    refine lv_aload_n hx hb dX0_weigh_148 rfl (lv_at hl 3 rfl) ?_
    refine va_get (D := D) (ci := 1) (v := .ref b3) (C := RX1) (T := TX1) (N := 5) hx hb hts in_X0_weigh_X1 hown hK hP 6 rfl rfl 3 (by decide) (hts _ m_X0_weigh_7) (fun _ h9 => h9) rfl dX0_weigh_149 ?_
    refine lv_iload_n hx hb dX0_weigh_152 rfl (lv_at hl 4 rfl) ?_
    refine z_iald (k := q) (g := fun j => σ (10 + j)) hx hb hK hP 9 0 rfl rfl (by omega) dX0_weigh_153 ?_
    try dsimp only
    refine z_Vir (As := [.int (zI (gW c0)), .int (zI (σ (10 + q)))]) (rest := [.int (zI (wC σ gf gW go c0 q)), .int (zI (c0)), .ref p4]) hx hb hml hown hts hA hS hP hD hK hZ hl.1 (c_X1_fault l D cI cJ cZ cO _ (s0) (b1) (b2) (b3) (σ) (gW c0) (σ (10 + q)) (by omega) (by omega) hO) (cwV 2 hts gX0_weigh_X1_fault rfl rfl rfl (by decide +kernel) ⟨Nat.le_of_ble_eq_true rfl, Nat.le_of_ble_eq_true rfl⟩) [6, 7, 8, 9] rfl rfl 6 1 rfl rfl rfl rfl (Nat.le_of_ble_eq_true rfl) ⟨Nat.zero_le _, Nat.zero_le _⟩ dX0_weigh_154 (fun r u H locs hw hP hS => ?_)
    subst hw
    refine z_iadd (a := wC σ gf gW go c0 q) (b := flt σ (gW c0) (σ (10 + q))) hx hb dX0_weigh_157 ?_
    refine z_iast (k := c0) (x := (wC σ gf gW go c0 q) + (flt σ (gW c0) (σ (10 + q)))) (g := go) hx hb hK hP hD hS 4 0 rfl rfl (by omega) dX0_weigh_158 (fun H locs hP hD hS => ?_)
    have hP : va_P D vwCl [(p0, .inr (0, [.int (zI (ps)), .ref p1, .ref p2, .ref p3, .ref p4, .ref p5])), (p1, .inl (cI, 12, .inl (zF (gf)))), (p2, .inl (cI, 96, .inl (zF (gW)))), (p3, .inl (cI, 96, .inl (zF (upI gb c0 (wC σ gf gW go c0 q))))), (p4, .inl (cI, 96, .inl (zF (upI go c0 ((wC σ gf gW go c0 q) + (flt σ (gW c0) (σ (10 + q)))))))), (p5, .inl (cJ, 96, .inr (.inl (zL (gt))))), (s0, .inr (1, [.int (zI (σ 0)), .ref b1, .ref b2, .ref b3, .int (zI (σ 9))])), (b1, .inl (cI, 3, .inl (zF (fun j => σ (1 + j))))), (b2, .inl (cI, 5, .inl (zF (fun j => σ (4 + j))))), (b3, .inl (cI, 12, .inl (zF (fun j => σ (10 + j)))))] H := hP
    have hD : va_D A [(p0, .inr (0, [.int (zI (ps)), .ref p1, .ref p2, .ref p3, .ref p4, .ref p5])), (p1, .inl (cI, 12, .inl (zF (gf)))), (p2, .inl (cI, 96, .inl (zF (gW)))), (p3, .inl (cI, 96, .inl (zF (upI gb c0 (wC σ gf gW go c0 q))))), (p4, .inl (cI, 96, .inl (zF (upI go c0 ((wC σ gf gW go c0 q) + (flt σ (gW c0) (σ (10 + q)))))))), (p5, .inl (cJ, 96, .inr (.inl (zL (gt))))), (s0, .inr (1, [.int (zI (σ 0)), .ref b1, .ref b2, .ref b3, .int (zI (σ 9))])), (b1, .inl (cI, 3, .inl (zF (fun j => σ (1 + j))))), (b2, .inl (cI, 5, .inl (zF (fun j => σ (4 + j))))), (b3, .inl (cI, 12, .inl (zF (fun j => σ (10 + j)))))] := hD
    refine lv_aload_n hx hb dX0_weigh_159 rfl (lv_at hl 2 rfl) ?_
    refine va_get (D := D) (ci := 0) (v := .ref p5) (C := RX0) (T := TX0) (N := 6) hx hb hts in_X0_weigh_X0 hown hK hP 0 rfl rfl 5 (by decide) (hts _ m_X0_weigh_5) (fun _ h9 => h9) rfl dX0_weigh_160 ?_
    refine lv_iload_n hx hb dX0_weigh_163 rfl (lv_at hl 5 rfl) ?_
    refine lv_lload hx hb dX0_weigh_164 (lv_at hl 0 rfl) ?_
    refine z_last (k := c0) (x := wT σ gf gW go gt c0 q) (g := gt) hx hb hK hP hD hS 5 1 rfl rfl (by omega) dX0_weigh_166 (fun H locs hP hD hS => ?_)
    have hP : va_P D vwCl [(p0, .inr (0, [.int (zI (ps)), .ref p1, .ref p2, .ref p3, .ref p4, .ref p5])), (p1, .inl (cI, 12, .inl (zF (gf)))), (p2, .inl (cI, 96, .inl (zF (gW)))), (p3, .inl (cI, 96, .inl (zF (upI gb c0 (wC σ gf gW go c0 q))))), (p4, .inl (cI, 96, .inl (zF (upI go c0 ((wC σ gf gW go c0 q) + (flt σ (gW c0) (σ (10 + q)))))))), (p5, .inl (cJ, 96, .inr (.inl (zL (upI gt c0 (wT σ gf gW go gt c0 q)))))), (s0, .inr (1, [.int (zI (σ 0)), .ref b1, .ref b2, .ref b3, .int (zI (σ 9))])), (b1, .inl (cI, 3, .inl (zF (fun j => σ (1 + j))))), (b2, .inl (cI, 5, .inl (zF (fun j => σ (4 + j))))), (b3, .inl (cI, 12, .inl (zF (fun j => σ (10 + j)))))] H := hP
    have hD : va_D A [(p0, .inr (0, [.int (zI (ps)), .ref p1, .ref p2, .ref p3, .ref p4, .ref p5])), (p1, .inl (cI, 12, .inl (zF (gf)))), (p2, .inl (cI, 96, .inl (zF (gW)))), (p3, .inl (cI, 96, .inl (zF (upI gb c0 (wC σ gf gW go c0 q))))), (p4, .inl (cI, 96, .inl (zF (upI go c0 ((wC σ gf gW go c0 q) + (flt σ (gW c0) (σ (10 + q)))))))), (p5, .inl (cJ, 96, .inr (.inl (zL (upI gt c0 (wT σ gf gW go gt c0 q)))))), (s0, .inr (1, [.int (zI (σ 0)), .ref b1, .ref b2, .ref b3, .int (zI (σ 9))])), (b1, .inl (cI, 3, .inl (zF (fun j => σ (1 + j))))), (b2, .inl (cI, 5, .inl (zF (fun j => σ (4 + j))))), (b3, .inl (cI, 12, .inl (zF (fun j => σ (10 + j)))))] := hD
    exact hret _ _ _ _ () dX0_weigh_167 trivial hP hS
  · have hn1 := hn (by omega)
    have hN1 := hN (by omega)
    refine lv_ldc hx hb hown (hts _ m_X0_weigh_1) dX0_weigh_16 ?_
    refine z_top (y := zI 1000000) (by decide +kernel) ?_
    refine lv_istore (lv' := [(4, .int (zI (1000000))), (5, .long (1)), (0, .ref p0), (1, .ref s0), (2, .int (zI (q))), (3, .int (zI (c0)))]) hx hb dX0_weigh_18 hl (by decide) rfl (fun ls hl => ?_)
    refine lv_lconst (v := 0) hx hb dX0_weigh_20 rfl ?_
    refine lv_lstore (lv' := [(5, .long (0)), (4, .int (zI (1000000))), (0, .ref p0), (1, .ref s0), (2, .int (zI (q))), (3, .int (zI (c0)))]) hx hb dX0_weigh_21 hl (by decide) rfl (fun ls hl => ?_)
    refine lv_bipush (v := zI (8)) hx hb dX0_weigh_23 (by decide +kernel) ?_
    refine lv_iload_n hx hb dX0_weigh_25 rfl (lv_at hl 4 rfl) ?_
    refine lv_iconst (v := zI (1)) hx hb dX0_weigh_26 rfl ?_
    refine z_iadd (a := q) (b := 1) hx hb dX0_weigh_27 ?_
    refine z_imul (a := 8) (b := q + 1) hx hb dX0_weigh_28 ?_
    refine lv_istore (lv' := [(7, .int (zI (8 * (q + 1)))), (5, .long (0)), (4, .int (zI (1000000))), (0, .ref p0), (1, .ref s0), (2, .int (zI (q))), (3, .int (zI (c0)))]) hx hb dX0_weigh_29 hl (by decide) rfl (fun ls hl => ?_)
    refine lv_iload hx hb dX0_weigh_31 (lv_at hl 0 rfl) ?_
    refine lv_istore (lv' := [(8, .int (zI (8 * (q + 1)))), (7, .int (zI (8 * (q + 1)))), (5, .long (0)), (4, .int (zI (1000000))), (0, .ref p0), (1, .ref s0), (2, .int (zI (q))), (3, .int (zI (c0)))]) hx hb dX0_weigh_33 hl (by decide) rfl (fun ls hl => ?_)
    have loop_a : ∀ (f_a : Nat) (k : Nat) (t : Int) (y : Int) (z : Int64) (H : Heap) (locs : List Loc) (ls : Array Slot), ((k : Int) ≤ gf (q + 1)) → (t = 8 * (q + 1) + (k : Int)) → (0 ≤ y ∧ y ≤ 1000000) → (y = cmin (wF σ gW go c0 q) k) → (z = ctie (wF σ gW go c0 q) (fun i => gt (8 * (q + 1) + i)) k) → (8 - (k : Int) < (f_a : Int)) → va_P D vwCl [(p0, .inr (0, [.int (zI (ps)), .ref p1, .ref p2, .ref p3, .ref p4, .ref p5])), (p1, .inl (cI, 12, .inl (zF (gf)))), (p2, .inl (cI, 96, .inl (zF (gW)))), (p3, .inl (cI, 96, .inl (zF (gb)))), (p4, .inl (cI, 96, .inl (zF (go)))), (p5, .inl (cJ, 96, .inr (.inl (zL (gt))))), (s0, .inr (1, [.int (zI (σ 0)), .ref b1, .ref b2, .ref b3, .int (zI (σ 9))])), (b1, .inl (cI, 3, .inl (zF (fun j => σ (1 + j))))), (b2, .inl (cI, 5, .inl (zF (fun j => σ (4 + j))))), (b3, .inl (cI, 12, .inl (zF (fun j => σ (10 + j)))))] H → va_D A [(p0, .inr (0, [.int (zI (ps)), .ref p1, .ref p2, .ref p3, .ref p4, .ref p5])), (p1, .inl (cI, 12, .inl (zF (gf)))), (p2, .inl (cI, 96, .inl (zF (gW)))), (p3, .inl (cI, 96, .inl (zF (gb)))), (p4, .inl (cI, 96, .inl (zF (go)))), (p5, .inl (cJ, 96, .inr (.inl (zL (gt))))), (s0, .inr (1, [.int (zI (σ 0)), .ref b1, .ref b2, .ref b3, .int (zI (σ 9))])), (b1, .inl (cI, 3, .inl (zF (fun j => σ (1 + j))))), (b2, .inl (cI, 5, .inl (zF (fun j => σ (4 + j))))), (b3, .inl (cI, 12, .inl (zF (fun j => σ (10 + j)))))] → va_S A s.heap H locs → lv_has ls 10 [(0, .ref p0), (1, .ref s0), (2, .int (zI (q))), (3, .int (zI (c0))), (4, .int (zI (y))), (5, .long (z)), (7, .int (zI (8 * (q + 1)))), (8, .int (zI (t)))] → W p l e rmX0_weigh s m args below meth c H locs 0 0 Q (F0 m 35 ls []) := by
      intro f_a
      induction f_a with
      | zero =>
        intros
        exfalso; omega
      | succ f_a ih_a =>
        intro k t y z H locs ls e_k e_t e_b e_y e_z hfu_a hP hD hS hl
        refine lv_iload hx hb dX0_weigh_35 (lv_at hl 7 rfl) ?_
        refine lv_iload hx hb dX0_weigh_37 (lv_at hl 6 rfl) ?_
        refine lv_aload_n hx hb dX0_weigh_39 rfl (lv_at hl 0 rfl) ?_
        refine va_get (D := D) (ci := 0) (v := .ref p1) (C := RX0) (T := TX0) (N := 6) hx hb hts in_X0_weigh_X0 hown hK hP 0 rfl rfl 1 (by decide) (hts _ m_X0_weigh_2) (fun _ h9 => h9) rfl dX0_weigh_40 ?_
        refine lv_iload_n hx hb dX0_weigh_43 rfl (lv_at hl 2 rfl) ?_
        refine lv_iconst (v := zI (1)) hx hb dX0_weigh_44 rfl ?_
        refine z_iadd (a := q) (b := 1) hx hb dX0_weigh_45 ?_
        refine z_iald (k := q + 1) (g := gf) hx hb hK hP 1 0 rfl rfl (by omega) dX0_weigh_46 ?_
        try dsimp only
        refine z_iadd (a := 8 * (q + 1)) (b := gf (q + 1)) hx hb dX0_weigh_47 ?_
        refine z_icmp_ge (a := t) (b := (8 * (q + 1)) + (gf (q + 1))) (tgt := 126) hx hb (by omega) dX0_weigh_48 (by decide) (fun c_48 => ?_) (fun c_48 => ?_)
        · have hl : lv_has ls 10 [(0, .ref p0), (1, .ref s0), (2, .int (zI (q))), (3, .int (zI (c0))), (4, .int (zI (wC σ gf gW go c0 q))), (5, .long (z)), (7, .int (zI (8 * (q + 1)))), (8, .int (zI (t)))] := by have e0 : zI (y) = zI (wC σ gf gW go c0 q) := (by unfold wC; rw [if_pos (by omega), e_y, show k = (gf (q + 1)).toNat by omega]); rw [← e0]; exact hl
          have hl : lv_has ls 10 [(0, .ref p0), (1, .ref s0), (2, .int (zI (q))), (3, .int (zI (c0))), (4, .int (zI (wC σ gf gW go c0 q))), (5, .long (wT σ gf gW go gt c0 q)), (7, .int (zI (8 * (q + 1)))), (8, .int (zI (t)))] := by have e0 : z = wT σ gf gW go gt c0 q := (by unfold wT; rw [if_pos (by omega), e_z, show k = (gf (q + 1)).toNat by omega]); rw [← e0]; exact hl
          refine lv_aload_n hx hb dX0_weigh_126 rfl (lv_at hl 0 rfl) ?_
          refine va_get (D := D) (ci := 0) (v := .ref p3) (C := RX0) (T := TX0) (N := 6) hx hb hts in_X0_weigh_X0 hown hK hP 0 rfl rfl 3 (by decide) (hts _ m_X0_weigh_6) (fun _ h9 => h9) rfl dX0_weigh_127 ?_
          refine lv_iload_n hx hb dX0_weigh_130 rfl (lv_at hl 3 rfl) ?_
          refine lv_iload hx hb dX0_weigh_131 (lv_at hl 4 rfl) ?_
          refine z_iast (k := c0) (x := wC σ gf gW go c0 q) (g := gb) hx hb hK hP hD hS 3 0 rfl rfl (by omega) dX0_weigh_133 (fun H locs hP hD hS => ?_)
          have hP : va_P D vwCl [(p0, .inr (0, [.int (zI (ps)), .ref p1, .ref p2, .ref p3, .ref p4, .ref p5])), (p1, .inl (cI, 12, .inl (zF (gf)))), (p2, .inl (cI, 96, .inl (zF (gW)))), (p3, .inl (cI, 96, .inl (zF (upI gb c0 (wC σ gf gW go c0 q))))), (p4, .inl (cI, 96, .inl (zF (go)))), (p5, .inl (cJ, 96, .inr (.inl (zL (gt))))), (s0, .inr (1, [.int (zI (σ 0)), .ref b1, .ref b2, .ref b3, .int (zI (σ 9))])), (b1, .inl (cI, 3, .inl (zF (fun j => σ (1 + j))))), (b2, .inl (cI, 5, .inl (zF (fun j => σ (4 + j))))), (b3, .inl (cI, 12, .inl (zF (fun j => σ (10 + j)))))] H := hP
          have hD : va_D A [(p0, .inr (0, [.int (zI (ps)), .ref p1, .ref p2, .ref p3, .ref p4, .ref p5])), (p1, .inl (cI, 12, .inl (zF (gf)))), (p2, .inl (cI, 96, .inl (zF (gW)))), (p3, .inl (cI, 96, .inl (zF (upI gb c0 (wC σ gf gW go c0 q))))), (p4, .inl (cI, 96, .inl (zF (go)))), (p5, .inl (cJ, 96, .inr (.inl (zL (gt))))), (s0, .inr (1, [.int (zI (σ 0)), .ref b1, .ref b2, .ref b3, .int (zI (σ 9))])), (b1, .inl (cI, 3, .inl (zF (fun j => σ (1 + j))))), (b2, .inl (cI, 5, .inl (zF (fun j => σ (4 + j))))), (b3, .inl (cI, 12, .inl (zF (fun j => σ (10 + j)))))] := hD
          refine lv_aload_n hx hb dX0_weigh_134 rfl (lv_at hl 0 rfl) ?_
          refine va_get (D := D) (ci := 0) (v := .ref p4) (C := RX0) (T := TX0) (N := 6) hx hb hts in_X0_weigh_X0 hown hK hP 0 rfl rfl 4 (by decide) (hts _ m_X0_weigh_4) (fun _ h9 => h9) rfl dX0_weigh_135 ?_
          refine lv_iload_n hx hb dX0_weigh_138 rfl (lv_at hl 3 rfl) ?_
          refine lv_iload hx hb dX0_weigh_139 (lv_at hl 4 rfl) ?_
          refine lv_aload_n hx hb dX0_weigh_141 rfl (lv_at hl 1 rfl) ?_
          refine lv_aload_n hx hb dX0_weigh_142 rfl (lv_at hl 0 rfl) ?_
          refine va_get (D := D) (ci := 0) (v := .ref p2) (C := RX0) (T := TX0) (N := 6) hx hb hts in_X0_weigh_X0 hown hK hP 0 rfl rfl 2 (by decide) (hts _ m_X0_weigh_3) (fun _ h9 => h9) rfl dX0_weigh_143 ?_
          refine lv_iload_n hx hb dX0_weigh_146 rfl (lv_at hl 3 rfl) ?_
          refine z_iald (k := c0) (g := gW) hx hb hK hP 2 0 rfl rfl (by omega) dX0_weigh_147 ?_
          try dsimp only
          refine lv_aload_n hx hb dX0_weigh_148 rfl (lv_at hl 1 rfl) ?_
          refine va_get (D := D) (ci := 1) (v := .ref b3) (C := RX1) (T := TX1) (N := 5) hx hb hts in_X0_weigh_X1 hown hK hP 6 rfl rfl 3 (by decide) (hts _ m_X0_weigh_7) (fun _ h9 => h9) rfl dX0_weigh_149 ?_
          refine lv_iload_n hx hb dX0_weigh_152 rfl (lv_at hl 2 rfl) ?_
          refine z_iald (k := q) (g := fun j => σ (10 + j)) hx hb hK hP 9 0 rfl rfl (by omega) dX0_weigh_153 ?_
          try dsimp only
          refine z_Vir (As := [.int (zI (gW c0)), .int (zI (σ (10 + q)))]) (rest := [.int (zI (wC σ gf gW go c0 q)), .int (zI (c0)), .ref p4]) hx hb hml hown hts hA hS hP hD hK hZ hl.1 (c_X1_fault l D cI cJ cZ cO _ (s0) (b1) (b2) (b3) (σ) (gW c0) (σ (10 + q)) (by omega) (by omega) hO) (cwV 2 hts gX0_weigh_X1_fault rfl rfl rfl (by decide +kernel) ⟨Nat.le_of_ble_eq_true rfl, Nat.le_of_ble_eq_true rfl⟩) [6, 7, 8, 9] rfl rfl 6 1 rfl rfl rfl rfl (Nat.le_of_ble_eq_true rfl) ⟨Nat.zero_le _, Nat.zero_le _⟩ dX0_weigh_154 (fun r u H locs hw hP hS => ?_)
          subst hw
          refine z_iadd (a := wC σ gf gW go c0 q) (b := flt σ (gW c0) (σ (10 + q))) hx hb dX0_weigh_157 ?_
          refine z_iast (k := c0) (x := (wC σ gf gW go c0 q) + (flt σ (gW c0) (σ (10 + q)))) (g := go) hx hb hK hP hD hS 4 0 rfl rfl (by omega) dX0_weigh_158 (fun H locs hP hD hS => ?_)
          have hP : va_P D vwCl [(p0, .inr (0, [.int (zI (ps)), .ref p1, .ref p2, .ref p3, .ref p4, .ref p5])), (p1, .inl (cI, 12, .inl (zF (gf)))), (p2, .inl (cI, 96, .inl (zF (gW)))), (p3, .inl (cI, 96, .inl (zF (upI gb c0 (wC σ gf gW go c0 q))))), (p4, .inl (cI, 96, .inl (zF (upI go c0 ((wC σ gf gW go c0 q) + (flt σ (gW c0) (σ (10 + q)))))))), (p5, .inl (cJ, 96, .inr (.inl (zL (gt))))), (s0, .inr (1, [.int (zI (σ 0)), .ref b1, .ref b2, .ref b3, .int (zI (σ 9))])), (b1, .inl (cI, 3, .inl (zF (fun j => σ (1 + j))))), (b2, .inl (cI, 5, .inl (zF (fun j => σ (4 + j))))), (b3, .inl (cI, 12, .inl (zF (fun j => σ (10 + j)))))] H := hP
          have hD : va_D A [(p0, .inr (0, [.int (zI (ps)), .ref p1, .ref p2, .ref p3, .ref p4, .ref p5])), (p1, .inl (cI, 12, .inl (zF (gf)))), (p2, .inl (cI, 96, .inl (zF (gW)))), (p3, .inl (cI, 96, .inl (zF (upI gb c0 (wC σ gf gW go c0 q))))), (p4, .inl (cI, 96, .inl (zF (upI go c0 ((wC σ gf gW go c0 q) + (flt σ (gW c0) (σ (10 + q)))))))), (p5, .inl (cJ, 96, .inr (.inl (zL (gt))))), (s0, .inr (1, [.int (zI (σ 0)), .ref b1, .ref b2, .ref b3, .int (zI (σ 9))])), (b1, .inl (cI, 3, .inl (zF (fun j => σ (1 + j))))), (b2, .inl (cI, 5, .inl (zF (fun j => σ (4 + j))))), (b3, .inl (cI, 12, .inl (zF (fun j => σ (10 + j)))))] := hD
          refine lv_aload_n hx hb dX0_weigh_159 rfl (lv_at hl 0 rfl) ?_
          refine va_get (D := D) (ci := 0) (v := .ref p5) (C := RX0) (T := TX0) (N := 6) hx hb hts in_X0_weigh_X0 hown hK hP 0 rfl rfl 5 (by decide) (hts _ m_X0_weigh_5) (fun _ h9 => h9) rfl dX0_weigh_160 ?_
          refine lv_iload_n hx hb dX0_weigh_163 rfl (lv_at hl 3 rfl) ?_
          refine lv_lload hx hb dX0_weigh_164 (lv_at hl 5 rfl) ?_
          refine z_last (k := c0) (x := wT σ gf gW go gt c0 q) (g := gt) hx hb hK hP hD hS 5 1 rfl rfl (by omega) dX0_weigh_166 (fun H locs hP hD hS => ?_)
          have hP : va_P D vwCl [(p0, .inr (0, [.int (zI (ps)), .ref p1, .ref p2, .ref p3, .ref p4, .ref p5])), (p1, .inl (cI, 12, .inl (zF (gf)))), (p2, .inl (cI, 96, .inl (zF (gW)))), (p3, .inl (cI, 96, .inl (zF (upI gb c0 (wC σ gf gW go c0 q))))), (p4, .inl (cI, 96, .inl (zF (upI go c0 ((wC σ gf gW go c0 q) + (flt σ (gW c0) (σ (10 + q)))))))), (p5, .inl (cJ, 96, .inr (.inl (zL (upI gt c0 (wT σ gf gW go gt c0 q)))))), (s0, .inr (1, [.int (zI (σ 0)), .ref b1, .ref b2, .ref b3, .int (zI (σ 9))])), (b1, .inl (cI, 3, .inl (zF (fun j => σ (1 + j))))), (b2, .inl (cI, 5, .inl (zF (fun j => σ (4 + j))))), (b3, .inl (cI, 12, .inl (zF (fun j => σ (10 + j)))))] H := hP
          have hD : va_D A [(p0, .inr (0, [.int (zI (ps)), .ref p1, .ref p2, .ref p3, .ref p4, .ref p5])), (p1, .inl (cI, 12, .inl (zF (gf)))), (p2, .inl (cI, 96, .inl (zF (gW)))), (p3, .inl (cI, 96, .inl (zF (upI gb c0 (wC σ gf gW go c0 q))))), (p4, .inl (cI, 96, .inl (zF (upI go c0 ((wC σ gf gW go c0 q) + (flt σ (gW c0) (σ (10 + q)))))))), (p5, .inl (cJ, 96, .inr (.inl (zL (upI gt c0 (wT σ gf gW go gt c0 q)))))), (s0, .inr (1, [.int (zI (σ 0)), .ref b1, .ref b2, .ref b3, .int (zI (σ 9))])), (b1, .inl (cI, 3, .inl (zF (fun j => σ (1 + j))))), (b2, .inl (cI, 5, .inl (zF (fun j => σ (4 + j))))), (b3, .inl (cI, 12, .inl (zF (fun j => σ (10 + j)))))] := hD
          exact hret _ _ _ _ () dX0_weigh_167 trivial hP hS
        · have hNk := hN1 (k : Int) (by omega) (by omega)
          rw [← e_t] at hNk
          have hE := eff_in hO (a := gW c0) (b := gW t) hw0 hNk.1
          have hF : eff σ (gW c0) (gW t) + go t = wF σ gW go c0 q (k : Int) := by unfold wF; rw [e_t]
          refine lv_aload_n hx hb dX0_weigh_51 rfl (lv_at hl 1 rfl) ?_
          refine lv_aload_n hx hb dX0_weigh_52 rfl (lv_at hl 0 rfl) ?_
          refine va_get (D := D) (ci := 0) (v := .ref p2) (C := RX0) (T := TX0) (N := 6) hx hb hts in_X0_weigh_X0 hown hK hP 0 rfl rfl 2 (by decide) (hts _ m_X0_weigh_3) (fun _ h9 => h9) rfl dX0_weigh_53 ?_
          refine lv_iload_n hx hb dX0_weigh_56 rfl (lv_at hl 3 rfl) ?_
          refine z_iald (k := c0) (g := gW) hx hb hK hP 2 0 rfl rfl (by omega) dX0_weigh_57 ?_
          try dsimp only
          refine lv_aload_n hx hb dX0_weigh_58 rfl (lv_at hl 0 rfl) ?_
          refine va_get (D := D) (ci := 0) (v := .ref p2) (C := RX0) (T := TX0) (N := 6) hx hb hts in_X0_weigh_X0 hown hK hP 0 rfl rfl 2 (by decide) (hts _ m_X0_weigh_3) (fun _ h9 => h9) rfl dX0_weigh_59 ?_
          refine lv_iload hx hb dX0_weigh_62 (lv_at hl 7 rfl) ?_
          refine z_iald (k := t) (g := gW) hx hb hK hP 2 0 rfl rfl (by omega) dX0_weigh_64 ?_
          try dsimp only
          refine z_Vir (As := [.int (zI (gW c0)), .int (zI (gW t))]) (rest := []) hx hb hml hown hts hA hS hP hD hK hZ hl.1 (c_X1_motion l D cI cJ cZ cO _ (s0) (b1) (b2) (b3) (σ) (gW c0) (gW t) (by omega) hO) (cwV 2 hts gX0_weigh_X1_motion rfl rfl rfl (by decide +kernel) ⟨Nat.le_of_ble_eq_true rfl, Nat.le_of_ble_eq_true rfl⟩) [6, 7, 8, 9] rfl rfl 6 1 rfl rfl rfl rfl (Nat.le_of_ble_eq_true rfl) ⟨Nat.zero_le _, Nat.zero_le _⟩ dX0_weigh_65 (fun r u H locs hw hP hS => ?_)
          subst hw
          refine lv_aload_n hx hb dX0_weigh_68 rfl (lv_at hl 0 rfl) ?_
          refine va_get (D := D) (ci := 0) (v := .ref p4) (C := RX0) (T := TX0) (N := 6) hx hb hts in_X0_weigh_X0 hown hK hP 0 rfl rfl 4 (by decide) (hts _ m_X0_weigh_4) (fun _ h9 => h9) rfl dX0_weigh_69 ?_
          refine lv_iload hx hb dX0_weigh_72 (lv_at hl 7 rfl) ?_
          refine z_iald (k := t) (g := go) hx hb hK hP 4 0 rfl rfl (by omega) dX0_weigh_74 ?_
          try dsimp only
          refine z_iadd (a := eff σ (gW c0) (gW t)) (b := go t) hx hb dX0_weigh_75 ?_
          refine lv_istore (lv' := [(9, .int (zI ((eff σ (gW c0) (gW t)) + (go t)))), (0, .ref p0), (1, .ref s0), (2, .int (zI (q))), (3, .int (zI (c0))), (4, .int (zI (y))), (5, .long (z)), (7, .int (zI (8 * (q + 1)))), (8, .int (zI (t)))]) hx hb dX0_weigh_76 hl (by decide) rfl (fun ls hl => ?_)
          refine lv_iload hx hb dX0_weigh_78 (lv_at hl 0 rfl) ?_
          refine lv_iload hx hb dX0_weigh_80 (lv_at hl 5 rfl) ?_
          refine z_icmp_ge (a := (eff σ (gW c0) (gW t)) + (go t)) (b := y) (tgt := 101) hx hb (by omega) dX0_weigh_82 (by decide) (fun c_82 => ?_) (fun c_82 => ?_)
          · refine lv_iload hx hb dX0_weigh_101 (lv_at hl 0 rfl) ?_
            refine lv_iload hx hb dX0_weigh_103 (lv_at hl 5 rfl) ?_
            refine z_icmp_ne (a := (eff σ (gW c0) (gW t)) + (go t)) (b := y) (tgt := 120) hx hb (by omega) dX0_weigh_105 (by decide) (fun c_105 => ?_) (fun c_105 => ?_)
            · refine lv_iinc (v := zI (t + 1)) (lv' := [(8, .int (zI (t + 1))), (9, .int (zI ((eff σ (gW c0) (gW t)) + (go t)))), (0, .ref p0), (1, .ref s0), (2, .int (zI (q))), (3, .int (zI (c0))), (4, .int (zI (y))), (5, .long (z)), (7, .int (zI (8 * (q + 1))))]) hx hb dX0_weigh_120 hl (k := 8) rfl (zI_add _ _) (by decide) rfl (fun ls hl => ?_)
              refine lv_goto (tgt := 35) hx hb dX0_weigh_123 (by decide) ?_
              exact ih_a (k + 1) (t + 1) (y) (z) _ _ _ (by omega) (by omega) (by omega) (by rw [cmin_s e_y, ← hF]; first | (rw [if_pos c_82]; done) | (rw [if_neg (by omega)]; done)) (by rw [ctie_s e_y e_z, ← hF, ← e_t]; first | (rw [if_pos c_82]; done) | (rw [if_neg (by omega), if_pos c_105]; done) | (rw [if_neg (by omega), if_neg c_105]; done)) (by omega) hP hD hS (lv_sub hl [2, 3, 4, 5, 6, 7, 8, 0] rfl)
            · refine lv_lload hx hb dX0_weigh_108 (lv_at hl 6 rfl) ?_
              refine lv_aload_n hx hb dX0_weigh_110 rfl (lv_at hl 1 rfl) ?_
              refine va_get (D := D) (ci := 0) (v := .ref p5) (C := RX0) (T := TX0) (N := 6) hx hb hts in_X0_weigh_X0 hown hK hP 0 rfl rfl 5 (by decide) (hts _ m_X0_weigh_5) (fun _ h9 => h9) rfl dX0_weigh_111 ?_
              refine lv_iload hx hb dX0_weigh_114 (lv_at hl 8 rfl) ?_
              refine z_lald (k := t) (g := gt) hx hb hK hP 5 1 rfl rfl (by omega) dX0_weigh_116 ?_
              try dsimp only
              refine lv_ladd hx hb dX0_weigh_117 ?_
              refine lv_lstore (lv' := [(5, .long (z + (gt t))), (9, .int (zI ((eff σ (gW c0) (gW t)) + (go t)))), (0, .ref p0), (1, .ref s0), (2, .int (zI (q))), (3, .int (zI (c0))), (4, .int (zI (y))), (7, .int (zI (8 * (q + 1)))), (8, .int (zI (t)))]) hx hb dX0_weigh_118 hl (by decide) rfl (fun ls hl => ?_)
              refine lv_iinc (v := zI (t + 1)) (lv' := [(8, .int (zI (t + 1))), (5, .long (z + (gt t))), (9, .int (zI ((eff σ (gW c0) (gW t)) + (go t)))), (0, .ref p0), (1, .ref s0), (2, .int (zI (q))), (3, .int (zI (c0))), (4, .int (zI (y))), (7, .int (zI (8 * (q + 1))))]) hx hb dX0_weigh_120 hl (k := 8) rfl (zI_add _ _) (by decide) rfl (fun ls hl => ?_)
              refine lv_goto (tgt := 35) hx hb dX0_weigh_123 (by decide) ?_
              exact ih_a (k + 1) (t + 1) (y) (z + (gt t)) _ _ _ (by omega) (by omega) (by omega) (by rw [cmin_s e_y, ← hF]; first | (rw [if_pos c_82]; done) | (rw [if_neg (by omega)]; done)) (by rw [ctie_s e_y e_z, ← hF, ← e_t]; first | (rw [if_pos c_82]; done) | (rw [if_neg (by omega), if_pos c_105]; done) | (rw [if_neg (by omega), if_neg c_105]; done)) (by omega) hP hD hS (lv_sub hl [3, 4, 5, 6, 7, 1, 8, 0] rfl)
          · refine lv_iload hx hb dX0_weigh_85 (lv_at hl 0 rfl) ?_
            refine lv_istore (lv' := [(4, .int (zI ((eff σ (gW c0) (gW t)) + (go t)))), (9, .int (zI ((eff σ (gW c0) (gW t)) + (go t)))), (0, .ref p0), (1, .ref s0), (2, .int (zI (q))), (3, .int (zI (c0))), (5, .long (z)), (7, .int (zI (8 * (q + 1)))), (8, .int (zI (t)))]) hx hb dX0_weigh_87 hl (by decide) rfl (fun ls hl => ?_)
            refine lv_aload_n hx hb dX0_weigh_89 rfl (lv_at hl 2 rfl) ?_
            refine va_get (D := D) (ci := 0) (v := .ref p5) (C := RX0) (T := TX0) (N := 6) hx hb hts in_X0_weigh_X0 hown hK hP 0 rfl rfl 5 (by decide) (hts _ m_X0_weigh_5) (fun _ h9 => h9) rfl dX0_weigh_90 ?_
            refine lv_iload hx hb dX0_weigh_93 (lv_at hl 8 rfl) ?_
            refine z_lald (k := t) (g := gt) hx hb hK hP 5 1 rfl rfl (by omega) dX0_weigh_95 ?_
            try dsimp only
            refine lv_lstore (lv' := [(5, .long (gt t)), (4, .int (zI ((eff σ (gW c0) (gW t)) + (go t)))), (9, .int (zI ((eff σ (gW c0) (gW t)) + (go t)))), (0, .ref p0), (1, .ref s0), (2, .int (zI (q))), (3, .int (zI (c0))), (7, .int (zI (8 * (q + 1)))), (8, .int (zI (t)))]) hx hb dX0_weigh_96 hl (by decide) rfl (fun ls hl => ?_)
            refine lv_goto (tgt := 120) hx hb dX0_weigh_98 (by decide) ?_
            refine lv_iinc (v := zI (t + 1)) (lv' := [(8, .int (zI (t + 1))), (5, .long (gt t)), (4, .int (zI ((eff σ (gW c0) (gW t)) + (go t)))), (9, .int (zI ((eff σ (gW c0) (gW t)) + (go t)))), (0, .ref p0), (1, .ref s0), (2, .int (zI (q))), (3, .int (zI (c0))), (7, .int (zI (8 * (q + 1))))]) hx hb dX0_weigh_120 hl (k := 8) rfl (zI_add _ _) (by decide) rfl (fun ls hl => ?_)
            refine lv_goto (tgt := 35) hx hb dX0_weigh_123 (by decide) ?_
            exact ih_a (k + 1) (t + 1) ((eff σ (gW c0) (gW t)) + (go t)) (gt t) _ _ _ (by omega) (by omega) (by omega) (by rw [cmin_s e_y, ← hF]; first | (rw [if_pos c_82]; done) | (rw [if_neg (by omega)]; done)) (by rw [ctie_s e_y e_z, ← hF, ← e_t]; first | (rw [if_pos c_82]; done) | (rw [if_neg (by omega), if_pos c_105]; done) | (rw [if_neg (by omega), if_neg c_105]; done)) (by omega) hP hD hS (lv_sub hl [4, 5, 6, 7, 2, 1, 8, 0] rfl)
    exact loop_a 70 (0) (8 * (q + 1)) (1000000) (0) _ _ _ (by omega) (by omega) (by omega) (rfl) (rfl) (by omega) hP hD hS (lv_sub hl [4, 5, 6, 7, 3, 2, 1, 0] rfl)
abbrev rmX0_countAll : Room := { frames := 0, cells := 0, slots := 0, locals := 0 }
theorem in_X0_countAll_X0 : ∀ w ∈ wsX00, w ∈ wsX0_countAll := fun _ h => List.mem_cons_of_mem _ (List.mem_append_right _ h)
theorem m_X0_countAll_0 : (.fieldLink RX0 9 "BrassWays$Planner" "size" "I" : Cond) ∈ wsX0_countAll := List.mem_of_getElem? (i := 1) rfl
theorem m_X0_countAll_1 : (.fieldLink RX0 15 "BrassWays$Planner" "found" "[I" : Cond) ∈ wsX0_countAll := List.mem_of_getElem? (i := 2) rfl
set_option maxHeartbeats 4000000 in
set_option maxRecDepth 100000 in
theorem c_X0_countAll (l : Launch) (D : va_G) (cI cJ cZ cO : ClassId) (sz : Nat) (p0 : Nat) (p1 : Nat) (p2 : Nat) (p3 : Nat) (p4 : Nat) (p5 : Nat) (ps : Int) (gf : Int → Int) (hps : 0 ≤ ps ∧ ps ≤ 12) (hf : ∀ i : Int, 0 ≤ i → i < ps → 0 ≤ gf i ∧ gf i ≤ 8) : Met l yX0_countAll wsX0_countAll rmX0_countAll (zPc D cI cJ cZ cO [(p0, .inr (0, [.int (zI (ps)), .ref p1, .ref p2, .ref p3, .ref p4, .ref p5])), (p1, .inl (cI, 12, .inl (zF (gf))))] sz [.ref p0]) (zQl D (fun (r : Int64) (_ : Unit) => r = lW (pmI gf ps.toNat)) (fun (_ : Unit) => [(p0, .inr (0, [.int (zI (ps)), .ref p1, .ref p2, .ref p3, .ref p4, .ref p5])), (p1, .inl (cI, 12, .inl (zF (gf))))]) [(p0, .inr (0, [.int (zI (ps)), .ref p1, .ref p2, .ref p3, .ref p4, .ref p5])), (p1, .inl (cI, 12, .inl (zF (gf))))] sz) 0 0 (va_A [(p0, .inr (0, [.int (zI (ps)), .ref p1, .ref p2, .ref p3, .ref p4, .ref p5])), (p1, .inl (cI, 12, .inl (zF (gf))))] sz) := by
  refine z_metl (by decide) rfl (Nat.le_of_ble_eq_true rfl) ?_
  intro p e s m args below meth c A Q ls hx hb hml hown hts hA hS hP hD hK hZ hl hret
  have hl : lv_has ls 4 [(0, .ref p0)] := hl
  refine lv_lconst (v := 1) hx hb dX0_countAll_0 rfl ?_
  refine lv_lstore_n (lv' := [(1, .long (1)), (0, .ref p0)]) hx hb dX0_countAll_1 rfl hl (by decide) rfl (fun ls hl => ?_)
  refine lv_iconst (v := zI (0)) hx hb dX0_countAll_2 rfl ?_
  refine lv_istore_n (lv' := [(3, .int (zI (0))), (1, .long (1)), (0, .ref p0)]) hx hb dX0_countAll_3 rfl hl (by decide) rfl (fun ls hl => ?_)
  have loop_a : ∀ (f_a : Nat) (k : Nat) (z : Int64) (H : Heap) (locs : List Loc) (ls : Array Slot), ((k : Int) ≤ ps) → (z = lW (pmI gf k)) → (12 - (k : Int) < (f_a : Int)) → va_P D vwCl [(p0, .inr (0, [.int (zI (ps)), .ref p1, .ref p2, .ref p3, .ref p4, .ref p5])), (p1, .inl (cI, 12, .inl (zF (gf))))] H → va_D A [(p0, .inr (0, [.int (zI (ps)), .ref p1, .ref p2, .ref p3, .ref p4, .ref p5])), (p1, .inl (cI, 12, .inl (zF (gf))))] → va_S A s.heap H locs → lv_has ls 4 [(0, .ref p0), (1, .long (z)), (3, .int (zI ((k : Int))))] → W p l e rmX0_countAll s m args below meth c H locs 0 0 Q (F0 m 4 ls []) := by
    intro f_a
    induction f_a with
    | zero =>
      intros
      exfalso; omega
    | succ f_a ih_a =>
      intro k z H locs ls e_k e_z hfu_a hP hD hS hl
      refine lv_iload_n hx hb dX0_countAll_4 rfl (lv_at hl 2 rfl) ?_
      refine lv_aload_n hx hb dX0_countAll_5 rfl (lv_at hl 0 rfl) ?_
      refine va_get (D := D) (ci := 0) (v := .int (zI (ps))) (C := RX0) (T := TX0) (N := 6) hx hb hts in_X0_countAll_X0 hown hK hP 0 rfl rfl 0 (by decide) (hts _ m_X0_countAll_0) (fun _ h9 => h9) rfl dX0_countAll_6 ?_
      refine z_icmp_ge (a := (k : Int)) (b := ps) (tgt := 28) hx hb (by omega) dX0_countAll_9 (by decide) (fun c_9 => ?_) (fun c_9 => ?_)
      · refine lv_lload_n hx hb dX0_countAll_28 rfl (lv_at hl 1 rfl) ?_
        exact hret _ _ _ _ _ () dX0_countAll_29 (by rw [e_z, show k = ps.toNat by omega]) hP hS
      · have hfk := hf (k : Int) (by omega) (by omega)
        refine lv_lload_n hx hb dX0_countAll_12 rfl (lv_at hl 1 rfl) ?_
        refine lv_aload_n hx hb dX0_countAll_13 rfl (lv_at hl 0 rfl) ?_
        refine va_get (D := D) (ci := 0) (v := .ref p1) (C := RX0) (T := TX0) (N := 6) hx hb hts in_X0_countAll_X0 hown hK hP 0 rfl rfl 1 (by decide) (hts _ m_X0_countAll_1) (fun _ h9 => h9) rfl dX0_countAll_14 ?_
        refine lv_iload_n hx hb dX0_countAll_17 rfl (lv_at hl 2 rfl) ?_
        refine z_iald (k := (k : Int)) (g := gf) hx hb hK hP 1 0 rfl rfl (by omega) dX0_countAll_18 ?_
        try dsimp only
        refine lv_i2l (v := (zI (gf (k : Int))).toInt64) hx hb dX0_countAll_19 rfl ?_
        refine z_topl (y := lW (gf (k : Int))) (zI_toL (by omega)) ?_
        refine lv_lmul hx hb dX0_countAll_20 ?_
        refine lv_lstore_n (lv' := [(1, .long (z * (lW (gf (k : Int))))), (0, .ref p0), (3, .int (zI ((k : Int))))]) hx hb dX0_countAll_21 rfl hl (by decide) rfl (fun ls hl => ?_)
        refine lv_iinc (v := zI ((k : Int) + 1)) (lv' := [(3, .int (zI ((k : Int) + 1))), (1, .long (z * (lW (gf (k : Int))))), (0, .ref p0)]) hx hb dX0_countAll_22 hl (k := 2) rfl (zI_add _ _) (by decide) rfl (fun ls hl => ?_)
        refine lv_goto (tgt := 4) hx hb dX0_countAll_25 (by decide) ?_
        exact ih_a (k + 1) (z * (lW (gf (k : Int)))) _ _ _ (by omega) (by rw [e_z, lW_mul]; rfl) (by omega) hP hD hS (lv_sub hl [2, 1, 0] rfl)
  exact loop_a 70 (0) (1) _ _ _ (by omega) (lW_1.symm) (by omega) hP hD hS (lv_sub hl [2, 1, 0] rfl)
abbrev rmX0_hasPlan : Room := { frames := 1, cells := 0, slots := 0, locals := 23 }
set_option maxHeartbeats 4000000 in
set_option maxRecDepth 100000 in
theorem c_X0_hasPlan (l : Launch) (D : va_G) (cI cJ cZ cO : ClassId) (sz : Nat) (p0 : Nat) (p1 : Nat) (p2 : Nat) (p3 : Nat) (p4 : Nat) (p5 : Nat) (ps : Int) (gf : Int → Int) (hps : 0 ≤ ps ∧ ps ≤ 12) (hf : ∀ i : Int, 0 ≤ i → i < ps → 0 ≤ gf i ∧ gf i ≤ 8) : Met l yX0_hasPlan wsX0_hasPlan rmX0_hasPlan (zPc D cI cJ cZ cO [(p0, .inr (0, [.int (zI (ps)), .ref p1, .ref p2, .ref p3, .ref p4, .ref p5])), (p1, .inl (cI, 12, .inl (zF (gf))))] sz [.ref p0]) (zQi D (fun (r : Int32) (_ : Unit) => r = zI (zB (0 < pmI gf ps.toNat))) (fun (_ : Unit) => [(p0, .inr (0, [.int (zI (ps)), .ref p1, .ref p2, .ref p3, .ref p4, .ref p5])), (p1, .inl (cI, 12, .inl (zF (gf))))]) [(p0, .inr (0, [.int (zI (ps)), .ref p1, .ref p2, .ref p3, .ref p4, .ref p5])), (p1, .inl (cI, 12, .inl (zF (gf))))] sz) 0 0 (va_A [(p0, .inr (0, [.int (zI (ps)), .ref p1, .ref p2, .ref p3, .ref p4, .ref p5])), (p1, .inl (cI, 12, .inl (zF (gf))))] sz) := by
  refine z_metz (by decide) rfl (Nat.le_of_ble_eq_true rfl) ?_
  intro p e s m args below meth c A Q ls hx hb hml hown hts hA hS hP hD hK hZ hl hret
  have hl : lv_has ls 1 [(0, .ref p0)] := hl
  have hb8 := pmI_in (g := gf) ps.toNat (by omega) (fun i hi => hf (i : Int) (by omega) (by omega))
  refine lv_aload_n hx hb dX0_hasPlan_0 rfl (lv_at hl 0 rfl) ?_
  refine z_Vlr (As := []) (rest := []) hx hb hml hown hts hA hS hP hD hK hZ hl.1 (c_X0_countAll l D cI cJ cZ cO _ (p0) (p1) (p2) (p3) (p4) (p5) (ps) (gf) (by omega) hf) (cwV 0 hts gX0_hasPlan_X0_countAll rfl rfl rfl (by decide +kernel) ⟨Nat.le_of_ble_eq_true rfl, Nat.le_of_ble_eq_true rfl⟩) [0, 1] rfl rfl 0 0 rfl rfl rfl rfl (Nat.le_of_ble_eq_true rfl) ⟨Nat.zero_le _, Nat.zero_le _⟩ dX0_hasPlan_1 (fun r u H locs hw hP hS => ?_)
  subst hw
  refine lv_lconst (v := 0) hx hb dX0_hasPlan_4 rfl ?_
  refine z_lcmp_le (x := lW (pmI gf ps.toNat)) (y := 0) (tgt := 13) hx hb dX0_hasPlan_5 dX0_hasPlan_6 (by decide) (fun c_5 => ?_) (fun c_5 => ?_)
  · refine lv_iconst (v := zI (0)) hx hb dX0_hasPlan_13 rfl ?_
    exact hret _ _ _ _ _ () dX0_hasPlan_14 rfl (by rw [zB_f (by have := (lW_le0 (by omega)).mp c_5; omega)]) hP hS
  · refine lv_iconst (v := zI (1)) hx hb dX0_hasPlan_9 rfl ?_
    refine lv_goto (tgt := 14) hx hb dX0_hasPlan_10 (by decide) ?_
    exact hret _ _ _ _ _ () dX0_hasPlan_14 rfl (by rw [zB_t (by exact (lW_gt0 (by omega)).mp c_5)]) hP hS
abbrev rmX0_leastCost : Room := { frames := 1, cells := 0, slots := 0, locals := 19 }
theorem in_X0_leastCost_X0 : ∀ w ∈ wsX00, w ∈ wsX0_leastCost := fun _ h => List.mem_cons_of_mem _ (List.mem_append_right _ h)
theorem m_X0_leastCost_0 : (.fieldLink RX0 9 "BrassWays$Planner" "size" "I" : Cond) ∈ wsX0_leastCost := List.mem_of_getElem? (i := 1) rfl
theorem m_X0_leastCost_1 : (.constant RX0 46 (1000000) : Cond) ∈ wsX0_leastCost := List.mem_of_getElem? (i := 2) rfl
theorem m_X0_leastCost_2 : (.fieldLink RX0 15 "BrassWays$Planner" "found" "[I" : Cond) ∈ wsX0_leastCost := List.mem_of_getElem? (i := 3) rfl
theorem m_X0_leastCost_3 : (.fieldLink RX0 25 "BrassWays$Planner" "onward" "[I" : Cond) ∈ wsX0_leastCost := List.mem_of_getElem? (i := 4) rfl
theorem m_X0_leastCost_4 : (.methodLink RX0 58 Lib.Math.min.name : Cond) ∈ wsX0_leastCost := List.mem_of_getElem? (i := 5) rfl
theorem m_X0_leastCost_5 : (.static Lib.Math.min.name : Cond) ∈ wsX0_leastCost := List.mem_of_getElem? (i := 6) rfl
theorem m_X0_leastCost_6 : (.initialized "java/lang/Math" : Cond) ∈ wsX0_leastCost := List.mem_of_getElem? (i := 7) rfl
theorem m_X0_leastCost_7 : (.code Lib.Math.min.name Lib.Math.min.code 2 (some .int) : Cond) ∈ wsX0_leastCost := List.mem_of_getElem? (i := 8) rfl
set_option maxHeartbeats 4000000 in
set_option maxRecDepth 100000 in
theorem c_X0_leastCost (l : Launch) (D : va_G) (cI cJ cZ cO : ClassId) (sz : Nat) (p0 : Nat) (p1 : Nat) (p2 : Nat) (p3 : Nat) (p4 : Nat) (p5 : Nat) (ps : Int) (gf : Int → Int) (go : Int → Int) (hps : 0 ≤ ps ∧ ps ≤ 12) (hf0 : ps ≠ 0 → 0 ≤ gf 0 ∧ gf 0 ≤ 8) (hg0 : ps ≠ 0 → ∀ i : Int, 0 ≤ i → i < gf 0 → 0 ≤ go i ∧ go i ≤ 1100000) : Met l yX0_leastCost wsX0_leastCost rmX0_leastCost (zPc D cI cJ cZ cO [(p0, .inr (0, [.int (zI (ps)), .ref p1, .ref p2, .ref p3, .ref p4, .ref p5])), (p1, .inl (cI, 12, .inl (zF (gf)))), (p4, .inl (cI, 96, .inl (zF (go))))] sz [.ref p0]) (zQi D (fun (r : Int32) (_ : Unit) => r = zI (lcC ps gf go)) (fun (_ : Unit) => [(p0, .inr (0, [.int (zI (ps)), .ref p1, .ref p2, .ref p3, .ref p4, .ref p5])), (p1, .inl (cI, 12, .inl (zF (gf)))), (p4, .inl (cI, 96, .inl (zF (go))))]) [(p0, .inr (0, [.int (zI (ps)), .ref p1, .ref p2, .ref p3, .ref p4, .ref p5])), (p1, .inl (cI, 12, .inl (zF (gf)))), (p4, .inl (cI, 96, .inl (zF (go))))] sz) 0 0 (va_A [(p0, .inr (0, [.int (zI (ps)), .ref p1, .ref p2, .ref p3, .ref p4, .ref p5])), (p1, .inl (cI, 12, .inl (zF (gf)))), (p4, .inl (cI, 96, .inl (zF (go))))] sz) := by
  refine z_meti (by decide) rfl (Nat.le_of_ble_eq_true rfl) ?_
  intro p e s m args below meth c A Q ls hx hb hml hown hts hA hS hP hD hK hZ hl hret
  have hl : lv_has ls 3 [(0, .ref p0)] := hl
  refine lv_aload_n hx hb dX0_leastCost_0 rfl (lv_at hl 0 rfl) ?_
  refine va_get (D := D) (ci := 0) (v := .int (zI (ps))) (C := RX0) (T := TX0) (N := 6) hx hb hts in_X0_leastCost_X0 hown hK hP 0 rfl rfl 0 (by decide) (hts _ m_X0_leastCost_0) (fun _ h9 => h9) rfl dX0_leastCost_1 ?_
  refine z_if_ne (a := ps) (tgt := 9) hx hb (by omega) dX0_leastCost_4 (by decide) (fun c_4 => ?_) (fun c_4 => ?_)
  · have hf1 := hf0 c_4
    have hg1 := hg0 c_4
    refine lv_ldc hx hb hown (hts _ m_X0_leastCost_1) dX0_leastCost_9 ?_
    refine z_top (y := zI 1000000) (by decide +kernel) ?_
    refine lv_istore_n (lv' := [(1, .int (zI (1000000))), (0, .ref p0)]) hx hb dX0_leastCost_11 rfl hl (by decide) rfl (fun ls hl => ?_)
    refine lv_iconst (v := zI (0)) hx hb dX0_leastCost_12 rfl ?_
    refine lv_istore_n (lv' := [(2, .int (zI (0))), (1, .int (zI (1000000))), (0, .ref p0)]) hx hb dX0_leastCost_13 rfl hl (by decide) rfl (fun ls hl => ?_)
    have loop_a : ∀ (f_a : Nat) (k : Nat) (y : Int) (H : Heap) (locs : List Loc) (ls : Array Slot), ((k : Int) ≤ gf 0) → (0 ≤ y ∧ y ≤ 1000000) → (y = cmin go k) → (8 - (k : Int) < (f_a : Int)) → va_P D vwCl [(p0, .inr (0, [.int (zI (ps)), .ref p1, .ref p2, .ref p3, .ref p4, .ref p5])), (p1, .inl (cI, 12, .inl (zF (gf)))), (p4, .inl (cI, 96, .inl (zF (go))))] H → va_D A [(p0, .inr (0, [.int (zI (ps)), .ref p1, .ref p2, .ref p3, .ref p4, .ref p5])), (p1, .inl (cI, 12, .inl (zF (gf)))), (p4, .inl (cI, 96, .inl (zF (go))))] → va_S A s.heap H locs → lv_has ls 3 [(0, .ref p0), (1, .int (zI (y))), (2, .int (zI ((k : Int))))] → W p l e rmX0_leastCost s m args below meth c H locs 0 0 Q (F0 m 14 ls []) := by
      intro f_a
      induction f_a with
      | zero =>
        intros
        exfalso; omega
      | succ f_a ih_a =>
        intro k y H locs ls e_k e_b e_y hfu_a hP hD hS hl
        refine lv_iload_n hx hb dX0_leastCost_14 rfl (lv_at hl 2 rfl) ?_
        refine lv_aload_n hx hb dX0_leastCost_15 rfl (lv_at hl 0 rfl) ?_
        refine va_get (D := D) (ci := 0) (v := .ref p1) (C := RX0) (T := TX0) (N := 6) hx hb hts in_X0_leastCost_X0 hown hK hP 0 rfl rfl 1 (by decide) (hts _ m_X0_leastCost_2) (fun _ h9 => h9) rfl dX0_leastCost_16 ?_
        refine lv_iconst (v := zI (0)) hx hb dX0_leastCost_19 rfl ?_
        refine z_iald (k := 0) (g := gf) hx hb hK hP 1 0 rfl rfl (by omega) dX0_leastCost_20 ?_
        try dsimp only
        refine z_icmp_ge (a := (k : Int)) (b := gf 0) (tgt := 41) hx hb (by omega) dX0_leastCost_21 (by decide) (fun c_21 => ?_) (fun c_21 => ?_)
        · refine lv_iload_n hx hb dX0_leastCost_41 rfl (lv_at hl 1 rfl) ?_
          exact hret _ _ _ _ _ () dX0_leastCost_42 (by unfold lcC; rw [if_neg c_4, e_y, show k = (gf 0).toNat by omega]) hP hS
        · have hgk := hg1 (k : Int) (by omega) (by omega)
          refine lv_iload_n hx hb dX0_leastCost_24 rfl (lv_at hl 1 rfl) ?_
          refine lv_aload_n hx hb dX0_leastCost_25 rfl (lv_at hl 0 rfl) ?_
          refine va_get (D := D) (ci := 0) (v := .ref p4) (C := RX0) (T := TX0) (N := 6) hx hb hts in_X0_leastCost_X0 hown hK hP 0 rfl rfl 4 (by decide) (hts _ m_X0_leastCost_3) (fun _ h9 => h9) rfl dX0_leastCost_26 ?_
          refine lv_iload_n hx hb dX0_leastCost_29 rfl (lv_at hl 2 rfl) ?_
          refine z_iald (k := (k : Int)) (g := go) hx hb hK hP 2 0 rfl rfl (by omega) dX0_leastCost_30 ?_
          try dsimp only
          refine z_mmin (a := y) (b := go (k : Int)) hx hb (hml.trans hl.1.symm) hown (hts _ m_X0_leastCost_4) (hts _ m_X0_leastCost_5) (hts _ m_X0_leastCost_6) (hts _ m_X0_leastCost_7) (Nat.le_of_ble_eq_true rfl) (Nat.le_of_ble_eq_true rfl) (Nat.zero_le _) (Nat.zero_le _) (by omega) dX0_leastCost_31 ?_
          refine lv_istore_n (lv' := [(1, .int (zI (mI y (go (k : Int))))), (0, .ref p0), (2, .int (zI ((k : Int))))]) hx hb dX0_leastCost_34 rfl hl (by decide) rfl (fun ls hl => ?_)
          refine lv_iinc (v := zI ((k : Int) + 1)) (lv' := [(2, .int (zI ((k : Int) + 1))), (1, .int (zI (mI y (go (k : Int))))), (0, .ref p0)]) hx hb dX0_leastCost_35 hl (k := 2) rfl (zI_add _ _) (by decide) rfl (fun ls hl => ?_)
          refine lv_goto (tgt := 14) hx hb dX0_leastCost_38 (by decide) ?_
          exact ih_a (k + 1) (mI y (go (k : Int))) _ _ _ (by omega) (by unfold mI; split <;> omega) (by rw [cmin_s e_y]; rfl) (by omega) hP hD hS (lv_sub hl [2, 1, 0] rfl)
    exact loop_a 70 (0) (1000000) _ _ _ (by omega) (by omega) (rfl) (by omega) hP hD hS (lv_sub hl [2, 1, 0] rfl)
  · refine lv_iconst (v := zI (0)) hx hb dX0_leastCost_7 rfl ?_
    exact hret _ _ _ _ _ () dX0_leastCost_8 (by unfold lcC; rw [if_pos c_4]) hP hS
abbrev rmX0_countLeast : Room := { frames := 2, cells := 0, slots := 0, locals := 43 }
theorem in_X0_countLeast_X0 : ∀ w ∈ wsX00, w ∈ wsX0_countLeast := fun _ h => List.mem_cons_of_mem _ (List.mem_append_right _ h)
theorem m_X0_countLeast_0 : (.fieldLink RX0 9 "BrassWays$Planner" "size" "I" : Cond) ∈ wsX0_countLeast := List.mem_of_getElem? (i := 1) rfl
theorem m_X0_countLeast_1 : (.fieldLink RX0 15 "BrassWays$Planner" "found" "[I" : Cond) ∈ wsX0_countLeast := List.mem_of_getElem? (i := 2) rfl
theorem m_X0_countLeast_2 : (.fieldLink RX0 25 "BrassWays$Planner" "onward" "[I" : Cond) ∈ wsX0_countLeast := List.mem_of_getElem? (i := 3) rfl
theorem m_X0_countLeast_3 : (.fieldLink RX0 28 "BrassWays$Planner" "ties" "[J" : Cond) ∈ wsX0_countLeast := List.mem_of_getElem? (i := 4) rfl
set_option maxHeartbeats 4000000 in
set_option maxRecDepth 100000 in
theorem c_X0_countLeast (l : Launch) (D : va_G) (cI cJ cZ cO : ClassId) (sz : Nat) (p0 : Nat) (p1 : Nat) (p2 : Nat) (p3 : Nat) (p4 : Nat) (p5 : Nat) (ps : Int) (gf : Int → Int) (go : Int → Int) (gt : Int → Int64) (hps : 0 ≤ ps ∧ ps ≤ 12) (hf : ∀ i : Int, 0 ≤ i → i < ps → 0 ≤ gf i ∧ gf i ≤ 8) (hg0 : ps ≠ 0 → ∀ i : Int, 0 ≤ i → i < gf 0 → 0 ≤ go i ∧ go i ≤ 1100000) : Met l yX0_countLeast wsX0_countLeast rmX0_countLeast (zPc D cI cJ cZ cO [(p0, .inr (0, [.int (zI (ps)), .ref p1, .ref p2, .ref p3, .ref p4, .ref p5])), (p1, .inl (cI, 12, .inl (zF (gf)))), (p4, .inl (cI, 96, .inl (zF (go)))), (p5, .inl (cJ, 96, .inr (.inl (zL (gt)))))] sz [.ref p0]) (zQl D (fun (r : Int64) (_ : Unit) => r = if ps = 0 ∨ ¬ 0 < pmI gf ps.toNat then lW (pmI gf ps.toNat) else sumL (fun i => decide (go i = lcC ps gf go)) gt (gf 0).toNat) (fun (_ : Unit) => [(p0, .inr (0, [.int (zI (ps)), .ref p1, .ref p2, .ref p3, .ref p4, .ref p5])), (p1, .inl (cI, 12, .inl (zF (gf)))), (p4, .inl (cI, 96, .inl (zF (go)))), (p5, .inl (cJ, 96, .inr (.inl (zL (gt)))))]) [(p0, .inr (0, [.int (zI (ps)), .ref p1, .ref p2, .ref p3, .ref p4, .ref p5])), (p1, .inl (cI, 12, .inl (zF (gf)))), (p4, .inl (cI, 96, .inl (zF (go)))), (p5, .inl (cJ, 96, .inr (.inl (zL (gt)))))] sz) 0 0 (va_A [(p0, .inr (0, [.int (zI (ps)), .ref p1, .ref p2, .ref p3, .ref p4, .ref p5])), (p1, .inl (cI, 12, .inl (zF (gf)))), (p4, .inl (cI, 96, .inl (zF (go)))), (p5, .inl (cJ, 96, .inr (.inl (zL (gt)))))] sz) := by
  refine z_metl (by decide) rfl (Nat.le_of_ble_eq_true rfl) ?_
  intro p e s m args below meth c A Q ls hx hb hml hown hts hA hS hP hD hK hZ hl hret
  have hl : lv_has ls 5 [(0, .ref p0)] := hl
  have hf0 : ps ≠ 0 → 0 ≤ gf 0 ∧ gf 0 ≤ 8 := fun h => hf 0 (by omega) (by omega)
  have hlc : 0 ≤ lcC ps gf go ∧ lcC ps gf go ≤ 1000000 := by unfold lcC; split; omega; exact cmin_in _ (fun i hi => (hg0 (by omega) (i : Int) (by omega) (by have := hf0 (by omega); omega)).1)
  refine lv_aload_n hx hb dX0_countLeast_0 rfl (lv_at hl 0 rfl) ?_
  refine va_get (D := D) (ci := 0) (v := .int (zI (ps))) (C := RX0) (T := TX0) (N := 6) hx hb hts in_X0_countLeast_X0 hown hK hP 0 rfl rfl 0 (by decide) (hts _ m_X0_countLeast_0) (fun _ h9 => h9) rfl dX0_countLeast_1 ?_
  refine z_if_eq (a := ps) (tgt := 14) hx hb (by omega) dX0_countLeast_4 (by decide) (fun c_4 => ?_) (fun c_4 => ?_)
  · refine lv_aload_n hx hb dX0_countLeast_14 rfl (lv_at hl 0 rfl) ?_
    refine z_Vlr (As := []) (rest := []) hx hb hml hown hts hA hS hP hD hK hZ hl.1 (c_X0_countAll l D cI cJ cZ cO _ (p0) (p1) (p2) (p3) (p4) (p5) (ps) (gf) (by omega) hf) (cwV 0 hts gX0_countLeast_X0_countAll rfl rfl rfl (by decide +kernel) ⟨Nat.le_of_ble_eq_true rfl, Nat.le_of_ble_eq_true rfl⟩) [0, 1] rfl rfl 0 0 rfl rfl rfl rfl (Nat.le_of_ble_eq_true rfl) ⟨Nat.zero_le _, Nat.zero_le _⟩ dX0_countLeast_15 (fun r u H locs hw hP hS => ?_)
    subst hw
    exact hret _ _ _ _ _ () dX0_countLeast_18 (by first | (rw [if_pos (Or.inl c_4)]; done) | (rw [if_pos (Or.inr c_11)]; done)) hP hS
  · refine lv_aload_n hx hb dX0_countLeast_7 rfl (lv_at hl 0 rfl) ?_
    refine z_Vir (As := []) (rest := []) hx hb hml hown hts hA hS hP hD hK hZ hl.1 (c_X0_hasPlan l D cI cJ cZ cO _ (p0) (p1) (p2) (p3) (p4) (p5) (ps) (gf) (by omega) hf) (cwV 0 hts gX0_countLeast_X0_hasPlan rfl rfl rfl (by decide +kernel) ⟨Nat.le_of_ble_eq_true rfl, Nat.le_of_ble_eq_true rfl⟩) [0, 1] rfl rfl 0 0 rfl rfl rfl rfl (Nat.le_of_ble_eq_true rfl) ⟨Nat.zero_le _, Nat.zero_le _⟩ dX0_countLeast_8 (fun r u H locs hw hP hS => ?_)
    subst hw
    refine z_ifB_ne (P := 0 < pmI gf ps.toNat) (tgt := 19) hx hb dX0_countLeast_11 (by decide) (fun c_11 => ?_) (fun c_11 => ?_)
    · refine lv_aload_n hx hb dX0_countLeast_19 rfl (lv_at hl 0 rfl) ?_
      refine z_Vir (As := []) (rest := []) hx hb hml hown hts hA hS hP hD hK hZ hl.1 (c_X0_leastCost l D cI cJ cZ cO _ (p0) (p1) (p2) (p3) (p4) (p5) (ps) (gf) (go) (by omega) hf0 hg0) (cwV 0 hts gX0_countLeast_X0_leastCost rfl rfl rfl (by decide +kernel) ⟨Nat.le_of_ble_eq_true rfl, Nat.le_of_ble_eq_true rfl⟩) [0, 1, 2] rfl rfl 0 0 rfl rfl rfl rfl (Nat.le_of_ble_eq_true rfl) ⟨Nat.zero_le _, Nat.zero_le _⟩ dX0_countLeast_20 (fun r u H locs hw hP hS => ?_)
      subst hw
      refine lv_istore_n (lv' := [(1, .int (zI (lcC ps gf go))), (0, .ref p0)]) hx hb dX0_countLeast_23 rfl hl (by decide) rfl (fun ls hl => ?_)
      refine lv_lconst (v := 0) hx hb dX0_countLeast_24 rfl ?_
      refine lv_lstore_n (lv' := [(2, .long (0)), (1, .int (zI (lcC ps gf go))), (0, .ref p0)]) hx hb dX0_countLeast_25 rfl hl (by decide) rfl (fun ls hl => ?_)
      have hf1 := hf0 c_4
      refine lv_iconst (v := zI (0)) hx hb dX0_countLeast_26 rfl ?_
      refine lv_istore (lv' := [(4, .int (zI (0))), (2, .long (0)), (1, .int (zI (lcC ps gf go))), (0, .ref p0)]) hx hb dX0_countLeast_27 hl (by decide) rfl (fun ls hl => ?_)
      have loop_a : ∀ (f_a : Nat) (k : Nat) (z : Int64) (H : Heap) (locs : List Loc) (ls : Array Slot), ((k : Int) ≤ gf 0) → (z = sumL (fun i => decide (go i = lcC ps gf go)) gt k) → (8 - (k : Int) < (f_a : Int)) → va_P D vwCl [(p0, .inr (0, [.int (zI (ps)), .ref p1, .ref p2, .ref p3, .ref p4, .ref p5])), (p1, .inl (cI, 12, .inl (zF (gf)))), (p4, .inl (cI, 96, .inl (zF (go)))), (p5, .inl (cJ, 96, .inr (.inl (zL (gt)))))] H → va_D A [(p0, .inr (0, [.int (zI (ps)), .ref p1, .ref p2, .ref p3, .ref p4, .ref p5])), (p1, .inl (cI, 12, .inl (zF (gf)))), (p4, .inl (cI, 96, .inl (zF (go)))), (p5, .inl (cJ, 96, .inr (.inl (zL (gt)))))] → va_S A s.heap H locs → lv_has ls 5 [(0, .ref p0), (1, .int (zI (lcC ps gf go))), (2, .long (z)), (4, .int (zI ((k : Int))))] → W p l e rmX0_countLeast s m args below meth c H locs 0 0 Q (F0 m 29 ls []) := by
        intro f_a
        induction f_a with
        | zero =>
          intros
          exfalso; omega
        | succ f_a ih_a =>
          intro k z H locs ls e_k e_z hfu_a hP hD hS hl
          have hf1 := hf0 c_4
          have hg1 := hg0 c_4
          refine lv_iload hx hb dX0_countLeast_29 (lv_at hl 3 rfl) ?_
          refine lv_aload_n hx hb dX0_countLeast_31 rfl (lv_at hl 0 rfl) ?_
          refine va_get (D := D) (ci := 0) (v := .ref p1) (C := RX0) (T := TX0) (N := 6) hx hb hts in_X0_countLeast_X0 hown hK hP 0 rfl rfl 1 (by decide) (hts _ m_X0_countLeast_1) (fun _ h9 => h9) rfl dX0_countLeast_32 ?_
          refine lv_iconst (v := zI (0)) hx hb dX0_countLeast_35 rfl ?_
          refine z_iald (k := 0) (g := gf) hx hb hK hP 1 0 rfl rfl (by omega) dX0_countLeast_36 ?_
          try dsimp only
          refine z_icmp_ge (a := (k : Int)) (b := gf 0) (tgt := 67) hx hb (by omega) dX0_countLeast_37 (by decide) (fun c_37 => ?_) (fun c_37 => ?_)
          · refine lv_lload_n hx hb dX0_countLeast_67 rfl (lv_at hl 2 rfl) ?_
            exact hret _ _ _ _ _ () dX0_countLeast_68 (by rw [if_neg (fun h => h.elim c_4 (fun g => g c_11)), e_z, show k = (gf 0).toNat by omega]) hP hS
          · have hgk := hg1 (k : Int) (by omega) (by omega)
            refine lv_aload_n hx hb dX0_countLeast_40 rfl (lv_at hl 0 rfl) ?_
            refine va_get (D := D) (ci := 0) (v := .ref p4) (C := RX0) (T := TX0) (N := 6) hx hb hts in_X0_countLeast_X0 hown hK hP 0 rfl rfl 4 (by decide) (hts _ m_X0_countLeast_2) (fun _ h9 => h9) rfl dX0_countLeast_41 ?_
            refine lv_iload hx hb dX0_countLeast_44 (lv_at hl 3 rfl) ?_
            refine z_iald (k := (k : Int)) (g := go) hx hb hK hP 2 0 rfl rfl (by omega) dX0_countLeast_46 ?_
            try dsimp only
            refine lv_iload_n hx hb dX0_countLeast_47 rfl (lv_at hl 1 rfl) ?_
            refine z_icmp_ne (a := go (k : Int)) (b := lcC ps gf go) (tgt := 61) hx hb (by omega) dX0_countLeast_48 (by decide) (fun c_48 => ?_) (fun c_48 => ?_)
            · refine lv_iinc (v := zI ((k : Int) + 1)) (lv' := [(4, .int (zI ((k : Int) + 1))), (0, .ref p0), (1, .int (zI (lcC ps gf go))), (2, .long (z))]) hx hb dX0_countLeast_61 hl (k := 3) rfl (zI_add _ _) (by decide) rfl (fun ls hl => ?_)
              refine lv_goto (tgt := 29) hx hb dX0_countLeast_64 (by decide) ?_
              exact ih_a (k + 1) (z) _ _ _ (by omega) (by rw [sumL_s e_z]; first | (rw [if_pos (decide_eq_true c_48)]; done) | (rw [if_neg (by rw [decide_eq_true_eq]; exact c_48)]; done)) (by omega) hP hD hS (lv_sub hl [1, 2, 3, 0] rfl)
            · refine lv_lload_n hx hb dX0_countLeast_51 rfl (lv_at hl 2 rfl) ?_
              refine lv_aload_n hx hb dX0_countLeast_52 rfl (lv_at hl 0 rfl) ?_
              refine va_get (D := D) (ci := 0) (v := .ref p5) (C := RX0) (T := TX0) (N := 6) hx hb hts in_X0_countLeast_X0 hown hK hP 0 rfl rfl 5 (by decide) (hts _ m_X0_countLeast_3) (fun _ h9 => h9) rfl dX0_countLeast_53 ?_
              refine lv_iload hx hb dX0_countLeast_56 (lv_at hl 3 rfl) ?_
              refine z_lald (k := (k : Int)) (g := gt) hx hb hK hP 3 1 rfl rfl (by omega) dX0_countLeast_58 ?_
              try dsimp only
              refine lv_ladd hx hb dX0_countLeast_59 ?_
              refine lv_lstore_n (lv' := [(2, .long (z + (gt (k : Int)))), (0, .ref p0), (1, .int (zI (lcC ps gf go))), (4, .int (zI ((k : Int))))]) hx hb dX0_countLeast_60 rfl hl (by decide) rfl (fun ls hl => ?_)
              refine lv_iinc (v := zI ((k : Int) + 1)) (lv' := [(4, .int (zI ((k : Int) + 1))), (2, .long (z + (gt (k : Int)))), (0, .ref p0), (1, .int (zI (lcC ps gf go)))]) hx hb dX0_countLeast_61 hl (k := 3) rfl (zI_add _ _) (by decide) rfl (fun ls hl => ?_)
              refine lv_goto (tgt := 29) hx hb dX0_countLeast_64 (by decide) ?_
              exact ih_a (k + 1) (z + (gt (k : Int))) _ _ _ (by omega) (by rw [sumL_s e_z]; first | (rw [if_pos (decide_eq_true c_48)]; done) | (rw [if_neg (by rw [decide_eq_true_eq]; exact c_48)]; done)) (by omega) hP hD hS (lv_sub hl [2, 3, 1, 0] rfl)
      exact loop_a 70 (0) (0) _ _ _ (by omega) (rfl) (by omega) hP hD hS (lv_sub hl [3, 2, 1, 0] rfl)
    · refine lv_aload_n hx hb dX0_countLeast_14 rfl (lv_at hl 0 rfl) ?_
      refine z_Vlr (As := []) (rest := []) hx hb hml hown hts hA hS hP hD hK hZ hl.1 (c_X0_countAll l D cI cJ cZ cO _ (p0) (p1) (p2) (p3) (p4) (p5) (ps) (gf) (by omega) hf) (cwV 0 hts gX0_countLeast_X0_countAll rfl rfl rfl (by decide +kernel) ⟨Nat.le_of_ble_eq_true rfl, Nat.le_of_ble_eq_true rfl⟩) [0, 1] rfl rfl 0 0 rfl rfl rfl rfl (Nat.le_of_ble_eq_true rfl) ⟨Nat.zero_le _, Nat.zero_le _⟩ dX0_countLeast_15 (fun r u H locs hw hP hS => ?_)
      subst hw
      exact hret _ _ _ _ _ () dX0_countLeast_18 (by first | (rw [if_pos (Or.inl c_4)]; done) | (rw [if_pos (Or.inr c_11)]; done)) hP hS
abbrev rmX0_firstMarks : Room := { frames := 2, cells := 0, slots := 0, locals := 41 }
theorem in_X0_firstMarks_X0 : ∀ w ∈ wsX00, w ∈ wsX0_firstMarks := fun _ h => List.mem_cons_of_mem _ (List.mem_append_right _ h)
theorem m_X0_firstMarks_0 : (.fieldLink RX0 15 "BrassWays$Planner" "found" "[I" : Cond) ∈ wsX0_firstMarks := List.mem_of_getElem? (i := 1) rfl
theorem m_X0_firstMarks_1 : (.fieldLink RX0 25 "BrassWays$Planner" "onward" "[I" : Cond) ∈ wsX0_firstMarks := List.mem_of_getElem? (i := 2) rfl
set_option maxHeartbeats 4000000 in
set_option maxRecDepth 100000 in
theorem c_X0_firstMarks (l : Launch) (D : va_G) (cI cJ cZ cO : ClassId) (sz : Nat) (p0 : Nat) (p1 : Nat) (p2 : Nat) (p3 : Nat) (p4 : Nat) (p5 : Nat) (ps : Int) (gf : Int → Int) (go : Int → Int) (hps : 0 < ps ∧ ps ≤ 12) (hf0 : ps ≠ 0 → 0 ≤ gf 0 ∧ gf 0 ≤ 8) (hg0 : ps ≠ 0 → ∀ i : Int, 0 ≤ i → i < gf 0 → 0 ≤ go i ∧ go i ≤ 1100000) : Met l yX0_firstMarks wsX0_firstMarks rmX0_firstMarks (zPc D cI cJ cZ cO [(p0, .inr (0, [.int (zI (ps)), .ref p1, .ref p2, .ref p3, .ref p4, .ref p5])), (p1, .inl (cI, 12, .inl (zF (gf)))), (p4, .inl (cI, 96, .inl (zF (go))))] sz [.ref p0]) (zQi D (fun (r : Int32) (_ : Unit) => r = zI (mkb (mk0 ps gf go))) (fun (_ : Unit) => [(p0, .inr (0, [.int (zI (ps)), .ref p1, .ref p2, .ref p3, .ref p4, .ref p5])), (p1, .inl (cI, 12, .inl (zF (gf)))), (p4, .inl (cI, 96, .inl (zF (go))))]) [(p0, .inr (0, [.int (zI (ps)), .ref p1, .ref p2, .ref p3, .ref p4, .ref p5])), (p1, .inl (cI, 12, .inl (zF (gf)))), (p4, .inl (cI, 96, .inl (zF (go))))] sz) 0 0 (va_A [(p0, .inr (0, [.int (zI (ps)), .ref p1, .ref p2, .ref p3, .ref p4, .ref p5])), (p1, .inl (cI, 12, .inl (zF (gf)))), (p4, .inl (cI, 96, .inl (zF (go))))] sz) := by
  refine z_meti (by decide) rfl (Nat.le_of_ble_eq_true rfl) ?_
  intro p e s m args below meth c A Q ls hx hb hml hown hts hA hS hP hD hK hZ hl hret
  have hl : lv_has ls 4 [(0, .ref p0)] := hl
  have hlc : 0 ≤ lcC ps gf go ∧ lcC ps gf go ≤ 1000000 := by unfold lcC; split; omega; exact cmin_in _ (fun i hi => (hg0 (by omega) (i : Int) (by omega) (by have := hf0 (by omega); omega)).1)
  have hf1 := hf0 (by omega)
  have hg1 := hg0 (by omega)
  refine lv_aload_n hx hb dX0_firstMarks_0 rfl (lv_at hl 0 rfl) ?_
  refine z_Vir (As := []) (rest := []) hx hb hml hown hts hA hS hP hD hK hZ hl.1 (c_X0_leastCost l D cI cJ cZ cO _ (p0) (p1) (p2) (p3) (p4) (p5) (ps) (gf) (go) (by omega) hf0 hg0) (cwV 0 hts gX0_firstMarks_X0_leastCost rfl rfl rfl (by decide +kernel) ⟨Nat.le_of_ble_eq_true rfl, Nat.le_of_ble_eq_true rfl⟩) [0, 1, 2] rfl rfl 0 0 rfl rfl rfl rfl (Nat.le_of_ble_eq_true rfl) ⟨Nat.zero_le _, Nat.zero_le _⟩ dX0_firstMarks_1 (fun r u H locs hw hP hS => ?_)
  subst hw
  refine lv_istore_n (lv' := [(1, .int (zI (lcC ps gf go))), (0, .ref p0)]) hx hb dX0_firstMarks_4 rfl hl (by decide) rfl (fun ls hl => ?_)
  refine lv_iconst (v := zI (0)) hx hb dX0_firstMarks_5 rfl ?_
  refine lv_istore_n (lv' := [(2, .int (zI (0))), (1, .int (zI (lcC ps gf go))), (0, .ref p0)]) hx hb dX0_firstMarks_6 rfl hl (by decide) rfl (fun ls hl => ?_)
  refine lv_iconst (v := zI (0)) hx hb dX0_firstMarks_7 rfl ?_
  refine lv_istore_n (lv' := [(3, .int (zI (0))), (2, .int (zI (0))), (1, .int (zI (lcC ps gf go))), (0, .ref p0)]) hx hb dX0_firstMarks_8 rfl hl (by decide) rfl (fun ls hl => ?_)
  have loop_a : ∀ (f_a : Nat) (k : Nat) (x : Int) (H : Heap) (locs : List Loc) (ls : Array Slot), ((k : Int) ≤ gf 0) → (x = mkb (fun i => decide (i < (k : Int)) && decide (go i = lcC ps gf go))) → (8 - (k : Int) < (f_a : Int)) → va_P D vwCl [(p0, .inr (0, [.int (zI (ps)), .ref p1, .ref p2, .ref p3, .ref p4, .ref p5])), (p1, .inl (cI, 12, .inl (zF (gf)))), (p4, .inl (cI, 96, .inl (zF (go))))] H → va_D A [(p0, .inr (0, [.int (zI (ps)), .ref p1, .ref p2, .ref p3, .ref p4, .ref p5])), (p1, .inl (cI, 12, .inl (zF (gf)))), (p4, .inl (cI, 96, .inl (zF (go))))] → va_S A s.heap H locs → lv_has ls 4 [(0, .ref p0), (1, .int (zI (lcC ps gf go))), (2, .int (zI (x))), (3, .int (zI ((k : Int))))] → W p l e rmX0_firstMarks s m args below meth c H locs 0 0 Q (F0 m 9 ls []) := by
    intro f_a
    induction f_a with
    | zero =>
      intros
      exfalso; omega
    | succ f_a ih_a =>
      intro k x H locs ls e_k e_x hfu_a hP hD hS hl
      refine lv_iload_n hx hb dX0_firstMarks_9 rfl (lv_at hl 3 rfl) ?_
      refine lv_aload_n hx hb dX0_firstMarks_10 rfl (lv_at hl 0 rfl) ?_
      refine va_get (D := D) (ci := 0) (v := .ref p1) (C := RX0) (T := TX0) (N := 6) hx hb hts in_X0_firstMarks_X0 hown hK hP 0 rfl rfl 1 (by decide) (hts _ m_X0_firstMarks_0) (fun _ h9 => h9) rfl dX0_firstMarks_11 ?_
      refine lv_iconst (v := zI (0)) hx hb dX0_firstMarks_14 rfl ?_
      refine z_iald (k := 0) (g := gf) hx hb hK hP 1 0 rfl rfl (by omega) dX0_firstMarks_15 ?_
      try dsimp only
      refine z_icmp_ge (a := (k : Int)) (b := gf 0) (tgt := 41) hx hb (by omega) dX0_firstMarks_16 (by decide) (fun c_16 => ?_) (fun c_16 => ?_)
      · refine lv_iload_n hx hb dX0_firstMarks_41 rfl (lv_at hl 2 rfl) ?_
        exact hret _ _ _ _ _ () dX0_firstMarks_42 (by rw [e_x, show (k : Int) = gf 0 by omega]; rfl) hP hS
      · have hgk := hg1 (k : Int) (by omega) (by omega)
        refine lv_aload_n hx hb dX0_firstMarks_19 rfl (lv_at hl 0 rfl) ?_
        refine va_get (D := D) (ci := 0) (v := .ref p4) (C := RX0) (T := TX0) (N := 6) hx hb hts in_X0_firstMarks_X0 hown hK hP 0 rfl rfl 4 (by decide) (hts _ m_X0_firstMarks_1) (fun _ h9 => h9) rfl dX0_firstMarks_20 ?_
        refine lv_iload_n hx hb dX0_firstMarks_23 rfl (lv_at hl 3 rfl) ?_
        refine z_iald (k := (k : Int)) (g := go) hx hb hK hP 2 0 rfl rfl (by omega) dX0_firstMarks_24 ?_
        try dsimp only
        refine lv_iload_n hx hb dX0_firstMarks_25 rfl (lv_at hl 1 rfl) ?_
        refine z_icmp_ne (a := go (k : Int)) (b := lcC ps gf go) (tgt := 35) hx hb (by omega) dX0_firstMarks_26 (by decide) (fun c_26 => ?_) (fun c_26 => ?_)
        · refine lv_iinc (v := zI ((k : Int) + 1)) (lv' := [(3, .int (zI ((k : Int) + 1))), (0, .ref p0), (1, .int (zI (lcC ps gf go))), (2, .int (zI (x)))]) hx hb dX0_firstMarks_35 hl (k := 3) rfl (zI_add _ _) (by decide) rfl (fun ls hl => ?_)
          refine lv_goto (tgt := 9) hx hb dX0_firstMarks_38 (by decide) ?_
          exact ih_a (k + 1) (x) _ _ _ (by omega) (by rw [e_x]; exact mk_stepn (q := (fun i => decide (go i = lcC ps gf go))) (by rw [decide_eq_true_eq]; exact c_26)) (by omega) hP hD hS (lv_sub hl [1, 2, 3, 0] rfl)
        · refine lv_iload_n hx hb dX0_firstMarks_29 rfl (lv_at hl 2 rfl) ?_
          refine lv_iconst (v := zI (1)) hx hb dX0_firstMarks_30 rfl ?_
          refine lv_iload_n hx hb dX0_firstMarks_31 rfl (lv_at hl 3 rfl) ?_
          refine lv_ishl hx hb dX0_firstMarks_32 ?_
          refine lv_ior hx hb dX0_firstMarks_33 ?_
          refine z_top (y := zI (mkb (fun i => (decide (i < (k : Int)) && decide (go i = lcC ps gf go)) || decide (i = (k : Int))))) (by rw [e_x]; exact mk_or _ (by omega)) ?_
          refine lv_istore_n (lv' := [(2, .int (zI (mkb (fun i => (decide (i < (k : Int)) && decide (go i = lcC ps gf go)) || decide (i = (k : Int)))))), (0, .ref p0), (1, .int (zI (lcC ps gf go))), (3, .int (zI ((k : Int))))]) hx hb dX0_firstMarks_34 rfl hl (by decide) rfl (fun ls hl => ?_)
          refine lv_iinc (v := zI ((k : Int) + 1)) (lv' := [(3, .int (zI ((k : Int) + 1))), (2, .int (zI (mkb (fun i => (decide (i < (k : Int)) && decide (go i = lcC ps gf go)) || decide (i = (k : Int)))))), (0, .ref p0), (1, .int (zI (lcC ps gf go)))]) hx hb dX0_firstMarks_35 hl (k := 3) rfl (zI_add _ _) (by decide) rfl (fun ls hl => ?_)
          refine lv_goto (tgt := 9) hx hb dX0_firstMarks_38 (by decide) ?_
          exact ih_a (k + 1) (mkb (fun i => (decide (i < (k : Int)) && decide (go i = lcC ps gf go)) || decide (i = (k : Int)))) _ _ _ (by omega) (mk_stepy (q := (fun i => decide (go i = lcC ps gf go))) (decide_eq_true c_26)) (by omega) hP hD hS (lv_sub hl [2, 3, 1, 0] rfl)
  exact loop_a 70 (0) (0) _ _ _ (by omega) ((mk_none (fun i => decide (go i = lcC ps gf go))).symm) (by omega) hP hD hS (lv_sub hl [3, 2, 1, 0] rfl)
