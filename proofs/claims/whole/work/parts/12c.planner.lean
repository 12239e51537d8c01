abbrev rmX0_nextMarks : Room := { frames := 2, cells := 0, slots := 0, locals := 46 }
theorem in_X0_nextMarks_X0 : ∀ w ∈ wsX00, w ∈ wsX0_nextMarks := fun _ h => List.mem_cons_of_mem _ (List.mem_append_left _ (List.mem_append_right _ h))
theorem m_X0_nextMarks_0 : (.fieldLink RX0 9 "BrassWays$Planner" "size" "I" : Cond) ∈ wsX0_nextMarks := List.mem_of_getElem? (i := 1) rfl
theorem m_X0_nextMarks_1 : (.fieldLink RX0 15 "BrassWays$Planner" "found" "[I" : Cond) ∈ wsX0_nextMarks := List.mem_of_getElem? (i := 2) rfl
theorem m_X0_nextMarks_2 : (.fieldLink RX0 19 "BrassWays$Planner" "wayIn" "[I" : Cond) ∈ wsX0_nextMarks := List.mem_of_getElem? (i := 3) rfl
theorem m_X0_nextMarks_3 : (.fieldLink RX0 25 "BrassWays$Planner" "onward" "[I" : Cond) ∈ wsX0_nextMarks := List.mem_of_getElem? (i := 4) rfl
theorem m_X0_nextMarks_4 : (.fieldLink RX0 22 "BrassWays$Planner" "behind" "[I" : Cond) ∈ wsX0_nextMarks := List.mem_of_getElem? (i := 5) rfl
set_option maxHeartbeats 4000000 in
set_option maxRecDepth 100000 in
theorem c_X0_nextMarks (l : Launch) (D : va_G) (cI cJ cZ cO : ClassId) (sz : Nat) (p0 : Nat) (p1 : Nat) (p2 : Nat) (p3 : Nat) (p4 : Nat) (p5 : Nat) (ps : Int) (gf : Int → Int) (gW : Int → Int) (gb : Int → Int) (go : Int → Int) (s0 : Nat) (b1 : Nat) (b2 : Nat) (b3 : Nat) (σ : Int → Int) (q : Int) (M : Int → Bool) (hps : ps = σ 9) (hq : 0 ≤ q ∧ q + 1 < σ 9) (hf : (0 ≤ gf q ∧ gf q ≤ 8) ∧ 0 ≤ gf (q + 1) ∧ gf (q + 1) ≤ 8) (hA0 : ∀ i : Int, 0 ≤ i → i < gf q → (0 ≤ gW (8 * q + i) ∧ gW (8 * q + i) < 64) ∧ (0 ≤ go (8 * q + i) ∧ go (8 * q + i) ≤ 1100000) ∧ 0 ≤ gb (8 * q + i) ∧ gb (8 * q + i) ≤ 1100000) (hA1 : ∀ i : Int, 0 ≤ i → i < gf (q + 1) → (0 ≤ gW (8 * (q + 1) + i) ∧ gW (8 * (q + 1) + i) < 64) ∧ (0 ≤ go (8 * (q + 1) + i) ∧ go (8 * (q + 1) + i) ≤ 1100000) ∧ 0 ≤ gb (8 * (q + 1) + i) ∧ gb (8 * (q + 1) + i) ≤ 1100000) (hO : Ok σ) : Met l yX0_nextMarks wsX0_nextMarks rmX0_nextMarks (zPc D cI cJ cZ cO [(p0, .inr (0, [.int (zI (ps)), .ref p1, .ref p2, .ref p3, .ref p4, .ref p5])), (p1, .inl (cI, 12, .inl (zF (gf)))), (p2, .inl (cI, 96, .inl (zF (gW)))), (p3, .inl (cI, 96, .inl (zF (gb)))), (p4, .inl (cI, 96, .inl (zF (go)))), (s0, .inr (1, [.int (zI (σ 0)), .ref b1, .ref b2, .ref b3, .int (zI (σ 9))])), (b1, .inl (cI, 3, .inl (zF (fun j => σ (1 + j))))), (b2, .inl (cI, 5, .inl (zF (fun j => σ (4 + j))))), (b3, .inl (cI, 12, .inl (zF (fun j => σ (10 + j)))))] sz [.ref p0, .ref s0, .int (zI (q)), .int (zI (mkb M))]) (zQi D (fun (r : Int32) (_ : Unit) => r = zI (mkb (mkN σ gf gW gb go M q))) (fun (_ : Unit) => [(p0, .inr (0, [.int (zI (ps)), .ref p1, .ref p2, .ref p3, .ref p4, .ref p5])), (p1, .inl (cI, 12, .inl (zF (gf)))), (p2, .inl (cI, 96, .inl (zF (gW)))), (p3, .inl (cI, 96, .inl (zF (gb)))), (p4, .inl (cI, 96, .inl (zF (go)))), (s0, .inr (1, [.int (zI (σ 0)), .ref b1, .ref b2, .ref b3, .int (zI (σ 9))])), (b1, .inl (cI, 3, .inl (zF (fun j => σ (1 + j))))), (b2, .inl (cI, 5, .inl (zF (fun j => σ (4 + j))))), (b3, .inl (cI, 12, .inl (zF (fun j => σ (10 + j)))))]) [(p0, .inr (0, [.int (zI (ps)), .ref p1, .ref p2, .ref p3, .ref p4, .ref p5])), (p1, .inl (cI, 12, .inl (zF (gf)))), (p2, .inl (cI, 96, .inl (zF (gW)))), (p3, .inl (cI, 96, .inl (zF (gb)))), (p4, .inl (cI, 96, .inl (zF (go)))), (s0, .inr (1, [.int (zI (σ 0)), .ref b1, .ref b2, .ref b3, .int (zI (σ 9))])), (b1, .inl (cI, 3, .inl (zF (fun j => σ (1 + j))))), (b2, .inl (cI, 5, .inl (zF (fun j => σ (4 + j))))), (b3, .inl (cI, 12, .inl (zF (fun j => σ (10 + j)))))] sz) 0 0 (va_A [(p0, .inr (0, [.int (zI (ps)), .ref p1, .ref p2, .ref p3, .ref p4, .ref p5])), (p1, .inl (cI, 12, .inl (zF (gf)))), (p2, .inl (cI, 96, .inl (zF (gW)))), (p3, .inl (cI, 96, .inl (zF (gb)))), (p4, .inl (cI, 96, .inl (zF (go)))), (s0, .inr (1, [.int (zI (σ 0)), .ref b1, .ref b2, .ref b3, .int (zI (σ 9))])), (b1, .inl (cI, 3, .inl (zF (fun j => σ (1 + j))))), (b2, .inl (cI, 5, .inl (zF (fun j => σ (4 + j))))), (b3, .inl (cI, 12, .inl (zF (fun j => σ (10 + j)))))] sz) := by
  refine z_meti (by decide) rfl (Nat.le_of_ble_eq_true rfl) ?_
  intro p e s m args below meth c A Q ls hx hb hml hown hts hA hS hP hD hK hZ hl hret
  have hl : lv_has ls 10 [(0, .ref p0), (1, .ref s0), (2, .int (zI (q))), (3, .int (zI (mkb M)))] := hl
  have o9 := hO.2.2.2.2.2.2.2.2.2.1
  have hm8 := mkb_in M
  refine lv_iconst (v := zI (0)) hx hb dX0_nextMarks_0 rfl ?_
  refine lv_istore (lv' := [(4, .int (zI (0))), (0, .ref p0), (1, .ref s0), (2, .int (zI (q))), (3, .int (zI (mkb M)))]) hx hb dX0_nextMarks_1 hl (by decide) rfl (fun ls hl => ?_)
  refine lv_iload_n hx hb dX0_nextMarks_3 rfl (lv_at hl 3 rfl) ?_
  refine lv_iconst (v := zI (1)) hx hb dX0_nextMarks_4 rfl ?_
  refine z_iadd (a := q) (b := 1) hx hb dX0_nextMarks_5 ?_
  refine lv_aload_n hx hb dX0_nextMarks_6 rfl (lv_at hl 1 rfl) ?_
  refine va_get (D := D) (ci := 0) (v := .int (zI (ps))) (C := RX0) (T := TX0) (N := 6) hx hb hts in_X0_nextMarks_X0 hown hK hP 0 rfl rfl 0 (by decide) (hts _ m_X0_nextMarks_0) (fun _ h9 => h9) rfl dX0_nextMarks_7 ?_
  refine z_icmp_lt (a := q + 1) (b := ps) (tgt := 16) hx hb (by omega) dX0_nextMarks_10 (by decide) (fun c_10 => ?_) (fun c_10 => ?_)
  · refine lv_iconst (v := zI (0)) hx hb dX0_nextMarks_16 rfl ?_
    refine lv_istore (lv' := [(5, .int (zI (0))), (4, .int (zI (0))), (0, .ref p0), (1, .ref s0), (2, .int (zI (q))), (3, .int (zI (mkb M)))]) hx hb dX0_nextMarks_17 hl (by decide) rfl (fun ls hl => ?_)
    have loop_a : ∀ (f_a : Nat) (k : Nat) (x : Int) (H : Heap) (locs : List Loc) (ls : Array Slot), ((k : Int) ≤ gf q) → (x = mkb (fun j => decide (j < gf (q + 1)) && anyB (cst σ gW gb go M q j) k)) → (8 - (k : Int) < (f_a : Int)) → va_P D vwCl [(p0, .inr (0, [.int (zI (ps)), .ref p1, .ref p2, .ref p3, .ref p4, .ref p5])), (p1, .inl (cI, 12, .inl (zF (gf)))), (p2, .inl (cI, 96, .inl (zF (gW)))), (p3, .inl (cI, 96, .inl (zF (gb)))), (p4, .inl (cI, 96, .inl (zF (go)))), (s0, .inr (1, [.int (zI (σ 0)), .ref b1, .ref b2, .ref b3, .int (zI (σ 9))])), (b1, .inl (cI, 3, .inl (zF (fun j => σ (1 + j))))), (b2, .inl (cI, 5, .inl (zF (fun j => σ (4 + j))))), (b3, .inl (cI, 12, .inl (zF (fun j => σ (10 + j)))))] H → va_D A [(p0, .inr (0, [.int (zI (ps)), .ref p1, .ref p2, .ref p3, .ref p4, .ref p5])), (p1, .inl (cI, 12, .inl (zF (gf)))), (p2, .inl (cI, 96, .inl (zF (gW)))), (p3, .inl (cI, 96, .inl (zF (gb)))), (p4, .inl (cI, 96, .inl (zF (go)))), (s0, .inr (1, [.int (zI (σ 0)), .ref b1, .ref b2, .ref b3, .int (zI (σ 9))])), (b1, .inl (cI, 3, .inl (zF (fun j => σ (1 + j))))), (b2, .inl (cI, 5, .inl (zF (fun j => σ (4 + j))))), (b3, .inl (cI, 12, .inl (zF (fun j => σ (10 + j)))))] → va_S A s.heap H locs → lv_has ls 10 [(0, .ref p0), (1, .ref s0), (2, .int (zI (q))), (3, .int (zI (mkb M))), (4, .int (zI (x))), (5, .int (zI ((k : Int))))] → W p l e rmX0_nextMarks s m args below meth c H locs 0 0 Q (F0 m 19 ls []) := by
      intro f_a
      induction f_a with
      | zero =>
        intros
        exfalso; omega
      | succ f_a ih_a =>
        intro k x H locs ls e_k e_x hfu_a hP hD hS hl
        have hZ0 := zB_le (P := M (k : Int) = true)
        refine lv_iload hx hb dX0_nextMarks_19 (lv_at hl 5 rfl) ?_
        refine lv_aload_n hx hb dX0_nextMarks_21 rfl (lv_at hl 0 rfl) ?_
        refine va_get (D := D) (ci := 0) (v := .ref p1) (C := RX0) (T := TX0) (N := 6) hx hb hts in_X0_nextMarks_X0 hown hK hP 0 rfl rfl 1 (by decide) (hts _ m_X0_nextMarks_1) (fun _ h9 => h9) rfl dX0_nextMarks_22 ?_
        refine lv_iload_n hx hb dX0_nextMarks_25 rfl (lv_at hl 2 rfl) ?_
        refine z_iald (k := q) (g := gf) hx hb hK hP 1 0 rfl rfl (by omega) dX0_nextMarks_26 ?_
        try dsimp only
        refine z_icmp_ge (a := (k : Int)) (b := gf q) (tgt := 137) hx hb (by omega) dX0_nextMarks_27 (by decide) (fun c_27 => ?_) (fun c_27 => ?_)
        · refine lv_iload hx hb dX0_nextMarks_137 (lv_at hl 4 rfl) ?_
          exact hret _ _ _ _ _ () dX0_nextMarks_139 (by rw [e_x, show k = (gf q).toNat by omega]; rfl) hP hS
        · have hAk := hA0 (k : Int) (by omega) (by omega)
          refine lv_iconst (v := zI (0)) hx hb dX0_nextMarks_30 rfl ?_
          refine lv_istore (lv' := [(6, .int (zI (0))), (0, .ref p0), (1, .ref s0), (2, .int (zI (q))), (3, .int (zI (mkb M))), (4, .int (zI (x))), (5, .int (zI ((k : Int))))]) hx hb dX0_nextMarks_31 hl (by decide) rfl (fun ls hl => ?_)
          have loop_b : ∀ (f_b : Nat) (i : Nat) (y : Int) (H : Heap) (locs : List Loc) (ls : Array Slot), ((i : Int) ≤ gf (q + 1)) → (y = mkb (fun j => (decide (j < gf (q + 1)) && anyB (cst σ gW gb go M q j) k) || (decide (j < (i : Int)) && cst σ gW gb go M q j (k : Int)))) → (8 - (i : Int) < (f_b : Int)) → va_P D vwCl [(p0, .inr (0, [.int (zI (ps)), .ref p1, .ref p2, .ref p3, .ref p4, .ref p5])), (p1, .inl (cI, 12, .inl (zF (gf)))), (p2, .inl (cI, 96, .inl (zF (gW)))), (p3, .inl (cI, 96, .inl (zF (gb)))), (p4, .inl (cI, 96, .inl (zF (go)))), (s0, .inr (1, [.int (zI (σ 0)), .ref b1, .ref b2, .ref b3, .int (zI (σ 9))])), (b1, .inl (cI, 3, .inl (zF (fun j => σ (1 + j))))), (b2, .inl (cI, 5, .inl (zF (fun j => σ (4 + j))))), (b3, .inl (cI, 12, .inl (zF (fun j => σ (10 + j)))))] H → va_D A [(p0, .inr (0, [.int (zI (ps)), .ref p1, .ref p2, .ref p3, .ref p4, .ref p5])), (p1, .inl (cI, 12, .inl (zF (gf)))), (p2, .inl (cI, 96, .inl (zF (gW)))), (p3, .inl (cI, 96, .inl (zF (gb)))), (p4, .inl (cI, 96, .inl (zF (go)))), (s0, .inr (1, [.int (zI (σ 0)), .ref b1, .ref b2, .ref b3, .int (zI (σ 9))])), (b1, .inl (cI, 3, .inl (zF (fun j => σ (1 + j))))), (b2, .inl (cI, 5, .inl (zF (fun j => σ (4 + j))))), (b3, .inl (cI, 12, .inl (zF (fun j => σ (10 + j)))))] → va_S A s.heap H locs → lv_has ls 10 [(0, .ref p0), (1, .ref s0), (2, .int (zI (q))), (3, .int (zI (mkb M))), (4, .int (zI (y))), (5, .int (zI ((k : Int)))), (6, .int (zI ((i : Int))))] → W p l e rmX0_nextMarks s m args below meth c H locs 0 0 Q (F0 m 33 ls []) := by
            intro f_b
            induction f_b with
            | zero =>
              intros
              exfalso; omega
            | succ f_b ih_b =>
              intro i y H locs ls e_i e_y hfu_b hP hD hS hl
              refine lv_iload hx hb dX0_nextMarks_33 (lv_at hl 6 rfl) ?_
              refine lv_aload_n hx hb dX0_nextMarks_35 rfl (lv_at hl 0 rfl) ?_
              refine va_get (D := D) (ci := 0) (v := .ref p1) (C := RX0) (T := TX0) (N := 6) hx hb hts in_X0_nextMarks_X0 hown hK hP 0 rfl rfl 1 (by decide) (hts _ m_X0_nextMarks_1) (fun _ h9 => h9) rfl dX0_nextMarks_36 ?_
              refine lv_iload_n hx hb dX0_nextMarks_39 rfl (lv_at hl 2 rfl) ?_
              refine lv_iconst (v := zI (1)) hx hb dX0_nextMarks_40 rfl ?_
              refine z_iadd (a := q) (b := 1) hx hb dX0_nextMarks_41 ?_
              refine z_iald (k := q + 1) (g := gf) hx hb hK hP 1 0 rfl rfl (by omega) dX0_nextMarks_42 ?_
              try dsimp only
              refine z_icmp_ge (a := (i : Int)) (b := gf (q + 1)) (tgt := 131) hx hb (by omega) dX0_nextMarks_43 (by decide) (fun c_43 => ?_) (fun c_43 => ?_)
              · refine lv_iinc (v := zI ((k : Int) + 1)) (lv' := [(5, .int (zI ((k : Int) + 1))), (0, .ref p0), (1, .ref s0), (2, .int (zI (q))), (3, .int (zI (mkb M))), (4, .int (zI (y))), (6, .int (zI ((i : Int))))]) hx hb dX0_nextMarks_131 hl (k := 5) rfl (zI_add _ _) (by decide) rfl (fun ls hl => ?_)
                refine lv_goto (tgt := 19) hx hb dX0_nextMarks_134 (by decide) ?_
                exact ih_a (k + 1) (y) _ _ _ (by omega) (by rw [e_y, show (i : Int) = gf (q + 1) by omega]; exact mk_out _ _ _) (by omega) hP hD hS (lv_sub hl [1, 2, 3, 4, 5, 0] rfl)
              · have hAi := hA1 (i : Int) (by omega) (by omega)
                have hE := eff_in hO (a := gW (8 * q + (k : Int))) (b := gW (8 * (q + 1) + (i : Int))) hAk.1 hAi.1
                refine lv_bipush (v := zI (8)) hx hb dX0_nextMarks_46 (by decide +kernel) ?_
                refine lv_iload_n hx hb dX0_nextMarks_48 rfl (lv_at hl 2 rfl) ?_
                refine z_imul (a := 8) (b := q) hx hb dX0_nextMarks_49 ?_
                refine lv_iload hx hb dX0_nextMarks_50 (lv_at hl 5 rfl) ?_
                refine z_iadd (a := 8 * q) (b := (k : Int)) hx hb dX0_nextMarks_52 ?_
                refine lv_istore (lv' := [(7, .int (zI ((8 * q) + (k : Int)))), (0, .ref p0), (1, .ref s0), (2, .int (zI (q))), (3, .int (zI (mkb M))), (4, .int (zI (y))), (5, .int (zI ((k : Int)))), (6, .int (zI ((i : Int))))]) hx hb dX0_nextMarks_53 hl (by decide) rfl (fun ls hl => ?_)
                refine lv_bipush (v := zI (8)) hx hb dX0_nextMarks_55 (by decide +kernel) ?_
                refine lv_iload_n hx hb dX0_nextMarks_57 rfl (lv_at hl 3 rfl) ?_
                refine lv_iconst (v := zI (1)) hx hb dX0_nextMarks_58 rfl ?_
                refine z_iadd (a := q) (b := 1) hx hb dX0_nextMarks_59 ?_
                refine z_imul (a := 8) (b := q + 1) hx hb dX0_nextMarks_60 ?_
                refine lv_iload hx hb dX0_nextMarks_61 (lv_at hl 7 rfl) ?_
                refine z_iadd (a := 8 * (q + 1)) (b := (i : Int)) hx hb dX0_nextMarks_63 ?_
                refine lv_istore (lv' := [(8, .int (zI ((8 * (q + 1)) + (i : Int)))), (7, .int (zI ((8 * q) + (k : Int)))), (0, .ref p0), (1, .ref s0), (2, .int (zI (q))), (3, .int (zI (mkb M))), (4, .int (zI (y))), (5, .int (zI ((k : Int)))), (6, .int (zI ((i : Int))))]) hx hb dX0_nextMarks_64 hl (by decide) rfl (fun ls hl => ?_)
                refine lv_aload_n hx hb dX0_nextMarks_66 rfl (lv_at hl 3 rfl) ?_
                refine lv_aload_n hx hb dX0_nextMarks_67 rfl (lv_at hl 2 rfl) ?_
                refine va_get (D := D) (ci := 0) (v := .ref p2) (C := RX0) (T := TX0) (N := 6) hx hb hts in_X0_nextMarks_X0 hown hK hP 0 rfl rfl 2 (by decide) (hts _ m_X0_nextMarks_2) (fun _ h9 => h9) rfl dX0_nextMarks_68 ?_
                refine lv_iload hx hb dX0_nextMarks_71 (lv_at hl 1 rfl) ?_
                refine z_iald (k := (8 * q) + (k : Int)) (g := gW) hx hb hK hP 2 0 rfl rfl (by omega) dX0_nextMarks_73 ?_
                try dsimp only
                refine lv_aload_n hx hb dX0_nextMarks_74 rfl (lv_at hl 2 rfl) ?_
                refine va_get (D := D) (ci := 0) (v := .ref p2) (C := RX0) (T := TX0) (N := 6) hx hb hts in_X0_nextMarks_X0 hown hK hP 0 rfl rfl 2 (by decide) (hts _ m_X0_nextMarks_2) (fun _ h9 => h9) rfl dX0_nextMarks_75 ?_
                refine lv_iload hx hb dX0_nextMarks_78 (lv_at hl 0 rfl) ?_
                refine z_iald (k := (8 * (q + 1)) + (i : Int)) (g := gW) hx hb hK hP 2 0 rfl rfl (by omega) dX0_nextMarks_80 ?_
                try dsimp only
                refine z_Vir (As := [.int (zI (gW ((8 * q) + (k : Int)))), .int (zI (gW ((8 * (q + 1)) + (i : Int))))]) (rest := []) hx hb hml hown hts hA hS hP hD hK hZ hl.1 (c_X1_motion l D cI cJ cZ cO _ (s0) (b1) (b2) (b3) (σ) (gW ((8 * q) + (k : Int))) (gW ((8 * (q + 1)) + (i : Int))) ⟨hAk.1, hAi.1⟩ hO) (cwV 2 hts gX0_nextMarks_X1_motion rfl rfl rfl (by decide +kernel) ⟨Nat.le_of_ble_eq_true rfl, Nat.le_of_ble_eq_true rfl⟩) [5, 6, 7, 8] rfl rfl 5 1 rfl rfl rfl rfl (Nat.le_of_ble_eq_true rfl) ⟨Nat.zero_le _, Nat.zero_le _⟩ dX0_nextMarks_81 (fun r u H locs hw hP hS => ?_)
                subst hw
                refine lv_aload_n hx hb dX0_nextMarks_84 rfl (lv_at hl 2 rfl) ?_
                refine va_get (D := D) (ci := 0) (v := .ref p4) (C := RX0) (T := TX0) (N := 6) hx hb hts in_X0_nextMarks_X0 hown hK hP 0 rfl rfl 4 (by decide) (hts _ m_X0_nextMarks_3) (fun _ h9 => h9) rfl dX0_nextMarks_85 ?_
                refine lv_iload hx hb dX0_nextMarks_88 (lv_at hl 0 rfl) ?_
                refine z_iald (k := (8 * (q + 1)) + (i : Int)) (g := go) hx hb hK hP 4 0 rfl rfl (by omega) dX0_nextMarks_90 ?_
                try dsimp only
                refine z_iadd (a := eff σ (gW ((8 * q) + (k : Int))) (gW ((8 * (q + 1)) + (i : Int)))) (b := go ((8 * (q + 1)) + (i : Int))) hx hb dX0_nextMarks_91 ?_
                refine lv_istore (lv' := [(9, .int (zI ((eff σ (gW ((8 * q) + (k : Int))) (gW ((8 * (q + 1)) + (i : Int)))) + (go ((8 * (q + 1)) + (i : Int)))))), (8, .int (zI ((8 * (q + 1)) + (i : Int)))), (7, .int (zI ((8 * q) + (k : Int)))), (0, .ref p0), (1, .ref s0), (2, .int (zI (q))), (3, .int (zI (mkb M))), (4, .int (zI (y))), (5, .int (zI ((k : Int)))), (6, .int (zI ((i : Int))))]) hx hb dX0_nextMarks_92 hl (by decide) rfl (fun ls hl => ?_)
                refine lv_iload_n hx hb dX0_nextMarks_94 rfl (lv_at hl 6 rfl) ?_
                refine lv_iload hx hb dX0_nextMarks_95 (lv_at hl 8 rfl) ?_
                refine lv_ishr hx hb dX0_nextMarks_97 ?_
                refine lv_iconst (v := zI (1)) hx hb dX0_nextMarks_98 rfl ?_
                refine lv_iand hx hb dX0_nextMarks_99 ?_
                refine z_top (y := zI (zB (M (k : Int) = true))) (mk_bit M (by omega)) ?_
                refine lv_iconst (v := zI (1)) hx hb dX0_nextMarks_100 rfl ?_
                refine z_icmp_ne (a := zB (M (k : Int) = true)) (b := 1) (tgt := 125) hx hb (by omega) dX0_nextMarks_101 (by decide) (fun c_101 => ?_) (fun c_101 => ?_)
                · refine lv_iinc (v := zI ((i : Int) + 1)) (lv' := [(6, .int (zI ((i : Int) + 1))), (9, .int (zI ((eff σ (gW ((8 * q) + (k : Int))) (gW ((8 * (q + 1)) + (i : Int)))) + (go ((8 * (q + 1)) + (i : Int)))))), (8, .int (zI ((8 * (q + 1)) + (i : Int)))), (7, .int (zI ((8 * q) + (k : Int)))), (0, .ref p0), (1, .ref s0), (2, .int (zI (q))), (3, .int (zI (mkb M))), (4, .int (zI (y))), (5, .int (zI ((k : Int))))]) hx hb dX0_nextMarks_125 hl (k := 9) rfl (zI_add _ _) (by decide) rfl (fun ls hl => ?_)
                  refine lv_goto (tgt := 33) hx hb dX0_nextMarks_128 (by decide) ?_
                  exact ih_b (i + 1) (y) _ _ _ (by omega) (by rw [e_y]; exact mk_inn _ (k := i) (by simp only [cst, Bool.and_eq_true, decide_eq_true_eq]; first | (rintro ⟨h1, h2⟩; exact c_101 (zB_1.mpr h1)) | (rintro ⟨h1, h2⟩; exact c_113 h2))) (by omega) hP hD hS (lv_sub hl [4, 5, 6, 7, 8, 9, 0] rfl)
                · refine lv_iload hx hb dX0_nextMarks_104 (lv_at hl 0 rfl) ?_
                  refine lv_aload_n hx hb dX0_nextMarks_106 rfl (lv_at hl 3 rfl) ?_
                  refine va_get (D := D) (ci := 0) (v := .ref p3) (C := RX0) (T := TX0) (N := 6) hx hb hts in_X0_nextMarks_X0 hown hK hP 0 rfl rfl 3 (by decide) (hts _ m_X0_nextMarks_4) (fun _ h9 => h9) rfl dX0_nextMarks_107 ?_
                  refine lv_iload hx hb dX0_nextMarks_110 (lv_at hl 2 rfl) ?_
                  refine z_iald (k := (8 * q) + (k : Int)) (g := gb) hx hb hK hP 3 0 rfl rfl (by omega) dX0_nextMarks_112 ?_
                  try dsimp only
                  refine z_icmp_ne (a := (eff σ (gW ((8 * q) + (k : Int))) (gW ((8 * (q + 1)) + (i : Int)))) + (go ((8 * (q + 1)) + (i : Int)))) (b := gb ((8 * q) + (k : Int))) (tgt := 125) hx hb (by omega) dX0_nextMarks_113 (by decide) (fun c_113 => ?_) (fun c_113 => ?_)
                  · refine lv_iinc (v := zI ((i : Int) + 1)) (lv' := [(6, .int (zI ((i : Int) + 1))), (9, .int (zI ((eff σ (gW ((8 * q) + (k : Int))) (gW ((8 * (q + 1)) + (i : Int)))) + (go ((8 * (q + 1)) + (i : Int)))))), (8, .int (zI ((8 * (q + 1)) + (i : Int)))), (7, .int (zI ((8 * q) + (k : Int)))), (0, .ref p0), (1, .ref s0), (2, .int (zI (q))), (3, .int (zI (mkb M))), (4, .int (zI (y))), (5, .int (zI ((k : Int))))]) hx hb dX0_nextMarks_125 hl (k := 9) rfl (zI_add _ _) (by decide) rfl (fun ls hl => ?_)
                    refine lv_goto (tgt := 33) hx hb dX0_nextMarks_128 (by decide) ?_
                    exact ih_b (i + 1) (y) _ _ _ (by omega) (by rw [e_y]; exact mk_inn _ (k := i) (by simp only [cst, Bool.and_eq_true, decide_eq_true_eq]; first | (rintro ⟨h1, h2⟩; exact c_101 (zB_1.mpr h1)) | (rintro ⟨h1, h2⟩; exact c_113 h2))) (by omega) hP hD hS (lv_sub hl [4, 5, 6, 7, 8, 9, 0] rfl)
                  · refine lv_iload hx hb dX0_nextMarks_116 (lv_at hl 7 rfl) ?_
                    refine lv_iconst (v := zI (1)) hx hb dX0_nextMarks_118 rfl ?_
                    refine lv_iload hx hb dX0_nextMarks_119 (lv_at hl 9 rfl) ?_
                    refine lv_ishl hx hb dX0_nextMarks_121 ?_
                    refine lv_ior hx hb dX0_nextMarks_122 ?_
                    refine z_top (y := zI (mkb (fun j => (fun j => (decide (j < gf (q + 1)) && anyB (cst σ gW gb go M q j) k) || (decide (j < (i : Int)) && cst σ gW gb go M q j (k : Int))) j || decide (j = (i : Int))))) (by rw [e_y]; exact mk_or _ (by omega)) ?_
                    refine lv_istore (lv' := [(4, .int (zI (mkb (fun j => (fun j => (decide (j < gf (q + 1)) && anyB (cst σ gW gb go M q j) k) || (decide (j < (i : Int)) && cst σ gW gb go M q j (k : Int))) j || decide (j = (i : Int)))))), (9, .int (zI ((eff σ (gW ((8 * q) + (k : Int))) (gW ((8 * (q + 1)) + (i : Int)))) + (go ((8 * (q + 1)) + (i : Int)))))), (8, .int (zI ((8 * (q + 1)) + (i : Int)))), (7, .int (zI ((8 * q) + (k : Int)))), (0, .ref p0), (1, .ref s0), (2, .int (zI (q))), (3, .int (zI (mkb M))), (5, .int (zI ((k : Int)))), (6, .int (zI ((i : Int))))]) hx hb dX0_nextMarks_123 hl (by decide) rfl (fun ls hl => ?_)
                    refine lv_iinc (v := zI ((i : Int) + 1)) (lv' := [(6, .int (zI ((i : Int) + 1))), (4, .int (zI (mkb (fun j => (fun j => (decide (j < gf (q + 1)) && anyB (cst σ gW gb go M q j) k) || (decide (j < (i : Int)) && cst σ gW gb go M q j (k : Int))) j || decide (j = (i : Int)))))), (9, .int (zI ((eff σ (gW ((8 * q) + (k : Int))) (gW ((8 * (q + 1)) + (i : Int)))) + (go ((8 * (q + 1)) + (i : Int)))))), (8, .int (zI ((8 * (q + 1)) + (i : Int)))), (7, .int (zI ((8 * q) + (k : Int)))), (0, .ref p0), (1, .ref s0), (2, .int (zI (q))), (3, .int (zI (mkb M))), (5, .int (zI ((k : Int))))]) hx hb dX0_nextMarks_125 hl (k := 9) rfl (zI_add _ _) (by decide) rfl (fun ls hl => ?_)
                    refine lv_goto (tgt := 33) hx hb dX0_nextMarks_128 (by decide) ?_
                    exact ih_b (i + 1) (mkb (fun j => (fun j => (decide (j < gf (q + 1)) && anyB (cst σ gW gb go M q j) k) || (decide (j < (i : Int)) && cst σ gW gb go M q j (k : Int))) j || decide (j = (i : Int)))) _ _ _ (by omega) (mk_iny _ (k := i) (by simp only [cst, Bool.and_eq_true, decide_eq_true_eq]; exact ⟨zB_1.mp c_101, c_113⟩)) (by omega) hP hD hS (lv_sub hl [5, 6, 7, 8, 1, 9, 0] rfl)
          exact loop_b 70 (0) (x) _ _ _ (by omega) (by rw [e_x]; exact mk_in0 _ _) (by omega) hP hD hS (lv_sub hl [1, 2, 3, 4, 5, 6, 0] rfl)
    exact loop_a 70 (0) (0) _ _ _ (by omega) ((mk_out0 _ _).symm) (by omega) hP hD hS (lv_sub hl [2, 3, 4, 5, 1, 0] rfl)
  · exfalso; omega
abbrev rmX0_lowestMark : Room := { frames := 0, cells := 0, slots := 0, locals := 0 }
set_option maxHeartbeats 4000000 in
set_option maxRecDepth 100000 in
theorem c_X0_lowestMark (l : Launch) (D : va_G) (cI cJ cZ cO : ClassId) (sz : Nat) (M : Int → Bool)  : Met l yX0_lowestMark wsX0_lowestMark rmX0_lowestMark (zPc D cI cJ cZ cO [] sz [.int (zI (mkb M))]) (zQi D (fun (r : Int32) (_ : Unit) => r = zI (mkb (fun i => decide (i = fnd M 8)))) (fun (_ : Unit) => []) [] sz) 0 0 (va_A [] sz) := by
  refine z_meti (by decide) rfl (Nat.le_of_ble_eq_true rfl) ?_
  intro p e s m args below meth c A Q ls hx hb hml hown hts hA hS hP hD hK hZ hl hret
  have hl : lv_has ls 1 [(0, .int (zI (mkb M)))] := hl
  refine lv_iload_n hx hb dX0_lowestMark_0 rfl (lv_at hl 0 rfl) ?_
  refine lv_iload_n hx hb dX0_lowestMark_1 rfl (lv_at hl 0 rfl) ?_
  refine z_ineg hx hb dX0_lowestMark_2 ?_
  refine lv_iand hx hb dX0_lowestMark_3 ?_
  refine z_top (y := zI (mkb (fun i => decide (i = fnd M 8)))) (mk_low M) ?_
  exact hret _ _ _ _ _ () dX0_lowestMark_4 rfl hP hS
abbrev rmX0_countWaysAt : Room := { frames := 3, cells := 0, slots := 0, locals := 75 }
set_option maxHeartbeats 4000000 in
set_option maxRecDepth 100000 in
theorem c_X0_countWaysAt (l : Launch) (D : va_G) (cI cJ cZ cO : ClassId) (sz : Nat) (p0 : Nat) (p1 : Nat) (p2 : Nat) (p3 : Nat) (p4 : Nat) (p5 : Nat) (ps : Int) (gf : Int → Int) (gW : Int → Int) (gb : Int → Int) (go : Int → Int) (s0 : Nat) (b1 : Nat) (b2 : Nat) (b3 : Nat) (σ : Int → Int) (q : Int) (hps : ps = σ 9) (hq : 0 ≤ q ∧ q < σ 9) (hall : ∀ r : Int, 0 ≤ r → r < σ 9 → (0 ≤ gf r ∧ gf r ≤ 8) ∧ ∀ i : Int, 0 ≤ i → i < gf r → (0 ≤ gW (8 * r + i) ∧ gW (8 * r + i) < 64) ∧ (0 ≤ go (8 * r + i) ∧ go (8 * r + i) ≤ 1100000) ∧ 0 ≤ gb (8 * r + i) ∧ gb (8 * r + i) ≤ 1100000) (hO : Ok σ) : Met l yX0_countWaysAt wsX0_countWaysAt rmX0_countWaysAt (zPc D cI cJ cZ cO [(p0, .inr (0, [.int (zI (ps)), .ref p1, .ref p2, .ref p3, .ref p4, .ref p5])), (p1, .inl (cI, 12, .inl (zF (gf)))), (p2, .inl (cI, 96, .inl (zF (gW)))), (p3, .inl (cI, 96, .inl (zF (gb)))), (p4, .inl (cI, 96, .inl (zF (go)))), (s0, .inr (1, [.int (zI (σ 0)), .ref b1, .ref b2, .ref b3, .int (zI (σ 9))])), (b1, .inl (cI, 3, .inl (zF (fun j => σ (1 + j))))), (b2, .inl (cI, 5, .inl (zF (fun j => σ (4 + j))))), (b3, .inl (cI, 12, .inl (zF (fun j => σ (10 + j)))))] sz [.ref p0, .ref s0, .int (zI (q))]) (zQi D (fun (r : Int32) (_ : Unit) => r = zI (cnt (MK σ ps gf gW gb go q.toNat) 8)) (fun (_ : Unit) => [(p0, .inr (0, [.int (zI (ps)), .ref p1, .ref p2, .ref p3, .ref p4, .ref p5])), (p1, .inl (cI, 12, .inl (zF (gf)))), (p2, .inl (cI, 96, .inl (zF (gW)))), (p3, .inl (cI, 96, .inl (zF (gb)))), (p4, .inl (cI, 96, .inl (zF (go)))), (s0, .inr (1, [.int (zI (σ 0)), .ref b1, .ref b2, .ref b3, .int (zI (σ 9))])), (b1, .inl (cI, 3, .inl (zF (fun j => σ (1 + j))))), (b2, .inl (cI, 5, .inl (zF (fun j => σ (4 + j))))), (b3, .inl (cI, 12, .inl (zF (fun j => σ (10 + j)))))]) [(p0, .inr (0, [.int (zI (ps)), .ref p1, .ref p2, .ref p3, .ref p4, .ref p5])), (p1, .inl (cI, 12, .inl (zF (gf)))), (p2, .inl (cI, 96, .inl (zF (gW)))), (p3, .inl (cI, 96, .inl (zF (gb)))), (p4, .inl (cI, 96, .inl (zF (go)))), (s0, .inr (1, [.int (zI (σ 0)), .ref b1, .ref b2, .ref b3, .int (zI (σ 9))])), (b1, .inl (cI, 3, .inl (zF (fun j => σ (1 + j))))), (b2, .inl (cI, 5, .inl (zF (fun j => σ (4 + j))))), (b3, .inl (cI, 12, .inl (zF (fun j => σ (10 + j)))))] sz) 0 0 (va_A [(p0, .inr (0, [.int (zI (ps)), .ref p1, .ref p2, .ref p3, .ref p4, .ref p5])), (p1, .inl (cI, 12, .inl (zF (gf)))), (p2, .inl (cI, 96, .inl (zF (gW)))), (p3, .inl (cI, 96, .inl (zF (gb)))), (p4, .inl (cI, 96, .inl (zF (go)))), (s0, .inr (1, [.int (zI (σ 0)), .ref b1, .ref b2, .ref b3, .int (zI (σ 9))])), (b1, .inl (cI, 3, .inl (zF (fun j => σ (1 + j))))), (b2, .inl (cI, 5, .inl (zF (fun j => σ (4 + j))))), (b3, .inl (cI, 12, .inl (zF (fun j => σ (10 + j)))))] sz) := by
  refine z_meti (by decide) rfl (Nat.le_of_ble_eq_true rfl) ?_
  intro p e s m args below meth c A Q ls hx hb hml hown hts hA hS hP hD hK hZ hl hret
  have hl : lv_has ls 5 [(0, .ref p0), (1, .ref s0), (2, .int (zI (q)))] := hl
  have o9 := hO.2.2.2.2.2.2.2.2.2.1
  refine lv_aload_n hx hb dX0_countWaysAt_0 rfl (lv_at hl 0 rfl) ?_
  refine z_Vir (As := []) (rest := []) hx hb hml hown hts hA hS hP hD hK hZ hl.1 (c_X0_firstMarks l D cI cJ cZ cO _ (p0) (p1) (p2) (p3) (p4) (p5) (ps) (gf) (go) (by omega) (fun _ => (hall 0 (by omega) (by omega)).1) (fun _ i h0 h1 => by have h := ((hall 0 (by omega) (by omega)).2 i h0 h1).2.1; rw [show 8 * (0 : Int) + i = i by omega] at h; exact h)) (cwV 0 hts gX0_countWaysAt_X0_firstMarks rfl rfl rfl (by decide +kernel) ⟨Nat.le_of_ble_eq_true rfl, Nat.le_of_ble_eq_true rfl⟩) [0, 1, 4] rfl rfl 0 0 rfl rfl rfl rfl (Nat.le_of_ble_eq_true rfl) ⟨Nat.zero_le _, Nat.zero_le _⟩ dX0_countWaysAt_1 (fun r u H locs hw hP hS => ?_)
  subst hw
  refine lv_istore_n (lv' := [(3, .int (zI (mkb (mk0 ps gf go)))), (0, .ref p0), (1, .ref s0), (2, .int (zI (q)))]) hx hb dX0_countWaysAt_4 rfl hl (by decide) rfl (fun ls hl => ?_)
  refine lv_iconst (v := zI (0)) hx hb dX0_countWaysAt_5 rfl ?_
  refine lv_istore (lv' := [(4, .int (zI (0))), (3, .int (zI (mkb (mk0 ps gf go)))), (0, .ref p0), (1, .ref s0), (2, .int (zI (q)))]) hx hb dX0_countWaysAt_6 hl (by decide) rfl (fun ls hl => ?_)
  have loop_a : ∀ (f_a : Nat) (k : Nat) (x : Int) (H : Heap) (locs : List Loc) (ls : Array Slot), ((k : Int) ≤ q) → (x = mkb (MK σ ps gf gW gb go k)) → (12 - (k : Int) < (f_a : Int)) → va_P D vwCl [(p0, .inr (0, [.int (zI (ps)), .ref p1, .ref p2, .ref p3, .ref p4, .ref p5])), (p1, .inl (cI, 12, .inl (zF (gf)))), (p2, .inl (cI, 96, .inl (zF (gW)))), (p3, .inl (cI, 96, .inl (zF (gb)))), (p4, .inl (cI, 96, .inl (zF (go)))), (s0, .inr (1, [.int (zI (σ 0)), .ref b1, .ref b2, .ref b3, .int (zI (σ 9))])), (b1, .inl (cI, 3, .inl (zF (fun j => σ (1 + j))))), (b2, .inl (cI, 5, .inl (zF (fun j => σ (4 + j))))), (b3, .inl (cI, 12, .inl (zF (fun j => σ (10 + j)))))] H → va_D A [(p0, .inr (0, [.int (zI (ps)), .ref p1, .ref p2, .ref p3, .ref p4, .ref p5])), (p1, .inl (cI, 12, .inl (zF (gf)))), (p2, .inl (cI, 96, .inl (zF (gW)))), (p3, .inl (cI, 96, .inl (zF (gb)))), (p4, .inl (cI, 96, .inl (zF (go)))), (s0, .inr (1, [.int (zI (σ 0)), .ref b1, .ref b2, .ref b3, .int (zI (σ 9))])), (b1, .inl (cI, 3, .inl (zF (fun j => σ (1 + j))))), (b2, .inl (cI, 5, .inl (zF (fun j => σ (4 + j))))), (b3, .inl (cI, 12, .inl (zF (fun j => σ (10 + j)))))] → va_S A s.heap H locs → lv_has ls 5 [(0, .ref p0), (1, .ref s0), (2, .int (zI (q))), (3, .int (zI (x))), (4, .int (zI ((k : Int))))] → W p l e rmX0_countWaysAt s m args below meth c H locs 0 0 Q (F0 m 8 ls []) := by
    intro f_a
    induction f_a with
    | zero =>
      intros
      exfalso; omega
    | succ f_a ih_a =>
      intro k x H locs ls e_k e_x hfu_a hP hD hS hl
      refine lv_iload hx hb dX0_countWaysAt_8 (lv_at hl 4 rfl) ?_
      refine lv_iload_n hx hb dX0_countWaysAt_10 rfl (lv_at hl 2 rfl) ?_
      refine z_icmp_ge (a := (k : Int)) (b := q) (tgt := 29) hx hb (by omega) dX0_countWaysAt_11 (by decide) (fun c_11 => ?_) (fun c_11 => ?_)
      · have hl : lv_has ls 5 [(0, .ref p0), (1, .ref s0), (2, .int (zI (q))), (3, .int (zI (mkb (MK σ ps gf gW gb go k)))), (4, .int (zI ((k : Int))))] := by have e0 : zI (x) = zI (mkb (MK σ ps gf gW gb go k)) := (by rw [e_x]); rw [← e0]; exact hl
        have hm8 := mkb_in (MK σ ps gf gW gb go k)
        refine lv_iload_n hx hb dX0_countWaysAt_29 rfl (lv_at hl 3 rfl) ?_
        refine z_Sir (As := [.int (zI (mkb (MK σ ps gf gW gb go k)))]) (rest := []) hx hb hml hown hts hA hS hP hD hK hZ hl.1 (c_J6_bitCount_0f7a4 l D cI cJ cZ cO _ (mkb (MK σ ps gf gW gb go k)) (by omega)) (va_cwS 1 hts gX0_countWaysAt_J6_bitCount_0f7a4 rfl rfl rfl (by decide +kernel) ⟨Nat.le_of_ble_eq_true rfl, Nat.le_of_ble_eq_true rfl⟩) [] rfl rfl rfl rfl (Nat.le_of_ble_eq_true rfl) ⟨Nat.zero_le _, Nat.zero_le _⟩ dX0_countWaysAt_30 (fun r u H locs hw hP hS => ?_)
        subst hw
        refine z_top (y := zI (cnt (MK σ ps gf gW gb go k) 8)) (by rw [mk_cnt]) ?_
        exact hret _ _ _ _ _ () dX0_countWaysAt_33 (by rw [show k = q.toNat by omega]) hP hS
      · have hl : lv_has ls 5 [(0, .ref p0), (1, .ref s0), (2, .int (zI (q))), (3, .int (zI (mkb (MK σ ps gf gW gb go k)))), (4, .int (zI ((k : Int))))] := by have e0 : zI (x) = zI (mkb (MK σ ps gf gW gb go k)) := (by rw [e_x]); rw [← e0]; exact hl
        refine lv_aload_n hx hb dX0_countWaysAt_14 rfl (lv_at hl 0 rfl) ?_
        refine lv_aload_n hx hb dX0_countWaysAt_15 rfl (lv_at hl 1 rfl) ?_
        refine lv_iload hx hb dX0_countWaysAt_16 (lv_at hl 4 rfl) ?_
        refine lv_iload_n hx hb dX0_countWaysAt_18 rfl (lv_at hl 3 rfl) ?_
        refine z_Vir (As := [.ref s0, .int (zI ((k : Int))), .int (zI (mkb (MK σ ps gf gW gb go k)))]) (rest := []) hx hb hml hown hts hA hS hP hD hK hZ hl.1 (c_X0_nextMarks l D cI cJ cZ cO _ (p0) (p1) (p2) (p3) (p4) (p5) (ps) (gf) (gW) (gb) (go) (s0) (b1) (b2) (b3) (σ) ((k : Int)) (MK σ ps gf gW gb go k) hps (by omega) ⟨(hall (k : Int) (by omega) (by omega)).1, (hall ((k : Int) + 1) (by omega) (by omega)).1⟩ ((hall (k : Int) (by omega) (by omega)).2) ((hall ((k : Int) + 1) (by omega) (by omega)).2) hO) (cwV 3 hts gX0_countWaysAt_X0_nextMarks rfl rfl rfl (by decide +kernel) ⟨Nat.le_of_ble_eq_true rfl, Nat.le_of_ble_eq_true rfl⟩) [0, 1, 2, 3, 4, 5, 6, 7, 8] rfl rfl 0 0 rfl rfl rfl rfl (Nat.le_of_ble_eq_true rfl) ⟨Nat.zero_le _, Nat.zero_le _⟩ dX0_countWaysAt_19 (fun r u H locs hw hP hS => ?_)
        subst hw
        refine lv_istore_n (lv' := [(3, .int (zI (mkb (mkN σ gf gW gb go (MK σ ps gf gW gb go k) (k : Int))))), (0, .ref p0), (1, .ref s0), (2, .int (zI (q))), (4, .int (zI ((k : Int))))]) hx hb dX0_countWaysAt_22 rfl hl (by decide) rfl (fun ls hl => ?_)
        refine lv_iinc (v := zI ((k : Int) + 1)) (lv' := [(4, .int (zI ((k : Int) + 1))), (3, .int (zI (mkb (mkN σ gf gW gb go (MK σ ps gf gW gb go k) (k : Int))))), (0, .ref p0), (1, .ref s0), (2, .int (zI (q)))]) hx hb dX0_countWaysAt_23 hl (k := 4) rfl (zI_add _ _) (by decide) rfl (fun ls hl => ?_)
        refine lv_goto (tgt := 8) hx hb dX0_countWaysAt_26 (by decide) ?_
        exact ih_a (k + 1) (mkb (mkN σ gf gW gb go (MK σ ps gf gW gb go k) (k : Int))) _ _ _ (by omega) (rfl) (by omega) hP hD hS (lv_sub hl [2, 3, 4, 1, 0] rfl)
  exact loop_a 70 (0) (mkb (mk0 ps gf go)) _ _ _ (by omega) (rfl) (by omega) hP hD hS (lv_sub hl [2, 3, 4, 1, 0] rfl)
abbrev rmX0_leastWayAt : Room := { frames := 3, cells := 0, slots := 0, locals := 75 }
theorem in_X0_leastWayAt_X0 : ∀ w ∈ wsX00, w ∈ wsX0_leastWayAt := fun _ h => List.mem_cons_of_mem _ (List.mem_append_left _ (List.mem_append_right _ h))
theorem m_X0_leastWayAt_0 : (.fieldLink RX0 9 "BrassWays$Planner" "size" "I" : Cond) ∈ wsX0_leastWayAt := List.mem_of_getElem? (i := 1) rfl
theorem m_X0_leastWayAt_1 : (.fieldLink RX0 19 "BrassWays$Planner" "wayIn" "[I" : Cond) ∈ wsX0_leastWayAt := List.mem_of_getElem? (i := 2) rfl
set_option maxHeartbeats 4000000 in
set_option maxRecDepth 100000 in
theorem c_X0_leastWayAt (l : Launch) (D : va_G) (cI cJ cZ cO : ClassId) (sz : Nat) (p0 : Nat) (p1 : Nat) (p2 : Nat) (p3 : Nat) (p4 : Nat) (p5 : Nat) (ps : Int) (gf : Int → Int) (gW : Int → Int) (gb : Int → Int) (go : Int → Int) (s0 : Nat) (b1 : Nat) (b2 : Nat) (b3 : Nat) (σ : Int → Int) (q : Int) (hps : ps = σ 9) (hq : 0 ≤ q ∧ q < σ 9) (hall : ∀ r : Int, 0 ≤ r → r < σ 9 → (0 ≤ gf r ∧ gf r ≤ 8) ∧ ∀ i : Int, 0 ≤ i → i < gf r → (0 ≤ gW (8 * r + i) ∧ gW (8 * r + i) < 64) ∧ (0 ≤ go (8 * r + i) ∧ go (8 * r + i) ≤ 1100000) ∧ 0 ≤ gb (8 * r + i) ∧ gb (8 * r + i) ≤ 1100000) (hlm : 0 ≤ LM σ ps gf gW gb go q.toNat ∧ LM σ ps gf gW gb go q.toNat < 8) (hO : Ok σ) : Met l yX0_leastWayAt wsX0_leastWayAt rmX0_leastWayAt (zPc D cI cJ cZ cO [(p0, .inr (0, [.int (zI (ps)), .ref p1, .ref p2, .ref p3, .ref p4, .ref p5])), (p1, .inl (cI, 12, .inl (zF (gf)))), (p2, .inl (cI, 96, .inl (zF (gW)))), (p3, .inl (cI, 96, .inl (zF (gb)))), (p4, .inl (cI, 96, .inl (zF (go)))), (s0, .inr (1, [.int (zI (σ 0)), .ref b1, .ref b2, .ref b3, .int (zI (σ 9))])), (b1, .inl (cI, 3, .inl (zF (fun j => σ (1 + j))))), (b2, .inl (cI, 5, .inl (zF (fun j => σ (4 + j))))), (b3, .inl (cI, 12, .inl (zF (fun j => σ (10 + j)))))] sz [.ref p0, .ref s0, .int (zI (q))]) (zQi D (fun (r : Int32) (_ : Unit) => r = zI (gW (8 * q + LM σ ps gf gW gb go q.toNat))) (fun (_ : Unit) => [(p0, .inr (0, [.int (zI (ps)), .ref p1, .ref p2, .ref p3, .ref p4, .ref p5])), (p1, .inl (cI, 12, .inl (zF (gf)))), (p2, .inl (cI, 96, .inl (zF (gW)))), (p3, .inl (cI, 96, .inl (zF (gb)))), (p4, .inl (cI, 96, .inl (zF (go)))), (s0, .inr (1, [.int (zI (σ 0)), .ref b1, .ref b2, .ref b3, .int (zI (σ 9))])), (b1, .inl (cI, 3, .inl (zF (fun j => σ (1 + j))))), (b2, .inl (cI, 5, .inl (zF (fun j => σ (4 + j))))), (b3, .inl (cI, 12, .inl (zF (fun j => σ (10 + j)))))]) [(p0, .inr (0, [.int (zI (ps)), .ref p1, .ref p2, .ref p3, .ref p4, .ref p5])), (p1, .inl (cI, 12, .inl (zF (gf)))), (p2, .inl (cI, 96, .inl (zF (gW)))), (p3, .inl (cI, 96, .inl (zF (gb)))), (p4, .inl (cI, 96, .inl (zF (go)))), (s0, .inr (1, [.int (zI (σ 0)), .ref b1, .ref b2, .ref b3, .int (zI (σ 9))])), (b1, .inl (cI, 3, .inl (zF (fun j => σ (1 + j))))), (b2, .inl (cI, 5, .inl (zF (fun j => σ (4 + j))))), (b3, .inl (cI, 12, .inl (zF (fun j => σ (10 + j)))))] sz) 0 0 (va_A [(p0, .inr (0, [.int (zI (ps)), .ref p1, .ref p2, .ref p3, .ref p4, .ref p5])), (p1, .inl (cI, 12, .inl (zF (gf)))), (p2, .inl (cI, 96, .inl (zF (gW)))), (p3, .inl (cI, 96, .inl (zF (gb)))), (p4, .inl (cI, 96, .inl (zF (go)))), (s0, .inr (1, [.int (zI (σ 0)), .ref b1, .ref b2, .ref b3, .int (zI (σ 9))])), (b1, .inl (cI, 3, .inl (zF (fun j => σ (1 + j))))), (b2, .inl (cI, 5, .inl (zF (fun j => σ (4 + j))))), (b3, .inl (cI, 12, .inl (zF (fun j => σ (10 + j)))))] sz) := by
  refine z_meti (by decide) rfl (Nat.le_of_ble_eq_true rfl) ?_
  intro p e s m args below meth c A Q ls hx hb hml hown hts hA hS hP hD hK hZ hl hret
  have hl : lv_has ls 5 [(0, .ref p0), (1, .ref s0), (2, .int (zI (q)))] := hl
  have o9 := hO.2.2.2.2.2.2.2.2.2.1
  refine lv_aload_n hx hb dX0_leastWayAt_0 rfl (lv_at hl 0 rfl) ?_
  refine z_Vir (As := []) (rest := []) hx hb hml hown hts hA hS hP hD hK hZ hl.1 (c_X0_firstMarks l D cI cJ cZ cO _ (p0) (p1) (p2) (p3) (p4) (p5) (ps) (gf) (go) (by omega) (fun _ => (hall 0 (by omega) (by omega)).1) (fun _ i h0 h1 => by have h := ((hall 0 (by omega) (by omega)).2 i h0 h1).2.1; rw [show 8 * (0 : Int) + i = i by omega] at h; exact h)) (cwV 0 hts gX0_leastWayAt_X0_firstMarks rfl rfl rfl (by decide +kernel) ⟨Nat.le_of_ble_eq_true rfl, Nat.le_of_ble_eq_true rfl⟩) [0, 1, 4] rfl rfl 0 0 rfl rfl rfl rfl (Nat.le_of_ble_eq_true rfl) ⟨Nat.zero_le _, Nat.zero_le _⟩ dX0_leastWayAt_1 (fun r u H locs hw hP hS => ?_)
  subst hw
  refine z_Sir (As := [.int (zI (mkb (mk0 ps gf go)))]) (rest := []) hx hb hml hown hts hA hS hP hD hK hZ hl.1 (c_X0_lowestMark l D cI cJ cZ cO _ (mk0 ps gf go) ) (va_cwS 1 hts gX0_leastWayAt_X0_lowestMark rfl rfl rfl (by decide +kernel) ⟨Nat.le_of_ble_eq_true rfl, Nat.le_of_ble_eq_true rfl⟩) [] rfl rfl rfl rfl (Nat.le_of_ble_eq_true rfl) ⟨Nat.zero_le _, Nat.zero_le _⟩ dX0_leastWayAt_4 (fun r u H locs hw hP hS => ?_)
  subst hw
  refine lv_istore_n (lv' := [(3, .int (zI (mkb (fun i => decide (i = fnd (mk0 ps gf go) 8))))), (0, .ref p0), (1, .ref s0), (2, .int (zI (q)))]) hx hb dX0_leastWayAt_7 rfl hl (by decide) rfl (fun ls hl => ?_)
  refine lv_iconst (v := zI (0)) hx hb dX0_leastWayAt_8 rfl ?_
  refine lv_istore (lv' := [(4, .int (zI (0))), (3, .int (zI (mkb (fun i => decide (i = fnd (mk0 ps gf go) 8))))), (0, .ref p0), (1, .ref s0), (2, .int (zI (q)))]) hx hb dX0_leastWayAt_9 hl (by decide) rfl (fun ls hl => ?_)
  have loop_a : ∀ (f_a : Nat) (k : Nat) (x : Int) (H : Heap) (locs : List Loc) (ls : Array Slot), ((k : Int) ≤ q) → (x = mkb (fun i => decide (i = LM σ ps gf gW gb go k))) → (12 - (k : Int) < (f_a : Int)) → va_P D vwCl [(p0, .inr (0, [.int (zI (ps)), .ref p1, .ref p2, .ref p3, .ref p4, .ref p5])), (p1, .inl (cI, 12, .inl (zF (gf)))), (p2, .inl (cI, 96, .inl (zF (gW)))), (p3, .inl (cI, 96, .inl (zF (gb)))), (p4, .inl (cI, 96, .inl (zF (go)))), (s0, .inr (1, [.int (zI (σ 0)), .ref b1, .ref b2, .ref b3, .int (zI (σ 9))])), (b1, .inl (cI, 3, .inl (zF (fun j => σ (1 + j))))), (b2, .inl (cI, 5, .inl (zF (fun j => σ (4 + j))))), (b3, .inl (cI, 12, .inl (zF (fun j => σ (10 + j)))))] H → va_D A [(p0, .inr (0, [.int (zI (ps)), .ref p1, .ref p2, .ref p3, .ref p4, .ref p5])), (p1, .inl (cI, 12, .inl (zF (gf)))), (p2, .inl (cI, 96, .inl (zF (gW)))), (p3, .inl (cI, 96, .inl (zF (gb)))), (p4, .inl (cI, 96, .inl (zF (go)))), (s0, .inr (1, [.int (zI (σ 0)), .ref b1, .ref b2, .ref b3, .int (zI (σ 9))])), (b1, .inl (cI, 3, .inl (zF (fun j => σ (1 + j))))), (b2, .inl (cI, 5, .inl (zF (fun j => σ (4 + j))))), (b3, .inl (cI, 12, .inl (zF (fun j => σ (10 + j)))))] → va_S A s.heap H locs → lv_has ls 5 [(0, .ref p0), (1, .ref s0), (2, .int (zI (q))), (3, .int (zI (x))), (4, .int (zI ((k : Int))))] → W p l e rmX0_leastWayAt s m args below meth c H locs 0 0 Q (F0 m 11 ls []) := by
    intro f_a
    induction f_a with
    | zero =>
      intros
      exfalso; omega
    | succ f_a ih_a =>
      intro k x H locs ls e_k e_x hfu_a hP hD hS hl
      refine lv_iload hx hb dX0_leastWayAt_11 (lv_at hl 4 rfl) ?_
      refine lv_iload_n hx hb dX0_leastWayAt_13 rfl (lv_at hl 2 rfl) ?_
      refine z_icmp_ge (a := (k : Int)) (b := q) (tgt := 35) hx hb (by omega) dX0_leastWayAt_14 (by decide) (fun c_14 => ?_) (fun c_14 => ?_)
      · have hkq : k = q.toNat := by omega
        rw [← hkq] at hlm
        have h1m := mk_one (a := LM σ ps gf gW gb go k) hlm
        have hl : lv_has ls 5 [(0, .ref p0), (1, .ref s0), (2, .int (zI (q))), (3, .int (zI (mkb (fun i => decide (i = LM σ ps gf gW gb go k))))), (4, .int (zI ((k : Int))))] := by have e0 : zI (x) = zI (mkb (fun i => decide (i = LM σ ps gf gW gb go k))) := (by rw [e_x]); rw [← e0]; exact hl
        refine lv_iload_n hx hb dX0_leastWayAt_35 rfl (lv_at hl 3 rfl) ?_
        refine lv_iconst (v := zI (1)) hx hb dX0_leastWayAt_36 rfl ?_
        refine z_isub (a := mkb (fun i => decide (i = LM σ ps gf gW gb go k))) (b := 1) hx hb dX0_leastWayAt_37 ?_
        refine z_Sir (As := [.int (zI ((mkb (fun i => decide (i = LM σ ps gf gW gb go k))) - 1))]) (rest := []) hx hb hml hown hts hA hS hP hD hK hZ hl.1 (c_J6_bitCount_0f7a4 l D cI cJ cZ cO _ ((mkb (fun i => decide (i = LM σ ps gf gW gb go k))) - 1) (by omega)) (va_cwS 1 hts gX0_leastWayAt_J6_bitCount_0f7a4 rfl rfl rfl (by decide +kernel) ⟨Nat.le_of_ble_eq_true rfl, Nat.le_of_ble_eq_true rfl⟩) [] rfl rfl rfl rfl (Nat.le_of_ble_eq_true rfl) ⟨Nat.zero_le _, Nat.zero_le _⟩ dX0_leastWayAt_38 (fun r u H locs hw hP hS => ?_)
        subst hw
        refine z_top (y := zI (LM σ ps gf gW gb go k)) (by rw [h1m.1]) ?_
        refine lv_istore (lv' := [(4, .int (zI (LM σ ps gf gW gb go k))), (0, .ref p0), (1, .ref s0), (2, .int (zI (q))), (3, .int (zI (mkb (fun i => decide (i = LM σ ps gf gW gb go k)))))]) hx hb dX0_leastWayAt_41 hl (by decide) rfl (fun ls hl => ?_)
        refine lv_iload_n hx hb dX0_leastWayAt_43 rfl (lv_at hl 4 rfl) ?_
        refine z_if_eq (a := mkb (fun i => decide (i = LM σ ps gf gW gb go k))) (tgt := 70) hx hb (by omega) dX0_leastWayAt_44 (by decide) (fun c_44 => ?_) (fun c_44 => ?_)
        · exfalso; omega
        · refine lv_iload_n hx hb dX0_leastWayAt_47 rfl (lv_at hl 3 rfl) ?_
          refine lv_aload_n hx hb dX0_leastWayAt_48 rfl (lv_at hl 1 rfl) ?_
          refine va_get (D := D) (ci := 0) (v := .int (zI (ps))) (C := RX0) (T := TX0) (N := 6) hx hb hts in_X0_leastWayAt_X0 hown hK hP 0 rfl rfl 0 (by decide) (hts _ m_X0_leastWayAt_0) (fun _ h9 => h9) rfl dX0_leastWayAt_49 ?_
          refine z_icmp_ge (a := q) (b := ps) (tgt := 70) hx hb (by omega) dX0_leastWayAt_52 (by decide) (fun c_52 => ?_) (fun c_52 => ?_)
          · exfalso; omega
          · refine lv_aload_n hx hb dX0_leastWayAt_55 rfl (lv_at hl 1 rfl) ?_
            refine va_get (D := D) (ci := 0) (v := .ref p2) (C := RX0) (T := TX0) (N := 6) hx hb hts in_X0_leastWayAt_X0 hown hK hP 0 rfl rfl 2 (by decide) (hts _ m_X0_leastWayAt_1) (fun _ h9 => h9) rfl dX0_leastWayAt_56 ?_
            refine lv_bipush (v := zI (8)) hx hb dX0_leastWayAt_59 (by decide +kernel) ?_
            refine lv_iload_n hx hb dX0_leastWayAt_61 rfl (lv_at hl 3 rfl) ?_
            refine z_imul (a := 8) (b := q) hx hb dX0_leastWayAt_62 ?_
            refine lv_iload hx hb dX0_leastWayAt_63 (lv_at hl 0 rfl) ?_
            refine z_iadd (a := 8 * q) (b := LM σ ps gf gW gb go k) hx hb dX0_leastWayAt_65 ?_
            refine z_iald (k := (8 * q) + (LM σ ps gf gW gb go k)) (g := gW) hx hb hK hP 2 0 rfl rfl (by omega) dX0_leastWayAt_66 ?_
            try dsimp only
            refine lv_goto (tgt := 72) hx hb dX0_leastWayAt_67 (by decide) ?_
            exact hret _ _ _ _ _ () dX0_leastWayAt_72 (by rw [← hkq]) hP hS
      · have hl : lv_has ls 5 [(0, .ref p0), (1, .ref s0), (2, .int (zI (q))), (3, .int (zI (mkb (fun i => decide (i = LM σ ps gf gW gb go k))))), (4, .int (zI ((k : Int))))] := by have e0 : zI (x) = zI (mkb (fun i => decide (i = LM σ ps gf gW gb go k))) := (by rw [e_x]); rw [← e0]; exact hl
        refine lv_aload_n hx hb dX0_leastWayAt_17 rfl (lv_at hl 0 rfl) ?_
        refine lv_aload_n hx hb dX0_leastWayAt_18 rfl (lv_at hl 1 rfl) ?_
        refine lv_iload hx hb dX0_leastWayAt_19 (lv_at hl 4 rfl) ?_
        refine lv_iload_n hx hb dX0_leastWayAt_21 rfl (lv_at hl 3 rfl) ?_
        refine z_Vir (As := [.ref s0, .int (zI ((k : Int))), .int (zI (mkb (fun i => decide (i = LM σ ps gf gW gb go k))))]) (rest := []) hx hb hml hown hts hA hS hP hD hK hZ hl.1 (c_X0_nextMarks l D cI cJ cZ cO _ (p0) (p1) (p2) (p3) (p4) (p5) (ps) (gf) (gW) (gb) (go) (s0) (b1) (b2) (b3) (σ) ((k : Int)) ((fun i => decide (i = LM σ ps gf gW gb go k))) hps (by omega) ⟨(hall (k : Int) (by omega) (by omega)).1, (hall ((k : Int) + 1) (by omega) (by omega)).1⟩ ((hall (k : Int) (by omega) (by omega)).2) ((hall ((k : Int) + 1) (by omega) (by omega)).2) hO) (cwV 3 hts gX0_leastWayAt_X0_nextMarks rfl rfl rfl (by decide +kernel) ⟨Nat.le_of_ble_eq_true rfl, Nat.le_of_ble_eq_true rfl⟩) [0, 1, 2, 3, 4, 5, 6, 7, 8] rfl rfl 0 0 rfl rfl rfl rfl (Nat.le_of_ble_eq_true rfl) ⟨Nat.zero_le _, Nat.zero_le _⟩ dX0_leastWayAt_22 (fun r u H locs hw hP hS => ?_)
        subst hw
        refine z_Sir (As := [.int (zI (mkb (mkN σ gf gW gb go (fun i => decide (i = LM σ ps gf gW gb go k)) (k : Int))))]) (rest := []) hx hb hml hown hts hA hS hP hD hK hZ hl.1 (c_X0_lowestMark l D cI cJ cZ cO _ (mkN σ gf gW gb go (fun i => decide (i = LM σ ps gf gW gb go k)) (k : Int)) ) (va_cwS 1 hts gX0_leastWayAt_X0_lowestMark rfl rfl rfl (by decide +kernel) ⟨Nat.le_of_ble_eq_true rfl, Nat.le_of_ble_eq_true rfl⟩) [] rfl rfl rfl rfl (Nat.le_of_ble_eq_true rfl) ⟨Nat.zero_le _, Nat.zero_le _⟩ dX0_leastWayAt_25 (fun r u H locs hw hP hS => ?_)
        subst hw
        refine lv_istore_n (lv' := [(3, .int (zI (mkb (fun i => decide (i = fnd (mkN σ gf gW gb go (fun i => decide (i = LM σ ps gf gW gb go k)) (k : Int)) 8))))), (0, .ref p0), (1, .ref s0), (2, .int (zI (q))), (4, .int (zI ((k : Int))))]) hx hb dX0_leastWayAt_28 rfl hl (by decide) rfl (fun ls hl => ?_)
        refine lv_iinc (v := zI ((k : Int) + 1)) (lv' := [(4, .int (zI ((k : Int) + 1))), (3, .int (zI (mkb (fun i => decide (i = fnd (mkN σ gf gW gb go (fun i => decide (i = LM σ ps gf gW gb go k)) (k : Int)) 8))))), (0, .ref p0), (1, .ref s0), (2, .int (zI (q)))]) hx hb dX0_leastWayAt_29 hl (k := 4) rfl (zI_add _ _) (by decide) rfl (fun ls hl => ?_)
        refine lv_goto (tgt := 11) hx hb dX0_leastWayAt_32 (by decide) ?_
        exact ih_a (k + 1) (mkb (fun i => decide (i = fnd (mkN σ gf gW gb go (fun i => decide (i = LM σ ps gf gW gb go k)) (k : Int)) 8))) _ _ _ (by omega) (rfl) (by omega) hP hD hS (lv_sub hl [2, 3, 4, 1, 0] rfl)
  exact loop_a 70 (0) (mkb (fun i => decide (i = fnd (mk0 ps gf go) 8))) _ _ _ (by omega) (rfl) (by omega) hP hD hS (lv_sub hl [2, 3, 4, 1, 0] rfl)
