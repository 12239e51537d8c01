abbrev rmX3_leastAhead : Room := { frames := 4, cells := 0, slots := 0, locals := 87 }
theorem in_X3_leastAhead_X3 : ∀ w ∈ wsX30, w ∈ wsX3_leastAhead := fun _ h => List.mem_cons_of_mem _ (List.mem_append_right _ h)
theorem m_X3_leastAhead_0 : (.fieldLink RX3 30 "BrassWaysModel" "ahead" "[I" : Cond) ∈ wsX3_leastAhead := List.mem_of_getElem? (i := 1) rfl
theorem m_X3_leastAhead_1 : (.fieldLink RX3 7 "BrassWaysModel" "state" "[I" : Cond) ∈ wsX3_leastAhead := List.mem_of_getElem? (i := 2) rfl
set_option maxHeartbeats 4000000 in
set_option maxRecDepth 100000 in
theorem c_X3_leastAhead (l : Launch) (D : va_G) (cI cJ cZ cO : ClassId) (sz : Nat) (h0 : Nat) (a0 : Nat) (a1 : Nat) (a2 : Nat) (a3 : Nat) (a4 : Nat) (a5 : Nat) (a6 : Nat) (σ : Int → Int) (ga : Int → Int) (P : Nat) (q : Int) (w : Int) (hq : q = (P : Int) + 1) (hq9 : q < σ 9) (hw6 : 0 ≤ w ∧ w < 64) (hO : Ok σ) (hA2 : ∀ v : Int, 0 ≤ v → v < 64 → ga (64 * (P : Int) + v) = AH σ P v) : Met l yX3_leastAhead wsX3_leastAhead rmX3_leastAhead (zPc D cI cJ cZ cO [(h0, .inr (3, [.ref a0, .ref a1, .ref a2, .ref a3, .ref a4, .ref a5, .ref a6])), (a0, .inl (cI, 22, .inl (zF (σ)))), (a6, .inl (cI, 768, .inl (zF (ga))))] sz [.ref h0, .int (zI (q)), .int (zI (w))]) (zQi D (fun (r : Int32) (_ : Unit) => r = zI (mbs (fun v => decide (0 ≤ AH σ P v)) (fun v => AH σ P v + flt σ v (σ (10 + (P : Int))) + eff σ v w) (-6) 64)) (fun (_ : Unit) => [(h0, .inr (3, [.ref a0, .ref a1, .ref a2, .ref a3, .ref a4, .ref a5, .ref a6])), (a0, .inl (cI, 22, .inl (zF (σ)))), (a6, .inl (cI, 768, .inl (zF (ga))))]) [(h0, .inr (3, [.ref a0, .ref a1, .ref a2, .ref a3, .ref a4, .ref a5, .ref a6])), (a0, .inl (cI, 22, .inl (zF (σ)))), (a6, .inl (cI, 768, .inl (zF (ga))))] sz) 0 0 (va_A [(h0, .inr (3, [.ref a0, .ref a1, .ref a2, .ref a3, .ref a4, .ref a5, .ref a6])), (a0, .inl (cI, 22, .inl (zF (σ)))), (a6, .inl (cI, 768, .inl (zF (ga))))] sz) := by
  refine z_meti (by decide) rfl (Nat.le_of_ble_eq_true rfl) ?_
  intro p e s m args below meth c A Q ls hx hb hml hown hts hA hS hP hD hK hZ hl hret
  have hl : lv_has ls 7 [(0, .ref h0), (1, .int (zI (q))), (2, .int (zI (w)))] := hl
  have o9 := hO.2.2.2.2.2.2.2.2.2.1
  have hqP : q - 1 = (P : Int) := by omega
  have e10 : 10 + q - 1 = 10 + (P : Int) := by omega
  have o10 := hO.2.2.2.2.2.2.2.2.2.2 (P : Int) (by omega) (by omega)
  refine lv_bipush (v := zI (-6)) hx hb dX3_leastAhead_0 (by decide +kernel) ?_
  refine lv_istore_n (lv' := [(3, .int (zI (-6))), (0, .ref h0), (1, .int (zI (q))), (2, .int (zI (w)))]) hx hb dX3_leastAhead_2 rfl hl (by decide) rfl (fun ls hl => ?_)
  refine lv_iconst (v := zI (0)) hx hb dX3_leastAhead_3 rfl ?_
  refine lv_istore (lv' := [(4, .int (zI (0))), (3, .int (zI (-6))), (0, .ref h0), (1, .int (zI (q))), (2, .int (zI (w)))]) hx hb dX3_leastAhead_4 hl (by decide) rfl (fun ls hl => ?_)
  have loop_a : ∀ (f_a : Nat) (k : Nat) (y : Int) (H : Heap) (locs : List Loc) (ls : Array Slot), (k ≤ 64) → (-6 ≤ y ∧ y ≤ 60000) → (y = mbs (fun v => decide (0 ≤ AH σ P v)) (fun v => AH σ P v + flt σ v (σ (10 + (P : Int))) + eff σ v w) (-6) k) → (64 - (k : Int) < (f_a : Int)) → va_P D vwCl [(h0, .inr (3, [.ref a0, .ref a1, .ref a2, .ref a3, .ref a4, .ref a5, .ref a6])), (a0, .inl (cI, 22, .inl (zF (σ)))), (a6, .inl (cI, 768, .inl (zF (ga))))] H → va_D A [(h0, .inr (3, [.ref a0, .ref a1, .ref a2, .ref a3, .ref a4, .ref a5, .ref a6])), (a0, .inl (cI, 22, .inl (zF (σ)))), (a6, .inl (cI, 768, .inl (zF (ga))))] → va_S A s.heap H locs → lv_has ls 7 [(0, .ref h0), (1, .int (zI (q))), (2, .int (zI (w))), (3, .int (zI (y))), (4, .int (zI ((k : Int))))] → W p l e rmX3_leastAhead s m args below meth c H locs 0 0 Q (F0 m 6 ls []) := by
    intro f_a
    induction f_a with
    | zero =>
      intros
      exfalso; omega
    | succ f_a ih_a =>
      intro k y H locs ls e_k e_b e_y hfu_a hP hD hS hl
      have hAb := AH_in hO P (by omega) (k : Int)
      refine lv_iload hx hb dX3_leastAhead_6 (lv_at hl 4 rfl) ?_
      refine lv_bipush (v := zI (64)) hx hb dX3_leastAhead_8 (by decide +kernel) ?_
      refine z_icmp_ge (a := (k : Int)) (b := 64) (tgt := 86) hx hb (by omega) dX3_leastAhead_10 (by decide) (fun c_10 => ?_) (fun c_10 => ?_)
      · refine lv_iload_n hx hb dX3_leastAhead_86 rfl (lv_at hl 3 rfl) ?_
        exact hret _ _ _ _ _ () dX3_leastAhead_87 (by rw [e_y, show k = 64 by omega]) hP hS
      · have hAb := hAb (by omega)
        have hFb := flt_in hO (w := (k : Int)) (n := σ (10 + (P : Int))) (by omega) o10
        have hE := eff_in hO (a := (k : Int)) (b := w) (by omega) hw6
        refine lv_aload_n hx hb dX3_leastAhead_13 rfl (lv_at hl 0 rfl) ?_
        refine va_get (D := D) (ci := 3) (v := .ref a6) (C := RX3) (T := TX3) (N := 7) hx hb hts in_X3_leastAhead_X3 hown hK hP 0 rfl rfl 6 (by decide) (hts _ m_X3_leastAhead_0) (fun _ h9 => h9) rfl dX3_leastAhead_14 ?_
        refine lv_iload_n hx hb dX3_leastAhead_17 rfl (lv_at hl 1 rfl) ?_
        refine lv_iconst (v := zI (1)) hx hb dX3_leastAhead_18 rfl ?_
        refine z_isub (a := q) (b := 1) hx hb dX3_leastAhead_19 ?_
        refine lv_iload hx hb dX3_leastAhead_20 (lv_at hl 4 rfl) ?_
        refine z_Sir (As := [.int (zI (q - 1)), .int (zI ((k : Int)))]) (rest := [.ref a6]) hx hb hml hown hts hA hS hP hD hK hZ hl.1 (c_X3_at l D cI cJ cZ cO _ (q - 1) ((k : Int)) ) (va_cwS 2 hts gX3_leastAhead_X3_at rfl rfl rfl (by decide +kernel) ⟨Nat.le_of_ble_eq_true rfl, Nat.le_of_ble_eq_true rfl⟩) [] rfl rfl rfl rfl (Nat.le_of_ble_eq_true rfl) ⟨Nat.zero_le _, Nat.zero_le _⟩ dX3_leastAhead_22 (fun r u H locs hw hP hS => ?_)
        subst hw
        refine z_iald (k := 64 * (q - 1) + (k : Int)) (g := ga) hx hb hK hP 2 0 rfl rfl (by omega) dX3_leastAhead_25 ?_
        try dsimp only
        refine z_top (y := zI (AH σ P (k : Int))) (by rw [hqP, hA2 (k : Int) (by omega) (by omega)]) ?_
        refine lv_istore (lv' := [(5, .int (zI (AH σ P (k : Int)))), (0, .ref h0), (1, .int (zI (q))), (2, .int (zI (w))), (3, .int (zI (y))), (4, .int (zI ((k : Int))))]) hx hb dX3_leastAhead_26 hl (by decide) rfl (fun ls hl => ?_)
        refine lv_iload hx hb dX3_leastAhead_28 (lv_at hl 0 rfl) ?_
        refine z_if_lt (a := AH σ P (k : Int)) (tgt := 80) hx hb (by omega) dX3_leastAhead_30 (by decide) (fun c_30 => ?_) (fun c_30 => ?_)
        · refine lv_iinc (v := zI ((k : Int) + 1)) (lv' := [(4, .int (zI ((k : Int) + 1))), (5, .int (zI (AH σ P (k : Int)))), (0, .ref h0), (1, .int (zI (q))), (2, .int (zI (w))), (3, .int (zI (y)))]) hx hb dX3_leastAhead_80 hl (k := 5) rfl (zI_add _ _) (by decide) rfl (fun ls hl => ?_)
          refine lv_goto (tgt := 6) hx hb dX3_leastAhead_83 (by decide) ?_
          exact ih_a (k + 1) (y) _ _ _ (by omega) (by omega) (by rw [mbs_s e_y]; first | (rw [if_neg (by rw [decide_eq_true_eq]; omega)]; done) | (rw [if_pos (decide_eq_true c_30), if_pos (Or.inl c_64)]; done) | (rw [if_pos (decide_eq_true c_30), if_pos (Or.inr c_70)]; done) | (rw [if_pos (decide_eq_true c_30), if_neg (fun h => h.elim (fun g => by omega) (fun g => Int.not_lt.mpr c_70 g))]; done)) (by omega) hP hD hS (lv_sub hl [2, 3, 4, 5, 0] rfl)
        · refine lv_iload hx hb dX3_leastAhead_33 (lv_at hl 0 rfl) ?_
          refine lv_aload_n hx hb dX3_leastAhead_35 rfl (lv_at hl 1 rfl) ?_
          refine lv_iload hx hb dX3_leastAhead_36 (lv_at hl 5 rfl) ?_
          refine lv_aload_n hx hb dX3_leastAhead_38 rfl (lv_at hl 1 rfl) ?_
          refine va_get (D := D) (ci := 3) (v := .ref a0) (C := RX3) (T := TX3) (N := 7) hx hb hts in_X3_leastAhead_X3 hown hK hP 0 rfl rfl 0 (by decide) (hts _ m_X3_leastAhead_1) (fun _ h9 => h9) rfl dX3_leastAhead_39 ?_
          refine lv_bipush (v := zI (10)) hx hb dX3_leastAhead_42 (by decide +kernel) ?_
          refine lv_iload_n hx hb dX3_leastAhead_44 rfl (lv_at hl 2 rfl) ?_
          refine z_iadd (a := 10) (b := q) hx hb dX3_leastAhead_45 ?_
          refine lv_iconst (v := zI (1)) hx hb dX3_leastAhead_46 rfl ?_
          refine z_isub (a := 10 + q) (b := 1) hx hb dX3_leastAhead_47 ?_
          refine z_iald (k := (10 + q) - 1) (g := σ) hx hb hK hP 1 0 rfl rfl (by omega) dX3_leastAhead_48 ?_
          try dsimp only
          refine z_top (y := zI (σ (10 + (P : Int)))) (by rw [e10]) ?_
          refine z_Vir (As := [.int (zI ((k : Int))), .int (zI (σ (10 + (P : Int))))]) (rest := [.int (zI (AH σ P (k : Int)))]) hx hb hml hown hts hA hS hP hD hK hZ hl.1 (c_X3_faultOf l D cI cJ cZ cO _ (h0) (a0) (a1) (a2) (a3) (a4) (a5) (a6) (σ) ((k : Int)) (σ (10 + (P : Int))) (by omega) (by omega) hO) (cwV 2 hts gX3_leastAhead_X3_faultOf rfl rfl rfl (by decide +kernel) ⟨Nat.le_of_ble_eq_true rfl, Nat.le_of_ble_eq_true rfl⟩) [0, 1] rfl rfl 0 3 rfl rfl rfl rfl (Nat.le_of_ble_eq_true rfl) ⟨Nat.zero_le _, Nat.zero_le _⟩ dX3_leastAhead_49 (fun r u H locs hw hP hS => ?_)
          subst hw
          refine z_iadd (a := AH σ P (k : Int)) (b := flt σ (k : Int) (σ (10 + (P : Int)))) hx hb dX3_leastAhead_52 ?_
          refine lv_aload_n hx hb dX3_leastAhead_53 rfl (lv_at hl 1 rfl) ?_
          refine lv_iload hx hb dX3_leastAhead_54 (lv_at hl 5 rfl) ?_
          refine lv_iload_n hx hb dX3_leastAhead_56 rfl (lv_at hl 3 rfl) ?_
          refine z_Vir (As := [.int (zI ((k : Int))), .int (zI (w))]) (rest := [.int (zI ((AH σ P (k : Int)) + (flt σ (k : Int) (σ (10 + (P : Int))))))]) hx hb hml hown hts hA hS hP hD hK hZ hl.1 (c_X3_effortOf l D cI cJ cZ cO _ (h0) (a0) (a1) (a2) (a3) (a4) (a5) (a6) (σ) ((k : Int)) (w) (by omega) hO) (cwV 2 hts gX3_leastAhead_X3_effortOf rfl rfl rfl (by decide +kernel) ⟨Nat.le_of_ble_eq_true rfl, Nat.le_of_ble_eq_true rfl⟩) [0, 1] rfl rfl 0 3 rfl rfl rfl rfl (Nat.le_of_ble_eq_true rfl) ⟨Nat.zero_le _, Nat.zero_le _⟩ dX3_leastAhead_57 (fun r u H locs hw hP hS => ?_)
          subst hw
          refine z_iadd (a := (AH σ P (k : Int)) + (flt σ (k : Int) (σ (10 + (P : Int))))) (b := eff σ (k : Int) w) hx hb dX3_leastAhead_60 ?_
          refine lv_istore (lv' := [(6, .int (zI (((AH σ P (k : Int)) + (flt σ (k : Int) (σ (10 + (P : Int))))) + (eff σ (k : Int) w)))), (5, .int (zI (AH σ P (k : Int)))), (0, .ref h0), (1, .int (zI (q))), (2, .int (zI (w))), (3, .int (zI (y))), (4, .int (zI ((k : Int))))]) hx hb dX3_leastAhead_61 hl (by decide) rfl (fun ls hl => ?_)
          refine lv_iload_n hx hb dX3_leastAhead_63 rfl (lv_at hl 5 rfl) ?_
          refine z_if_lt (a := y) (tgt := 73) hx hb (by omega) dX3_leastAhead_64 (by decide) (fun c_64 => ?_) (fun c_64 => ?_)
          · refine lv_iload hx hb dX3_leastAhead_73 (lv_at hl 0 rfl) ?_
            refine lv_goto (tgt := 79) hx hb dX3_leastAhead_75 (by decide) ?_
            refine lv_istore_n (lv' := [(3, .int (zI (((AH σ P (k : Int)) + (flt σ (k : Int) (σ (10 + (P : Int))))) + (eff σ (k : Int) w)))), (6, .int (zI (((AH σ P (k : Int)) + (flt σ (k : Int) (σ (10 + (P : Int))))) + (eff σ (k : Int) w)))), (5, .int (zI (AH σ P (k : Int)))), (0, .ref h0), (1, .int (zI (q))), (2, .int (zI (w))), (4, .int (zI ((k : Int))))]) hx hb dX3_leastAhead_79 rfl hl (by decide) rfl (fun ls hl => ?_)
            refine lv_iinc (v := zI ((k : Int) + 1)) (lv' := [(4, .int (zI ((k : Int) + 1))), (3, .int (zI (((AH σ P (k : Int)) + (flt σ (k : Int) (σ (10 + (P : Int))))) + (eff σ (k : Int) w)))), (6, .int (zI (((AH σ P (k : Int)) + (flt σ (k : Int) (σ (10 + (P : Int))))) + (eff σ (k : Int) w)))), (5, .int (zI (AH σ P (k : Int)))), (0, .ref h0), (1, .int (zI (q))), (2, .int (zI (w)))]) hx hb dX3_leastAhead_80 hl (k := 6) rfl (zI_add _ _) (by decide) rfl (fun ls hl => ?_)
            refine lv_goto (tgt := 6) hx hb dX3_leastAhead_83 (by decide) ?_
            exact ih_a (k + 1) (((AH σ P (k : Int)) + (flt σ (k : Int) (σ (10 + (P : Int))))) + (eff σ (k : Int) w)) _ _ _ (by omega) (by omega) (by rw [mbs_s e_y]; first | (rw [if_neg (by rw [decide_eq_true_eq]; omega)]; done) | (rw [if_pos (decide_eq_true c_30), if_pos (Or.inl c_64)]; done) | (rw [if_pos (decide_eq_true c_30), if_pos (Or.inr c_70)]; done) | (rw [if_pos (decide_eq_true c_30), if_neg (fun h => h.elim (fun g => by omega) (fun g => Int.not_lt.mpr c_70 g))]; done)) (by omega) hP hD hS (lv_sub hl [4, 5, 6, 1, 0] rfl)
          · refine lv_iload hx hb dX3_leastAhead_67 (lv_at hl 0 rfl) ?_
            refine lv_iload_n hx hb dX3_leastAhead_69 rfl (lv_at hl 5 rfl) ?_
            refine z_icmp_ge (a := ((AH σ P (k : Int)) + (flt σ (k : Int) (σ (10 + (P : Int))))) + (eff σ (k : Int) w)) (b := y) (tgt := 78) hx hb (by omega) dX3_leastAhead_70 (by decide) (fun c_70 => ?_) (fun c_70 => ?_)
            · refine lv_iload_n hx hb dX3_leastAhead_78 rfl (lv_at hl 5 rfl) ?_
              refine lv_istore_n (lv' := [(3, .int (zI (y))), (6, .int (zI (((AH σ P (k : Int)) + (flt σ (k : Int) (σ (10 + (P : Int))))) + (eff σ (k : Int) w)))), (5, .int (zI (AH σ P (k : Int)))), (0, .ref h0), (1, .int (zI (q))), (2, .int (zI (w))), (4, .int (zI ((k : Int))))]) hx hb dX3_leastAhead_79 rfl hl (by decide) rfl (fun ls hl => ?_)
              refine lv_iinc (v := zI ((k : Int) + 1)) (lv' := [(4, .int (zI ((k : Int) + 1))), (3, .int (zI (y))), (6, .int (zI (((AH σ P (k : Int)) + (flt σ (k : Int) (σ (10 + (P : Int))))) + (eff σ (k : Int) w)))), (5, .int (zI (AH σ P (k : Int)))), (0, .ref h0), (1, .int (zI (q))), (2, .int (zI (w)))]) hx hb dX3_leastAhead_80 hl (k := 6) rfl (zI_add _ _) (by decide) rfl (fun ls hl => ?_)
              refine lv_goto (tgt := 6) hx hb dX3_leastAhead_83 (by decide) ?_
              exact ih_a (k + 1) (y) _ _ _ (by omega) (by omega) (by rw [mbs_s e_y]; first | (rw [if_neg (by rw [decide_eq_true_eq]; omega)]; done) | (rw [if_pos (decide_eq_true c_30), if_pos (Or.inl c_64)]; done) | (rw [if_pos (decide_eq_true c_30), if_pos (Or.inr c_70)]; done) | (rw [if_pos (decide_eq_true c_30), if_neg (fun h => h.elim (fun g => by omega) (fun g => Int.not_lt.mpr c_70 g))]; done)) (by omega) hP hD hS (lv_sub hl [4, 5, 6, 1, 0] rfl)
            · refine lv_iload hx hb dX3_leastAhead_73 (lv_at hl 0 rfl) ?_
              refine lv_goto (tgt := 79) hx hb dX3_leastAhead_75 (by decide) ?_
              refine lv_istore_n (lv' := [(3, .int (zI (((AH σ P (k : Int)) + (flt σ (k : Int) (σ (10 + (P : Int))))) + (eff σ (k : Int) w)))), (6, .int (zI (((AH σ P (k : Int)) + (flt σ (k : Int) (σ (10 + (P : Int))))) + (eff σ (k : Int) w)))), (5, .int (zI (AH σ P (k : Int)))), (0, .ref h0), (1, .int (zI (q))), (2, .int (zI (w))), (4, .int (zI ((k : Int))))]) hx hb dX3_leastAhead_79 rfl hl (by decide) rfl (fun ls hl => ?_)
              refine lv_iinc (v := zI ((k : Int) + 1)) (lv' := [(4, .int (zI ((k : Int) + 1))), (3, .int (zI (((AH σ P (k : Int)) + (flt σ (k : Int) (σ (10 + (P : Int))))) + (eff σ (k : Int) w)))), (6, .int (zI (((AH σ P (k : Int)) + (flt σ (k : Int) (σ (10 + (P : Int))))) + (eff σ (k : Int) w)))), (5, .int (zI (AH σ P (k : Int)))), (0, .ref h0), (1, .int (zI (q))), (2, .int (zI (w)))]) hx hb dX3_leastAhead_80 hl (k := 6) rfl (zI_add _ _) (by decide) rfl (fun ls hl => ?_)
              refine lv_goto (tgt := 6) hx hb dX3_leastAhead_83 (by decide) ?_
              exact ih_a (k + 1) (((AH σ P (k : Int)) + (flt σ (k : Int) (σ (10 + (P : Int))))) + (eff σ (k : Int) w)) _ _ _ (by omega) (by omega) (by rw [mbs_s e_y]; first | (rw [if_neg (by rw [decide_eq_true_eq]; omega)]; done) | (rw [if_pos (decide_eq_true c_30), if_pos (Or.inl c_64)]; done) | (rw [if_pos (decide_eq_true c_30), if_pos (Or.inr c_70)]; done) | (rw [if_pos (decide_eq_true c_30), if_neg (fun h => h.elim (fun g => by omega) (fun g => Int.not_lt.mpr c_70 g))]; done)) (by omega) hP hD hS (lv_sub hl [4, 5, 6, 1, 0] rfl)
  exact loop_a 70 (0) (-6) _ _ _ (by omega) (by omega) (rfl) (by omega) hP hD hS (lv_sub hl [2, 3, 4, 1, 0] rfl)
abbrev rmX3_layAhead : Room := { frames := 5, cells := 0, slots := 0, locals := 113 }
theorem in_X3_layAhead_X3 : ∀ w ∈ wsX30, w ∈ wsX3_layAhead := fun _ h => List.mem_cons_of_mem _ (List.mem_append_right _ h)
theorem m_X3_layAhead_0 : (.fieldLink RX3 7 "BrassWaysModel" "state" "[I" : Cond) ∈ wsX3_layAhead := List.mem_of_getElem? (i := 1) rfl
theorem m_X3_layAhead_1 : (.fieldLink RX3 30 "BrassWaysModel" "ahead" "[I" : Cond) ∈ wsX3_layAhead := List.mem_of_getElem? (i := 2) rfl
set_option maxHeartbeats 4000000 in
set_option maxRecDepth 100000 in
theorem c_X3_layAhead (l : Launch) (D : va_G) (cI cJ cZ cO : ClassId) (sz : Nat) (h0 : Nat) (a0 : Nat) (a1 : Nat) (a2 : Nat) (a3 : Nat) (a4 : Nat) (a5 : Nat) (a6 : Nat) (σ : Int → Int) (ga : Int → Int) (hO : Ok σ) : Met l yX3_layAhead wsX3_layAhead rmX3_layAhead (zPc D cI cJ cZ cO [(h0, .inr (3, [.ref a0, .ref a1, .ref a2, .ref a3, .ref a4, .ref a5, .ref a6])), (a0, .inl (cI, 22, .inl (zF (σ)))), (a6, .inl (cI, 768, .inl (zF (ga))))] sz [.ref h0]) (zQv D (fun (u : Int → Int) => ∀ i : Nat, (i : Int) < σ 9 → ∀ v : Int, 0 ≤ v → v < 64 → u (64 * (i : Int) + v) = AH σ i v) (fun (u : Int → Int) => [(h0, .inr (3, [.ref a0, .ref a1, .ref a2, .ref a3, .ref a4, .ref a5, .ref a6])), (a0, .inl (cI, 22, .inl (zF (σ)))), (a6, .inl (cI, 768, .inl (zF (u))))]) [(h0, .inr (3, [.ref a0, .ref a1, .ref a2, .ref a3, .ref a4, .ref a5, .ref a6])), (a0, .inl (cI, 22, .inl (zF (σ)))), (a6, .inl (cI, 768, .inl (zF (ga))))] sz) 0 0 (va_A [(h0, .inr (3, [.ref a0, .ref a1, .ref a2, .ref a3, .ref a4, .ref a5, .ref a6])), (a0, .inl (cI, 22, .inl (zF (σ)))), (a6, .inl (cI, 768, .inl (zF (ga))))] sz) := by
  refine z_metv (by decide) rfl (Nat.le_of_ble_eq_true rfl) ?_
  intro p e s m args below meth c A Q ls hx hb hml hown hts hA hS hP hD hK hZ hl hret
  have hl : lv_has ls 3 [(0, .ref h0)] := hl
  have o9 := hO.2.2.2.2.2.2.2.2.2.1
  refine lv_iconst (v := zI (0)) hx hb dX3_layAhead_0 rfl ?_
  refine lv_istore_n (lv' := [(1, .int (zI (0))), (0, .ref h0)]) hx hb dX3_layAhead_1 rfl hl (by decide) rfl (fun ls hl => ?_)
  have loop_a : ∀ (f_a : Nat) (P : Nat) (r1 : Int → Int) (H : Heap) (locs : List Loc) (ls : Array Slot), ((P : Int) ≤ σ 9) → (∀ i : Nat, i < P → ∀ v : Int, 0 ≤ v → v < 64 → r1 (64 * (i : Int) + v) = AH σ i v) → (12 - (P : Int) < (f_a : Int)) → va_P D vwCl [(h0, .inr (3, [.ref a0, .ref a1, .ref a2, .ref a3, .ref a4, .ref a5, .ref a6])), (a0, .inl (cI, 22, .inl (zF (σ)))), (a6, .inl (cI, 768, .inl (zF (r1))))] H → va_D A [(h0, .inr (3, [.ref a0, .ref a1, .ref a2, .ref a3, .ref a4, .ref a5, .ref a6])), (a0, .inl (cI, 22, .inl (zF (σ)))), (a6, .inl (cI, 768, .inl (zF (r1))))] → va_S A s.heap H locs → lv_has ls 3 [(0, .ref h0), (1, .int (zI ((P : Int))))] → W p l e rmX3_layAhead s m args below meth c H locs 0 0 Q (F0 m 2 ls []) := by
    intro f_a
    induction f_a with
    | zero =>
      intros
      exfalso; omega
    | succ f_a ih_a =>
      intro P r1 H locs ls e_P e_L hfu_a hP hD hS hl
      refine lv_iload_n hx hb dX3_layAhead_2 rfl (lv_at hl 1 rfl) ?_
      refine lv_aload_n hx hb dX3_layAhead_3 rfl (lv_at hl 0 rfl) ?_
      refine va_get (D := D) (ci := 3) (v := .ref a0) (C := RX3) (T := TX3) (N := 7) hx hb hts in_X3_layAhead_X3 hown hK hP 0 rfl rfl 0 (by decide) (hts _ m_X3_layAhead_0) (fun _ h9 => h9) rfl dX3_layAhead_4 ?_
      refine lv_bipush (v := zI (9)) hx hb dX3_layAhead_7 (by decide +kernel) ?_
      refine z_iald (k := 9) (g := σ) hx hb hK hP 1 0 rfl rfl (by omega) dX3_layAhead_9 ?_
      try dsimp only
      refine z_icmp_ge (a := (P : Int)) (b := σ 9) (tgt := 71) hx hb (by omega) dX3_layAhead_10 (by decide) (fun c_10 => ?_) (fun c_10 => ?_)
      · exact hret _ _ _ _ r1 dX3_layAhead_71 (fun i hi => e_L i (by omega)) hP hS
      · refine lv_iconst (v := zI (0)) hx hb dX3_layAhead_13 rfl ?_
        refine lv_istore_n (lv' := [(2, .int (zI (0))), (0, .ref h0), (1, .int (zI ((P : Int))))]) hx hb dX3_layAhead_14 rfl hl (by decide) rfl (fun ls hl => ?_)
        have loop_b : ∀ (f_b : Nat) (k : Nat) (r2 : Int → Int) (H : Heap) (locs : List Loc) (ls : Array Slot), (k ≤ 64) → (∀ i : Nat, i < P → ∀ v : Int, 0 ≤ v → v < 64 → r2 (64 * (i : Int) + v) = AH σ i v) → (∀ v : Int, 0 ≤ v → v < (k : Int) → r2 (64 * (P : Int) + v) = AH σ P v) → (64 - (k : Int) < (f_b : Int)) → va_P D vwCl [(h0, .inr (3, [.ref a0, .ref a1, .ref a2, .ref a3, .ref a4, .ref a5, .ref a6])), (a0, .inl (cI, 22, .inl (zF (σ)))), (a6, .inl (cI, 768, .inl (zF (r2))))] H → va_D A [(h0, .inr (3, [.ref a0, .ref a1, .ref a2, .ref a3, .ref a4, .ref a5, .ref a6])), (a0, .inl (cI, 22, .inl (zF (σ)))), (a6, .inl (cI, 768, .inl (zF (r2))))] → va_S A s.heap H locs → lv_has ls 3 [(0, .ref h0), (1, .int (zI ((P : Int)))), (2, .int (zI ((k : Int))))] → W p l e rmX3_layAhead s m args below meth c H locs 0 0 Q (F0 m 15 ls []) := by
          intro f_b
          induction f_b with
          | zero =>
            intros
            exfalso; omega
          | succ f_b ih_b =>
            intro k r2 H locs ls e_k e_M e_N hfu_b hP hD hS hl
            refine lv_iload_n hx hb dX3_layAhead_15 rfl (lv_at hl 2 rfl) ?_
            refine lv_bipush (v := zI (64)) hx hb dX3_layAhead_16 (by decide +kernel) ?_
            refine z_icmp_ge (a := (k : Int)) (b := 64) (tgt := 65) hx hb (by omega) dX3_layAhead_18 (by decide) (fun c_18 => ?_) (fun c_18 => ?_)
            · refine lv_iinc (v := zI ((P : Int) + 1)) (lv' := [(1, .int (zI ((P : Int) + 1))), (0, .ref h0), (2, .int (zI ((k : Int))))]) hx hb dX3_layAhead_65 hl (k := 1) rfl (zI_add _ _) (by decide) rfl (fun ls hl => ?_)
              refine lv_goto (tgt := 2) hx hb dX3_layAhead_68 (by decide) ?_
              exact ih_a (P + 1) (r2) _ _ _ (by omega) (fun i hi v h1 h2 => if hij : i = P then by rw [hij]; exact e_N v h1 (by omega) else e_M i (by omega) v h1 h2) (by omega) hP hD hS (lv_sub hl [1, 0] rfl)
            · refine lv_aload_n hx hb dX3_layAhead_21 rfl (lv_at hl 0 rfl) ?_
              refine va_get (D := D) (ci := 3) (v := .ref a6) (C := RX3) (T := TX3) (N := 7) hx hb hts in_X3_layAhead_X3 hown hK hP 0 rfl rfl 6 (by decide) (hts _ m_X3_layAhead_1) (fun _ h9 => h9) rfl dX3_layAhead_22 ?_
              refine lv_iload_n hx hb dX3_layAhead_25 rfl (lv_at hl 1 rfl) ?_
              refine lv_iload_n hx hb dX3_layAhead_26 rfl (lv_at hl 2 rfl) ?_
              refine z_Sir (As := [.int (zI ((P : Int))), .int (zI ((k : Int)))]) (rest := [.ref a6]) hx hb hml hown hts hA hS hP hD hK hZ hl.1 (c_X3_at l D cI cJ cZ cO _ ((P : Int)) ((k : Int)) ) (va_cwS 2 hts gX3_layAhead_X3_at rfl rfl rfl (by decide +kernel) ⟨Nat.le_of_ble_eq_true rfl, Nat.le_of_ble_eq_true rfl⟩) [] rfl rfl rfl rfl (Nat.le_of_ble_eq_true rfl) ⟨Nat.zero_le _, Nat.zero_le _⟩ dX3_layAhead_27 (fun r u H locs hw hP hS => ?_)
              subst hw
              refine lv_aload_n hx hb dX3_layAhead_30 rfl (lv_at hl 0 rfl) ?_
              refine lv_iload_n hx hb dX3_layAhead_31 rfl (lv_at hl 1 rfl) ?_
              refine lv_iload_n hx hb dX3_layAhead_32 rfl (lv_at hl 2 rfl) ?_
              refine z_Vir (As := [.int (zI ((P : Int))), .int (zI ((k : Int)))]) (rest := [.int (zI (64 * (P : Int) + (k : Int))), .ref a6]) hx hb hml hown hts hA hS hP hD hK hZ hl.1 (c_X3_isAt l D cI cJ cZ cO _ (h0) (a0) (a1) (a2) (a3) (a4) (a5) (a6) (σ) ((P : Int)) ((k : Int)) (by omega) (by omega) hO) (cwV 2 hts gX3_layAhead_X3_isAt rfl rfl rfl (by decide +kernel) ⟨Nat.le_of_ble_eq_true rfl, Nat.le_of_ble_eq_true rfl⟩) [0, 1] rfl rfl 0 3 rfl rfl rfl rfl (Nat.le_of_ble_eq_true rfl) ⟨Nat.zero_le _, Nat.zero_le _⟩ dX3_layAhead_33 (fun r u H locs hw hP hS => ?_)
              subst hw
              refine z_ifB_ne (P := sd σ (k : Int) (σ (10 + (P : Int))) = true) (tgt := 44) hx hb dX3_layAhead_36 (by decide) (fun c_36 => ?_) (fun c_36 => ?_)
              · refine lv_iload_n hx hb dX3_layAhead_44 rfl (lv_at hl 1 rfl) ?_
                refine z_if_ne (a := (P : Int)) (tgt := 52) hx hb (by omega) dX3_layAhead_45 (by decide) (fun c_45 => ?_) (fun c_45 => ?_)
                · obtain ⟨P2, hPs⟩ : ∃ P2 : Nat, P = P2 + 1 := ⟨P - 1, by omega⟩
                  refine lv_aload_n hx hb dX3_layAhead_52 rfl (lv_at hl 0 rfl) ?_
                  refine lv_iload_n hx hb dX3_layAhead_53 rfl (lv_at hl 1 rfl) ?_
                  refine lv_iload_n hx hb dX3_layAhead_54 rfl (lv_at hl 2 rfl) ?_
                  refine z_Vir (As := [.int (zI ((P : Int))), .int (zI ((k : Int)))]) (rest := [.int (zI (64 * (P : Int) + (k : Int))), .ref a6]) hx hb hml hown hts hA hS hP hD hK hZ hl.1 (c_X3_leastAhead l D cI cJ cZ cO _ (h0) (a0) (a1) (a2) (a3) (a4) (a5) (a6) (σ) (r2) (P2) ((P : Int)) ((k : Int)) (by omega) (by omega) (by omega) hO (fun v h1 h2 => e_M P2 (by omega) v h1 h2)) (cwV 2 hts gX3_layAhead_X3_leastAhead rfl rfl rfl (by decide +kernel) ⟨Nat.le_of_ble_eq_true rfl, Nat.le_of_ble_eq_true rfl⟩) [0, 1, 2] rfl rfl 0 3 rfl rfl rfl rfl (Nat.le_of_ble_eq_true rfl) ⟨Nat.zero_le _, Nat.zero_le _⟩ dX3_layAhead_55 (fun r u H locs hw hP hS => ?_)
                  subst hw
                  refine z_iast (k := 64 * (P : Int) + (k : Int)) (x := mbs (fun v => decide (0 ≤ AH σ P2 v)) (fun v => AH σ P2 v + flt σ v (σ (10 + (P2 : Int))) + eff σ v (k : Int)) (-6) 64) (g := r2) hx hb hK hP hD hS 2 0 rfl rfl (by omega) dX3_layAhead_58 (fun H locs hP hD hS => ?_)
                  have hP : va_P D vwCl [(h0, .inr (3, [.ref a0, .ref a1, .ref a2, .ref a3, .ref a4, .ref a5, .ref a6])), (a0, .inl (cI, 22, .inl (zF (σ)))), (a6, .inl (cI, 768, .inl (zF (upI r2 (64 * (P : Int) + (k : Int)) (mbs (fun v => decide (0 ≤ AH σ P2 v)) (fun v => AH σ P2 v + flt σ v (σ (10 + (P2 : Int))) + eff σ v (k : Int)) (-6) 64)))))] H := hP
                  have hD : va_D A [(h0, .inr (3, [.ref a0, .ref a1, .ref a2, .ref a3, .ref a4, .ref a5, .ref a6])), (a0, .inl (cI, 22, .inl (zF (σ)))), (a6, .inl (cI, 768, .inl (zF (upI r2 (64 * (P : Int) + (k : Int)) (mbs (fun v => decide (0 ≤ AH σ P2 v)) (fun v => AH σ P2 v + flt σ v (σ (10 + (P2 : Int))) + eff σ v (k : Int)) (-6) 64)))))] := hD
                  refine lv_iinc (v := zI ((k : Int) + 1)) (lv' := [(2, .int (zI ((k : Int) + 1))), (0, .ref h0), (1, .int (zI ((P : Int))))]) hx hb dX3_layAhead_59 hl (k := 2) rfl (zI_add _ _) (by decide) rfl (fun ls hl => ?_)
                  refine lv_goto (tgt := 15) hx hb dX3_layAhead_62 (by decide) ?_
                  exact ih_b (k + 1) (upI r2 (64 * (P : Int) + (k : Int)) (mbs (fun v => decide (0 ≤ AH σ P2 v)) (fun v => AH σ P2 v + flt σ v (σ (10 + (P2 : Int))) + eff σ v (k : Int)) (-6) 64)) _ _ _ (by omega) (fun i hi v h1 h2 => (upI_n (by omega)).trans (e_M i hi v h1 h2)) (fun v h1 h2 => if hv : v = (k : Int) then by rw [hv, upI_s]; exact (by subst hPs; exact (AH_sy c_36).symm) else (upI_n (by omega)).trans (e_N v h1 (by omega))) (by omega) hP hD hS (lv_sub hl [1, 2, 0] rfl)
                · have hP0 : P = 0 := by omega
                  refine lv_iconst (v := zI (0)) hx hb dX3_layAhead_48 rfl ?_
                  refine lv_goto (tgt := 58) hx hb dX3_layAhead_49 (by decide) ?_
                  refine z_iast (k := 64 * (P : Int) + (k : Int)) (x := 0) (g := r2) hx hb hK hP hD hS 2 0 rfl rfl (by omega) dX3_layAhead_58 (fun H locs hP hD hS => ?_)
                  have hP : va_P D vwCl [(h0, .inr (3, [.ref a0, .ref a1, .ref a2, .ref a3, .ref a4, .ref a5, .ref a6])), (a0, .inl (cI, 22, .inl (zF (σ)))), (a6, .inl (cI, 768, .inl (zF (upI r2 (64 * (P : Int) + (k : Int)) 0))))] H := hP
                  have hD : va_D A [(h0, .inr (3, [.ref a0, .ref a1, .ref a2, .ref a3, .ref a4, .ref a5, .ref a6])), (a0, .inl (cI, 22, .inl (zF (σ)))), (a6, .inl (cI, 768, .inl (zF (upI r2 (64 * (P : Int) + (k : Int)) 0))))] := hD
                  refine lv_iinc (v := zI ((k : Int) + 1)) (lv' := [(2, .int (zI ((k : Int) + 1))), (0, .ref h0), (1, .int (zI ((P : Int))))]) hx hb dX3_layAhead_59 hl (k := 2) rfl (zI_add _ _) (by decide) rfl (fun ls hl => ?_)
                  refine lv_goto (tgt := 15) hx hb dX3_layAhead_62 (by decide) ?_
                  exact ih_b (k + 1) (upI r2 (64 * (P : Int) + (k : Int)) 0) _ _ _ (by omega) (fun i hi v h1 h2 => (upI_n (by omega)).trans (e_M i hi v h1 h2)) (fun v h1 h2 => if hv : v = (k : Int) then by rw [hv, upI_s]; exact (by subst hP0; exact (AH_0y c_36).symm) else (upI_n (by omega)).trans (e_N v h1 (by omega))) (by omega) hP hD hS (lv_sub hl [1, 2, 0] rfl)
              · refine lv_bipush (v := zI (-6)) hx hb dX3_layAhead_39 (by decide +kernel) ?_
                refine lv_goto (tgt := 58) hx hb dX3_layAhead_41 (by decide) ?_
                refine z_iast (k := 64 * (P : Int) + (k : Int)) (x := -6) (g := r2) hx hb hK hP hD hS 2 0 rfl rfl (by omega) dX3_layAhead_58 (fun H locs hP hD hS => ?_)
                have hP : va_P D vwCl [(h0, .inr (3, [.ref a0, .ref a1, .ref a2, .ref a3, .ref a4, .ref a5, .ref a6])), (a0, .inl (cI, 22, .inl (zF (σ)))), (a6, .inl (cI, 768, .inl (zF (upI r2 (64 * (P : Int) + (k : Int)) (-6)))))] H := hP
                have hD : va_D A [(h0, .inr (3, [.ref a0, .ref a1, .ref a2, .ref a3, .ref a4, .ref a5, .ref a6])), (a0, .inl (cI, 22, .inl (zF (σ)))), (a6, .inl (cI, 768, .inl (zF (upI r2 (64 * (P : Int) + (k : Int)) (-6)))))] := hD
                refine lv_iinc (v := zI ((k : Int) + 1)) (lv' := [(2, .int (zI ((k : Int) + 1))), (0, .ref h0), (1, .int (zI ((P : Int))))]) hx hb dX3_layAhead_59 hl (k := 2) rfl (zI_add _ _) (by decide) rfl (fun ls hl => ?_)
                refine lv_goto (tgt := 15) hx hb dX3_layAhead_62 (by decide) ?_
                exact ih_b (k + 1) (upI r2 (64 * (P : Int) + (k : Int)) (-6)) _ _ _ (by omega) (fun i hi v h1 h2 => (upI_n (by omega)).trans (e_M i hi v h1 h2)) (fun v h1 h2 => if hv : v = (k : Int) then by rw [hv, upI_s]; exact (AH_n c_36).symm else (upI_n (by omega)).trans (e_N v h1 (by omega))) (by omega) hP hD hS (lv_sub hl [1, 2, 0] rfl)
        exact loop_b 70 (0) (r1) _ _ _ (by omega) (e_L) (fun v h1 h2 => by omega) (by omega) hP hD hS (lv_sub hl [1, 2, 0] rfl)
  exact loop_a 70 (0) (ga) _ _ _ (by omega) (fun i h => absurd h (by omega)) (by omega) hP hD hS (lv_sub hl [1, 0] rfl)
abbrev rmX3_leastAt : Room := { frames := 1, cells := 0, slots := 0, locals := 21 }
theorem in_X3_leastAt_X3 : ∀ w ∈ wsX30, w ∈ wsX3_leastAt := fun _ h => List.mem_cons_of_mem _ (List.mem_append_right _ h)
theorem m_X3_leastAt_0 : (.fieldLink RX3 30 "BrassWaysModel" "ahead" "[I" : Cond) ∈ wsX3_leastAt := List.mem_of_getElem? (i := 1) rfl
theorem m_X3_leastAt_1 : (.fieldLink RX3 23 "BrassWaysModel" "ways" "[J" : Cond) ∈ wsX3_leastAt := List.mem_of_getElem? (i := 2) rfl
theorem m_X3_leastAt_2 : (.fieldLink RX3 20 "BrassWaysModel" "rest" "[I" : Cond) ∈ wsX3_leastAt := List.mem_of_getElem? (i := 3) rfl
set_option maxHeartbeats 4000000 in
set_option maxRecDepth 100000 in
theorem c_X3_leastAt (l : Launch) (D : va_G) (cI cJ cZ cO : ClassId) (sz : Nat) (h0 : Nat) (a0 : Nat) (a1 : Nat) (a2 : Nat) (a3 : Nat) (a4 : Nat) (a5 : Nat) (a6 : Nat) (σ : Int → Int) (gr : Int → Int) (gw : Int → Int64) (gl : Int → Int64) (ga : Int → Int) (P : Nat) (q : Int) (d : Int) (hq : q = (P : Int)) (hq9 : q < σ 9) (hd : -2147483648 ≤ d ∧ d < 2147483648) (hO : Ok σ) (hA2 : ∀ v : Int, 0 ≤ v → v < 64 → ga (64 * (P : Int) + v) = AH σ P v) (hL : LAY σ gr gw gl (jP σ P)) : Met l yX3_leastAt wsX3_leastAt rmX3_leastAt (zPc D cI cJ cZ cO [(h0, .inr (3, [.ref a0, .ref a1, .ref a2, .ref a3, .ref a4, .ref a5, .ref a6])), (a3, .inl (cI, 768, .inl (zF (gr)))), (a4, .inl (cJ, 768, .inr (.inl (zL (gw))))), (a6, .inl (cI, 768, .inl (zF (ga))))] sz [.ref h0, .int (zI (q)), .int (zI (d))]) (zQi D (fun (r : Int32) (_ : Unit) => r = zI (cntAt σ P d)) (fun (_ : Unit) => [(h0, .inr (3, [.ref a0, .ref a1, .ref a2, .ref a3, .ref a4, .ref a5, .ref a6])), (a3, .inl (cI, 768, .inl (zF (gr)))), (a4, .inl (cJ, 768, .inr (.inl (zL (gw))))), (a6, .inl (cI, 768, .inl (zF (ga))))]) [(h0, .inr (3, [.ref a0, .ref a1, .ref a2, .ref a3, .ref a4, .ref a5, .ref a6])), (a3, .inl (cI, 768, .inl (zF (gr)))), (a4, .inl (cJ, 768, .inr (.inl (zL (gw))))), (a6, .inl (cI, 768, .inl (zF (ga))))] sz) 0 0 (va_A [(h0, .inr (3, [.ref a0, .ref a1, .ref a2, .ref a3, .ref a4, .ref a5, .ref a6])), (a3, .inl (cI, 768, .inl (zF (gr)))), (a4, .inl (cJ, 768, .inr (.inl (zL (gw))))), (a6, .inl (cI, 768, .inl (zF (ga))))] sz) := by
  refine z_meti (by decide) rfl (Nat.le_of_ble_eq_true rfl) ?_
  intro p e s m args below meth c A Q ls hx hb hml hown hts hA hS hP hD hK hZ hl hret
  have hl : lv_has ls 6 [(0, .ref h0), (1, .int (zI (q))), (2, .int (zI (d)))] := hl
  have o9 := hO.2.2.2.2.2.2.2.2.2.1
  have hjp : ((jP σ P : Nat) : Int) = σ 9 - 1 - q := by unfold jP; omega
  have hLL : ∀ v : Int, 0 ≤ v → v < 64 → gw (64 * q + v) = lW (WW σ (jP σ P) v) ∧ (sd σ v (ntj σ (jP σ P)) = true → gr (64 * q + v) = RR σ (jP σ P) v ∧ gl (64 * q + v) = TT σ (jP σ P) v) := by intro v h1 h2; have h := hL v h1 h2; rw [hjp, show σ 9 - 1 - (σ 9 - 1 - q) = q by omega] at h; exact h
  rw [← hq] at hA2
  refine lv_iconst (v := zI (0)) hx hb dX3_leastAt_0 rfl ?_
  refine lv_istore_n (lv' := [(3, .int (zI (0))), (0, .ref h0), (1, .int (zI (q))), (2, .int (zI (d)))]) hx hb dX3_leastAt_1 rfl hl (by decide) rfl (fun ls hl => ?_)
  refine lv_iconst (v := zI (0)) hx hb dX3_leastAt_2 rfl ?_
  refine lv_istore (lv' := [(4, .int (zI (0))), (3, .int (zI (0))), (0, .ref h0), (1, .int (zI (q))), (2, .int (zI (d)))]) hx hb dX3_leastAt_3 hl (by decide) rfl (fun ls hl => ?_)
  have loop_a : ∀ (f_a : Nat) (k : Nat) (x : Int) (H : Heap) (locs : List Loc) (ls : Array Slot), (k ≤ 64) → (x = cnt (fun v => decide (0 ≤ AH σ P v) && (decide (0 < WW σ (jP σ P) v) && decide (AH σ P v + RR σ (jP σ P) v = d))) k) → (64 - (k : Int) < (f_a : Int)) → va_P D vwCl [(h0, .inr (3, [.ref a0, .ref a1, .ref a2, .ref a3, .ref a4, .ref a5, .ref a6])), (a3, .inl (cI, 768, .inl (zF (gr)))), (a4, .inl (cJ, 768, .inr (.inl (zL (gw))))), (a6, .inl (cI, 768, .inl (zF (ga))))] H → va_D A [(h0, .inr (3, [.ref a0, .ref a1, .ref a2, .ref a3, .ref a4, .ref a5, .ref a6])), (a3, .inl (cI, 768, .inl (zF (gr)))), (a4, .inl (cJ, 768, .inr (.inl (zL (gw))))), (a6, .inl (cI, 768, .inl (zF (ga))))] → va_S A s.heap H locs → lv_has ls 6 [(0, .ref h0), (1, .int (zI (q))), (2, .int (zI (d))), (3, .int (zI (x))), (4, .int (zI ((k : Int))))] → W p l e rmX3_leastAt s m args below meth c H locs 0 0 Q (F0 m 5 ls []) := by
    intro f_a
    induction f_a with
    | zero =>
      intros
      exfalso; omega
    | succ f_a ih_a =>
      intro k x H locs ls e_k e_x hfu_a hP hD hS hl
      have hAb := AH_in hO P (by omega) (k : Int)
      have hWb := WW_in hO (j := jP σ P) (by omega) (k : Int)
      refine lv_iload hx hb dX3_leastAt_5 (lv_at hl 4 rfl) ?_
      refine lv_bipush (v := zI (64)) hx hb dX3_leastAt_7 (by decide +kernel) ?_
      refine z_icmp_ge (a := (k : Int)) (b := 64) (tgt := 75) hx hb (by omega) dX3_leastAt_9 (by decide) (fun c_9 => ?_) (fun c_9 => ?_)
      · refine lv_iload_n hx hb dX3_leastAt_75 rfl (lv_at hl 3 rfl) ?_
        exact hret _ _ _ _ _ () dX3_leastAt_76 (by unfold cntAt; rw [e_x, show k = 64 by omega]) hP hS
      · have hAb := hAb (by omega)
        refine lv_iload_n hx hb dX3_leastAt_12 rfl (lv_at hl 1 rfl) ?_
        refine lv_iload hx hb dX3_leastAt_13 (lv_at hl 4 rfl) ?_
        refine z_Sir (As := [.int (zI (q)), .int (zI ((k : Int)))]) (rest := []) hx hb hml hown hts hA hS hP hD hK hZ hl.1 (c_X3_at l D cI cJ cZ cO _ (q) ((k : Int)) ) (va_cwS 2 hts gX3_leastAt_X3_at rfl rfl rfl (by decide +kernel) ⟨Nat.le_of_ble_eq_true rfl, Nat.le_of_ble_eq_true rfl⟩) [] rfl rfl rfl rfl (Nat.le_of_ble_eq_true rfl) ⟨Nat.zero_le _, Nat.zero_le _⟩ dX3_leastAt_15 (fun r u H locs hw hP hS => ?_)
        subst hw
        refine lv_istore (lv' := [(5, .int (zI (64 * q + (k : Int)))), (0, .ref h0), (1, .int (zI (q))), (2, .int (zI (d))), (3, .int (zI (x))), (4, .int (zI ((k : Int))))]) hx hb dX3_leastAt_18 hl (by decide) rfl (fun ls hl => ?_)
        refine lv_iload_n hx hb dX3_leastAt_20 rfl (lv_at hl 4 rfl) ?_
        refine lv_aload_n hx hb dX3_leastAt_21 rfl (lv_at hl 1 rfl) ?_
        refine va_get (D := D) (ci := 3) (v := .ref a6) (C := RX3) (T := TX3) (N := 7) hx hb hts in_X3_leastAt_X3 hown hK hP 0 rfl rfl 6 (by decide) (hts _ m_X3_leastAt_0) (fun _ h9 => h9) rfl dX3_leastAt_22 ?_
        refine lv_iload hx hb dX3_leastAt_25 (lv_at hl 0 rfl) ?_
        refine z_iald (k := 64 * q + (k : Int)) (g := ga) hx hb hK hP 3 0 rfl rfl (by omega) dX3_leastAt_27 ?_
        try dsimp only
        refine z_top (y := zI (AH σ P (k : Int))) (by rw [hA2 (k : Int) (by omega) (by omega)]) ?_
        refine z_if_lt (a := AH σ P (k : Int)) (tgt := 66) hx hb (by omega) dX3_leastAt_28 (by decide) (fun c_28 => ?_) (fun c_28 => ?_)
        · refine lv_iconst (v := zI (0)) hx hb dX3_leastAt_66 rfl ?_
          refine z_iadd (a := x) (b := 0) hx hb dX3_leastAt_67 ?_
          refine lv_istore_n (lv' := [(3, .int (zI (x + 0))), (5, .int (zI (64 * q + (k : Int)))), (0, .ref h0), (1, .int (zI (q))), (2, .int (zI (d))), (4, .int (zI ((k : Int))))]) hx hb dX3_leastAt_68 rfl hl (by decide) rfl (fun ls hl => ?_)
          refine lv_iinc (v := zI ((k : Int) + 1)) (lv' := [(4, .int (zI ((k : Int) + 1))), (3, .int (zI (x + 0))), (5, .int (zI (64 * q + (k : Int)))), (0, .ref h0), (1, .int (zI (q))), (2, .int (zI (d)))]) hx hb dX3_leastAt_69 hl (k := 5) rfl (zI_add _ _) (by decide) rfl (fun ls hl => ?_)
          refine lv_goto (tgt := 5) hx hb dX3_leastAt_72 (by decide) ?_
          exact ih_a (k + 1) (x + 0) _ _ _ (by omega) (by rw [cnt_s e_x]; simp only [Bool.and_eq_true, decide_eq_true_eq]; first | (rw [if_pos ⟨c_28, hyw, c_59⟩]; done) | (rw [if_neg (by rintro ⟨h1, h2, h3⟩; omega)]; done)) (by omega) hP hD hS (lv_sub hl [3, 4, 5, 1, 0] rfl)
        · refine lv_aload_n hx hb dX3_leastAt_31 rfl (lv_at hl 1 rfl) ?_
          refine va_get (D := D) (ci := 3) (v := .ref a4) (C := RX3) (T := TX3) (N := 7) hx hb hts in_X3_leastAt_X3 hown hK hP 0 rfl rfl 4 (by decide) (hts _ m_X3_leastAt_1) (fun _ h9 => h9) rfl dX3_leastAt_32 ?_
          refine lv_iload hx hb dX3_leastAt_35 (lv_at hl 0 rfl) ?_
          refine z_lald (k := 64 * q + (k : Int)) (g := gw) hx hb hK hP 2 1 rfl rfl (by omega) dX3_leastAt_37 ?_
          try dsimp only
          refine z_topl (y := lW (WW σ (jP σ P) (k : Int))) ((hLL (k : Int) (by omega) (by omega)).1) ?_
          refine lv_lconst (v := 0) hx hb dX3_leastAt_38 rfl ?_
          refine z_lcmp_le (x := lW (WW σ (jP σ P) (k : Int))) (y := 0) (tgt := 66) hx hb dX3_leastAt_39 dX3_leastAt_40 (by decide) (fun c_39 => ?_) (fun c_39 => ?_)
          · have hnw : ¬ 0 < WW σ (jP σ P) (k : Int) := by have := (lW_le0 (by omega)).mp c_39; omega
            refine lv_iconst (v := zI (0)) hx hb dX3_leastAt_66 rfl ?_
            refine z_iadd (a := x) (b := 0) hx hb dX3_leastAt_67 ?_
            refine lv_istore_n (lv' := [(3, .int (zI (x + 0))), (5, .int (zI (64 * q + (k : Int)))), (0, .ref h0), (1, .int (zI (q))), (2, .int (zI (d))), (4, .int (zI ((k : Int))))]) hx hb dX3_leastAt_68 rfl hl (by decide) rfl (fun ls hl => ?_)
            refine lv_iinc (v := zI ((k : Int) + 1)) (lv' := [(4, .int (zI ((k : Int) + 1))), (3, .int (zI (x + 0))), (5, .int (zI (64 * q + (k : Int)))), (0, .ref h0), (1, .int (zI (q))), (2, .int (zI (d)))]) hx hb dX3_leastAt_69 hl (k := 5) rfl (zI_add _ _) (by decide) rfl (fun ls hl => ?_)
            refine lv_goto (tgt := 5) hx hb dX3_leastAt_72 (by decide) ?_
            exact ih_a (k + 1) (x + 0) _ _ _ (by omega) (by rw [cnt_s e_x]; simp only [Bool.and_eq_true, decide_eq_true_eq]; first | (rw [if_pos ⟨c_28, hyw, c_59⟩]; done) | (rw [if_neg (by rintro ⟨h1, h2, h3⟩; omega)]; done)) (by omega) hP hD hS (lv_sub hl [3, 4, 5, 1, 0] rfl)
          · have hyw : 0 < WW σ (jP σ P) (k : Int) := (lW_gt0 (by omega)).mp c_39
            have hRR := ((hLL (k : Int) (by omega) (by omega)).2 (WW_sd hyw).1).1
            have hR := RR_in hO (jP σ P) (by omega) (k : Int) (by omega)
            refine lv_aload_n hx hb dX3_leastAt_43 rfl (lv_at hl 1 rfl) ?_
            refine va_get (D := D) (ci := 3) (v := .ref a6) (C := RX3) (T := TX3) (N := 7) hx hb hts in_X3_leastAt_X3 hown hK hP 0 rfl rfl 6 (by decide) (hts _ m_X3_leastAt_0) (fun _ h9 => h9) rfl dX3_leastAt_44 ?_
            refine lv_iload hx hb dX3_leastAt_47 (lv_at hl 0 rfl) ?_
            refine z_iald (k := 64 * q + (k : Int)) (g := ga) hx hb hK hP 3 0 rfl rfl (by omega) dX3_leastAt_49 ?_
            try dsimp only
            refine z_top (y := zI (AH σ P (k : Int))) (by rw [hA2 (k : Int) (by omega) (by omega)]) ?_
            refine lv_aload_n hx hb dX3_leastAt_50 rfl (lv_at hl 1 rfl) ?_
            refine va_get (D := D) (ci := 3) (v := .ref a3) (C := RX3) (T := TX3) (N := 7) hx hb hts in_X3_leastAt_X3 hown hK hP 0 rfl rfl 3 (by decide) (hts _ m_X3_leastAt_2) (fun _ h9 => h9) rfl dX3_leastAt_51 ?_
            refine lv_iload hx hb dX3_leastAt_54 (lv_at hl 0 rfl) ?_
            refine z_iald (k := 64 * q + (k : Int)) (g := gr) hx hb hK hP 1 0 rfl rfl (by omega) dX3_leastAt_56 ?_
            try dsimp only
            refine z_top (y := zI (RR σ (jP σ P) (k : Int))) (by rw [hRR]) ?_
            refine z_iadd (a := AH σ P (k : Int)) (b := RR σ (jP σ P) (k : Int)) hx hb dX3_leastAt_57 ?_
            refine lv_iload_n hx hb dX3_leastAt_58 rfl (lv_at hl 3 rfl) ?_
            refine z_icmp_ne (a := (AH σ P (k : Int)) + (RR σ (jP σ P) (k : Int))) (b := d) (tgt := 66) hx hb (by omega) dX3_leastAt_59 (by decide) (fun c_59 => ?_) (fun c_59 => ?_)
            · refine lv_iconst (v := zI (0)) hx hb dX3_leastAt_66 rfl ?_
              refine z_iadd (a := x) (b := 0) hx hb dX3_leastAt_67 ?_
              refine lv_istore_n (lv' := [(3, .int (zI (x + 0))), (5, .int (zI (64 * q + (k : Int)))), (0, .ref h0), (1, .int (zI (q))), (2, .int (zI (d))), (4, .int (zI ((k : Int))))]) hx hb dX3_leastAt_68 rfl hl (by decide) rfl (fun ls hl => ?_)
              refine lv_iinc (v := zI ((k : Int) + 1)) (lv' := [(4, .int (zI ((k : Int) + 1))), (3, .int (zI (x + 0))), (5, .int (zI (64 * q + (k : Int)))), (0, .ref h0), (1, .int (zI (q))), (2, .int (zI (d)))]) hx hb dX3_leastAt_69 hl (k := 5) rfl (zI_add _ _) (by decide) rfl (fun ls hl => ?_)
              refine lv_goto (tgt := 5) hx hb dX3_leastAt_72 (by decide) ?_
              exact ih_a (k + 1) (x + 0) _ _ _ (by omega) (by rw [cnt_s e_x]; simp only [Bool.and_eq_true, decide_eq_true_eq]; first | (rw [if_pos ⟨c_28, hyw, c_59⟩]; done) | (rw [if_neg (by rintro ⟨h1, h2, h3⟩; omega)]; done)) (by omega) hP hD hS (lv_sub hl [3, 4, 5, 1, 0] rfl)
            · refine lv_iconst (v := zI (1)) hx hb dX3_leastAt_62 rfl ?_
              refine lv_goto (tgt := 67) hx hb dX3_leastAt_63 (by decide) ?_
              refine z_iadd (a := x) (b := 1) hx hb dX3_leastAt_67 ?_
              refine lv_istore_n (lv' := [(3, .int (zI (x + 1))), (5, .int (zI (64 * q + (k : Int)))), (0, .ref h0), (1, .int (zI (q))), (2, .int (zI (d))), (4, .int (zI ((k : Int))))]) hx hb dX3_leastAt_68 rfl hl (by decide) rfl (fun ls hl => ?_)
              refine lv_iinc (v := zI ((k : Int) + 1)) (lv' := [(4, .int (zI ((k : Int) + 1))), (3, .int (zI (x + 1))), (5, .int (zI (64 * q + (k : Int)))), (0, .ref h0), (1, .int (zI (q))), (2, .int (zI (d)))]) hx hb dX3_leastAt_69 hl (k := 5) rfl (zI_add _ _) (by decide) rfl (fun ls hl => ?_)
              refine lv_goto (tgt := 5) hx hb dX3_leastAt_72 (by decide) ?_
              exact ih_a (k + 1) (x + 1) _ _ _ (by omega) (by rw [cnt_s e_x]; simp only [Bool.and_eq_true, decide_eq_true_eq]; first | (rw [if_pos ⟨c_28, hyw, c_59⟩]; done) | (rw [if_neg (by rintro ⟨h1, h2, h3⟩; omega)]; done)) (by omega) hP hD hS (lv_sub hl [3, 4, 5, 1, 0] rfl)
  exact loop_a 70 (0) (0) _ _ _ (by omega) (rfl) (by omega) hP hD hS (lv_sub hl [2, 3, 4, 1, 0] rfl)
abbrev rmX3_plans : Room := { frames := 6, cells := 0, slots := 0, locals := 137 }
theorem in_X3_plans_X3 : ∀ w ∈ wsX30, w ∈ wsX3_plans := fun _ h => List.mem_cons_of_mem _ (List.mem_append_right _ h)
theorem m_X3_plans_2 : (.fieldLink RX3 7 "BrassWaysModel" "state" "[I" : Cond) ∈ wsX3_plans := List.mem_of_getElem? (i := 3) rfl
theorem m_X3_plans_3 : (.fieldLink RX3 23 "BrassWaysModel" "ways" "[J" : Cond) ∈ wsX3_plans := List.mem_of_getElem? (i := 4) rfl
theorem m_X3_plans_4 : (.fieldLink RX3 20 "BrassWaysModel" "rest" "[I" : Cond) ∈ wsX3_plans := List.mem_of_getElem? (i := 5) rfl
theorem m_X3_plans_5 : (.fieldLink RX3 27 "BrassWaysModel" "leastWays" "[J" : Cond) ∈ wsX3_plans := List.mem_of_getElem? (i := 6) rfl
theorem m_X3_plans_1 : (.constantLong RX3 109 (-6) : Cond) ∈ wsX3_plans := List.mem_of_getElem? (i := 2) rfl
theorem m_X3_plans_0 : (.constantLong RX3 104 (-2) : Cond) ∈ wsX3_plans := List.mem_of_getElem? (i := 1) rfl
set_option maxHeartbeats 4000000 in
set_option maxRecDepth 100000 in
theorem c_X3_plans (l : Launch) (D : va_G) (cI cJ cZ cO : ClassId) (sz : Nat) (h0 : Nat) (a0 : Nat) (a1 : Nat) (a2 : Nat) (a3 : Nat) (a4 : Nat) (a5 : Nat) (a6 : Nat) (σ : Int → Int) (gr : Int → Int) (gw : Int → Int64) (gl : Int → Int64) (ga : Int → Int) (q : Int) (h_q : -2147483648 ≤ q ∧ q < 2147483648) (hO : Ok σ) : Met l yX3_plans wsX3_plans rmX3_plans (zPc D cI cJ cZ cO [(h0, .inr (3, [.ref a0, .ref a1, .ref a2, .ref a3, .ref a4, .ref a5, .ref a6])), (a0, .inl (cI, 22, .inl (zF (σ)))), (a3, .inl (cI, 768, .inl (zF (gr)))), (a4, .inl (cJ, 768, .inr (.inl (zL (gw))))), (a5, .inl (cJ, 768, .inr (.inl (zL (gl))))), (a6, .inl (cI, 768, .inl (zF (ga))))] sz [.ref h0, .int (zI (q))]) (zQl D (fun (r : Int64) (_ : (Int → Int) × (Int → Int64) × (Int → Int64) × (Int → Int)) => r = A_plans σ q) (fun (u : (Int → Int) × (Int → Int64) × (Int → Int64) × (Int → Int)) => [(h0, .inr (3, [.ref a0, .ref a1, .ref a2, .ref a3, .ref a4, .ref a5, .ref a6])), (a0, .inl (cI, 22, .inl (zF (σ)))), (a3, .inl (cI, 768, .inl (zF (u.1)))), (a4, .inl (cJ, 768, .inr (.inl (zL (u.2.1))))), (a5, .inl (cJ, 768, .inr (.inl (zL (u.2.2.1))))), (a6, .inl (cI, 768, .inl (zF (u.2.2.2))))]) [(h0, .inr (3, [.ref a0, .ref a1, .ref a2, .ref a3, .ref a4, .ref a5, .ref a6])), (a0, .inl (cI, 22, .inl (zF (σ)))), (a3, .inl (cI, 768, .inl (zF (gr)))), (a4, .inl (cJ, 768, .inr (.inl (zL (gw))))), (a5, .inl (cJ, 768, .inr (.inl (zL (gl))))), (a6, .inl (cI, 768, .inl (zF (ga))))] sz) 0 0 (va_A [(h0, .inr (3, [.ref a0, .ref a1, .ref a2, .ref a3, .ref a4, .ref a5, .ref a6])), (a0, .inl (cI, 22, .inl (zF (σ)))), (a3, .inl (cI, 768, .inl (zF (gr)))), (a4, .inl (cJ, 768, .inr (.inl (zL (gw))))), (a5, .inl (cJ, 768, .inr (.inl (zL (gl))))), (a6, .inl (cI, 768, .inl (zF (ga))))] sz) := by
  refine z_metl (by decide) rfl (Nat.le_of_ble_eq_true rfl) ?_
  intro p e s m args below meth c A Q ls hx hb hml hown hts hA hS hP hD hK hZ hl hret
  have hl : lv_has ls 6 [(0, .ref h0), (1, .int (zI (q)))] := hl
  have o9 := hO.2.2.2.2.2.2.2.2.2.1
  have hLb := LEAST_in hO
  refine lv_iload_n hx hb dX3_plans_0 rfl (lv_at hl 1 rfl) ?_
  refine lv_iconst (v := zI (0)) hx hb dX3_plans_1 rfl ?_
  refine lv_iconst (v := zI (1)) hx hb dX3_plans_2 rfl ?_
  refine z_Sir (As := [.int (zI (q)), .int (zI (0)), .int (zI (1))]) (rest := []) hx hb hml hown hts hA hS hP hD hK hZ hl.1 (c_X3_in l D cI cJ cZ cO _ (q) (0) (1) (by omega)) (va_cwS 3 hts gX3_plans_X3_in rfl rfl rfl (by decide +kernel) ⟨Nat.le_of_ble_eq_true rfl, Nat.le_of_ble_eq_true rfl⟩) [] rfl rfl rfl rfl (Nat.le_of_ble_eq_true rfl) ⟨Nat.zero_le _, Nat.zero_le _⟩ dX3_plans_3 (fun r u H locs hw hP hS => ?_)
  subst hw
  refine z_ifB_ne (P := 0 ≤ q ∧ q ≤ 1) (tgt := 24) hx hb dX3_plans_6 (by decide) (fun c_6 => ?_) (fun c_6 => ?_)
  · refine lv_aload_n hx hb dX3_plans_24 rfl (lv_at hl 0 rfl) ?_
    refine z_Vvw (As := []) (rest := []) hx hb hml hown hts hA hS hP hD hK hZ hl.1 (c_X3_layAllRests l D cI cJ cZ cO _ (h0) (a0) (a1) (a2) (a3) (a4) (a5) (a6) (σ) (gr) (gw) (gl) hO) (cwV 0 hts gX3_plans_X3_layAllRests rfl rfl rfl (by decide +kernel) ⟨Nat.le_of_ble_eq_true rfl, Nat.le_of_ble_eq_true rfl⟩) [0, 1, 2, 3, 4] rfl rfl (fun _ => rfl) 0 3 rfl rfl rfl rfl (Nat.le_of_ble_eq_true rfl) ⟨Nat.zero_le _, Nat.zero_le _⟩ dX3_plans_25 (fun u1 H locs hw hP hD hS => ?_)
    have hP : va_P D vwCl [(h0, .inr (3, [.ref a0, .ref a1, .ref a2, .ref a3, .ref a4, .ref a5, .ref a6])), (a0, .inl (cI, 22, .inl (zF (σ)))), (a3, .inl (cI, 768, .inl (zF (u1.1)))), (a4, .inl (cJ, 768, .inr (.inl (zL (u1.2.1))))), (a5, .inl (cJ, 768, .inr (.inl (zL (u1.2.2))))), (a6, .inl (cI, 768, .inl (zF (ga))))] H := hP
    have hD : va_D A [(h0, .inr (3, [.ref a0, .ref a1, .ref a2, .ref a3, .ref a4, .ref a5, .ref a6])), (a0, .inl (cI, 22, .inl (zF (σ)))), (a3, .inl (cI, 768, .inl (zF (u1.1)))), (a4, .inl (cJ, 768, .inr (.inl (zL (u1.2.1))))), (a5, .inl (cJ, 768, .inr (.inl (zL (u1.2.2))))), (a6, .inl (cI, 768, .inl (zF (ga))))] := hD
    have hLay := hw
    refine lv_aload_n hx hb dX3_plans_28 rfl (lv_at hl 0 rfl) ?_
    refine z_Vir (As := []) (rest := []) hx hb hml hown hts hA hS hP hD hK hZ hl.1 (c_X3_leastOfAll l D cI cJ cZ cO _ (h0) (a0) (a1) (a2) (a3) (a4) (a5) (a6) (σ) (u1.1) (u1.2.1) (u1.2.2) hO hw) (cwV 0 hts gX3_plans_X3_leastOfAll rfl rfl rfl (by decide +kernel) ⟨Nat.le_of_ble_eq_true rfl, Nat.le_of_ble_eq_true rfl⟩) [0, 1, 2, 3] rfl rfl 0 3 rfl rfl rfl rfl (Nat.le_of_ble_eq_true rfl) ⟨Nat.zero_le _, Nat.zero_le _⟩ dX3_plans_29 (fun r u H locs hw hP hS => ?_)
    subst hw
    refine lv_istore_n (lv' := [(2, .int (zI (LEAST σ))), (0, .ref h0), (1, .int (zI (q)))]) hx hb dX3_plans_32 rfl hl (by decide) rfl (fun ls hl => ?_)
    refine lv_iload_n hx hb dX3_plans_33 rfl (lv_at hl 2 rfl) ?_
    refine lv_bipush (v := zI (10)) hx hb dX3_plans_34 (by decide +kernel) ?_
    refine z_icmp_lt (a := q) (b := 10) (tgt := 75) hx hb (by omega) dX3_plans_36 (by decide) (fun c_36 => ?_) (fun c_36 => ?_)
    · refine lv_aload_n hx hb dX3_plans_75 rfl (lv_at hl 1 rfl) ?_
      refine va_get (D := D) (ci := 3) (v := .ref a0) (C := RX3) (T := TX3) (N := 7) hx hb hts in_X3_plans_X3 hown hK hP 0 rfl rfl 0 (by decide) (hts _ m_X3_plans_2) (fun _ h9 => h9) rfl dX3_plans_76 ?_
      refine lv_bipush (v := zI (9)) hx hb dX3_plans_79 (by decide +kernel) ?_
      refine z_iald (k := 9) (g := σ) hx hb hK hP 1 0 rfl rfl (by omega) dX3_plans_81 ?_
      try dsimp only
      refine z_if_ne (a := σ 9) (tgt := 87) hx hb (by omega) dX3_plans_82 (by decide) (fun c_82 => ?_) (fun c_82 => ?_)
      · have hj0 : ((jP σ 0 : Nat) : Int) = σ 9 - 1 - ((0 : Nat) : Int) := by unfold jP; omega
        have hLL : ∀ v : Int, 0 ≤ v → v < 64 → (u1.2.1) v = lW (WW σ (jP σ 0) v) ∧ (sd σ v (ntj σ (jP σ 0)) = true → (u1.1) v = RR σ (jP σ 0) v ∧ (u1.2.2) v = TT σ (jP σ 0) v) := by intro v h1 h2; have h := hLay (jP σ 0) (by omega) v h1 h2; rw [show 64 * (σ 9 - 1 - ((jP σ 0 : Nat) : Int)) + v = v by omega] at h; exact h
        refine lv_lconst (v := 0) hx hb dX3_plans_87 rfl ?_
        refine lv_lstore_n (lv' := [(3, .long (0)), (2, .int (zI (LEAST σ))), (0, .ref h0), (1, .int (zI (q)))]) hx hb dX3_plans_88 rfl hl (by decide) rfl (fun ls hl => ?_)
        refine lv_iconst (v := zI (0)) hx hb dX3_plans_89 rfl ?_
        refine lv_istore (lv' := [(5, .int (zI (0))), (3, .long (0)), (2, .int (zI (LEAST σ))), (0, .ref h0), (1, .int (zI (q)))]) hx hb dX3_plans_90 hl (by decide) rfl (fun ls hl => ?_)
        have loop_a : ∀ (f_a : Nat) (k : Nat) (z : Int64) (H : Heap) (locs : List Loc) (ls : Array Slot), (k ≤ 64) → (z = sumL (qW σ (jP σ 0)) (fun v => if q = 0 then lW (WW σ (jP σ 0) v) else if RR σ (jP σ 0) v = LEAST σ then TT σ (jP σ 0) v else 0) k) → (64 - (k : Int) < (f_a : Int)) → va_P D vwCl [(h0, .inr (3, [.ref a0, .ref a1, .ref a2, .ref a3, .ref a4, .ref a5, .ref a6])), (a0, .inl (cI, 22, .inl (zF (σ)))), (a3, .inl (cI, 768, .inl (zF (u1.1)))), (a4, .inl (cJ, 768, .inr (.inl (zL (u1.2.1))))), (a5, .inl (cJ, 768, .inr (.inl (zL (u1.2.2))))), (a6, .inl (cI, 768, .inl (zF (ga))))] H → va_D A [(h0, .inr (3, [.ref a0, .ref a1, .ref a2, .ref a3, .ref a4, .ref a5, .ref a6])), (a0, .inl (cI, 22, .inl (zF (σ)))), (a3, .inl (cI, 768, .inl (zF (u1.1)))), (a4, .inl (cJ, 768, .inr (.inl (zL (u1.2.1))))), (a5, .inl (cJ, 768, .inr (.inl (zL (u1.2.2))))), (a6, .inl (cI, 768, .inl (zF (ga))))] → va_S A s.heap H locs → lv_has ls 6 [(0, .ref h0), (1, .int (zI (q))), (2, .int (zI (LEAST σ))), (3, .long (z)), (5, .int (zI ((k : Int))))] → W p l e rmX3_plans s m args below meth c H locs 0 0 Q (F0 m 92 ls []) := by
          intro f_a
          induction f_a with
          | zero =>
            intros
            exfalso; omega
          | succ f_a ih_a =>
            intro k z H locs ls e_k e_z hfu_a hP hD hS hl
            have hWb := WW_in hO (j := jP σ 0) (by omega) (k : Int)
            refine lv_iload hx hb dX3_plans_92 (lv_at hl 4 rfl) ?_
            refine lv_bipush (v := zI (64)) hx hb dX3_plans_94 (by decide +kernel) ?_
            refine z_icmp_ge (a := (k : Int)) (b := 64) (tgt := 156) hx hb (by omega) dX3_plans_96 (by decide) (fun c_96 => ?_) (fun c_96 => ?_)
            · refine lv_lload_n hx hb dX3_plans_156 rfl (lv_at hl 3 rfl) ?_
              exact hret _ _ _ _ _ (u1.1, u1.2.1, u1.2.2, ga) dX3_plans_157 (by unfold A_plans; rw [if_pos c_6, if_neg c_82, e_z, show k = 64 by omega]) hP hS
            · refine lv_aload_n hx hb dX3_plans_99 rfl (lv_at hl 0 rfl) ?_
              refine va_get (D := D) (ci := 3) (v := .ref a4) (C := RX3) (T := TX3) (N := 7) hx hb hts in_X3_plans_X3 hown hK hP 0 rfl rfl 4 (by decide) (hts _ m_X3_plans_3) (fun _ h9 => h9) rfl dX3_plans_100 ?_
              refine lv_iload hx hb dX3_plans_103 (lv_at hl 4 rfl) ?_
              refine z_lald (k := (k : Int)) (g := u1.2.1) hx hb hK hP 3 1 rfl rfl (by omega) dX3_plans_105 ?_
              try dsimp only
              refine z_topl (y := lW (WW σ (jP σ 0) (k : Int))) ((hLL (k : Int) (by omega) (by omega)).1) ?_
              refine lv_lconst (v := 0) hx hb dX3_plans_106 rfl ?_
              refine z_lcmp_le (x := lW (WW σ (jP σ 0) (k : Int))) (y := 0) (tgt := 150) hx hb dX3_plans_107 dX3_plans_108 (by decide) (fun c_107 => ?_) (fun c_107 => ?_)
              · have hnw : ¬ 0 < WW σ (jP σ 0) (k : Int) := by have := (lW_le0 (by omega)).mp c_107; omega
                have hnq : ¬ qW σ (jP σ 0) (k : Int) = true := by rw [decide_eq_true_eq]; exact hnw
                refine lv_iinc (v := zI ((k : Int) + 1)) (lv' := [(5, .int (zI ((k : Int) + 1))), (0, .ref h0), (1, .int (zI (q))), (2, .int (zI (LEAST σ))), (3, .long (z))]) hx hb dX3_plans_150 hl (k := 4) rfl (zI_add _ _) (by decide) rfl (fun ls hl => ?_)
                refine lv_goto (tgt := 92) hx hb dX3_plans_153 (by decide) ?_
                exact ih_a (k + 1) (z) _ _ _ (by omega) (by rw [sumL_s e_z]; first | (rw [if_neg hnq]; done) | (rw [if_pos hyq, if_pos c_113]; done) | (rw [if_pos hyq, if_neg c_113, if_pos c_134]; done) | (rw [if_pos hyq, if_neg c_113, if_neg c_134]; done)) (by omega) hP hD hS (lv_sub hl [1, 2, 3, 4, 0] rfl)
              · have hyw : 0 < WW σ (jP σ 0) (k : Int) := (lW_gt0 (by omega)).mp c_107
                have hyq : qW σ (jP σ 0) (k : Int) = true := decide_eq_true hyw
                have hRR := (hLL (k : Int) (by omega) (by omega)).2 (WW_sd hyw).1
                have hR := RR_in hO (jP σ 0) (by omega) (k : Int) (by omega)
                refine lv_lload_n hx hb dX3_plans_111 rfl (lv_at hl 3 rfl) ?_
                refine lv_iload_n hx hb dX3_plans_112 rfl (lv_at hl 1 rfl) ?_
                refine z_if_ne (a := q) (tgt := 126) hx hb (by omega) dX3_plans_113 (by decide) (fun c_113 => ?_) (fun c_113 => ?_)
                · refine lv_aload_n hx hb dX3_plans_126 rfl (lv_at hl 0 rfl) ?_
                  refine va_get (D := D) (ci := 3) (v := .ref a3) (C := RX3) (T := TX3) (N := 7) hx hb hts in_X3_plans_X3 hown hK hP 0 rfl rfl 3 (by decide) (hts _ m_X3_plans_4) (fun _ h9 => h9) rfl dX3_plans_127 ?_
                  refine lv_iload hx hb dX3_plans_130 (lv_at hl 4 rfl) ?_
                  refine z_iald (k := (k : Int)) (g := u1.1) hx hb hK hP 2 0 rfl rfl (by omega) dX3_plans_132 ?_
                  try dsimp only
                  refine z_top (y := zI (RR σ (jP σ 0) (k : Int))) (by rw [hRR.1]) ?_
                  refine lv_iload_n hx hb dX3_plans_133 rfl (lv_at hl 2 rfl) ?_
                  refine z_icmp_ne (a := RR σ (jP σ 0) (k : Int)) (b := LEAST σ) (tgt := 147) hx hb (by omega) dX3_plans_134 (by decide) (fun c_134 => ?_) (fun c_134 => ?_)
                  · refine lv_lconst (v := 0) hx hb dX3_plans_147 rfl ?_
                    refine lv_ladd hx hb dX3_plans_148 ?_
                    refine lv_lstore_n (lv' := [(3, .long (z + 0)), (0, .ref h0), (1, .int (zI (q))), (2, .int (zI (LEAST σ))), (5, .int (zI ((k : Int))))]) hx hb dX3_plans_149 rfl hl (by decide) rfl (fun ls hl => ?_)
                    refine lv_iinc (v := zI ((k : Int) + 1)) (lv' := [(5, .int (zI ((k : Int) + 1))), (3, .long (z + 0)), (0, .ref h0), (1, .int (zI (q))), (2, .int (zI (LEAST σ)))]) hx hb dX3_plans_150 hl (k := 4) rfl (zI_add _ _) (by decide) rfl (fun ls hl => ?_)
                    refine lv_goto (tgt := 92) hx hb dX3_plans_153 (by decide) ?_
                    exact ih_a (k + 1) (z + 0) _ _ _ (by omega) (by rw [sumL_s e_z]; first | (rw [if_neg hnq]; done) | (rw [if_pos hyq, if_pos c_113]; done) | (rw [if_pos hyq, if_neg c_113, if_pos c_134]; done) | (rw [if_pos hyq, if_neg c_113, if_neg c_134]; done)) (by omega) hP hD hS (lv_sub hl [2, 3, 4, 1, 0] rfl)
                  · refine lv_aload_n hx hb dX3_plans_137 rfl (lv_at hl 0 rfl) ?_
                    refine va_get (D := D) (ci := 3) (v := .ref a5) (C := RX3) (T := TX3) (N := 7) hx hb hts in_X3_plans_X3 hown hK hP 0 rfl rfl 5 (by decide) (hts _ m_X3_plans_5) (fun _ h9 => h9) rfl dX3_plans_138 ?_
                    refine lv_iload hx hb dX3_plans_141 (lv_at hl 4 rfl) ?_
                    refine z_lald (k := (k : Int)) (g := u1.2.2) hx hb hK hP 4 1 rfl rfl (by omega) dX3_plans_143 ?_
                    try dsimp only
                    refine z_topl (y := TT σ (jP σ 0) (k : Int)) (hRR.2) ?_
                    refine lv_goto (tgt := 148) hx hb dX3_plans_144 (by decide) ?_
                    refine lv_ladd hx hb dX3_plans_148 ?_
                    refine lv_lstore_n (lv' := [(3, .long (z + (TT σ (jP σ 0) (k : Int)))), (0, .ref h0), (1, .int (zI (q))), (2, .int (zI (LEAST σ))), (5, .int (zI ((k : Int))))]) hx hb dX3_plans_149 rfl hl (by decide) rfl (fun ls hl => ?_)
                    refine lv_iinc (v := zI ((k : Int) + 1)) (lv' := [(5, .int (zI ((k : Int) + 1))), (3, .long (z + (TT σ (jP σ 0) (k : Int)))), (0, .ref h0), (1, .int (zI (q))), (2, .int (zI (LEAST σ)))]) hx hb dX3_plans_150 hl (k := 4) rfl (zI_add _ _) (by decide) rfl (fun ls hl => ?_)
                    refine lv_goto (tgt := 92) hx hb dX3_plans_153 (by decide) ?_
                    exact ih_a (k + 1) (z + (TT σ (jP σ 0) (k : Int))) _ _ _ (by omega) (by rw [sumL_s e_z]; first | (rw [if_neg hnq]; done) | (rw [if_pos hyq, if_pos c_113]; done) | (rw [if_pos hyq, if_neg c_113, if_pos c_134]; done) | (rw [if_pos hyq, if_neg c_113, if_neg c_134]; done)) (by omega) hP hD hS (lv_sub hl [2, 3, 4, 1, 0] rfl)
                · refine lv_aload_n hx hb dX3_plans_116 rfl (lv_at hl 0 rfl) ?_
                  refine va_get (D := D) (ci := 3) (v := .ref a4) (C := RX3) (T := TX3) (N := 7) hx hb hts in_X3_plans_X3 hown hK hP 0 rfl rfl 4 (by decide) (hts _ m_X3_plans_3) (fun _ h9 => h9) rfl dX3_plans_117 ?_
                  refine lv_iload hx hb dX3_plans_120 (lv_at hl 4 rfl) ?_
                  refine z_lald (k := (k : Int)) (g := u1.2.1) hx hb hK hP 3 1 rfl rfl (by omega) dX3_plans_122 ?_
                  try dsimp only
                  refine z_topl (y := lW (WW σ (jP σ 0) (k : Int))) ((hLL (k : Int) (by omega) (by omega)).1) ?_
                  refine lv_goto (tgt := 148) hx hb dX3_plans_123 (by decide) ?_
                  refine lv_ladd hx hb dX3_plans_148 ?_
                  refine lv_lstore_n (lv' := [(3, .long (z + (lW (WW σ (jP σ 0) (k : Int))))), (0, .ref h0), (1, .int (zI (q))), (2, .int (zI (LEAST σ))), (5, .int (zI ((k : Int))))]) hx hb dX3_plans_149 rfl hl (by decide) rfl (fun ls hl => ?_)
                  refine lv_iinc (v := zI ((k : Int) + 1)) (lv' := [(5, .int (zI ((k : Int) + 1))), (3, .long (z + (lW (WW σ (jP σ 0) (k : Int))))), (0, .ref h0), (1, .int (zI (q))), (2, .int (zI (LEAST σ)))]) hx hb dX3_plans_150 hl (k := 4) rfl (zI_add _ _) (by decide) rfl (fun ls hl => ?_)
                  refine lv_goto (tgt := 92) hx hb dX3_plans_153 (by decide) ?_
                  exact ih_a (k + 1) (z + (lW (WW σ (jP σ 0) (k : Int)))) _ _ _ (by omega) (by rw [sumL_s e_z]; first | (rw [if_neg hnq]; done) | (rw [if_pos hyq, if_pos c_113]; done) | (rw [if_pos hyq, if_neg c_113, if_pos c_134]; done) | (rw [if_pos hyq, if_neg c_113, if_neg c_134]; done)) (by omega) hP hD hS (lv_sub hl [2, 3, 4, 1, 0] rfl)
        exact loop_a 70 (0) (0) _ _ _ (by omega) (rfl) (by omega) hP hD hS (lv_sub hl [3, 4, 2, 1, 0] rfl)
      · refine lv_lconst (v := 1) hx hb dX3_plans_85 rfl ?_
        exact hret _ _ _ _ _ (u1.1, u1.2.1, u1.2.2, ga) dX3_plans_86 (by unfold A_plans; rw [if_pos c_6, if_pos c_82]) hP hS
    · exfalso; omega
  · refine lv_iload_n hx hb dX3_plans_9 rfl (lv_at hl 1 rfl) ?_
    refine lv_bipush (v := zI (10)) hx hb dX3_plans_10 (by decide +kernel) ?_
    refine lv_bipush (v := zI (21)) hx hb dX3_plans_12 (by decide +kernel) ?_
    refine z_Sir (As := [.int (zI (q)), .int (zI (10)), .int (zI (21))]) (rest := []) hx hb hml hown hts hA hS hP hD hK hZ hl.1 (c_X3_in l D cI cJ cZ cO _ (q) (10) (21) (by omega)) (va_cwS 3 hts gX3_plans_X3_in rfl rfl rfl (by decide +kernel) ⟨Nat.le_of_ble_eq_true rfl, Nat.le_of_ble_eq_true rfl⟩) [] rfl rfl rfl rfl (Nat.le_of_ble_eq_true rfl) ⟨Nat.zero_le _, Nat.zero_le _⟩ dX3_plans_14 (fun r u H locs hw hP hS => ?_)
    subst hw
    refine z_ifB_ne (P := 10 ≤ q ∧ q ≤ 21) (tgt := 24) hx hb dX3_plans_17 (by decide) (fun c_17 => ?_) (fun c_17 => ?_)
    · refine lv_aload_n hx hb dX3_plans_24 rfl (lv_at hl 0 rfl) ?_
      refine z_Vvw (As := []) (rest := []) hx hb hml hown hts hA hS hP hD hK hZ hl.1 (c_X3_layAllRests l D cI cJ cZ cO _ (h0) (a0) (a1) (a2) (a3) (a4) (a5) (a6) (σ) (gr) (gw) (gl) hO) (cwV 0 hts gX3_plans_X3_layAllRests rfl rfl rfl (by decide +kernel) ⟨Nat.le_of_ble_eq_true rfl, Nat.le_of_ble_eq_true rfl⟩) [0, 1, 2, 3, 4] rfl rfl (fun _ => rfl) 0 3 rfl rfl rfl rfl (Nat.le_of_ble_eq_true rfl) ⟨Nat.zero_le _, Nat.zero_le _⟩ dX3_plans_25 (fun u1 H locs hw hP hD hS => ?_)
      have hP : va_P D vwCl [(h0, .inr (3, [.ref a0, .ref a1, .ref a2, .ref a3, .ref a4, .ref a5, .ref a6])), (a0, .inl (cI, 22, .inl (zF (σ)))), (a3, .inl (cI, 768, .inl (zF (u1.1)))), (a4, .inl (cJ, 768, .inr (.inl (zL (u1.2.1))))), (a5, .inl (cJ, 768, .inr (.inl (zL (u1.2.2))))), (a6, .inl (cI, 768, .inl (zF (ga))))] H := hP
      have hD : va_D A [(h0, .inr (3, [.ref a0, .ref a1, .ref a2, .ref a3, .ref a4, .ref a5, .ref a6])), (a0, .inl (cI, 22, .inl (zF (σ)))), (a3, .inl (cI, 768, .inl (zF (u1.1)))), (a4, .inl (cJ, 768, .inr (.inl (zL (u1.2.1))))), (a5, .inl (cJ, 768, .inr (.inl (zL (u1.2.2))))), (a6, .inl (cI, 768, .inl (zF (ga))))] := hD
      have hLay := hw
      refine lv_aload_n hx hb dX3_plans_28 rfl (lv_at hl 0 rfl) ?_
      refine z_Vir (As := []) (rest := []) hx hb hml hown hts hA hS hP hD hK hZ hl.1 (c_X3_leastOfAll l D cI cJ cZ cO _ (h0) (a0) (a1) (a2) (a3) (a4) (a5) (a6) (σ) (u1.1) (u1.2.1) (u1.2.2) hO hw) (cwV 0 hts gX3_plans_X3_leastOfAll rfl rfl rfl (by decide +kernel) ⟨Nat.le_of_ble_eq_true rfl, Nat.le_of_ble_eq_true rfl⟩) [0, 1, 2, 3] rfl rfl 0 3 rfl rfl rfl rfl (Nat.le_of_ble_eq_true rfl) ⟨Nat.zero_le _, Nat.zero_le _⟩ dX3_plans_29 (fun r u H locs hw hP hS => ?_)
      subst hw
      refine lv_istore_n (lv' := [(2, .int (zI (LEAST σ))), (0, .ref h0), (1, .int (zI (q)))]) hx hb dX3_plans_32 rfl hl (by decide) rfl (fun ls hl => ?_)
      refine lv_iload_n hx hb dX3_plans_33 rfl (lv_at hl 2 rfl) ?_
      refine lv_bipush (v := zI (10)) hx hb dX3_plans_34 (by decide +kernel) ?_
      refine z_icmp_lt (a := q) (b := 10) (tgt := 75) hx hb (by omega) dX3_plans_36 (by decide) (fun c_36 => ?_) (fun c_36 => ?_)
      · exfalso; omega
      · refine lv_aload_n hx hb dX3_plans_39 rfl (lv_at hl 1 rfl) ?_
        refine z_Vvw (As := []) (rest := []) hx hb hml hown hts hA hS hP hD hK hZ hl.1 (c_X3_layAhead l D cI cJ cZ cO _ (h0) (a0) (a1) (a2) (a3) (a4) (a5) (a6) (σ) (ga) hO) (cwV 0 hts gX3_plans_X3_layAhead rfl rfl rfl (by decide +kernel) ⟨Nat.le_of_ble_eq_true rfl, Nat.le_of_ble_eq_true rfl⟩) [0, 1, 5] rfl rfl (fun _ => rfl) 0 3 rfl rfl rfl rfl (Nat.le_of_ble_eq_true rfl) ⟨Nat.zero_le _, Nat.zero_le _⟩ dX3_plans_40 (fun u2 H locs hw hP hD hS => ?_)
        have hP : va_P D vwCl [(h0, .inr (3, [.ref a0, .ref a1, .ref a2, .ref a3, .ref a4, .ref a5, .ref a6])), (a0, .inl (cI, 22, .inl (zF (σ)))), (a3, .inl (cI, 768, .inl (zF (u1.1)))), (a4, .inl (cJ, 768, .inr (.inl (zL (u1.2.1))))), (a5, .inl (cJ, 768, .inr (.inl (zL (u1.2.2))))), (a6, .inl (cI, 768, .inl (zF (u2))))] H := hP
        have hD : va_D A [(h0, .inr (3, [.ref a0, .ref a1, .ref a2, .ref a3, .ref a4, .ref a5, .ref a6])), (a0, .inl (cI, 22, .inl (zF (σ)))), (a3, .inl (cI, 768, .inl (zF (u1.1)))), (a4, .inl (cJ, 768, .inr (.inl (zL (u1.2.1))))), (a5, .inl (cJ, 768, .inr (.inl (zL (u1.2.2))))), (a6, .inl (cI, 768, .inl (zF (u2))))] := hD
        have hAh := hw
        refine lv_iload_n hx hb dX3_plans_43 rfl (lv_at hl 0 rfl) ?_
        refine z_if_lt (a := LEAST σ) (tgt := 58) hx hb (by omega) dX3_plans_44 (by decide) (fun c_44 => ?_) (fun c_44 => ?_)
        · refine lv_ldc2 hx hb hown (hts _ m_X3_plans_1) dX3_plans_58 ?_
          refine lv_goto (tgt := 74) hx hb dX3_plans_61 (by decide) ?_
          exact hret _ _ _ _ _ (u1.1, u1.2.1, u1.2.2, u2) dX3_plans_74 (by unfold A_plans; first | (rw [if_neg c_6, if_pos c_17, if_pos c_44]; done) | (rw [if_neg c_6, if_pos c_17, if_neg (by omega), if_neg c_55]; done) | (rw [if_neg c_6, if_pos c_17, if_neg (by omega), if_pos c_55]; done)) hP hS
        · refine lv_aload_n hx hb dX3_plans_47 rfl (lv_at hl 1 rfl) ?_
          refine lv_iload_n hx hb dX3_plans_48 rfl (lv_at hl 2 rfl) ?_
          refine lv_bipush (v := zI (10)) hx hb dX3_plans_49 (by decide +kernel) ?_
          refine z_isub (a := q) (b := 10) hx hb dX3_plans_51 ?_
          refine z_Vir (As := [.int (zI (q - 10))]) (rest := []) hx hb hml hown hts hA hS hP hD hK hZ hl.1 (c_X3_isPlace l D cI cJ cZ cO _ (h0) (a0) (a1) (a2) (a3) (a4) (a5) (a6) (σ) (q - 10) (by omega) hO) (cwV 1 hts gX3_plans_X3_isPlace rfl rfl rfl (by decide +kernel) ⟨Nat.le_of_ble_eq_true rfl, Nat.le_of_ble_eq_true rfl⟩) [0, 1] rfl rfl 0 3 rfl rfl rfl rfl (Nat.le_of_ble_eq_true rfl) ⟨Nat.zero_le _, Nat.zero_le _⟩ dX3_plans_52 (fun r u H locs hw hP hS => ?_)
          subst hw
          refine z_ifB_ne (P := 0 ≤ (q - 10) ∧ (q - 10) ≤ σ 9 - 1) (tgt := 64) hx hb dX3_plans_55 (by decide) (fun c_55 => ?_) (fun c_55 => ?_)
          · refine lv_aload_n hx hb dX3_plans_64 rfl (lv_at hl 1 rfl) ?_
            refine lv_iload_n hx hb dX3_plans_65 rfl (lv_at hl 2 rfl) ?_
            refine lv_bipush (v := zI (10)) hx hb dX3_plans_66 (by decide +kernel) ?_
            refine z_isub (a := q) (b := 10) hx hb dX3_plans_68 ?_
            refine lv_iload_n hx hb dX3_plans_69 rfl (lv_at hl 0 rfl) ?_
            refine z_Vir (As := [.int (zI (q - 10)), .int (zI (LEAST σ))]) (rest := []) hx hb hml hown hts hA hS hP hD hK hZ hl.1 (c_X3_leastAt l D cI cJ cZ cO _ (h0) (a0) (a1) (a2) (a3) (a4) (a5) (a6) (σ) (u1.1) (u1.2.1) (u1.2.2) (u2) ((q - 10).toNat) (q - 10) (LEAST σ) (by omega) (by omega) (by omega) hO (hAh (q - 10).toNat (by omega)) (hLay (jP σ (q - 10).toNat) (by unfold jP; omega))) (cwV 2 hts gX3_plans_X3_leastAt rfl rfl rfl (by decide +kernel) ⟨Nat.le_of_ble_eq_true rfl, Nat.le_of_ble_eq_true rfl⟩) [0, 2, 3, 5] rfl rfl 0 3 rfl rfl rfl rfl (Nat.le_of_ble_eq_true rfl) ⟨Nat.zero_le _, Nat.zero_le _⟩ dX3_plans_70 (fun r u H locs hw hP hS => ?_)
            subst hw
            refine lv_i2l (v := (zI (cntAt σ ((q - 10).toNat) (LEAST σ))).toInt64) hx hb dX3_plans_73 rfl ?_
            refine z_topl (y := lW (cntAt σ (q - 10).toNat (LEAST σ))) (zI_toL (by have h := cnt_in (fun v => decide (0 ≤ AH σ (q - 10).toNat v) && (decide (0 < WW σ (jP σ (q - 10).toNat) v) && decide (AH σ (q - 10).toNat v + RR σ (jP σ (q - 10).toNat) v = LEAST σ))) 64; unfold cntAt; omega)) ?_
            exact hret _ _ _ _ _ (u1.1, u1.2.1, u1.2.2, u2) dX3_plans_74 (by unfold A_plans; first | (rw [if_neg c_6, if_pos c_17, if_pos c_44]; done) | (rw [if_neg c_6, if_pos c_17, if_neg (by omega), if_neg c_55]; done) | (rw [if_neg c_6, if_pos c_17, if_neg (by omega), if_pos c_55]; done)) hP hS
          · refine lv_ldc2 hx hb hown (hts _ m_X3_plans_1) dX3_plans_58 ?_
            refine lv_goto (tgt := 74) hx hb dX3_plans_61 (by decide) ?_
            exact hret _ _ _ _ _ (u1.1, u1.2.1, u1.2.2, u2) dX3_plans_74 (by unfold A_plans; first | (rw [if_neg c_6, if_pos c_17, if_pos c_44]; done) | (rw [if_neg c_6, if_pos c_17, if_neg (by omega), if_neg c_55]; done) | (rw [if_neg c_6, if_pos c_17, if_neg (by omega), if_pos c_55]; done)) hP hS
    · refine lv_ldc2 hx hb hown (hts _ m_X3_plans_0) dX3_plans_20 ?_
      exact hret _ _ _ _ _ (gr, gw, gl, ga) dX3_plans_23 (by unfold A_plans; rw [if_neg c_6, if_neg c_17]) hP hS
