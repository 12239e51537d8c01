abbrev rmX2_valveDrop : Room := { frames := 0, cells := 0, slots := 0, locals := 0 }
set_option maxHeartbeats 4000000 in
set_option maxRecDepth 100000 in
theorem c_X2_valveDrop (l : Launch) (D : va_G) (cI cJ cZ cO : ClassId) (sz : Nat) (b1 : Nat) (gL : Int → Int) (t : Int) (lo : Int) (h1 : 0 ≤ t ∧ t < 8) : Met l yX2_valveDrop wsX2_valveDrop rmX2_valveDrop (zPc D cI cJ cZ cO [(b1, .inl (cI, 3, .inl (zF (gL))))] sz [.int (zI (t)), .ref b1, .int (zI (lo))]) (zQi D (fun (r : Int32) (_ : Unit) => r = zI (vdr gL t lo)) (fun (_ : Unit) => [(b1, .inl (cI, 3, .inl (zF (gL))))]) [(b1, .inl (cI, 3, .inl (zF (gL))))] sz) 0 0 (va_A [(b1, .inl (cI, 3, .inl (zF (gL))))] sz) := by
  refine z_meti (by decide) rfl (Nat.le_of_ble_eq_true rfl) ?_
  intro p e s m args below meth c A Q ls hx hb hml hown hts hA hS hP hD hK hZ hl hret
  have hl : lv_has ls 6 [(0, .int (zI (t))), (1, .ref b1), (2, .int (zI (lo)))] := hl
  refine lv_iconst (v := zI (0)) hx hb dX2_valveDrop_0 rfl ?_
  refine lv_istore_n (lv' := [(3, .int (zI (0))), (0, .int (zI (t))), (1, .ref b1), (2, .int (zI (lo)))]) hx hb dX2_valveDrop_1 rfl hl (by decide) rfl (fun ls hl => ?_)
  refine lv_iconst (v := zI (0)) hx hb dX2_valveDrop_2 rfl ?_
  refine lv_istore (lv' := [(4, .int (zI (0))), (3, .int (zI (0))), (0, .int (zI (t))), (1, .ref b1), (2, .int (zI (lo)))]) hx hb dX2_valveDrop_3 hl (by decide) rfl (fun ls hl => ?_)
  refine lv_iconst (v := zI (0)) hx hb dX2_valveDrop_5 rfl ?_
  refine lv_istore (lv' := [(5, .int (zI (0))), (4, .int (zI (0))), (3, .int (zI (0))), (0, .int (zI (t))), (1, .ref b1), (2, .int (zI (lo)))]) hx hb dX2_valveDrop_6 hl (by decide) rfl (fun ls hl => ?_)
  refine lv_iload hx hb dX2_valveDrop_8 (lv_at hl 0 rfl) ?_
  refine lv_iconst (v := zI (3)) hx hb dX2_valveDrop_10 rfl ?_
  refine z_icmp_ge (a := 0) (b := 3) (tgt := 45) hx hb (by omega) dX2_valveDrop_11 (by decide) (fun c_11 => ?_) (fun c_11 => ?_)
  · exfalso; omega
  · refine lv_iload_n hx hb dX2_valveDrop_14 rfl (lv_at hl 3 rfl) ?_
    refine lv_iload hx hb dX2_valveDrop_15 (lv_at hl 0 rfl) ?_
    refine lv_ishr hx hb dX2_valveDrop_17 ?_
    refine lv_iconst (v := zI (1)) hx hb dX2_valveDrop_18 rfl ?_
    refine lv_iand hx hb dX2_valveDrop_19 ?_
    refine z_top (y := zI (t % 2)) (z_bit0 h1) ?_
    refine lv_iconst (v := zI (1)) hx hb dX2_valveDrop_20 rfl ?_
    refine z_icmp_ne (a := t % 2) (b := 1) (tgt := 39) hx hb (by omega) dX2_valveDrop_21 (by decide) (fun c_21 => ?_) (fun c_21 => ?_)
    · refine lv_iinc (v := zI (1)) (lv' := [(5, .int (zI (1))), (4, .int (zI (0))), (3, .int (zI (0))), (0, .int (zI (t))), (1, .ref b1), (2, .int (zI (lo)))]) hx hb dX2_valveDrop_39 hl (k := 0) rfl (by decide +kernel) (by decide) rfl (fun ls hl => ?_)
      refine lv_goto (tgt := 8) hx hb dX2_valveDrop_42 (by decide) ?_
      refine lv_iload hx hb dX2_valveDrop_8 (lv_at hl 0 rfl) ?_
      refine lv_iconst (v := zI (3)) hx hb dX2_valveDrop_10 rfl ?_
      refine z_icmp_ge (a := 1) (b := 3) (tgt := 45) hx hb (by omega) dX2_valveDrop_11 (by decide) (fun c_11 => ?_) (fun c_11 => ?_)
      · exfalso; omega
      · refine lv_iload_n hx hb dX2_valveDrop_14 rfl (lv_at hl 3 rfl) ?_
        refine lv_iload hx hb dX2_valveDrop_15 (lv_at hl 0 rfl) ?_
        refine lv_ishr hx hb dX2_valveDrop_17 ?_
        refine lv_iconst (v := zI (1)) hx hb dX2_valveDrop_18 rfl ?_
        refine lv_iand hx hb dX2_valveDrop_19 ?_
        refine z_top (y := zI (t / 2 % 2)) (z_bit1 h1) ?_
        refine lv_iconst (v := zI (1)) hx hb dX2_valveDrop_20 rfl ?_
        refine z_icmp_ne (a := t / 2 % 2) (b := 1) (tgt := 39) hx hb (by omega) dX2_valveDrop_21 (by decide) (fun c_21 => ?_) (fun c_21 => ?_)
        · refine lv_iinc (v := zI (2)) (lv' := [(5, .int (zI (2))), (4, .int (zI (0))), (3, .int (zI (0))), (0, .int (zI (t))), (1, .ref b1), (2, .int (zI (lo)))]) hx hb dX2_valveDrop_39 hl (k := 0) rfl (by decide +kernel) (by decide) rfl (fun ls hl => ?_)
          refine lv_goto (tgt := 8) hx hb dX2_valveDrop_42 (by decide) ?_
          refine lv_iload hx hb dX2_valveDrop_8 (lv_at hl 0 rfl) ?_
          refine lv_iconst (v := zI (3)) hx hb dX2_valveDrop_10 rfl ?_
          refine z_icmp_ge (a := 2) (b := 3) (tgt := 45) hx hb (by omega) dX2_valveDrop_11 (by decide) (fun c_11 => ?_) (fun c_11 => ?_)
          · exfalso; omega
          · refine lv_iload_n hx hb dX2_valveDrop_14 rfl (lv_at hl 3 rfl) ?_
            refine lv_iload hx hb dX2_valveDrop_15 (lv_at hl 0 rfl) ?_
            refine lv_ishr hx hb dX2_valveDrop_17 ?_
            refine lv_iconst (v := zI (1)) hx hb dX2_valveDrop_18 rfl ?_
            refine lv_iand hx hb dX2_valveDrop_19 ?_
            refine z_top (y := zI (t / 4 % 2)) (z_bit2 h1) ?_
            refine lv_iconst (v := zI (1)) hx hb dX2_valveDrop_20 rfl ?_
            refine z_icmp_ne (a := t / 4 % 2) (b := 1) (tgt := 39) hx hb (by omega) dX2_valveDrop_21 (by decide) (fun c_21 => ?_) (fun c_21 => ?_)
            · refine lv_iinc (v := zI (3)) (lv' := [(5, .int (zI (3))), (4, .int (zI (0))), (3, .int (zI (0))), (0, .int (zI (t))), (1, .ref b1), (2, .int (zI (lo)))]) hx hb dX2_valveDrop_39 hl (k := 0) rfl (by decide +kernel) (by decide) rfl (fun ls hl => ?_)
              refine lv_goto (tgt := 8) hx hb dX2_valveDrop_42 (by decide) ?_
              refine lv_iload hx hb dX2_valveDrop_8 (lv_at hl 0 rfl) ?_
              refine lv_iconst (v := zI (3)) hx hb dX2_valveDrop_10 rfl ?_
              refine z_icmp_ge (a := 3) (b := 3) (tgt := 45) hx hb (by omega) dX2_valveDrop_11 (by decide) (fun c_11 => ?_) (fun c_11 => ?_)
              · refine lv_iload_n hx hb dX2_valveDrop_45 rfl (lv_at hl 2 rfl) ?_
                exact hret _ _ _ _ _ () dX2_valveDrop_46 (by congr 1; unfold vdr; rcases (show t = 0 ∨ t = 1 ∨ t = 2 ∨ t = 3 ∨ t = 4 ∨ t = 5 ∨ t = 6 ∨ t = 7 by omega) with rfl | rfl | rfl | rfl | rfl | rfl | rfl | rfl <;> first | (exfalso; omega) | (simp [bitsI]; done) | (simp [bitsI]; omega)) hP hS
              · exfalso; omega
            · refine lv_iload_n hx hb dX2_valveDrop_24 rfl (lv_at hl 2 rfl) ?_
              refine lv_aload_n hx hb dX2_valveDrop_25 rfl (lv_at hl 4 rfl) ?_
              refine lv_iload hx hb dX2_valveDrop_26 (lv_at hl 0 rfl) ?_
              refine z_iald (k := 2) (g := gL) hx hb hK hP 0 0 rfl rfl (by omega) dX2_valveDrop_28 ?_
              try dsimp only
              refine lv_iload_n hx hb dX2_valveDrop_29 rfl (lv_at hl 5 rfl) ?_
              refine lv_iload hx hb dX2_valveDrop_30 (lv_at hl 1 rfl) ?_
              refine z_imul (a := lo) (b := 0) hx hb dX2_valveDrop_32 ?_
              refine z_isub (a := gL 2) (b := lo * 0) hx hb dX2_valveDrop_33 ?_
              refine z_iadd (a := 0) (b := (gL 2) - (lo * 0)) hx hb dX2_valveDrop_34 ?_
              refine lv_istore_n (lv' := [(3, .int (zI (0 + ((gL 2) - (lo * 0))))), (5, .int (zI (2))), (4, .int (zI (0))), (0, .int (zI (t))), (1, .ref b1), (2, .int (zI (lo)))]) hx hb dX2_valveDrop_35 rfl hl (by decide) rfl (fun ls hl => ?_)
              refine lv_iinc (v := zI (1)) (lv' := [(4, .int (zI (1))), (3, .int (zI (0 + ((gL 2) - (lo * 0))))), (5, .int (zI (2))), (0, .int (zI (t))), (1, .ref b1), (2, .int (zI (lo)))]) hx hb dX2_valveDrop_36 hl (k := 2) rfl (by decide +kernel) (by decide) rfl (fun ls hl => ?_)
              refine lv_iinc (v := zI (3)) (lv' := [(5, .int (zI (3))), (4, .int (zI (1))), (3, .int (zI (0 + ((gL 2) - (lo * 0))))), (0, .int (zI (t))), (1, .ref b1), (2, .int (zI (lo)))]) hx hb dX2_valveDrop_39 hl (k := 2) rfl (by decide +kernel) (by decide) rfl (fun ls hl => ?_)
              refine lv_goto (tgt := 8) hx hb dX2_valveDrop_42 (by decide) ?_
              refine lv_iload hx hb dX2_valveDrop_8 (lv_at hl 0 rfl) ?_
              refine lv_iconst (v := zI (3)) hx hb dX2_valveDrop_10 rfl ?_
              refine z_icmp_ge (a := 3) (b := 3) (tgt := 45) hx hb (by omega) dX2_valveDrop_11 (by decide) (fun c_11 => ?_) (fun c_11 => ?_)
              · refine lv_iload_n hx hb dX2_valveDrop_45 rfl (lv_at hl 2 rfl) ?_
                exact hret _ _ _ _ _ () dX2_valveDrop_46 (by congr 1; unfold vdr; rcases (show t = 0 ∨ t = 1 ∨ t = 2 ∨ t = 3 ∨ t = 4 ∨ t = 5 ∨ t = 6 ∨ t = 7 by omega) with rfl | rfl | rfl | rfl | rfl | rfl | rfl | rfl <;> first | (exfalso; omega) | (simp [bitsI]; done) | (simp [bitsI]; omega)) hP hS
              · exfalso; omega
        · refine lv_iload_n hx hb dX2_valveDrop_24 rfl (lv_at hl 2 rfl) ?_
          refine lv_aload_n hx hb dX2_valveDrop_25 rfl (lv_at hl 4 rfl) ?_
          refine lv_iload hx hb dX2_valveDrop_26 (lv_at hl 0 rfl) ?_
          refine z_iald (k := 1) (g := gL) hx hb hK hP 0 0 rfl rfl (by omega) dX2_valveDrop_28 ?_
          try dsimp only
          refine lv_iload_n hx hb dX2_valveDrop_29 rfl (lv_at hl 5 rfl) ?_
          refine lv_iload hx hb dX2_valveDrop_30 (lv_at hl 1 rfl) ?_
          refine z_imul (a := lo) (b := 0) hx hb dX2_valveDrop_32 ?_
          refine z_isub (a := gL 1) (b := lo * 0) hx hb dX2_valveDrop_33 ?_
          refine z_iadd (a := 0) (b := (gL 1) - (lo * 0)) hx hb dX2_valveDrop_34 ?_
          refine lv_istore_n (lv' := [(3, .int (zI (0 + ((gL 1) - (lo * 0))))), (5, .int (zI (1))), (4, .int (zI (0))), (0, .int (zI (t))), (1, .ref b1), (2, .int (zI (lo)))]) hx hb dX2_valveDrop_35 rfl hl (by decide) rfl (fun ls hl => ?_)
          refine lv_iinc (v := zI (1)) (lv' := [(4, .int (zI (1))), (3, .int (zI (0 + ((gL 1) - (lo * 0))))), (5, .int (zI (1))), (0, .int (zI (t))), (1, .ref b1), (2, .int (zI (lo)))]) hx hb dX2_valveDrop_36 hl (k := 2) rfl (by decide +kernel) (by decide) rfl (fun ls hl => ?_)
          refine lv_iinc (v := zI (2)) (lv' := [(5, .int (zI (2))), (4, .int (zI (1))), (3, .int (zI (0 + ((gL 1) - (lo * 0))))), (0, .int (zI (t))), (1, .ref b1), (2, .int (zI (lo)))]) hx hb dX2_valveDrop_39 hl (k := 2) rfl (by decide +kernel) (by decide) rfl (fun ls hl => ?_)
          refine lv_goto (tgt := 8) hx hb dX2_valveDrop_42 (by decide) ?_
          refine lv_iload hx hb dX2_valveDrop_8 (lv_at hl 0 rfl) ?_
          refine lv_iconst (v := zI (3)) hx hb dX2_valveDrop_10 rfl ?_
          refine z_icmp_ge (a := 2) (b := 3) (tgt := 45) hx hb (by omega) dX2_valveDrop_11 (by decide) (fun c_11 => ?_) (fun c_11 => ?_)
          · exfalso; omega
          · refine lv_iload_n hx hb dX2_valveDrop_14 rfl (lv_at hl 3 rfl) ?_
            refine lv_iload hx hb dX2_valveDrop_15 (lv_at hl 0 rfl) ?_
            refine lv_ishr hx hb dX2_valveDrop_17 ?_
            refine lv_iconst (v := zI (1)) hx hb dX2_valveDrop_18 rfl ?_
            refine lv_iand hx hb dX2_valveDrop_19 ?_
            refine z_top (y := zI (t / 4 % 2)) (z_bit2 h1) ?_
            refine lv_iconst (v := zI (1)) hx hb dX2_valveDrop_20 rfl ?_
            refine z_icmp_ne (a := t / 4 % 2) (b := 1) (tgt := 39) hx hb (by omega) dX2_valveDrop_21 (by decide) (fun c_21 => ?_) (fun c_21 => ?_)
            · refine lv_iinc (v := zI (3)) (lv' := [(5, .int (zI (3))), (4, .int (zI (1))), (3, .int (zI (0 + ((gL 1) - (lo * 0))))), (0, .int (zI (t))), (1, .ref b1), (2, .int (zI (lo)))]) hx hb dX2_valveDrop_39 hl (k := 0) rfl (by decide +kernel) (by decide) rfl (fun ls hl => ?_)
              refine lv_goto (tgt := 8) hx hb dX2_valveDrop_42 (by decide) ?_
              refine lv_iload hx hb dX2_valveDrop_8 (lv_at hl 0 rfl) ?_
              refine lv_iconst (v := zI (3)) hx hb dX2_valveDrop_10 rfl ?_
              refine z_icmp_ge (a := 3) (b := 3) (tgt := 45) hx hb (by omega) dX2_valveDrop_11 (by decide) (fun c_11 => ?_) (fun c_11 => ?_)
              · refine lv_iload_n hx hb dX2_valveDrop_45 rfl (lv_at hl 2 rfl) ?_
                exact hret _ _ _ _ _ () dX2_valveDrop_46 (by congr 1; unfold vdr; rcases (show t = 0 ∨ t = 1 ∨ t = 2 ∨ t = 3 ∨ t = 4 ∨ t = 5 ∨ t = 6 ∨ t = 7 by omega) with rfl | rfl | rfl | rfl | rfl | rfl | rfl | rfl <;> first | (exfalso; omega) | (simp [bitsI]; done) | (simp [bitsI]; omega)) hP hS
              · exfalso; omega
            · refine lv_iload_n hx hb dX2_valveDrop_24 rfl (lv_at hl 2 rfl) ?_
              refine lv_aload_n hx hb dX2_valveDrop_25 rfl (lv_at hl 4 rfl) ?_
              refine lv_iload hx hb dX2_valveDrop_26 (lv_at hl 0 rfl) ?_
              refine z_iald (k := 2) (g := gL) hx hb hK hP 0 0 rfl rfl (by omega) dX2_valveDrop_28 ?_
              try dsimp only
              refine lv_iload_n hx hb dX2_valveDrop_29 rfl (lv_at hl 5 rfl) ?_
              refine lv_iload hx hb dX2_valveDrop_30 (lv_at hl 1 rfl) ?_
              refine z_imul (a := lo) (b := 1) hx hb dX2_valveDrop_32 ?_
              refine z_isub (a := gL 2) (b := lo * 1) hx hb dX2_valveDrop_33 ?_
              refine z_iadd (a := 0 + ((gL 1) - (lo * 0))) (b := (gL 2) - (lo * 1)) hx hb dX2_valveDrop_34 ?_
              refine lv_istore_n (lv' := [(3, .int (zI ((0 + ((gL 1) - (lo * 0))) + ((gL 2) - (lo * 1))))), (5, .int (zI (2))), (4, .int (zI (1))), (0, .int (zI (t))), (1, .ref b1), (2, .int (zI (lo)))]) hx hb dX2_valveDrop_35 rfl hl (by decide) rfl (fun ls hl => ?_)
              refine lv_iinc (v := zI (2)) (lv' := [(4, .int (zI (2))), (3, .int (zI ((0 + ((gL 1) - (lo * 0))) + ((gL 2) - (lo * 1))))), (5, .int (zI (2))), (0, .int (zI (t))), (1, .ref b1), (2, .int (zI (lo)))]) hx hb dX2_valveDrop_36 hl (k := 2) rfl (by decide +kernel) (by decide) rfl (fun ls hl => ?_)
              refine lv_iinc (v := zI (3)) (lv' := [(5, .int (zI (3))), (4, .int (zI (2))), (3, .int (zI ((0 + ((gL 1) - (lo * 0))) + ((gL 2) - (lo * 1))))), (0, .int (zI (t))), (1, .ref b1), (2, .int (zI (lo)))]) hx hb dX2_valveDrop_39 hl (k := 2) rfl (by decide +kernel) (by decide) rfl (fun ls hl => ?_)
              refine lv_goto (tgt := 8) hx hb dX2_valveDrop_42 (by decide) ?_
              refine lv_iload hx hb dX2_valveDrop_8 (lv_at hl 0 rfl) ?_
              refine lv_iconst (v := zI (3)) hx hb dX2_valveDrop_10 rfl ?_
              refine z_icmp_ge (a := 3) (b := 3) (tgt := 45) hx hb (by omega) dX2_valveDrop_11 (by decide) (fun c_11 => ?_) (fun c_11 => ?_)
              · refine lv_iload_n hx hb dX2_valveDrop_45 rfl (lv_at hl 2 rfl) ?_
                exact hret _ _ _ _ _ () dX2_valveDrop_46 (by congr 1; unfold vdr; rcases (show t = 0 ∨ t = 1 ∨ t = 2 ∨ t = 3 ∨ t = 4 ∨ t = 5 ∨ t = 6 ∨ t = 7 by omega) with rfl | rfl | rfl | rfl | rfl | rfl | rfl | rfl <;> first | (exfalso; omega) | (simp [bitsI]; done) | (simp [bitsI]; omega)) hP hS
              · exfalso; omega
    · refine lv_iload_n hx hb dX2_valveDrop_24 rfl (lv_at hl 2 rfl) ?_
      refine lv_aload_n hx hb dX2_valveDrop_25 rfl (lv_at hl 4 rfl) ?_
      refine lv_iload hx hb dX2_valveDrop_26 (lv_at hl 0 rfl) ?_
      refine z_iald (k := 0) (g := gL) hx hb hK hP 0 0 rfl rfl (by omega) dX2_valveDrop_28 ?_
      try dsimp only
      refine lv_iload_n hx hb dX2_valveDrop_29 rfl (lv_at hl 5 rfl) ?_
      refine lv_iload hx hb dX2_valveDrop_30 (lv_at hl 1 rfl) ?_
      refine z_imul (a := lo) (b := 0) hx hb dX2_valveDrop_32 ?_
      refine z_isub (a := gL 0) (b := lo * 0) hx hb dX2_valveDrop_33 ?_
      refine z_iadd (a := 0) (b := (gL 0) - (lo * 0)) hx hb dX2_valveDrop_34 ?_
      refine lv_istore_n (lv' := [(3, .int (zI (0 + ((gL 0) - (lo * 0))))), (5, .int (zI (0))), (4, .int (zI (0))), (0, .int (zI (t))), (1, .ref b1), (2, .int (zI (lo)))]) hx hb dX2_valveDrop_35 rfl hl (by decide) rfl (fun ls hl => ?_)
      refine lv_iinc (v := zI (1)) (lv' := [(4, .int (zI (1))), (3, .int (zI (0 + ((gL 0) - (lo * 0))))), (5, .int (zI (0))), (0, .int (zI (t))), (1, .ref b1), (2, .int (zI (lo)))]) hx hb dX2_valveDrop_36 hl (k := 2) rfl (by decide +kernel) (by decide) rfl (fun ls hl => ?_)
      refine lv_iinc (v := zI (1)) (lv' := [(5, .int (zI (1))), (4, .int (zI (1))), (3, .int (zI (0 + ((gL 0) - (lo * 0))))), (0, .int (zI (t))), (1, .ref b1), (2, .int (zI (lo)))]) hx hb dX2_valveDrop_39 hl (k := 2) rfl (by decide +kernel) (by decide) rfl (fun ls hl => ?_)
      refine lv_goto (tgt := 8) hx hb dX2_valveDrop_42 (by decide) ?_
      refine lv_iload hx hb dX2_valveDrop_8 (lv_at hl 0 rfl) ?_
      refine lv_iconst (v := zI (3)) hx hb dX2_valveDrop_10 rfl ?_
      refine z_icmp_ge (a := 1) (b := 3) (tgt := 45) hx hb (by omega) dX2_valveDrop_11 (by decide) (fun c_11 => ?_) (fun c_11 => ?_)
      · exfalso; omega
      · refine lv_iload_n hx hb dX2_valveDrop_14 rfl (lv_at hl 3 rfl) ?_
        refine lv_iload hx hb dX2_valveDrop_15 (lv_at hl 0 rfl) ?_
        refine lv_ishr hx hb dX2_valveDrop_17 ?_
        refine lv_iconst (v := zI (1)) hx hb dX2_valveDrop_18 rfl ?_
        refine lv_iand hx hb dX2_valveDrop_19 ?_
        refine z_top (y := zI (t / 2 % 2)) (z_bit1 h1) ?_
        refine lv_iconst (v := zI (1)) hx hb dX2_valveDrop_20 rfl ?_
        refine z_icmp_ne (a := t / 2 % 2) (b := 1) (tgt := 39) hx hb (by omega) dX2_valveDrop_21 (by decide) (fun c_21 => ?_) (fun c_21 => ?_)
        · refine lv_iinc (v := zI (2)) (lv' := [(5, .int (zI (2))), (4, .int (zI (1))), (3, .int (zI (0 + ((gL 0) - (lo * 0))))), (0, .int (zI (t))), (1, .ref b1), (2, .int (zI (lo)))]) hx hb dX2_valveDrop_39 hl (k := 0) rfl (by decide +kernel) (by decide) rfl (fun ls hl => ?_)
          refine lv_goto (tgt := 8) hx hb dX2_valveDrop_42 (by decide) ?_
          refine lv_iload hx hb dX2_valveDrop_8 (lv_at hl 0 rfl) ?_
          refine lv_iconst (v := zI (3)) hx hb dX2_valveDrop_10 rfl ?_
          refine z_icmp_ge (a := 2) (b := 3) (tgt := 45) hx hb (by omega) dX2_valveDrop_11 (by decide) (fun c_11 => ?_) (fun c_11 => ?_)
          · exfalso; omega
          · refine lv_iload_n hx hb dX2_valveDrop_14 rfl (lv_at hl 3 rfl) ?_
            refine lv_iload hx hb dX2_valveDrop_15 (lv_at hl 0 rfl) ?_
            refine lv_ishr hx hb dX2_valveDrop_17 ?_
            refine lv_iconst (v := zI (1)) hx hb dX2_valveDrop_18 rfl ?_
            refine lv_iand hx hb dX2_valveDrop_19 ?_
            refine z_top (y := zI (t / 4 % 2)) (z_bit2 h1) ?_
            refine lv_iconst (v := zI (1)) hx hb dX2_valveDrop_20 rfl ?_
            refine z_icmp_ne (a := t / 4 % 2) (b := 1) (tgt := 39) hx hb (by omega) dX2_valveDrop_21 (by decide) (fun c_21 => ?_) (fun c_21 => ?_)
            · refine lv_iinc (v := zI (3)) (lv' := [(5, .int (zI (3))), (4, .int (zI (1))), (3, .int (zI (0 + ((gL 0) - (lo * 0))))), (0, .int (zI (t))), (1, .ref b1), (2, .int (zI (lo)))]) hx hb dX2_valveDrop_39 hl (k := 0) rfl (by decide +kernel) (by decide) rfl (fun ls hl => ?_)
              refine lv_goto (tgt := 8) hx hb dX2_valveDrop_42 (by decide) ?_
              refine lv_iload hx hb dX2_valveDrop_8 (lv_at hl 0 rfl) ?_
              refine lv_iconst (v := zI (3)) hx hb dX2_valveDrop_10 rfl ?_
              refine z_icmp_ge (a := 3) (b := 3) (tgt := 45) hx hb (by omega) dX2_valveDrop_11 (by decide) (fun c_11 => ?_) (fun c_11 => ?_)
              · refine lv_iload_n hx hb dX2_valveDrop_45 rfl (lv_at hl 2 rfl) ?_
                exact hret _ _ _ _ _ () dX2_valveDrop_46 (by congr 1; unfold vdr; rcases (show t = 0 ∨ t = 1 ∨ t = 2 ∨ t = 3 ∨ t = 4 ∨ t = 5 ∨ t = 6 ∨ t = 7 by omega) with rfl | rfl | rfl | rfl | rfl | rfl | rfl | rfl <;> first | (exfalso; omega) | (simp [bitsI]; done) | (simp [bitsI]; omega)) hP hS
              · exfalso; omega
            · refine lv_iload_n hx hb dX2_valveDrop_24 rfl (lv_at hl 2 rfl) ?_
              refine lv_aload_n hx hb dX2_valveDrop_25 rfl (lv_at hl 4 rfl) ?_
              refine lv_iload hx hb dX2_valveDrop_26 (lv_at hl 0 rfl) ?_
              refine z_iald (k := 2) (g := gL) hx hb hK hP 0 0 rfl rfl (by omega) dX2_valveDrop_28 ?_
              try dsimp only
              refine lv_iload_n hx hb dX2_valveDrop_29 rfl (lv_at hl 5 rfl) ?_
              refine lv_iload hx hb dX2_valveDrop_30 (lv_at hl 1 rfl) ?_
              refine z_imul (a := lo) (b := 1) hx hb dX2_valveDrop_32 ?_
              refine z_isub (a := gL 2) (b := lo * 1) hx hb dX2_valveDrop_33 ?_
              refine z_iadd (a := 0 + ((gL 0) - (lo * 0))) (b := (gL 2) - (lo * 1)) hx hb dX2_valveDrop_34 ?_
              refine lv_istore_n (lv' := [(3, .int (zI ((0 + ((gL 0) - (lo * 0))) + ((gL 2) - (lo * 1))))), (5, .int (zI (2))), (4, .int (zI (1))), (0, .int (zI (t))), (1, .ref b1), (2, .int (zI (lo)))]) hx hb dX2_valveDrop_35 rfl hl (by decide) rfl (fun ls hl => ?_)
              refine lv_iinc (v := zI (2)) (lv' := [(4, .int (zI (2))), (3, .int (zI ((0 + ((gL 0) - (lo * 0))) + ((gL 2) - (lo * 1))))), (5, .int (zI (2))), (0, .int (zI (t))), (1, .ref b1), (2, .int (zI (lo)))]) hx hb dX2_valveDrop_36 hl (k := 2) rfl (by decide +kernel) (by decide) rfl (fun ls hl => ?_)
              refine lv_iinc (v := zI (3)) (lv' := [(5, .int (zI (3))), (4, .int (zI (2))), (3, .int (zI ((0 + ((gL 0) - (lo * 0))) + ((gL 2) - (lo * 1))))), (0, .int (zI (t))), (1, .ref b1), (2, .int (zI (lo)))]) hx hb dX2_valveDrop_39 hl (k := 2) rfl (by decide +kernel) (by decide) rfl (fun ls hl => ?_)
              refine lv_goto (tgt := 8) hx hb dX2_valveDrop_42 (by decide) ?_
              refine lv_iload hx hb dX2_valveDrop_8 (lv_at hl 0 rfl) ?_
              refine lv_iconst (v := zI (3)) hx hb dX2_valveDrop_10 rfl ?_
              refine z_icmp_ge (a := 3) (b := 3) (tgt := 45) hx hb (by omega) dX2_valveDrop_11 (by decide) (fun c_11 => ?_) (fun c_11 => ?_)
              · refine lv_iload_n hx hb dX2_valveDrop_45 rfl (lv_at hl 2 rfl) ?_
                exact hret _ _ _ _ _ () dX2_valveDrop_46 (by congr 1; unfold vdr; rcases (show t = 0 ∨ t = 1 ∨ t = 2 ∨ t = 3 ∨ t = 4 ∨ t = 5 ∨ t = 6 ∨ t = 7 by omega) with rfl | rfl | rfl | rfl | rfl | rfl | rfl | rfl <;> first | (exfalso; omega) | (simp [bitsI]; done) | (simp [bitsI]; omega)) hP hS
              · exfalso; omega
        · refine lv_iload_n hx hb dX2_valveDrop_24 rfl (lv_at hl 2 rfl) ?_
          refine lv_aload_n hx hb dX2_valveDrop_25 rfl (lv_at hl 4 rfl) ?_
          refine lv_iload hx hb dX2_valveDrop_26 (lv_at hl 0 rfl) ?_
          refine z_iald (k := 1) (g := gL) hx hb hK hP 0 0 rfl rfl (by omega) dX2_valveDrop_28 ?_
          try dsimp only
          refine lv_iload_n hx hb dX2_valveDrop_29 rfl (lv_at hl 5 rfl) ?_
          refine lv_iload hx hb dX2_valveDrop_30 (lv_at hl 1 rfl) ?_
          refine z_imul (a := lo) (b := 1) hx hb dX2_valveDrop_32 ?_
          refine z_isub (a := gL 1) (b := lo * 1) hx hb dX2_valveDrop_33 ?_
          refine z_iadd (a := 0 + ((gL 0) - (lo * 0))) (b := (gL 1) - (lo * 1)) hx hb dX2_valveDrop_34 ?_
          refine lv_istore_n (lv' := [(3, .int (zI ((0 + ((gL 0) - (lo * 0))) + ((gL 1) - (lo * 1))))), (5, .int (zI (1))), (4, .int (zI (1))), (0, .int (zI (t))), (1, .ref b1), (2, .int (zI (lo)))]) hx hb dX2_valveDrop_35 rfl hl (by decide) rfl (fun ls hl => ?_)
          refine lv_iinc (v := zI (2)) (lv' := [(4, .int (zI (2))), (3, .int (zI ((0 + ((gL 0) - (lo * 0))) + ((gL 1) - (lo * 1))))), (5, .int (zI (1))), (0, .int (zI (t))), (1, .ref b1), (2, .int (zI (lo)))]) hx hb dX2_valveDrop_36 hl (k := 2) rfl (by decide +kernel) (by decide) rfl (fun ls hl => ?_)
          refine lv_iinc (v := zI (2)) (lv' := [(5, .int (zI (2))), (4, .int (zI (2))), (3, .int (zI ((0 + ((gL 0) - (lo * 0))) + ((gL 1) - (lo * 1))))), (0, .int (zI (t))), (1, .ref b1), (2, .int (zI (lo)))]) hx hb dX2_valveDrop_39 hl (k := 2) rfl (by decide +kernel) (by decide) rfl (fun ls hl => ?_)
          refine lv_goto (tgt := 8) hx hb dX2_valveDrop_42 (by decide) ?_
          refine lv_iload hx hb dX2_valveDrop_8 (lv_at hl 0 rfl) ?_
          refine lv_iconst (v := zI (3)) hx hb dX2_valveDrop_10 rfl ?_
          refine z_icmp_ge (a := 2) (b := 3) (tgt := 45) hx hb (by omega) dX2_valveDrop_11 (by decide) (fun c_11 => ?_) (fun c_11 => ?_)
          · exfalso; omega
          · refine lv_iload_n hx hb dX2_valveDrop_14 rfl (lv_at hl 3 rfl) ?_
            refine lv_iload hx hb dX2_valveDrop_15 (lv_at hl 0 rfl) ?_
            refine lv_ishr hx hb dX2_valveDrop_17 ?_
            refine lv_iconst (v := zI (1)) hx hb dX2_valveDrop_18 rfl ?_
            refine lv_iand hx hb dX2_valveDrop_19 ?_
            refine z_top (y := zI (t / 4 % 2)) (z_bit2 h1) ?_
            refine lv_iconst (v := zI (1)) hx hb dX2_valveDrop_20 rfl ?_
            refine z_icmp_ne (a := t / 4 % 2) (b := 1) (tgt := 39) hx hb (by omega) dX2_valveDrop_21 (by decide) (fun c_21 => ?_) (fun c_21 => ?_)
            · refine lv_iinc (v := zI (3)) (lv' := [(5, .int (zI (3))), (4, .int (zI (2))), (3, .int (zI ((0 + ((gL 0) - (lo * 0))) + ((gL 1) - (lo * 1))))), (0, .int (zI (t))), (1, .ref b1), (2, .int (zI (lo)))]) hx hb dX2_valveDrop_39 hl (k := 0) rfl (by decide +kernel) (by decide) rfl (fun ls hl => ?_)
              refine lv_goto (tgt := 8) hx hb dX2_valveDrop_42 (by decide) ?_
              refine lv_iload hx hb dX2_valveDrop_8 (lv_at hl 0 rfl) ?_
              refine lv_iconst (v := zI (3)) hx hb dX2_valveDrop_10 rfl ?_
              refine z_icmp_ge (a := 3) (b := 3) (tgt := 45) hx hb (by omega) dX2_valveDrop_11 (by decide) (fun c_11 => ?_) (fun c_11 => ?_)
              · refine lv_iload_n hx hb dX2_valveDrop_45 rfl (lv_at hl 2 rfl) ?_
                exact hret _ _ _ _ _ () dX2_valveDrop_46 (by congr 1; unfold vdr; rcases (show t = 0 ∨ t = 1 ∨ t = 2 ∨ t = 3 ∨ t = 4 ∨ t = 5 ∨ t = 6 ∨ t = 7 by omega) with rfl | rfl | rfl | rfl | rfl | rfl | rfl | rfl <;> first | (exfalso; omega) | (simp [bitsI]; done) | (simp [bitsI]; omega)) hP hS
              · exfalso; omega
            · refine lv_iload_n hx hb dX2_valveDrop_24 rfl (lv_at hl 2 rfl) ?_
              refine lv_aload_n hx hb dX2_valveDrop_25 rfl (lv_at hl 4 rfl) ?_
              refine lv_iload hx hb dX2_valveDrop_26 (lv_at hl 0 rfl) ?_
              refine z_iald (k := 2) (g := gL) hx hb hK hP 0 0 rfl rfl (by omega) dX2_valveDrop_28 ?_
              try dsimp only
              refine lv_iload_n hx hb dX2_valveDrop_29 rfl (lv_at hl 5 rfl) ?_
              refine lv_iload hx hb dX2_valveDrop_30 (lv_at hl 1 rfl) ?_
              refine z_imul (a := lo) (b := 2) hx hb dX2_valveDrop_32 ?_
              refine z_isub (a := gL 2) (b := lo * 2) hx hb dX2_valveDrop_33 ?_
              refine z_iadd (a := (0 + ((gL 0) - (lo * 0))) + ((gL 1) - (lo * 1))) (b := (gL 2) - (lo * 2)) hx hb dX2_valveDrop_34 ?_
              refine lv_istore_n (lv' := [(3, .int (zI (((0 + ((gL 0) - (lo * 0))) + ((gL 1) - (lo * 1))) + ((gL 2) - (lo * 2))))), (5, .int (zI (2))), (4, .int (zI (2))), (0, .int (zI (t))), (1, .ref b1), (2, .int (zI (lo)))]) hx hb dX2_valveDrop_35 rfl hl (by decide) rfl (fun ls hl => ?_)
              refine lv_iinc (v := zI (3)) (lv' := [(4, .int (zI (3))), (3, .int (zI (((0 + ((gL 0) - (lo * 0))) + ((gL 1) - (lo * 1))) + ((gL 2) - (lo * 2))))), (5, .int (zI (2))), (0, .int (zI (t))), (1, .ref b1), (2, .int (zI (lo)))]) hx hb dX2_valveDrop_36 hl (k := 2) rfl (by decide +kernel) (by decide) rfl (fun ls hl => ?_)
              refine lv_iinc (v := zI (3)) (lv' := [(5, .int (zI (3))), (4, .int (zI (3))), (3, .int (zI (((0 + ((gL 0) - (lo * 0))) + ((gL 1) - (lo * 1))) + ((gL 2) - (lo * 2))))), (0, .int (zI (t))), (1, .ref b1), (2, .int (zI (lo)))]) hx hb dX2_valveDrop_39 hl (k := 2) rfl (by decide +kernel) (by decide) rfl (fun ls hl => ?_)
              refine lv_goto (tgt := 8) hx hb dX2_valveDrop_42 (by decide) ?_
              refine lv_iload hx hb dX2_valveDrop_8 (lv_at hl 0 rfl) ?_
              refine lv_iconst (v := zI (3)) hx hb dX2_valveDrop_10 rfl ?_
              refine z_icmp_ge (a := 3) (b := 3) (tgt := 45) hx hb (by omega) dX2_valveDrop_11 (by decide) (fun c_11 => ?_) (fun c_11 => ?_)
              · refine lv_iload_n hx hb dX2_valveDrop_45 rfl (lv_at hl 2 rfl) ?_
                exact hret _ _ _ _ _ () dX2_valveDrop_46 (by congr 1; unfold vdr; rcases (show t = 0 ∨ t = 1 ∨ t = 2 ∨ t = 3 ∨ t = 4 ∨ t = 5 ∨ t = 6 ∨ t = 7 by omega) with rfl | rfl | rfl | rfl | rfl | rfl | rfl | rfl <;> first | (exfalso; omega) | (simp [bitsI]; done) | (simp [bitsI]; omega)) hP hS
              · exfalso; omega
abbrev rmJ6_bitCount_0f7a4 : Room := { frames := 0, cells := 0, slots := 0, locals := 0 }
theorem m_J6_bitCount_0f7a4_0 : (.constant RJ6 265 (1431655765) : Cond) ∈ wsJ6_bitCount_0f7a4 := List.mem_of_getElem? (i := 1) rfl
theorem m_J6_bitCount_0f7a4_1 : (.constant RJ6 266 (858993459) : Cond) ∈ wsJ6_bitCount_0f7a4 := List.mem_of_getElem? (i := 2) rfl
theorem m_J6_bitCount_0f7a4_2 : (.constant RJ6 267 (252645135) : Cond) ∈ wsJ6_bitCount_0f7a4 := List.mem_of_getElem? (i := 3) rfl
set_option maxHeartbeats 4000000 in
set_option maxRecDepth 100000 in
theorem c_J6_bitCount_0f7a4 (l : Launch) (D : va_G) (cI cJ cZ cO : ClassId) (sz : Nat) (x : Int) (h1 : 0 ≤ x ∧ x < 256) : Met l yJ6_bitCount_0f7a4 wsJ6_bitCount_0f7a4 rmJ6_bitCount_0f7a4 (zPc D cI cJ cZ cO [] sz [.int (zI (x))]) (zQi D (fun (r : Int32) (_ : Unit) => r = zI (bcI x)) (fun (_ : Unit) => []) [] sz) 0 0 (va_A [] sz) := by
  refine z_meti (by decide) rfl (Nat.le_of_ble_eq_true rfl) ?_
  intro p e s m args below meth c A Q ls hx hb hml hown hts hA hS hP hD hK hZ hl hret
  have hl : lv_has ls 1 [(0, .int (zI (x)))] := hl
  refine lv_iload_n hx hb dJ6_bitCount_0f7a4_0 rfl (lv_at hl 0 rfl) ?_
  refine lv_iload_n hx hb dJ6_bitCount_0f7a4_1 rfl (lv_at hl 0 rfl) ?_
  refine lv_iconst (v := zI (1)) hx hb dJ6_bitCount_0f7a4_2 rfl ?_
  refine lv_iushr (v := ((zI (x)).toUInt32 >>> ((zI (1)).toUInt32 &&& Int32.toUInt32 31)).toInt32) hx hb dJ6_bitCount_0f7a4_3 rfl ?_
  refine lv_ldcw hx hb hown (hts _ m_J6_bitCount_0f7a4_0) dJ6_bitCount_0f7a4_4 ?_
  refine lv_iand hx hb dJ6_bitCount_0f7a4_7 ?_
  refine lv_isub hx hb dJ6_bitCount_0f7a4_8 ?_
  refine z_top (y := bc1 (zI (x))) rfl ?_
  refine lv_istore_n (lv' := [(0, .int (bc1 (zI (x))))]) hx hb dJ6_bitCount_0f7a4_9 rfl hl (by decide) rfl (fun ls hl => ?_)
  refine lv_iload_n hx hb dJ6_bitCount_0f7a4_10 rfl (lv_at hl 0 rfl) ?_
  refine lv_ldcw hx hb hown (hts _ m_J6_bitCount_0f7a4_1) dJ6_bitCount_0f7a4_11 ?_
  refine lv_iand hx hb dJ6_bitCount_0f7a4_14 ?_
  refine lv_iload_n hx hb dJ6_bitCount_0f7a4_15 rfl (lv_at hl 0 rfl) ?_
  refine lv_iconst (v := zI (2)) hx hb dJ6_bitCount_0f7a4_16 rfl ?_
  refine lv_iushr (v := ((bc1 (zI (x))).toUInt32 >>> ((zI (2)).toUInt32 &&& Int32.toUInt32 31)).toInt32) hx hb dJ6_bitCount_0f7a4_17 rfl ?_
  refine lv_ldcw hx hb hown (hts _ m_J6_bitCount_0f7a4_1) dJ6_bitCount_0f7a4_18 ?_
  refine lv_iand hx hb dJ6_bitCount_0f7a4_21 ?_
  refine lv_iadd hx hb dJ6_bitCount_0f7a4_22 ?_
  refine z_top (y := bc2 (bc1 (zI (x)))) rfl ?_
  refine lv_istore_n (lv' := [(0, .int (bc2 (bc1 (zI (x)))))]) hx hb dJ6_bitCount_0f7a4_23 rfl hl (by decide) rfl (fun ls hl => ?_)
  refine lv_iload_n hx hb dJ6_bitCount_0f7a4_24 rfl (lv_at hl 0 rfl) ?_
  refine lv_iload_n hx hb dJ6_bitCount_0f7a4_25 rfl (lv_at hl 0 rfl) ?_
  refine lv_iconst (v := zI (4)) hx hb dJ6_bitCount_0f7a4_26 rfl ?_
  refine lv_iushr (v := ((bc2 (bc1 (zI (x)))).toUInt32 >>> ((zI (4)).toUInt32 &&& Int32.toUInt32 31)).toInt32) hx hb dJ6_bitCount_0f7a4_27 rfl ?_
  refine lv_iadd hx hb dJ6_bitCount_0f7a4_28 ?_
  refine lv_ldcw hx hb hown (hts _ m_J6_bitCount_0f7a4_2) dJ6_bitCount_0f7a4_29 ?_
  refine lv_iand hx hb dJ6_bitCount_0f7a4_32 ?_
  refine z_top (y := bc3 (bc2 (bc1 (zI (x))))) rfl ?_
  refine lv_istore_n (lv' := [(0, .int (bc3 (bc2 (bc1 (zI (x))))))]) hx hb dJ6_bitCount_0f7a4_33 rfl hl (by decide) rfl (fun ls hl => ?_)
  refine lv_iload_n hx hb dJ6_bitCount_0f7a4_34 rfl (lv_at hl 0 rfl) ?_
  refine lv_iload_n hx hb dJ6_bitCount_0f7a4_35 rfl (lv_at hl 0 rfl) ?_
  refine lv_bipush (v := zI (8)) hx hb dJ6_bitCount_0f7a4_36 (by decide +kernel) ?_
  refine lv_iushr (v := ((bc3 (bc2 (bc1 (zI (x))))).toUInt32 >>> ((zI (8)).toUInt32 &&& Int32.toUInt32 31)).toInt32) hx hb dJ6_bitCount_0f7a4_38 rfl ?_
  refine lv_iadd hx hb dJ6_bitCount_0f7a4_39 ?_
  refine z_top (y := bc4 (bc3 (bc2 (bc1 (zI (x)))))) rfl ?_
  refine lv_istore_n (lv' := [(0, .int (bc4 (bc3 (bc2 (bc1 (zI (x)))))))]) hx hb dJ6_bitCount_0f7a4_40 rfl hl (by decide) rfl (fun ls hl => ?_)
  refine lv_iload_n hx hb dJ6_bitCount_0f7a4_41 rfl (lv_at hl 0 rfl) ?_
  refine lv_iload_n hx hb dJ6_bitCount_0f7a4_42 rfl (lv_at hl 0 rfl) ?_
  refine lv_bipush (v := zI (16)) hx hb dJ6_bitCount_0f7a4_43 (by decide +kernel) ?_
  refine lv_iushr (v := ((bc4 (bc3 (bc2 (bc1 (zI (x)))))).toUInt32 >>> ((zI (16)).toUInt32 &&& Int32.toUInt32 31)).toInt32) hx hb dJ6_bitCount_0f7a4_45 rfl ?_
  refine lv_iadd hx hb dJ6_bitCount_0f7a4_46 ?_
  refine z_top (y := bc5 (bc4 (bc3 (bc2 (bc1 (zI (x))))))) rfl ?_
  refine lv_istore_n (lv' := [(0, .int (bc5 (bc4 (bc3 (bc2 (bc1 (zI (x))))))))]) hx hb dJ6_bitCount_0f7a4_47 rfl hl (by decide) rfl (fun ls hl => ?_)
  refine lv_iload_n hx hb dJ6_bitCount_0f7a4_48 rfl (lv_at hl 0 rfl) ?_
  refine lv_bipush (v := zI (63)) hx hb dJ6_bitCount_0f7a4_49 (by decide +kernel) ?_
  refine lv_iand hx hb dJ6_bitCount_0f7a4_51 ?_
  refine z_top (y := zI (bcI x)) (bc_eq h1) ?_
  exact hret _ _ _ _ _ () dJ6_bitCount_0f7a4_52 rfl hP hS
abbrev rmX1_hasSetting : Room := { frames := 0, cells := 0, slots := 0, locals := 0 }
theorem in_X1_hasSetting_X1 : ∀ w ∈ wsX10, w ∈ wsX1_hasSetting := fun _ h => List.mem_cons_of_mem _ (List.mem_append_right _ h)
theorem m_X1_hasSetting_0 : (.fieldLink RX1 9 "BrassWays$Setup" "kind" "I" : Cond) ∈ wsX1_hasSetting := List.mem_of_getElem? (i := 1) rfl
set_option maxHeartbeats 4000000 in
set_option maxRecDepth 100000 in
theorem c_X1_hasSetting (l : Launch) (D : va_G) (cI cJ cZ cO : ClassId) (sz : Nat) (s0 : Nat) (b1 : Nat) (b2 : Nat) (b3 : Nat) (σ : Int → Int) (t : Int) (h_t : -2147483648 ≤ t ∧ t < 2147483648) (hO : Ok σ) : Met l yX1_hasSetting wsX1_hasSetting rmX1_hasSetting (zPc D cI cJ cZ cO [(s0, .inr (1, [.int (zI (σ 0)), .ref b1, .ref b2, .ref b3, .int (zI (σ 9))])), (b1, .inl (cI, 3, .inl (zF (fun j => σ (1 + j))))), (b2, .inl (cI, 5, .inl (zF (fun j => σ (4 + j))))), (b3, .inl (cI, 12, .inl (zF (fun j => σ (10 + j)))))] sz [.ref s0, .int (zI (t))]) (zQi D (fun (r : Int32) (_ : Unit) => r = zI (zB (okS σ t))) (fun (_ : Unit) => [(s0, .inr (1, [.int (zI (σ 0)), .ref b1, .ref b2, .ref b3, .int (zI (σ 9))])), (b1, .inl (cI, 3, .inl (zF (fun j => σ (1 + j))))), (b2, .inl (cI, 5, .inl (zF (fun j => σ (4 + j))))), (b3, .inl (cI, 12, .inl (zF (fun j => σ (10 + j)))))]) [(s0, .inr (1, [.int (zI (σ 0)), .ref b1, .ref b2, .ref b3, .int (zI (σ 9))])), (b1, .inl (cI, 3, .inl (zF (fun j => σ (1 + j))))), (b2, .inl (cI, 5, .inl (zF (fun j => σ (4 + j))))), (b3, .inl (cI, 12, .inl (zF (fun j => σ (10 + j)))))] sz) 0 0 (va_A [(s0, .inr (1, [.int (zI (σ 0)), .ref b1, .ref b2, .ref b3, .int (zI (σ 9))])), (b1, .inl (cI, 3, .inl (zF (fun j => σ (1 + j))))), (b2, .inl (cI, 5, .inl (zF (fun j => σ (4 + j))))), (b3, .inl (cI, 12, .inl (zF (fun j => σ (10 + j)))))] sz) := by
  refine z_metz (by decide) rfl (Nat.le_of_ble_eq_true rfl) ?_
  intro p e s m args below meth c A Q ls hx hb hml hown hts hA hS hP hD hK hZ hl hret
  have hl : lv_has ls 2 [(0, .ref s0), (1, .int (zI (t)))] := hl
  have o0 := hO.1
  refine lv_iload_n hx hb dX1_hasSetting_0 rfl (lv_at hl 1 rfl) ?_
  refine z_if_lt (a := t) (tgt := 27) hx hb (by omega) dX1_hasSetting_1 (by decide) (fun c_1 => ?_) (fun c_1 => ?_)
  · refine lv_iconst (v := zI (0)) hx hb dX1_hasSetting_27 rfl ?_
    exact hret _ _ _ _ _ () dX1_hasSetting_28 rfl (by rw [zB_f (by unfold okS; first | omega | (rw [if_pos (by omega)]; omega) | (rw [if_neg (by omega)]; omega))]) hP hS
  · refine lv_iload_n hx hb dX1_hasSetting_4 rfl (lv_at hl 1 rfl) ?_
    refine lv_aload_n hx hb dX1_hasSetting_5 rfl (lv_at hl 0 rfl) ?_
    refine va_get (D := D) (ci := 1) (v := .int (zI (σ 0))) (C := RX1) (T := TX1) (N := 5) hx hb hts in_X1_hasSetting_X1 hown hK hP 0 rfl rfl 0 (by decide) (hts _ m_X1_hasSetting_0) (fun _ h9 => h9) rfl dX1_hasSetting_6 ?_
    refine lv_iconst (v := zI (1)) hx hb dX1_hasSetting_9 rfl ?_
    refine z_icmp_ne (a := σ 0) (b := 1) (tgt := 18) hx hb (by omega) dX1_hasSetting_10 (by decide) (fun c_10 => ?_) (fun c_10 => ?_)
    · refine lv_bipush (v := zI (8)) hx hb dX1_hasSetting_18 (by decide +kernel) ?_
      refine z_icmp_ge (a := t) (b := 8) (tgt := 27) hx hb (by omega) dX1_hasSetting_20 (by decide) (fun c_20 => ?_) (fun c_20 => ?_)
      · refine lv_iconst (v := zI (0)) hx hb dX1_hasSetting_27 rfl ?_
        exact hret _ _ _ _ _ () dX1_hasSetting_28 rfl (by rw [zB_f (by unfold okS; first | omega | (rw [if_pos (by omega)]; omega) | (rw [if_neg (by omega)]; omega))]) hP hS
      · refine lv_iconst (v := zI (1)) hx hb dX1_hasSetting_23 rfl ?_
        refine lv_goto (tgt := 28) hx hb dX1_hasSetting_24 (by decide) ?_
        exact hret _ _ _ _ _ () dX1_hasSetting_28 rfl (by rw [zB_t (by unfold okS; first | (rw [if_pos (by omega)]; omega) | (rw [if_neg (by omega)]; omega))]) hP hS
    · refine lv_bipush (v := zI (7)) hx hb dX1_hasSetting_13 (by decide +kernel) ?_
      refine lv_goto (tgt := 20) hx hb dX1_hasSetting_15 (by decide) ?_
      refine z_icmp_ge (a := t) (b := 7) (tgt := 27) hx hb (by omega) dX1_hasSetting_20 (by decide) (fun c_20 => ?_) (fun c_20 => ?_)
      · refine lv_iconst (v := zI (0)) hx hb dX1_hasSetting_27 rfl ?_
        exact hret _ _ _ _ _ () dX1_hasSetting_28 rfl (by rw [zB_f (by unfold okS; first | omega | (rw [if_pos (by omega)]; omega) | (rw [if_neg (by omega)]; omega))]) hP hS
      · refine lv_iconst (v := zI (1)) hx hb dX1_hasSetting_23 rfl ?_
        refine lv_goto (tgt := 28) hx hb dX1_hasSetting_24 (by decide) ?_
        exact hret _ _ _ _ _ () dX1_hasSetting_28 rfl (by rw [zB_t (by unfold okS; first | (rw [if_pos (by omega)]; omega) | (rw [if_neg (by omega)]; omega))]) hP hS
abbrev rmX1_hasWay : Room := { frames := 1, cells := 0, slots := 0, locals := 21 }
set_option maxHeartbeats 4000000 in
set_option maxRecDepth 100000 in
theorem c_X1_hasWay (l : Launch) (D : va_G) (cI cJ cZ cO : ClassId) (sz : Nat) (s0 : Nat) (b1 : Nat) (b2 : Nat) (b3 : Nat) (σ : Int → Int) (w : Int) (h_w : -2147483648 ≤ w ∧ w < 2147483648) (hO : Ok σ) : Met l yX1_hasWay wsX1_hasWay rmX1_hasWay (zPc D cI cJ cZ cO [(s0, .inr (1, [.int (zI (σ 0)), .ref b1, .ref b2, .ref b3, .int (zI (σ 9))])), (b1, .inl (cI, 3, .inl (zF (fun j => σ (1 + j))))), (b2, .inl (cI, 5, .inl (zF (fun j => σ (4 + j))))), (b3, .inl (cI, 12, .inl (zF (fun j => σ (10 + j)))))] sz [.ref s0, .int (zI (w))]) (zQi D (fun (r : Int32) (_ : Unit) => r = zI (zB (okW σ w))) (fun (_ : Unit) => [(s0, .inr (1, [.int (zI (σ 0)), .ref b1, .ref b2, .ref b3, .int (zI (σ 9))])), (b1, .inl (cI, 3, .inl (zF (fun j => σ (1 + j))))), (b2, .inl (cI, 5, .inl (zF (fun j => σ (4 + j))))), (b3, .inl (cI, 12, .inl (zF (fun j => σ (10 + j)))))]) [(s0, .inr (1, [.int (zI (σ 0)), .ref b1, .ref b2, .ref b3, .int (zI (σ 9))])), (b1, .inl (cI, 3, .inl (zF (fun j => σ (1 + j))))), (b2, .inl (cI, 5, .inl (zF (fun j => σ (4 + j))))), (b3, .inl (cI, 12, .inl (zF (fun j => σ (10 + j)))))] sz) 0 0 (va_A [(s0, .inr (1, [.int (zI (σ 0)), .ref b1, .ref b2, .ref b3, .int (zI (σ 9))])), (b1, .inl (cI, 3, .inl (zF (fun j => σ (1 + j))))), (b2, .inl (cI, 5, .inl (zF (fun j => σ (4 + j))))), (b3, .inl (cI, 12, .inl (zF (fun j => σ (10 + j)))))] sz) := by
  refine z_metz (by decide) rfl (Nat.le_of_ble_eq_true rfl) ?_
  intro p e s m args below meth c A Q ls hx hb hml hown hts hA hS hP hD hK hZ hl hret
  have hl : lv_has ls 2 [(0, .ref s0), (1, .int (zI (w)))] := hl
  refine lv_iload_n hx hb dX1_hasWay_0 rfl (lv_at hl 1 rfl) ?_
  refine z_if_lt (a := w) (tgt := 25) hx hb (by omega) dX1_hasWay_1 (by decide) (fun c_1 => ?_) (fun c_1 => ?_)
  · refine lv_iconst (v := zI (0)) hx hb dX1_hasWay_25 rfl ?_
    exact hret _ _ _ _ _ () dX1_hasWay_26 rfl (by rw [zB_f (by first | exact fun q => c_18 q.2 | (intro q; have := q.1; omega))]) hP hS
  · refine lv_iload_n hx hb dX1_hasWay_4 rfl (lv_at hl 1 rfl) ?_
    refine lv_bipush (v := zI (64)) hx hb dX1_hasWay_5 (by decide +kernel) ?_
    refine z_icmp_ge (a := w) (b := 64) (tgt := 25) hx hb (by omega) dX1_hasWay_7 (by decide) (fun c_7 => ?_) (fun c_7 => ?_)
    · refine lv_iconst (v := zI (0)) hx hb dX1_hasWay_25 rfl ?_
      exact hret _ _ _ _ _ () dX1_hasWay_26 rfl (by rw [zB_f (by first | exact fun q => c_18 q.2 | (intro q; have := q.1; omega))]) hP hS
    · refine lv_aload_n hx hb dX1_hasWay_10 rfl (lv_at hl 0 rfl) ?_
      refine lv_iload_n hx hb dX1_hasWay_11 rfl (lv_at hl 1 rfl) ?_
      refine lv_bipush (v := zI (8)) hx hb dX1_hasWay_12 (by decide +kernel) ?_
      refine z_irem (a := w) (b := 8) hx hb (by omega) dX1_hasWay_14 ?_
      refine z_Vir (As := [.int (zI (w % 8))]) (rest := []) hx hb hml hown hts hA hS hP hD hK hZ hl.1 (c_X1_hasSetting l D cI cJ cZ cO _ (s0) (b1) (b2) (b3) (σ) (w % 8) (by omega) hO) (cwV 1 hts gX1_hasWay_X1_hasSetting rfl rfl rfl (by decide +kernel) ⟨Nat.le_of_ble_eq_true rfl, Nat.le_of_ble_eq_true rfl⟩) [0, 1, 2, 3] rfl rfl 0 1 rfl rfl rfl rfl (Nat.le_of_ble_eq_true rfl) ⟨Nat.zero_le _, Nat.zero_le _⟩ dX1_hasWay_15 (fun r u H locs hw hP hS => ?_)
      subst hw
      refine z_ifB_eq (P := okS σ (w % 8)) (tgt := 25) hx hb dX1_hasWay_18 (by decide) (fun c_18 => ?_) (fun c_18 => ?_)
      · refine lv_iconst (v := zI (0)) hx hb dX1_hasWay_25 rfl ?_
        exact hret _ _ _ _ _ () dX1_hasWay_26 rfl (by rw [zB_f (by first | exact fun q => c_18 q.2 | (intro q; have := q.1; omega))]) hP hS
      · refine lv_iconst (v := zI (1)) hx hb dX1_hasWay_21 rfl ?_
        refine lv_goto (tgt := 26) hx hb dX1_hasWay_22 (by decide) ?_
        exact hret _ _ _ _ _ () dX1_hasWay_26 rfl (by rw [zB_t (by exact ⟨by omega, c_18⟩)]) hP hS
abbrev rmX1_dropOf : Room := { frames := 1, cells := 0, slots := 0, locals := 25 }
theorem in_X1_dropOf_X1 : ∀ w ∈ wsX10, w ∈ wsX1_dropOf := fun _ h => List.mem_cons_of_mem _ (List.mem_append_right _ h)
theorem m_X1_dropOf_0 : (.fieldLink RX1 9 "BrassWays$Setup" "kind" "I" : Cond) ∈ wsX1_dropOf := List.mem_of_getElem? (i := 1) rfl
theorem m_X1_dropOf_1 : (.fieldLink RX1 15 "BrassWays$Setup" "lengths" "[I" : Cond) ∈ wsX1_dropOf := List.mem_of_getElem? (i := 2) rfl
theorem m_X1_dropOf_2 : (.fieldLink RX1 19 "BrassWays$Setup" "rules" "[I" : Cond) ∈ wsX1_dropOf := List.mem_of_getElem? (i := 3) rfl
theorem m_X1_dropOf_4 : (.initialized RX2 : Cond) ∈ wsX1_dropOf := List.mem_of_getElem? (i := 5) rfl
theorem m_X1_dropOf_3 : (.static yX2_valveDrop : Cond) ∈ wsX1_dropOf := List.mem_of_getElem? (i := 4) rfl
set_option maxHeartbeats 4000000 in
set_option maxRecDepth 100000 in
theorem c_X1_dropOf (l : Launch) (D : va_G) (cI cJ cZ cO : ClassId) (sz : Nat) (s0 : Nat) (b1 : Nat) (b2 : Nat) (b3 : Nat) (σ : Int → Int) (t : Int) (h1 : 0 ≤ t ∧ t < 8) (hO : Ok σ) : Met l yX1_dropOf wsX1_dropOf rmX1_dropOf (zPc D cI cJ cZ cO [(s0, .inr (1, [.int (zI (σ 0)), .ref b1, .ref b2, .ref b3, .int (zI (σ 9))])), (b1, .inl (cI, 3, .inl (zF (fun j => σ (1 + j))))), (b2, .inl (cI, 5, .inl (zF (fun j => σ (4 + j))))), (b3, .inl (cI, 12, .inl (zF (fun j => σ (10 + j)))))] sz [.ref s0, .int (zI (t))]) (zQi D (fun (r : Int32) (_ : Unit) => r = zI (low σ t)) (fun (_ : Unit) => [(s0, .inr (1, [.int (zI (σ 0)), .ref b1, .ref b2, .ref b3, .int (zI (σ 9))])), (b1, .inl (cI, 3, .inl (zF (fun j => σ (1 + j))))), (b2, .inl (cI, 5, .inl (zF (fun j => σ (4 + j))))), (b3, .inl (cI, 12, .inl (zF (fun j => σ (10 + j)))))]) [(s0, .inr (1, [.int (zI (σ 0)), .ref b1, .ref b2, .ref b3, .int (zI (σ 9))])), (b1, .inl (cI, 3, .inl (zF (fun j => σ (1 + j))))), (b2, .inl (cI, 5, .inl (zF (fun j => σ (4 + j))))), (b3, .inl (cI, 12, .inl (zF (fun j => σ (10 + j)))))] sz) 0 0 (va_A [(s0, .inr (1, [.int (zI (σ 0)), .ref b1, .ref b2, .ref b3, .int (zI (σ 9))])), (b1, .inl (cI, 3, .inl (zF (fun j => σ (1 + j))))), (b2, .inl (cI, 5, .inl (zF (fun j => σ (4 + j))))), (b3, .inl (cI, 12, .inl (zF (fun j => σ (10 + j)))))] sz) := by
  refine z_meti (by decide) rfl (Nat.le_of_ble_eq_true rfl) ?_
  intro p e s m args below meth c A Q ls hx hb hml hown hts hA hS hP hD hK hZ hl hret
  have hl : lv_has ls 2 [(0, .ref s0), (1, .int (zI (t)))] := hl
  have o0 := hO.1
  refine lv_aload_n hx hb dX1_dropOf_0 rfl (lv_at hl 0 rfl) ?_
  refine va_get (D := D) (ci := 1) (v := .int (zI (σ 0))) (C := RX1) (T := TX1) (N := 5) hx hb hts in_X1_dropOf_X1 hown hK hP 0 rfl rfl 0 (by decide) (hts _ m_X1_dropOf_0) (fun _ h9 => h9) rfl dX1_dropOf_1 ?_
  refine lv_iconst (v := zI (1)) hx hb dX1_dropOf_4 rfl ?_
  refine z_icmp_ne (a := σ 0) (b := 1) (tgt := 15) hx hb (by omega) dX1_dropOf_5 (by decide) (fun c_5 => ?_) (fun c_5 => ?_)
  · refine lv_iload_n hx hb dX1_dropOf_15 rfl (lv_at hl 1 rfl) ?_
    refine lv_aload_n hx hb dX1_dropOf_16 rfl (lv_at hl 0 rfl) ?_
    refine va_get (D := D) (ci := 1) (v := .ref b1) (C := RX1) (T := TX1) (N := 5) hx hb hts in_X1_dropOf_X1 hown hK hP 0 rfl rfl 1 (by decide) (hts _ m_X1_dropOf_1) (fun _ h9 => h9) rfl dX1_dropOf_17 ?_
    refine lv_aload_n hx hb dX1_dropOf_20 rfl (lv_at hl 0 rfl) ?_
    refine va_get (D := D) (ci := 1) (v := .ref b2) (C := RX1) (T := TX1) (N := 5) hx hb hts in_X1_dropOf_X1 hown hK hP 0 rfl rfl 2 (by decide) (hts _ m_X1_dropOf_2) (fun _ h9 => h9) rfl dX1_dropOf_21 ?_
    refine lv_iconst (v := zI (0)) hx hb dX1_dropOf_24 rfl ?_
    refine z_iald (k := 0) (g := fun j => σ (4 + j)) hx hb hK hP 2 0 rfl rfl (by omega) dX1_dropOf_25 ?_
    try dsimp only
    refine z_top (y := zI (σ 4)) rfl ?_
    refine z_SNir (As := [.int (zI (t)), .ref b1, .int (zI (σ 4))]) (rest := []) hx hb hml hown hts hA hS hP hD hK hZ hl.1 (c_X2_valveDrop l D cI cJ cZ cO _ (b1) (fun j => σ (1 + j)) (t) (σ 4) (by omega)) ⟨va_cnB 3 hts gX1_dropOf_X2_valveDrop_n38 rfl rfl rfl hZ.2.2.2.1 (hts _ m_X1_dropOf_4) (by decide +kernel) ⟨Nat.le_of_ble_eq_true rfl, Nat.le_of_ble_eq_true rfl⟩, (hts _ m_X1_dropOf_3), trivial⟩ [1] rfl rfl rfl rfl (Nat.le_of_ble_eq_true rfl) ⟨Nat.zero_le _, Nat.zero_le _⟩ dX1_dropOf_26 (fun r u H locs hw hP hS => ?_)
    subst hw
    exact hret _ _ _ _ _ () dX1_dropOf_29 (by first | (unfold low; rw [if_pos c_5]; done) | (rw [low_vdr σ t c_5])) hP hS
  · refine lv_bipush (v := zI (100)) hx hb dX1_dropOf_8 (by decide +kernel) ?_
    refine lv_iload_n hx hb dX1_dropOf_10 rfl (lv_at hl 1 rfl) ?_
    refine z_imul (a := 100) (b := t) hx hb dX1_dropOf_11 ?_
    refine lv_goto (tgt := 29) hx hb dX1_dropOf_12 (by decide) ?_
    exact hret _ _ _ _ _ () dX1_dropOf_29 (by first | (unfold low; rw [if_pos c_5]; done) | (rw [low_vdr σ t c_5])) hP hS
abbrev rmX1_offBy : Room := { frames := 2, cells := 0, slots := 0, locals := 46 }
set_option maxHeartbeats 4000000 in
set_option maxRecDepth 100000 in
theorem c_X1_offBy (l : Launch) (D : va_G) (cI cJ cZ cO : ClassId) (sz : Nat) (s0 : Nat) (b1 : Nat) (b2 : Nat) (b3 : Nat) (σ : Int → Int) (w : Int) (n : Int) (h1 : 0 ≤ w ∧ w < 64) (hO : Ok σ) : Met l yX1_offBy wsX1_offBy rmX1_offBy (zPc D cI cJ cZ cO [(s0, .inr (1, [.int (zI (σ 0)), .ref b1, .ref b2, .ref b3, .int (zI (σ 9))])), (b1, .inl (cI, 3, .inl (zF (fun j => σ (1 + j))))), (b2, .inl (cI, 5, .inl (zF (fun j => σ (4 + j))))), (b3, .inl (cI, 12, .inl (zF (fun j => σ (10 + j)))))] sz [.ref s0, .int (zI (w)), .int (zI (n))]) (zQi D (fun (r : Int32) (_ : Unit) => r = zI (off σ w n)) (fun (_ : Unit) => [(s0, .inr (1, [.int (zI (σ 0)), .ref b1, .ref b2, .ref b3, .int (zI (σ 9))])), (b1, .inl (cI, 3, .inl (zF (fun j => σ (1 + j))))), (b2, .inl (cI, 5, .inl (zF (fun j => σ (4 + j))))), (b3, .inl (cI, 12, .inl (zF (fun j => σ (10 + j)))))]) [(s0, .inr (1, [.int (zI (σ 0)), .ref b1, .ref b2, .ref b3, .int (zI (σ 9))])), (b1, .inl (cI, 3, .inl (zF (fun j => σ (1 + j))))), (b2, .inl (cI, 5, .inl (zF (fun j => σ (4 + j))))), (b3, .inl (cI, 12, .inl (zF (fun j => σ (10 + j)))))] sz) 0 0 (va_A [(s0, .inr (1, [.int (zI (σ 0)), .ref b1, .ref b2, .ref b3, .int (zI (σ 9))])), (b1, .inl (cI, 3, .inl (zF (fun j => σ (1 + j))))), (b2, .inl (cI, 5, .inl (zF (fun j => σ (4 + j))))), (b3, .inl (cI, 12, .inl (zF (fun j => σ (10 + j)))))] sz) := by
  refine z_meti (by decide) rfl (Nat.le_of_ble_eq_true rfl) ?_
  intro p e s m args below meth c A Q ls hx hb hml hown hts hA hS hP hD hK hZ hl hret
  have hl : lv_has ls 3 [(0, .ref s0), (1, .int (zI (w))), (2, .int (zI (n)))] := hl
  obtain ⟨tH, hH1, hH2⟩ := hZ.1
  refine va_getsN (ref := "BrassWays") (host := "BrassWays") hx hb hH1 hS hown (va_Nw.use rfl hZ.2.2.1) (fun _ h9 => h9) dX1_offBy_0 ?_
  refine lv_iload_n hx hb dX1_offBy_3 rfl (lv_at hl 1 rfl) ?_
  refine lv_bipush (v := zI (8)) hx hb dX1_offBy_4 (by decide +kernel) ?_
  refine z_idiv (a := w) (b := 8) hx hb (by omega) dX1_offBy_6 ?_
  refine va_ti hx hb hH2 hS (zI_in (n := 8) (a := w / 8) (by omega) (by omega) (by decide)) (v := .int (zI (hi (w / 8)))) (by show Value.int (zI (hi (((zI (w / 8)).toNatClampNeg : Nat) : Int))) = _; rw [zI_clampI (by omega) (by omega)]) dX1_offBy_7 ?_
  refine lv_aload_n hx hb dX1_offBy_8 rfl (lv_at hl 0 rfl) ?_
  refine lv_iload_n hx hb dX1_offBy_9 rfl (lv_at hl 1 rfl) ?_
  refine lv_bipush (v := zI (8)) hx hb dX1_offBy_10 (by decide +kernel) ?_
  refine z_irem (a := w) (b := 8) hx hb (by omega) dX1_offBy_12 ?_
  refine z_Vir (As := [.int (zI (w % 8))]) (rest := [.int (zI (hi (w / 8)))]) hx hb hml hown hts hA hS hP hD hK hZ hl.1 (c_X1_dropOf l D cI cJ cZ cO _ (s0) (b1) (b2) (b3) (σ) (w % 8) (by omega) hO) (cwV 1 hts gX1_offBy_X1_dropOf rfl rfl rfl (by decide +kernel) ⟨Nat.le_of_ble_eq_true rfl, Nat.le_of_ble_eq_true rfl⟩) [0, 1, 2, 3] rfl rfl 0 1 rfl rfl rfl rfl (Nat.le_of_ble_eq_true rfl) ⟨Nat.zero_le _, Nat.zero_le _⟩ dX1_offBy_13 (fun r u H locs hw hP hS => ?_)
  subst hw
  refine z_isub (a := hi (w / 8)) (b := low σ (w % 8)) hx hb dX1_offBy_16 ?_
  refine lv_bipush (v := zI (100)) hx hb dX1_offBy_17 (by decide +kernel) ?_
  refine lv_iload_n hx hb dX1_offBy_19 rfl (lv_at hl 2 rfl) ?_
  refine z_imul (a := 100) (b := n) hx hb dX1_offBy_20 ?_
  refine z_isub (a := (hi (w / 8)) - (low σ (w % 8))) (b := 100 * n) hx hb dX1_offBy_21 ?_
  exact hret _ _ _ _ _ () dX1_offBy_22 rfl hP hS
abbrev rmX1_gatherWays : Room := { frames := 3, cells := 0, slots := 0, locals := 68 }
theorem m_X1_gatherWays_0 : (.methodLink RX1 56 Lib.Math.abs.name : Cond) ∈ wsX1_gatherWays := List.mem_of_getElem? (i := 1) rfl
theorem m_X1_gatherWays_1 : (.static Lib.Math.abs.name : Cond) ∈ wsX1_gatherWays := List.mem_of_getElem? (i := 2) rfl
theorem m_X1_gatherWays_2 : (.initialized "java/lang/Math" : Cond) ∈ wsX1_gatherWays := List.mem_of_getElem? (i := 3) rfl
theorem m_X1_gatherWays_3 : (.code Lib.Math.abs.name Lib.Math.abs.code 1 (some .int) : Cond) ∈ wsX1_gatherWays := List.mem_of_getElem? (i := 4) rfl
theorem in_X1_gatherWays_X1 : ∀ w ∈ wsX10, w ∈ wsX1_gatherWays := fun _ h => List.mem_cons_of_mem _ (List.mem_append_right _ h)
theorem m_X1_gatherWays_4 : (.fieldLink RX1 19 "BrassWays$Setup" "rules" "[I" : Cond) ∈ wsX1_gatherWays := List.mem_of_getElem? (i := 5) rfl
set_option maxHeartbeats 4000000 in
set_option maxRecDepth 100000 in
theorem c_X1_gatherWays (l : Launch) (D : va_G) (cI cJ cZ cO : ClassId) (sz : Nat) (s0 : Nat) (b1 : Nat) (b2 : Nat) (b3 : Nat) (σ : Int → Int) (bi : Nat) (N : Nat) (gf : Int → Int) (n : Int) (fb : Int) (h2 : 0 ≤ n ∧ n ≤ 36) (h3 : 0 ≤ fb ∧ fb + 8 ≤ (N : Int)) (h4 : N ≤ 100) (hO : Ok σ) : Met l yX1_gatherWays wsX1_gatherWays rmX1_gatherWays (zPc D cI cJ cZ cO [(s0, .inr (1, [.int (zI (σ 0)), .ref b1, .ref b2, .ref b3, .int (zI (σ 9))])), (b1, .inl (cI, 3, .inl (zF (fun j => σ (1 + j))))), (b2, .inl (cI, 5, .inl (zF (fun j => σ (4 + j))))), (b3, .inl (cI, 12, .inl (zF (fun j => σ (10 + j))))), (bi, .inl (cI, N, .inl (zF (gf))))] sz [.ref s0, .int (zI (n)), .ref bi, .int (zI (fb))]) (zQi D (fun (r : Int32) (u : Int → Int) => r = zI (cnt (fun w => sd σ w n) 64) ∧ (∀ c : Int, c < fb ∨ fb + 8 ≤ c → u c = gf c) ∧ ∀ i : Int, 0 ≤ i → i < cnt (fun w => sd σ w n) 64 → u (fb + i) = nw σ n i) (fun (u : Int → Int) => [(s0, .inr (1, [.int (zI (σ 0)), .ref b1, .ref b2, .ref b3, .int (zI (σ 9))])), (b1, .inl (cI, 3, .inl (zF (fun j => σ (1 + j))))), (b2, .inl (cI, 5, .inl (zF (fun j => σ (4 + j))))), (b3, .inl (cI, 12, .inl (zF (fun j => σ (10 + j))))), (bi, .inl (cI, N, .inl (zF (u))))]) [(s0, .inr (1, [.int (zI (σ 0)), .ref b1, .ref b2, .ref b3, .int (zI (σ 9))])), (b1, .inl (cI, 3, .inl (zF (fun j => σ (1 + j))))), (b2, .inl (cI, 5, .inl (zF (fun j => σ (4 + j))))), (b3, .inl (cI, 12, .inl (zF (fun j => σ (10 + j))))), (bi, .inl (cI, N, .inl (zF (gf))))] sz) 0 0 (va_A [(s0, .inr (1, [.int (zI (σ 0)), .ref b1, .ref b2, .ref b3, .int (zI (σ 9))])), (b1, .inl (cI, 3, .inl (zF (fun j => σ (1 + j))))), (b2, .inl (cI, 5, .inl (zF (fun j => σ (4 + j))))), (b3, .inl (cI, 12, .inl (zF (fun j => σ (10 + j))))), (bi, .inl (cI, N, .inl (zF (gf))))] sz) := by
  refine z_meti (by decide) rfl (Nat.le_of_ble_eq_true rfl) ?_
  intro p e s m args below meth c A Q ls hx hb hml hown hts hA hS hP hD hK hZ hl hret
  have hl : lv_has ls 6 [(0, .ref s0), (1, .int (zI (n))), (2, .ref bi), (3, .int (zI (fb)))] := hl
  have o5 := hO.2.2.2.2.2.1
  refine lv_iconst (v := zI (0)) hx hb dX1_gatherWays_0 rfl ?_
  refine lv_istore (lv' := [(4, .int (zI (0))), (0, .ref s0), (1, .int (zI (n))), (2, .ref bi), (3, .int (zI (fb)))]) hx hb dX1_gatherWays_1 hl (by decide) rfl (fun ls hl => ?_)
  refine lv_iconst (v := zI (0)) hx hb dX1_gatherWays_3 rfl ?_
  refine lv_istore (lv' := [(5, .int (zI (0))), (4, .int (zI (0))), (0, .ref s0), (1, .int (zI (n))), (2, .ref bi), (3, .int (zI (fb)))]) hx hb dX1_gatherWays_4 hl (by decide) rfl (fun ls hl => ?_)
  have loop_a : ∀ (f_a : Nat) (k : Nat) (x : Int) (r2 : Int → Int) (H : Heap) (locs : List Loc) (ls : Array Slot), (k ≤ 64) → (x = cnt (fun w => sd σ w n) k) → (∀ c : Int, c < fb ∨ fb + 8 ≤ c → r2 c = gf c) → (∀ i : Int, 0 ≤ i → i < x → r2 (fb + i) = nw σ n i) → (64 - (k : Int) < (f_a : Int)) → va_P D vwCl [(s0, .inr (1, [.int (zI (σ 0)), .ref b1, .ref b2, .ref b3, .int (zI (σ 9))])), (b1, .inl (cI, 3, .inl (zF (fun j => σ (1 + j))))), (b2, .inl (cI, 5, .inl (zF (fun j => σ (4 + j))))), (b3, .inl (cI, 12, .inl (zF (fun j => σ (10 + j))))), (bi, .inl (cI, N, .inl (zF (r2))))] H → va_D A [(s0, .inr (1, [.int (zI (σ 0)), .ref b1, .ref b2, .ref b3, .int (zI (σ 9))])), (b1, .inl (cI, 3, .inl (zF (fun j => σ (1 + j))))), (b2, .inl (cI, 5, .inl (zF (fun j => σ (4 + j))))), (b3, .inl (cI, 12, .inl (zF (fun j => σ (10 + j))))), (bi, .inl (cI, N, .inl (zF (r2))))] → va_S A s.heap H locs → lv_has ls 6 [(0, .ref s0), (1, .int (zI (n))), (2, .ref bi), (3, .int (zI (fb))), (4, .int (zI (x))), (5, .int (zI ((k : Int))))] → W p l e rmX1_gatherWays s m args below meth c H locs 0 0 Q (F0 m 6 ls []) := by
    intro f_a
    induction f_a with
    | zero =>
      intros
      exfalso; omega
    | succ f_a ih_a =>
      intro k x r2 H locs ls e_k e_x e_o e_g hfu_a hP hD hS hl
      have e_8 := cnt8 hO n k
      have e_0 := cnt_in (fun w => sd σ w n) k
      have e_9 := cnt8 hO n (k + 1)
      refine lv_iload hx hb dX1_gatherWays_6 (lv_at hl 5 rfl) ?_
      refine lv_bipush (v := zI (64)) hx hb dX1_gatherWays_8 (by decide +kernel) ?_
      refine z_icmp_ge (a := (k : Int)) (b := 64) (tgt := 65) hx hb (by omega) dX1_gatherWays_10 (by decide) (fun c_10 => ?_) (fun c_10 => ?_)
      · refine lv_iload hx hb dX1_gatherWays_65 (lv_at hl 4 rfl) ?_
        exact hret _ _ _ _ _ r2 dX1_gatherWays_67 ⟨by rw [e_x, show k = 64 by omega], e_o, fun i h0 h1 => e_g i h0 (by rw [e_x, show k = 64 by omega]; exact h1)⟩ hP hS
      · refine lv_iload hx hb dX1_gatherWays_13 (lv_at hl 4 rfl) ?_
        refine lv_bipush (v := zI (8)) hx hb dX1_gatherWays_15 (by decide +kernel) ?_
        refine z_icmp_ge (a := x) (b := 8) (tgt := 59) hx hb (by omega) dX1_gatherWays_17 (by decide) (fun c_17 => ?_) (fun c_17 => ?_)
        · have hns : ¬ sd σ (k : Int) n = true := fun h => by have h9 := cnt_y (q := fun w => sd σ w n) h; omega
          refine lv_iinc (v := zI ((k : Int) + 1)) (lv' := [(5, .int (zI ((k : Int) + 1))), (0, .ref s0), (1, .int (zI (n))), (2, .ref bi), (3, .int (zI (fb))), (4, .int (zI (x)))]) hx hb dX1_gatherWays_59 hl (k := 5) rfl (zI_add _ _) (by decide) rfl (fun ls hl => ?_)
          refine lv_goto (tgt := 6) hx hb dX1_gatherWays_62 (by decide) ?_
          exact ih_a (k + 1) (x) (r2) _ _ _ (by omega) (by first | (rw [cnt_n (q := fun w => sd σ w n) hns]; omega) | (rw [cnt_n (q := fun w => sd σ w n) (by simp only [sd, decide_eq_true_eq]; first | exact fun q => c_26 q.1 | (intro q; have := q.2; omega))]; omega)) (e_o) (e_g) (by omega) hP hD hS (lv_sub hl [1, 2, 3, 4, 5, 0] rfl)
        · refine lv_aload_n hx hb dX1_gatherWays_20 rfl (lv_at hl 0 rfl) ?_
          refine lv_iload hx hb dX1_gatherWays_21 (lv_at hl 5 rfl) ?_
          refine z_Vir (As := [.int (zI ((k : Int)))]) (rest := []) hx hb hml hown hts hA hS hP hD hK hZ hl.1 (c_X1_hasWay l D cI cJ cZ cO _ (s0) (b1) (b2) (b3) (σ) ((k : Int)) (by omega) hO) (cwV 1 hts gX1_gatherWays_X1_hasWay rfl rfl rfl (by decide +kernel) ⟨Nat.le_of_ble_eq_true rfl, Nat.le_of_ble_eq_true rfl⟩) [0, 1, 2, 3] rfl rfl 0 1 rfl rfl rfl rfl (Nat.le_of_ble_eq_true rfl) ⟨Nat.zero_le _, Nat.zero_le _⟩ dX1_gatherWays_23 (fun r u H locs hw hP hS => ?_)
          subst hw
          refine z_ifB_eq (P := okW σ (k : Int)) (tgt := 59) hx hb dX1_gatherWays_26 (by decide) (fun c_26 => ?_) (fun c_26 => ?_)
          · refine lv_iinc (v := zI ((k : Int) + 1)) (lv' := [(5, .int (zI ((k : Int) + 1))), (0, .ref s0), (1, .int (zI (n))), (2, .ref bi), (3, .int (zI (fb))), (4, .int (zI (x)))]) hx hb dX1_gatherWays_59 hl (k := 5) rfl (zI_add _ _) (by decide) rfl (fun ls hl => ?_)
            refine lv_goto (tgt := 6) hx hb dX1_gatherWays_62 (by decide) ?_
            exact ih_a (k + 1) (x) (r2) _ _ _ (by omega) (by first | (rw [cnt_n (q := fun w => sd σ w n) hns]; omega) | (rw [cnt_n (q := fun w => sd σ w n) (by simp only [sd, decide_eq_true_eq]; first | exact fun q => c_26 q.1 | (intro q; have := q.2; omega))]; omega)) (e_o) (e_g) (by omega) hP hD hS (lv_sub hl [1, 2, 3, 4, 5, 0] rfl)
          · have hw6 := c_26.1
            have ho := off_in hO (w := (k : Int)) (n := n) (by omega) h2
            have ha := aI_in (a := off σ (k : Int) n) (b := 4800) (by omega)
            refine lv_aload_n hx hb dX1_gatherWays_29 rfl (lv_at hl 0 rfl) ?_
            refine lv_iload hx hb dX1_gatherWays_30 (lv_at hl 5 rfl) ?_
            refine lv_iload_n hx hb dX1_gatherWays_32 rfl (lv_at hl 1 rfl) ?_
            refine z_Vir (As := [.int (zI ((k : Int))), .int (zI (n))]) (rest := []) hx hb hml hown hts hA hS hP hD hK hZ hl.1 (c_X1_offBy l D cI cJ cZ cO _ (s0) (b1) (b2) (b3) (σ) ((k : Int)) (n) (by omega) hO) (cwV 2 hts gX1_gatherWays_X1_offBy rfl rfl rfl (by decide +kernel) ⟨Nat.le_of_ble_eq_true rfl, Nat.le_of_ble_eq_true rfl⟩) [0, 1, 2, 3] rfl rfl 0 1 rfl rfl rfl rfl (Nat.le_of_ble_eq_true rfl) ⟨Nat.zero_le _, Nat.zero_le _⟩ dX1_gatherWays_33 (fun r u H locs hw hP hS => ?_)
            subst hw
            refine z_mabs (a := off σ (k : Int) n) hx hb (hml.trans hl.1.symm) hown (hts _ m_X1_gatherWays_0) (hts _ m_X1_gatherWays_1) (hts _ m_X1_gatherWays_2) (hts _ m_X1_gatherWays_3) (Nat.le_of_ble_eq_true rfl) (Nat.le_of_ble_eq_true rfl) (Nat.zero_le _) (Nat.zero_le _) (by omega) dX1_gatherWays_36 ?_
            refine lv_aload_n hx hb dX1_gatherWays_39 rfl (lv_at hl 0 rfl) ?_
            refine va_get (D := D) (ci := 1) (v := .ref b2) (C := RX1) (T := TX1) (N := 5) hx hb hts in_X1_gatherWays_X1 hown hK hP 0 rfl rfl 2 (by decide) (hts _ m_X1_gatherWays_4) (fun _ h9 => h9) rfl dX1_gatherWays_40 ?_
            refine lv_iconst (v := zI (1)) hx hb dX1_gatherWays_43 rfl ?_
            refine z_iald (k := 1) (g := fun j => σ (4 + j)) hx hb hK hP 2 0 rfl rfl (by omega) dX1_gatherWays_44 ?_
            try dsimp only
            refine z_top (y := zI (σ 5)) rfl ?_
            refine z_icmp_gt (a := aI (off σ (k : Int) n)) (b := σ 5) (tgt := 59) hx hb (by omega) dX1_gatherWays_45 (by decide) (fun c_45 => ?_) (fun c_45 => ?_)
            · refine lv_iinc (v := zI ((k : Int) + 1)) (lv' := [(5, .int (zI ((k : Int) + 1))), (0, .ref s0), (1, .int (zI (n))), (2, .ref bi), (3, .int (zI (fb))), (4, .int (zI (x)))]) hx hb dX1_gatherWays_59 hl (k := 5) rfl (zI_add _ _) (by decide) rfl (fun ls hl => ?_)
              refine lv_goto (tgt := 6) hx hb dX1_gatherWays_62 (by decide) ?_
              exact ih_a (k + 1) (x) (r2) _ _ _ (by omega) (by first | (rw [cnt_n (q := fun w => sd σ w n) hns]; omega) | (rw [cnt_n (q := fun w => sd σ w n) (by simp only [sd, decide_eq_true_eq]; first | exact fun q => c_26 q.1 | (intro q; have := q.2; omega))]; omega)) (e_o) (e_g) (by omega) hP hD hS (lv_sub hl [1, 2, 3, 4, 5, 0] rfl)
            · have hsd : sd σ (k : Int) n = true := by simp only [sd, decide_eq_true_eq]; exact ⟨c_26, c_45⟩
              refine lv_aload_n hx hb dX1_gatherWays_48 rfl (lv_at hl 2 rfl) ?_
              refine lv_iload_n hx hb dX1_gatherWays_49 rfl (lv_at hl 3 rfl) ?_
              refine lv_iload hx hb dX1_gatherWays_50 (lv_at hl 4 rfl) ?_
              refine z_iadd (a := fb) (b := x) hx hb dX1_gatherWays_52 ?_
              refine lv_iload hx hb dX1_gatherWays_53 (lv_at hl 5 rfl) ?_
              refine z_iast (k := fb + x) (x := (k : Int)) (g := r2) hx hb hK hP hD hS 4 0 rfl rfl (by omega) dX1_gatherWays_55 (fun H locs hP hD hS => ?_)
              have hP : va_P D vwCl [(s0, .inr (1, [.int (zI (σ 0)), .ref b1, .ref b2, .ref b3, .int (zI (σ 9))])), (b1, .inl (cI, 3, .inl (zF (fun j => σ (1 + j))))), (b2, .inl (cI, 5, .inl (zF (fun j => σ (4 + j))))), (b3, .inl (cI, 12, .inl (zF (fun j => σ (10 + j))))), (bi, .inl (cI, N, .inl (zF (upI r2 (fb + x) (k : Int)))))] H := hP
              have hD : va_D A [(s0, .inr (1, [.int (zI (σ 0)), .ref b1, .ref b2, .ref b3, .int (zI (σ 9))])), (b1, .inl (cI, 3, .inl (zF (fun j => σ (1 + j))))), (b2, .inl (cI, 5, .inl (zF (fun j => σ (4 + j))))), (b3, .inl (cI, 12, .inl (zF (fun j => σ (10 + j))))), (bi, .inl (cI, N, .inl (zF (upI r2 (fb + x) (k : Int)))))] := hD
              refine lv_iinc (v := zI (x + 1)) (lv' := [(4, .int (zI (x + 1))), (0, .ref s0), (1, .int (zI (n))), (2, .ref bi), (3, .int (zI (fb))), (5, .int (zI ((k : Int))))]) hx hb dX1_gatherWays_56 hl (k := 4) rfl (zI_add _ _) (by decide) rfl (fun ls hl => ?_)
              refine lv_iinc (v := zI ((k : Int) + 1)) (lv' := [(5, .int (zI ((k : Int) + 1))), (4, .int (zI (x + 1))), (0, .ref s0), (1, .int (zI (n))), (2, .ref bi), (3, .int (zI (fb)))]) hx hb dX1_gatherWays_59 hl (k := 5) rfl (zI_add _ _) (by decide) rfl (fun ls hl => ?_)
              refine lv_goto (tgt := 6) hx hb dX1_gatherWays_62 (by decide) ?_
              exact ih_a (k + 1) (x + 1) (upI r2 (fb + x) (k : Int)) _ _ _ (by omega) (by rw [cnt_y (q := fun w => sd σ w n) hsd]; omega) (fun c hc => (upI_n (by omega)).trans (e_o c hc)) (fun i h0 h1 => if hi : i = x then by rw [hi, upI_s, e_x, nw_at (by omega) hsd] else (upI_n (by omega)).trans (e_g i h0 (by omega))) (by omega) hP hD hS (lv_sub hl [2, 3, 4, 5, 1, 0] rfl)
  exact loop_a 70 (0) (0) (gf) _ _ _ (by omega) (rfl) (fun _ _ => rfl) (fun i h0 h1 => by omega) (by omega) hP hD hS (lv_sub hl [2, 3, 4, 5, 1, 0] rfl)
abbrev rmX1_motion : Room := { frames := 1, cells := 0, slots := 0, locals := 20 }
theorem in_X1_motion_X1 : ∀ w ∈ wsX10, w ∈ wsX1_motion := fun _ h => List.mem_cons_of_mem _ (List.mem_append_right _ h)
theorem m_X1_motion_0 : (.fieldLink RX1 9 "BrassWays$Setup" "kind" "I" : Cond) ∈ wsX1_motion := List.mem_of_getElem? (i := 1) rfl
theorem m_X1_motion_1 : (.methodLink RX1 56 Lib.Math.abs.name : Cond) ∈ wsX1_motion := List.mem_of_getElem? (i := 2) rfl
theorem m_X1_motion_2 : (.static Lib.Math.abs.name : Cond) ∈ wsX1_motion := List.mem_of_getElem? (i := 3) rfl
theorem m_X1_motion_3 : (.initialized "java/lang/Math" : Cond) ∈ wsX1_motion := List.mem_of_getElem? (i := 4) rfl
theorem m_X1_motion_4 : (.code Lib.Math.abs.name Lib.Math.abs.code 1 (some .int) : Cond) ∈ wsX1_motion := List.mem_of_getElem? (i := 5) rfl
theorem m_X1_motion_5 : (.fieldLink RX1 19 "BrassWays$Setup" "rules" "[I" : Cond) ∈ wsX1_motion := List.mem_of_getElem? (i := 6) rfl
set_option maxHeartbeats 4000000 in
set_option maxRecDepth 100000 in
theorem c_X1_motion (l : Launch) (D : va_G) (cI cJ cZ cO : ClassId) (sz : Nat) (s0 : Nat) (b1 : Nat) (b2 : Nat) (b3 : Nat) (σ : Int → Int) (a : Int) (b : Int) (h1 : (0 ≤ a ∧ a < 64) ∧ 0 ≤ b ∧ b < 64) (hO : Ok σ) : Met l yX1_motion wsX1_motion rmX1_motion (zPc D cI cJ cZ cO [(s0, .inr (1, [.int (zI (σ 0)), .ref b1, .ref b2, .ref b3, .int (zI (σ 9))])), (b1, .inl (cI, 3, .inl (zF (fun j => σ (1 + j))))), (b2, .inl (cI, 5, .inl (zF (fun j => σ (4 + j))))), (b3, .inl (cI, 12, .inl (zF (fun j => σ (10 + j)))))] sz [.ref s0, .int (zI (a)), .int (zI (b))]) (zQi D (fun (r : Int32) (_ : Unit) => r = zI (eff σ a b)) (fun (_ : Unit) => [(s0, .inr (1, [.int (zI (σ 0)), .ref b1, .ref b2, .ref b3, .int (zI (σ 9))])), (b1, .inl (cI, 3, .inl (zF (fun j => σ (1 + j))))), (b2, .inl (cI, 5, .inl (zF (fun j => σ (4 + j))))), (b3, .inl (cI, 12, .inl (zF (fun j => σ (10 + j)))))]) [(s0, .inr (1, [.int (zI (σ 0)), .ref b1, .ref b2, .ref b3, .int (zI (σ 9))])), (b1, .inl (cI, 3, .inl (zF (fun j => σ (1 + j))))), (b2, .inl (cI, 5, .inl (zF (fun j => σ (4 + j))))), (b3, .inl (cI, 12, .inl (zF (fun j => σ (10 + j)))))] sz) 0 0 (va_A [(s0, .inr (1, [.int (zI (σ 0)), .ref b1, .ref b2, .ref b3, .int (zI (σ 9))])), (b1, .inl (cI, 3, .inl (zF (fun j => σ (1 + j))))), (b2, .inl (cI, 5, .inl (zF (fun j => σ (4 + j))))), (b3, .inl (cI, 12, .inl (zF (fun j => σ (10 + j)))))] sz) := by
  refine z_meti (by decide) rfl (Nat.le_of_ble_eq_true rfl) ?_
  intro p e s m args below meth c A Q ls hx hb hml hown hts hA hS hP hD hK hZ hl hret
  have hl : lv_has ls 7 [(0, .ref s0), (1, .int (zI (a))), (2, .int (zI (b)))] := hl
  have o0 := hO.1
  have hx8 := xorI_in (a := a % 8) (b := b % 8) (by omega) (by omega)
  refine lv_iload_n hx hb dX1_motion_0 rfl (lv_at hl 1 rfl) ?_
  refine lv_bipush (v := zI (8)) hx hb dX1_motion_1 (by decide +kernel) ?_
  refine z_irem (a := a) (b := 8) hx hb (by omega) dX1_motion_3 ?_
  refine lv_istore_n (lv' := [(3, .int (zI (a % 8))), (0, .ref s0), (1, .int (zI (a))), (2, .int (zI (b)))]) hx hb dX1_motion_4 rfl hl (by decide) rfl (fun ls hl => ?_)
  refine lv_iload_n hx hb dX1_motion_5 rfl (lv_at hl 3 rfl) ?_
  refine lv_bipush (v := zI (8)) hx hb dX1_motion_6 (by decide +kernel) ?_
  refine z_irem (a := b) (b := 8) hx hb (by omega) dX1_motion_8 ?_
  refine lv_istore (lv' := [(4, .int (zI (b % 8))), (3, .int (zI (a % 8))), (0, .ref s0), (1, .int (zI (a))), (2, .int (zI (b)))]) hx hb dX1_motion_9 hl (by decide) rfl (fun ls hl => ?_)
  refine lv_aload_n hx hb dX1_motion_11 rfl (lv_at hl 2 rfl) ?_
  refine va_get (D := D) (ci := 1) (v := .int (zI (σ 0))) (C := RX1) (T := TX1) (N := 5) hx hb hts in_X1_motion_X1 hown hK hP 0 rfl rfl 0 (by decide) (hts _ m_X1_motion_0) (fun _ h9 => h9) rfl dX1_motion_12 ?_
  refine lv_iconst (v := zI (1)) hx hb dX1_motion_15 rfl ?_
  refine z_icmp_ne (a := σ 0) (b := 1) (tgt := 29) hx hb (by omega) dX1_motion_16 (by decide) (fun c_16 => ?_) (fun c_16 => ?_)
  · refine lv_iload_n hx hb dX1_motion_29 rfl (lv_at hl 1 rfl) ?_
    refine lv_iload hx hb dX1_motion_30 (lv_at hl 0 rfl) ?_
    refine lv_ixor hx hb dX1_motion_32 ?_
    refine z_top (y := zI (xorI (a % 8) (b % 8))) (z_xor (by omega) (by omega)) ?_
    refine z_Sir (As := [.int (zI (xorI (a % 8) (b % 8)))]) (rest := []) hx hb hml hown hts hA hS hP hD hK hZ hl.1 (c_J6_bitCount_0f7a4 l D cI cJ cZ cO _ (xorI (a % 8) (b % 8)) (by omega)) (va_cwS 1 hts gX1_motion_J6_bitCount_0f7a4 rfl rfl rfl (by decide +kernel) ⟨Nat.le_of_ble_eq_true rfl, Nat.le_of_ble_eq_true rfl⟩) [] rfl rfl rfl rfl (Nat.le_of_ble_eq_true rfl) ⟨Nat.zero_le _, Nat.zero_le _⟩ dX1_motion_33 (fun r u H locs hw hP hS => ?_)
    subst hw
    refine z_top (y := zI (bitsI (xorI (a % 8) (b % 8)))) (by rw [bcI_small (by omega)]) ?_
    refine lv_istore (lv' := [(5, .int (zI (bitsI (xorI (a % 8) (b % 8))))), (4, .int (zI (b % 8))), (3, .int (zI (a % 8))), (0, .ref s0), (1, .int (zI (a))), (2, .int (zI (b)))]) hx hb dX1_motion_36 hl (by decide) rfl (fun ls hl => ?_)
    refine lv_iload_n hx hb dX1_motion_38 rfl (lv_at hl 4 rfl) ?_
    refine lv_bipush (v := zI (8)) hx hb dX1_motion_39 (by decide +kernel) ?_
    refine z_idiv (a := a) (b := 8) hx hb (by omega) dX1_motion_41 ?_
    refine lv_iload_n hx hb dX1_motion_42 rfl (lv_at hl 5 rfl) ?_
    refine lv_bipush (v := zI (8)) hx hb dX1_motion_43 (by decide +kernel) ?_
    refine z_idiv (a := b) (b := 8) hx hb (by omega) dX1_motion_45 ?_
    refine z_isub (a := a / 8) (b := b / 8) hx hb dX1_motion_46 ?_
    refine z_mabs (a := (a / 8) - (b / 8)) hx hb (hml.trans hl.1.symm) hown (hts _ m_X1_motion_1) (hts _ m_X1_motion_2) (hts _ m_X1_motion_3) (hts _ m_X1_motion_4) (Nat.le_of_ble_eq_true rfl) (Nat.le_of_ble_eq_true rfl) (Nat.zero_le _) (Nat.zero_le _) (by omega) dX1_motion_47 ?_
    refine lv_istore (lv' := [(6, .int (zI (aI ((a / 8) - (b / 8))))), (5, .int (zI (bitsI (xorI (a % 8) (b % 8))))), (4, .int (zI (b % 8))), (3, .int (zI (a % 8))), (0, .ref s0), (1, .int (zI (a))), (2, .int (zI (b)))]) hx hb dX1_motion_50 hl (by decide) rfl (fun ls hl => ?_)
    refine lv_aload_n hx hb dX1_motion_52 rfl (lv_at hl 4 rfl) ?_
    refine va_get (D := D) (ci := 1) (v := .ref b2) (C := RX1) (T := TX1) (N := 5) hx hb hts in_X1_motion_X1 hown hK hP 0 rfl rfl 2 (by decide) (hts _ m_X1_motion_5) (fun _ h9 => h9) rfl dX1_motion_53 ?_
    refine lv_iconst (v := zI (2)) hx hb dX1_motion_56 rfl ?_
    refine z_iald (k := 2) (g := fun j => σ (4 + j)) hx hb hK hP 2 0 rfl rfl (by omega) dX1_motion_57 ?_
    try dsimp only
    refine z_top (y := zI (σ 6)) rfl ?_
    refine lv_iload hx hb dX1_motion_58 (lv_at hl 1 rfl) ?_
    refine z_imul (a := σ 6) (b := bitsI (xorI (a % 8) (b % 8))) hx hb dX1_motion_60 ?_
    refine lv_aload_n hx hb dX1_motion_61 rfl (lv_at hl 4 rfl) ?_
    refine va_get (D := D) (ci := 1) (v := .ref b2) (C := RX1) (T := TX1) (N := 5) hx hb hts in_X1_motion_X1 hown hK hP 0 rfl rfl 2 (by decide) (hts _ m_X1_motion_5) (fun _ h9 => h9) rfl dX1_motion_62 ?_
    refine lv_iconst (v := zI (3)) hx hb dX1_motion_65 rfl ?_
    refine z_iald (k := 3) (g := fun j => σ (4 + j)) hx hb hK hP 2 0 rfl rfl (by omega) dX1_motion_66 ?_
    try dsimp only
    refine z_top (y := zI (σ 7)) rfl ?_
    refine lv_iload hx hb dX1_motion_67 (lv_at hl 0 rfl) ?_
    refine z_imul (a := σ 7) (b := aI ((a / 8) - (b / 8))) hx hb dX1_motion_69 ?_
    refine z_iadd (a := (σ 6) * (bitsI (xorI (a % 8) (b % 8)))) (b := (σ 7) * (aI ((a / 8) - (b / 8)))) hx hb dX1_motion_70 ?_
    exact hret _ _ _ _ _ () dX1_motion_71 (by unfold eff; first | (rw [if_pos (by omega)]; done) | (rw [if_neg (by omega)]; done)) hP hS
  · refine lv_iload_n hx hb dX1_motion_19 rfl (lv_at hl 1 rfl) ?_
    refine lv_iload hx hb dX1_motion_20 (lv_at hl 0 rfl) ?_
    refine z_isub (a := a % 8) (b := b % 8) hx hb dX1_motion_22 ?_
    refine z_mabs (a := (a % 8) - (b % 8)) hx hb (hml.trans hl.1.symm) hown (hts _ m_X1_motion_1) (hts _ m_X1_motion_2) (hts _ m_X1_motion_3) (hts _ m_X1_motion_4) (Nat.le_of_ble_eq_true rfl) (Nat.le_of_ble_eq_true rfl) (Nat.zero_le _) (Nat.zero_le _) (by omega) dX1_motion_23 ?_
    refine lv_goto (tgt := 36) hx hb dX1_motion_26 (by decide) ?_
    refine lv_istore (lv' := [(5, .int (zI (aI ((a % 8) - (b % 8))))), (4, .int (zI (b % 8))), (3, .int (zI (a % 8))), (0, .ref s0), (1, .int (zI (a))), (2, .int (zI (b)))]) hx hb dX1_motion_36 hl (by decide) rfl (fun ls hl => ?_)
    refine lv_iload_n hx hb dX1_motion_38 rfl (lv_at hl 4 rfl) ?_
    refine lv_bipush (v := zI (8)) hx hb dX1_motion_39 (by decide +kernel) ?_
    refine z_idiv (a := a) (b := 8) hx hb (by omega) dX1_motion_41 ?_
    refine lv_iload_n hx hb dX1_motion_42 rfl (lv_at hl 5 rfl) ?_
    refine lv_bipush (v := zI (8)) hx hb dX1_motion_43 (by decide +kernel) ?_
    refine z_idiv (a := b) (b := 8) hx hb (by omega) dX1_motion_45 ?_
    refine z_isub (a := a / 8) (b := b / 8) hx hb dX1_motion_46 ?_
    refine z_mabs (a := (a / 8) - (b / 8)) hx hb (hml.trans hl.1.symm) hown (hts _ m_X1_motion_1) (hts _ m_X1_motion_2) (hts _ m_X1_motion_3) (hts _ m_X1_motion_4) (Nat.le_of_ble_eq_true rfl) (Nat.le_of_ble_eq_true rfl) (Nat.zero_le _) (Nat.zero_le _) (by omega) dX1_motion_47 ?_
    refine lv_istore (lv' := [(6, .int (zI (aI ((a / 8) - (b / 8))))), (5, .int (zI (aI ((a % 8) - (b % 8))))), (4, .int (zI (b % 8))), (3, .int (zI (a % 8))), (0, .ref s0), (1, .int (zI (a))), (2, .int (zI (b)))]) hx hb dX1_motion_50 hl (by decide) rfl (fun ls hl => ?_)
    refine lv_aload_n hx hb dX1_motion_52 rfl (lv_at hl 4 rfl) ?_
    refine va_get (D := D) (ci := 1) (v := .ref b2) (C := RX1) (T := TX1) (N := 5) hx hb hts in_X1_motion_X1 hown hK hP 0 rfl rfl 2 (by decide) (hts _ m_X1_motion_5) (fun _ h9 => h9) rfl dX1_motion_53 ?_
    refine lv_iconst (v := zI (2)) hx hb dX1_motion_56 rfl ?_
    refine z_iald (k := 2) (g := fun j => σ (4 + j)) hx hb hK hP 2 0 rfl rfl (by omega) dX1_motion_57 ?_
    try dsimp only
    refine z_top (y := zI (σ 6)) rfl ?_
    refine lv_iload hx hb dX1_motion_58 (lv_at hl 1 rfl) ?_
    refine z_imul (a := σ 6) (b := aI ((a % 8) - (b % 8))) hx hb dX1_motion_60 ?_
    refine lv_aload_n hx hb dX1_motion_61 rfl (lv_at hl 4 rfl) ?_
    refine va_get (D := D) (ci := 1) (v := .ref b2) (C := RX1) (T := TX1) (N := 5) hx hb hts in_X1_motion_X1 hown hK hP 0 rfl rfl 2 (by decide) (hts _ m_X1_motion_5) (fun _ h9 => h9) rfl dX1_motion_62 ?_
    refine lv_iconst (v := zI (3)) hx hb dX1_motion_65 rfl ?_
    refine z_iald (k := 3) (g := fun j => σ (4 + j)) hx hb hK hP 2 0 rfl rfl (by omega) dX1_motion_66 ?_
    try dsimp only
    refine z_top (y := zI (σ 7)) rfl ?_
    refine lv_iload hx hb dX1_motion_67 (lv_at hl 0 rfl) ?_
    refine z_imul (a := σ 7) (b := aI ((a / 8) - (b / 8))) hx hb dX1_motion_69 ?_
    refine z_iadd (a := (σ 6) * (aI ((a % 8) - (b % 8)))) (b := (σ 7) * (aI ((a / 8) - (b / 8)))) hx hb dX1_motion_70 ?_
    exact hret _ _ _ _ _ () dX1_motion_71 (by unfold eff; first | (rw [if_pos (by omega)]; done) | (rw [if_neg (by omega)]; done)) hP hS
abbrev rmX1_fault : Room := { frames := 3, cells := 0, slots := 0, locals := 68 }
theorem in_X1_fault_X1 : ∀ w ∈ wsX10, w ∈ wsX1_fault := fun _ h => List.mem_cons_of_mem _ (List.mem_append_right _ h)
theorem m_X1_fault_0 : (.fieldLink RX1 19 "BrassWays$Setup" "rules" "[I" : Cond) ∈ wsX1_fault := List.mem_of_getElem? (i := 1) rfl
theorem m_X1_fault_1 : (.methodLink RX1 56 Lib.Math.abs.name : Cond) ∈ wsX1_fault := List.mem_of_getElem? (i := 2) rfl
theorem m_X1_fault_2 : (.static Lib.Math.abs.name : Cond) ∈ wsX1_fault := List.mem_of_getElem? (i := 3) rfl
theorem m_X1_fault_3 : (.initialized "java/lang/Math" : Cond) ∈ wsX1_fault := List.mem_of_getElem? (i := 4) rfl
theorem m_X1_fault_4 : (.code Lib.Math.abs.name Lib.Math.abs.code 1 (some .int) : Cond) ∈ wsX1_fault := List.mem_of_getElem? (i := 5) rfl
set_option maxHeartbeats 4000000 in
set_option maxRecDepth 100000 in
theorem c_X1_fault (l : Launch) (D : va_G) (cI cJ cZ cO : ClassId) (sz : Nat) (s0 : Nat) (b1 : Nat) (b2 : Nat) (b3 : Nat) (σ : Int → Int) (w : Int) (n : Int) (h1 : 0 ≤ w ∧ w < 64) (h2 : 0 ≤ n ∧ n ≤ 36) (hO : Ok σ) : Met l yX1_fault wsX1_fault rmX1_fault (zPc D cI cJ cZ cO [(s0, .inr (1, [.int (zI (σ 0)), .ref b1, .ref b2, .ref b3, .int (zI (σ 9))])), (b1, .inl (cI, 3, .inl (zF (fun j => σ (1 + j))))), (b2, .inl (cI, 5, .inl (zF (fun j => σ (4 + j))))), (b3, .inl (cI, 12, .inl (zF (fun j => σ (10 + j)))))] sz [.ref s0, .int (zI (w)), .int (zI (n))]) (zQi D (fun (r : Int32) (_ : Unit) => r = zI (flt σ w n)) (fun (_ : Unit) => [(s0, .inr (1, [.int (zI (σ 0)), .ref b1, .ref b2, .ref b3, .int (zI (σ 9))])), (b1, .inl (cI, 3, .inl (zF (fun j => σ (1 + j))))), (b2, .inl (cI, 5, .inl (zF (fun j => σ (4 + j))))), (b3, .inl (cI, 12, .inl (zF (fun j => σ (10 + j)))))]) [(s0, .inr (1, [.int (zI (σ 0)), .ref b1, .ref b2, .ref b3, .int (zI (σ 9))])), (b1, .inl (cI, 3, .inl (zF (fun j => σ (1 + j))))), (b2, .inl (cI, 5, .inl (zF (fun j => σ (4 + j))))), (b3, .inl (cI, 12, .inl (zF (fun j => σ (10 + j)))))] sz) 0 0 (va_A [(s0, .inr (1, [.int (zI (σ 0)), .ref b1, .ref b2, .ref b3, .int (zI (σ 9))])), (b1, .inl (cI, 3, .inl (zF (fun j => σ (1 + j))))), (b2, .inl (cI, 5, .inl (zF (fun j => σ (4 + j))))), (b3, .inl (cI, 12, .inl (zF (fun j => σ (10 + j)))))] sz) := by
  refine z_meti (by decide) rfl (Nat.le_of_ble_eq_true rfl) ?_
  intro p e s m args below meth c A Q ls hx hb hml hown hts hA hS hP hD hK hZ hl hret
  have hl : lv_has ls 3 [(0, .ref s0), (1, .int (zI (w))), (2, .int (zI (n)))] := hl
  have o1 := off_in hO h1 h2
  have o2 : 0 ≤ aI (off σ w n) ∧ aI (off σ w n) ≤ 4800 := aI_in (by omega)
  have o3 := mul_in hO.2.2.2.2.2.2.2.2.1 o2
  refine lv_aload_n hx hb dX1_fault_0 rfl (lv_at hl 0 rfl) ?_
  refine va_get (D := D) (ci := 1) (v := .ref b2) (C := RX1) (T := TX1) (N := 5) hx hb hts in_X1_fault_X1 hown hK hP 0 rfl rfl 2 (by decide) (hts _ m_X1_fault_0) (fun _ h9 => h9) rfl dX1_fault_1 ?_
  refine lv_iconst (v := zI (4)) hx hb dX1_fault_4 rfl ?_
  refine z_iald (k := 4) (g := fun j => σ (4 + j)) hx hb hK hP 2 0 rfl rfl (by omega) dX1_fault_5 ?_
  try dsimp only
  refine z_top (y := zI (σ 8)) rfl ?_
  refine lv_aload_n hx hb dX1_fault_6 rfl (lv_at hl 0 rfl) ?_
  refine lv_iload_n hx hb dX1_fault_7 rfl (lv_at hl 1 rfl) ?_
  refine lv_iload_n hx hb dX1_fault_8 rfl (lv_at hl 2 rfl) ?_
  refine z_Vir (As := [.int (zI (w)), .int (zI (n))]) (rest := [.int (zI (σ 8))]) hx hb hml hown hts hA hS hP hD hK hZ hl.1 (c_X1_offBy l D cI cJ cZ cO _ (s0) (b1) (b2) (b3) (σ) (w) (n) (by omega) hO) (cwV 2 hts gX1_fault_X1_offBy rfl rfl rfl (by decide +kernel) ⟨Nat.le_of_ble_eq_true rfl, Nat.le_of_ble_eq_true rfl⟩) [0, 1, 2, 3] rfl rfl 0 1 rfl rfl rfl rfl (Nat.le_of_ble_eq_true rfl) ⟨Nat.zero_le _, Nat.zero_le _⟩ dX1_fault_9 (fun r u H locs hw hP hS => ?_)
  subst hw
  refine z_mabs (a := off σ w n) hx hb (hml.trans hl.1.symm) hown (hts _ m_X1_fault_1) (hts _ m_X1_fault_2) (hts _ m_X1_fault_3) (hts _ m_X1_fault_4) (Nat.le_of_ble_eq_true rfl) (Nat.le_of_ble_eq_true rfl) (Nat.zero_le _) (Nat.zero_le _) (by omega) dX1_fault_12 ?_
  refine z_imul (a := σ 8) (b := aI (off σ w n)) hx hb dX1_fault_15 ?_
  refine lv_bipush (v := zI (10)) hx hb dX1_fault_16 (by decide +kernel) ?_
  refine z_idiv (a := (σ 8) * (aI (off σ w n))) (b := 10) hx hb (by omega) dX1_fault_18 ?_
  exact hret _ _ _ _ _ () dX1_fault_19 rfl hP hS
abbrev rmX1_takeFrom : Room := { frames := 1, cells := 0, slots := 0, locals := 60 }
theorem in_X1_takeFrom_X1 : ∀ w ∈ wsX10, w ∈ wsX1_takeFrom := fun _ h => List.mem_cons_of_mem _ (List.mem_append_right _ h)
theorem m_X1_takeFrom_0 : (.fieldLink RX1 9 "BrassWays$Setup" "kind" "I" : Cond) ∈ wsX1_takeFrom := List.mem_of_getElem? (i := 1) rfl
theorem m_X1_takeFrom_1 : (.fieldLink RX1 25 "BrassWays$Setup" "size" "I" : Cond) ∈ wsX1_takeFrom := List.mem_of_getElem? (i := 2) rfl
theorem m_X1_takeFrom_2 : (.fieldLink RX1 15 "BrassWays$Setup" "lengths" "[I" : Cond) ∈ wsX1_takeFrom := List.mem_of_getElem? (i := 3) rfl
theorem m_X1_takeFrom_3 : (.methodLink RX1 28 arraycopyName : Cond) ∈ wsX1_takeFrom := List.mem_of_getElem? (i := 4) rfl
theorem m_X1_takeFrom_4 : (.native arraycopyName : Cond) ∈ wsX1_takeFrom := List.mem_of_getElem? (i := 5) rfl
theorem m_X1_takeFrom_5 : (.static arraycopyName : Cond) ∈ wsX1_takeFrom := List.mem_of_getElem? (i := 6) rfl
theorem m_X1_takeFrom_6 : (.initialized "java/lang/System" : Cond) ∈ wsX1_takeFrom := List.mem_of_getElem? (i := 7) rfl
theorem m_X1_takeFrom_7 : (.fieldLink RX1 19 "BrassWays$Setup" "rules" "[I" : Cond) ∈ wsX1_takeFrom := List.mem_of_getElem? (i := 8) rfl
theorem m_X1_takeFrom_8 : (.fieldLink RX1 22 "BrassWays$Setup" "notes" "[I" : Cond) ∈ wsX1_takeFrom := List.mem_of_getElem? (i := 9) rfl
set_option maxHeartbeats 4000000 in
set_option maxRecDepth 100000 in
theorem c_X1_takeFrom (l : Launch) (D : va_G) (cI cJ cZ cO : ClassId) (sz : Nat) (s0 : Nat) (b1 : Nat) (b2 : Nat) (b3 : Nat) (σ : Int → Int) (s1 : Nat) (d1 : Nat) (d2 : Nat) (d3 : Nat) (τ : Int → Int)  : Met l yX1_takeFrom wsX1_takeFrom rmX1_takeFrom (zPc D cI cJ cZ cO [(s0, .inr (1, [.int (zI (σ 0)), .ref b1, .ref b2, .ref b3, .int (zI (σ 9))])), (b1, .inl (cI, 3, .inl (zF (fun j => σ (1 + j))))), (b2, .inl (cI, 5, .inl (zF (fun j => σ (4 + j))))), (b3, .inl (cI, 12, .inl (zF (fun j => σ (10 + j))))), (s1, .inr (1, [.int (zI (τ 0)), .ref d1, .ref d2, .ref d3, .int (zI (τ 9))])), (d1, .inl (cI, 3, .inl (zF (fun j => τ (1 + j))))), (d2, .inl (cI, 5, .inl (zF (fun j => τ (4 + j))))), (d3, .inl (cI, 12, .inl (zF (fun j => τ (10 + j)))))] sz [.ref s0, .ref s1]) (zQv D (fun (_ : Unit) => True) (fun (_ : Unit) => [(s0, .inr (1, [.int (zI (τ 0)), .ref b1, .ref b2, .ref b3, .int (zI (τ 9))])), (b1, .inl (cI, 3, .inl (zF (fun j => τ (1 + j))))), (b2, .inl (cI, 5, .inl (zF (fun j => τ (4 + j))))), (b3, .inl (cI, 12, .inl (zF (fun j => τ (10 + j))))), (s1, .inr (1, [.int (zI (τ 0)), .ref d1, .ref d2, .ref d3, .int (zI (τ 9))])), (d1, .inl (cI, 3, .inl (zF (fun j => τ (1 + j))))), (d2, .inl (cI, 5, .inl (zF (fun j => τ (4 + j))))), (d3, .inl (cI, 12, .inl (zF (fun j => τ (10 + j)))))]) [(s0, .inr (1, [.int (zI (σ 0)), .ref b1, .ref b2, .ref b3, .int (zI (σ 9))])), (b1, .inl (cI, 3, .inl (zF (fun j => σ (1 + j))))), (b2, .inl (cI, 5, .inl (zF (fun j => σ (4 + j))))), (b3, .inl (cI, 12, .inl (zF (fun j => σ (10 + j))))), (s1, .inr (1, [.int (zI (τ 0)), .ref d1, .ref d2, .ref d3, .int (zI (τ 9))])), (d1, .inl (cI, 3, .inl (zF (fun j => τ (1 + j))))), (d2, .inl (cI, 5, .inl (zF (fun j => τ (4 + j))))), (d3, .inl (cI, 12, .inl (zF (fun j => τ (10 + j)))))] sz) 0 0 (va_A [(s0, .inr (1, [.int (zI (σ 0)), .ref b1, .ref b2, .ref b3, .int (zI (σ 9))])), (b1, .inl (cI, 3, .inl (zF (fun j => σ (1 + j))))), (b2, .inl (cI, 5, .inl (zF (fun j => σ (4 + j))))), (b3, .inl (cI, 12, .inl (zF (fun j => σ (10 + j))))), (s1, .inr (1, [.int (zI (τ 0)), .ref d1, .ref d2, .ref d3, .int (zI (τ 9))])), (d1, .inl (cI, 3, .inl (zF (fun j => τ (1 + j))))), (d2, .inl (cI, 5, .inl (zF (fun j => τ (4 + j))))), (d3, .inl (cI, 12, .inl (zF (fun j => τ (10 + j)))))] sz) := by
  refine z_metv (by decide) rfl (Nat.le_of_ble_eq_true rfl) ?_
  intro p e s m args below meth c A Q ls hx hb hml hown hts hA hS hP hD hK hZ hl hret
  have hl : lv_has ls 2 [(0, .ref s0), (1, .ref s1)] := hl
  refine lv_aload_n hx hb dX1_takeFrom_0 rfl (lv_at hl 0 rfl) ?_
  refine lv_aload_n hx hb dX1_takeFrom_1 rfl (lv_at hl 1 rfl) ?_
  refine va_get (D := D) (ci := 1) (v := .int (zI (τ 0))) (C := RX1) (T := TX1) (N := 5) hx hb hts in_X1_takeFrom_X1 hown hK hP 4 rfl rfl 0 (by decide) (hts _ m_X1_takeFrom_0) (fun _ h9 => h9) rfl dX1_takeFrom_2 ?_
  refine va_put (D := D) (ci := 1) (v := .int (zI (τ 0))) (ty := .int) (C := RX1) (T := TX1) (N := 5) hx hb hts in_X1_takeFrom_X1 tyX1 tyX1_ok nmX1 hown hK hP hD hS 0 rfl rfl 0 (by decide) (hts _ m_X1_takeFrom_0) (fun _ h9 => h9) rfl (by decide +kernel) rfl rfl (Nat.le_of_ble_eq_true rfl) dX1_takeFrom_5 (fun H locs hP hD hS => ?_)
  have hP : va_P D vwCl [(s0, .inr (1, [.int (zI (τ 0)), .ref b1, .ref b2, .ref b3, .int (zI (σ 9))])), (b1, .inl (cI, 3, .inl (zF (fun j => σ (1 + j))))), (b2, .inl (cI, 5, .inl (zF (fun j => σ (4 + j))))), (b3, .inl (cI, 12, .inl (zF (fun j => σ (10 + j))))), (s1, .inr (1, [.int (zI (τ 0)), .ref d1, .ref d2, .ref d3, .int (zI (τ 9))])), (d1, .inl (cI, 3, .inl (zF (fun j => τ (1 + j))))), (d2, .inl (cI, 5, .inl (zF (fun j => τ (4 + j))))), (d3, .inl (cI, 12, .inl (zF (fun j => τ (10 + j)))))] H := hP
  have hD : va_D A [(s0, .inr (1, [.int (zI (τ 0)), .ref b1, .ref b2, .ref b3, .int (zI (σ 9))])), (b1, .inl (cI, 3, .inl (zF (fun j => σ (1 + j))))), (b2, .inl (cI, 5, .inl (zF (fun j => σ (4 + j))))), (b3, .inl (cI, 12, .inl (zF (fun j => σ (10 + j))))), (s1, .inr (1, [.int (zI (τ 0)), .ref d1, .ref d2, .ref d3, .int (zI (τ 9))])), (d1, .inl (cI, 3, .inl (zF (fun j => τ (1 + j))))), (d2, .inl (cI, 5, .inl (zF (fun j => τ (4 + j))))), (d3, .inl (cI, 12, .inl (zF (fun j => τ (10 + j)))))] := hD
  refine lv_aload_n hx hb dX1_takeFrom_8 rfl (lv_at hl 0 rfl) ?_
  refine lv_aload_n hx hb dX1_takeFrom_9 rfl (lv_at hl 1 rfl) ?_
  refine va_get (D := D) (ci := 1) (v := .int (zI (τ 9))) (C := RX1) (T := TX1) (N := 5) hx hb hts in_X1_takeFrom_X1 hown hK hP 4 rfl rfl 4 (by decide) (hts _ m_X1_takeFrom_1) (fun _ h9 => h9) rfl dX1_takeFrom_10 ?_
  refine va_put (D := D) (ci := 1) (v := .int (zI (τ 9))) (ty := .int) (C := RX1) (T := TX1) (N := 5) hx hb hts in_X1_takeFrom_X1 tyX1 tyX1_ok nmX1 hown hK hP hD hS 0 rfl rfl 4 (by decide) (hts _ m_X1_takeFrom_1) (fun _ h9 => h9) rfl (by decide +kernel) rfl rfl (Nat.le_of_ble_eq_true rfl) dX1_takeFrom_13 (fun H locs hP hD hS => ?_)
  have hP : va_P D vwCl [(s0, .inr (1, [.int (zI (τ 0)), .ref b1, .ref b2, .ref b3, .int (zI (τ 9))])), (b1, .inl (cI, 3, .inl (zF (fun j => σ (1 + j))))), (b2, .inl (cI, 5, .inl (zF (fun j => σ (4 + j))))), (b3, .inl (cI, 12, .inl (zF (fun j => σ (10 + j))))), (s1, .inr (1, [.int (zI (τ 0)), .ref d1, .ref d2, .ref d3, .int (zI (τ 9))])), (d1, .inl (cI, 3, .inl (zF (fun j => τ (1 + j))))), (d2, .inl (cI, 5, .inl (zF (fun j => τ (4 + j))))), (d3, .inl (cI, 12, .inl (zF (fun j => τ (10 + j)))))] H := hP
  have hD : va_D A [(s0, .inr (1, [.int (zI (τ 0)), .ref b1, .ref b2, .ref b3, .int (zI (τ 9))])), (b1, .inl (cI, 3, .inl (zF (fun j => σ (1 + j))))), (b2, .inl (cI, 5, .inl (zF (fun j => σ (4 + j))))), (b3, .inl (cI, 12, .inl (zF (fun j => σ (10 + j))))), (s1, .inr (1, [.int (zI (τ 0)), .ref d1, .ref d2, .ref d3, .int (zI (τ 9))])), (d1, .inl (cI, 3, .inl (zF (fun j => τ (1 + j))))), (d2, .inl (cI, 5, .inl (zF (fun j => τ (4 + j))))), (d3, .inl (cI, 12, .inl (zF (fun j => τ (10 + j)))))] := hD
  refine lv_aload_n hx hb dX1_takeFrom_16 rfl (lv_at hl 1 rfl) ?_
  refine va_get (D := D) (ci := 1) (v := .ref d1) (C := RX1) (T := TX1) (N := 5) hx hb hts in_X1_takeFrom_X1 hown hK hP 4 rfl rfl 1 (by decide) (hts _ m_X1_takeFrom_2) (fun _ h9 => h9) rfl dX1_takeFrom_17 ?_
  refine lv_iconst (v := zI (0)) hx hb dX1_takeFrom_20 rfl ?_
  refine lv_aload_n hx hb dX1_takeFrom_21 rfl (lv_at hl 0 rfl) ?_
  refine va_get (D := D) (ci := 1) (v := .ref b1) (C := RX1) (T := TX1) (N := 5) hx hb hts in_X1_takeFrom_X1 hown hK hP 0 rfl rfl 1 (by decide) (hts _ m_X1_takeFrom_2) (fun _ h9 => h9) rfl dX1_takeFrom_22 ?_
  refine lv_iconst (v := zI (0)) hx hb dX1_takeFrom_25 rfl ?_
  refine lv_iconst (v := zI (3)) hx hb dX1_takeFrom_26 rfl ?_
  refine z_copyi (f := fun j => τ (1 + j)) (g := fun j => σ (1 + j)) hx hb (hml.trans hl.1.symm) hown (hts _ m_X1_takeFrom_3) (hts _ m_X1_takeFrom_4) (hts _ m_X1_takeFrom_5) (hts _ m_X1_takeFrom_6) hK hP hD hS 5 1 3 (by decide) rfl rfl rfl (Nat.le_of_ble_eq_true rfl) (by decide +kernel) dX1_takeFrom_27 (fun H locs hP hD hS => ?_)
  have hP : va_P D vwCl [(s0, .inr (1, [.int (zI (τ 0)), .ref b1, .ref b2, .ref b3, .int (zI (τ 9))])), (b1, .inl (cI, 3, .inl (zF (cpA (fun j => σ (1 + j)) (fun j => τ (1 + j)) 3)))), (b2, .inl (cI, 5, .inl (zF (fun j => σ (4 + j))))), (b3, .inl (cI, 12, .inl (zF (fun j => σ (10 + j))))), (s1, .inr (1, [.int (zI (τ 0)), .ref d1, .ref d2, .ref d3, .int (zI (τ 9))])), (d1, .inl (cI, 3, .inl (zF (fun j => τ (1 + j))))), (d2, .inl (cI, 5, .inl (zF (fun j => τ (4 + j))))), (d3, .inl (cI, 12, .inl (zF (fun j => τ (10 + j)))))] H := hP
  have hD : va_D A [(s0, .inr (1, [.int (zI (τ 0)), .ref b1, .ref b2, .ref b3, .int (zI (τ 9))])), (b1, .inl (cI, 3, .inl (zF (cpA (fun j => σ (1 + j)) (fun j => τ (1 + j)) 3)))), (b2, .inl (cI, 5, .inl (zF (fun j => σ (4 + j))))), (b3, .inl (cI, 12, .inl (zF (fun j => σ (10 + j))))), (s1, .inr (1, [.int (zI (τ 0)), .ref d1, .ref d2, .ref d3, .int (zI (τ 9))])), (d1, .inl (cI, 3, .inl (zF (fun j => τ (1 + j))))), (d2, .inl (cI, 5, .inl (zF (fun j => τ (4 + j))))), (d3, .inl (cI, 12, .inl (zF (fun j => τ (10 + j)))))] := hD
  have hP := zP_arr 1 (fun j => τ (1 + j)) hP rfl (fun j h0 h1 => by show cpA _ _ _ _ = _; unfold cpA; rw [if_pos (by omega)])
  have hP : va_P D vwCl [(s0, .inr (1, [.int (zI (τ 0)), .ref b1, .ref b2, .ref b3, .int (zI (τ 9))])), (b1, .inl (cI, 3, .inl (zF (fun j => τ (1 + j))))), (b2, .inl (cI, 5, .inl (zF (fun j => σ (4 + j))))), (b3, .inl (cI, 12, .inl (zF (fun j => σ (10 + j))))), (s1, .inr (1, [.int (zI (τ 0)), .ref d1, .ref d2, .ref d3, .int (zI (τ 9))])), (d1, .inl (cI, 3, .inl (zF (fun j => τ (1 + j))))), (d2, .inl (cI, 5, .inl (zF (fun j => τ (4 + j))))), (d3, .inl (cI, 12, .inl (zF (fun j => τ (10 + j)))))] H := hP
  have hD : va_D A [(s0, .inr (1, [.int (zI (τ 0)), .ref b1, .ref b2, .ref b3, .int (zI (τ 9))])), (b1, .inl (cI, 3, .inl (zF (fun j => τ (1 + j))))), (b2, .inl (cI, 5, .inl (zF (fun j => σ (4 + j))))), (b3, .inl (cI, 12, .inl (zF (fun j => σ (10 + j))))), (s1, .inr (1, [.int (zI (τ 0)), .ref d1, .ref d2, .ref d3, .int (zI (τ 9))])), (d1, .inl (cI, 3, .inl (zF (fun j => τ (1 + j))))), (d2, .inl (cI, 5, .inl (zF (fun j => τ (4 + j))))), (d3, .inl (cI, 12, .inl (zF (fun j => τ (10 + j)))))] := hD.set (p := 1) rfl
  refine lv_aload_n hx hb dX1_takeFrom_30 rfl (lv_at hl 1 rfl) ?_
  refine va_get (D := D) (ci := 1) (v := .ref d2) (C := RX1) (T := TX1) (N := 5) hx hb hts in_X1_takeFrom_X1 hown hK hP 4 rfl rfl 2 (by decide) (hts _ m_X1_takeFrom_7) (fun _ h9 => h9) rfl dX1_takeFrom_31 ?_
  refine lv_iconst (v := zI (0)) hx hb dX1_takeFrom_34 rfl ?_
  refine lv_aload_n hx hb dX1_takeFrom_35 rfl (lv_at hl 0 rfl) ?_
  refine va_get (D := D) (ci := 1) (v := .ref b2) (C := RX1) (T := TX1) (N := 5) hx hb hts in_X1_takeFrom_X1 hown hK hP 0 rfl rfl 2 (by decide) (hts _ m_X1_takeFrom_7) (fun _ h9 => h9) rfl dX1_takeFrom_36 ?_
  refine lv_iconst (v := zI (0)) hx hb dX1_takeFrom_39 rfl ?_
  refine lv_iconst (v := zI (5)) hx hb dX1_takeFrom_40 rfl ?_
  refine z_copyi (f := fun j => τ (4 + j)) (g := fun j => σ (4 + j)) hx hb (hml.trans hl.1.symm) hown (hts _ m_X1_takeFrom_3) (hts _ m_X1_takeFrom_4) (hts _ m_X1_takeFrom_5) (hts _ m_X1_takeFrom_6) hK hP hD hS 6 2 5 (by decide) rfl rfl rfl (Nat.le_of_ble_eq_true rfl) (by decide +kernel) dX1_takeFrom_41 (fun H locs hP hD hS => ?_)
  have hP : va_P D vwCl [(s0, .inr (1, [.int (zI (τ 0)), .ref b1, .ref b2, .ref b3, .int (zI (τ 9))])), (b1, .inl (cI, 3, .inl (zF (fun j => τ (1 + j))))), (b2, .inl (cI, 5, .inl (zF (cpA (fun j => σ (4 + j)) (fun j => τ (4 + j)) 5)))), (b3, .inl (cI, 12, .inl (zF (fun j => σ (10 + j))))), (s1, .inr (1, [.int (zI (τ 0)), .ref d1, .ref d2, .ref d3, .int (zI (τ 9))])), (d1, .inl (cI, 3, .inl (zF (fun j => τ (1 + j))))), (d2, .inl (cI, 5, .inl (zF (fun j => τ (4 + j))))), (d3, .inl (cI, 12, .inl (zF (fun j => τ (10 + j)))))] H := hP
  have hD : va_D A [(s0, .inr (1, [.int (zI (τ 0)), .ref b1, .ref b2, .ref b3, .int (zI (τ 9))])), (b1, .inl (cI, 3, .inl (zF (fun j => τ (1 + j))))), (b2, .inl (cI, 5, .inl (zF (cpA (fun j => σ (4 + j)) (fun j => τ (4 + j)) 5)))), (b3, .inl (cI, 12, .inl (zF (fun j => σ (10 + j))))), (s1, .inr (1, [.int (zI (τ 0)), .ref d1, .ref d2, .ref d3, .int (zI (τ 9))])), (d1, .inl (cI, 3, .inl (zF (fun j => τ (1 + j))))), (d2, .inl (cI, 5, .inl (zF (fun j => τ (4 + j))))), (d3, .inl (cI, 12, .inl (zF (fun j => τ (10 + j)))))] := hD
  have hP := zP_arr 2 (fun j => τ (4 + j)) hP rfl (fun j h0 h1 => by show cpA _ _ _ _ = _; unfold cpA; rw [if_pos (by omega)])
  have hP : va_P D vwCl [(s0, .inr (1, [.int (zI (τ 0)), .ref b1, .ref b2, .ref b3, .int (zI (τ 9))])), (b1, .inl (cI, 3, .inl (zF (fun j => τ (1 + j))))), (b2, .inl (cI, 5, .inl (zF (fun j => τ (4 + j))))), (b3, .inl (cI, 12, .inl (zF (fun j => σ (10 + j))))), (s1, .inr (1, [.int (zI (τ 0)), .ref d1, .ref d2, .ref d3, .int (zI (τ 9))])), (d1, .inl (cI, 3, .inl (zF (fun j => τ (1 + j))))), (d2, .inl (cI, 5, .inl (zF (fun j => τ (4 + j))))), (d3, .inl (cI, 12, .inl (zF (fun j => τ (10 + j)))))] H := hP
  have hD : va_D A [(s0, .inr (1, [.int (zI (τ 0)), .ref b1, .ref b2, .ref b3, .int (zI (τ 9))])), (b1, .inl (cI, 3, .inl (zF (fun j => τ (1 + j))))), (b2, .inl (cI, 5, .inl (zF (fun j => τ (4 + j))))), (b3, .inl (cI, 12, .inl (zF (fun j => σ (10 + j))))), (s1, .inr (1, [.int (zI (τ 0)), .ref d1, .ref d2, .ref d3, .int (zI (τ 9))])), (d1, .inl (cI, 3, .inl (zF (fun j => τ (1 + j))))), (d2, .inl (cI, 5, .inl (zF (fun j => τ (4 + j))))), (d3, .inl (cI, 12, .inl (zF (fun j => τ (10 + j)))))] := hD.set (p := 2) rfl
  refine lv_aload_n hx hb dX1_takeFrom_44 rfl (lv_at hl 1 rfl) ?_
  refine va_get (D := D) (ci := 1) (v := .ref d3) (C := RX1) (T := TX1) (N := 5) hx hb hts in_X1_takeFrom_X1 hown hK hP 4 rfl rfl 3 (by decide) (hts _ m_X1_takeFrom_8) (fun _ h9 => h9) rfl dX1_takeFrom_45 ?_
  refine lv_iconst (v := zI (0)) hx hb dX1_takeFrom_48 rfl ?_
  refine lv_aload_n hx hb dX1_takeFrom_49 rfl (lv_at hl 0 rfl) ?_
  refine va_get (D := D) (ci := 1) (v := .ref b3) (C := RX1) (T := TX1) (N := 5) hx hb hts in_X1_takeFrom_X1 hown hK hP 0 rfl rfl 3 (by decide) (hts _ m_X1_takeFrom_8) (fun _ h9 => h9) rfl dX1_takeFrom_50 ?_
  refine lv_iconst (v := zI (0)) hx hb dX1_takeFrom_53 rfl ?_
  refine lv_bipush (v := zI (12)) hx hb dX1_takeFrom_54 (by decide +kernel) ?_
  refine z_copyi (f := fun j => τ (10 + j)) (g := fun j => σ (10 + j)) hx hb (hml.trans hl.1.symm) hown (hts _ m_X1_takeFrom_3) (hts _ m_X1_takeFrom_4) (hts _ m_X1_takeFrom_5) (hts _ m_X1_takeFrom_6) hK hP hD hS 7 3 12 (by decide) rfl rfl rfl (Nat.le_of_ble_eq_true rfl) (by decide +kernel) dX1_takeFrom_56 (fun H locs hP hD hS => ?_)
  have hP : va_P D vwCl [(s0, .inr (1, [.int (zI (τ 0)), .ref b1, .ref b2, .ref b3, .int (zI (τ 9))])), (b1, .inl (cI, 3, .inl (zF (fun j => τ (1 + j))))), (b2, .inl (cI, 5, .inl (zF (fun j => τ (4 + j))))), (b3, .inl (cI, 12, .inl (zF (cpA (fun j => σ (10 + j)) (fun j => τ (10 + j)) 12)))), (s1, .inr (1, [.int (zI (τ 0)), .ref d1, .ref d2, .ref d3, .int (zI (τ 9))])), (d1, .inl (cI, 3, .inl (zF (fun j => τ (1 + j))))), (d2, .inl (cI, 5, .inl (zF (fun j => τ (4 + j))))), (d3, .inl (cI, 12, .inl (zF (fun j => τ (10 + j)))))] H := hP
  have hD : va_D A [(s0, .inr (1, [.int (zI (τ 0)), .ref b1, .ref b2, .ref b3, .int (zI (τ 9))])), (b1, .inl (cI, 3, .inl (zF (fun j => τ (1 + j))))), (b2, .inl (cI, 5, .inl (zF (fun j => τ (4 + j))))), (b3, .inl (cI, 12, .inl (zF (cpA (fun j => σ (10 + j)) (fun j => τ (10 + j)) 12)))), (s1, .inr (1, [.int (zI (τ 0)), .ref d1, .ref d2, .ref d3, .int (zI (τ 9))])), (d1, .inl (cI, 3, .inl (zF (fun j => τ (1 + j))))), (d2, .inl (cI, 5, .inl (zF (fun j => τ (4 + j))))), (d3, .inl (cI, 12, .inl (zF (fun j => τ (10 + j)))))] := hD
  have hP := zP_arr 3 (fun j => τ (10 + j)) hP rfl (fun j h0 h1 => by show cpA _ _ _ _ = _; unfold cpA; rw [if_pos (by omega)])
  have hP : va_P D vwCl [(s0, .inr (1, [.int (zI (τ 0)), .ref b1, .ref b2, .ref b3, .int (zI (τ 9))])), (b1, .inl (cI, 3, .inl (zF (fun j => τ (1 + j))))), (b2, .inl (cI, 5, .inl (zF (fun j => τ (4 + j))))), (b3, .inl (cI, 12, .inl (zF (fun j => τ (10 + j))))), (s1, .inr (1, [.int (zI (τ 0)), .ref d1, .ref d2, .ref d3, .int (zI (τ 9))])), (d1, .inl (cI, 3, .inl (zF (fun j => τ (1 + j))))), (d2, .inl (cI, 5, .inl (zF (fun j => τ (4 + j))))), (d3, .inl (cI, 12, .inl (zF (fun j => τ (10 + j)))))] H := hP
  have hD : va_D A [(s0, .inr (1, [.int (zI (τ 0)), .ref b1, .ref b2, .ref b3, .int (zI (τ 9))])), (b1, .inl (cI, 3, .inl (zF (fun j => τ (1 + j))))), (b2, .inl (cI, 5, .inl (zF (fun j => τ (4 + j))))), (b3, .inl (cI, 12, .inl (zF (fun j => τ (10 + j))))), (s1, .inr (1, [.int (zI (τ 0)), .ref d1, .ref d2, .ref d3, .int (zI (τ 9))])), (d1, .inl (cI, 3, .inl (zF (fun j => τ (1 + j))))), (d2, .inl (cI, 5, .inl (zF (fun j => τ (4 + j))))), (d3, .inl (cI, 12, .inl (zF (fun j => τ (10 + j)))))] := hD.set (p := 3) rfl
  exact hret _ _ _ _ () dX1_takeFrom_59 trivial hP hS
