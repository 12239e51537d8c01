abbrev rmX2_isValve : Room := { frames := 0, cells := 0, slots := 0, locals := 0 }
set_option maxHeartbeats 4000000 in
set_option maxRecDepth 100000 in
theorem c_X2_isValve (l : Launch) (D : va_G) (cI cJ cZ cO : ClassId) (sz : Nat) (v : Int) (h_v : -2147483648 ≤ v ∧ v < 2147483648) : Met l yX2_isValve wsX2_isValve rmX2_isValve (zPc D cI cJ cZ cO [] sz [.int (zI (v))]) (zQi D (fun (r : Int32) (_ : Unit) => r = zI (zB (0 ≤ v ∧ v ≤ 2))) (fun (_ : Unit) => []) [] sz) 0 0 (va_A [] sz) := by
  refine z_metz (by decide) rfl (Nat.le_of_ble_eq_true rfl) ?_
  intro p e s m args below meth c A Q ls hx hb hml hown hts hA hS hP hD hK hZ hl hret
  have hl : lv_has ls 1 [(0, .int (zI (v)))] := hl
  refine lv_iload_n hx hb dX2_isValve_0 rfl (lv_at hl 0 rfl) ?_
  refine z_if_lt (a := v) (tgt := 13) hx hb (by omega) dX2_isValve_1 (by decide) (fun c_1 => ?_) (fun c_1 => ?_)
  · refine lv_iconst (v := zI (0)) hx hb dX2_isValve_13 rfl ?_
    exact hret _ _ _ _ _ () dX2_isValve_14 rfl (by rw [zB_f (by omega)]) hP hS
  · refine lv_iload_n hx hb dX2_isValve_4 rfl (lv_at hl 0 rfl) ?_
    refine lv_iconst (v := zI (3)) hx hb dX2_isValve_5 rfl ?_
    refine z_icmp_ge (a := v) (b := 3) (tgt := 13) hx hb (by omega) dX2_isValve_6 (by decide) (fun c_6 => ?_) (fun c_6 => ?_)
    · refine lv_iconst (v := zI (0)) hx hb dX2_isValve_13 rfl ?_
      exact hret _ _ _ _ _ () dX2_isValve_14 rfl (by rw [zB_f (by omega)]) hP hS
    · refine lv_iconst (v := zI (1)) hx hb dX2_isValve_9 rfl ?_
      refine lv_goto (tgt := 14) hx hb dX2_isValve_10 (by decide) ?_
      exact hret _ _ _ _ _ () dX2_isValve_14 rfl (by rw [zB_t (by omega)]) hP hS
abbrev rmX2_isNote : Room := { frames := 0, cells := 0, slots := 0, locals := 0 }
set_option maxHeartbeats 4000000 in
set_option maxRecDepth 100000 in
theorem c_X2_isNote (l : Launch) (D : va_G) (cI cJ cZ cO : ClassId) (sz : Nat) (n : Int) (h_n : -2147483648 ≤ n ∧ n < 2147483648) : Met l yX2_isNote wsX2_isNote rmX2_isNote (zPc D cI cJ cZ cO [] sz [.int (zI (n))]) (zQi D (fun (r : Int32) (_ : Unit) => r = zI (zB (0 ≤ n ∧ n ≤ 36))) (fun (_ : Unit) => []) [] sz) 0 0 (va_A [] sz) := by
  refine z_metz (by decide) rfl (Nat.le_of_ble_eq_true rfl) ?_
  intro p e s m args below meth c A Q ls hx hb hml hown hts hA hS hP hD hK hZ hl hret
  have hl : lv_has ls 1 [(0, .int (zI (n)))] := hl
  refine lv_iload_n hx hb dX2_isNote_0 rfl (lv_at hl 0 rfl) ?_
  refine z_if_lt (a := n) (tgt := 14) hx hb (by omega) dX2_isNote_1 (by decide) (fun c_1 => ?_) (fun c_1 => ?_)
  · refine lv_iconst (v := zI (0)) hx hb dX2_isNote_14 rfl ?_
    exact hret _ _ _ _ _ () dX2_isNote_15 rfl (by rw [zB_f (by omega)]) hP hS
  · refine lv_iload_n hx hb dX2_isNote_4 rfl (lv_at hl 0 rfl) ?_
    refine lv_bipush (v := zI (37)) hx hb dX2_isNote_5 (by decide +kernel) ?_
    refine z_icmp_ge (a := n) (b := 37) (tgt := 14) hx hb (by omega) dX2_isNote_7 (by decide) (fun c_7 => ?_) (fun c_7 => ?_)
    · refine lv_iconst (v := zI (0)) hx hb dX2_isNote_14 rfl ?_
      exact hret _ _ _ _ _ () dX2_isNote_15 rfl (by rw [zB_f (by omega)]) hP hS
    · refine lv_iconst (v := zI (1)) hx hb dX2_isNote_10 rfl ?_
      refine lv_goto (tgt := 15) hx hb dX2_isNote_11 (by decide) ?_
      exact hret _ _ _ _ _ () dX2_isNote_15 rfl (by rw [zB_t (by omega)]) hP hS
abbrev rmX2_isPlace : Room := { frames := 0, cells := 0, slots := 0, locals := 0 }
theorem in_X2_isPlace_X2 : ∀ w ∈ wsX20, w ∈ wsX2_isPlace := fun _ h => List.mem_cons_of_mem _ (List.mem_append_left _ (List.mem_append_right _ h))
theorem m_X2_isPlace_0 : (.fieldLink RX2 12 "BrassWays" "now" "LBrassWays$Setup;" : Cond) ∈ wsX2_isPlace := List.mem_of_getElem? (i := 1) rfl
theorem in_X2_isPlace_X1 : ∀ w ∈ wsX10, w ∈ wsX2_isPlace := fun _ h => List.mem_cons_of_mem _ (List.mem_append_right _ h)
theorem m_X2_isPlace_1 : (.fieldLink RX2 87 "BrassWays$Setup" "size" "I" : Cond) ∈ wsX2_isPlace := List.mem_of_getElem? (i := 2) rfl
set_option maxHeartbeats 4000000 in
set_option maxRecDepth 100000 in
theorem c_X2_isPlace (l : Launch) (D : va_G) (cI cJ cZ cO : ClassId) (sz : Nat) (x0 : Nat) (s0 : Nat) (b1 : Nat) (b2 : Nat) (b3 : Nat) (im : Nat) (p0 : Nat) (r1 : Nat) (r2 : Nat) (r3 : Nat) (r4 : Nat) (σ : Int → Int) (gk : Int → Int) (q : Int) (h_q : -2147483648 ≤ q ∧ q < 2147483648) (hO : Ok σ) : Met l yX2_isPlace wsX2_isPlace rmX2_isPlace (zPc D cI cJ cZ cO [(x0, .inr (2, [.ref s0, .ref im, .int (zI (gk 0 + 2 * gk 1)), .ref p0, .ref r1, .ref r2, .ref r3, .ref r4])), (s0, .inr (1, [.int (zI (σ 0)), .ref b1, .ref b2, .ref b3, .int (zI (σ 9))])), (b1, .inl (cI, 3, .inl (zF (fun j => σ (1 + j))))), (b2, .inl (cI, 5, .inl (zF (fun j => σ (4 + j))))), (b3, .inl (cI, 12, .inl (zF (fun j => σ (10 + j)))))] sz [.ref x0, .int (zI (q))]) (zQi D (fun (r : Int32) (_ : Unit) => r = zI (zB (0 ≤ q ∧ q ≤ σ 9 - 1))) (fun (_ : Unit) => [(x0, .inr (2, [.ref s0, .ref im, .int (zI (gk 0 + 2 * gk 1)), .ref p0, .ref r1, .ref r2, .ref r3, .ref r4])), (s0, .inr (1, [.int (zI (σ 0)), .ref b1, .ref b2, .ref b3, .int (zI (σ 9))])), (b1, .inl (cI, 3, .inl (zF (fun j => σ (1 + j))))), (b2, .inl (cI, 5, .inl (zF (fun j => σ (4 + j))))), (b3, .inl (cI, 12, .inl (zF (fun j => σ (10 + j)))))]) [(x0, .inr (2, [.ref s0, .ref im, .int (zI (gk 0 + 2 * gk 1)), .ref p0, .ref r1, .ref r2, .ref r3, .ref r4])), (s0, .inr (1, [.int (zI (σ 0)), .ref b1, .ref b2, .ref b3, .int (zI (σ 9))])), (b1, .inl (cI, 3, .inl (zF (fun j => σ (1 + j))))), (b2, .inl (cI, 5, .inl (zF (fun j => σ (4 + j))))), (b3, .inl (cI, 12, .inl (zF (fun j => σ (10 + j)))))] sz) 0 0 (va_A [(x0, .inr (2, [.ref s0, .ref im, .int (zI (gk 0 + 2 * gk 1)), .ref p0, .ref r1, .ref r2, .ref r3, .ref r4])), (s0, .inr (1, [.int (zI (σ 0)), .ref b1, .ref b2, .ref b3, .int (zI (σ 9))])), (b1, .inl (cI, 3, .inl (zF (fun j => σ (1 + j))))), (b2, .inl (cI, 5, .inl (zF (fun j => σ (4 + j))))), (b3, .inl (cI, 12, .inl (zF (fun j => σ (10 + j)))))] sz) := by
  refine z_metz (by decide) rfl (Nat.le_of_ble_eq_true rfl) ?_
  intro p e s m args below meth c A Q ls hx hb hml hown hts hA hS hP hD hK hZ hl hret
  have hl : lv_has ls 2 [(0, .ref x0), (1, .int (zI (q)))] := hl
  have o9 := hO.2.2.2.2.2.2.2.2.2.1
  refine lv_iload_n hx hb dX2_isPlace_0 rfl (lv_at hl 1 rfl) ?_
  refine z_if_lt (a := q) (tgt := 19) hx hb (by omega) dX2_isPlace_1 (by decide) (fun c_1 => ?_) (fun c_1 => ?_)
  · refine lv_iconst (v := zI (0)) hx hb dX2_isPlace_19 rfl ?_
    exact hret _ _ _ _ _ () dX2_isPlace_20 rfl (by rw [zB_f (by omega)]) hP hS
  · refine lv_iload_n hx hb dX2_isPlace_4 rfl (lv_at hl 1 rfl) ?_
    refine lv_aload_n hx hb dX2_isPlace_5 rfl (lv_at hl 0 rfl) ?_
    refine va_get (D := D) (ci := 2) (v := .ref s0) (C := RX2) (T := TX2) (N := 8) hx hb hts in_X2_isPlace_X2 hown hK hP 0 rfl rfl 0 (by decide) (hts _ m_X2_isPlace_0) (fun _ h9 => h9) rfl dX2_isPlace_6 ?_
    refine va_get (D := D) (ci := 1) (v := .int (zI (σ 9))) (C := RX1) (T := TX1) (N := 5) hx hb hts in_X2_isPlace_X1 hown hK hP 1 rfl rfl 4 (by decide) (hts _ m_X2_isPlace_1) (fun _ h9 => h9) rfl dX2_isPlace_9 ?_
    refine z_icmp_ge (a := q) (b := σ 9) (tgt := 19) hx hb (by omega) dX2_isPlace_12 (by decide) (fun c_12 => ?_) (fun c_12 => ?_)
    · refine lv_iconst (v := zI (0)) hx hb dX2_isPlace_19 rfl ?_
      exact hret _ _ _ _ _ () dX2_isPlace_20 rfl (by rw [zB_f (by omega)]) hP hS
    · refine lv_iconst (v := zI (1)) hx hb dX2_isPlace_15 rfl ?_
      refine lv_goto (tgt := 20) hx hb dX2_isPlace_16 (by decide) ?_
      exact hret _ _ _ _ _ () dX2_isPlace_20 rfl (by rw [zB_t (by omega)]) hP hS
abbrev rmX2_horn : Room := { frames := 0, cells := 0, slots := 0, locals := 0 }
theorem in_X2_horn_X2 : ∀ w ∈ wsX20, w ∈ wsX2_horn := fun _ h => List.mem_cons_of_mem _ (List.mem_append_left _ (List.mem_append_right _ h))
theorem m_X2_horn_0 : (.fieldLink RX2 12 "BrassWays" "now" "LBrassWays$Setup;" : Cond) ∈ wsX2_horn := List.mem_of_getElem? (i := 1) rfl
theorem in_X2_horn_X1 : ∀ w ∈ wsX10, w ∈ wsX2_horn := fun _ h => List.mem_cons_of_mem _ (List.mem_append_right _ h)
theorem m_X2_horn_1 : (.fieldLink RX2 44 "BrassWays$Setup" "kind" "I" : Cond) ∈ wsX2_horn := List.mem_of_getElem? (i := 2) rfl
set_option maxHeartbeats 4000000 in
set_option maxRecDepth 100000 in
theorem c_X2_horn (l : Launch) (D : va_G) (cI cJ cZ cO : ClassId) (sz : Nat) (x0 : Nat) (s0 : Nat) (b1 : Nat) (b2 : Nat) (b3 : Nat) (im : Nat) (p0 : Nat) (r1 : Nat) (r2 : Nat) (r3 : Nat) (r4 : Nat) (σ : Int → Int) (gk : Int → Int) (v : Int) (h_v : -2147483648 ≤ v ∧ v < 2147483648) : Met l yX2_horn wsX2_horn rmX2_horn (zPc D cI cJ cZ cO [(x0, .inr (2, [.ref s0, .ref im, .int (zI (gk 0 + 2 * gk 1)), .ref p0, .ref r1, .ref r2, .ref r3, .ref r4])), (s0, .inr (1, [.int (zI (σ 0)), .ref b1, .ref b2, .ref b3, .int (zI (σ 9))])), (b1, .inl (cI, 3, .inl (zF (fun j => σ (1 + j))))), (b2, .inl (cI, 5, .inl (zF (fun j => σ (4 + j))))), (b3, .inl (cI, 12, .inl (zF (fun j => σ (10 + j)))))] sz [.ref x0, .int (zI (v))]) (zQi D (fun (r : Int32) (_ : Unit) => r = zI (A_horn σ v)) (fun (_ : Unit) => [(x0, .inr (2, [.ref s0, .ref im, .int (zI (gk 0 + 2 * gk 1)), .ref p0, .ref r1, .ref r2, .ref r3, .ref r4])), (s0, .inr (1, [.int (zI ((S_horn σ v) 0)), .ref b1, .ref b2, .ref b3, .int (zI ((S_horn σ v) 9))])), (b1, .inl (cI, 3, .inl (zF (fun j => (S_horn σ v) (1 + j))))), (b2, .inl (cI, 5, .inl (zF (fun j => (S_horn σ v) (4 + j))))), (b3, .inl (cI, 12, .inl (zF (fun j => (S_horn σ v) (10 + j)))))]) [(x0, .inr (2, [.ref s0, .ref im, .int (zI (gk 0 + 2 * gk 1)), .ref p0, .ref r1, .ref r2, .ref r3, .ref r4])), (s0, .inr (1, [.int (zI (σ 0)), .ref b1, .ref b2, .ref b3, .int (zI (σ 9))])), (b1, .inl (cI, 3, .inl (zF (fun j => σ (1 + j))))), (b2, .inl (cI, 5, .inl (zF (fun j => σ (4 + j))))), (b3, .inl (cI, 12, .inl (zF (fun j => σ (10 + j)))))] sz) 0 0 (va_A [(x0, .inr (2, [.ref s0, .ref im, .int (zI (gk 0 + 2 * gk 1)), .ref p0, .ref r1, .ref r2, .ref r3, .ref r4])), (s0, .inr (1, [.int (zI (σ 0)), .ref b1, .ref b2, .ref b3, .int (zI (σ 9))])), (b1, .inl (cI, 3, .inl (zF (fun j => σ (1 + j))))), (b2, .inl (cI, 5, .inl (zF (fun j => σ (4 + j))))), (b3, .inl (cI, 12, .inl (zF (fun j => σ (10 + j)))))] sz) := by
  refine z_meti (by decide) rfl (Nat.le_of_ble_eq_true rfl) ?_
  intro p e s m args below meth c A Q ls hx hb hml hown hts hA hS hP hD hK hZ hl hret
  have hl : lv_has ls 3 [(0, .ref x0), (1, .int (zI (v)))] := hl
  refine lv_iload_n hx hb dX2_horn_0 rfl (lv_at hl 1 rfl) ?_
  refine z_if_lt (a := v) (tgt := 9) hx hb (by omega) dX2_horn_1 (by decide) (fun c_1 => ?_) (fun c_1 => ?_)
  · refine lv_bipush (v := zI (-2)) hx hb dX2_horn_9 (by decide +kernel) ?_
    exact hret _ _ _ _ _ () dX2_horn_11 (by unfold A_horn; rw [if_neg (by omega)]) (by rw [show S_horn σ v = σ from if_neg (by omega)]; exact hP) hS
  · refine lv_iload_n hx hb dX2_horn_4 rfl (lv_at hl 1 rfl) ?_
    refine lv_iconst (v := zI (1)) hx hb dX2_horn_5 rfl ?_
    refine z_icmp_le (a := v) (b := 1) (tgt := 12) hx hb (by omega) dX2_horn_6 (by decide) (fun c_6 => ?_) (fun c_6 => ?_)
    · refine lv_aload_n hx hb dX2_horn_12 rfl (lv_at hl 0 rfl) ?_
      refine va_get (D := D) (ci := 2) (v := .ref s0) (C := RX2) (T := TX2) (N := 8) hx hb hts in_X2_horn_X2 hown hK hP 0 rfl rfl 0 (by decide) (hts _ m_X2_horn_0) (fun _ h9 => h9) rfl dX2_horn_13 ?_
      refine va_get (D := D) (ci := 1) (v := .int (zI (σ 0))) (C := RX1) (T := TX1) (N := 5) hx hb hts in_X2_horn_X1 hown hK hP 1 rfl rfl 0 (by decide) (hts _ m_X2_horn_1) (fun _ h9 => h9) rfl dX2_horn_16 ?_
      refine lv_istore_n (lv' := [(2, .int (zI (σ 0))), (0, .ref x0), (1, .int (zI (v)))]) hx hb dX2_horn_19 rfl hl (by decide) rfl (fun ls hl => ?_)
      refine lv_aload_n hx hb dX2_horn_20 rfl (lv_at hl 1 rfl) ?_
      refine va_get (D := D) (ci := 2) (v := .ref s0) (C := RX2) (T := TX2) (N := 8) hx hb hts in_X2_horn_X2 hown hK hP 0 rfl rfl 0 (by decide) (hts _ m_X2_horn_0) (fun _ h9 => h9) rfl dX2_horn_21 ?_
      refine lv_iload_n hx hb dX2_horn_24 rfl (lv_at hl 2 rfl) ?_
      refine va_put (D := D) (ci := 1) (v := .int (zI (v))) (ty := .int) (C := RX1) (T := TX1) (N := 5) hx hb hts in_X2_horn_X1 tyX1 tyX1_ok nmX1 hown hK hP hD hS 1 rfl rfl 0 (by decide) (hts _ m_X2_horn_1) (fun _ h9 => h9) rfl (by decide +kernel) rfl rfl (Nat.le_of_ble_eq_true rfl) dX2_horn_25 (fun H locs hP hD hS => ?_)
      have hP : va_P D vwCl [(x0, .inr (2, [.ref s0, .ref im, .int (zI (gk 0 + 2 * gk 1)), .ref p0, .ref r1, .ref r2, .ref r3, .ref r4])), (s0, .inr (1, [.int (zI (v)), .ref b1, .ref b2, .ref b3, .int (zI (σ 9))])), (b1, .inl (cI, 3, .inl (zF (fun j => σ (1 + j))))), (b2, .inl (cI, 5, .inl (zF (fun j => σ (4 + j))))), (b3, .inl (cI, 12, .inl (zF (fun j => σ (10 + j)))))] H := hP
      have hD : va_D A [(x0, .inr (2, [.ref s0, .ref im, .int (zI (gk 0 + 2 * gk 1)), .ref p0, .ref r1, .ref r2, .ref r3, .ref r4])), (s0, .inr (1, [.int (zI (v)), .ref b1, .ref b2, .ref b3, .int (zI (σ 9))])), (b1, .inl (cI, 3, .inl (zF (fun j => σ (1 + j))))), (b2, .inl (cI, 5, .inl (zF (fun j => σ (4 + j))))), (b3, .inl (cI, 12, .inl (zF (fun j => σ (10 + j)))))] := hD
      have hP := zP_arr 2 (fun j => upI σ (0) (v) (1 + j)) hP rfl (fun j h0 h1 => (upI_n (by omega)).symm)
      have hP : va_P D vwCl [(x0, .inr (2, [.ref s0, .ref im, .int (zI (gk 0 + 2 * gk 1)), .ref p0, .ref r1, .ref r2, .ref r3, .ref r4])), (s0, .inr (1, [.int (zI (v)), .ref b1, .ref b2, .ref b3, .int (zI (σ 9))])), (b1, .inl (cI, 3, .inl (zF (fun j => upI σ (0) (v) (1 + j))))), (b2, .inl (cI, 5, .inl (zF (fun j => σ (4 + j))))), (b3, .inl (cI, 12, .inl (zF (fun j => σ (10 + j)))))] H := hP
      have hD : va_D A [(x0, .inr (2, [.ref s0, .ref im, .int (zI (gk 0 + 2 * gk 1)), .ref p0, .ref r1, .ref r2, .ref r3, .ref r4])), (s0, .inr (1, [.int (zI (v)), .ref b1, .ref b2, .ref b3, .int (zI (σ 9))])), (b1, .inl (cI, 3, .inl (zF (fun j => upI σ (0) (v) (1 + j))))), (b2, .inl (cI, 5, .inl (zF (fun j => σ (4 + j))))), (b3, .inl (cI, 12, .inl (zF (fun j => σ (10 + j)))))] := hD.set (p := 2) rfl
      have hP := zP_arr 3 (fun j => upI σ (0) (v) (4 + j)) hP rfl (fun j h0 h1 => (upI_n (by omega)).symm)
      have hP : va_P D vwCl [(x0, .inr (2, [.ref s0, .ref im, .int (zI (gk 0 + 2 * gk 1)), .ref p0, .ref r1, .ref r2, .ref r3, .ref r4])), (s0, .inr (1, [.int (zI (v)), .ref b1, .ref b2, .ref b3, .int (zI (σ 9))])), (b1, .inl (cI, 3, .inl (zF (fun j => upI σ (0) (v) (1 + j))))), (b2, .inl (cI, 5, .inl (zF (fun j => upI σ (0) (v) (4 + j))))), (b3, .inl (cI, 12, .inl (zF (fun j => σ (10 + j)))))] H := hP
      have hD : va_D A [(x0, .inr (2, [.ref s0, .ref im, .int (zI (gk 0 + 2 * gk 1)), .ref p0, .ref r1, .ref r2, .ref r3, .ref r4])), (s0, .inr (1, [.int (zI (v)), .ref b1, .ref b2, .ref b3, .int (zI (σ 9))])), (b1, .inl (cI, 3, .inl (zF (fun j => upI σ (0) (v) (1 + j))))), (b2, .inl (cI, 5, .inl (zF (fun j => upI σ (0) (v) (4 + j))))), (b3, .inl (cI, 12, .inl (zF (fun j => σ (10 + j)))))] := hD.set (p := 3) rfl
      have hP := zP_arr 4 (fun j => upI σ (0) (v) (10 + j)) hP rfl (fun j h0 h1 => (upI_n (by omega)).symm)
      have hP : va_P D vwCl [(x0, .inr (2, [.ref s0, .ref im, .int (zI (gk 0 + 2 * gk 1)), .ref p0, .ref r1, .ref r2, .ref r3, .ref r4])), (s0, .inr (1, [.int (zI (v)), .ref b1, .ref b2, .ref b3, .int (zI (σ 9))])), (b1, .inl (cI, 3, .inl (zF (fun j => upI σ (0) (v) (1 + j))))), (b2, .inl (cI, 5, .inl (zF (fun j => upI σ (0) (v) (4 + j))))), (b3, .inl (cI, 12, .inl (zF (fun j => upI σ (0) (v) (10 + j)))))] H := hP
      have hD : va_D A [(x0, .inr (2, [.ref s0, .ref im, .int (zI (gk 0 + 2 * gk 1)), .ref p0, .ref r1, .ref r2, .ref r3, .ref r4])), (s0, .inr (1, [.int (zI (v)), .ref b1, .ref b2, .ref b3, .int (zI (σ 9))])), (b1, .inl (cI, 3, .inl (zF (fun j => upI σ (0) (v) (1 + j))))), (b2, .inl (cI, 5, .inl (zF (fun j => upI σ (0) (v) (4 + j))))), (b3, .inl (cI, 12, .inl (zF (fun j => upI σ (0) (v) (10 + j)))))] := hD.set (p := 4) rfl
      have hP : va_P D vwCl [(x0, .inr (2, [.ref s0, .ref im, .int (zI (gk 0 + 2 * gk 1)), .ref p0, .ref r1, .ref r2, .ref r3, .ref r4])), (s0, .inr (1, [.int (zI (upI σ (0) (v) 0)), .ref b1, .ref b2, .ref b3, .int (zI (σ 9))])), (b1, .inl (cI, 3, .inl (zF (fun j => upI σ (0) (v) (1 + j))))), (b2, .inl (cI, 5, .inl (zF (fun j => upI σ (0) (v) (4 + j))))), (b3, .inl (cI, 12, .inl (zF (fun j => upI σ (0) (v) (10 + j)))))] H := by have e0 : zI (upI σ (0) (v) 0) = zI (v) := (congrArg zI upI_s); rw [e0]; exact hP
      have hD : va_D A [(x0, .inr (2, [.ref s0, .ref im, .int (zI (gk 0 + 2 * gk 1)), .ref p0, .ref r1, .ref r2, .ref r3, .ref r4])), (s0, .inr (1, [.int (zI (upI σ (0) (v) 0)), .ref b1, .ref b2, .ref b3, .int (zI (σ 9))])), (b1, .inl (cI, 3, .inl (zF (fun j => upI σ (0) (v) (1 + j))))), (b2, .inl (cI, 5, .inl (zF (fun j => upI σ (0) (v) (4 + j))))), (b3, .inl (cI, 12, .inl (zF (fun j => upI σ (0) (v) (10 + j)))))] := hD.set (p := 1) rfl
      have hP : va_P D vwCl [(x0, .inr (2, [.ref s0, .ref im, .int (zI (gk 0 + 2 * gk 1)), .ref p0, .ref r1, .ref r2, .ref r3, .ref r4])), (s0, .inr (1, [.int (zI (upI σ (0) (v) 0)), .ref b1, .ref b2, .ref b3, .int (zI (upI σ (0) (v) 9))])), (b1, .inl (cI, 3, .inl (zF (fun j => upI σ (0) (v) (1 + j))))), (b2, .inl (cI, 5, .inl (zF (fun j => upI σ (0) (v) (4 + j))))), (b3, .inl (cI, 12, .inl (zF (fun j => upI σ (0) (v) (10 + j)))))] H := by have e0 : zI (upI σ (0) (v) 9) = zI (σ 9) := ((by first | rw [upI_n (by omega)] | (rw [show (9 : Int) = 0 by omega, upI_s]) | rw [upI_s])); rw [e0]; exact hP
      have hD : va_D A [(x0, .inr (2, [.ref s0, .ref im, .int (zI (gk 0 + 2 * gk 1)), .ref p0, .ref r1, .ref r2, .ref r3, .ref r4])), (s0, .inr (1, [.int (zI (upI σ (0) (v) 0)), .ref b1, .ref b2, .ref b3, .int (zI (upI σ (0) (v) 9))])), (b1, .inl (cI, 3, .inl (zF (fun j => upI σ (0) (v) (1 + j))))), (b2, .inl (cI, 5, .inl (zF (fun j => upI σ (0) (v) (4 + j))))), (b3, .inl (cI, 12, .inl (zF (fun j => upI σ (0) (v) (10 + j)))))] := hD.set (p := 1) rfl
      refine lv_iload_n hx hb dX2_horn_28 rfl (lv_at hl 0 rfl) ?_
      exact hret _ _ _ _ _ () dX2_horn_29 (by unfold A_horn; rw [if_pos (by omega)]) (by rw [show S_horn σ v = upI σ 0 v from if_pos (by omega)]; exact hP) hS
    · refine lv_bipush (v := zI (-2)) hx hb dX2_horn_9 (by decide +kernel) ?_
      exact hret _ _ _ _ _ () dX2_horn_11 (by unfold A_horn; rw [if_neg (by omega)]) (by rw [show S_horn σ v = σ from if_neg (by omega)]; exact hP) hS
abbrev rmX2_valve : Room := { frames := 1, cells := 0, slots := 0, locals := 20 }
theorem in_X2_valve_X2 : ∀ w ∈ wsX20, w ∈ wsX2_valve := fun _ h => List.mem_cons_of_mem _ (List.mem_append_left _ (List.mem_append_right _ h))
theorem m_X2_valve_0 : (.fieldLink RX2 12 "BrassWays" "now" "LBrassWays$Setup;" : Cond) ∈ wsX2_valve := List.mem_of_getElem? (i := 1) rfl
theorem in_X2_valve_X1 : ∀ w ∈ wsX10, w ∈ wsX2_valve := fun _ h => List.mem_cons_of_mem _ (List.mem_append_right _ h)
theorem m_X2_valve_1 : (.fieldLink RX2 51 "BrassWays$Setup" "lengths" "[I" : Cond) ∈ wsX2_valve := List.mem_of_getElem? (i := 2) rfl
set_option maxHeartbeats 4000000 in
set_option maxRecDepth 100000 in
theorem c_X2_valve (l : Launch) (D : va_G) (cI cJ cZ cO : ClassId) (sz : Nat) (x0 : Nat) (s0 : Nat) (b1 : Nat) (b2 : Nat) (b3 : Nat) (im : Nat) (p0 : Nat) (r1 : Nat) (r2 : Nat) (r3 : Nat) (r4 : Nat) (σ : Int → Int) (gk : Int → Int) (q : Int) (v : Int) (h_q : -2147483648 ≤ q ∧ q < 2147483648) (h_v : -2147483648 ≤ v ∧ v < 2147483648) : Met l yX2_valve wsX2_valve rmX2_valve (zPc D cI cJ cZ cO [(x0, .inr (2, [.ref s0, .ref im, .int (zI (gk 0 + 2 * gk 1)), .ref p0, .ref r1, .ref r2, .ref r3, .ref r4])), (s0, .inr (1, [.int (zI (σ 0)), .ref b1, .ref b2, .ref b3, .int (zI (σ 9))])), (b1, .inl (cI, 3, .inl (zF (fun j => σ (1 + j))))), (b2, .inl (cI, 5, .inl (zF (fun j => σ (4 + j))))), (b3, .inl (cI, 12, .inl (zF (fun j => σ (10 + j)))))] sz [.ref x0, .int (zI (q)), .int (zI (v))]) (zQi D (fun (r : Int32) (_ : Unit) => r = zI (A_valve σ q v)) (fun (_ : Unit) => [(x0, .inr (2, [.ref s0, .ref im, .int (zI (gk 0 + 2 * gk 1)), .ref p0, .ref r1, .ref r2, .ref r3, .ref r4])), (s0, .inr (1, [.int (zI ((S_valve σ q v) 0)), .ref b1, .ref b2, .ref b3, .int (zI ((S_valve σ q v) 9))])), (b1, .inl (cI, 3, .inl (zF (fun j => (S_valve σ q v) (1 + j))))), (b2, .inl (cI, 5, .inl (zF (fun j => (S_valve σ q v) (4 + j))))), (b3, .inl (cI, 12, .inl (zF (fun j => (S_valve σ q v) (10 + j)))))]) [(x0, .inr (2, [.ref s0, .ref im, .int (zI (gk 0 + 2 * gk 1)), .ref p0, .ref r1, .ref r2, .ref r3, .ref r4])), (s0, .inr (1, [.int (zI (σ 0)), .ref b1, .ref b2, .ref b3, .int (zI (σ 9))])), (b1, .inl (cI, 3, .inl (zF (fun j => σ (1 + j))))), (b2, .inl (cI, 5, .inl (zF (fun j => σ (4 + j))))), (b3, .inl (cI, 12, .inl (zF (fun j => σ (10 + j)))))] sz) 0 0 (va_A [(x0, .inr (2, [.ref s0, .ref im, .int (zI (gk 0 + 2 * gk 1)), .ref p0, .ref r1, .ref r2, .ref r3, .ref r4])), (s0, .inr (1, [.int (zI (σ 0)), .ref b1, .ref b2, .ref b3, .int (zI (σ 9))])), (b1, .inl (cI, 3, .inl (zF (fun j => σ (1 + j))))), (b2, .inl (cI, 5, .inl (zF (fun j => σ (4 + j))))), (b3, .inl (cI, 12, .inl (zF (fun j => σ (10 + j)))))] sz) := by
  refine z_meti (by decide) rfl (Nat.le_of_ble_eq_true rfl) ?_
  intro p e s m args below meth c A Q ls hx hb hml hown hts hA hS hP hD hK hZ hl hret
  have hl : lv_has ls 4 [(0, .ref x0), (1, .int (zI (q))), (2, .int (zI (v)))] := hl
  refine lv_iload_n hx hb dX2_valve_0 rfl (lv_at hl 1 rfl) ?_
  refine z_Sir (As := [.int (zI (q))]) (rest := []) hx hb hml hown hts hA hS hP hD hK hZ hl.1 (c_X2_isValve l D cI cJ cZ cO _ (q) (by omega)) (va_cwS 1 hts gX2_valve_X2_isValve rfl rfl rfl (by decide +kernel) ⟨Nat.le_of_ble_eq_true rfl, Nat.le_of_ble_eq_true rfl⟩) [] rfl rfl rfl rfl (Nat.le_of_ble_eq_true rfl) ⟨Nat.zero_le _, Nat.zero_le _⟩ dX2_valve_1 (fun r u H locs hw hP hS => ?_)
  subst hw
  refine z_ifB_ne (P := 0 ≤ q ∧ q ≤ 2) (tgt := 9) hx hb dX2_valve_4 (by decide) (fun c_4 => ?_) (fun c_4 => ?_)
  · refine lv_iload_n hx hb dX2_valve_9 rfl (lv_at hl 2 rfl) ?_
    refine z_if_lt (a := v) (tgt := 20) hx hb (by omega) dX2_valve_10 (by decide) (fun c_10 => ?_) (fun c_10 => ?_)
    · refine lv_bipush (v := zI (-2)) hx hb dX2_valve_20 (by decide +kernel) ?_
      exact hret _ _ _ _ _ () dX2_valve_22 (by unfold A_valve; rw [if_pos c_4, if_neg (by omega)]) (by rw [show S_valve σ q v = σ by unfold S_valve; rw [if_pos c_4, if_neg (by omega)]]; exact hP) hS
    · refine lv_iload_n hx hb dX2_valve_13 rfl (lv_at hl 2 rfl) ?_
      refine lv_sipush (v := zI (400)) hx hb dX2_valve_14 (by decide +kernel) ?_
      refine z_icmp_le (a := v) (b := 400) (tgt := 23) hx hb (by omega) dX2_valve_17 (by decide) (fun c_17 => ?_) (fun c_17 => ?_)
      · refine lv_aload_n hx hb dX2_valve_23 rfl (lv_at hl 0 rfl) ?_
        refine va_get (D := D) (ci := 2) (v := .ref s0) (C := RX2) (T := TX2) (N := 8) hx hb hts in_X2_valve_X2 hown hK hP 0 rfl rfl 0 (by decide) (hts _ m_X2_valve_0) (fun _ h9 => h9) rfl dX2_valve_24 ?_
        refine va_get (D := D) (ci := 1) (v := .ref b1) (C := RX1) (T := TX1) (N := 5) hx hb hts in_X2_valve_X1 hown hK hP 1 rfl rfl 1 (by decide) (hts _ m_X2_valve_1) (fun _ h9 => h9) rfl dX2_valve_27 ?_
        refine lv_iload_n hx hb dX2_valve_30 rfl (lv_at hl 1 rfl) ?_
        refine z_iald (k := q) (g := fun j => σ (1 + j)) hx hb hK hP 2 0 rfl rfl (by omega) dX2_valve_31 ?_
        try dsimp only
        refine lv_istore_n (lv' := [(3, .int (zI (σ (1 + q)))), (0, .ref x0), (1, .int (zI (q))), (2, .int (zI (v)))]) hx hb dX2_valve_32 rfl hl (by decide) rfl (fun ls hl => ?_)
        refine lv_aload_n hx hb dX2_valve_33 rfl (lv_at hl 1 rfl) ?_
        refine va_get (D := D) (ci := 2) (v := .ref s0) (C := RX2) (T := TX2) (N := 8) hx hb hts in_X2_valve_X2 hown hK hP 0 rfl rfl 0 (by decide) (hts _ m_X2_valve_0) (fun _ h9 => h9) rfl dX2_valve_34 ?_
        refine va_get (D := D) (ci := 1) (v := .ref b1) (C := RX1) (T := TX1) (N := 5) hx hb hts in_X2_valve_X1 hown hK hP 1 rfl rfl 1 (by decide) (hts _ m_X2_valve_1) (fun _ h9 => h9) rfl dX2_valve_37 ?_
        refine lv_iload_n hx hb dX2_valve_40 rfl (lv_at hl 2 rfl) ?_
        refine lv_iload_n hx hb dX2_valve_41 rfl (lv_at hl 3 rfl) ?_
        refine z_iast (k := q) (x := v) (g := fun j => σ (1 + j)) hx hb hK hP hD hS 2 0 rfl rfl (by omega) dX2_valve_42 (fun H locs hP hD hS => ?_)
        have hP : va_P D vwCl [(x0, .inr (2, [.ref s0, .ref im, .int (zI (gk 0 + 2 * gk 1)), .ref p0, .ref r1, .ref r2, .ref r3, .ref r4])), (s0, .inr (1, [.int (zI (σ 0)), .ref b1, .ref b2, .ref b3, .int (zI (σ 9))])), (b1, .inl (cI, 3, .inl (zF (upI (fun j => σ (1 + j)) q v)))), (b2, .inl (cI, 5, .inl (zF (fun j => σ (4 + j))))), (b3, .inl (cI, 12, .inl (zF (fun j => σ (10 + j)))))] H := hP
        have hD : va_D A [(x0, .inr (2, [.ref s0, .ref im, .int (zI (gk 0 + 2 * gk 1)), .ref p0, .ref r1, .ref r2, .ref r3, .ref r4])), (s0, .inr (1, [.int (zI (σ 0)), .ref b1, .ref b2, .ref b3, .int (zI (σ 9))])), (b1, .inl (cI, 3, .inl (zF (upI (fun j => σ (1 + j)) q v)))), (b2, .inl (cI, 5, .inl (zF (fun j => σ (4 + j))))), (b3, .inl (cI, 12, .inl (zF (fun j => σ (10 + j)))))] := hD
        have hP := zP_arr 2 (fun j => upI σ (1 + q) (v) (1 + j)) hP rfl (fun j h0 h1 => up_shift σ (1) (q) (v) j)
        have hP : va_P D vwCl [(x0, .inr (2, [.ref s0, .ref im, .int (zI (gk 0 + 2 * gk 1)), .ref p0, .ref r1, .ref r2, .ref r3, .ref r4])), (s0, .inr (1, [.int (zI (σ 0)), .ref b1, .ref b2, .ref b3, .int (zI (σ 9))])), (b1, .inl (cI, 3, .inl (zF (fun j => upI σ (1 + q) (v) (1 + j))))), (b2, .inl (cI, 5, .inl (zF (fun j => σ (4 + j))))), (b3, .inl (cI, 12, .inl (zF (fun j => σ (10 + j)))))] H := hP
        have hD : va_D A [(x0, .inr (2, [.ref s0, .ref im, .int (zI (gk 0 + 2 * gk 1)), .ref p0, .ref r1, .ref r2, .ref r3, .ref r4])), (s0, .inr (1, [.int (zI (σ 0)), .ref b1, .ref b2, .ref b3, .int (zI (σ 9))])), (b1, .inl (cI, 3, .inl (zF (fun j => upI σ (1 + q) (v) (1 + j))))), (b2, .inl (cI, 5, .inl (zF (fun j => σ (4 + j))))), (b3, .inl (cI, 12, .inl (zF (fun j => σ (10 + j)))))] := hD.set (p := 2) rfl
        have hP := zP_arr 3 (fun j => upI σ (1 + q) (v) (4 + j)) hP rfl (fun j h0 h1 => (upI_n (by omega)).symm)
        have hP : va_P D vwCl [(x0, .inr (2, [.ref s0, .ref im, .int (zI (gk 0 + 2 * gk 1)), .ref p0, .ref r1, .ref r2, .ref r3, .ref r4])), (s0, .inr (1, [.int (zI (σ 0)), .ref b1, .ref b2, .ref b3, .int (zI (σ 9))])), (b1, .inl (cI, 3, .inl (zF (fun j => upI σ (1 + q) (v) (1 + j))))), (b2, .inl (cI, 5, .inl (zF (fun j => upI σ (1 + q) (v) (4 + j))))), (b3, .inl (cI, 12, .inl (zF (fun j => σ (10 + j)))))] H := hP
        have hD : va_D A [(x0, .inr (2, [.ref s0, .ref im, .int (zI (gk 0 + 2 * gk 1)), .ref p0, .ref r1, .ref r2, .ref r3, .ref r4])), (s0, .inr (1, [.int (zI (σ 0)), .ref b1, .ref b2, .ref b3, .int (zI (σ 9))])), (b1, .inl (cI, 3, .inl (zF (fun j => upI σ (1 + q) (v) (1 + j))))), (b2, .inl (cI, 5, .inl (zF (fun j => upI σ (1 + q) (v) (4 + j))))), (b3, .inl (cI, 12, .inl (zF (fun j => σ (10 + j)))))] := hD.set (p := 3) rfl
        have hP := zP_arr 4 (fun j => upI σ (1 + q) (v) (10 + j)) hP rfl (fun j h0 h1 => (upI_n (by omega)).symm)
        have hP : va_P D vwCl [(x0, .inr (2, [.ref s0, .ref im, .int (zI (gk 0 + 2 * gk 1)), .ref p0, .ref r1, .ref r2, .ref r3, .ref r4])), (s0, .inr (1, [.int (zI (σ 0)), .ref b1, .ref b2, .ref b3, .int (zI (σ 9))])), (b1, .inl (cI, 3, .inl (zF (fun j => upI σ (1 + q) (v) (1 + j))))), (b2, .inl (cI, 5, .inl (zF (fun j => upI σ (1 + q) (v) (4 + j))))), (b3, .inl (cI, 12, .inl (zF (fun j => upI σ (1 + q) (v) (10 + j)))))] H := hP
        have hD : va_D A [(x0, .inr (2, [.ref s0, .ref im, .int (zI (gk 0 + 2 * gk 1)), .ref p0, .ref r1, .ref r2, .ref r3, .ref r4])), (s0, .inr (1, [.int (zI (σ 0)), .ref b1, .ref b2, .ref b3, .int (zI (σ 9))])), (b1, .inl (cI, 3, .inl (zF (fun j => upI σ (1 + q) (v) (1 + j))))), (b2, .inl (cI, 5, .inl (zF (fun j => upI σ (1 + q) (v) (4 + j))))), (b3, .inl (cI, 12, .inl (zF (fun j => upI σ (1 + q) (v) (10 + j)))))] := hD.set (p := 4) rfl
        have hP : va_P D vwCl [(x0, .inr (2, [.ref s0, .ref im, .int (zI (gk 0 + 2 * gk 1)), .ref p0, .ref r1, .ref r2, .ref r3, .ref r4])), (s0, .inr (1, [.int (zI (upI σ (1 + q) (v) 0)), .ref b1, .ref b2, .ref b3, .int (zI (σ 9))])), (b1, .inl (cI, 3, .inl (zF (fun j => upI σ (1 + q) (v) (1 + j))))), (b2, .inl (cI, 5, .inl (zF (fun j => upI σ (1 + q) (v) (4 + j))))), (b3, .inl (cI, 12, .inl (zF (fun j => upI σ (1 + q) (v) (10 + j)))))] H := by have e0 : zI (upI σ (1 + q) (v) 0) = zI (σ 0) := ((by first | rw [upI_n (by omega)] | (rw [show (0 : Int) = 1 + q by omega, upI_s]) | rw [upI_s])); rw [e0]; exact hP
        have hD : va_D A [(x0, .inr (2, [.ref s0, .ref im, .int (zI (gk 0 + 2 * gk 1)), .ref p0, .ref r1, .ref r2, .ref r3, .ref r4])), (s0, .inr (1, [.int (zI (upI σ (1 + q) (v) 0)), .ref b1, .ref b2, .ref b3, .int (zI (σ 9))])), (b1, .inl (cI, 3, .inl (zF (fun j => upI σ (1 + q) (v) (1 + j))))), (b2, .inl (cI, 5, .inl (zF (fun j => upI σ (1 + q) (v) (4 + j))))), (b3, .inl (cI, 12, .inl (zF (fun j => upI σ (1 + q) (v) (10 + j)))))] := hD.set (p := 1) rfl
        have hP : va_P D vwCl [(x0, .inr (2, [.ref s0, .ref im, .int (zI (gk 0 + 2 * gk 1)), .ref p0, .ref r1, .ref r2, .ref r3, .ref r4])), (s0, .inr (1, [.int (zI (upI σ (1 + q) (v) 0)), .ref b1, .ref b2, .ref b3, .int (zI (upI σ (1 + q) (v) 9))])), (b1, .inl (cI, 3, .inl (zF (fun j => upI σ (1 + q) (v) (1 + j))))), (b2, .inl (cI, 5, .inl (zF (fun j => upI σ (1 + q) (v) (4 + j))))), (b3, .inl (cI, 12, .inl (zF (fun j => upI σ (1 + q) (v) (10 + j)))))] H := by have e0 : zI (upI σ (1 + q) (v) 9) = zI (σ 9) := ((by first | rw [upI_n (by omega)] | (rw [show (9 : Int) = 1 + q by omega, upI_s]) | rw [upI_s])); rw [e0]; exact hP
        have hD : va_D A [(x0, .inr (2, [.ref s0, .ref im, .int (zI (gk 0 + 2 * gk 1)), .ref p0, .ref r1, .ref r2, .ref r3, .ref r4])), (s0, .inr (1, [.int (zI (upI σ (1 + q) (v) 0)), .ref b1, .ref b2, .ref b3, .int (zI (upI σ (1 + q) (v) 9))])), (b1, .inl (cI, 3, .inl (zF (fun j => upI σ (1 + q) (v) (1 + j))))), (b2, .inl (cI, 5, .inl (zF (fun j => upI σ (1 + q) (v) (4 + j))))), (b3, .inl (cI, 12, .inl (zF (fun j => upI σ (1 + q) (v) (10 + j)))))] := hD.set (p := 1) rfl
        refine lv_iload_n hx hb dX2_valve_43 rfl (lv_at hl 0 rfl) ?_
        exact hret _ _ _ _ _ () dX2_valve_44 (by unfold A_valve; rw [if_pos c_4, if_pos (by omega)]) (by rw [show S_valve σ q v = upI σ (1 + q) v by unfold S_valve; rw [if_pos c_4, if_pos (by omega)]]; exact hP) hS
      · refine lv_bipush (v := zI (-2)) hx hb dX2_valve_20 (by decide +kernel) ?_
        exact hret _ _ _ _ _ () dX2_valve_22 (by unfold A_valve; rw [if_pos c_4, if_neg (by omega)]) (by rw [show S_valve σ q v = σ by unfold S_valve; rw [if_pos c_4, if_neg (by omega)]]; exact hP) hS
  · refine lv_iconst (v := zI (-1)) hx hb dX2_valve_7 rfl ?_
    exact hret _ _ _ _ _ () dX2_valve_8 (by unfold A_valve; rw [if_neg c_4]) (by rw [show S_valve σ q v = σ from if_neg c_4]; exact hP) hS
abbrev rmX2_rule : Room := { frames := 0, cells := 0, slots := 0, locals := 0 }
theorem m_X2_rule_0 : (.fieldLink RX2 54 "BrassWays" "RULE_TOP" "[I" : Cond) ∈ wsX2_rule := List.mem_of_getElem? (i := 1) rfl
theorem in_X2_rule_X2 : ∀ w ∈ wsX20, w ∈ wsX2_rule := fun _ h => List.mem_cons_of_mem _ (List.mem_append_left _ (List.mem_append_right _ h))
theorem m_X2_rule_1 : (.fieldLink RX2 12 "BrassWays" "now" "LBrassWays$Setup;" : Cond) ∈ wsX2_rule := List.mem_of_getElem? (i := 2) rfl
theorem in_X2_rule_X1 : ∀ w ∈ wsX10, w ∈ wsX2_rule := fun _ h => List.mem_cons_of_mem _ (List.mem_append_right _ h)
theorem m_X2_rule_2 : (.fieldLink RX2 57 "BrassWays$Setup" "rules" "[I" : Cond) ∈ wsX2_rule := List.mem_of_getElem? (i := 3) rfl
set_option maxHeartbeats 4000000 in
set_option maxRecDepth 100000 in
theorem c_X2_rule (l : Launch) (D : va_G) (cI cJ cZ cO : ClassId) (sz : Nat) (x0 : Nat) (s0 : Nat) (b1 : Nat) (b2 : Nat) (b3 : Nat) (im : Nat) (p0 : Nat) (r1 : Nat) (r2 : Nat) (r3 : Nat) (r4 : Nat) (σ : Int → Int) (gk : Int → Int) (q : Int) (v : Int) (h_q : -2147483648 ≤ q ∧ q < 2147483648) (h_v : -2147483648 ≤ v ∧ v < 2147483648) : Met l yX2_rule wsX2_rule rmX2_rule (zPc D cI cJ cZ cO [(x0, .inr (2, [.ref s0, .ref im, .int (zI (gk 0 + 2 * gk 1)), .ref p0, .ref r1, .ref r2, .ref r3, .ref r4])), (s0, .inr (1, [.int (zI (σ 0)), .ref b1, .ref b2, .ref b3, .int (zI (σ 9))])), (b1, .inl (cI, 3, .inl (zF (fun j => σ (1 + j))))), (b2, .inl (cI, 5, .inl (zF (fun j => σ (4 + j))))), (b3, .inl (cI, 12, .inl (zF (fun j => σ (10 + j)))))] sz [.ref x0, .int (zI (q)), .int (zI (v))]) (zQi D (fun (r : Int32) (_ : Unit) => r = zI (A_rule σ q v)) (fun (_ : Unit) => [(x0, .inr (2, [.ref s0, .ref im, .int (zI (gk 0 + 2 * gk 1)), .ref p0, .ref r1, .ref r2, .ref r3, .ref r4])), (s0, .inr (1, [.int (zI ((S_rule σ q v) 0)), .ref b1, .ref b2, .ref b3, .int (zI ((S_rule σ q v) 9))])), (b1, .inl (cI, 3, .inl (zF (fun j => (S_rule σ q v) (1 + j))))), (b2, .inl (cI, 5, .inl (zF (fun j => (S_rule σ q v) (4 + j))))), (b3, .inl (cI, 12, .inl (zF (fun j => (S_rule σ q v) (10 + j)))))]) [(x0, .inr (2, [.ref s0, .ref im, .int (zI (gk 0 + 2 * gk 1)), .ref p0, .ref r1, .ref r2, .ref r3, .ref r4])), (s0, .inr (1, [.int (zI (σ 0)), .ref b1, .ref b2, .ref b3, .int (zI (σ 9))])), (b1, .inl (cI, 3, .inl (zF (fun j => σ (1 + j))))), (b2, .inl (cI, 5, .inl (zF (fun j => σ (4 + j))))), (b3, .inl (cI, 12, .inl (zF (fun j => σ (10 + j)))))] sz) 0 0 (va_A [(x0, .inr (2, [.ref s0, .ref im, .int (zI (gk 0 + 2 * gk 1)), .ref p0, .ref r1, .ref r2, .ref r3, .ref r4])), (s0, .inr (1, [.int (zI (σ 0)), .ref b1, .ref b2, .ref b3, .int (zI (σ 9))])), (b1, .inl (cI, 3, .inl (zF (fun j => σ (1 + j))))), (b2, .inl (cI, 5, .inl (zF (fun j => σ (4 + j))))), (b3, .inl (cI, 12, .inl (zF (fun j => σ (10 + j)))))] sz) := by
  refine z_meti (by decide) rfl (Nat.le_of_ble_eq_true rfl) ?_
  intro p e s m args below meth c A Q ls hx hb hml hown hts hA hS hP hD hK hZ hl hret
  have hl : lv_has ls 4 [(0, .ref x0), (1, .int (zI (q))), (2, .int (zI (v)))] := hl
  have htp := tp_in q
  refine lv_iload_n hx hb dX2_rule_0 rfl (lv_at hl 1 rfl) ?_
  refine z_if_lt (a := q) (tgt := 22) hx hb (by omega) dX2_rule_1 (by decide) (fun c_1 => ?_) (fun c_1 => ?_)
  · refine lv_bipush (v := zI (-2)) hx hb dX2_rule_22 (by decide +kernel) ?_
    exact hret _ _ _ _ _ () dX2_rule_24 (by unfold A_rule; first | (rw [if_neg (by omega)]; done) | (rw [if_pos (by omega), if_neg (by omega)]; done)) (by rw [show S_rule σ q v = σ by unfold S_rule; first | (rw [if_neg (by omega)]; done) | (rw [if_pos (by omega), if_neg (by omega)]; done)]; exact hP) hS
  · refine lv_iload_n hx hb dX2_rule_4 rfl (lv_at hl 1 rfl) ?_
    refine lv_iconst (v := zI (5)) hx hb dX2_rule_5 rfl ?_
    refine z_icmp_ge (a := q) (b := 5) (tgt := 22) hx hb (by omega) dX2_rule_6 (by decide) (fun c_6 => ?_) (fun c_6 => ?_)
    · refine lv_bipush (v := zI (-2)) hx hb dX2_rule_22 (by decide +kernel) ?_
      exact hret _ _ _ _ _ () dX2_rule_24 (by unfold A_rule; first | (rw [if_neg (by omega)]; done) | (rw [if_pos (by omega), if_neg (by omega)]; done)) (by rw [show S_rule σ q v = σ by unfold S_rule; first | (rw [if_neg (by omega)]; done) | (rw [if_pos (by omega), if_neg (by omega)]; done)]; exact hP) hS
    · refine lv_iload_n hx hb dX2_rule_9 rfl (lv_at hl 2 rfl) ?_
      refine z_if_lt (a := v) (tgt := 22) hx hb (by omega) dX2_rule_10 (by decide) (fun c_10 => ?_) (fun c_10 => ?_)
      · refine lv_bipush (v := zI (-2)) hx hb dX2_rule_22 (by decide +kernel) ?_
        exact hret _ _ _ _ _ () dX2_rule_24 (by unfold A_rule; first | (rw [if_neg (by omega)]; done) | (rw [if_pos (by omega), if_neg (by omega)]; done)) (by rw [show S_rule σ q v = σ by unfold S_rule; first | (rw [if_neg (by omega)]; done) | (rw [if_pos (by omega), if_neg (by omega)]; done)]; exact hP) hS
      · refine lv_iload_n hx hb dX2_rule_13 rfl (lv_at hl 2 rfl) ?_
        obtain ⟨tR, hR1, hR2⟩ := hZ.2.1
        refine va_gets (ref := "BrassWays") hx hb hR1 hS hown (hts _ m_X2_rule_0) (fun _ h9 => h9) dX2_rule_14 ?_
        refine lv_iload_n hx hb dX2_rule_17 rfl (lv_at hl 1 rfl) ?_
        refine va_ti hx hb hR2 hS (zI_in (n := 5) (a := q) (by omega) (by omega) (by decide)) (v := .int (zI (tp (q)))) (by show Value.int (zI (tp (((zI (q)).toNatClampNeg : Nat) : Int))) = _; rw [zI_clampI (by omega) (by omega)]) dX2_rule_18 ?_
        refine z_icmp_le (a := v) (b := tp (q)) (tgt := 25) hx hb (by omega) dX2_rule_19 (by decide) (fun c_19 => ?_) (fun c_19 => ?_)
        · refine lv_aload_n hx hb dX2_rule_25 rfl (lv_at hl 0 rfl) ?_
          refine va_get (D := D) (ci := 2) (v := .ref s0) (C := RX2) (T := TX2) (N := 8) hx hb hts in_X2_rule_X2 hown hK hP 0 rfl rfl 0 (by decide) (hts _ m_X2_rule_1) (fun _ h9 => h9) rfl dX2_rule_26 ?_
          refine va_get (D := D) (ci := 1) (v := .ref b2) (C := RX1) (T := TX1) (N := 5) hx hb hts in_X2_rule_X1 hown hK hP 1 rfl rfl 2 (by decide) (hts _ m_X2_rule_2) (fun _ h9 => h9) rfl dX2_rule_29 ?_
          refine lv_iload_n hx hb dX2_rule_32 rfl (lv_at hl 1 rfl) ?_
          refine z_iald (k := q) (g := fun j => σ (4 + j)) hx hb hK hP 3 0 rfl rfl (by omega) dX2_rule_33 ?_
          try dsimp only
          refine lv_istore_n (lv' := [(3, .int (zI (σ (4 + q)))), (0, .ref x0), (1, .int (zI (q))), (2, .int (zI (v)))]) hx hb dX2_rule_34 rfl hl (by decide) rfl (fun ls hl => ?_)
          refine lv_aload_n hx hb dX2_rule_35 rfl (lv_at hl 1 rfl) ?_
          refine va_get (D := D) (ci := 2) (v := .ref s0) (C := RX2) (T := TX2) (N := 8) hx hb hts in_X2_rule_X2 hown hK hP 0 rfl rfl 0 (by decide) (hts _ m_X2_rule_1) (fun _ h9 => h9) rfl dX2_rule_36 ?_
          refine va_get (D := D) (ci := 1) (v := .ref b2) (C := RX1) (T := TX1) (N := 5) hx hb hts in_X2_rule_X1 hown hK hP 1 rfl rfl 2 (by decide) (hts _ m_X2_rule_2) (fun _ h9 => h9) rfl dX2_rule_39 ?_
          refine lv_iload_n hx hb dX2_rule_42 rfl (lv_at hl 2 rfl) ?_
          refine lv_iload_n hx hb dX2_rule_43 rfl (lv_at hl 3 rfl) ?_
          refine z_iast (k := q) (x := v) (g := fun j => σ (4 + j)) hx hb hK hP hD hS 3 0 rfl rfl (by omega) dX2_rule_44 (fun H locs hP hD hS => ?_)
          have hP : va_P D vwCl [(x0, .inr (2, [.ref s0, .ref im, .int (zI (gk 0 + 2 * gk 1)), .ref p0, .ref r1, .ref r2, .ref r3, .ref r4])), (s0, .inr (1, [.int (zI (σ 0)), .ref b1, .ref b2, .ref b3, .int (zI (σ 9))])), (b1, .inl (cI, 3, .inl (zF (fun j => σ (1 + j))))), (b2, .inl (cI, 5, .inl (zF (upI (fun j => σ (4 + j)) q v)))), (b3, .inl (cI, 12, .inl (zF (fun j => σ (10 + j)))))] H := hP
          have hD : va_D A [(x0, .inr (2, [.ref s0, .ref im, .int (zI (gk 0 + 2 * gk 1)), .ref p0, .ref r1, .ref r2, .ref r3, .ref r4])), (s0, .inr (1, [.int (zI (σ 0)), .ref b1, .ref b2, .ref b3, .int (zI (σ 9))])), (b1, .inl (cI, 3, .inl (zF (fun j => σ (1 + j))))), (b2, .inl (cI, 5, .inl (zF (upI (fun j => σ (4 + j)) q v)))), (b3, .inl (cI, 12, .inl (zF (fun j => σ (10 + j)))))] := hD
          have hP := zP_arr 2 (fun j => upI σ (4 + q) (v) (1 + j)) hP rfl (fun j h0 h1 => (upI_n (by omega)).symm)
          have hP : va_P D vwCl [(x0, .inr (2, [.ref s0, .ref im, .int (zI (gk 0 + 2 * gk 1)), .ref p0, .ref r1, .ref r2, .ref r3, .ref r4])), (s0, .inr (1, [.int (zI (σ 0)), .ref b1, .ref b2, .ref b3, .int (zI (σ 9))])), (b1, .inl (cI, 3, .inl (zF (fun j => upI σ (4 + q) (v) (1 + j))))), (b2, .inl (cI, 5, .inl (zF (upI (fun j => σ (4 + j)) q v)))), (b3, .inl (cI, 12, .inl (zF (fun j => σ (10 + j)))))] H := hP
          have hD : va_D A [(x0, .inr (2, [.ref s0, .ref im, .int (zI (gk 0 + 2 * gk 1)), .ref p0, .ref r1, .ref r2, .ref r3, .ref r4])), (s0, .inr (1, [.int (zI (σ 0)), .ref b1, .ref b2, .ref b3, .int (zI (σ 9))])), (b1, .inl (cI, 3, .inl (zF (fun j => upI σ (4 + q) (v) (1 + j))))), (b2, .inl (cI, 5, .inl (zF (upI (fun j => σ (4 + j)) q v)))), (b3, .inl (cI, 12, .inl (zF (fun j => σ (10 + j)))))] := hD.set (p := 2) rfl
          have hP := zP_arr 3 (fun j => upI σ (4 + q) (v) (4 + j)) hP rfl (fun j h0 h1 => up_shift σ (4) (q) (v) j)
          have hP : va_P D vwCl [(x0, .inr (2, [.ref s0, .ref im, .int (zI (gk 0 + 2 * gk 1)), .ref p0, .ref r1, .ref r2, .ref r3, .ref r4])), (s0, .inr (1, [.int (zI (σ 0)), .ref b1, .ref b2, .ref b3, .int (zI (σ 9))])), (b1, .inl (cI, 3, .inl (zF (fun j => upI σ (4 + q) (v) (1 + j))))), (b2, .inl (cI, 5, .inl (zF (fun j => upI σ (4 + q) (v) (4 + j))))), (b3, .inl (cI, 12, .inl (zF (fun j => σ (10 + j)))))] H := hP
          have hD : va_D A [(x0, .inr (2, [.ref s0, .ref im, .int (zI (gk 0 + 2 * gk 1)), .ref p0, .ref r1, .ref r2, .ref r3, .ref r4])), (s0, .inr (1, [.int (zI (σ 0)), .ref b1, .ref b2, .ref b3, .int (zI (σ 9))])), (b1, .inl (cI, 3, .inl (zF (fun j => upI σ (4 + q) (v) (1 + j))))), (b2, .inl (cI, 5, .inl (zF (fun j => upI σ (4 + q) (v) (4 + j))))), (b3, .inl (cI, 12, .inl (zF (fun j => σ (10 + j)))))] := hD.set (p := 3) rfl
          have hP := zP_arr 4 (fun j => upI σ (4 + q) (v) (10 + j)) hP rfl (fun j h0 h1 => (upI_n (by omega)).symm)
          have hP : va_P D vwCl [(x0, .inr (2, [.ref s0, .ref im, .int (zI (gk 0 + 2 * gk 1)), .ref p0, .ref r1, .ref r2, .ref r3, .ref r4])), (s0, .inr (1, [.int (zI (σ 0)), .ref b1, .ref b2, .ref b3, .int (zI (σ 9))])), (b1, .inl (cI, 3, .inl (zF (fun j => upI σ (4 + q) (v) (1 + j))))), (b2, .inl (cI, 5, .inl (zF (fun j => upI σ (4 + q) (v) (4 + j))))), (b3, .inl (cI, 12, .inl (zF (fun j => upI σ (4 + q) (v) (10 + j)))))] H := hP
          have hD : va_D A [(x0, .inr (2, [.ref s0, .ref im, .int (zI (gk 0 + 2 * gk 1)), .ref p0, .ref r1, .ref r2, .ref r3, .ref r4])), (s0, .inr (1, [.int (zI (σ 0)), .ref b1, .ref b2, .ref b3, .int (zI (σ 9))])), (b1, .inl (cI, 3, .inl (zF (fun j => upI σ (4 + q) (v) (1 + j))))), (b2, .inl (cI, 5, .inl (zF (fun j => upI σ (4 + q) (v) (4 + j))))), (b3, .inl (cI, 12, .inl (zF (fun j => upI σ (4 + q) (v) (10 + j)))))] := hD.set (p := 4) rfl
          have hP : va_P D vwCl [(x0, .inr (2, [.ref s0, .ref im, .int (zI (gk 0 + 2 * gk 1)), .ref p0, .ref r1, .ref r2, .ref r3, .ref r4])), (s0, .inr (1, [.int (zI (upI σ (4 + q) (v) 0)), .ref b1, .ref b2, .ref b3, .int (zI (σ 9))])), (b1, .inl (cI, 3, .inl (zF (fun j => upI σ (4 + q) (v) (1 + j))))), (b2, .inl (cI, 5, .inl (zF (fun j => upI σ (4 + q) (v) (4 + j))))), (b3, .inl (cI, 12, .inl (zF (fun j => upI σ (4 + q) (v) (10 + j)))))] H := by have e0 : zI (upI σ (4 + q) (v) 0) = zI (σ 0) := ((by first | rw [upI_n (by omega)] | (rw [show (0 : Int) = 4 + q by omega, upI_s]) | rw [upI_s])); rw [e0]; exact hP
          have hD : va_D A [(x0, .inr (2, [.ref s0, .ref im, .int (zI (gk 0 + 2 * gk 1)), .ref p0, .ref r1, .ref r2, .ref r3, .ref r4])), (s0, .inr (1, [.int (zI (upI σ (4 + q) (v) 0)), .ref b1, .ref b2, .ref b3, .int (zI (σ 9))])), (b1, .inl (cI, 3, .inl (zF (fun j => upI σ (4 + q) (v) (1 + j))))), (b2, .inl (cI, 5, .inl (zF (fun j => upI σ (4 + q) (v) (4 + j))))), (b3, .inl (cI, 12, .inl (zF (fun j => upI σ (4 + q) (v) (10 + j)))))] := hD.set (p := 1) rfl
          have hP : va_P D vwCl [(x0, .inr (2, [.ref s0, .ref im, .int (zI (gk 0 + 2 * gk 1)), .ref p0, .ref r1, .ref r2, .ref r3, .ref r4])), (s0, .inr (1, [.int (zI (upI σ (4 + q) (v) 0)), .ref b1, .ref b2, .ref b3, .int (zI (upI σ (4 + q) (v) 9))])), (b1, .inl (cI, 3, .inl (zF (fun j => upI σ (4 + q) (v) (1 + j))))), (b2, .inl (cI, 5, .inl (zF (fun j => upI σ (4 + q) (v) (4 + j))))), (b3, .inl (cI, 12, .inl (zF (fun j => upI σ (4 + q) (v) (10 + j)))))] H := by have e0 : zI (upI σ (4 + q) (v) 9) = zI (σ 9) := ((by first | rw [upI_n (by omega)] | (rw [show (9 : Int) = 4 + q by omega, upI_s]) | rw [upI_s])); rw [e0]; exact hP
          have hD : va_D A [(x0, .inr (2, [.ref s0, .ref im, .int (zI (gk 0 + 2 * gk 1)), .ref p0, .ref r1, .ref r2, .ref r3, .ref r4])), (s0, .inr (1, [.int (zI (upI σ (4 + q) (v) 0)), .ref b1, .ref b2, .ref b3, .int (zI (upI σ (4 + q) (v) 9))])), (b1, .inl (cI, 3, .inl (zF (fun j => upI σ (4 + q) (v) (1 + j))))), (b2, .inl (cI, 5, .inl (zF (fun j => upI σ (4 + q) (v) (4 + j))))), (b3, .inl (cI, 12, .inl (zF (fun j => upI σ (4 + q) (v) (10 + j)))))] := hD.set (p := 1) rfl
          refine lv_iload_n hx hb dX2_rule_45 rfl (lv_at hl 0 rfl) ?_
          exact hret _ _ _ _ _ () dX2_rule_46 (by unfold A_rule; rw [if_pos (by omega), if_pos (by omega)]) (by rw [show S_rule σ q v = upI σ (4 + q) v by unfold S_rule; rw [if_pos (by omega), if_pos (by omega)]]; exact hP) hS
        · refine lv_bipush (v := zI (-2)) hx hb dX2_rule_22 (by decide +kernel) ?_
          exact hret _ _ _ _ _ () dX2_rule_24 (by unfold A_rule; first | (rw [if_neg (by omega)]; done) | (rw [if_pos (by omega), if_neg (by omega)]; done)) (by rw [show S_rule σ q v = σ by unfold S_rule; first | (rw [if_neg (by omega)]; done) | (rw [if_pos (by omega), if_neg (by omega)]; done)]; exact hP) hS
abbrev rmX2_lowers : Room := { frames := 2, cells := 0, slots := 0, locals := 46 }
theorem in_X2_lowers_X2 : ∀ w ∈ wsX20, w ∈ wsX2_lowers := fun _ h => List.mem_cons_of_mem _ (List.mem_append_left _ (List.mem_append_right _ h))
theorem m_X2_lowers_0 : (.fieldLink RX2 12 "BrassWays" "now" "LBrassWays$Setup;" : Cond) ∈ wsX2_lowers := List.mem_of_getElem? (i := 1) rfl
set_option maxHeartbeats 4000000 in
set_option maxRecDepth 100000 in
theorem c_X2_lowers (l : Launch) (D : va_G) (cI cJ cZ cO : ClassId) (sz : Nat) (x0 : Nat) (s0 : Nat) (b1 : Nat) (b2 : Nat) (b3 : Nat) (im : Nat) (p0 : Nat) (r1 : Nat) (r2 : Nat) (r3 : Nat) (r4 : Nat) (σ : Int → Int) (gk : Int → Int) (t : Int) (h_t : -2147483648 ≤ t ∧ t < 2147483648) (hO : Ok σ) : Met l yX2_lowers wsX2_lowers rmX2_lowers (zPc D cI cJ cZ cO [(x0, .inr (2, [.ref s0, .ref im, .int (zI (gk 0 + 2 * gk 1)), .ref p0, .ref r1, .ref r2, .ref r3, .ref r4])), (s0, .inr (1, [.int (zI (σ 0)), .ref b1, .ref b2, .ref b3, .int (zI (σ 9))])), (b1, .inl (cI, 3, .inl (zF (fun j => σ (1 + j))))), (b2, .inl (cI, 5, .inl (zF (fun j => σ (4 + j))))), (b3, .inl (cI, 12, .inl (zF (fun j => σ (10 + j)))))] sz [.ref x0, .int (zI (t))]) (zQi D (fun (r : Int32) (_ : Unit) => r = zI (A_lowers σ t)) (fun (_ : Unit) => [(x0, .inr (2, [.ref s0, .ref im, .int (zI (gk 0 + 2 * gk 1)), .ref p0, .ref r1, .ref r2, .ref r3, .ref r4])), (s0, .inr (1, [.int (zI (σ 0)), .ref b1, .ref b2, .ref b3, .int (zI (σ 9))])), (b1, .inl (cI, 3, .inl (zF (fun j => σ (1 + j))))), (b2, .inl (cI, 5, .inl (zF (fun j => σ (4 + j))))), (b3, .inl (cI, 12, .inl (zF (fun j => σ (10 + j)))))]) [(x0, .inr (2, [.ref s0, .ref im, .int (zI (gk 0 + 2 * gk 1)), .ref p0, .ref r1, .ref r2, .ref r3, .ref r4])), (s0, .inr (1, [.int (zI (σ 0)), .ref b1, .ref b2, .ref b3, .int (zI (σ 9))])), (b1, .inl (cI, 3, .inl (zF (fun j => σ (1 + j))))), (b2, .inl (cI, 5, .inl (zF (fun j => σ (4 + j))))), (b3, .inl (cI, 12, .inl (zF (fun j => σ (10 + j)))))] sz) 0 0 (va_A [(x0, .inr (2, [.ref s0, .ref im, .int (zI (gk 0 + 2 * gk 1)), .ref p0, .ref r1, .ref r2, .ref r3, .ref r4])), (s0, .inr (1, [.int (zI (σ 0)), .ref b1, .ref b2, .ref b3, .int (zI (σ 9))])), (b1, .inl (cI, 3, .inl (zF (fun j => σ (1 + j))))), (b2, .inl (cI, 5, .inl (zF (fun j => σ (4 + j))))), (b3, .inl (cI, 12, .inl (zF (fun j => σ (10 + j)))))] sz) := by
  refine z_meti (by decide) rfl (Nat.le_of_ble_eq_true rfl) ?_
  intro p e s m args below meth c A Q ls hx hb hml hown hts hA hS hP hD hK hZ hl hret
  have hl : lv_has ls 2 [(0, .ref x0), (1, .int (zI (t)))] := hl
  refine lv_aload_n hx hb dX2_lowers_0 rfl (lv_at hl 0 rfl) ?_
  refine va_get (D := D) (ci := 2) (v := .ref s0) (C := RX2) (T := TX2) (N := 8) hx hb hts in_X2_lowers_X2 hown hK hP 0 rfl rfl 0 (by decide) (hts _ m_X2_lowers_0) (fun _ h9 => h9) rfl dX2_lowers_1 ?_
  refine lv_iload_n hx hb dX2_lowers_4 rfl (lv_at hl 1 rfl) ?_
  refine z_Vir (As := [.int (zI (t))]) (rest := []) hx hb hml hown hts hA hS hP hD hK hZ hl.1 (c_X1_hasSetting l D cI cJ cZ cO _ (s0) (b1) (b2) (b3) (σ) (t) (by omega) hO) (cwV 1 hts gX2_lowers_X1_hasSetting rfl rfl rfl (by decide +kernel) ⟨Nat.le_of_ble_eq_true rfl, Nat.le_of_ble_eq_true rfl⟩) [1, 2, 3, 4] rfl rfl 1 1 rfl rfl rfl rfl (Nat.le_of_ble_eq_true rfl) ⟨Nat.zero_le _, Nat.zero_le _⟩ dX2_lowers_5 (fun r u H locs hw hP hS => ?_)
  subst hw
  refine z_ifB_eq (P := okS σ t) (tgt := 26) hx hb dX2_lowers_8 (by decide) (fun c_8 => ?_) (fun c_8 => ?_)
  · refine lv_bipush (v := zI (-2)) hx hb dX2_lowers_26 (by decide +kernel) ?_
    exact hret _ _ _ _ _ () dX2_lowers_28 (by unfold A_lowers; first | rw [if_neg c_8] | rw [if_pos c_8]) hP hS
  · have ht8 : 0 ≤ t ∧ t < 8 := by have q := c_8; unfold okS at q; split at q <;> omega
    refine lv_aload_n hx hb dX2_lowers_11 rfl (lv_at hl 0 rfl) ?_
    refine va_get (D := D) (ci := 2) (v := .ref s0) (C := RX2) (T := TX2) (N := 8) hx hb hts in_X2_lowers_X2 hown hK hP 0 rfl rfl 0 (by decide) (hts _ m_X2_lowers_0) (fun _ h9 => h9) rfl dX2_lowers_12 ?_
    refine lv_iload_n hx hb dX2_lowers_15 rfl (lv_at hl 1 rfl) ?_
    refine z_Vir (As := [.int (zI (t))]) (rest := []) hx hb hml hown hts hA hS hP hD hK hZ hl.1 (c_X1_dropOf l D cI cJ cZ cO _ (s0) (b1) (b2) (b3) (σ) (t) (by omega) hO) (cwV 1 hts gX2_lowers_X1_dropOf rfl rfl rfl (by decide +kernel) ⟨Nat.le_of_ble_eq_true rfl, Nat.le_of_ble_eq_true rfl⟩) [1, 2, 3, 4] rfl rfl 1 1 rfl rfl rfl rfl (Nat.le_of_ble_eq_true rfl) ⟨Nat.zero_le _, Nat.zero_le _⟩ dX2_lowers_16 (fun r u H locs hw hP hS => ?_)
    subst hw
    refine lv_sipush (v := zI (1000)) hx hb dX2_lowers_19 (by decide +kernel) ?_
    refine z_iadd (a := low σ t) (b := 1000) hx hb dX2_lowers_22 ?_
    refine lv_goto (tgt := 28) hx hb dX2_lowers_23 (by decide) ?_
    exact hret _ _ _ _ _ () dX2_lowers_28 (by unfold A_lowers; first | rw [if_neg c_8] | rw [if_pos c_8]) hP hS
abbrev rmX2_off : Room := { frames := 3, cells := 0, slots := 0, locals := 68 }
theorem in_X2_off_X2 : ∀ w ∈ wsX20, w ∈ wsX2_off := fun _ h => List.mem_cons_of_mem _ (List.mem_append_left _ (List.mem_append_right _ h))
theorem m_X2_off_0 : (.fieldLink RX2 12 "BrassWays" "now" "LBrassWays$Setup;" : Cond) ∈ wsX2_off := List.mem_of_getElem? (i := 1) rfl
set_option maxHeartbeats 4000000 in
set_option maxRecDepth 100000 in
theorem c_X2_off (l : Launch) (D : va_G) (cI cJ cZ cO : ClassId) (sz : Nat) (x0 : Nat) (s0 : Nat) (b1 : Nat) (b2 : Nat) (b3 : Nat) (im : Nat) (p0 : Nat) (r1 : Nat) (r2 : Nat) (r3 : Nat) (r4 : Nat) (σ : Int → Int) (gk : Int → Int) (w : Int) (n : Int) (h_w : -2147483648 ≤ w ∧ w < 2147483648) (h_n : -2147483648 ≤ n ∧ n < 2147483648) (hO : Ok σ) : Met l yX2_off wsX2_off rmX2_off (zPc D cI cJ cZ cO [(x0, .inr (2, [.ref s0, .ref im, .int (zI (gk 0 + 2 * gk 1)), .ref p0, .ref r1, .ref r2, .ref r3, .ref r4])), (s0, .inr (1, [.int (zI (σ 0)), .ref b1, .ref b2, .ref b3, .int (zI (σ 9))])), (b1, .inl (cI, 3, .inl (zF (fun j => σ (1 + j))))), (b2, .inl (cI, 5, .inl (zF (fun j => σ (4 + j))))), (b3, .inl (cI, 12, .inl (zF (fun j => σ (10 + j)))))] sz [.ref x0, .int (zI (w)), .int (zI (n))]) (zQi D (fun (r : Int32) (_ : Unit) => r = zI (A_off σ w n)) (fun (_ : Unit) => [(x0, .inr (2, [.ref s0, .ref im, .int (zI (gk 0 + 2 * gk 1)), .ref p0, .ref r1, .ref r2, .ref r3, .ref r4])), (s0, .inr (1, [.int (zI (σ 0)), .ref b1, .ref b2, .ref b3, .int (zI (σ 9))])), (b1, .inl (cI, 3, .inl (zF (fun j => σ (1 + j))))), (b2, .inl (cI, 5, .inl (zF (fun j => σ (4 + j))))), (b3, .inl (cI, 12, .inl (zF (fun j => σ (10 + j)))))]) [(x0, .inr (2, [.ref s0, .ref im, .int (zI (gk 0 + 2 * gk 1)), .ref p0, .ref r1, .ref r2, .ref r3, .ref r4])), (s0, .inr (1, [.int (zI (σ 0)), .ref b1, .ref b2, .ref b3, .int (zI (σ 9))])), (b1, .inl (cI, 3, .inl (zF (fun j => σ (1 + j))))), (b2, .inl (cI, 5, .inl (zF (fun j => σ (4 + j))))), (b3, .inl (cI, 12, .inl (zF (fun j => σ (10 + j)))))] sz) 0 0 (va_A [(x0, .inr (2, [.ref s0, .ref im, .int (zI (gk 0 + 2 * gk 1)), .ref p0, .ref r1, .ref r2, .ref r3, .ref r4])), (s0, .inr (1, [.int (zI (σ 0)), .ref b1, .ref b2, .ref b3, .int (zI (σ 9))])), (b1, .inl (cI, 3, .inl (zF (fun j => σ (1 + j))))), (b2, .inl (cI, 5, .inl (zF (fun j => σ (4 + j))))), (b3, .inl (cI, 12, .inl (zF (fun j => σ (10 + j)))))] sz) := by
  refine z_meti (by decide) rfl (Nat.le_of_ble_eq_true rfl) ?_
  intro p e s m args below meth c A Q ls hx hb hml hown hts hA hS hP hD hK hZ hl hret
  have hl : lv_has ls 3 [(0, .ref x0), (1, .int (zI (w))), (2, .int (zI (n)))] := hl
  refine lv_aload_n hx hb dX2_off_0 rfl (lv_at hl 0 rfl) ?_
  refine va_get (D := D) (ci := 2) (v := .ref s0) (C := RX2) (T := TX2) (N := 8) hx hb hts in_X2_off_X2 hown hK hP 0 rfl rfl 0 (by decide) (hts _ m_X2_off_0) (fun _ h9 => h9) rfl dX2_off_1 ?_
  refine lv_iload_n hx hb dX2_off_4 rfl (lv_at hl 1 rfl) ?_
  refine z_Vir (As := [.int (zI (w))]) (rest := []) hx hb hml hown hts hA hS hP hD hK hZ hl.1 (c_X1_hasWay l D cI cJ cZ cO _ (s0) (b1) (b2) (b3) (σ) (w) (by omega) hO) (cwV 1 hts gX2_off_X1_hasWay rfl rfl rfl (by decide +kernel) ⟨Nat.le_of_ble_eq_true rfl, Nat.le_of_ble_eq_true rfl⟩) [1, 2, 3, 4] rfl rfl 1 1 rfl rfl rfl rfl (Nat.le_of_ble_eq_true rfl) ⟨Nat.zero_le _, Nat.zero_le _⟩ dX2_off_5 (fun r u H locs hw hP hS => ?_)
  subst hw
  refine z_ifB_eq (P := okW σ w) (tgt := 34) hx hb dX2_off_8 (by decide) (fun c_8 => ?_) (fun c_8 => ?_)
  · refine lv_bipush (v := zI (-2)) hx hb dX2_off_34 (by decide +kernel) ?_
    exact hret _ _ _ _ _ () dX2_off_36 (by unfold A_off; first | rw [if_neg c_8] | rw [if_pos c_8, if_neg c_15] | rw [if_pos c_8, if_pos c_15]) hP hS
  · have hw6 := c_8.1
    refine lv_iload_n hx hb dX2_off_11 rfl (lv_at hl 2 rfl) ?_
    refine z_Sir (As := [.int (zI (n))]) (rest := []) hx hb hml hown hts hA hS hP hD hK hZ hl.1 (c_X2_isNote l D cI cJ cZ cO _ (n) (by omega)) (va_cwS 1 hts gX2_off_X2_isNote rfl rfl rfl (by decide +kernel) ⟨Nat.le_of_ble_eq_true rfl, Nat.le_of_ble_eq_true rfl⟩) [] rfl rfl rfl rfl (Nat.le_of_ble_eq_true rfl) ⟨Nat.zero_le _, Nat.zero_le _⟩ dX2_off_12 (fun r u H locs hw hP hS => ?_)
    subst hw
    refine z_ifB_eq (P := 0 ≤ n ∧ n ≤ 36) (tgt := 34) hx hb dX2_off_15 (by decide) (fun c_15 => ?_) (fun c_15 => ?_)
    · refine lv_bipush (v := zI (-2)) hx hb dX2_off_34 (by decide +kernel) ?_
      exact hret _ _ _ _ _ () dX2_off_36 (by unfold A_off; first | rw [if_neg c_8] | rw [if_pos c_8, if_neg c_15] | rw [if_pos c_8, if_pos c_15]) hP hS
    · refine lv_aload_n hx hb dX2_off_18 rfl (lv_at hl 0 rfl) ?_
      refine va_get (D := D) (ci := 2) (v := .ref s0) (C := RX2) (T := TX2) (N := 8) hx hb hts in_X2_off_X2 hown hK hP 0 rfl rfl 0 (by decide) (hts _ m_X2_off_0) (fun _ h9 => h9) rfl dX2_off_19 ?_
      refine lv_iload_n hx hb dX2_off_22 rfl (lv_at hl 1 rfl) ?_
      refine lv_iload_n hx hb dX2_off_23 rfl (lv_at hl 2 rfl) ?_
      refine z_Vir (As := [.int (zI (w)), .int (zI (n))]) (rest := []) hx hb hml hown hts hA hS hP hD hK hZ hl.1 (c_X1_offBy l D cI cJ cZ cO _ (s0) (b1) (b2) (b3) (σ) (w) (n) (by omega) hO) (cwV 2 hts gX2_off_X1_offBy rfl rfl rfl (by decide +kernel) ⟨Nat.le_of_ble_eq_true rfl, Nat.le_of_ble_eq_true rfl⟩) [1, 2, 3, 4] rfl rfl 1 1 rfl rfl rfl rfl (Nat.le_of_ble_eq_true rfl) ⟨Nat.zero_le _, Nat.zero_le _⟩ dX2_off_24 (fun r u H locs hw hP hS => ?_)
      subst hw
      refine lv_sipush (v := zI (10000)) hx hb dX2_off_27 (by decide +kernel) ?_
      refine z_iadd (a := off σ w n) (b := 10000) hx hb dX2_off_30 ?_
      refine lv_goto (tgt := 36) hx hb dX2_off_31 (by decide) ?_
      exact hret _ _ _ _ _ () dX2_off_36 (by unfold A_off; first | rw [if_neg c_8] | rw [if_pos c_8, if_neg c_15] | rw [if_pos c_8, if_pos c_15]) hP hS
abbrev rmX2_note : Room := { frames := 1, cells := 0, slots := 0, locals := 20 }
theorem in_X2_note_X2 : ∀ w ∈ wsX20, w ∈ wsX2_note := fun _ h => List.mem_cons_of_mem _ (List.mem_append_left _ (List.mem_append_right _ h))
theorem m_X2_note_0 : (.fieldLink RX2 12 "BrassWays" "now" "LBrassWays$Setup;" : Cond) ∈ wsX2_note := List.mem_of_getElem? (i := 1) rfl
theorem in_X2_note_X1 : ∀ w ∈ wsX10, w ∈ wsX2_note := fun _ h => List.mem_cons_of_mem _ (List.mem_append_right _ h)
theorem m_X2_note_1 : (.fieldLink RX2 87 "BrassWays$Setup" "size" "I" : Cond) ∈ wsX2_note := List.mem_of_getElem? (i := 2) rfl
theorem m_X2_note_2 : (.fieldLink RX2 90 "BrassWays$Setup" "notes" "[I" : Cond) ∈ wsX2_note := List.mem_of_getElem? (i := 3) rfl
set_option maxHeartbeats 4000000 in
set_option maxRecDepth 100000 in
theorem c_X2_note (l : Launch) (D : va_G) (cI cJ cZ cO : ClassId) (sz : Nat) (x0 : Nat) (s0 : Nat) (b1 : Nat) (b2 : Nat) (b3 : Nat) (im : Nat) (p0 : Nat) (r1 : Nat) (r2 : Nat) (r3 : Nat) (r4 : Nat) (σ : Int → Int) (gk : Int → Int) (n : Int) (h_n : -2147483648 ≤ n ∧ n < 2147483648) (hO : Ok σ) : Met l yX2_note wsX2_note rmX2_note (zPc D cI cJ cZ cO [(x0, .inr (2, [.ref s0, .ref im, .int (zI (gk 0 + 2 * gk 1)), .ref p0, .ref r1, .ref r2, .ref r3, .ref r4])), (s0, .inr (1, [.int (zI (σ 0)), .ref b1, .ref b2, .ref b3, .int (zI (σ 9))])), (b1, .inl (cI, 3, .inl (zF (fun j => σ (1 + j))))), (b2, .inl (cI, 5, .inl (zF (fun j => σ (4 + j))))), (b3, .inl (cI, 12, .inl (zF (fun j => σ (10 + j)))))] sz [.ref x0, .int (zI (n))]) (zQi D (fun (r : Int32) (_ : Unit) => r = zI (A_note σ n)) (fun (_ : Unit) => [(x0, .inr (2, [.ref s0, .ref im, .int (zI (gk 0 + 2 * gk 1)), .ref p0, .ref r1, .ref r2, .ref r3, .ref r4])), (s0, .inr (1, [.int (zI ((S_note σ n) 0)), .ref b1, .ref b2, .ref b3, .int (zI ((S_note σ n) 9))])), (b1, .inl (cI, 3, .inl (zF (fun j => (S_note σ n) (1 + j))))), (b2, .inl (cI, 5, .inl (zF (fun j => (S_note σ n) (4 + j))))), (b3, .inl (cI, 12, .inl (zF (fun j => (S_note σ n) (10 + j)))))]) [(x0, .inr (2, [.ref s0, .ref im, .int (zI (gk 0 + 2 * gk 1)), .ref p0, .ref r1, .ref r2, .ref r3, .ref r4])), (s0, .inr (1, [.int (zI (σ 0)), .ref b1, .ref b2, .ref b3, .int (zI (σ 9))])), (b1, .inl (cI, 3, .inl (zF (fun j => σ (1 + j))))), (b2, .inl (cI, 5, .inl (zF (fun j => σ (4 + j))))), (b3, .inl (cI, 12, .inl (zF (fun j => σ (10 + j)))))] sz) 0 0 (va_A [(x0, .inr (2, [.ref s0, .ref im, .int (zI (gk 0 + 2 * gk 1)), .ref p0, .ref r1, .ref r2, .ref r3, .ref r4])), (s0, .inr (1, [.int (zI (σ 0)), .ref b1, .ref b2, .ref b3, .int (zI (σ 9))])), (b1, .inl (cI, 3, .inl (zF (fun j => σ (1 + j))))), (b2, .inl (cI, 5, .inl (zF (fun j => σ (4 + j))))), (b3, .inl (cI, 12, .inl (zF (fun j => σ (10 + j)))))] sz) := by
  refine z_meti (by decide) rfl (Nat.le_of_ble_eq_true rfl) ?_
  intro p e s m args below meth c A Q ls hx hb hml hown hts hA hS hP hD hK hZ hl hret
  have hl : lv_has ls 3 [(0, .ref x0), (1, .int (zI (n)))] := hl
  have o9 := hO.2.2.2.2.2.2.2.2.2.1
  refine lv_iload_n hx hb dX2_note_0 rfl (lv_at hl 1 rfl) ?_
  refine z_Sir (As := [.int (zI (n))]) (rest := []) hx hb hml hown hts hA hS hP hD hK hZ hl.1 (c_X2_isNote l D cI cJ cZ cO _ (n) (by omega)) (va_cwS 1 hts gX2_note_X2_isNote rfl rfl rfl (by decide +kernel) ⟨Nat.le_of_ble_eq_true rfl, Nat.le_of_ble_eq_true rfl⟩) [] rfl rfl rfl rfl (Nat.le_of_ble_eq_true rfl) ⟨Nat.zero_le _, Nat.zero_le _⟩ dX2_note_1 (fun r u H locs hw hP hS => ?_)
  subst hw
  refine z_ifB_ne (P := 0 ≤ n ∧ n ≤ 36) (tgt := 10) hx hb dX2_note_4 (by decide) (fun c_4 => ?_) (fun c_4 => ?_)
  · refine lv_aload_n hx hb dX2_note_10 rfl (lv_at hl 0 rfl) ?_
    refine va_get (D := D) (ci := 2) (v := .ref s0) (C := RX2) (T := TX2) (N := 8) hx hb hts in_X2_note_X2 hown hK hP 0 rfl rfl 0 (by decide) (hts _ m_X2_note_0) (fun _ h9 => h9) rfl dX2_note_11 ?_
    refine va_get (D := D) (ci := 1) (v := .int (zI (σ 9))) (C := RX1) (T := TX1) (N := 5) hx hb hts in_X2_note_X1 hown hK hP 1 rfl rfl 4 (by decide) (hts _ m_X2_note_1) (fun _ h9 => h9) rfl dX2_note_14 ?_
    refine lv_bipush (v := zI (12)) hx hb dX2_note_17 (by decide +kernel) ?_
    refine z_icmp_lt (a := σ 9) (b := 12) (tgt := 25) hx hb (by omega) dX2_note_19 (by decide) (fun c_19 => ?_) (fun c_19 => ?_)
    · refine lv_aload_n hx hb dX2_note_25 rfl (lv_at hl 0 rfl) ?_
      refine va_get (D := D) (ci := 2) (v := .ref s0) (C := RX2) (T := TX2) (N := 8) hx hb hts in_X2_note_X2 hown hK hP 0 rfl rfl 0 (by decide) (hts _ m_X2_note_0) (fun _ h9 => h9) rfl dX2_note_26 ?_
      refine va_get (D := D) (ci := 1) (v := .int (zI (σ 9))) (C := RX1) (T := TX1) (N := 5) hx hb hts in_X2_note_X1 hown hK hP 1 rfl rfl 4 (by decide) (hts _ m_X2_note_1) (fun _ h9 => h9) rfl dX2_note_29 ?_
      refine lv_istore_n (lv' := [(2, .int (zI (σ 9))), (0, .ref x0), (1, .int (zI (n)))]) hx hb dX2_note_32 rfl hl (by decide) rfl (fun ls hl => ?_)
      refine lv_aload_n hx hb dX2_note_33 rfl (lv_at hl 1 rfl) ?_
      refine va_get (D := D) (ci := 2) (v := .ref s0) (C := RX2) (T := TX2) (N := 8) hx hb hts in_X2_note_X2 hown hK hP 0 rfl rfl 0 (by decide) (hts _ m_X2_note_0) (fun _ h9 => h9) rfl dX2_note_34 ?_
      refine va_get (D := D) (ci := 1) (v := .ref b3) (C := RX1) (T := TX1) (N := 5) hx hb hts in_X2_note_X1 hown hK hP 1 rfl rfl 3 (by decide) (hts _ m_X2_note_2) (fun _ h9 => h9) rfl dX2_note_37 ?_
      refine lv_iload_n hx hb dX2_note_40 rfl (lv_at hl 0 rfl) ?_
      refine lv_iload_n hx hb dX2_note_41 rfl (lv_at hl 2 rfl) ?_
      refine z_iast (k := σ 9) (x := n) (g := fun j => σ (10 + j)) hx hb hK hP hD hS 4 0 rfl rfl (by omega) dX2_note_42 (fun H locs hP hD hS => ?_)
      have hP : va_P D vwCl [(x0, .inr (2, [.ref s0, .ref im, .int (zI (gk 0 + 2 * gk 1)), .ref p0, .ref r1, .ref r2, .ref r3, .ref r4])), (s0, .inr (1, [.int (zI (σ 0)), .ref b1, .ref b2, .ref b3, .int (zI (σ 9))])), (b1, .inl (cI, 3, .inl (zF (fun j => σ (1 + j))))), (b2, .inl (cI, 5, .inl (zF (fun j => σ (4 + j))))), (b3, .inl (cI, 12, .inl (zF (upI (fun j => σ (10 + j)) (σ 9) n))))] H := hP
      have hD : va_D A [(x0, .inr (2, [.ref s0, .ref im, .int (zI (gk 0 + 2 * gk 1)), .ref p0, .ref r1, .ref r2, .ref r3, .ref r4])), (s0, .inr (1, [.int (zI (σ 0)), .ref b1, .ref b2, .ref b3, .int (zI (σ 9))])), (b1, .inl (cI, 3, .inl (zF (fun j => σ (1 + j))))), (b2, .inl (cI, 5, .inl (zF (fun j => σ (4 + j))))), (b3, .inl (cI, 12, .inl (zF (upI (fun j => σ (10 + j)) (σ 9) n))))] := hD
      refine lv_aload_n hx hb dX2_note_43 rfl (lv_at hl 1 rfl) ?_
      refine va_get (D := D) (ci := 2) (v := .ref s0) (C := RX2) (T := TX2) (N := 8) hx hb hts in_X2_note_X2 hown hK hP 0 rfl rfl 0 (by decide) (hts _ m_X2_note_0) (fun _ h9 => h9) rfl dX2_note_44 ?_
      refine lv_iload_n hx hb dX2_note_47 rfl (lv_at hl 0 rfl) ?_
      refine lv_iconst (v := zI (1)) hx hb dX2_note_48 rfl ?_
      refine z_iadd (a := σ 9) (b := 1) hx hb dX2_note_49 ?_
      refine va_put (D := D) (ci := 1) (v := .int (zI ((σ 9) + 1))) (ty := .int) (C := RX1) (T := TX1) (N := 5) hx hb hts in_X2_note_X1 tyX1 tyX1_ok nmX1 hown hK hP hD hS 1 rfl rfl 4 (by decide) (hts _ m_X2_note_1) (fun _ h9 => h9) rfl (by decide +kernel) rfl rfl (Nat.le_of_ble_eq_true rfl) dX2_note_50 (fun H locs hP hD hS => ?_)
      have hP : va_P D vwCl [(x0, .inr (2, [.ref s0, .ref im, .int (zI (gk 0 + 2 * gk 1)), .ref p0, .ref r1, .ref r2, .ref r3, .ref r4])), (s0, .inr (1, [.int (zI (σ 0)), .ref b1, .ref b2, .ref b3, .int (zI ((σ 9) + 1))])), (b1, .inl (cI, 3, .inl (zF (fun j => σ (1 + j))))), (b2, .inl (cI, 5, .inl (zF (fun j => σ (4 + j))))), (b3, .inl (cI, 12, .inl (zF (upI (fun j => σ (10 + j)) (σ 9) n))))] H := hP
      have hD : va_D A [(x0, .inr (2, [.ref s0, .ref im, .int (zI (gk 0 + 2 * gk 1)), .ref p0, .ref r1, .ref r2, .ref r3, .ref r4])), (s0, .inr (1, [.int (zI (σ 0)), .ref b1, .ref b2, .ref b3, .int (zI ((σ 9) + 1))])), (b1, .inl (cI, 3, .inl (zF (fun j => σ (1 + j))))), (b2, .inl (cI, 5, .inl (zF (fun j => σ (4 + j))))), (b3, .inl (cI, 12, .inl (zF (upI (fun j => σ (10 + j)) (σ 9) n))))] := hD
      have hP := zP_arr 2 (fun j => upI (upI σ (10 + σ 9) n) 9 (σ 9 + 1) (1 + j)) hP rfl (fun j h0 h1 => ((upI_n (by omega)).trans (upI_n (by omega))).symm)
      have hP : va_P D vwCl [(x0, .inr (2, [.ref s0, .ref im, .int (zI (gk 0 + 2 * gk 1)), .ref p0, .ref r1, .ref r2, .ref r3, .ref r4])), (s0, .inr (1, [.int (zI (σ 0)), .ref b1, .ref b2, .ref b3, .int (zI ((σ 9) + 1))])), (b1, .inl (cI, 3, .inl (zF (fun j => upI (upI σ (10 + σ 9) n) 9 (σ 9 + 1) (1 + j))))), (b2, .inl (cI, 5, .inl (zF (fun j => σ (4 + j))))), (b3, .inl (cI, 12, .inl (zF (upI (fun j => σ (10 + j)) (σ 9) n))))] H := hP
      have hD : va_D A [(x0, .inr (2, [.ref s0, .ref im, .int (zI (gk 0 + 2 * gk 1)), .ref p0, .ref r1, .ref r2, .ref r3, .ref r4])), (s0, .inr (1, [.int (zI (σ 0)), .ref b1, .ref b2, .ref b3, .int (zI ((σ 9) + 1))])), (b1, .inl (cI, 3, .inl (zF (fun j => upI (upI σ (10 + σ 9) n) 9 (σ 9 + 1) (1 + j))))), (b2, .inl (cI, 5, .inl (zF (fun j => σ (4 + j))))), (b3, .inl (cI, 12, .inl (zF (upI (fun j => σ (10 + j)) (σ 9) n))))] := hD.set (p := 2) rfl
      have hP := zP_arr 3 (fun j => upI (upI σ (10 + σ 9) n) 9 (σ 9 + 1) (4 + j)) hP rfl (fun j h0 h1 => ((upI_n (by omega)).trans (upI_n (by omega))).symm)
      have hP : va_P D vwCl [(x0, .inr (2, [.ref s0, .ref im, .int (zI (gk 0 + 2 * gk 1)), .ref p0, .ref r1, .ref r2, .ref r3, .ref r4])), (s0, .inr (1, [.int (zI (σ 0)), .ref b1, .ref b2, .ref b3, .int (zI ((σ 9) + 1))])), (b1, .inl (cI, 3, .inl (zF (fun j => upI (upI σ (10 + σ 9) n) 9 (σ 9 + 1) (1 + j))))), (b2, .inl (cI, 5, .inl (zF (fun j => upI (upI σ (10 + σ 9) n) 9 (σ 9 + 1) (4 + j))))), (b3, .inl (cI, 12, .inl (zF (upI (fun j => σ (10 + j)) (σ 9) n))))] H := hP
      have hD : va_D A [(x0, .inr (2, [.ref s0, .ref im, .int (zI (gk 0 + 2 * gk 1)), .ref p0, .ref r1, .ref r2, .ref r3, .ref r4])), (s0, .inr (1, [.int (zI (σ 0)), .ref b1, .ref b2, .ref b3, .int (zI ((σ 9) + 1))])), (b1, .inl (cI, 3, .inl (zF (fun j => upI (upI σ (10 + σ 9) n) 9 (σ 9 + 1) (1 + j))))), (b2, .inl (cI, 5, .inl (zF (fun j => upI (upI σ (10 + σ 9) n) 9 (σ 9 + 1) (4 + j))))), (b3, .inl (cI, 12, .inl (zF (upI (fun j => σ (10 + j)) (σ 9) n))))] := hD.set (p := 3) rfl
      have hP := zP_arr 4 (fun j => upI (upI σ (10 + σ 9) n) 9 (σ 9 + 1) (10 + j)) hP rfl (fun j h0 h1 => (up_shift σ 10 (σ 9) n j).trans (upI_n (by omega)).symm)
      have hP : va_P D vwCl [(x0, .inr (2, [.ref s0, .ref im, .int (zI (gk 0 + 2 * gk 1)), .ref p0, .ref r1, .ref r2, .ref r3, .ref r4])), (s0, .inr (1, [.int (zI (σ 0)), .ref b1, .ref b2, .ref b3, .int (zI ((σ 9) + 1))])), (b1, .inl (cI, 3, .inl (zF (fun j => upI (upI σ (10 + σ 9) n) 9 (σ 9 + 1) (1 + j))))), (b2, .inl (cI, 5, .inl (zF (fun j => upI (upI σ (10 + σ 9) n) 9 (σ 9 + 1) (4 + j))))), (b3, .inl (cI, 12, .inl (zF (fun j => upI (upI σ (10 + σ 9) n) 9 (σ 9 + 1) (10 + j)))))] H := hP
      have hD : va_D A [(x0, .inr (2, [.ref s0, .ref im, .int (zI (gk 0 + 2 * gk 1)), .ref p0, .ref r1, .ref r2, .ref r3, .ref r4])), (s0, .inr (1, [.int (zI (σ 0)), .ref b1, .ref b2, .ref b3, .int (zI ((σ 9) + 1))])), (b1, .inl (cI, 3, .inl (zF (fun j => upI (upI σ (10 + σ 9) n) 9 (σ 9 + 1) (1 + j))))), (b2, .inl (cI, 5, .inl (zF (fun j => upI (upI σ (10 + σ 9) n) 9 (σ 9 + 1) (4 + j))))), (b3, .inl (cI, 12, .inl (zF (fun j => upI (upI σ (10 + σ 9) n) 9 (σ 9 + 1) (10 + j)))))] := hD.set (p := 4) rfl
      have hP : va_P D vwCl [(x0, .inr (2, [.ref s0, .ref im, .int (zI (gk 0 + 2 * gk 1)), .ref p0, .ref r1, .ref r2, .ref r3, .ref r4])), (s0, .inr (1, [.int (zI (upI (upI σ (10 + σ 9) n) 9 (σ 9 + 1) 0)), .ref b1, .ref b2, .ref b3, .int (zI ((σ 9) + 1))])), (b1, .inl (cI, 3, .inl (zF (fun j => upI (upI σ (10 + σ 9) n) 9 (σ 9 + 1) (1 + j))))), (b2, .inl (cI, 5, .inl (zF (fun j => upI (upI σ (10 + σ 9) n) 9 (σ 9 + 1) (4 + j))))), (b3, .inl (cI, 12, .inl (zF (fun j => upI (upI σ (10 + σ 9) n) 9 (σ 9 + 1) (10 + j)))))] H := by have e0 : zI (upI (upI σ (10 + σ 9) n) 9 (σ 9 + 1) 0) = zI (σ 0) := (by rw [upI_n (by omega), upI_n (by omega)]); rw [e0]; exact hP
      have hD : va_D A [(x0, .inr (2, [.ref s0, .ref im, .int (zI (gk 0 + 2 * gk 1)), .ref p0, .ref r1, .ref r2, .ref r3, .ref r4])), (s0, .inr (1, [.int (zI (upI (upI σ (10 + σ 9) n) 9 (σ 9 + 1) 0)), .ref b1, .ref b2, .ref b3, .int (zI ((σ 9) + 1))])), (b1, .inl (cI, 3, .inl (zF (fun j => upI (upI σ (10 + σ 9) n) 9 (σ 9 + 1) (1 + j))))), (b2, .inl (cI, 5, .inl (zF (fun j => upI (upI σ (10 + σ 9) n) 9 (σ 9 + 1) (4 + j))))), (b3, .inl (cI, 12, .inl (zF (fun j => upI (upI σ (10 + σ 9) n) 9 (σ 9 + 1) (10 + j)))))] := hD.set (p := 1) rfl
      have hP : va_P D vwCl [(x0, .inr (2, [.ref s0, .ref im, .int (zI (gk 0 + 2 * gk 1)), .ref p0, .ref r1, .ref r2, .ref r3, .ref r4])), (s0, .inr (1, [.int (zI (upI (upI σ (10 + σ 9) n) 9 (σ 9 + 1) 0)), .ref b1, .ref b2, .ref b3, .int (zI (upI (upI σ (10 + σ 9) n) 9 (σ 9 + 1) 9))])), (b1, .inl (cI, 3, .inl (zF (fun j => upI (upI σ (10 + σ 9) n) 9 (σ 9 + 1) (1 + j))))), (b2, .inl (cI, 5, .inl (zF (fun j => upI (upI σ (10 + σ 9) n) 9 (σ 9 + 1) (4 + j))))), (b3, .inl (cI, 12, .inl (zF (fun j => upI (upI σ (10 + σ 9) n) 9 (σ 9 + 1) (10 + j)))))] H := by have e0 : zI (upI (upI σ (10 + σ 9) n) 9 (σ 9 + 1) 9) = zI ((σ 9) + 1) := (by rw [upI_s]); rw [e0]; exact hP
      have hD : va_D A [(x0, .inr (2, [.ref s0, .ref im, .int (zI (gk 0 + 2 * gk 1)), .ref p0, .ref r1, .ref r2, .ref r3, .ref r4])), (s0, .inr (1, [.int (zI (upI (upI σ (10 + σ 9) n) 9 (σ 9 + 1) 0)), .ref b1, .ref b2, .ref b3, .int (zI (upI (upI σ (10 + σ 9) n) 9 (σ 9 + 1) 9))])), (b1, .inl (cI, 3, .inl (zF (fun j => upI (upI σ (10 + σ 9) n) 9 (σ 9 + 1) (1 + j))))), (b2, .inl (cI, 5, .inl (zF (fun j => upI (upI σ (10 + σ 9) n) 9 (σ 9 + 1) (4 + j))))), (b3, .inl (cI, 12, .inl (zF (fun j => upI (upI σ (10 + σ 9) n) 9 (σ 9 + 1) (10 + j)))))] := hD.set (p := 1) rfl
      refine lv_iload_n hx hb dX2_note_53 rfl (lv_at hl 0 rfl) ?_
      exact hret _ _ _ _ _ () dX2_note_54 (by unfold A_note; rw [if_pos c_4, if_neg (by omega)]) (by rw [show S_note σ n = upI (upI σ (10 + σ 9) n) 9 (σ 9 + 1) by unfold S_note; rw [if_pos c_4, if_neg (by omega)]]; exact hP) hS
    · refine lv_bipush (v := zI (-4)) hx hb dX2_note_22 (by decide +kernel) ?_
      exact hret _ _ _ _ _ () dX2_note_24 (by unfold A_note; rw [if_pos c_4, if_pos (by omega)]) (by rw [show S_note σ n = σ by unfold S_note; rw [if_pos c_4, if_pos (by omega)]]; exact hP) hS
  · refine lv_bipush (v := zI (-2)) hx hb dX2_note_7 (by decide +kernel) ?_
    exact hret _ _ _ _ _ () dX2_note_9 (by unfold A_note; rw [if_neg c_4]) (by rw [show S_note σ n = σ from if_neg c_4]; exact hP) hS
abbrev rmX2_set : Room := { frames := 1, cells := 0, slots := 0, locals := 21 }
theorem in_X2_set_X2 : ∀ w ∈ wsX20, w ∈ wsX2_set := fun _ h => List.mem_cons_of_mem _ (List.mem_append_left _ (List.mem_append_right _ h))
theorem m_X2_set_0 : (.fieldLink RX2 12 "BrassWays" "now" "LBrassWays$Setup;" : Cond) ∈ wsX2_set := List.mem_of_getElem? (i := 1) rfl
theorem in_X2_set_X1 : ∀ w ∈ wsX10, w ∈ wsX2_set := fun _ h => List.mem_cons_of_mem _ (List.mem_append_right _ h)
theorem m_X2_set_1 : (.fieldLink RX2 90 "BrassWays$Setup" "notes" "[I" : Cond) ∈ wsX2_set := List.mem_of_getElem? (i := 2) rfl
set_option maxHeartbeats 4000000 in
set_option maxRecDepth 100000 in
theorem c_X2_set (l : Launch) (D : va_G) (cI cJ cZ cO : ClassId) (sz : Nat) (x0 : Nat) (s0 : Nat) (b1 : Nat) (b2 : Nat) (b3 : Nat) (im : Nat) (p0 : Nat) (r1 : Nat) (r2 : Nat) (r3 : Nat) (r4 : Nat) (σ : Int → Int) (gk : Int → Int) (q : Int) (n : Int) (h_q : -2147483648 ≤ q ∧ q < 2147483648) (h_n : -2147483648 ≤ n ∧ n < 2147483648) (hO : Ok σ) : Met l yX2_set wsX2_set rmX2_set (zPc D cI cJ cZ cO [(x0, .inr (2, [.ref s0, .ref im, .int (zI (gk 0 + 2 * gk 1)), .ref p0, .ref r1, .ref r2, .ref r3, .ref r4])), (s0, .inr (1, [.int (zI (σ 0)), .ref b1, .ref b2, .ref b3, .int (zI (σ 9))])), (b1, .inl (cI, 3, .inl (zF (fun j => σ (1 + j))))), (b2, .inl (cI, 5, .inl (zF (fun j => σ (4 + j))))), (b3, .inl (cI, 12, .inl (zF (fun j => σ (10 + j)))))] sz [.ref x0, .int (zI (q)), .int (zI (n))]) (zQi D (fun (r : Int32) (_ : Unit) => r = zI (A_set σ q n)) (fun (_ : Unit) => [(x0, .inr (2, [.ref s0, .ref im, .int (zI (gk 0 + 2 * gk 1)), .ref p0, .ref r1, .ref r2, .ref r3, .ref r4])), (s0, .inr (1, [.int (zI ((S_set σ q n) 0)), .ref b1, .ref b2, .ref b3, .int (zI ((S_set σ q n) 9))])), (b1, .inl (cI, 3, .inl (zF (fun j => (S_set σ q n) (1 + j))))), (b2, .inl (cI, 5, .inl (zF (fun j => (S_set σ q n) (4 + j))))), (b3, .inl (cI, 12, .inl (zF (fun j => (S_set σ q n) (10 + j)))))]) [(x0, .inr (2, [.ref s0, .ref im, .int (zI (gk 0 + 2 * gk 1)), .ref p0, .ref r1, .ref r2, .ref r3, .ref r4])), (s0, .inr (1, [.int (zI (σ 0)), .ref b1, .ref b2, .ref b3, .int (zI (σ 9))])), (b1, .inl (cI, 3, .inl (zF (fun j => σ (1 + j))))), (b2, .inl (cI, 5, .inl (zF (fun j => σ (4 + j))))), (b3, .inl (cI, 12, .inl (zF (fun j => σ (10 + j)))))] sz) 0 0 (va_A [(x0, .inr (2, [.ref s0, .ref im, .int (zI (gk 0 + 2 * gk 1)), .ref p0, .ref r1, .ref r2, .ref r3, .ref r4])), (s0, .inr (1, [.int (zI (σ 0)), .ref b1, .ref b2, .ref b3, .int (zI (σ 9))])), (b1, .inl (cI, 3, .inl (zF (fun j => σ (1 + j))))), (b2, .inl (cI, 5, .inl (zF (fun j => σ (4 + j))))), (b3, .inl (cI, 12, .inl (zF (fun j => σ (10 + j)))))] sz) := by
  refine z_meti (by decide) rfl (Nat.le_of_ble_eq_true rfl) ?_
  intro p e s m args below meth c A Q ls hx hb hml hown hts hA hS hP hD hK hZ hl hret
  have hl : lv_has ls 4 [(0, .ref x0), (1, .int (zI (q))), (2, .int (zI (n)))] := hl
  have o9 := hO.2.2.2.2.2.2.2.2.2.1
  refine lv_aload_n hx hb dX2_set_0 rfl (lv_at hl 0 rfl) ?_
  refine lv_iload_n hx hb dX2_set_1 rfl (lv_at hl 1 rfl) ?_
  refine z_Vir (As := [.int (zI (q))]) (rest := []) hx hb hml hown hts hA hS hP hD hK hZ hl.1 (c_X2_isPlace l D cI cJ cZ cO _ (x0) (s0) (b1) (b2) (b3) (im) (p0) (r1) (r2) (r3) (r4) (σ) (gk) (q) (by omega) hO) (cwV 1 hts gX2_set_X2_isPlace rfl rfl rfl (by decide +kernel) ⟨Nat.le_of_ble_eq_true rfl, Nat.le_of_ble_eq_true rfl⟩) [0, 1, 2, 3, 4] rfl rfl 0 2 rfl rfl rfl rfl (Nat.le_of_ble_eq_true rfl) ⟨Nat.zero_le _, Nat.zero_le _⟩ dX2_set_2 (fun r u H locs hw hP hS => ?_)
  subst hw
  refine z_ifB_ne (P := 0 ≤ q ∧ q ≤ σ 9 - 1) (tgt := 10) hx hb dX2_set_5 (by decide) (fun c_5 => ?_) (fun c_5 => ?_)
  · refine lv_iload_n hx hb dX2_set_10 rfl (lv_at hl 2 rfl) ?_
    refine z_Sir (As := [.int (zI (n))]) (rest := []) hx hb hml hown hts hA hS hP hD hK hZ hl.1 (c_X2_isNote l D cI cJ cZ cO _ (n) (by omega)) (va_cwS 1 hts gX2_set_X2_isNote rfl rfl rfl (by decide +kernel) ⟨Nat.le_of_ble_eq_true rfl, Nat.le_of_ble_eq_true rfl⟩) [] rfl rfl rfl rfl (Nat.le_of_ble_eq_true rfl) ⟨Nat.zero_le _, Nat.zero_le _⟩ dX2_set_11 (fun r u H locs hw hP hS => ?_)
    subst hw
    refine z_ifB_ne (P := 0 ≤ n ∧ n ≤ 36) (tgt := 20) hx hb dX2_set_14 (by decide) (fun c_14 => ?_) (fun c_14 => ?_)
    · refine lv_aload_n hx hb dX2_set_20 rfl (lv_at hl 0 rfl) ?_
      refine va_get (D := D) (ci := 2) (v := .ref s0) (C := RX2) (T := TX2) (N := 8) hx hb hts in_X2_set_X2 hown hK hP 0 rfl rfl 0 (by decide) (hts _ m_X2_set_0) (fun _ h9 => h9) rfl dX2_set_21 ?_
      refine va_get (D := D) (ci := 1) (v := .ref b3) (C := RX1) (T := TX1) (N := 5) hx hb hts in_X2_set_X1 hown hK hP 1 rfl rfl 3 (by decide) (hts _ m_X2_set_1) (fun _ h9 => h9) rfl dX2_set_24 ?_
      refine lv_iload_n hx hb dX2_set_27 rfl (lv_at hl 1 rfl) ?_
      refine z_iald (k := q) (g := fun j => σ (10 + j)) hx hb hK hP 4 0 rfl rfl (by omega) dX2_set_28 ?_
      try dsimp only
      refine lv_istore_n (lv' := [(3, .int (zI (σ (10 + q)))), (0, .ref x0), (1, .int (zI (q))), (2, .int (zI (n)))]) hx hb dX2_set_29 rfl hl (by decide) rfl (fun ls hl => ?_)
      refine lv_aload_n hx hb dX2_set_30 rfl (lv_at hl 1 rfl) ?_
      refine va_get (D := D) (ci := 2) (v := .ref s0) (C := RX2) (T := TX2) (N := 8) hx hb hts in_X2_set_X2 hown hK hP 0 rfl rfl 0 (by decide) (hts _ m_X2_set_0) (fun _ h9 => h9) rfl dX2_set_31 ?_
      refine va_get (D := D) (ci := 1) (v := .ref b3) (C := RX1) (T := TX1) (N := 5) hx hb hts in_X2_set_X1 hown hK hP 1 rfl rfl 3 (by decide) (hts _ m_X2_set_1) (fun _ h9 => h9) rfl dX2_set_34 ?_
      refine lv_iload_n hx hb dX2_set_37 rfl (lv_at hl 2 rfl) ?_
      refine lv_iload_n hx hb dX2_set_38 rfl (lv_at hl 3 rfl) ?_
      refine z_iast (k := q) (x := n) (g := fun j => σ (10 + j)) hx hb hK hP hD hS 4 0 rfl rfl (by omega) dX2_set_39 (fun H locs hP hD hS => ?_)
      have hP : va_P D vwCl [(x0, .inr (2, [.ref s0, .ref im, .int (zI (gk 0 + 2 * gk 1)), .ref p0, .ref r1, .ref r2, .ref r3, .ref r4])), (s0, .inr (1, [.int (zI (σ 0)), .ref b1, .ref b2, .ref b3, .int (zI (σ 9))])), (b1, .inl (cI, 3, .inl (zF (fun j => σ (1 + j))))), (b2, .inl (cI, 5, .inl (zF (fun j => σ (4 + j))))), (b3, .inl (cI, 12, .inl (zF (upI (fun j => σ (10 + j)) q n))))] H := hP
      have hD : va_D A [(x0, .inr (2, [.ref s0, .ref im, .int (zI (gk 0 + 2 * gk 1)), .ref p0, .ref r1, .ref r2, .ref r3, .ref r4])), (s0, .inr (1, [.int (zI (σ 0)), .ref b1, .ref b2, .ref b3, .int (zI (σ 9))])), (b1, .inl (cI, 3, .inl (zF (fun j => σ (1 + j))))), (b2, .inl (cI, 5, .inl (zF (fun j => σ (4 + j))))), (b3, .inl (cI, 12, .inl (zF (upI (fun j => σ (10 + j)) q n))))] := hD
      have hP := zP_arr 2 (fun j => upI σ (10 + q) (n) (1 + j)) hP rfl (fun j h0 h1 => (upI_n (by omega)).symm)
      have hP : va_P D vwCl [(x0, .inr (2, [.ref s0, .ref im, .int (zI (gk 0 + 2 * gk 1)), .ref p0, .ref r1, .ref r2, .ref r3, .ref r4])), (s0, .inr (1, [.int (zI (σ 0)), .ref b1, .ref b2, .ref b3, .int (zI (σ 9))])), (b1, .inl (cI, 3, .inl (zF (fun j => upI σ (10 + q) (n) (1 + j))))), (b2, .inl (cI, 5, .inl (zF (fun j => σ (4 + j))))), (b3, .inl (cI, 12, .inl (zF (upI (fun j => σ (10 + j)) q n))))] H := hP
      have hD : va_D A [(x0, .inr (2, [.ref s0, .ref im, .int (zI (gk 0 + 2 * gk 1)), .ref p0, .ref r1, .ref r2, .ref r3, .ref r4])), (s0, .inr (1, [.int (zI (σ 0)), .ref b1, .ref b2, .ref b3, .int (zI (σ 9))])), (b1, .inl (cI, 3, .inl (zF (fun j => upI σ (10 + q) (n) (1 + j))))), (b2, .inl (cI, 5, .inl (zF (fun j => σ (4 + j))))), (b3, .inl (cI, 12, .inl (zF (upI (fun j => σ (10 + j)) q n))))] := hD.set (p := 2) rfl
      have hP := zP_arr 3 (fun j => upI σ (10 + q) (n) (4 + j)) hP rfl (fun j h0 h1 => (upI_n (by omega)).symm)
      have hP : va_P D vwCl [(x0, .inr (2, [.ref s0, .ref im, .int (zI (gk 0 + 2 * gk 1)), .ref p0, .ref r1, .ref r2, .ref r3, .ref r4])), (s0, .inr (1, [.int (zI (σ 0)), .ref b1, .ref b2, .ref b3, .int (zI (σ 9))])), (b1, .inl (cI, 3, .inl (zF (fun j => upI σ (10 + q) (n) (1 + j))))), (b2, .inl (cI, 5, .inl (zF (fun j => upI σ (10 + q) (n) (4 + j))))), (b3, .inl (cI, 12, .inl (zF (upI (fun j => σ (10 + j)) q n))))] H := hP
      have hD : va_D A [(x0, .inr (2, [.ref s0, .ref im, .int (zI (gk 0 + 2 * gk 1)), .ref p0, .ref r1, .ref r2, .ref r3, .ref r4])), (s0, .inr (1, [.int (zI (σ 0)), .ref b1, .ref b2, .ref b3, .int (zI (σ 9))])), (b1, .inl (cI, 3, .inl (zF (fun j => upI σ (10 + q) (n) (1 + j))))), (b2, .inl (cI, 5, .inl (zF (fun j => upI σ (10 + q) (n) (4 + j))))), (b3, .inl (cI, 12, .inl (zF (upI (fun j => σ (10 + j)) q n))))] := hD.set (p := 3) rfl
      have hP := zP_arr 4 (fun j => upI σ (10 + q) (n) (10 + j)) hP rfl (fun j h0 h1 => up_shift σ (10) (q) (n) j)
      have hP : va_P D vwCl [(x0, .inr (2, [.ref s0, .ref im, .int (zI (gk 0 + 2 * gk 1)), .ref p0, .ref r1, .ref r2, .ref r3, .ref r4])), (s0, .inr (1, [.int (zI (σ 0)), .ref b1, .ref b2, .ref b3, .int (zI (σ 9))])), (b1, .inl (cI, 3, .inl (zF (fun j => upI σ (10 + q) (n) (1 + j))))), (b2, .inl (cI, 5, .inl (zF (fun j => upI σ (10 + q) (n) (4 + j))))), (b3, .inl (cI, 12, .inl (zF (fun j => upI σ (10 + q) (n) (10 + j)))))] H := hP
      have hD : va_D A [(x0, .inr (2, [.ref s0, .ref im, .int (zI (gk 0 + 2 * gk 1)), .ref p0, .ref r1, .ref r2, .ref r3, .ref r4])), (s0, .inr (1, [.int (zI (σ 0)), .ref b1, .ref b2, .ref b3, .int (zI (σ 9))])), (b1, .inl (cI, 3, .inl (zF (fun j => upI σ (10 + q) (n) (1 + j))))), (b2, .inl (cI, 5, .inl (zF (fun j => upI σ (10 + q) (n) (4 + j))))), (b3, .inl (cI, 12, .inl (zF (fun j => upI σ (10 + q) (n) (10 + j)))))] := hD.set (p := 4) rfl
      have hP : va_P D vwCl [(x0, .inr (2, [.ref s0, .ref im, .int (zI (gk 0 + 2 * gk 1)), .ref p0, .ref r1, .ref r2, .ref r3, .ref r4])), (s0, .inr (1, [.int (zI (upI σ (10 + q) (n) 0)), .ref b1, .ref b2, .ref b3, .int (zI (σ 9))])), (b1, .inl (cI, 3, .inl (zF (fun j => upI σ (10 + q) (n) (1 + j))))), (b2, .inl (cI, 5, .inl (zF (fun j => upI σ (10 + q) (n) (4 + j))))), (b3, .inl (cI, 12, .inl (zF (fun j => upI σ (10 + q) (n) (10 + j)))))] H := by have e0 : zI (upI σ (10 + q) (n) 0) = zI (σ 0) := ((by first | rw [upI_n (by omega)] | (rw [show (0 : Int) = 10 + q by omega, upI_s]) | rw [upI_s])); rw [e0]; exact hP
      have hD : va_D A [(x0, .inr (2, [.ref s0, .ref im, .int (zI (gk 0 + 2 * gk 1)), .ref p0, .ref r1, .ref r2, .ref r3, .ref r4])), (s0, .inr (1, [.int (zI (upI σ (10 + q) (n) 0)), .ref b1, .ref b2, .ref b3, .int (zI (σ 9))])), (b1, .inl (cI, 3, .inl (zF (fun j => upI σ (10 + q) (n) (1 + j))))), (b2, .inl (cI, 5, .inl (zF (fun j => upI σ (10 + q) (n) (4 + j))))), (b3, .inl (cI, 12, .inl (zF (fun j => upI σ (10 + q) (n) (10 + j)))))] := hD.set (p := 1) rfl
      have hP : va_P D vwCl [(x0, .inr (2, [.ref s0, .ref im, .int (zI (gk 0 + 2 * gk 1)), .ref p0, .ref r1, .ref r2, .ref r3, .ref r4])), (s0, .inr (1, [.int (zI (upI σ (10 + q) (n) 0)), .ref b1, .ref b2, .ref b3, .int (zI (upI σ (10 + q) (n) 9))])), (b1, .inl (cI, 3, .inl (zF (fun j => upI σ (10 + q) (n) (1 + j))))), (b2, .inl (cI, 5, .inl (zF (fun j => upI σ (10 + q) (n) (4 + j))))), (b3, .inl (cI, 12, .inl (zF (fun j => upI σ (10 + q) (n) (10 + j)))))] H := by have e0 : zI (upI σ (10 + q) (n) 9) = zI (σ 9) := ((by first | rw [upI_n (by omega)] | (rw [show (9 : Int) = 10 + q by omega, upI_s]) | rw [upI_s])); rw [e0]; exact hP
      have hD : va_D A [(x0, .inr (2, [.ref s0, .ref im, .int (zI (gk 0 + 2 * gk 1)), .ref p0, .ref r1, .ref r2, .ref r3, .ref r4])), (s0, .inr (1, [.int (zI (upI σ (10 + q) (n) 0)), .ref b1, .ref b2, .ref b3, .int (zI (upI σ (10 + q) (n) 9))])), (b1, .inl (cI, 3, .inl (zF (fun j => upI σ (10 + q) (n) (1 + j))))), (b2, .inl (cI, 5, .inl (zF (fun j => upI σ (10 + q) (n) (4 + j))))), (b3, .inl (cI, 12, .inl (zF (fun j => upI σ (10 + q) (n) (10 + j)))))] := hD.set (p := 1) rfl
      refine lv_iload_n hx hb dX2_set_40 rfl (lv_at hl 0 rfl) ?_
      exact hret _ _ _ _ _ () dX2_set_41 (by unfold A_set; rw [if_pos c_5, if_pos c_14]) (by rw [show S_set σ q n = upI σ (10 + q) n by unfold S_set; rw [if_pos c_5, if_pos c_14]]; exact hP) hS
    · refine lv_bipush (v := zI (-2)) hx hb dX2_set_17 (by decide +kernel) ?_
      exact hret _ _ _ _ _ () dX2_set_19 (by unfold A_set; rw [if_pos c_5, if_neg c_14]) (by rw [show S_set σ q n = σ by unfold S_set; rw [if_pos c_5, if_neg c_14]]; exact hP) hS
  · refine lv_iconst (v := zI (-1)) hx hb dX2_set_8 rfl ?_
    exact hret _ _ _ _ _ () dX2_set_9 (by unfold A_set; rw [if_neg c_5]) (by rw [show S_set σ q n = σ from if_neg c_5]; exact hP) hS
abbrev rmX2_clear : Room := { frames := 0, cells := 0, slots := 0, locals := 0 }
theorem in_X2_clear_X2 : ∀ w ∈ wsX20, w ∈ wsX2_clear := fun _ h => List.mem_cons_of_mem _ (List.mem_append_left _ (List.mem_append_right _ h))
theorem m_X2_clear_0 : (.fieldLink RX2 12 "BrassWays" "now" "LBrassWays$Setup;" : Cond) ∈ wsX2_clear := List.mem_of_getElem? (i := 1) rfl
theorem in_X2_clear_X1 : ∀ w ∈ wsX10, w ∈ wsX2_clear := fun _ h => List.mem_cons_of_mem _ (List.mem_append_right _ h)
theorem m_X2_clear_1 : (.fieldLink RX2 87 "BrassWays$Setup" "size" "I" : Cond) ∈ wsX2_clear := List.mem_of_getElem? (i := 2) rfl
set_option maxHeartbeats 4000000 in
set_option maxRecDepth 100000 in
theorem c_X2_clear (l : Launch) (D : va_G) (cI cJ cZ cO : ClassId) (sz : Nat) (x0 : Nat) (s0 : Nat) (b1 : Nat) (b2 : Nat) (b3 : Nat) (im : Nat) (p0 : Nat) (r1 : Nat) (r2 : Nat) (r3 : Nat) (r4 : Nat) (σ : Int → Int) (gk : Int → Int)  : Met l yX2_clear wsX2_clear rmX2_clear (zPc D cI cJ cZ cO [(x0, .inr (2, [.ref s0, .ref im, .int (zI (gk 0 + 2 * gk 1)), .ref p0, .ref r1, .ref r2, .ref r3, .ref r4])), (s0, .inr (1, [.int (zI (σ 0)), .ref b1, .ref b2, .ref b3, .int (zI (σ 9))])), (b1, .inl (cI, 3, .inl (zF (fun j => σ (1 + j))))), (b2, .inl (cI, 5, .inl (zF (fun j => σ (4 + j))))), (b3, .inl (cI, 12, .inl (zF (fun j => σ (10 + j)))))] sz [.ref x0]) (zQi D (fun (r : Int32) (_ : Unit) => r = zI (σ 9)) (fun (_ : Unit) => [(x0, .inr (2, [.ref s0, .ref im, .int (zI (gk 0 + 2 * gk 1)), .ref p0, .ref r1, .ref r2, .ref r3, .ref r4])), (s0, .inr (1, [.int (zI ((upI σ 9 0) 0)), .ref b1, .ref b2, .ref b3, .int (zI ((upI σ 9 0) 9))])), (b1, .inl (cI, 3, .inl (zF (fun j => (upI σ 9 0) (1 + j))))), (b2, .inl (cI, 5, .inl (zF (fun j => (upI σ 9 0) (4 + j))))), (b3, .inl (cI, 12, .inl (zF (fun j => (upI σ 9 0) (10 + j)))))]) [(x0, .inr (2, [.ref s0, .ref im, .int (zI (gk 0 + 2 * gk 1)), .ref p0, .ref r1, .ref r2, .ref r3, .ref r4])), (s0, .inr (1, [.int (zI (σ 0)), .ref b1, .ref b2, .ref b3, .int (zI (σ 9))])), (b1, .inl (cI, 3, .inl (zF (fun j => σ (1 + j))))), (b2, .inl (cI, 5, .inl (zF (fun j => σ (4 + j))))), (b3, .inl (cI, 12, .inl (zF (fun j => σ (10 + j)))))] sz) 0 0 (va_A [(x0, .inr (2, [.ref s0, .ref im, .int (zI (gk 0 + 2 * gk 1)), .ref p0, .ref r1, .ref r2, .ref r3, .ref r4])), (s0, .inr (1, [.int (zI (σ 0)), .ref b1, .ref b2, .ref b3, .int (zI (σ 9))])), (b1, .inl (cI, 3, .inl (zF (fun j => σ (1 + j))))), (b2, .inl (cI, 5, .inl (zF (fun j => σ (4 + j))))), (b3, .inl (cI, 12, .inl (zF (fun j => σ (10 + j)))))] sz) := by
  refine z_meti (by decide) rfl (Nat.le_of_ble_eq_true rfl) ?_
  intro p e s m args below meth c A Q ls hx hb hml hown hts hA hS hP hD hK hZ hl hret
  have hl : lv_has ls 2 [(0, .ref x0)] := hl
  refine lv_aload_n hx hb dX2_clear_0 rfl (lv_at hl 0 rfl) ?_
  refine va_get (D := D) (ci := 2) (v := .ref s0) (C := RX2) (T := TX2) (N := 8) hx hb hts in_X2_clear_X2 hown hK hP 0 rfl rfl 0 (by decide) (hts _ m_X2_clear_0) (fun _ h9 => h9) rfl dX2_clear_1 ?_
  refine va_get (D := D) (ci := 1) (v := .int (zI (σ 9))) (C := RX1) (T := TX1) (N := 5) hx hb hts in_X2_clear_X1 hown hK hP 1 rfl rfl 4 (by decide) (hts _ m_X2_clear_1) (fun _ h9 => h9) rfl dX2_clear_4 ?_
  refine lv_istore_n (lv' := [(1, .int (zI (σ 9))), (0, .ref x0)]) hx hb dX2_clear_7 rfl hl (by decide) rfl (fun ls hl => ?_)
  refine lv_aload_n hx hb dX2_clear_8 rfl (lv_at hl 1 rfl) ?_
  refine va_get (D := D) (ci := 2) (v := .ref s0) (C := RX2) (T := TX2) (N := 8) hx hb hts in_X2_clear_X2 hown hK hP 0 rfl rfl 0 (by decide) (hts _ m_X2_clear_0) (fun _ h9 => h9) rfl dX2_clear_9 ?_
  refine lv_iconst (v := zI (0)) hx hb dX2_clear_12 rfl ?_
  refine va_put (D := D) (ci := 1) (v := .int (zI (0))) (ty := .int) (C := RX1) (T := TX1) (N := 5) hx hb hts in_X2_clear_X1 tyX1 tyX1_ok nmX1 hown hK hP hD hS 1 rfl rfl 4 (by decide) (hts _ m_X2_clear_1) (fun _ h9 => h9) rfl (by decide +kernel) rfl rfl (Nat.le_of_ble_eq_true rfl) dX2_clear_13 (fun H locs hP hD hS => ?_)
  have hP : va_P D vwCl [(x0, .inr (2, [.ref s0, .ref im, .int (zI (gk 0 + 2 * gk 1)), .ref p0, .ref r1, .ref r2, .ref r3, .ref r4])), (s0, .inr (1, [.int (zI (σ 0)), .ref b1, .ref b2, .ref b3, .int (zI (0))])), (b1, .inl (cI, 3, .inl (zF (fun j => σ (1 + j))))), (b2, .inl (cI, 5, .inl (zF (fun j => σ (4 + j))))), (b3, .inl (cI, 12, .inl (zF (fun j => σ (10 + j)))))] H := hP
  have hD : va_D A [(x0, .inr (2, [.ref s0, .ref im, .int (zI (gk 0 + 2 * gk 1)), .ref p0, .ref r1, .ref r2, .ref r3, .ref r4])), (s0, .inr (1, [.int (zI (σ 0)), .ref b1, .ref b2, .ref b3, .int (zI (0))])), (b1, .inl (cI, 3, .inl (zF (fun j => σ (1 + j))))), (b2, .inl (cI, 5, .inl (zF (fun j => σ (4 + j))))), (b3, .inl (cI, 12, .inl (zF (fun j => σ (10 + j)))))] := hD
  have hP := zP_arr 2 (fun j => upI σ (9) (0) (1 + j)) hP rfl (fun j h0 h1 => (upI_n (by omega)).symm)
  have hP : va_P D vwCl [(x0, .inr (2, [.ref s0, .ref im, .int (zI (gk 0 + 2 * gk 1)), .ref p0, .ref r1, .ref r2, .ref r3, .ref r4])), (s0, .inr (1, [.int (zI (σ 0)), .ref b1, .ref b2, .ref b3, .int (zI (0))])), (b1, .inl (cI, 3, .inl (zF (fun j => upI σ (9) (0) (1 + j))))), (b2, .inl (cI, 5, .inl (zF (fun j => σ (4 + j))))), (b3, .inl (cI, 12, .inl (zF (fun j => σ (10 + j)))))] H := hP
  have hD : va_D A [(x0, .inr (2, [.ref s0, .ref im, .int (zI (gk 0 + 2 * gk 1)), .ref p0, .ref r1, .ref r2, .ref r3, .ref r4])), (s0, .inr (1, [.int (zI (σ 0)), .ref b1, .ref b2, .ref b3, .int (zI (0))])), (b1, .inl (cI, 3, .inl (zF (fun j => upI σ (9) (0) (1 + j))))), (b2, .inl (cI, 5, .inl (zF (fun j => σ (4 + j))))), (b3, .inl (cI, 12, .inl (zF (fun j => σ (10 + j)))))] := hD.set (p := 2) rfl
  have hP := zP_arr 3 (fun j => upI σ (9) (0) (4 + j)) hP rfl (fun j h0 h1 => (upI_n (by omega)).symm)
  have hP : va_P D vwCl [(x0, .inr (2, [.ref s0, .ref im, .int (zI (gk 0 + 2 * gk 1)), .ref p0, .ref r1, .ref r2, .ref r3, .ref r4])), (s0, .inr (1, [.int (zI (σ 0)), .ref b1, .ref b2, .ref b3, .int (zI (0))])), (b1, .inl (cI, 3, .inl (zF (fun j => upI σ (9) (0) (1 + j))))), (b2, .inl (cI, 5, .inl (zF (fun j => upI σ (9) (0) (4 + j))))), (b3, .inl (cI, 12, .inl (zF (fun j => σ (10 + j)))))] H := hP
  have hD : va_D A [(x0, .inr (2, [.ref s0, .ref im, .int (zI (gk 0 + 2 * gk 1)), .ref p0, .ref r1, .ref r2, .ref r3, .ref r4])), (s0, .inr (1, [.int (zI (σ 0)), .ref b1, .ref b2, .ref b3, .int (zI (0))])), (b1, .inl (cI, 3, .inl (zF (fun j => upI σ (9) (0) (1 + j))))), (b2, .inl (cI, 5, .inl (zF (fun j => upI σ (9) (0) (4 + j))))), (b3, .inl (cI, 12, .inl (zF (fun j => σ (10 + j)))))] := hD.set (p := 3) rfl
  have hP := zP_arr 4 (fun j => upI σ (9) (0) (10 + j)) hP rfl (fun j h0 h1 => (upI_n (by omega)).symm)
  have hP : va_P D vwCl [(x0, .inr (2, [.ref s0, .ref im, .int (zI (gk 0 + 2 * gk 1)), .ref p0, .ref r1, .ref r2, .ref r3, .ref r4])), (s0, .inr (1, [.int (zI (σ 0)), .ref b1, .ref b2, .ref b3, .int (zI (0))])), (b1, .inl (cI, 3, .inl (zF (fun j => upI σ (9) (0) (1 + j))))), (b2, .inl (cI, 5, .inl (zF (fun j => upI σ (9) (0) (4 + j))))), (b3, .inl (cI, 12, .inl (zF (fun j => upI σ (9) (0) (10 + j)))))] H := hP
  have hD : va_D A [(x0, .inr (2, [.ref s0, .ref im, .int (zI (gk 0 + 2 * gk 1)), .ref p0, .ref r1, .ref r2, .ref r3, .ref r4])), (s0, .inr (1, [.int (zI (σ 0)), .ref b1, .ref b2, .ref b3, .int (zI (0))])), (b1, .inl (cI, 3, .inl (zF (fun j => upI σ (9) (0) (1 + j))))), (b2, .inl (cI, 5, .inl (zF (fun j => upI σ (9) (0) (4 + j))))), (b3, .inl (cI, 12, .inl (zF (fun j => upI σ (9) (0) (10 + j)))))] := hD.set (p := 4) rfl
  have hP : va_P D vwCl [(x0, .inr (2, [.ref s0, .ref im, .int (zI (gk 0 + 2 * gk 1)), .ref p0, .ref r1, .ref r2, .ref r3, .ref r4])), (s0, .inr (1, [.int (zI (upI σ (9) (0) 0)), .ref b1, .ref b2, .ref b3, .int (zI (0))])), (b1, .inl (cI, 3, .inl (zF (fun j => upI σ (9) (0) (1 + j))))), (b2, .inl (cI, 5, .inl (zF (fun j => upI σ (9) (0) (4 + j))))), (b3, .inl (cI, 12, .inl (zF (fun j => upI σ (9) (0) (10 + j)))))] H := by have e0 : zI (upI σ (9) (0) 0) = zI (σ 0) := ((by first | rw [upI_n (by omega)] | (rw [show (0 : Int) = 9 by omega, upI_s]) | rw [upI_s])); rw [e0]; exact hP
  have hD : va_D A [(x0, .inr (2, [.ref s0, .ref im, .int (zI (gk 0 + 2 * gk 1)), .ref p0, .ref r1, .ref r2, .ref r3, .ref r4])), (s0, .inr (1, [.int (zI (upI σ (9) (0) 0)), .ref b1, .ref b2, .ref b3, .int (zI (0))])), (b1, .inl (cI, 3, .inl (zF (fun j => upI σ (9) (0) (1 + j))))), (b2, .inl (cI, 5, .inl (zF (fun j => upI σ (9) (0) (4 + j))))), (b3, .inl (cI, 12, .inl (zF (fun j => upI σ (9) (0) (10 + j)))))] := hD.set (p := 1) rfl
  have hP : va_P D vwCl [(x0, .inr (2, [.ref s0, .ref im, .int (zI (gk 0 + 2 * gk 1)), .ref p0, .ref r1, .ref r2, .ref r3, .ref r4])), (s0, .inr (1, [.int (zI (upI σ (9) (0) 0)), .ref b1, .ref b2, .ref b3, .int (zI (upI σ (9) (0) 9))])), (b1, .inl (cI, 3, .inl (zF (fun j => upI σ (9) (0) (1 + j))))), (b2, .inl (cI, 5, .inl (zF (fun j => upI σ (9) (0) (4 + j))))), (b3, .inl (cI, 12, .inl (zF (fun j => upI σ (9) (0) (10 + j)))))] H := by have e0 : zI (upI σ (9) (0) 9) = zI (0) := (congrArg zI upI_s); rw [e0]; exact hP
  have hD : va_D A [(x0, .inr (2, [.ref s0, .ref im, .int (zI (gk 0 + 2 * gk 1)), .ref p0, .ref r1, .ref r2, .ref r3, .ref r4])), (s0, .inr (1, [.int (zI (upI σ (9) (0) 0)), .ref b1, .ref b2, .ref b3, .int (zI (upI σ (9) (0) 9))])), (b1, .inl (cI, 3, .inl (zF (fun j => upI σ (9) (0) (1 + j))))), (b2, .inl (cI, 5, .inl (zF (fun j => upI σ (9) (0) (4 + j))))), (b3, .inl (cI, 12, .inl (zF (fun j => upI σ (9) (0) (10 + j)))))] := hD.set (p := 1) rfl
  refine lv_iload_n hx hb dX2_clear_16 rfl (lv_at hl 0 rfl) ?_
  exact hret _ _ _ _ _ () dX2_clear_17 rfl hP hS
abbrev rmX2_effort : Room := { frames := 2, cells := 0, slots := 0, locals := 46 }
theorem in_X2_effort_X2 : ∀ w ∈ wsX20, w ∈ wsX2_effort := fun _ h => List.mem_cons_of_mem _ (List.mem_append_left _ (List.mem_append_right _ h))
theorem m_X2_effort_0 : (.fieldLink RX2 12 "BrassWays" "now" "LBrassWays$Setup;" : Cond) ∈ wsX2_effort := List.mem_of_getElem? (i := 1) rfl
set_option maxHeartbeats 4000000 in
set_option maxRecDepth 100000 in
theorem c_X2_effort (l : Launch) (D : va_G) (cI cJ cZ cO : ClassId) (sz : Nat) (x0 : Nat) (s0 : Nat) (b1 : Nat) (b2 : Nat) (b3 : Nat) (im : Nat) (p0 : Nat) (r1 : Nat) (r2 : Nat) (r3 : Nat) (r4 : Nat) (σ : Int → Int) (gk : Int → Int) (a : Int) (b : Int) (h_a : -2147483648 ≤ a ∧ a < 2147483648) (h_b : -2147483648 ≤ b ∧ b < 2147483648) (hO : Ok σ) : Met l yX2_effort wsX2_effort rmX2_effort (zPc D cI cJ cZ cO [(x0, .inr (2, [.ref s0, .ref im, .int (zI (gk 0 + 2 * gk 1)), .ref p0, .ref r1, .ref r2, .ref r3, .ref r4])), (s0, .inr (1, [.int (zI (σ 0)), .ref b1, .ref b2, .ref b3, .int (zI (σ 9))])), (b1, .inl (cI, 3, .inl (zF (fun j => σ (1 + j))))), (b2, .inl (cI, 5, .inl (zF (fun j => σ (4 + j))))), (b3, .inl (cI, 12, .inl (zF (fun j => σ (10 + j)))))] sz [.ref x0, .int (zI (a)), .int (zI (b))]) (zQi D (fun (r : Int32) (_ : Unit) => r = zI (A_effort σ a b)) (fun (_ : Unit) => [(x0, .inr (2, [.ref s0, .ref im, .int (zI (gk 0 + 2 * gk 1)), .ref p0, .ref r1, .ref r2, .ref r3, .ref r4])), (s0, .inr (1, [.int (zI (σ 0)), .ref b1, .ref b2, .ref b3, .int (zI (σ 9))])), (b1, .inl (cI, 3, .inl (zF (fun j => σ (1 + j))))), (b2, .inl (cI, 5, .inl (zF (fun j => σ (4 + j))))), (b3, .inl (cI, 12, .inl (zF (fun j => σ (10 + j)))))]) [(x0, .inr (2, [.ref s0, .ref im, .int (zI (gk 0 + 2 * gk 1)), .ref p0, .ref r1, .ref r2, .ref r3, .ref r4])), (s0, .inr (1, [.int (zI (σ 0)), .ref b1, .ref b2, .ref b3, .int (zI (σ 9))])), (b1, .inl (cI, 3, .inl (zF (fun j => σ (1 + j))))), (b2, .inl (cI, 5, .inl (zF (fun j => σ (4 + j))))), (b3, .inl (cI, 12, .inl (zF (fun j => σ (10 + j)))))] sz) 0 0 (va_A [(x0, .inr (2, [.ref s0, .ref im, .int (zI (gk 0 + 2 * gk 1)), .ref p0, .ref r1, .ref r2, .ref r3, .ref r4])), (s0, .inr (1, [.int (zI (σ 0)), .ref b1, .ref b2, .ref b3, .int (zI (σ 9))])), (b1, .inl (cI, 3, .inl (zF (fun j => σ (1 + j))))), (b2, .inl (cI, 5, .inl (zF (fun j => σ (4 + j))))), (b3, .inl (cI, 12, .inl (zF (fun j => σ (10 + j)))))] sz) := by
  refine z_meti (by decide) rfl (Nat.le_of_ble_eq_true rfl) ?_
  intro p e s m args below meth c A Q ls hx hb hml hown hts hA hS hP hD hK hZ hl hret
  have hl : lv_has ls 3 [(0, .ref x0), (1, .int (zI (a))), (2, .int (zI (b)))] := hl
  refine lv_aload_n hx hb dX2_effort_0 rfl (lv_at hl 0 rfl) ?_
  refine va_get (D := D) (ci := 2) (v := .ref s0) (C := RX2) (T := TX2) (N := 8) hx hb hts in_X2_effort_X2 hown hK hP 0 rfl rfl 0 (by decide) (hts _ m_X2_effort_0) (fun _ h9 => h9) rfl dX2_effort_1 ?_
  refine lv_iload_n hx hb dX2_effort_4 rfl (lv_at hl 1 rfl) ?_
  refine z_Vir (As := [.int (zI (a))]) (rest := []) hx hb hml hown hts hA hS hP hD hK hZ hl.1 (c_X1_hasWay l D cI cJ cZ cO _ (s0) (b1) (b2) (b3) (σ) (a) (by omega) hO) (cwV 1 hts gX2_effort_X1_hasWay rfl rfl rfl (by decide +kernel) ⟨Nat.le_of_ble_eq_true rfl, Nat.le_of_ble_eq_true rfl⟩) [1, 2, 3, 4] rfl rfl 1 1 rfl rfl rfl rfl (Nat.le_of_ble_eq_true rfl) ⟨Nat.zero_le _, Nat.zero_le _⟩ dX2_effort_5 (fun r u H locs hw hP hS => ?_)
  subst hw
  refine z_ifB_eq (P := okW σ a) (tgt := 34) hx hb dX2_effort_8 (by decide) (fun c_8 => ?_) (fun c_8 => ?_)
  · refine lv_bipush (v := zI (-2)) hx hb dX2_effort_34 (by decide +kernel) ?_
    exact hret _ _ _ _ _ () dX2_effort_36 (by unfold A_effort; first | rw [if_neg c_8] | rw [if_pos c_8, if_neg c_19] | rw [if_pos c_8, if_pos c_19]) hP hS
  · have hw6 := c_8.1
    refine lv_aload_n hx hb dX2_effort_11 rfl (lv_at hl 0 rfl) ?_
    refine va_get (D := D) (ci := 2) (v := .ref s0) (C := RX2) (T := TX2) (N := 8) hx hb hts in_X2_effort_X2 hown hK hP 0 rfl rfl 0 (by decide) (hts _ m_X2_effort_0) (fun _ h9 => h9) rfl dX2_effort_12 ?_
    refine lv_iload_n hx hb dX2_effort_15 rfl (lv_at hl 2 rfl) ?_
    refine z_Vir (As := [.int (zI (b))]) (rest := []) hx hb hml hown hts hA hS hP hD hK hZ hl.1 (c_X1_hasWay l D cI cJ cZ cO _ (s0) (b1) (b2) (b3) (σ) (b) (by omega) hO) (cwV 1 hts gX2_effort_X1_hasWay rfl rfl rfl (by decide +kernel) ⟨Nat.le_of_ble_eq_true rfl, Nat.le_of_ble_eq_true rfl⟩) [1, 2, 3, 4] rfl rfl 1 1 rfl rfl rfl rfl (Nat.le_of_ble_eq_true rfl) ⟨Nat.zero_le _, Nat.zero_le _⟩ dX2_effort_16 (fun r u H locs hw hP hS => ?_)
    subst hw
    refine z_ifB_eq (P := okW σ b) (tgt := 34) hx hb dX2_effort_19 (by decide) (fun c_19 => ?_) (fun c_19 => ?_)
    · refine lv_bipush (v := zI (-2)) hx hb dX2_effort_34 (by decide +kernel) ?_
      exact hret _ _ _ _ _ () dX2_effort_36 (by unfold A_effort; first | rw [if_neg c_8] | rw [if_pos c_8, if_neg c_19] | rw [if_pos c_8, if_pos c_19]) hP hS
    · have hw7 := c_19.1
      refine lv_aload_n hx hb dX2_effort_22 rfl (lv_at hl 0 rfl) ?_
      refine va_get (D := D) (ci := 2) (v := .ref s0) (C := RX2) (T := TX2) (N := 8) hx hb hts in_X2_effort_X2 hown hK hP 0 rfl rfl 0 (by decide) (hts _ m_X2_effort_0) (fun _ h9 => h9) rfl dX2_effort_23 ?_
      refine lv_iload_n hx hb dX2_effort_26 rfl (lv_at hl 1 rfl) ?_
      refine lv_iload_n hx hb dX2_effort_27 rfl (lv_at hl 2 rfl) ?_
      refine z_Vir (As := [.int (zI (a)), .int (zI (b))]) (rest := []) hx hb hml hown hts hA hS hP hD hK hZ hl.1 (c_X1_motion l D cI cJ cZ cO _ (s0) (b1) (b2) (b3) (σ) (a) (b) (by omega) hO) (cwV 2 hts gX2_effort_X1_motion rfl rfl rfl (by decide +kernel) ⟨Nat.le_of_ble_eq_true rfl, Nat.le_of_ble_eq_true rfl⟩) [1, 2, 3, 4] rfl rfl 1 1 rfl rfl rfl rfl (Nat.le_of_ble_eq_true rfl) ⟨Nat.zero_le _, Nat.zero_le _⟩ dX2_effort_28 (fun r u H locs hw hP hS => ?_)
      subst hw
      refine lv_goto (tgt := 36) hx hb dX2_effort_31 (by decide) ?_
      exact hret _ _ _ _ _ () dX2_effort_36 (by unfold A_effort; first | rw [if_neg c_8] | rw [if_pos c_8, if_neg c_19] | rw [if_pos c_8, if_pos c_19]) hP hS
abbrev rmX2_count : Room := { frames := 1, cells := 0, slots := 0, locals := 21 }
theorem in_X2_count_X2 : ∀ w ∈ wsX20, w ∈ wsX2_count := fun _ h => List.mem_cons_of_mem _ (List.mem_append_left _ (List.mem_append_right _ h))
theorem m_X2_count_0 : (.fieldLink RX2 12 "BrassWays" "now" "LBrassWays$Setup;" : Cond) ∈ wsX2_count := List.mem_of_getElem? (i := 1) rfl
theorem in_X2_count_X1 : ∀ w ∈ wsX10, w ∈ wsX2_count := fun _ h => List.mem_cons_of_mem _ (List.mem_append_right _ h)
theorem m_X2_count_6 : (.fieldLink RX2 90 "BrassWays$Setup" "notes" "[I" : Cond) ∈ wsX2_count := List.mem_of_getElem? (i := 7) rfl
theorem m_X2_count_5 : (.fieldLink RX2 51 "BrassWays$Setup" "lengths" "[I" : Cond) ∈ wsX2_count := List.mem_of_getElem? (i := 6) rfl
theorem m_X2_count_4 : (.fieldLink RX2 57 "BrassWays$Setup" "rules" "[I" : Cond) ∈ wsX2_count := List.mem_of_getElem? (i := 5) rfl
theorem m_X2_count_3 : (.fieldLink RX2 20 "BrassWays" "imagesKept" "I" : Cond) ∈ wsX2_count := List.mem_of_getElem? (i := 4) rfl
theorem m_X2_count_2 : (.fieldLink RX2 87 "BrassWays$Setup" "size" "I" : Cond) ∈ wsX2_count := List.mem_of_getElem? (i := 3) rfl
theorem m_X2_count_1 : (.fieldLink RX2 44 "BrassWays$Setup" "kind" "I" : Cond) ∈ wsX2_count := List.mem_of_getElem? (i := 2) rfl
set_option maxHeartbeats 4000000 in
set_option maxRecDepth 100000 in
theorem c_X2_count (l : Launch) (D : va_G) (cI cJ cZ cO : ClassId) (sz : Nat) (x0 : Nat) (s0 : Nat) (b1 : Nat) (b2 : Nat) (b3 : Nat) (im : Nat) (p0 : Nat) (r1 : Nat) (r2 : Nat) (r3 : Nat) (r4 : Nat) (σ : Int → Int) (gk : Int → Int) (q : Int) (h_q : -2147483648 ≤ q ∧ q < 2147483648) (hk : (gk 0 = 0 ∨ gk 0 = 1) ∧ (gk 1 = 0 ∨ gk 1 = 1)) (hO : Ok σ) : Met l yX2_count wsX2_count rmX2_count (zPc D cI cJ cZ cO [(x0, .inr (2, [.ref s0, .ref im, .int (zI (gk 0 + 2 * gk 1)), .ref p0, .ref r1, .ref r2, .ref r3, .ref r4])), (s0, .inr (1, [.int (zI (σ 0)), .ref b1, .ref b2, .ref b3, .int (zI (σ 9))])), (b1, .inl (cI, 3, .inl (zF (fun j => σ (1 + j))))), (b2, .inl (cI, 5, .inl (zF (fun j => σ (4 + j))))), (b3, .inl (cI, 12, .inl (zF (fun j => σ (10 + j)))))] sz [.ref x0, .int (zI (q))]) (zQi D (fun (r : Int32) (_ : Unit) => r = zI (A_count σ gk q)) (fun (_ : Unit) => [(x0, .inr (2, [.ref s0, .ref im, .int (zI (gk 0 + 2 * gk 1)), .ref p0, .ref r1, .ref r2, .ref r3, .ref r4])), (s0, .inr (1, [.int (zI (σ 0)), .ref b1, .ref b2, .ref b3, .int (zI (σ 9))])), (b1, .inl (cI, 3, .inl (zF (fun j => σ (1 + j))))), (b2, .inl (cI, 5, .inl (zF (fun j => σ (4 + j))))), (b3, .inl (cI, 12, .inl (zF (fun j => σ (10 + j)))))]) [(x0, .inr (2, [.ref s0, .ref im, .int (zI (gk 0 + 2 * gk 1)), .ref p0, .ref r1, .ref r2, .ref r3, .ref r4])), (s0, .inr (1, [.int (zI (σ 0)), .ref b1, .ref b2, .ref b3, .int (zI (σ 9))])), (b1, .inl (cI, 3, .inl (zF (fun j => σ (1 + j))))), (b2, .inl (cI, 5, .inl (zF (fun j => σ (4 + j))))), (b3, .inl (cI, 12, .inl (zF (fun j => σ (10 + j)))))] sz) 0 0 (va_A [(x0, .inr (2, [.ref s0, .ref im, .int (zI (gk 0 + 2 * gk 1)), .ref p0, .ref r1, .ref r2, .ref r3, .ref r4])), (s0, .inr (1, [.int (zI (σ 0)), .ref b1, .ref b2, .ref b3, .int (zI (σ 9))])), (b1, .inl (cI, 3, .inl (zF (fun j => σ (1 + j))))), (b2, .inl (cI, 5, .inl (zF (fun j => σ (4 + j))))), (b3, .inl (cI, 12, .inl (zF (fun j => σ (10 + j)))))] sz) := by
  refine z_meti (by decide) rfl (Nat.le_of_ble_eq_true rfl) ?_
  intro p e s m args below meth c A Q ls hx hb hml hown hts hA hS hP hD hK hZ hl hret
  have hl : lv_has ls 2 [(0, .ref x0), (1, .int (zI (q)))] := hl
  have o9 := hO.2.2.2.2.2.2.2.2.2.1
  refine lv_iload_n hx hb dX2_count_0 rfl (lv_at hl 1 rfl) ?_
  refine z_if_ne (a := q) (tgt := 12) hx hb (by omega) dX2_count_1 (by decide) (fun c_1 => ?_) (fun c_1 => ?_)
  · refine lv_iload_n hx hb dX2_count_12 rfl (lv_at hl 1 rfl) ?_
    refine lv_iconst (v := zI (1)) hx hb dX2_count_13 rfl ?_
    refine z_icmp_ne (a := q) (b := 1) (tgt := 25) hx hb (by omega) dX2_count_14 (by decide) (fun c_14 => ?_) (fun c_14 => ?_)
    · refine lv_iload_n hx hb dX2_count_25 rfl (lv_at hl 1 rfl) ?_
      refine lv_iconst (v := zI (2)) hx hb dX2_count_26 rfl ?_
      refine z_icmp_ne (a := q) (b := 2) (tgt := 35) hx hb (by omega) dX2_count_27 (by decide) (fun c_27 => ?_) (fun c_27 => ?_)
      · refine lv_iload_n hx hb dX2_count_35 rfl (lv_at hl 1 rfl) ?_
        refine lv_bipush (v := zI (10)) hx hb dX2_count_36 (by decide +kernel) ?_
        refine z_icmp_lt (a := q) (b := 10) (tgt := 60) hx hb (by omega) dX2_count_38 (by decide) (fun c_38 => ?_) (fun c_38 => ?_)
        · refine lv_iload_n hx hb dX2_count_60 rfl (lv_at hl 1 rfl) ?_
          refine lv_bipush (v := zI (20)) hx hb dX2_count_61 (by decide +kernel) ?_
          refine z_icmp_lt (a := q) (b := 20) (tgt := 85) hx hb (by omega) dX2_count_63 (by decide) (fun c_63 => ?_) (fun c_63 => ?_)
          · refine lv_iload_n hx hb dX2_count_85 rfl (lv_at hl 1 rfl) ?_
            refine lv_bipush (v := zI (30)) hx hb dX2_count_86 (by decide +kernel) ?_
            refine z_icmp_lt (a := q) (b := 30) (tgt := 126) hx hb (by omega) dX2_count_88 (by decide) (fun c_88 => ?_) (fun c_88 => ?_)
            · refine lv_bipush (v := zI (-2)) hx hb dX2_count_126 (by decide +kernel) ?_
              exact hret _ _ _ _ _ () dX2_count_128 (by unfold A_count; rw [if_neg (by omega), if_neg (by omega), if_neg (by omega), if_neg (by omega), if_neg (by omega), if_neg (by omega)]) hP hS
            · refine lv_iload_n hx hb dX2_count_91 rfl (lv_at hl 1 rfl) ?_
              refine lv_bipush (v := zI (42)) hx hb dX2_count_92 (by decide +kernel) ?_
              refine z_icmp_ge (a := q) (b := 42) (tgt := 126) hx hb (by omega) dX2_count_94 (by decide) (fun c_94 => ?_) (fun c_94 => ?_)
              · refine lv_bipush (v := zI (-2)) hx hb dX2_count_126 (by decide +kernel) ?_
                exact hret _ _ _ _ _ () dX2_count_128 (by unfold A_count; rw [if_neg (by omega), if_neg (by omega), if_neg (by omega), if_neg (by omega), if_neg (by omega), if_neg (by omega)]) hP hS
              · refine lv_aload_n hx hb dX2_count_97 rfl (lv_at hl 0 rfl) ?_
                refine lv_iload_n hx hb dX2_count_98 rfl (lv_at hl 1 rfl) ?_
                refine lv_bipush (v := zI (30)) hx hb dX2_count_99 (by decide +kernel) ?_
                refine z_isub (a := q) (b := 30) hx hb dX2_count_101 ?_
                refine z_Vir (As := [.int (zI (q - 30))]) (rest := []) hx hb hml hown hts hA hS hP hD hK hZ hl.1 (c_X2_isPlace l D cI cJ cZ cO _ (x0) (s0) (b1) (b2) (b3) (im) (p0) (r1) (r2) (r3) (r4) (σ) (gk) (q - 30) (by omega) hO) (cwV 1 hts gX2_count_X2_isPlace rfl rfl rfl (by decide +kernel) ⟨Nat.le_of_ble_eq_true rfl, Nat.le_of_ble_eq_true rfl⟩) [0, 1, 2, 3, 4] rfl rfl 0 2 rfl rfl rfl rfl (Nat.le_of_ble_eq_true rfl) ⟨Nat.zero_le _, Nat.zero_le _⟩ dX2_count_102 (fun r u H locs hw hP hS => ?_)
                subst hw
                refine z_ifB_eq (P := 0 ≤ (q - 30) ∧ (q - 30) ≤ σ 9 - 1) (tgt := 123) hx hb dX2_count_105 (by decide) (fun c_105 => ?_) (fun c_105 => ?_)
                · refine lv_bipush (v := zI (-6)) hx hb dX2_count_123 (by decide +kernel) ?_
                  exact hret _ _ _ _ _ () dX2_count_125 (by unfold A_count; rw [if_neg (by omega), if_neg (by omega), if_pos (by omega)]; first | (rw [if_pos c_105]; done) | (rw [if_neg c_105]; done)) hP hS
                · refine lv_aload_n hx hb dX2_count_108 rfl (lv_at hl 0 rfl) ?_
                  refine va_get (D := D) (ci := 2) (v := .ref s0) (C := RX2) (T := TX2) (N := 8) hx hb hts in_X2_count_X2 hown hK hP 0 rfl rfl 0 (by decide) (hts _ m_X2_count_0) (fun _ h9 => h9) rfl dX2_count_109 ?_
                  refine va_get (D := D) (ci := 1) (v := .ref b3) (C := RX1) (T := TX1) (N := 5) hx hb hts in_X2_count_X1 hown hK hP 1 rfl rfl 3 (by decide) (hts _ m_X2_count_6) (fun _ h9 => h9) rfl dX2_count_112 ?_
                  refine lv_iload_n hx hb dX2_count_115 rfl (lv_at hl 1 rfl) ?_
                  refine lv_bipush (v := zI (30)) hx hb dX2_count_116 (by decide +kernel) ?_
                  refine z_isub (a := q) (b := 30) hx hb dX2_count_118 ?_
                  refine z_iald (k := q - 30) (g := fun j => σ (10 + j)) hx hb hK hP 4 0 rfl rfl (by omega) dX2_count_119 ?_
                  try dsimp only
                  refine z_top (y := zI (σ (10 + q - 30))) (by rw [show 10 + (q - 30) = 10 + q - 30 by omega]) ?_
                  refine lv_goto (tgt := 125) hx hb dX2_count_120 (by decide) ?_
                  exact hret _ _ _ _ _ () dX2_count_125 (by unfold A_count; rw [if_neg (by omega), if_neg (by omega), if_pos (by omega)]; first | (rw [if_pos c_105]; done) | (rw [if_neg c_105]; done)) hP hS
          · refine lv_iload_n hx hb dX2_count_66 rfl (lv_at hl 1 rfl) ?_
            refine lv_bipush (v := zI (23)) hx hb dX2_count_67 (by decide +kernel) ?_
            refine z_icmp_ge (a := q) (b := 23) (tgt := 85) hx hb (by omega) dX2_count_69 (by decide) (fun c_69 => ?_) (fun c_69 => ?_)
            · refine lv_iload_n hx hb dX2_count_85 rfl (lv_at hl 1 rfl) ?_
              refine lv_bipush (v := zI (30)) hx hb dX2_count_86 (by decide +kernel) ?_
              refine z_icmp_lt (a := q) (b := 30) (tgt := 126) hx hb (by omega) dX2_count_88 (by decide) (fun c_88 => ?_) (fun c_88 => ?_)
              · refine lv_bipush (v := zI (-2)) hx hb dX2_count_126 (by decide +kernel) ?_
                exact hret _ _ _ _ _ () dX2_count_128 (by unfold A_count; rw [if_neg (by omega), if_neg (by omega), if_neg (by omega), if_neg (by omega), if_neg (by omega), if_neg (by omega)]) hP hS
              · refine lv_iload_n hx hb dX2_count_91 rfl (lv_at hl 1 rfl) ?_
                refine lv_bipush (v := zI (42)) hx hb dX2_count_92 (by decide +kernel) ?_
                refine z_icmp_ge (a := q) (b := 42) (tgt := 126) hx hb (by omega) dX2_count_94 (by decide) (fun c_94 => ?_) (fun c_94 => ?_)
                · refine lv_bipush (v := zI (-2)) hx hb dX2_count_126 (by decide +kernel) ?_
                  exact hret _ _ _ _ _ () dX2_count_128 (by unfold A_count; rw [if_neg (by omega), if_neg (by omega), if_neg (by omega), if_neg (by omega), if_neg (by omega), if_neg (by omega)]) hP hS
                · refine lv_aload_n hx hb dX2_count_97 rfl (lv_at hl 0 rfl) ?_
                  refine lv_iload_n hx hb dX2_count_98 rfl (lv_at hl 1 rfl) ?_
                  refine lv_bipush (v := zI (30)) hx hb dX2_count_99 (by decide +kernel) ?_
                  refine z_isub (a := q) (b := 30) hx hb dX2_count_101 ?_
                  refine z_Vir (As := [.int (zI (q - 30))]) (rest := []) hx hb hml hown hts hA hS hP hD hK hZ hl.1 (c_X2_isPlace l D cI cJ cZ cO _ (x0) (s0) (b1) (b2) (b3) (im) (p0) (r1) (r2) (r3) (r4) (σ) (gk) (q - 30) (by omega) hO) (cwV 1 hts gX2_count_X2_isPlace rfl rfl rfl (by decide +kernel) ⟨Nat.le_of_ble_eq_true rfl, Nat.le_of_ble_eq_true rfl⟩) [0, 1, 2, 3, 4] rfl rfl 0 2 rfl rfl rfl rfl (Nat.le_of_ble_eq_true rfl) ⟨Nat.zero_le _, Nat.zero_le _⟩ dX2_count_102 (fun r u H locs hw hP hS => ?_)
                  subst hw
                  refine z_ifB_eq (P := 0 ≤ (q - 30) ∧ (q - 30) ≤ σ 9 - 1) (tgt := 123) hx hb dX2_count_105 (by decide) (fun c_105 => ?_) (fun c_105 => ?_)
                  · refine lv_bipush (v := zI (-6)) hx hb dX2_count_123 (by decide +kernel) ?_
                    exact hret _ _ _ _ _ () dX2_count_125 (by unfold A_count; rw [if_neg (by omega), if_neg (by omega), if_pos (by omega)]; first | (rw [if_pos c_105]; done) | (rw [if_neg c_105]; done)) hP hS
                  · refine lv_aload_n hx hb dX2_count_108 rfl (lv_at hl 0 rfl) ?_
                    refine va_get (D := D) (ci := 2) (v := .ref s0) (C := RX2) (T := TX2) (N := 8) hx hb hts in_X2_count_X2 hown hK hP 0 rfl rfl 0 (by decide) (hts _ m_X2_count_0) (fun _ h9 => h9) rfl dX2_count_109 ?_
                    refine va_get (D := D) (ci := 1) (v := .ref b3) (C := RX1) (T := TX1) (N := 5) hx hb hts in_X2_count_X1 hown hK hP 1 rfl rfl 3 (by decide) (hts _ m_X2_count_6) (fun _ h9 => h9) rfl dX2_count_112 ?_
                    refine lv_iload_n hx hb dX2_count_115 rfl (lv_at hl 1 rfl) ?_
                    refine lv_bipush (v := zI (30)) hx hb dX2_count_116 (by decide +kernel) ?_
                    refine z_isub (a := q) (b := 30) hx hb dX2_count_118 ?_
                    refine z_iald (k := q - 30) (g := fun j => σ (10 + j)) hx hb hK hP 4 0 rfl rfl (by omega) dX2_count_119 ?_
                    try dsimp only
                    refine z_top (y := zI (σ (10 + q - 30))) (by rw [show 10 + (q - 30) = 10 + q - 30 by omega]) ?_
                    refine lv_goto (tgt := 125) hx hb dX2_count_120 (by decide) ?_
                    exact hret _ _ _ _ _ () dX2_count_125 (by unfold A_count; rw [if_neg (by omega), if_neg (by omega), if_pos (by omega)]; first | (rw [if_pos c_105]; done) | (rw [if_neg c_105]; done)) hP hS
            · refine lv_aload_n hx hb dX2_count_72 rfl (lv_at hl 0 rfl) ?_
              refine va_get (D := D) (ci := 2) (v := .ref s0) (C := RX2) (T := TX2) (N := 8) hx hb hts in_X2_count_X2 hown hK hP 0 rfl rfl 0 (by decide) (hts _ m_X2_count_0) (fun _ h9 => h9) rfl dX2_count_73 ?_
              refine va_get (D := D) (ci := 1) (v := .ref b1) (C := RX1) (T := TX1) (N := 5) hx hb hts in_X2_count_X1 hown hK hP 1 rfl rfl 1 (by decide) (hts _ m_X2_count_5) (fun _ h9 => h9) rfl dX2_count_76 ?_
              refine lv_iload_n hx hb dX2_count_79 rfl (lv_at hl 1 rfl) ?_
              refine lv_bipush (v := zI (20)) hx hb dX2_count_80 (by decide +kernel) ?_
              refine z_isub (a := q) (b := 20) hx hb dX2_count_82 ?_
              refine z_iald (k := q - 20) (g := fun j => σ (1 + j)) hx hb hK hP 2 0 rfl rfl (by omega) dX2_count_83 ?_
              try dsimp only
              refine z_top (y := zI (σ (1 + q - 20))) (by rw [show 1 + (q - 20) = 1 + q - 20 by omega]) ?_
              exact hret _ _ _ _ _ () dX2_count_84 (by unfold A_count; rw [if_neg (by omega), if_pos (by omega)]) hP hS
        · refine lv_iload_n hx hb dX2_count_41 rfl (lv_at hl 1 rfl) ?_
          refine lv_bipush (v := zI (15)) hx hb dX2_count_42 (by decide +kernel) ?_
          refine z_icmp_ge (a := q) (b := 15) (tgt := 60) hx hb (by omega) dX2_count_44 (by decide) (fun c_44 => ?_) (fun c_44 => ?_)
          · refine lv_iload_n hx hb dX2_count_60 rfl (lv_at hl 1 rfl) ?_
            refine lv_bipush (v := zI (20)) hx hb dX2_count_61 (by decide +kernel) ?_
            refine z_icmp_lt (a := q) (b := 20) (tgt := 85) hx hb (by omega) dX2_count_63 (by decide) (fun c_63 => ?_) (fun c_63 => ?_)
            · refine lv_iload_n hx hb dX2_count_85 rfl (lv_at hl 1 rfl) ?_
              refine lv_bipush (v := zI (30)) hx hb dX2_count_86 (by decide +kernel) ?_
              refine z_icmp_lt (a := q) (b := 30) (tgt := 126) hx hb (by omega) dX2_count_88 (by decide) (fun c_88 => ?_) (fun c_88 => ?_)
              · refine lv_bipush (v := zI (-2)) hx hb dX2_count_126 (by decide +kernel) ?_
                exact hret _ _ _ _ _ () dX2_count_128 (by unfold A_count; rw [if_neg (by omega), if_neg (by omega), if_neg (by omega), if_neg (by omega), if_neg (by omega), if_neg (by omega)]) hP hS
              · refine lv_iload_n hx hb dX2_count_91 rfl (lv_at hl 1 rfl) ?_
                refine lv_bipush (v := zI (42)) hx hb dX2_count_92 (by decide +kernel) ?_
                refine z_icmp_ge (a := q) (b := 42) (tgt := 126) hx hb (by omega) dX2_count_94 (by decide) (fun c_94 => ?_) (fun c_94 => ?_)
                · refine lv_bipush (v := zI (-2)) hx hb dX2_count_126 (by decide +kernel) ?_
                  exact hret _ _ _ _ _ () dX2_count_128 (by unfold A_count; rw [if_neg (by omega), if_neg (by omega), if_neg (by omega), if_neg (by omega), if_neg (by omega), if_neg (by omega)]) hP hS
                · refine lv_aload_n hx hb dX2_count_97 rfl (lv_at hl 0 rfl) ?_
                  refine lv_iload_n hx hb dX2_count_98 rfl (lv_at hl 1 rfl) ?_
                  refine lv_bipush (v := zI (30)) hx hb dX2_count_99 (by decide +kernel) ?_
                  refine z_isub (a := q) (b := 30) hx hb dX2_count_101 ?_
                  refine z_Vir (As := [.int (zI (q - 30))]) (rest := []) hx hb hml hown hts hA hS hP hD hK hZ hl.1 (c_X2_isPlace l D cI cJ cZ cO _ (x0) (s0) (b1) (b2) (b3) (im) (p0) (r1) (r2) (r3) (r4) (σ) (gk) (q - 30) (by omega) hO) (cwV 1 hts gX2_count_X2_isPlace rfl rfl rfl (by decide +kernel) ⟨Nat.le_of_ble_eq_true rfl, Nat.le_of_ble_eq_true rfl⟩) [0, 1, 2, 3, 4] rfl rfl 0 2 rfl rfl rfl rfl (Nat.le_of_ble_eq_true rfl) ⟨Nat.zero_le _, Nat.zero_le _⟩ dX2_count_102 (fun r u H locs hw hP hS => ?_)
                  subst hw
                  refine z_ifB_eq (P := 0 ≤ (q - 30) ∧ (q - 30) ≤ σ 9 - 1) (tgt := 123) hx hb dX2_count_105 (by decide) (fun c_105 => ?_) (fun c_105 => ?_)
                  · refine lv_bipush (v := zI (-6)) hx hb dX2_count_123 (by decide +kernel) ?_
                    exact hret _ _ _ _ _ () dX2_count_125 (by unfold A_count; rw [if_neg (by omega), if_neg (by omega), if_pos (by omega)]; first | (rw [if_pos c_105]; done) | (rw [if_neg c_105]; done)) hP hS
                  · refine lv_aload_n hx hb dX2_count_108 rfl (lv_at hl 0 rfl) ?_
                    refine va_get (D := D) (ci := 2) (v := .ref s0) (C := RX2) (T := TX2) (N := 8) hx hb hts in_X2_count_X2 hown hK hP 0 rfl rfl 0 (by decide) (hts _ m_X2_count_0) (fun _ h9 => h9) rfl dX2_count_109 ?_
                    refine va_get (D := D) (ci := 1) (v := .ref b3) (C := RX1) (T := TX1) (N := 5) hx hb hts in_X2_count_X1 hown hK hP 1 rfl rfl 3 (by decide) (hts _ m_X2_count_6) (fun _ h9 => h9) rfl dX2_count_112 ?_
                    refine lv_iload_n hx hb dX2_count_115 rfl (lv_at hl 1 rfl) ?_
                    refine lv_bipush (v := zI (30)) hx hb dX2_count_116 (by decide +kernel) ?_
                    refine z_isub (a := q) (b := 30) hx hb dX2_count_118 ?_
                    refine z_iald (k := q - 30) (g := fun j => σ (10 + j)) hx hb hK hP 4 0 rfl rfl (by omega) dX2_count_119 ?_
                    try dsimp only
                    refine z_top (y := zI (σ (10 + q - 30))) (by rw [show 10 + (q - 30) = 10 + q - 30 by omega]) ?_
                    refine lv_goto (tgt := 125) hx hb dX2_count_120 (by decide) ?_
                    exact hret _ _ _ _ _ () dX2_count_125 (by unfold A_count; rw [if_neg (by omega), if_neg (by omega), if_pos (by omega)]; first | (rw [if_pos c_105]; done) | (rw [if_neg c_105]; done)) hP hS
            · refine lv_iload_n hx hb dX2_count_66 rfl (lv_at hl 1 rfl) ?_
              refine lv_bipush (v := zI (23)) hx hb dX2_count_67 (by decide +kernel) ?_
              refine z_icmp_ge (a := q) (b := 23) (tgt := 85) hx hb (by omega) dX2_count_69 (by decide) (fun c_69 => ?_) (fun c_69 => ?_)
              · refine lv_iload_n hx hb dX2_count_85 rfl (lv_at hl 1 rfl) ?_
                refine lv_bipush (v := zI (30)) hx hb dX2_count_86 (by decide +kernel) ?_
                refine z_icmp_lt (a := q) (b := 30) (tgt := 126) hx hb (by omega) dX2_count_88 (by decide) (fun c_88 => ?_) (fun c_88 => ?_)
                · refine lv_bipush (v := zI (-2)) hx hb dX2_count_126 (by decide +kernel) ?_
                  exact hret _ _ _ _ _ () dX2_count_128 (by unfold A_count; rw [if_neg (by omega), if_neg (by omega), if_neg (by omega), if_neg (by omega), if_neg (by omega), if_neg (by omega)]) hP hS
                · refine lv_iload_n hx hb dX2_count_91 rfl (lv_at hl 1 rfl) ?_
                  refine lv_bipush (v := zI (42)) hx hb dX2_count_92 (by decide +kernel) ?_
                  refine z_icmp_ge (a := q) (b := 42) (tgt := 126) hx hb (by omega) dX2_count_94 (by decide) (fun c_94 => ?_) (fun c_94 => ?_)
                  · refine lv_bipush (v := zI (-2)) hx hb dX2_count_126 (by decide +kernel) ?_
                    exact hret _ _ _ _ _ () dX2_count_128 (by unfold A_count; rw [if_neg (by omega), if_neg (by omega), if_neg (by omega), if_neg (by omega), if_neg (by omega), if_neg (by omega)]) hP hS
                  · refine lv_aload_n hx hb dX2_count_97 rfl (lv_at hl 0 rfl) ?_
                    refine lv_iload_n hx hb dX2_count_98 rfl (lv_at hl 1 rfl) ?_
                    refine lv_bipush (v := zI (30)) hx hb dX2_count_99 (by decide +kernel) ?_
                    refine z_isub (a := q) (b := 30) hx hb dX2_count_101 ?_
                    refine z_Vir (As := [.int (zI (q - 30))]) (rest := []) hx hb hml hown hts hA hS hP hD hK hZ hl.1 (c_X2_isPlace l D cI cJ cZ cO _ (x0) (s0) (b1) (b2) (b3) (im) (p0) (r1) (r2) (r3) (r4) (σ) (gk) (q - 30) (by omega) hO) (cwV 1 hts gX2_count_X2_isPlace rfl rfl rfl (by decide +kernel) ⟨Nat.le_of_ble_eq_true rfl, Nat.le_of_ble_eq_true rfl⟩) [0, 1, 2, 3, 4] rfl rfl 0 2 rfl rfl rfl rfl (Nat.le_of_ble_eq_true rfl) ⟨Nat.zero_le _, Nat.zero_le _⟩ dX2_count_102 (fun r u H locs hw hP hS => ?_)
                    subst hw
                    refine z_ifB_eq (P := 0 ≤ (q - 30) ∧ (q - 30) ≤ σ 9 - 1) (tgt := 123) hx hb dX2_count_105 (by decide) (fun c_105 => ?_) (fun c_105 => ?_)
                    · refine lv_bipush (v := zI (-6)) hx hb dX2_count_123 (by decide +kernel) ?_
                      exact hret _ _ _ _ _ () dX2_count_125 (by unfold A_count; rw [if_neg (by omega), if_neg (by omega), if_pos (by omega)]; first | (rw [if_pos c_105]; done) | (rw [if_neg c_105]; done)) hP hS
                    · refine lv_aload_n hx hb dX2_count_108 rfl (lv_at hl 0 rfl) ?_
                      refine va_get (D := D) (ci := 2) (v := .ref s0) (C := RX2) (T := TX2) (N := 8) hx hb hts in_X2_count_X2 hown hK hP 0 rfl rfl 0 (by decide) (hts _ m_X2_count_0) (fun _ h9 => h9) rfl dX2_count_109 ?_
                      refine va_get (D := D) (ci := 1) (v := .ref b3) (C := RX1) (T := TX1) (N := 5) hx hb hts in_X2_count_X1 hown hK hP 1 rfl rfl 3 (by decide) (hts _ m_X2_count_6) (fun _ h9 => h9) rfl dX2_count_112 ?_
                      refine lv_iload_n hx hb dX2_count_115 rfl (lv_at hl 1 rfl) ?_
                      refine lv_bipush (v := zI (30)) hx hb dX2_count_116 (by decide +kernel) ?_
                      refine z_isub (a := q) (b := 30) hx hb dX2_count_118 ?_
                      refine z_iald (k := q - 30) (g := fun j => σ (10 + j)) hx hb hK hP 4 0 rfl rfl (by omega) dX2_count_119 ?_
                      try dsimp only
                      refine z_top (y := zI (σ (10 + q - 30))) (by rw [show 10 + (q - 30) = 10 + q - 30 by omega]) ?_
                      refine lv_goto (tgt := 125) hx hb dX2_count_120 (by decide) ?_
                      exact hret _ _ _ _ _ () dX2_count_125 (by unfold A_count; rw [if_neg (by omega), if_neg (by omega), if_pos (by omega)]; first | (rw [if_pos c_105]; done) | (rw [if_neg c_105]; done)) hP hS
              · refine lv_aload_n hx hb dX2_count_72 rfl (lv_at hl 0 rfl) ?_
                refine va_get (D := D) (ci := 2) (v := .ref s0) (C := RX2) (T := TX2) (N := 8) hx hb hts in_X2_count_X2 hown hK hP 0 rfl rfl 0 (by decide) (hts _ m_X2_count_0) (fun _ h9 => h9) rfl dX2_count_73 ?_
                refine va_get (D := D) (ci := 1) (v := .ref b1) (C := RX1) (T := TX1) (N := 5) hx hb hts in_X2_count_X1 hown hK hP 1 rfl rfl 1 (by decide) (hts _ m_X2_count_5) (fun _ h9 => h9) rfl dX2_count_76 ?_
                refine lv_iload_n hx hb dX2_count_79 rfl (lv_at hl 1 rfl) ?_
                refine lv_bipush (v := zI (20)) hx hb dX2_count_80 (by decide +kernel) ?_
                refine z_isub (a := q) (b := 20) hx hb dX2_count_82 ?_
                refine z_iald (k := q - 20) (g := fun j => σ (1 + j)) hx hb hK hP 2 0 rfl rfl (by omega) dX2_count_83 ?_
                try dsimp only
                refine z_top (y := zI (σ (1 + q - 20))) (by rw [show 1 + (q - 20) = 1 + q - 20 by omega]) ?_
                exact hret _ _ _ _ _ () dX2_count_84 (by unfold A_count; rw [if_neg (by omega), if_pos (by omega)]) hP hS
          · refine lv_aload_n hx hb dX2_count_47 rfl (lv_at hl 0 rfl) ?_
            refine va_get (D := D) (ci := 2) (v := .ref s0) (C := RX2) (T := TX2) (N := 8) hx hb hts in_X2_count_X2 hown hK hP 0 rfl rfl 0 (by decide) (hts _ m_X2_count_0) (fun _ h9 => h9) rfl dX2_count_48 ?_
            refine va_get (D := D) (ci := 1) (v := .ref b2) (C := RX1) (T := TX1) (N := 5) hx hb hts in_X2_count_X1 hown hK hP 1 rfl rfl 2 (by decide) (hts _ m_X2_count_4) (fun _ h9 => h9) rfl dX2_count_51 ?_
            refine lv_iload_n hx hb dX2_count_54 rfl (lv_at hl 1 rfl) ?_
            refine lv_bipush (v := zI (10)) hx hb dX2_count_55 (by decide +kernel) ?_
            refine z_isub (a := q) (b := 10) hx hb dX2_count_57 ?_
            refine z_iald (k := q - 10) (g := fun j => σ (4 + j)) hx hb hK hP 3 0 rfl rfl (by omega) dX2_count_58 ?_
            try dsimp only
            refine z_top (y := zI (σ (4 + q - 10))) (by rw [show 4 + (q - 10) = 4 + q - 10 by omega]) ?_
            exact hret _ _ _ _ _ () dX2_count_59 (by unfold A_count; rw [if_pos (by omega)]) hP hS
      · refine lv_aload_n hx hb dX2_count_30 rfl (lv_at hl 0 rfl) ?_
        refine va_get (D := D) (ci := 2) (v := .int (zI (gk 0 + 2 * gk 1))) (C := RX2) (T := TX2) (N := 8) hx hb hts in_X2_count_X2 hown hK hP 0 rfl rfl 2 (by decide) (hts _ m_X2_count_3) (fun _ h9 => h9) rfl dX2_count_31 ?_
        exact hret _ _ _ _ _ () dX2_count_34 (by unfold A_count; rw [if_neg (by omega), if_neg (by omega), if_neg (by omega), if_neg (by omega), if_neg (by omega), if_pos c_27]; obtain ⟨h0 | h0, h1 | h1⟩ := hk <;> rw [h0, h1] <;> rfl) hP hS
    · refine lv_aload_n hx hb dX2_count_17 rfl (lv_at hl 0 rfl) ?_
      refine va_get (D := D) (ci := 2) (v := .ref s0) (C := RX2) (T := TX2) (N := 8) hx hb hts in_X2_count_X2 hown hK hP 0 rfl rfl 0 (by decide) (hts _ m_X2_count_0) (fun _ h9 => h9) rfl dX2_count_18 ?_
      refine va_get (D := D) (ci := 1) (v := .int (zI (σ 9))) (C := RX1) (T := TX1) (N := 5) hx hb hts in_X2_count_X1 hown hK hP 1 rfl rfl 4 (by decide) (hts _ m_X2_count_2) (fun _ h9 => h9) rfl dX2_count_21 ?_
      exact hret _ _ _ _ _ () dX2_count_24 (by unfold A_count; rw [if_neg (by omega), if_neg (by omega), if_neg (by omega), if_neg (by omega), if_pos c_14]) hP hS
  · refine lv_aload_n hx hb dX2_count_4 rfl (lv_at hl 0 rfl) ?_
    refine va_get (D := D) (ci := 2) (v := .ref s0) (C := RX2) (T := TX2) (N := 8) hx hb hts in_X2_count_X2 hown hK hP 0 rfl rfl 0 (by decide) (hts _ m_X2_count_0) (fun _ h9 => h9) rfl dX2_count_5 ?_
    refine va_get (D := D) (ci := 1) (v := .int (zI (σ 0))) (C := RX1) (T := TX1) (N := 5) hx hb hts in_X2_count_X1 hown hK hP 1 rfl rfl 0 (by decide) (hts _ m_X2_count_1) (fun _ h9 => h9) rfl dX2_count_8 ?_
    exact hret _ _ _ _ _ () dX2_count_11 (by unfold A_count; rw [if_neg (by omega), if_neg (by omega), if_neg (by omega), if_pos c_1]) hP hS
abbrev rmX2_image : Room := { frames := 2, cells := 0, slots := 0, locals := 81 }
theorem in_X2_image_X2 : ∀ w ∈ wsX20, w ∈ wsX2_image := fun _ h => List.mem_cons_of_mem _ (List.mem_append_left _ (List.mem_append_right _ h))
theorem m_X2_image_0 : (.fieldLink RX2 16 "BrassWays" "images" "[LBrassWays$Setup;" : Cond) ∈ wsX2_image := List.mem_of_getElem? (i := 1) rfl
theorem m_X2_image_1 : (.fieldLink RX2 12 "BrassWays" "now" "LBrassWays$Setup;" : Cond) ∈ wsX2_image := List.mem_of_getElem? (i := 2) rfl
theorem m_X2_image_2 : (.fieldLink RX2 20 "BrassWays" "imagesKept" "I" : Cond) ∈ wsX2_image := List.mem_of_getElem? (i := 3) rfl
set_option maxHeartbeats 4000000 in
set_option maxRecDepth 100000 in
theorem c_X2_image (l : Launch) (D : va_G) (cI cJ cZ cO : ClassId) (sz : Nat) (x0 : Nat) (s0 : Nat) (b1 : Nat) (b2 : Nat) (b3 : Nat) (im : Nat) (p0 : Nat) (r1 : Nat) (r2 : Nat) (r3 : Nat) (r4 : Nat) (σ : Int → Int) (gk : Int → Int) (t0 : Nat) (d1 : Nat) (d2 : Nat) (d3 : Nat) (t1 : Nat) (e1 : Nat) (e2 : Nat) (e3 : Nat) (τ0 : Int → Int) (τ1 : Int → Int) (q : Int) (h_q : -2147483648 ≤ q ∧ q < 2147483648) (hk : (gk 0 = 0 ∨ gk 0 = 1) ∧ (gk 1 = 0 ∨ gk 1 = 1)) : Met l yX2_image wsX2_image rmX2_image (zPc D cI cJ cZ cO [(x0, .inr (2, [.ref s0, .ref im, .int (zI (gk 0 + 2 * gk 1)), .ref p0, .ref r1, .ref r2, .ref r3, .ref r4])), (s0, .inr (1, [.int (zI (σ 0)), .ref b1, .ref b2, .ref b3, .int (zI (σ 9))])), (b1, .inl (cI, 3, .inl (zF (fun j => σ (1 + j))))), (b2, .inl (cI, 5, .inl (zF (fun j => σ (4 + j))))), (b3, .inl (cI, 12, .inl (zF (fun j => σ (10 + j))))), (im, .inl (cO, 2, .inr (.inr (.inr (.inr (imF t0 t1)))))), (t0, .inr (1, [.int (zI (τ0 0)), .ref d1, .ref d2, .ref d3, .int (zI (τ0 9))])), (d1, .inl (cI, 3, .inl (zF (fun j => τ0 (1 + j))))), (d2, .inl (cI, 5, .inl (zF (fun j => τ0 (4 + j))))), (d3, .inl (cI, 12, .inl (zF (fun j => τ0 (10 + j))))), (t1, .inr (1, [.int (zI (τ1 0)), .ref e1, .ref e2, .ref e3, .int (zI (τ1 9))])), (e1, .inl (cI, 3, .inl (zF (fun j => τ1 (1 + j))))), (e2, .inl (cI, 5, .inl (zF (fun j => τ1 (4 + j))))), (e3, .inl (cI, 12, .inl (zF (fun j => τ1 (10 + j)))))] sz [.ref x0, .int (zI (q))]) (zQi D (fun (r : Int32) (_ : Unit) => r = zI (A_image q)) (fun (_ : Unit) => [(x0, .inr (2, [.ref s0, .ref im, .int (zI ((S_imk gk q) 0 + 2 * (S_imk gk q) 1)), .ref p0, .ref r1, .ref r2, .ref r3, .ref r4])), (s0, .inr (1, [.int (zI (σ 0)), .ref b1, .ref b2, .ref b3, .int (zI (σ 9))])), (b1, .inl (cI, 3, .inl (zF (fun j => σ (1 + j))))), (b2, .inl (cI, 5, .inl (zF (fun j => σ (4 + j))))), (b3, .inl (cI, 12, .inl (zF (fun j => σ (10 + j))))), (im, .inl (cO, 2, .inr (.inr (.inr (.inr (imF t0 t1)))))), (t0, .inr (1, [.int (zI ((S_imT τ0 σ q 0) 0)), .ref d1, .ref d2, .ref d3, .int (zI ((S_imT τ0 σ q 0) 9))])), (d1, .inl (cI, 3, .inl (zF (fun j => (S_imT τ0 σ q 0) (1 + j))))), (d2, .inl (cI, 5, .inl (zF (fun j => (S_imT τ0 σ q 0) (4 + j))))), (d3, .inl (cI, 12, .inl (zF (fun j => (S_imT τ0 σ q 0) (10 + j))))), (t1, .inr (1, [.int (zI ((S_imT τ1 σ q 1) 0)), .ref e1, .ref e2, .ref e3, .int (zI ((S_imT τ1 σ q 1) 9))])), (e1, .inl (cI, 3, .inl (zF (fun j => (S_imT τ1 σ q 1) (1 + j))))), (e2, .inl (cI, 5, .inl (zF (fun j => (S_imT τ1 σ q 1) (4 + j))))), (e3, .inl (cI, 12, .inl (zF (fun j => (S_imT τ1 σ q 1) (10 + j)))))]) [(x0, .inr (2, [.ref s0, .ref im, .int (zI (gk 0 + 2 * gk 1)), .ref p0, .ref r1, .ref r2, .ref r3, .ref r4])), (s0, .inr (1, [.int (zI (σ 0)), .ref b1, .ref b2, .ref b3, .int (zI (σ 9))])), (b1, .inl (cI, 3, .inl (zF (fun j => σ (1 + j))))), (b2, .inl (cI, 5, .inl (zF (fun j => σ (4 + j))))), (b3, .inl (cI, 12, .inl (zF (fun j => σ (10 + j))))), (im, .inl (cO, 2, .inr (.inr (.inr (.inr (imF t0 t1)))))), (t0, .inr (1, [.int (zI (τ0 0)), .ref d1, .ref d2, .ref d3, .int (zI (τ0 9))])), (d1, .inl (cI, 3, .inl (zF (fun j => τ0 (1 + j))))), (d2, .inl (cI, 5, .inl (zF (fun j => τ0 (4 + j))))), (d3, .inl (cI, 12, .inl (zF (fun j => τ0 (10 + j))))), (t1, .inr (1, [.int (zI (τ1 0)), .ref e1, .ref e2, .ref e3, .int (zI (τ1 9))])), (e1, .inl (cI, 3, .inl (zF (fun j => τ1 (1 + j))))), (e2, .inl (cI, 5, .inl (zF (fun j => τ1 (4 + j))))), (e3, .inl (cI, 12, .inl (zF (fun j => τ1 (10 + j)))))] sz) 0 0 (va_A [(x0, .inr (2, [.ref s0, .ref im, .int (zI (gk 0 + 2 * gk 1)), .ref p0, .ref r1, .ref r2, .ref r3, .ref r4])), (s0, .inr (1, [.int (zI (σ 0)), .ref b1, .ref b2, .ref b3, .int (zI (σ 9))])), (b1, .inl (cI, 3, .inl (zF (fun j => σ (1 + j))))), (b2, .inl (cI, 5, .inl (zF (fun j => σ (4 + j))))), (b3, .inl (cI, 12, .inl (zF (fun j => σ (10 + j))))), (im, .inl (cO, 2, .inr (.inr (.inr (.inr (imF t0 t1)))))), (t0, .inr (1, [.int (zI (τ0 0)), .ref d1, .ref d2, .ref d3, .int (zI (τ0 9))])), (d1, .inl (cI, 3, .inl (zF (fun j => τ0 (1 + j))))), (d2, .inl (cI, 5, .inl (zF (fun j => τ0 (4 + j))))), (d3, .inl (cI, 12, .inl (zF (fun j => τ0 (10 + j))))), (t1, .inr (1, [.int (zI (τ1 0)), .ref e1, .ref e2, .ref e3, .int (zI (τ1 9))])), (e1, .inl (cI, 3, .inl (zF (fun j => τ1 (1 + j))))), (e2, .inl (cI, 5, .inl (zF (fun j => τ1 (4 + j))))), (e3, .inl (cI, 12, .inl (zF (fun j => τ1 (10 + j)))))] sz) := by
  refine z_meti (by decide) rfl (Nat.le_of_ble_eq_true rfl) ?_
  intro p e s m args below meth c A Q ls hx hb hml hown hts hA hS hP hD hK hZ hl hret
  have hl : lv_has ls 2 [(0, .ref x0), (1, .int (zI (q)))] := hl
  refine lv_iload_n hx hb dX2_image_0 rfl (lv_at hl 1 rfl) ?_
  refine z_if_lt (a := q) (tgt := 9) hx hb (by omega) dX2_image_1 (by decide) (fun c_1 => ?_) (fun c_1 => ?_)
  · refine lv_bipush (v := zI (-2)) hx hb dX2_image_9 (by decide +kernel) ?_
    exact hret _ _ _ _ _ () dX2_image_11 (by unfold A_image; rw [if_neg (by omega)]) (by rw [show S_imk gk q = gk from if_neg (by omega), show S_imT τ0 σ q 0 = τ0 from if_neg (by omega), show S_imT τ1 σ q 1 = τ1 from if_neg (by omega)]; exact hP) hS
  · refine lv_iload_n hx hb dX2_image_4 rfl (lv_at hl 1 rfl) ?_
    refine lv_iconst (v := zI (2)) hx hb dX2_image_5 rfl ?_
    refine z_icmp_lt (a := q) (b := 2) (tgt := 12) hx hb (by omega) dX2_image_6 (by decide) (fun c_6 => ?_) (fun c_6 => ?_)
    · rcases (show q = 0 ∨ q = 1 by omega) with hq01 | hq01
      · refine lv_aload_n hx hb dX2_image_12 rfl (lv_at hl 0 rfl) ?_
        refine va_get (D := D) (ci := 2) (v := .ref im) (C := RX2) (T := TX2) (N := 8) hx hb hts in_X2_image_X2 hown hK hP 0 rfl rfl 1 (by decide) (hts _ m_X2_image_0) (fun _ h9 => h9) rfl dX2_image_13 ?_
        refine lv_iload_n hx hb dX2_image_16 rfl (lv_at hl 1 rfl) ?_
        refine z_aldq (k := q) (r := t0) hx hb hK hP 5 3 rfl rfl (by omega) (by rw [hq01]; rfl) dX2_image_17 ?_
        refine lv_aload_n hx hb dX2_image_18 rfl (lv_at hl 0 rfl) ?_
        refine va_get (D := D) (ci := 2) (v := .ref s0) (C := RX2) (T := TX2) (N := 8) hx hb hts in_X2_image_X2 hown hK hP 0 rfl rfl 0 (by decide) (hts _ m_X2_image_1) (fun _ h9 => h9) rfl dX2_image_19 ?_
        refine z_Vvw (As := [.ref s0]) (rest := []) hx hb hml hown hts hA hS hP hD hK hZ hl.1 (c_X1_takeFrom l D cI cJ cZ cO _ (t0) (d1) (d2) (d3) (τ0) (s0) (b1) (b2) (b3) (σ) ) (cwV 1 hts gX2_image_X1_takeFrom rfl rfl rfl (by decide +kernel) ⟨Nat.le_of_ble_eq_true rfl, Nat.le_of_ble_eq_true rfl⟩) [6, 7, 8, 9, 1, 2, 3, 4] rfl rfl (fun _ => rfl) 6 1 rfl rfl rfl rfl (Nat.le_of_ble_eq_true rfl) ⟨Nat.zero_le _, Nat.zero_le _⟩ dX2_image_22 (fun u H locs hw hP hD hS => ?_)
        have hP : va_P D vwCl [(x0, .inr (2, [.ref s0, .ref im, .int (zI (gk 0 + 2 * gk 1)), .ref p0, .ref r1, .ref r2, .ref r3, .ref r4])), (s0, .inr (1, [.int (zI (σ 0)), .ref b1, .ref b2, .ref b3, .int (zI (σ 9))])), (b1, .inl (cI, 3, .inl (zF (fun j => σ (1 + j))))), (b2, .inl (cI, 5, .inl (zF (fun j => σ (4 + j))))), (b3, .inl (cI, 12, .inl (zF (fun j => σ (10 + j))))), (im, .inl (cO, 2, .inr (.inr (.inr (.inr (imF t0 t1)))))), (t0, .inr (1, [.int (zI (σ 0)), .ref d1, .ref d2, .ref d3, .int (zI (σ 9))])), (d1, .inl (cI, 3, .inl (zF (fun j => σ (1 + j))))), (d2, .inl (cI, 5, .inl (zF (fun j => σ (4 + j))))), (d3, .inl (cI, 12, .inl (zF (fun j => σ (10 + j))))), (t1, .inr (1, [.int (zI (τ1 0)), .ref e1, .ref e2, .ref e3, .int (zI (τ1 9))])), (e1, .inl (cI, 3, .inl (zF (fun j => τ1 (1 + j))))), (e2, .inl (cI, 5, .inl (zF (fun j => τ1 (4 + j))))), (e3, .inl (cI, 12, .inl (zF (fun j => τ1 (10 + j)))))] H := hP
        have hD : va_D A [(x0, .inr (2, [.ref s0, .ref im, .int (zI (gk 0 + 2 * gk 1)), .ref p0, .ref r1, .ref r2, .ref r3, .ref r4])), (s0, .inr (1, [.int (zI (σ 0)), .ref b1, .ref b2, .ref b3, .int (zI (σ 9))])), (b1, .inl (cI, 3, .inl (zF (fun j => σ (1 + j))))), (b2, .inl (cI, 5, .inl (zF (fun j => σ (4 + j))))), (b3, .inl (cI, 12, .inl (zF (fun j => σ (10 + j))))), (im, .inl (cO, 2, .inr (.inr (.inr (.inr (imF t0 t1)))))), (t0, .inr (1, [.int (zI (σ 0)), .ref d1, .ref d2, .ref d3, .int (zI (σ 9))])), (d1, .inl (cI, 3, .inl (zF (fun j => σ (1 + j))))), (d2, .inl (cI, 5, .inl (zF (fun j => σ (4 + j))))), (d3, .inl (cI, 12, .inl (zF (fun j => σ (10 + j))))), (t1, .inr (1, [.int (zI (τ1 0)), .ref e1, .ref e2, .ref e3, .int (zI (τ1 9))])), (e1, .inl (cI, 3, .inl (zF (fun j => τ1 (1 + j))))), (e2, .inl (cI, 5, .inl (zF (fun j => τ1 (4 + j))))), (e3, .inl (cI, 12, .inl (zF (fun j => τ1 (10 + j)))))] := hD
        refine lv_aload_n hx hb dX2_image_25 rfl (lv_at hl 0 rfl) ?_
        refine lv_dup hx hb dX2_image_26 rfl ?_
        refine va_get (D := D) (ci := 2) (v := .int (zI (gk 0 + 2 * gk 1))) (C := RX2) (T := TX2) (N := 8) hx hb hts in_X2_image_X2 hown hK hP 0 rfl rfl 2 (by decide) (hts _ m_X2_image_2) (fun _ h9 => h9) rfl dX2_image_27 ?_
        refine lv_iconst (v := zI (1)) hx hb dX2_image_30 rfl ?_
        refine lv_iload_n hx hb dX2_image_31 rfl (lv_at hl 1 rfl) ?_
        refine lv_ishl hx hb dX2_image_32 ?_
        refine lv_ior hx hb dX2_image_33 ?_
        refine z_top (y := zI ((if q = 0 then 1 else gk 0) + 2 * (if q = 1 then 1 else gk 1))) (ke_or hk.1 hk.2 (by omega)) ?_
        refine va_put (D := D) (ci := 2) (v := .int (zI ((if q = 0 then 1 else gk 0) + 2 * (if q = 1 then 1 else gk 1)))) (ty := .int) (C := RX2) (T := TX2) (N := 8) hx hb hts in_X2_image_X2 tyX2 tyX2_ok nmX2 hown hK hP hD hS 0 rfl rfl 2 (by decide) (hts _ m_X2_image_2) (fun _ h9 => h9) rfl (by decide +kernel) rfl rfl (Nat.le_of_ble_eq_true rfl) dX2_image_34 (fun H locs hP hD hS => ?_)
        have hP : va_P D vwCl [(x0, .inr (2, [.ref s0, .ref im, .int (zI ((if q = 0 then 1 else gk 0) + 2 * (if q = 1 then 1 else gk 1))), .ref p0, .ref r1, .ref r2, .ref r3, .ref r4])), (s0, .inr (1, [.int (zI (σ 0)), .ref b1, .ref b2, .ref b3, .int (zI (σ 9))])), (b1, .inl (cI, 3, .inl (zF (fun j => σ (1 + j))))), (b2, .inl (cI, 5, .inl (zF (fun j => σ (4 + j))))), (b3, .inl (cI, 12, .inl (zF (fun j => σ (10 + j))))), (im, .inl (cO, 2, .inr (.inr (.inr (.inr (imF t0 t1)))))), (t0, .inr (1, [.int (zI (σ 0)), .ref d1, .ref d2, .ref d3, .int (zI (σ 9))])), (d1, .inl (cI, 3, .inl (zF (fun j => σ (1 + j))))), (d2, .inl (cI, 5, .inl (zF (fun j => σ (4 + j))))), (d3, .inl (cI, 12, .inl (zF (fun j => σ (10 + j))))), (t1, .inr (1, [.int (zI (τ1 0)), .ref e1, .ref e2, .ref e3, .int (zI (τ1 9))])), (e1, .inl (cI, 3, .inl (zF (fun j => τ1 (1 + j))))), (e2, .inl (cI, 5, .inl (zF (fun j => τ1 (4 + j))))), (e3, .inl (cI, 12, .inl (zF (fun j => τ1 (10 + j)))))] H := hP
        have hD : va_D A [(x0, .inr (2, [.ref s0, .ref im, .int (zI ((if q = 0 then 1 else gk 0) + 2 * (if q = 1 then 1 else gk 1))), .ref p0, .ref r1, .ref r2, .ref r3, .ref r4])), (s0, .inr (1, [.int (zI (σ 0)), .ref b1, .ref b2, .ref b3, .int (zI (σ 9))])), (b1, .inl (cI, 3, .inl (zF (fun j => σ (1 + j))))), (b2, .inl (cI, 5, .inl (zF (fun j => σ (4 + j))))), (b3, .inl (cI, 12, .inl (zF (fun j => σ (10 + j))))), (im, .inl (cO, 2, .inr (.inr (.inr (.inr (imF t0 t1)))))), (t0, .inr (1, [.int (zI (σ 0)), .ref d1, .ref d2, .ref d3, .int (zI (σ 9))])), (d1, .inl (cI, 3, .inl (zF (fun j => σ (1 + j))))), (d2, .inl (cI, 5, .inl (zF (fun j => σ (4 + j))))), (d3, .inl (cI, 12, .inl (zF (fun j => σ (10 + j))))), (t1, .inr (1, [.int (zI (τ1 0)), .ref e1, .ref e2, .ref e3, .int (zI (τ1 9))])), (e1, .inl (cI, 3, .inl (zF (fun j => τ1 (1 + j))))), (e2, .inl (cI, 5, .inl (zF (fun j => τ1 (4 + j))))), (e3, .inl (cI, 12, .inl (zF (fun j => τ1 (10 + j)))))] := hD
        refine lv_iconst (v := zI (1)) hx hb dX2_image_37 rfl ?_
        exact hret _ _ _ _ _ () dX2_image_38 (by unfold A_image; rw [if_pos (by omega)]) (by rw [show S_imT τ0 σ q 0 = σ from if_pos (by omega), show S_imT τ1 σ q 1 = τ1 from if_neg (by omega), imk_eq (by omega)]; exact hP) hS
      · refine lv_aload_n hx hb dX2_image_12 rfl (lv_at hl 0 rfl) ?_
        refine va_get (D := D) (ci := 2) (v := .ref im) (C := RX2) (T := TX2) (N := 8) hx hb hts in_X2_image_X2 hown hK hP 0 rfl rfl 1 (by decide) (hts _ m_X2_image_0) (fun _ h9 => h9) rfl dX2_image_13 ?_
        refine lv_iload_n hx hb dX2_image_16 rfl (lv_at hl 1 rfl) ?_
        refine z_aldq (k := q) (r := t1) hx hb hK hP 5 3 rfl rfl (by omega) (by rw [hq01]; rfl) dX2_image_17 ?_
        refine lv_aload_n hx hb dX2_image_18 rfl (lv_at hl 0 rfl) ?_
        refine va_get (D := D) (ci := 2) (v := .ref s0) (C := RX2) (T := TX2) (N := 8) hx hb hts in_X2_image_X2 hown hK hP 0 rfl rfl 0 (by decide) (hts _ m_X2_image_1) (fun _ h9 => h9) rfl dX2_image_19 ?_
        refine z_Vvw (As := [.ref s0]) (rest := []) hx hb hml hown hts hA hS hP hD hK hZ hl.1 (c_X1_takeFrom l D cI cJ cZ cO _ (t1) (e1) (e2) (e3) (τ1) (s0) (b1) (b2) (b3) (σ) ) (cwV 1 hts gX2_image_X1_takeFrom rfl rfl rfl (by decide +kernel) ⟨Nat.le_of_ble_eq_true rfl, Nat.le_of_ble_eq_true rfl⟩) [10, 11, 12, 13, 1, 2, 3, 4] rfl rfl (fun _ => rfl) 10 1 rfl rfl rfl rfl (Nat.le_of_ble_eq_true rfl) ⟨Nat.zero_le _, Nat.zero_le _⟩ dX2_image_22 (fun u H locs hw hP hD hS => ?_)
        have hP : va_P D vwCl [(x0, .inr (2, [.ref s0, .ref im, .int (zI (gk 0 + 2 * gk 1)), .ref p0, .ref r1, .ref r2, .ref r3, .ref r4])), (s0, .inr (1, [.int (zI (σ 0)), .ref b1, .ref b2, .ref b3, .int (zI (σ 9))])), (b1, .inl (cI, 3, .inl (zF (fun j => σ (1 + j))))), (b2, .inl (cI, 5, .inl (zF (fun j => σ (4 + j))))), (b3, .inl (cI, 12, .inl (zF (fun j => σ (10 + j))))), (im, .inl (cO, 2, .inr (.inr (.inr (.inr (imF t0 t1)))))), (t0, .inr (1, [.int (zI (τ0 0)), .ref d1, .ref d2, .ref d3, .int (zI (τ0 9))])), (d1, .inl (cI, 3, .inl (zF (fun j => τ0 (1 + j))))), (d2, .inl (cI, 5, .inl (zF (fun j => τ0 (4 + j))))), (d3, .inl (cI, 12, .inl (zF (fun j => τ0 (10 + j))))), (t1, .inr (1, [.int (zI (σ 0)), .ref e1, .ref e2, .ref e3, .int (zI (σ 9))])), (e1, .inl (cI, 3, .inl (zF (fun j => σ (1 + j))))), (e2, .inl (cI, 5, .inl (zF (fun j => σ (4 + j))))), (e3, .inl (cI, 12, .inl (zF (fun j => σ (10 + j)))))] H := hP
        have hD : va_D A [(x0, .inr (2, [.ref s0, .ref im, .int (zI (gk 0 + 2 * gk 1)), .ref p0, .ref r1, .ref r2, .ref r3, .ref r4])), (s0, .inr (1, [.int (zI (σ 0)), .ref b1, .ref b2, .ref b3, .int (zI (σ 9))])), (b1, .inl (cI, 3, .inl (zF (fun j => σ (1 + j))))), (b2, .inl (cI, 5, .inl (zF (fun j => σ (4 + j))))), (b3, .inl (cI, 12, .inl (zF (fun j => σ (10 + j))))), (im, .inl (cO, 2, .inr (.inr (.inr (.inr (imF t0 t1)))))), (t0, .inr (1, [.int (zI (τ0 0)), .ref d1, .ref d2, .ref d3, .int (zI (τ0 9))])), (d1, .inl (cI, 3, .inl (zF (fun j => τ0 (1 + j))))), (d2, .inl (cI, 5, .inl (zF (fun j => τ0 (4 + j))))), (d3, .inl (cI, 12, .inl (zF (fun j => τ0 (10 + j))))), (t1, .inr (1, [.int (zI (σ 0)), .ref e1, .ref e2, .ref e3, .int (zI (σ 9))])), (e1, .inl (cI, 3, .inl (zF (fun j => σ (1 + j))))), (e2, .inl (cI, 5, .inl (zF (fun j => σ (4 + j))))), (e3, .inl (cI, 12, .inl (zF (fun j => σ (10 + j)))))] := hD
        refine lv_aload_n hx hb dX2_image_25 rfl (lv_at hl 0 rfl) ?_
        refine lv_dup hx hb dX2_image_26 rfl ?_
        refine va_get (D := D) (ci := 2) (v := .int (zI (gk 0 + 2 * gk 1))) (C := RX2) (T := TX2) (N := 8) hx hb hts in_X2_image_X2 hown hK hP 0 rfl rfl 2 (by decide) (hts _ m_X2_image_2) (fun _ h9 => h9) rfl dX2_image_27 ?_
        refine lv_iconst (v := zI (1)) hx hb dX2_image_30 rfl ?_
        refine lv_iload_n hx hb dX2_image_31 rfl (lv_at hl 1 rfl) ?_
        refine lv_ishl hx hb dX2_image_32 ?_
        refine lv_ior hx hb dX2_image_33 ?_
        refine z_top (y := zI ((if q = 0 then 1 else gk 0) + 2 * (if q = 1 then 1 else gk 1))) (ke_or hk.1 hk.2 (by omega)) ?_
        refine va_put (D := D) (ci := 2) (v := .int (zI ((if q = 0 then 1 else gk 0) + 2 * (if q = 1 then 1 else gk 1)))) (ty := .int) (C := RX2) (T := TX2) (N := 8) hx hb hts in_X2_image_X2 tyX2 tyX2_ok nmX2 hown hK hP hD hS 0 rfl rfl 2 (by decide) (hts _ m_X2_image_2) (fun _ h9 => h9) rfl (by decide +kernel) rfl rfl (Nat.le_of_ble_eq_true rfl) dX2_image_34 (fun H locs hP hD hS => ?_)
        have hP : va_P D vwCl [(x0, .inr (2, [.ref s0, .ref im, .int (zI ((if q = 0 then 1 else gk 0) + 2 * (if q = 1 then 1 else gk 1))), .ref p0, .ref r1, .ref r2, .ref r3, .ref r4])), (s0, .inr (1, [.int (zI (σ 0)), .ref b1, .ref b2, .ref b3, .int (zI (σ 9))])), (b1, .inl (cI, 3, .inl (zF (fun j => σ (1 + j))))), (b2, .inl (cI, 5, .inl (zF (fun j => σ (4 + j))))), (b3, .inl (cI, 12, .inl (zF (fun j => σ (10 + j))))), (im, .inl (cO, 2, .inr (.inr (.inr (.inr (imF t0 t1)))))), (t0, .inr (1, [.int (zI (τ0 0)), .ref d1, .ref d2, .ref d3, .int (zI (τ0 9))])), (d1, .inl (cI, 3, .inl (zF (fun j => τ0 (1 + j))))), (d2, .inl (cI, 5, .inl (zF (fun j => τ0 (4 + j))))), (d3, .inl (cI, 12, .inl (zF (fun j => τ0 (10 + j))))), (t1, .inr (1, [.int (zI (σ 0)), .ref e1, .ref e2, .ref e3, .int (zI (σ 9))])), (e1, .inl (cI, 3, .inl (zF (fun j => σ (1 + j))))), (e2, .inl (cI, 5, .inl (zF (fun j => σ (4 + j))))), (e3, .inl (cI, 12, .inl (zF (fun j => σ (10 + j)))))] H := hP
        have hD : va_D A [(x0, .inr (2, [.ref s0, .ref im, .int (zI ((if q = 0 then 1 else gk 0) + 2 * (if q = 1 then 1 else gk 1))), .ref p0, .ref r1, .ref r2, .ref r3, .ref r4])), (s0, .inr (1, [.int (zI (σ 0)), .ref b1, .ref b2, .ref b3, .int (zI (σ 9))])), (b1, .inl (cI, 3, .inl (zF (fun j => σ (1 + j))))), (b2, .inl (cI, 5, .inl (zF (fun j => σ (4 + j))))), (b3, .inl (cI, 12, .inl (zF (fun j => σ (10 + j))))), (im, .inl (cO, 2, .inr (.inr (.inr (.inr (imF t0 t1)))))), (t0, .inr (1, [.int (zI (τ0 0)), .ref d1, .ref d2, .ref d3, .int (zI (τ0 9))])), (d1, .inl (cI, 3, .inl (zF (fun j => τ0 (1 + j))))), (d2, .inl (cI, 5, .inl (zF (fun j => τ0 (4 + j))))), (d3, .inl (cI, 12, .inl (zF (fun j => τ0 (10 + j))))), (t1, .inr (1, [.int (zI (σ 0)), .ref e1, .ref e2, .ref e3, .int (zI (σ 9))])), (e1, .inl (cI, 3, .inl (zF (fun j => σ (1 + j))))), (e2, .inl (cI, 5, .inl (zF (fun j => σ (4 + j))))), (e3, .inl (cI, 12, .inl (zF (fun j => σ (10 + j)))))] := hD
        refine lv_iconst (v := zI (1)) hx hb dX2_image_37 rfl ?_
        exact hret _ _ _ _ _ () dX2_image_38 (by unfold A_image; rw [if_pos (by omega)]) (by rw [show S_imT τ0 σ q 0 = τ0 from if_neg (by omega), show S_imT τ1 σ q 1 = σ from if_pos (by omega), imk_eq (by omega)]; exact hP) hS
    · refine lv_bipush (v := zI (-2)) hx hb dX2_image_9 (by decide +kernel) ?_
      exact hret _ _ _ _ _ () dX2_image_11 (by unfold A_image; rw [if_neg (by omega)]) (by rw [show S_imk gk q = gk from if_neg (by omega), show S_imT τ0 σ q 0 = τ0 from if_neg (by omega), show S_imT τ1 σ q 1 = τ1 from if_neg (by omega)]; exact hP) hS
abbrev rmX2_restore : Room := { frames := 2, cells := 0, slots := 0, locals := 81 }
theorem in_X2_restore_X2 : ∀ w ∈ wsX20, w ∈ wsX2_restore := fun _ h => List.mem_cons_of_mem _ (List.mem_append_left _ (List.mem_append_right _ h))
theorem m_X2_restore_0 : (.fieldLink RX2 20 "BrassWays" "imagesKept" "I" : Cond) ∈ wsX2_restore := List.mem_of_getElem? (i := 1) rfl
theorem m_X2_restore_1 : (.fieldLink RX2 12 "BrassWays" "now" "LBrassWays$Setup;" : Cond) ∈ wsX2_restore := List.mem_of_getElem? (i := 2) rfl
theorem m_X2_restore_2 : (.fieldLink RX2 16 "BrassWays" "images" "[LBrassWays$Setup;" : Cond) ∈ wsX2_restore := List.mem_of_getElem? (i := 3) rfl
set_option maxHeartbeats 4000000 in
set_option maxRecDepth 100000 in
theorem c_X2_restore (l : Launch) (D : va_G) (cI cJ cZ cO : ClassId) (sz : Nat) (x0 : Nat) (s0 : Nat) (b1 : Nat) (b2 : Nat) (b3 : Nat) (im : Nat) (p0 : Nat) (r1 : Nat) (r2 : Nat) (r3 : Nat) (r4 : Nat) (σ : Int → Int) (gk : Int → Int) (t0 : Nat) (d1 : Nat) (d2 : Nat) (d3 : Nat) (t1 : Nat) (e1 : Nat) (e2 : Nat) (e3 : Nat) (τ0 : Int → Int) (τ1 : Int → Int) (q : Int) (h_q : -2147483648 ≤ q ∧ q < 2147483648) (hk : (gk 0 = 0 ∨ gk 0 = 1) ∧ (gk 1 = 0 ∨ gk 1 = 1)) : Met l yX2_restore wsX2_restore rmX2_restore (zPc D cI cJ cZ cO [(x0, .inr (2, [.ref s0, .ref im, .int (zI (gk 0 + 2 * gk 1)), .ref p0, .ref r1, .ref r2, .ref r3, .ref r4])), (s0, .inr (1, [.int (zI (σ 0)), .ref b1, .ref b2, .ref b3, .int (zI (σ 9))])), (b1, .inl (cI, 3, .inl (zF (fun j => σ (1 + j))))), (b2, .inl (cI, 5, .inl (zF (fun j => σ (4 + j))))), (b3, .inl (cI, 12, .inl (zF (fun j => σ (10 + j))))), (im, .inl (cO, 2, .inr (.inr (.inr (.inr (imF t0 t1)))))), (t0, .inr (1, [.int (zI (τ0 0)), .ref d1, .ref d2, .ref d3, .int (zI (τ0 9))])), (d1, .inl (cI, 3, .inl (zF (fun j => τ0 (1 + j))))), (d2, .inl (cI, 5, .inl (zF (fun j => τ0 (4 + j))))), (d3, .inl (cI, 12, .inl (zF (fun j => τ0 (10 + j))))), (t1, .inr (1, [.int (zI (τ1 0)), .ref e1, .ref e2, .ref e3, .int (zI (τ1 9))])), (e1, .inl (cI, 3, .inl (zF (fun j => τ1 (1 + j))))), (e2, .inl (cI, 5, .inl (zF (fun j => τ1 (4 + j))))), (e3, .inl (cI, 12, .inl (zF (fun j => τ1 (10 + j)))))] sz [.ref x0, .int (zI (q))]) (zQi D (fun (r : Int32) (_ : Unit) => r = zI (A_restore gk q)) (fun (_ : Unit) => [(x0, .inr (2, [.ref s0, .ref im, .int (zI (gk 0 + 2 * gk 1)), .ref p0, .ref r1, .ref r2, .ref r3, .ref r4])), (s0, .inr (1, [.int (zI ((S_reT σ τ0 τ1 gk q) 0)), .ref b1, .ref b2, .ref b3, .int (zI ((S_reT σ τ0 τ1 gk q) 9))])), (b1, .inl (cI, 3, .inl (zF (fun j => (S_reT σ τ0 τ1 gk q) (1 + j))))), (b2, .inl (cI, 5, .inl (zF (fun j => (S_reT σ τ0 τ1 gk q) (4 + j))))), (b3, .inl (cI, 12, .inl (zF (fun j => (S_reT σ τ0 τ1 gk q) (10 + j))))), (im, .inl (cO, 2, .inr (.inr (.inr (.inr (imF t0 t1)))))), (t0, .inr (1, [.int (zI (τ0 0)), .ref d1, .ref d2, .ref d3, .int (zI (τ0 9))])), (d1, .inl (cI, 3, .inl (zF (fun j => τ0 (1 + j))))), (d2, .inl (cI, 5, .inl (zF (fun j => τ0 (4 + j))))), (d3, .inl (cI, 12, .inl (zF (fun j => τ0 (10 + j))))), (t1, .inr (1, [.int (zI (τ1 0)), .ref e1, .ref e2, .ref e3, .int (zI (τ1 9))])), (e1, .inl (cI, 3, .inl (zF (fun j => τ1 (1 + j))))), (e2, .inl (cI, 5, .inl (zF (fun j => τ1 (4 + j))))), (e3, .inl (cI, 12, .inl (zF (fun j => τ1 (10 + j)))))]) [(x0, .inr (2, [.ref s0, .ref im, .int (zI (gk 0 + 2 * gk 1)), .ref p0, .ref r1, .ref r2, .ref r3, .ref r4])), (s0, .inr (1, [.int (zI (σ 0)), .ref b1, .ref b2, .ref b3, .int (zI (σ 9))])), (b1, .inl (cI, 3, .inl (zF (fun j => σ (1 + j))))), (b2, .inl (cI, 5, .inl (zF (fun j => σ (4 + j))))), (b3, .inl (cI, 12, .inl (zF (fun j => σ (10 + j))))), (im, .inl (cO, 2, .inr (.inr (.inr (.inr (imF t0 t1)))))), (t0, .inr (1, [.int (zI (τ0 0)), .ref d1, .ref d2, .ref d3, .int (zI (τ0 9))])), (d1, .inl (cI, 3, .inl (zF (fun j => τ0 (1 + j))))), (d2, .inl (cI, 5, .inl (zF (fun j => τ0 (4 + j))))), (d3, .inl (cI, 12, .inl (zF (fun j => τ0 (10 + j))))), (t1, .inr (1, [.int (zI (τ1 0)), .ref e1, .ref e2, .ref e3, .int (zI (τ1 9))])), (e1, .inl (cI, 3, .inl (zF (fun j => τ1 (1 + j))))), (e2, .inl (cI, 5, .inl (zF (fun j => τ1 (4 + j))))), (e3, .inl (cI, 12, .inl (zF (fun j => τ1 (10 + j)))))] sz) 0 0 (va_A [(x0, .inr (2, [.ref s0, .ref im, .int (zI (gk 0 + 2 * gk 1)), .ref p0, .ref r1, .ref r2, .ref r3, .ref r4])), (s0, .inr (1, [.int (zI (σ 0)), .ref b1, .ref b2, .ref b3, .int (zI (σ 9))])), (b1, .inl (cI, 3, .inl (zF (fun j => σ (1 + j))))), (b2, .inl (cI, 5, .inl (zF (fun j => σ (4 + j))))), (b3, .inl (cI, 12, .inl (zF (fun j => σ (10 + j))))), (im, .inl (cO, 2, .inr (.inr (.inr (.inr (imF t0 t1)))))), (t0, .inr (1, [.int (zI (τ0 0)), .ref d1, .ref d2, .ref d3, .int (zI (τ0 9))])), (d1, .inl (cI, 3, .inl (zF (fun j => τ0 (1 + j))))), (d2, .inl (cI, 5, .inl (zF (fun j => τ0 (4 + j))))), (d3, .inl (cI, 12, .inl (zF (fun j => τ0 (10 + j))))), (t1, .inr (1, [.int (zI (τ1 0)), .ref e1, .ref e2, .ref e3, .int (zI (τ1 9))])), (e1, .inl (cI, 3, .inl (zF (fun j => τ1 (1 + j))))), (e2, .inl (cI, 5, .inl (zF (fun j => τ1 (4 + j))))), (e3, .inl (cI, 12, .inl (zF (fun j => τ1 (10 + j)))))] sz) := by
  refine z_meti (by decide) rfl (Nat.le_of_ble_eq_true rfl) ?_
  intro p e s m args below meth c A Q ls hx hb hml hown hts hA hS hP hD hK hZ hl hret
  have hl : lv_has ls 2 [(0, .ref x0), (1, .int (zI (q)))] := hl
  refine lv_iload_n hx hb dX2_restore_0 rfl (lv_at hl 1 rfl) ?_
  refine z_if_lt (a := q) (tgt := 9) hx hb (by omega) dX2_restore_1 (by decide) (fun c_1 => ?_) (fun c_1 => ?_)
  · refine lv_bipush (v := zI (-2)) hx hb dX2_restore_9 (by decide +kernel) ?_
    exact hret _ _ _ _ _ () dX2_restore_11 (by unfold A_restore; rw [if_neg (by omega)]) (by rw [show S_reT σ τ0 τ1 gk q = σ from if_neg (by omega)]; exact hP) hS
  · refine lv_iload_n hx hb dX2_restore_4 rfl (lv_at hl 1 rfl) ?_
    refine lv_iconst (v := zI (2)) hx hb dX2_restore_5 rfl ?_
    refine z_icmp_lt (a := q) (b := 2) (tgt := 12) hx hb (by omega) dX2_restore_6 (by decide) (fun c_6 => ?_) (fun c_6 => ?_)
    · rcases (show q = 0 ∨ q = 1 by omega) with hq01 | hq01
      · refine lv_aload_n hx hb dX2_restore_12 rfl (lv_at hl 0 rfl) ?_
        refine va_get (D := D) (ci := 2) (v := .int (zI (gk 0 + 2 * gk 1))) (C := RX2) (T := TX2) (N := 8) hx hb hts in_X2_restore_X2 hown hK hP 0 rfl rfl 2 (by decide) (hts _ m_X2_restore_0) (fun _ h9 => h9) rfl dX2_restore_13 ?_
        refine lv_iload_n hx hb dX2_restore_16 rfl (lv_at hl 1 rfl) ?_
        refine lv_ishr hx hb dX2_restore_17 ?_
        refine lv_iconst (v := zI (1)) hx hb dX2_restore_18 rfl ?_
        refine lv_iand hx hb dX2_restore_19 ?_
        refine z_top (y := zI (gk q)) (by rw [ke_bit hk.1 hk.2 (by omega), hq01]; rfl) ?_
        have hg2 : gk q = 0 ∨ gk q = 1 := by rw [hq01]; first | exact hk.1 | exact hk.2
        refine z_if_ne (a := gk q) (tgt := 26) hx hb (by omega) dX2_restore_20 (by decide) (fun c_20 => ?_) (fun c_20 => ?_)
        · refine lv_aload_n hx hb dX2_restore_26 rfl (lv_at hl 0 rfl) ?_
          refine va_get (D := D) (ci := 2) (v := .ref s0) (C := RX2) (T := TX2) (N := 8) hx hb hts in_X2_restore_X2 hown hK hP 0 rfl rfl 0 (by decide) (hts _ m_X2_restore_1) (fun _ h9 => h9) rfl dX2_restore_27 ?_
          refine lv_aload_n hx hb dX2_restore_30 rfl (lv_at hl 0 rfl) ?_
          refine va_get (D := D) (ci := 2) (v := .ref im) (C := RX2) (T := TX2) (N := 8) hx hb hts in_X2_restore_X2 hown hK hP 0 rfl rfl 1 (by decide) (hts _ m_X2_restore_2) (fun _ h9 => h9) rfl dX2_restore_31 ?_
          refine lv_iload_n hx hb dX2_restore_34 rfl (lv_at hl 1 rfl) ?_
          refine z_aldq (k := q) (r := t0) hx hb hK hP 5 3 rfl rfl (by omega) (by rw [hq01]; rfl) dX2_restore_35 ?_
          refine z_Vvw (As := [.ref t0]) (rest := []) hx hb hml hown hts hA hS hP hD hK hZ hl.1 (c_X1_takeFrom l D cI cJ cZ cO _ (s0) (b1) (b2) (b3) (σ) (t0) (d1) (d2) (d3) (τ0) ) (cwV 1 hts gX2_restore_X1_takeFrom rfl rfl rfl (by decide +kernel) ⟨Nat.le_of_ble_eq_true rfl, Nat.le_of_ble_eq_true rfl⟩) [1, 2, 3, 4, 6, 7, 8, 9] rfl rfl (fun _ => rfl) 1 1 rfl rfl rfl rfl (Nat.le_of_ble_eq_true rfl) ⟨Nat.zero_le _, Nat.zero_le _⟩ dX2_restore_36 (fun u H locs hw hP hD hS => ?_)
          have hP : va_P D vwCl [(x0, .inr (2, [.ref s0, .ref im, .int (zI (gk 0 + 2 * gk 1)), .ref p0, .ref r1, .ref r2, .ref r3, .ref r4])), (s0, .inr (1, [.int (zI (τ0 0)), .ref b1, .ref b2, .ref b3, .int (zI (τ0 9))])), (b1, .inl (cI, 3, .inl (zF (fun j => τ0 (1 + j))))), (b2, .inl (cI, 5, .inl (zF (fun j => τ0 (4 + j))))), (b3, .inl (cI, 12, .inl (zF (fun j => τ0 (10 + j))))), (im, .inl (cO, 2, .inr (.inr (.inr (.inr (imF t0 t1)))))), (t0, .inr (1, [.int (zI (τ0 0)), .ref d1, .ref d2, .ref d3, .int (zI (τ0 9))])), (d1, .inl (cI, 3, .inl (zF (fun j => τ0 (1 + j))))), (d2, .inl (cI, 5, .inl (zF (fun j => τ0 (4 + j))))), (d3, .inl (cI, 12, .inl (zF (fun j => τ0 (10 + j))))), (t1, .inr (1, [.int (zI (τ1 0)), .ref e1, .ref e2, .ref e3, .int (zI (τ1 9))])), (e1, .inl (cI, 3, .inl (zF (fun j => τ1 (1 + j))))), (e2, .inl (cI, 5, .inl (zF (fun j => τ1 (4 + j))))), (e3, .inl (cI, 12, .inl (zF (fun j => τ1 (10 + j)))))] H := hP
          have hD : va_D A [(x0, .inr (2, [.ref s0, .ref im, .int (zI (gk 0 + 2 * gk 1)), .ref p0, .ref r1, .ref r2, .ref r3, .ref r4])), (s0, .inr (1, [.int (zI (τ0 0)), .ref b1, .ref b2, .ref b3, .int (zI (τ0 9))])), (b1, .inl (cI, 3, .inl (zF (fun j => τ0 (1 + j))))), (b2, .inl (cI, 5, .inl (zF (fun j => τ0 (4 + j))))), (b3, .inl (cI, 12, .inl (zF (fun j => τ0 (10 + j))))), (im, .inl (cO, 2, .inr (.inr (.inr (.inr (imF t0 t1)))))), (t0, .inr (1, [.int (zI (τ0 0)), .ref d1, .ref d2, .ref d3, .int (zI (τ0 9))])), (d1, .inl (cI, 3, .inl (zF (fun j => τ0 (1 + j))))), (d2, .inl (cI, 5, .inl (zF (fun j => τ0 (4 + j))))), (d3, .inl (cI, 12, .inl (zF (fun j => τ0 (10 + j))))), (t1, .inr (1, [.int (zI (τ1 0)), .ref e1, .ref e2, .ref e3, .int (zI (τ1 9))])), (e1, .inl (cI, 3, .inl (zF (fun j => τ1 (1 + j))))), (e2, .inl (cI, 5, .inl (zF (fun j => τ1 (4 + j))))), (e3, .inl (cI, 12, .inl (zF (fun j => τ1 (10 + j)))))] := hD
          refine lv_iconst (v := zI (1)) hx hb dX2_restore_39 rfl ?_
          exact hret _ _ _ _ _ () dX2_restore_40 (by unfold A_restore; rw [if_pos (by omega), if_neg c_20]) (by rw [show S_reT σ τ0 τ1 gk q = τ0 by unfold S_reT; rw [if_pos (by omega), if_neg c_20, if_pos (by omega)]]; exact hP) hS
        · refine lv_bipush (v := zI (-3)) hx hb dX2_restore_23 (by decide +kernel) ?_
          exact hret _ _ _ _ _ () dX2_restore_25 (by unfold A_restore; rw [if_pos (by omega), if_pos c_20]) (by rw [show S_reT σ τ0 τ1 gk q = σ by unfold S_reT; rw [if_pos (by omega), if_pos c_20]]; exact hP) hS
      · refine lv_aload_n hx hb dX2_restore_12 rfl (lv_at hl 0 rfl) ?_
        refine va_get (D := D) (ci := 2) (v := .int (zI (gk 0 + 2 * gk 1))) (C := RX2) (T := TX2) (N := 8) hx hb hts in_X2_restore_X2 hown hK hP 0 rfl rfl 2 (by decide) (hts _ m_X2_restore_0) (fun _ h9 => h9) rfl dX2_restore_13 ?_
        refine lv_iload_n hx hb dX2_restore_16 rfl (lv_at hl 1 rfl) ?_
        refine lv_ishr hx hb dX2_restore_17 ?_
        refine lv_iconst (v := zI (1)) hx hb dX2_restore_18 rfl ?_
        refine lv_iand hx hb dX2_restore_19 ?_
        refine z_top (y := zI (gk q)) (by rw [ke_bit hk.1 hk.2 (by omega), hq01]; rfl) ?_
        have hg2 : gk q = 0 ∨ gk q = 1 := by rw [hq01]; first | exact hk.1 | exact hk.2
        refine z_if_ne (a := gk q) (tgt := 26) hx hb (by omega) dX2_restore_20 (by decide) (fun c_20 => ?_) (fun c_20 => ?_)
        · refine lv_aload_n hx hb dX2_restore_26 rfl (lv_at hl 0 rfl) ?_
          refine va_get (D := D) (ci := 2) (v := .ref s0) (C := RX2) (T := TX2) (N := 8) hx hb hts in_X2_restore_X2 hown hK hP 0 rfl rfl 0 (by decide) (hts _ m_X2_restore_1) (fun _ h9 => h9) rfl dX2_restore_27 ?_
          refine lv_aload_n hx hb dX2_restore_30 rfl (lv_at hl 0 rfl) ?_
          refine va_get (D := D) (ci := 2) (v := .ref im) (C := RX2) (T := TX2) (N := 8) hx hb hts in_X2_restore_X2 hown hK hP 0 rfl rfl 1 (by decide) (hts _ m_X2_restore_2) (fun _ h9 => h9) rfl dX2_restore_31 ?_
          refine lv_iload_n hx hb dX2_restore_34 rfl (lv_at hl 1 rfl) ?_
          refine z_aldq (k := q) (r := t1) hx hb hK hP 5 3 rfl rfl (by omega) (by rw [hq01]; rfl) dX2_restore_35 ?_
          refine z_Vvw (As := [.ref t1]) (rest := []) hx hb hml hown hts hA hS hP hD hK hZ hl.1 (c_X1_takeFrom l D cI cJ cZ cO _ (s0) (b1) (b2) (b3) (σ) (t1) (e1) (e2) (e3) (τ1) ) (cwV 1 hts gX2_restore_X1_takeFrom rfl rfl rfl (by decide +kernel) ⟨Nat.le_of_ble_eq_true rfl, Nat.le_of_ble_eq_true rfl⟩) [1, 2, 3, 4, 10, 11, 12, 13] rfl rfl (fun _ => rfl) 1 1 rfl rfl rfl rfl (Nat.le_of_ble_eq_true rfl) ⟨Nat.zero_le _, Nat.zero_le _⟩ dX2_restore_36 (fun u H locs hw hP hD hS => ?_)
          have hP : va_P D vwCl [(x0, .inr (2, [.ref s0, .ref im, .int (zI (gk 0 + 2 * gk 1)), .ref p0, .ref r1, .ref r2, .ref r3, .ref r4])), (s0, .inr (1, [.int (zI (τ1 0)), .ref b1, .ref b2, .ref b3, .int (zI (τ1 9))])), (b1, .inl (cI, 3, .inl (zF (fun j => τ1 (1 + j))))), (b2, .inl (cI, 5, .inl (zF (fun j => τ1 (4 + j))))), (b3, .inl (cI, 12, .inl (zF (fun j => τ1 (10 + j))))), (im, .inl (cO, 2, .inr (.inr (.inr (.inr (imF t0 t1)))))), (t0, .inr (1, [.int (zI (τ0 0)), .ref d1, .ref d2, .ref d3, .int (zI (τ0 9))])), (d1, .inl (cI, 3, .inl (zF (fun j => τ0 (1 + j))))), (d2, .inl (cI, 5, .inl (zF (fun j => τ0 (4 + j))))), (d3, .inl (cI, 12, .inl (zF (fun j => τ0 (10 + j))))), (t1, .inr (1, [.int (zI (τ1 0)), .ref e1, .ref e2, .ref e3, .int (zI (τ1 9))])), (e1, .inl (cI, 3, .inl (zF (fun j => τ1 (1 + j))))), (e2, .inl (cI, 5, .inl (zF (fun j => τ1 (4 + j))))), (e3, .inl (cI, 12, .inl (zF (fun j => τ1 (10 + j)))))] H := hP
          have hD : va_D A [(x0, .inr (2, [.ref s0, .ref im, .int (zI (gk 0 + 2 * gk 1)), .ref p0, .ref r1, .ref r2, .ref r3, .ref r4])), (s0, .inr (1, [.int (zI (τ1 0)), .ref b1, .ref b2, .ref b3, .int (zI (τ1 9))])), (b1, .inl (cI, 3, .inl (zF (fun j => τ1 (1 + j))))), (b2, .inl (cI, 5, .inl (zF (fun j => τ1 (4 + j))))), (b3, .inl (cI, 12, .inl (zF (fun j => τ1 (10 + j))))), (im, .inl (cO, 2, .inr (.inr (.inr (.inr (imF t0 t1)))))), (t0, .inr (1, [.int (zI (τ0 0)), .ref d1, .ref d2, .ref d3, .int (zI (τ0 9))])), (d1, .inl (cI, 3, .inl (zF (fun j => τ0 (1 + j))))), (d2, .inl (cI, 5, .inl (zF (fun j => τ0 (4 + j))))), (d3, .inl (cI, 12, .inl (zF (fun j => τ0 (10 + j))))), (t1, .inr (1, [.int (zI (τ1 0)), .ref e1, .ref e2, .ref e3, .int (zI (τ1 9))])), (e1, .inl (cI, 3, .inl (zF (fun j => τ1 (1 + j))))), (e2, .inl (cI, 5, .inl (zF (fun j => τ1 (4 + j))))), (e3, .inl (cI, 12, .inl (zF (fun j => τ1 (10 + j)))))] := hD
          refine lv_iconst (v := zI (1)) hx hb dX2_restore_39 rfl ?_
          exact hret _ _ _ _ _ () dX2_restore_40 (by unfold A_restore; rw [if_pos (by omega), if_neg c_20]) (by rw [show S_reT σ τ0 τ1 gk q = τ1 by unfold S_reT; rw [if_pos (by omega), if_neg c_20, if_neg (by omega)]]; exact hP) hS
        · refine lv_bipush (v := zI (-3)) hx hb dX2_restore_23 (by decide +kernel) ?_
          exact hret _ _ _ _ _ () dX2_restore_25 (by unfold A_restore; rw [if_pos (by omega), if_pos c_20]) (by rw [show S_reT σ τ0 τ1 gk q = σ by unfold S_reT; rw [if_pos (by omega), if_pos c_20]]; exact hP) hS
    · refine lv_bipush (v := zI (-2)) hx hb dX2_restore_9 (by decide +kernel) ?_
      exact hret _ _ _ _ _ () dX2_restore_11 (by unfold A_restore; rw [if_neg (by omega)]) (by rw [show S_reT σ τ0 τ1 gk q = σ from if_neg (by omega)]; exact hP) hS
