abbrev rmX3_in : Room := { frames := 0, cells := 0, slots := 0, locals := 0 }
set_option maxHeartbeats 4000000 in
set_option maxRecDepth 100000 in
theorem c_X3_in (l : Launch) (D : va_G) (cI cJ cZ cO : ClassId) (sz : Nat) (v : Int) (lo : Int) (hh : Int) (h1 : (-2147483648 ≤ v ∧ v < 2147483648) ∧ (-2147483648 ≤ lo ∧ lo < 2147483648) ∧ -2147483648 ≤ hh ∧ hh < 2147483648) : Met l yX3_in wsX3_in rmX3_in (zPc D cI cJ cZ cO [] sz [.int (zI (v)), .int (zI (lo)), .int (zI (hh))]) (zQi D (fun (r : Int32) (_ : Unit) => r = zI (zB (lo ≤ v ∧ v ≤ hh))) (fun (_ : Unit) => []) [] sz) 0 0 (va_A [] sz) := by
  refine z_metz (by decide) rfl (Nat.le_of_ble_eq_true rfl) ?_
  intro p e s m args below meth c A Q ls hx hb hml hown hts hA hS hP hD hK hZ hl hret
  have hl : lv_has ls 3 [(0, .int (zI (v))), (1, .int (zI (lo))), (2, .int (zI (hh)))] := hl
  refine lv_iload_n hx hb dX3_in_0 rfl (lv_at hl 0 rfl) ?_
  refine lv_iload_n hx hb dX3_in_1 rfl (lv_at hl 1 rfl) ?_
  refine z_icmp_lt (a := v) (b := lo) (tgt := 14) hx hb (by omega) dX3_in_2 (by decide) (fun c_2 => ?_) (fun c_2 => ?_)
  · refine lv_iconst (v := zI (0)) hx hb dX3_in_14 rfl ?_
    exact hret _ _ _ _ _ () dX3_in_15 rfl (by rw [zB_f (by omega)]) hP hS
  · refine lv_iload_n hx hb dX3_in_5 rfl (lv_at hl 0 rfl) ?_
    refine lv_iload_n hx hb dX3_in_6 rfl (lv_at hl 2 rfl) ?_
    refine z_icmp_gt (a := v) (b := hh) (tgt := 14) hx hb (by omega) dX3_in_7 (by decide) (fun c_7 => ?_) (fun c_7 => ?_)
    · refine lv_iconst (v := zI (0)) hx hb dX3_in_14 rfl ?_
      exact hret _ _ _ _ _ () dX3_in_15 rfl (by rw [zB_f (by omega)]) hP hS
    · refine lv_iconst (v := zI (1)) hx hb dX3_in_10 rfl ?_
      refine lv_goto (tgt := 15) hx hb dX3_in_11 (by decide) ?_
      exact hret _ _ _ _ _ () dX3_in_15 rfl (by rw [zB_t (by omega)]) hP hS
abbrev rmX3_size : Room := { frames := 0, cells := 0, slots := 0, locals := 0 }
set_option maxHeartbeats 4000000 in
set_option maxRecDepth 100000 in
theorem c_X3_size (l : Launch) (D : va_G) (cI cJ cZ cO : ClassId) (sz : Nat) (v : Int) (h1 : -2147483647 ≤ v ∧ v < 2147483648) : Met l yX3_size wsX3_size rmX3_size (zPc D cI cJ cZ cO [] sz [.int (zI (v))]) (zQi D (fun (r : Int32) (_ : Unit) => r = zI (aI v)) (fun (_ : Unit) => []) [] sz) 0 0 (va_A [] sz) := by
  refine z_meti (by decide) rfl (Nat.le_of_ble_eq_true rfl) ?_
  intro p e s m args below meth c A Q ls hx hb hml hown hts hA hS hP hD hK hZ hl hret
  have hl : lv_has ls 1 [(0, .int (zI (v)))] := hl
  refine lv_iload_n hx hb dX3_size_0 rfl (lv_at hl 0 rfl) ?_
  refine z_if_ge (a := v) (tgt := 9) hx hb (by omega) dX3_size_1 (by decide) (fun c_1 => ?_) (fun c_1 => ?_)
  · refine lv_iload_n hx hb dX3_size_9 rfl (lv_at hl 0 rfl) ?_
    exact hret _ _ _ _ _ () dX3_size_10 (by unfold aI; first | rw [if_pos (by omega)] | rw [if_neg (by omega)]) hP hS
  · refine lv_iload_n hx hb dX3_size_4 rfl (lv_at hl 0 rfl) ?_
    refine z_ineg hx hb dX3_size_5 ?_
    refine lv_goto (tgt := 10) hx hb dX3_size_6 (by decide) ?_
    exact hret _ _ _ _ _ () dX3_size_10 (by unfold aI; first | rw [if_pos (by omega)] | rw [if_neg (by omega)]) hP hS
abbrev rmX3_isSetting : Room := { frames := 1, cells := 0, slots := 0, locals := 22 }
theorem in_X3_isSetting_X3 : ∀ w ∈ wsX30, w ∈ wsX3_isSetting := fun _ h => List.mem_cons_of_mem _ (List.mem_append_right _ h)
theorem m_X3_isSetting_0 : (.fieldLink RX3 7 "BrassWaysModel" "state" "[I" : Cond) ∈ wsX3_isSetting := List.mem_of_getElem? (i := 1) rfl
set_option maxHeartbeats 4000000 in
set_option maxRecDepth 100000 in
theorem c_X3_isSetting (l : Launch) (D : va_G) (cI cJ cZ cO : ClassId) (sz : Nat) (h0 : Nat) (a0 : Nat) (a1 : Nat) (a2 : Nat) (a3 : Nat) (a4 : Nat) (a5 : Nat) (a6 : Nat) (σ : Int → Int) (t : Int) (h1 : -2147483648 ≤ t ∧ t < 2147483648) (hO : Ok σ) : Met l yX3_isSetting wsX3_isSetting rmX3_isSetting (zPc D cI cJ cZ cO [(h0, .inr (3, [.ref a0, .ref a1, .ref a2, .ref a3, .ref a4, .ref a5, .ref a6])), (a0, .inl (cI, 22, .inl (zF (σ))))] sz [.ref h0, .int (zI (t))]) (zQi D (fun (r : Int32) (_ : Unit) => r = zI (zB (okS σ t))) (fun (_ : Unit) => [(h0, .inr (3, [.ref a0, .ref a1, .ref a2, .ref a3, .ref a4, .ref a5, .ref a6])), (a0, .inl (cI, 22, .inl (zF (σ))))]) [(h0, .inr (3, [.ref a0, .ref a1, .ref a2, .ref a3, .ref a4, .ref a5, .ref a6])), (a0, .inl (cI, 22, .inl (zF (σ))))] sz) 0 0 (va_A [(h0, .inr (3, [.ref a0, .ref a1, .ref a2, .ref a3, .ref a4, .ref a5, .ref a6])), (a0, .inl (cI, 22, .inl (zF (σ))))] sz) := by
  refine z_metz (by decide) rfl (Nat.le_of_ble_eq_true rfl) ?_
  intro p e s m args below meth c A Q ls hx hb hml hown hts hA hS hP hD hK hZ hl hret
  have hl : lv_has ls 2 [(0, .ref h0), (1, .int (zI (t)))] := hl
  have o0 := hO.1
  refine lv_iload_n hx hb dX3_isSetting_0 rfl (lv_at hl 1 rfl) ?_
  refine lv_iconst (v := zI (0)) hx hb dX3_isSetting_1 rfl ?_
  refine lv_aload_n hx hb dX3_isSetting_2 rfl (lv_at hl 0 rfl) ?_
  refine va_get (D := D) (ci := 3) (v := .ref a0) (C := RX3) (T := TX3) (N := 7) hx hb hts in_X3_isSetting_X3 hown hK hP 0 rfl rfl 0 (by decide) (hts _ m_X3_isSetting_0) (fun _ h9 => h9) rfl dX3_isSetting_3 ?_
  refine lv_iconst (v := zI (0)) hx hb dX3_isSetting_6 rfl ?_
  refine z_iald (k := 0) (g := σ) hx hb hK hP 1 0 rfl rfl (by omega) dX3_isSetting_7 ?_
  try dsimp only
  refine z_if_ne (a := σ 0) (tgt := 16) hx hb (by omega) dX3_isSetting_8 (by decide) (fun c_8 => ?_) (fun c_8 => ?_)
  · refine lv_bipush (v := zI (6)) hx hb dX3_isSetting_16 (by decide +kernel) ?_
    refine z_Sir (As := [.int (zI (t)), .int (zI (0)), .int (zI (6))]) (rest := []) hx hb hml hown hts hA hS hP hD hK hZ hl.1 (c_X3_in l D cI cJ cZ cO _ (t) (0) (6) (by omega)) (va_cwS 3 hts gX3_isSetting_X3_in rfl rfl rfl (by decide +kernel) ⟨Nat.le_of_ble_eq_true rfl, Nat.le_of_ble_eq_true rfl⟩) [] rfl rfl rfl rfl (Nat.le_of_ble_eq_true rfl) ⟨Nat.zero_le _, Nat.zero_le _⟩ dX3_isSetting_18 (fun r u H locs hw hP hS => ?_)
    subst hw
    exact hret _ _ _ _ _ () dX3_isSetting_21 zB_nar (congrArg zI (zB_congr (by unfold okS; first | rw [if_pos c_8] | rw [if_neg c_8]))) hP hS
  · refine lv_bipush (v := zI (7)) hx hb dX3_isSetting_11 (by decide +kernel) ?_
    refine lv_goto (tgt := 18) hx hb dX3_isSetting_13 (by decide) ?_
    refine z_Sir (As := [.int (zI (t)), .int (zI (0)), .int (zI (7))]) (rest := []) hx hb hml hown hts hA hS hP hD hK hZ hl.1 (c_X3_in l D cI cJ cZ cO _ (t) (0) (7) (by omega)) (va_cwS 3 hts gX3_isSetting_X3_in rfl rfl rfl (by decide +kernel) ⟨Nat.le_of_ble_eq_true rfl, Nat.le_of_ble_eq_true rfl⟩) [] rfl rfl rfl rfl (Nat.le_of_ble_eq_true rfl) ⟨Nat.zero_le _, Nat.zero_le _⟩ dX3_isSetting_18 (fun r u H locs hw hP hS => ?_)
    subst hw
    exact hret _ _ _ _ _ () dX3_isSetting_21 zB_nar (congrArg zI (zB_congr (by unfold okS; first | rw [if_pos c_8] | rw [if_neg c_8]))) hP hS
abbrev rmX3_isWay : Room := { frames := 2, cells := 0, slots := 0, locals := 43 }
set_option maxHeartbeats 4000000 in
set_option maxRecDepth 100000 in
theorem c_X3_isWay (l : Launch) (D : va_G) (cI cJ cZ cO : ClassId) (sz : Nat) (h0 : Nat) (a0 : Nat) (a1 : Nat) (a2 : Nat) (a3 : Nat) (a4 : Nat) (a5 : Nat) (a6 : Nat) (σ : Int → Int) (w : Int) (h1 : -2147483648 ≤ w ∧ w < 2147483648) (hO : Ok σ) : Met l yX3_isWay wsX3_isWay rmX3_isWay (zPc D cI cJ cZ cO [(h0, .inr (3, [.ref a0, .ref a1, .ref a2, .ref a3, .ref a4, .ref a5, .ref a6])), (a0, .inl (cI, 22, .inl (zF (σ))))] sz [.ref h0, .int (zI (w))]) (zQi D (fun (r : Int32) (_ : Unit) => r = zI (zB (okW σ w))) (fun (_ : Unit) => [(h0, .inr (3, [.ref a0, .ref a1, .ref a2, .ref a3, .ref a4, .ref a5, .ref a6])), (a0, .inl (cI, 22, .inl (zF (σ))))]) [(h0, .inr (3, [.ref a0, .ref a1, .ref a2, .ref a3, .ref a4, .ref a5, .ref a6])), (a0, .inl (cI, 22, .inl (zF (σ))))] sz) 0 0 (va_A [(h0, .inr (3, [.ref a0, .ref a1, .ref a2, .ref a3, .ref a4, .ref a5, .ref a6])), (a0, .inl (cI, 22, .inl (zF (σ))))] sz) := by
  refine z_metz (by decide) rfl (Nat.le_of_ble_eq_true rfl) ?_
  intro p e s m args below meth c A Q ls hx hb hml hown hts hA hS hP hD hK hZ hl hret
  have hl : lv_has ls 2 [(0, .ref h0), (1, .int (zI (w)))] := hl
  refine lv_iload_n hx hb dX3_isWay_0 rfl (lv_at hl 1 rfl) ?_
  refine lv_iconst (v := zI (0)) hx hb dX3_isWay_1 rfl ?_
  refine lv_bipush (v := zI (63)) hx hb dX3_isWay_2 (by decide +kernel) ?_
  refine z_Sir (As := [.int (zI (w)), .int (zI (0)), .int (zI (63))]) (rest := []) hx hb hml hown hts hA hS hP hD hK hZ hl.1 (c_X3_in l D cI cJ cZ cO _ (w) (0) (63) (by omega)) (va_cwS 3 hts gX3_isWay_X3_in rfl rfl rfl (by decide +kernel) ⟨Nat.le_of_ble_eq_true rfl, Nat.le_of_ble_eq_true rfl⟩) [] rfl rfl rfl rfl (Nat.le_of_ble_eq_true rfl) ⟨Nat.zero_le _, Nat.zero_le _⟩ dX3_isWay_4 (fun r u H locs hw hP hS => ?_)
  subst hw
  refine z_ifB_eq (P := 0 ≤ w ∧ w ≤ 63) (tgt := 25) hx hb dX3_isWay_7 (by decide) (fun c_7 => ?_) (fun c_7 => ?_)
  · refine lv_iconst (v := zI (0)) hx hb dX3_isWay_25 rfl ?_
    exact hret _ _ _ _ _ () dX3_isWay_26 rfl (by rw [zB_f (by first | exact fun q => c_7 q.1 | exact fun q => c_18 q.2)]) hP hS
  · refine lv_aload_n hx hb dX3_isWay_10 rfl (lv_at hl 0 rfl) ?_
    refine lv_iload_n hx hb dX3_isWay_11 rfl (lv_at hl 1 rfl) ?_
    refine lv_bipush (v := zI (8)) hx hb dX3_isWay_12 (by decide +kernel) ?_
    refine z_irem (a := w) (b := 8) hx hb (by omega) dX3_isWay_14 ?_
    refine z_Vir (As := [.int (zI (w % 8))]) (rest := []) hx hb hml hown hts hA hS hP hD hK hZ hl.1 (c_X3_isSetting l D cI cJ cZ cO _ (h0) (a0) (a1) (a2) (a3) (a4) (a5) (a6) (σ) (w % 8) (by omega) hO) (cwV 1 hts gX3_isWay_X3_isSetting rfl rfl rfl (by decide +kernel) ⟨Nat.le_of_ble_eq_true rfl, Nat.le_of_ble_eq_true rfl⟩) [0, 1] rfl rfl 0 3 rfl rfl rfl rfl (Nat.le_of_ble_eq_true rfl) ⟨Nat.zero_le _, Nat.zero_le _⟩ dX3_isWay_15 (fun r u H locs hw hP hS => ?_)
    subst hw
    refine z_ifB_eq (P := okS σ (w % 8)) (tgt := 25) hx hb dX3_isWay_18 (by decide) (fun c_18 => ?_) (fun c_18 => ?_)
    · refine lv_iconst (v := zI (0)) hx hb dX3_isWay_25 rfl ?_
      exact hret _ _ _ _ _ () dX3_isWay_26 rfl (by rw [zB_f (by first | exact fun q => c_7 q.1 | exact fun q => c_18 q.2)]) hP hS
    · refine lv_iconst (v := zI (1)) hx hb dX3_isWay_21 rfl ?_
      refine lv_goto (tgt := 26) hx hb dX3_isWay_22 (by decide) ?_
      exact hret _ _ _ _ _ () dX3_isWay_26 rfl (by rw [zB_t (by exact ⟨c_7, c_18⟩)]) hP hS
abbrev rmX3_isNote : Room := { frames := 1, cells := 0, slots := 0, locals := 22 }
set_option maxHeartbeats 4000000 in
set_option maxRecDepth 100000 in
theorem c_X3_isNote (l : Launch) (D : va_G) (cI cJ cZ cO : ClassId) (sz : Nat) (n : Int) (h1 : -2147483648 ≤ n ∧ n < 2147483648) : Met l yX3_isNote wsX3_isNote rmX3_isNote (zPc D cI cJ cZ cO [] sz [.int (zI (n))]) (zQi D (fun (r : Int32) (_ : Unit) => r = zI (zB (0 ≤ n ∧ n ≤ 36))) (fun (_ : Unit) => []) [] sz) 0 0 (va_A [] sz) := by
  refine z_metz (by decide) rfl (Nat.le_of_ble_eq_true rfl) ?_
  intro p e s m args below meth c A Q ls hx hb hml hown hts hA hS hP hD hK hZ hl hret
  have hl : lv_has ls 1 [(0, .int (zI (n)))] := hl
  refine lv_iload_n hx hb dX3_isNote_0 rfl (lv_at hl 0 rfl) ?_
  refine lv_iconst (v := zI (0)) hx hb dX3_isNote_1 rfl ?_
  refine lv_bipush (v := zI (36)) hx hb dX3_isNote_2 (by decide +kernel) ?_
  refine z_Sir (As := [.int (zI (n)), .int (zI (0)), .int (zI (36))]) (rest := []) hx hb hml hown hts hA hS hP hD hK hZ hl.1 (c_X3_in l D cI cJ cZ cO _ (n) (0) (36) (by omega)) (va_cwS 3 hts gX3_isNote_X3_in rfl rfl rfl (by decide +kernel) ⟨Nat.le_of_ble_eq_true rfl, Nat.le_of_ble_eq_true rfl⟩) [] rfl rfl rfl rfl (Nat.le_of_ble_eq_true rfl) ⟨Nat.zero_le _, Nat.zero_le _⟩ dX3_isNote_4 (fun r u H locs hw hP hS => ?_)
  subst hw
  exact hret _ _ _ _ _ () dX3_isNote_7 zB_nar rfl hP hS
abbrev rmX3_isPlace : Room := { frames := 1, cells := 0, slots := 0, locals := 22 }
theorem in_X3_isPlace_X3 : ∀ w ∈ wsX30, w ∈ wsX3_isPlace := fun _ h => List.mem_cons_of_mem _ (List.mem_append_right _ h)
theorem m_X3_isPlace_0 : (.fieldLink RX3 7 "BrassWaysModel" "state" "[I" : Cond) ∈ wsX3_isPlace := List.mem_of_getElem? (i := 1) rfl
set_option maxHeartbeats 4000000 in
set_option maxRecDepth 100000 in
theorem c_X3_isPlace (l : Launch) (D : va_G) (cI cJ cZ cO : ClassId) (sz : Nat) (h0 : Nat) (a0 : Nat) (a1 : Nat) (a2 : Nat) (a3 : Nat) (a4 : Nat) (a5 : Nat) (a6 : Nat) (σ : Int → Int) (q : Int) (h1 : -2147483648 ≤ q ∧ q < 2147483648) (hO : Ok σ) : Met l yX3_isPlace wsX3_isPlace rmX3_isPlace (zPc D cI cJ cZ cO [(h0, .inr (3, [.ref a0, .ref a1, .ref a2, .ref a3, .ref a4, .ref a5, .ref a6])), (a0, .inl (cI, 22, .inl (zF (σ))))] sz [.ref h0, .int (zI (q))]) (zQi D (fun (r : Int32) (_ : Unit) => r = zI (zB (0 ≤ q ∧ q ≤ σ 9 - 1))) (fun (_ : Unit) => [(h0, .inr (3, [.ref a0, .ref a1, .ref a2, .ref a3, .ref a4, .ref a5, .ref a6])), (a0, .inl (cI, 22, .inl (zF (σ))))]) [(h0, .inr (3, [.ref a0, .ref a1, .ref a2, .ref a3, .ref a4, .ref a5, .ref a6])), (a0, .inl (cI, 22, .inl (zF (σ))))] sz) 0 0 (va_A [(h0, .inr (3, [.ref a0, .ref a1, .ref a2, .ref a3, .ref a4, .ref a5, .ref a6])), (a0, .inl (cI, 22, .inl (zF (σ))))] sz) := by
  refine z_metz (by decide) rfl (Nat.le_of_ble_eq_true rfl) ?_
  intro p e s m args below meth c A Q ls hx hb hml hown hts hA hS hP hD hK hZ hl hret
  have hl : lv_has ls 2 [(0, .ref h0), (1, .int (zI (q)))] := hl
  have o9 := hO.2.2.2.2.2.2.2.2.2.1
  refine lv_iload_n hx hb dX3_isPlace_0 rfl (lv_at hl 1 rfl) ?_
  refine lv_iconst (v := zI (0)) hx hb dX3_isPlace_1 rfl ?_
  refine lv_aload_n hx hb dX3_isPlace_2 rfl (lv_at hl 0 rfl) ?_
  refine va_get (D := D) (ci := 3) (v := .ref a0) (C := RX3) (T := TX3) (N := 7) hx hb hts in_X3_isPlace_X3 hown hK hP 0 rfl rfl 0 (by decide) (hts _ m_X3_isPlace_0) (fun _ h9 => h9) rfl dX3_isPlace_3 ?_
  refine lv_bipush (v := zI (9)) hx hb dX3_isPlace_6 (by decide +kernel) ?_
  refine z_iald (k := 9) (g := σ) hx hb hK hP 1 0 rfl rfl (by omega) dX3_isPlace_8 ?_
  try dsimp only
  refine lv_iconst (v := zI (1)) hx hb dX3_isPlace_9 rfl ?_
  refine z_isub (a := σ 9) (b := 1) hx hb dX3_isPlace_10 ?_
  refine z_Sir (As := [.int (zI (q)), .int (zI (0)), .int (zI ((σ 9) - 1))]) (rest := []) hx hb hml hown hts hA hS hP hD hK hZ hl.1 (c_X3_in l D cI cJ cZ cO _ (q) (0) ((σ 9) - 1) (by omega)) (va_cwS 3 hts gX3_isPlace_X3_in rfl rfl rfl (by decide +kernel) ⟨Nat.le_of_ble_eq_true rfl, Nat.le_of_ble_eq_true rfl⟩) [] rfl rfl rfl rfl (Nat.le_of_ble_eq_true rfl) ⟨Nat.zero_le _, Nat.zero_le _⟩ dX3_isPlace_11 (fun r u H locs hw hP hS => ?_)
  subst hw
  exact hret _ _ _ _ _ () dX3_isPlace_14 zB_nar rfl hP hS
abbrev rmX3_bits : Room := { frames := 0, cells := 0, slots := 0, locals := 0 }
set_option maxHeartbeats 4000000 in
set_option maxRecDepth 100000 in
theorem c_X3_bits (l : Launch) (D : va_G) (cI cJ cZ cO : ClassId) (sz : Nat) (t : Int) (h1 : 0 ≤ t ∧ t < 8) : Met l yX3_bits wsX3_bits rmX3_bits (zPc D cI cJ cZ cO [] sz [.int (zI (t))]) (zQi D (fun (r : Int32) (_ : Unit) => r = zI (bitsI t)) (fun (_ : Unit) => []) [] sz) 0 0 (va_A [] sz) := by
  refine z_meti (by decide) rfl (Nat.le_of_ble_eq_true rfl) ?_
  intro p e s m args below meth c A Q ls hx hb hml hown hts hA hS hP hD hK hZ hl hret
  have hl : lv_has ls 1 [(0, .int (zI (t)))] := hl
  refine lv_iload_n hx hb dX3_bits_0 rfl (lv_at hl 0 rfl) ?_
  refine lv_iconst (v := zI (1)) hx hb dX3_bits_1 rfl ?_
  refine lv_iand hx hb dX3_bits_2 ?_
  refine z_top (y := zI (t % 2)) (z_and1 h1) ?_
  refine lv_iload_n hx hb dX3_bits_3 rfl (lv_at hl 0 rfl) ?_
  refine lv_iconst (v := zI (1)) hx hb dX3_bits_4 rfl ?_
  refine lv_ishr hx hb dX3_bits_5 ?_
  refine lv_iconst (v := zI (1)) hx hb dX3_bits_6 rfl ?_
  refine lv_iand hx hb dX3_bits_7 ?_
  refine z_top (y := zI (t / 2 % 2)) (z_bit1 h1) ?_
  refine z_iadd (a := t % 2) (b := t / 2 % 2) hx hb dX3_bits_8 ?_
  refine lv_iload_n hx hb dX3_bits_9 rfl (lv_at hl 0 rfl) ?_
  refine lv_iconst (v := zI (2)) hx hb dX3_bits_10 rfl ?_
  refine lv_ishr hx hb dX3_bits_11 ?_
  refine lv_iconst (v := zI (1)) hx hb dX3_bits_12 rfl ?_
  refine lv_iand hx hb dX3_bits_13 ?_
  refine z_top (y := zI (t / 4 % 2)) (z_bit2 h1) ?_
  refine z_iadd (a := (t % 2) + (t / 2 % 2)) (b := t / 4 % 2) hx hb dX3_bits_14 ?_
  exact hret _ _ _ _ _ () dX3_bits_15 rfl hP hS
abbrev rmX3_lowersBy : Room := { frames := 1, cells := 0, slots := 0, locals := 20 }
theorem in_X3_lowersBy_X3 : ∀ w ∈ wsX30, w ∈ wsX3_lowersBy := fun _ h => List.mem_cons_of_mem _ (List.mem_append_right _ h)
theorem m_X3_lowersBy_0 : (.fieldLink RX3 7 "BrassWaysModel" "state" "[I" : Cond) ∈ wsX3_lowersBy := List.mem_of_getElem? (i := 1) rfl
set_option maxHeartbeats 4000000 in
set_option maxRecDepth 100000 in
theorem c_X3_lowersBy (l : Launch) (D : va_G) (cI cJ cZ cO : ClassId) (sz : Nat) (h0 : Nat) (a0 : Nat) (a1 : Nat) (a2 : Nat) (a3 : Nat) (a4 : Nat) (a5 : Nat) (a6 : Nat) (σ : Int → Int) (t : Int) (h1 : 0 ≤ t ∧ t < 8) (hO : Ok σ) : Met l yX3_lowersBy wsX3_lowersBy rmX3_lowersBy (zPc D cI cJ cZ cO [(h0, .inr (3, [.ref a0, .ref a1, .ref a2, .ref a3, .ref a4, .ref a5, .ref a6])), (a0, .inl (cI, 22, .inl (zF (σ))))] sz [.ref h0, .int (zI (t))]) (zQi D (fun (r : Int32) (_ : Unit) => r = zI (low σ t)) (fun (_ : Unit) => [(h0, .inr (3, [.ref a0, .ref a1, .ref a2, .ref a3, .ref a4, .ref a5, .ref a6])), (a0, .inl (cI, 22, .inl (zF (σ))))]) [(h0, .inr (3, [.ref a0, .ref a1, .ref a2, .ref a3, .ref a4, .ref a5, .ref a6])), (a0, .inl (cI, 22, .inl (zF (σ))))] sz) 0 0 (va_A [(h0, .inr (3, [.ref a0, .ref a1, .ref a2, .ref a3, .ref a4, .ref a5, .ref a6])), (a0, .inl (cI, 22, .inl (zF (σ))))] sz) := by
  refine z_meti (by decide) rfl (Nat.le_of_ble_eq_true rfl) ?_
  intro p e s m args below meth c A Q ls hx hb hml hown hts hA hS hP hD hK hZ hl hret
  have hl : lv_has ls 4 [(0, .ref h0), (1, .int (zI (t)))] := hl
  have o0 := hO.1
  have hb3 := bitsI_in t
  refine lv_aload_n hx hb dX3_lowersBy_0 rfl (lv_at hl 0 rfl) ?_
  refine va_get (D := D) (ci := 3) (v := .ref a0) (C := RX3) (T := TX3) (N := 7) hx hb hts in_X3_lowersBy_X3 hown hK hP 0 rfl rfl 0 (by decide) (hts _ m_X3_lowersBy_0) (fun _ h9 => h9) rfl dX3_lowersBy_1 ?_
  refine lv_iconst (v := zI (0)) hx hb dX3_lowersBy_4 rfl ?_
  refine z_iald (k := 0) (g := σ) hx hb hK hP 1 0 rfl rfl (by omega) dX3_lowersBy_5 ?_
  try dsimp only
  refine lv_iconst (v := zI (1)) hx hb dX3_lowersBy_6 rfl ?_
  refine z_icmp_ne (a := σ 0) (b := 1) (tgt := 15) hx hb (by omega) dX3_lowersBy_7 (by decide) (fun c_7 => ?_) (fun c_7 => ?_)
  · refine lv_iconst (v := zI (0)) hx hb dX3_lowersBy_15 rfl ?_
    refine lv_istore_n (lv' := [(2, .int (zI (0))), (0, .ref h0), (1, .int (zI (t)))]) hx hb dX3_lowersBy_16 rfl hl (by decide) rfl (fun ls hl => ?_)
    refine lv_iconst (v := zI (0)) hx hb dX3_lowersBy_17 rfl ?_
    refine lv_istore_n (lv' := [(3, .int (zI (0))), (2, .int (zI (0))), (0, .ref h0), (1, .int (zI (t)))]) hx hb dX3_lowersBy_18 rfl hl (by decide) rfl (fun ls hl => ?_)
    refine lv_iload_n hx hb dX3_lowersBy_19 rfl (lv_at hl 0 rfl) ?_
    refine lv_iconst (v := zI (3)) hx hb dX3_lowersBy_20 rfl ?_
    refine z_icmp_ge (a := 0) (b := 3) (tgt := 47) hx hb (by omega) dX3_lowersBy_21 (by decide) (fun c_21 => ?_) (fun c_21 => ?_)
    · exfalso; omega
    · refine lv_iload_n hx hb dX3_lowersBy_24 rfl (lv_at hl 1 rfl) ?_
      refine lv_iload_n hx hb dX3_lowersBy_25 rfl (lv_at hl 3 rfl) ?_
      refine lv_iload_n hx hb dX3_lowersBy_26 rfl (lv_at hl 0 rfl) ?_
      refine lv_ishr hx hb dX3_lowersBy_27 ?_
      refine lv_iconst (v := zI (1)) hx hb dX3_lowersBy_28 rfl ?_
      refine lv_iand hx hb dX3_lowersBy_29 ?_
      refine z_top (y := zI (t % 2)) (z_bit0 h1) ?_
      refine lv_aload_n hx hb dX3_lowersBy_30 rfl (lv_at hl 2 rfl) ?_
      refine va_get (D := D) (ci := 3) (v := .ref a0) (C := RX3) (T := TX3) (N := 7) hx hb hts in_X3_lowersBy_X3 hown hK hP 0 rfl rfl 0 (by decide) (hts _ m_X3_lowersBy_0) (fun _ h9 => h9) rfl dX3_lowersBy_31 ?_
      refine lv_iconst (v := zI (1)) hx hb dX3_lowersBy_34 rfl ?_
      refine lv_iload_n hx hb dX3_lowersBy_35 rfl (lv_at hl 0 rfl) ?_
      refine z_iadd (a := 1) (b := 0) hx hb dX3_lowersBy_36 ?_
      refine z_top (y := zI (1)) rfl ?_
      refine z_iald (k := 1) (g := σ) hx hb hK hP 1 0 rfl rfl (by omega) dX3_lowersBy_37 ?_
      try dsimp only
      refine z_imul (a := t % 2) (b := σ 1) hx hb dX3_lowersBy_38 ?_
      refine z_iadd (a := 0) (b := (t % 2) * (σ 1)) hx hb dX3_lowersBy_39 ?_
      refine lv_istore_n (lv' := [(2, .int (zI (0 + ((t % 2) * (σ 1))))), (3, .int (zI (0))), (0, .ref h0), (1, .int (zI (t)))]) hx hb dX3_lowersBy_40 rfl hl (by decide) rfl (fun ls hl => ?_)
      refine lv_iinc (v := zI (1)) (lv' := [(3, .int (zI (1))), (2, .int (zI (0 + ((t % 2) * (σ 1))))), (0, .ref h0), (1, .int (zI (t)))]) hx hb dX3_lowersBy_41 hl (k := 1) rfl (by decide +kernel) (by decide) rfl (fun ls hl => ?_)
      refine lv_goto (tgt := 19) hx hb dX3_lowersBy_44 (by decide) ?_
      refine lv_iload_n hx hb dX3_lowersBy_19 rfl (lv_at hl 0 rfl) ?_
      refine lv_iconst (v := zI (3)) hx hb dX3_lowersBy_20 rfl ?_
      refine z_icmp_ge (a := 1) (b := 3) (tgt := 47) hx hb (by omega) dX3_lowersBy_21 (by decide) (fun c_21 => ?_) (fun c_21 => ?_)
      · exfalso; omega
      · refine lv_iload_n hx hb dX3_lowersBy_24 rfl (lv_at hl 1 rfl) ?_
        refine lv_iload_n hx hb dX3_lowersBy_25 rfl (lv_at hl 3 rfl) ?_
        refine lv_iload_n hx hb dX3_lowersBy_26 rfl (lv_at hl 0 rfl) ?_
        refine lv_ishr hx hb dX3_lowersBy_27 ?_
        refine lv_iconst (v := zI (1)) hx hb dX3_lowersBy_28 rfl ?_
        refine lv_iand hx hb dX3_lowersBy_29 ?_
        refine z_top (y := zI (t / 2 % 2)) (z_bit1 h1) ?_
        refine lv_aload_n hx hb dX3_lowersBy_30 rfl (lv_at hl 2 rfl) ?_
        refine va_get (D := D) (ci := 3) (v := .ref a0) (C := RX3) (T := TX3) (N := 7) hx hb hts in_X3_lowersBy_X3 hown hK hP 0 rfl rfl 0 (by decide) (hts _ m_X3_lowersBy_0) (fun _ h9 => h9) rfl dX3_lowersBy_31 ?_
        refine lv_iconst (v := zI (1)) hx hb dX3_lowersBy_34 rfl ?_
        refine lv_iload_n hx hb dX3_lowersBy_35 rfl (lv_at hl 0 rfl) ?_
        refine z_iadd (a := 1) (b := 1) hx hb dX3_lowersBy_36 ?_
        refine z_top (y := zI (2)) rfl ?_
        refine z_iald (k := 2) (g := σ) hx hb hK hP 1 0 rfl rfl (by omega) dX3_lowersBy_37 ?_
        try dsimp only
        refine z_imul (a := t / 2 % 2) (b := σ 2) hx hb dX3_lowersBy_38 ?_
        refine z_iadd (a := 0 + ((t % 2) * (σ 1))) (b := (t / 2 % 2) * (σ 2)) hx hb dX3_lowersBy_39 ?_
        refine lv_istore_n (lv' := [(2, .int (zI ((0 + ((t % 2) * (σ 1))) + ((t / 2 % 2) * (σ 2))))), (3, .int (zI (1))), (0, .ref h0), (1, .int (zI (t)))]) hx hb dX3_lowersBy_40 rfl hl (by decide) rfl (fun ls hl => ?_)
        refine lv_iinc (v := zI (2)) (lv' := [(3, .int (zI (2))), (2, .int (zI ((0 + ((t % 2) * (σ 1))) + ((t / 2 % 2) * (σ 2))))), (0, .ref h0), (1, .int (zI (t)))]) hx hb dX3_lowersBy_41 hl (k := 1) rfl (by decide +kernel) (by decide) rfl (fun ls hl => ?_)
        refine lv_goto (tgt := 19) hx hb dX3_lowersBy_44 (by decide) ?_
        refine lv_iload_n hx hb dX3_lowersBy_19 rfl (lv_at hl 0 rfl) ?_
        refine lv_iconst (v := zI (3)) hx hb dX3_lowersBy_20 rfl ?_
        refine z_icmp_ge (a := 2) (b := 3) (tgt := 47) hx hb (by omega) dX3_lowersBy_21 (by decide) (fun c_21 => ?_) (fun c_21 => ?_)
        · exfalso; omega
        · refine lv_iload_n hx hb dX3_lowersBy_24 rfl (lv_at hl 1 rfl) ?_
          refine lv_iload_n hx hb dX3_lowersBy_25 rfl (lv_at hl 3 rfl) ?_
          refine lv_iload_n hx hb dX3_lowersBy_26 rfl (lv_at hl 0 rfl) ?_
          refine lv_ishr hx hb dX3_lowersBy_27 ?_
          refine lv_iconst (v := zI (1)) hx hb dX3_lowersBy_28 rfl ?_
          refine lv_iand hx hb dX3_lowersBy_29 ?_
          refine z_top (y := zI (t / 4 % 2)) (z_bit2 h1) ?_
          refine lv_aload_n hx hb dX3_lowersBy_30 rfl (lv_at hl 2 rfl) ?_
          refine va_get (D := D) (ci := 3) (v := .ref a0) (C := RX3) (T := TX3) (N := 7) hx hb hts in_X3_lowersBy_X3 hown hK hP 0 rfl rfl 0 (by decide) (hts _ m_X3_lowersBy_0) (fun _ h9 => h9) rfl dX3_lowersBy_31 ?_
          refine lv_iconst (v := zI (1)) hx hb dX3_lowersBy_34 rfl ?_
          refine lv_iload_n hx hb dX3_lowersBy_35 rfl (lv_at hl 0 rfl) ?_
          refine z_iadd (a := 1) (b := 2) hx hb dX3_lowersBy_36 ?_
          refine z_top (y := zI (3)) rfl ?_
          refine z_iald (k := 3) (g := σ) hx hb hK hP 1 0 rfl rfl (by omega) dX3_lowersBy_37 ?_
          try dsimp only
          refine z_imul (a := t / 4 % 2) (b := σ 3) hx hb dX3_lowersBy_38 ?_
          refine z_iadd (a := (0 + ((t % 2) * (σ 1))) + ((t / 2 % 2) * (σ 2))) (b := (t / 4 % 2) * (σ 3)) hx hb dX3_lowersBy_39 ?_
          refine lv_istore_n (lv' := [(2, .int (zI (((0 + ((t % 2) * (σ 1))) + ((t / 2 % 2) * (σ 2))) + ((t / 4 % 2) * (σ 3))))), (3, .int (zI (2))), (0, .ref h0), (1, .int (zI (t)))]) hx hb dX3_lowersBy_40 rfl hl (by decide) rfl (fun ls hl => ?_)
          refine lv_iinc (v := zI (3)) (lv' := [(3, .int (zI (3))), (2, .int (zI (((0 + ((t % 2) * (σ 1))) + ((t / 2 % 2) * (σ 2))) + ((t / 4 % 2) * (σ 3))))), (0, .ref h0), (1, .int (zI (t)))]) hx hb dX3_lowersBy_41 hl (k := 1) rfl (by decide +kernel) (by decide) rfl (fun ls hl => ?_)
          refine lv_goto (tgt := 19) hx hb dX3_lowersBy_44 (by decide) ?_
          refine lv_iload_n hx hb dX3_lowersBy_19 rfl (lv_at hl 0 rfl) ?_
          refine lv_iconst (v := zI (3)) hx hb dX3_lowersBy_20 rfl ?_
          refine z_icmp_ge (a := 3) (b := 3) (tgt := 47) hx hb (by omega) dX3_lowersBy_21 (by decide) (fun c_21 => ?_) (fun c_21 => ?_)
          · refine lv_iload_n hx hb dX3_lowersBy_47 rfl (lv_at hl 3 rfl) ?_
            refine z_Sir (As := [.int (zI (t))]) (rest := []) hx hb hml hown hts hA hS hP hD hK hZ hl.1 (c_X3_bits l D cI cJ cZ cO _ (t) (by omega)) (va_cwS 1 hts gX3_lowersBy_X3_bits rfl rfl rfl (by decide +kernel) ⟨Nat.le_of_ble_eq_true rfl, Nat.le_of_ble_eq_true rfl⟩) [] rfl rfl rfl rfl (Nat.le_of_ble_eq_true rfl) ⟨Nat.zero_le _, Nat.zero_le _⟩ dX3_lowersBy_48 (fun r u H locs hw hP hS => ?_)
            subst hw
            refine lv_istore_n (lv' := [(3, .int (zI (bitsI t))), (2, .int (zI (((0 + ((t % 2) * (σ 1))) + ((t / 2 % 2) * (σ 2))) + ((t / 4 % 2) * (σ 3))))), (0, .ref h0), (1, .int (zI (t)))]) hx hb dX3_lowersBy_51 rfl hl (by decide) rfl (fun ls hl => ?_)
            refine lv_iload_n hx hb dX3_lowersBy_52 rfl (lv_at hl 1 rfl) ?_
            refine lv_aload_n hx hb dX3_lowersBy_53 rfl (lv_at hl 2 rfl) ?_
            refine va_get (D := D) (ci := 3) (v := .ref a0) (C := RX3) (T := TX3) (N := 7) hx hb hts in_X3_lowersBy_X3 hown hK hP 0 rfl rfl 0 (by decide) (hts _ m_X3_lowersBy_0) (fun _ h9 => h9) rfl dX3_lowersBy_54 ?_
            refine lv_iconst (v := zI (4)) hx hb dX3_lowersBy_57 rfl ?_
            refine z_iald (k := 4) (g := σ) hx hb hK hP 1 0 rfl rfl (by omega) dX3_lowersBy_58 ?_
            try dsimp only
            refine lv_iload_n hx hb dX3_lowersBy_59 rfl (lv_at hl 0 rfl) ?_
            refine lv_iload_n hx hb dX3_lowersBy_60 rfl (lv_at hl 0 rfl) ?_
            refine lv_iconst (v := zI (1)) hx hb dX3_lowersBy_61 rfl ?_
            refine z_isub (a := bitsI t) (b := 1) hx hb dX3_lowersBy_62 ?_
            refine z_imul (a := bitsI t) (b := (bitsI t) - 1) hx hb dX3_lowersBy_63 ?_
            refine lv_iconst (v := zI (2)) hx hb dX3_lowersBy_64 rfl ?_
            refine z_idiv (a := (bitsI t) * ((bitsI t) - 1)) (b := 2) hx hb (by rcases (show bitsI t = 0 ∨ bitsI t = 1 ∨ bitsI t = 2 ∨ bitsI t = 3 by omega) with q | q | q | q <;> rw [q] <;> decide) dX3_lowersBy_65 ?_
            refine z_imul (a := σ 4) (b := ((bitsI t) * ((bitsI t) - 1)) / 2) hx hb dX3_lowersBy_66 ?_
            refine z_isub (a := ((0 + ((t % 2) * (σ 1))) + ((t / 2 % 2) * (σ 2))) + ((t / 4 % 2) * (σ 3))) (b := (σ 4) * (((bitsI t) * ((bitsI t) - 1)) / 2)) hx hb dX3_lowersBy_67 ?_
            exact hret _ _ _ _ _ () dX3_lowersBy_68 (by unfold low; rw [if_neg c_7]; congr 1; omega) hP hS
          · exfalso; omega
  · refine lv_bipush (v := zI (100)) hx hb dX3_lowersBy_10 (by decide +kernel) ?_
    refine lv_iload_n hx hb dX3_lowersBy_12 rfl (lv_at hl 1 rfl) ?_
    refine z_imul (a := 100) (b := t) hx hb dX3_lowersBy_13 ?_
    exact hret _ _ _ _ _ () dX3_lowersBy_14 (by unfold low; rw [if_pos c_7]) hP hS
abbrev rmX3_highOf : Room := { frames := 0, cells := 0, slots := 0, locals := 0 }
set_option maxHeartbeats 4000000 in
set_option maxRecDepth 100000 in
theorem c_X3_highOf (l : Launch) (D : va_G) (cI cJ cZ cO : ClassId) (sz : Nat) (q : Int) (h1 : 0 ≤ q ∧ q < 8) : Met l yX3_highOf wsX3_highOf rmX3_highOf (zPc D cI cJ cZ cO [] sz [.int (zI (q))]) (zQi D (fun (r : Int32) (_ : Unit) => r = zI (hi q)) (fun (_ : Unit) => []) [] sz) 0 0 (va_A [] sz) := by
  refine z_meti (by decide) rfl (Nat.le_of_ble_eq_true rfl) ?_
  intro p e s m args below meth c A Q ls hx hb hml hown hts hA hS hP hD hK hZ hl hret
  have hl : lv_has ls 1 [(0, .int (zI (q)))] := hl
  refine lv_iload_n hx hb dX3_highOf_0 rfl (lv_at hl 0 rfl) ?_
  rcases (show q = 0 ∨ q = 1 ∨ q = 2 ∨ q = 3 ∨ q = 4 ∨ q = 5 ∨ q = 6 ∨ (q < 0 ∨ 6 < q) by omega) with c_1 | c_1 | c_1 | c_1 | c_1 | c_1 | c_1 | c_1
  · refine z_tswIn (v := 0) (tgt := 44) hx hb c_1 (by decide) dX3_highOf_1 (by decide) rfl (by decide) ?_
    refine lv_iconst (v := zI (0)) hx hb dX3_highOf_44 rfl ?_
    exact hret _ _ _ _ _ () dX3_highOf_45 (by first | (rw [c_1]; decide +kernel) | (rw [show q = 7 by omega]; decide +kernel)) hP hS
  · refine z_tswIn (v := 1) (tgt := 46) hx hb c_1 (by decide) dX3_highOf_1 (by decide) rfl (by decide) ?_
    refine lv_sipush (v := zI (1200)) hx hb dX3_highOf_46 (by decide +kernel) ?_
    exact hret _ _ _ _ _ () dX3_highOf_49 (by first | (rw [c_1]; decide +kernel) | (rw [show q = 7 by omega]; decide +kernel)) hP hS
  · refine z_tswIn (v := 2) (tgt := 50) hx hb c_1 (by decide) dX3_highOf_1 (by decide) rfl (by decide) ?_
    refine lv_sipush (v := zI (1902)) hx hb dX3_highOf_50 (by decide +kernel) ?_
    exact hret _ _ _ _ _ () dX3_highOf_53 (by first | (rw [c_1]; decide +kernel) | (rw [show q = 7 by omega]; decide +kernel)) hP hS
  · refine z_tswIn (v := 3) (tgt := 54) hx hb c_1 (by decide) dX3_highOf_1 (by decide) rfl (by decide) ?_
    refine lv_sipush (v := zI (2400)) hx hb dX3_highOf_54 (by decide +kernel) ?_
    exact hret _ _ _ _ _ () dX3_highOf_57 (by first | (rw [c_1]; decide +kernel) | (rw [show q = 7 by omega]; decide +kernel)) hP hS
  · refine z_tswIn (v := 4) (tgt := 58) hx hb c_1 (by decide) dX3_highOf_1 (by decide) rfl (by decide) ?_
    refine lv_sipush (v := zI (2786)) hx hb dX3_highOf_58 (by decide +kernel) ?_
    exact hret _ _ _ _ _ () dX3_highOf_61 (by first | (rw [c_1]; decide +kernel) | (rw [show q = 7 by omega]; decide +kernel)) hP hS
  · refine z_tswIn (v := 5) (tgt := 62) hx hb c_1 (by decide) dX3_highOf_1 (by decide) rfl (by decide) ?_
    refine lv_sipush (v := zI (3102)) hx hb dX3_highOf_62 (by decide +kernel) ?_
    exact hret _ _ _ _ _ () dX3_highOf_65 (by first | (rw [c_1]; decide +kernel) | (rw [show q = 7 by omega]; decide +kernel)) hP hS
  · refine z_tswIn (v := 6) (tgt := 66) hx hb c_1 (by decide) dX3_highOf_1 (by decide) rfl (by decide) ?_
    refine lv_sipush (v := zI (3369)) hx hb dX3_highOf_66 (by decide +kernel) ?_
    exact hret _ _ _ _ _ () dX3_highOf_69 (by first | (rw [c_1]; decide +kernel) | (rw [show q = 7 by omega]; decide +kernel)) hP hS
  · refine z_tswOut (tgt := 70) hx hb (by omega) dX3_highOf_1 (by omega) (by decide) ?_
    refine lv_sipush (v := zI (3600)) hx hb dX3_highOf_70 (by decide +kernel) ?_
    exact hret _ _ _ _ _ () dX3_highOf_73 (by first | (rw [c_1]; decide +kernel) | (rw [show q = 7 by omega]; decide +kernel)) hP hS
abbrev rmX3_offOf : Room := { frames := 2, cells := 0, slots := 0, locals := 43 }
set_option maxHeartbeats 4000000 in
set_option maxRecDepth 100000 in
theorem c_X3_offOf (l : Launch) (D : va_G) (cI cJ cZ cO : ClassId) (sz : Nat) (h0 : Nat) (a0 : Nat) (a1 : Nat) (a2 : Nat) (a3 : Nat) (a4 : Nat) (a5 : Nat) (a6 : Nat) (σ : Int → Int) (w : Int) (n : Int) (h1 : 0 ≤ w ∧ w < 64) (hO : Ok σ) : Met l yX3_offOf wsX3_offOf rmX3_offOf (zPc D cI cJ cZ cO [(h0, .inr (3, [.ref a0, .ref a1, .ref a2, .ref a3, .ref a4, .ref a5, .ref a6])), (a0, .inl (cI, 22, .inl (zF (σ))))] sz [.ref h0, .int (zI (w)), .int (zI (n))]) (zQi D (fun (r : Int32) (_ : Unit) => r = zI (off σ w n)) (fun (_ : Unit) => [(h0, .inr (3, [.ref a0, .ref a1, .ref a2, .ref a3, .ref a4, .ref a5, .ref a6])), (a0, .inl (cI, 22, .inl (zF (σ))))]) [(h0, .inr (3, [.ref a0, .ref a1, .ref a2, .ref a3, .ref a4, .ref a5, .ref a6])), (a0, .inl (cI, 22, .inl (zF (σ))))] sz) 0 0 (va_A [(h0, .inr (3, [.ref a0, .ref a1, .ref a2, .ref a3, .ref a4, .ref a5, .ref a6])), (a0, .inl (cI, 22, .inl (zF (σ))))] sz) := by
  refine z_meti (by decide) rfl (Nat.le_of_ble_eq_true rfl) ?_
  intro p e s m args below meth c A Q ls hx hb hml hown hts hA hS hP hD hK hZ hl hret
  have hl : lv_has ls 3 [(0, .ref h0), (1, .int (zI (w))), (2, .int (zI (n)))] := hl
  refine lv_iload_n hx hb dX3_offOf_0 rfl (lv_at hl 1 rfl) ?_
  refine lv_bipush (v := zI (8)) hx hb dX3_offOf_1 (by decide +kernel) ?_
  refine z_idiv (a := w) (b := 8) hx hb (by omega) dX3_offOf_3 ?_
  refine z_Sir (As := [.int (zI (w / 8))]) (rest := []) hx hb hml hown hts hA hS hP hD hK hZ hl.1 (c_X3_highOf l D cI cJ cZ cO _ (w / 8) (by omega)) (va_cwS 1 hts gX3_offOf_X3_highOf rfl rfl rfl (by decide +kernel) ⟨Nat.le_of_ble_eq_true rfl, Nat.le_of_ble_eq_true rfl⟩) [] rfl rfl rfl rfl (Nat.le_of_ble_eq_true rfl) ⟨Nat.zero_le _, Nat.zero_le _⟩ dX3_offOf_4 (fun r u H locs hw hP hS => ?_)
  subst hw
  refine lv_aload_n hx hb dX3_offOf_7 rfl (lv_at hl 0 rfl) ?_
  refine lv_iload_n hx hb dX3_offOf_8 rfl (lv_at hl 1 rfl) ?_
  refine lv_bipush (v := zI (8)) hx hb dX3_offOf_9 (by decide +kernel) ?_
  refine z_irem (a := w) (b := 8) hx hb (by omega) dX3_offOf_11 ?_
  refine z_Vir (As := [.int (zI (w % 8))]) (rest := [.int (zI (hi (w / 8)))]) hx hb hml hown hts hA hS hP hD hK hZ hl.1 (c_X3_lowersBy l D cI cJ cZ cO _ (h0) (a0) (a1) (a2) (a3) (a4) (a5) (a6) (σ) (w % 8) (by omega) hO) (cwV 1 hts gX3_offOf_X3_lowersBy rfl rfl rfl (by decide +kernel) ⟨Nat.le_of_ble_eq_true rfl, Nat.le_of_ble_eq_true rfl⟩) [0, 1] rfl rfl 0 3 rfl rfl rfl rfl (Nat.le_of_ble_eq_true rfl) ⟨Nat.zero_le _, Nat.zero_le _⟩ dX3_offOf_12 (fun r u H locs hw hP hS => ?_)
  subst hw
  refine z_isub (a := hi (w / 8)) (b := low σ (w % 8)) hx hb dX3_offOf_15 ?_
  refine lv_bipush (v := zI (100)) hx hb dX3_offOf_16 (by decide +kernel) ?_
  refine lv_iload_n hx hb dX3_offOf_18 rfl (lv_at hl 2 rfl) ?_
  refine z_imul (a := 100) (b := n) hx hb dX3_offOf_19 ?_
  refine z_isub (a := (hi (w / 8)) - (low σ (w % 8))) (b := 100 * n) hx hb dX3_offOf_20 ?_
  exact hret _ _ _ _ _ () dX3_offOf_21 rfl hP hS
abbrev rmX3_sounds : Room := { frames := 3, cells := 0, slots := 0, locals := 65 }
theorem in_X3_sounds_X3 : ∀ w ∈ wsX30, w ∈ wsX3_sounds := fun _ h => List.mem_cons_of_mem _ (List.mem_append_right _ h)
theorem m_X3_sounds_0 : (.fieldLink RX3 7 "BrassWaysModel" "state" "[I" : Cond) ∈ wsX3_sounds := List.mem_of_getElem? (i := 1) rfl
set_option maxHeartbeats 4000000 in
set_option maxRecDepth 100000 in
theorem c_X3_sounds (l : Launch) (D : va_G) (cI cJ cZ cO : ClassId) (sz : Nat) (h0 : Nat) (a0 : Nat) (a1 : Nat) (a2 : Nat) (a3 : Nat) (a4 : Nat) (a5 : Nat) (a6 : Nat) (σ : Int → Int) (w : Int) (n : Int) (h1 : -2147483648 ≤ w ∧ w < 2147483648) (h2 : 0 ≤ n ∧ n ≤ 36) (hO : Ok σ) : Met l yX3_sounds wsX3_sounds rmX3_sounds (zPc D cI cJ cZ cO [(h0, .inr (3, [.ref a0, .ref a1, .ref a2, .ref a3, .ref a4, .ref a5, .ref a6])), (a0, .inl (cI, 22, .inl (zF (σ))))] sz [.ref h0, .int (zI (w)), .int (zI (n))]) (zQi D (fun (r : Int32) (_ : Unit) => r = zI (zB (sd σ w n = true))) (fun (_ : Unit) => [(h0, .inr (3, [.ref a0, .ref a1, .ref a2, .ref a3, .ref a4, .ref a5, .ref a6])), (a0, .inl (cI, 22, .inl (zF (σ))))]) [(h0, .inr (3, [.ref a0, .ref a1, .ref a2, .ref a3, .ref a4, .ref a5, .ref a6])), (a0, .inl (cI, 22, .inl (zF (σ))))] sz) 0 0 (va_A [(h0, .inr (3, [.ref a0, .ref a1, .ref a2, .ref a3, .ref a4, .ref a5, .ref a6])), (a0, .inl (cI, 22, .inl (zF (σ))))] sz) := by
  refine z_metz (by decide) rfl (Nat.le_of_ble_eq_true rfl) ?_
  intro p e s m args below meth c A Q ls hx hb hml hown hts hA hS hP hD hK hZ hl hret
  have hl : lv_has ls 3 [(0, .ref h0), (1, .int (zI (w))), (2, .int (zI (n)))] := hl
  have o5 := hO.2.2.2.2.2.1
  refine lv_aload_n hx hb dX3_sounds_0 rfl (lv_at hl 0 rfl) ?_
  refine lv_iload_n hx hb dX3_sounds_1 rfl (lv_at hl 1 rfl) ?_
  refine z_Vir (As := [.int (zI (w))]) (rest := []) hx hb hml hown hts hA hS hP hD hK hZ hl.1 (c_X3_isWay l D cI cJ cZ cO _ (h0) (a0) (a1) (a2) (a3) (a4) (a5) (a6) (σ) (w) (by omega) hO) (cwV 1 hts gX3_sounds_X3_isWay rfl rfl rfl (by decide +kernel) ⟨Nat.le_of_ble_eq_true rfl, Nat.le_of_ble_eq_true rfl⟩) [0, 1] rfl rfl 0 3 rfl rfl rfl rfl (Nat.le_of_ble_eq_true rfl) ⟨Nat.zero_le _, Nat.zero_le _⟩ dX3_sounds_2 (fun r u H locs hw hP hS => ?_)
  subst hw
  refine z_ifB_eq (P := okW σ w) (tgt := 30) hx hb dX3_sounds_5 (by decide) (fun c_5 => ?_) (fun c_5 => ?_)
  · refine lv_iconst (v := zI (0)) hx hb dX3_sounds_30 rfl ?_
    exact hret _ _ _ _ _ () dX3_sounds_31 rfl (by rw [zB_f (by simp only [sd, decide_eq_true_eq]; first | exact fun q => c_5 q.1 | (intro q; have := q.2; omega))]) hP hS
  · have hw6 := c_5.1
    have ho := off_in hO (w := w) (n := n) (by omega) h2
    have ha := aI_in (a := off σ w n) (b := 4800) (by omega)
    refine lv_aload_n hx hb dX3_sounds_8 rfl (lv_at hl 0 rfl) ?_
    refine lv_iload_n hx hb dX3_sounds_9 rfl (lv_at hl 1 rfl) ?_
    refine lv_iload_n hx hb dX3_sounds_10 rfl (lv_at hl 2 rfl) ?_
    refine z_Vir (As := [.int (zI (w)), .int (zI (n))]) (rest := []) hx hb hml hown hts hA hS hP hD hK hZ hl.1 (c_X3_offOf l D cI cJ cZ cO _ (h0) (a0) (a1) (a2) (a3) (a4) (a5) (a6) (σ) (w) (n) (by omega) hO) (cwV 2 hts gX3_sounds_X3_offOf rfl rfl rfl (by decide +kernel) ⟨Nat.le_of_ble_eq_true rfl, Nat.le_of_ble_eq_true rfl⟩) [0, 1] rfl rfl 0 3 rfl rfl rfl rfl (Nat.le_of_ble_eq_true rfl) ⟨Nat.zero_le _, Nat.zero_le _⟩ dX3_sounds_11 (fun r u H locs hw hP hS => ?_)
    subst hw
    refine z_Sir (As := [.int (zI (off σ w n))]) (rest := []) hx hb hml hown hts hA hS hP hD hK hZ hl.1 (c_X3_size l D cI cJ cZ cO _ (off σ w n) (by omega)) (va_cwS 1 hts gX3_sounds_X3_size rfl rfl rfl (by decide +kernel) ⟨Nat.le_of_ble_eq_true rfl, Nat.le_of_ble_eq_true rfl⟩) [] rfl rfl rfl rfl (Nat.le_of_ble_eq_true rfl) ⟨Nat.zero_le _, Nat.zero_le _⟩ dX3_sounds_14 (fun r u H locs hw hP hS => ?_)
    subst hw
    refine lv_aload_n hx hb dX3_sounds_17 rfl (lv_at hl 0 rfl) ?_
    refine va_get (D := D) (ci := 3) (v := .ref a0) (C := RX3) (T := TX3) (N := 7) hx hb hts in_X3_sounds_X3 hown hK hP 0 rfl rfl 0 (by decide) (hts _ m_X3_sounds_0) (fun _ h9 => h9) rfl dX3_sounds_18 ?_
    refine lv_iconst (v := zI (5)) hx hb dX3_sounds_21 rfl ?_
    refine z_iald (k := 5) (g := σ) hx hb hK hP 1 0 rfl rfl (by omega) dX3_sounds_22 ?_
    try dsimp only
    refine z_icmp_gt (a := aI (off σ w n)) (b := σ 5) (tgt := 30) hx hb (by omega) dX3_sounds_23 (by decide) (fun c_23 => ?_) (fun c_23 => ?_)
    · refine lv_iconst (v := zI (0)) hx hb dX3_sounds_30 rfl ?_
      exact hret _ _ _ _ _ () dX3_sounds_31 rfl (by rw [zB_f (by simp only [sd, decide_eq_true_eq]; first | exact fun q => c_5 q.1 | (intro q; have := q.2; omega))]) hP hS
    · refine lv_iconst (v := zI (1)) hx hb dX3_sounds_26 rfl ?_
      refine lv_goto (tgt := 31) hx hb dX3_sounds_27 (by decide) ?_
      exact hret _ _ _ _ _ () dX3_sounds_31 rfl (by rw [zB_t (by simp only [sd, decide_eq_true_eq]; exact ⟨c_5, c_23⟩)]) hP hS
abbrev rmX3_waysOf : Room := { frames := 4, cells := 0, slots := 0, locals := 87 }
set_option maxHeartbeats 4000000 in
set_option maxRecDepth 100000 in
theorem c_X3_waysOf (l : Launch) (D : va_G) (cI cJ cZ cO : ClassId) (sz : Nat) (h0 : Nat) (a0 : Nat) (a1 : Nat) (a2 : Nat) (a3 : Nat) (a4 : Nat) (a5 : Nat) (a6 : Nat) (σ : Int → Int) (n : Int) (h2 : 0 ≤ n ∧ n ≤ 36) (hO : Ok σ) : Met l yX3_waysOf wsX3_waysOf rmX3_waysOf (zPc D cI cJ cZ cO [(h0, .inr (3, [.ref a0, .ref a1, .ref a2, .ref a3, .ref a4, .ref a5, .ref a6])), (a0, .inl (cI, 22, .inl (zF (σ))))] sz [.ref h0, .int (zI (n))]) (zQi D (fun (r : Int32) (_ : Unit) => r = zI (cnt (fun w => sd σ w n) 64)) (fun (_ : Unit) => [(h0, .inr (3, [.ref a0, .ref a1, .ref a2, .ref a3, .ref a4, .ref a5, .ref a6])), (a0, .inl (cI, 22, .inl (zF (σ))))]) [(h0, .inr (3, [.ref a0, .ref a1, .ref a2, .ref a3, .ref a4, .ref a5, .ref a6])), (a0, .inl (cI, 22, .inl (zF (σ))))] sz) 0 0 (va_A [(h0, .inr (3, [.ref a0, .ref a1, .ref a2, .ref a3, .ref a4, .ref a5, .ref a6])), (a0, .inl (cI, 22, .inl (zF (σ))))] sz) := by
  refine z_meti (by decide) rfl (Nat.le_of_ble_eq_true rfl) ?_
  intro p e s m args below meth c A Q ls hx hb hml hown hts hA hS hP hD hK hZ hl hret
  have hl : lv_has ls 4 [(0, .ref h0), (1, .int (zI (n)))] := hl
  refine lv_iconst (v := zI (0)) hx hb dX3_waysOf_0 rfl ?_
  refine lv_istore_n (lv' := [(2, .int (zI (0))), (0, .ref h0), (1, .int (zI (n)))]) hx hb dX3_waysOf_1 rfl hl (by decide) rfl (fun ls hl => ?_)
  refine lv_iconst (v := zI (0)) hx hb dX3_waysOf_2 rfl ?_
  refine lv_istore_n (lv' := [(3, .int (zI (0))), (2, .int (zI (0))), (0, .ref h0), (1, .int (zI (n)))]) hx hb dX3_waysOf_3 rfl hl (by decide) rfl (fun ls hl => ?_)
  have loop_a : ∀ (f_a : Nat) (k : Nat) (x : Int) (H : Heap) (locs : List Loc) (ls : Array Slot), (k ≤ 64) → (x = cnt (fun w => sd σ w n) k) → (64 - (k : Int) < (f_a : Int)) → va_P D vwCl [(h0, .inr (3, [.ref a0, .ref a1, .ref a2, .ref a3, .ref a4, .ref a5, .ref a6])), (a0, .inl (cI, 22, .inl (zF (σ))))] H → va_D A [(h0, .inr (3, [.ref a0, .ref a1, .ref a2, .ref a3, .ref a4, .ref a5, .ref a6])), (a0, .inl (cI, 22, .inl (zF (σ))))] → va_S A s.heap H locs → lv_has ls 4 [(0, .ref h0), (1, .int (zI (n))), (2, .int (zI (x))), (3, .int (zI ((k : Int))))] → W p l e rmX3_waysOf s m args below meth c H locs 0 0 Q (F0 m 4 ls []) := by
    intro f_a
    induction f_a with
    | zero =>
      intros
      exfalso; omega
    | succ f_a ih_a =>
      intro k x H locs ls e_k e_x hfu_a hP hD hS hl
      refine lv_iload_n hx hb dX3_waysOf_4 rfl (lv_at hl 3 rfl) ?_
      refine lv_bipush (v := zI (64)) hx hb dX3_waysOf_5 (by decide +kernel) ?_
      refine z_icmp_ge (a := (k : Int)) (b := 64) (tgt := 33) hx hb (by omega) dX3_waysOf_7 (by decide) (fun c_7 => ?_) (fun c_7 => ?_)
      · refine lv_iload_n hx hb dX3_waysOf_33 rfl (lv_at hl 2 rfl) ?_
        exact hret _ _ _ _ _ () dX3_waysOf_34 (by rw [e_x, show k = 64 by omega]) hP hS
      · refine lv_iload_n hx hb dX3_waysOf_10 rfl (lv_at hl 2 rfl) ?_
        refine lv_aload_n hx hb dX3_waysOf_11 rfl (lv_at hl 0 rfl) ?_
        refine lv_iload_n hx hb dX3_waysOf_12 rfl (lv_at hl 3 rfl) ?_
        refine lv_iload_n hx hb dX3_waysOf_13 rfl (lv_at hl 1 rfl) ?_
        refine z_Vir (As := [.int (zI ((k : Int))), .int (zI (n))]) (rest := [.int (zI (x))]) hx hb hml hown hts hA hS hP hD hK hZ hl.1 (c_X3_sounds l D cI cJ cZ cO _ (h0) (a0) (a1) (a2) (a3) (a4) (a5) (a6) (σ) ((k : Int)) (n) (by omega) (by omega) hO) (cwV 2 hts gX3_waysOf_X3_sounds rfl rfl rfl (by decide +kernel) ⟨Nat.le_of_ble_eq_true rfl, Nat.le_of_ble_eq_true rfl⟩) [0, 1] rfl rfl 0 3 rfl rfl rfl rfl (Nat.le_of_ble_eq_true rfl) ⟨Nat.zero_le _, Nat.zero_le _⟩ dX3_waysOf_14 (fun r u H locs hw hP hS => ?_)
        subst hw
        refine z_ifB_eq (P := sd σ (k : Int) n = true) (tgt := 24) hx hb dX3_waysOf_17 (by decide) (fun c_17 => ?_) (fun c_17 => ?_)
        · refine lv_iconst (v := zI (0)) hx hb dX3_waysOf_24 rfl ?_
          refine z_iadd (a := x) (b := 0) hx hb dX3_waysOf_25 ?_
          refine lv_istore_n (lv' := [(2, .int (zI (x + 0))), (0, .ref h0), (1, .int (zI (n))), (3, .int (zI ((k : Int))))]) hx hb dX3_waysOf_26 rfl hl (by decide) rfl (fun ls hl => ?_)
          refine lv_iinc (v := zI ((k : Int) + 1)) (lv' := [(3, .int (zI ((k : Int) + 1))), (2, .int (zI (x + 0))), (0, .ref h0), (1, .int (zI (n)))]) hx hb dX3_waysOf_27 hl (k := 3) rfl (zI_add _ _) (by decide) rfl (fun ls hl => ?_)
          refine lv_goto (tgt := 4) hx hb dX3_waysOf_30 (by decide) ?_
          exact ih_a (k + 1) (x + 0) _ _ _ (by omega) (by first | (rw [cnt_y (q := fun w => sd σ w n) c_17]; omega) | (rw [cnt_n (q := fun w => sd σ w n) c_17]; omega)) (by omega) hP hD hS (lv_sub hl [2, 3, 1, 0] rfl)
        · refine lv_iconst (v := zI (1)) hx hb dX3_waysOf_20 rfl ?_
          refine lv_goto (tgt := 25) hx hb dX3_waysOf_21 (by decide) ?_
          refine z_iadd (a := x) (b := 1) hx hb dX3_waysOf_25 ?_
          refine lv_istore_n (lv' := [(2, .int (zI (x + 1))), (0, .ref h0), (1, .int (zI (n))), (3, .int (zI ((k : Int))))]) hx hb dX3_waysOf_26 rfl hl (by decide) rfl (fun ls hl => ?_)
          refine lv_iinc (v := zI ((k : Int) + 1)) (lv' := [(3, .int (zI ((k : Int) + 1))), (2, .int (zI (x + 1))), (0, .ref h0), (1, .int (zI (n)))]) hx hb dX3_waysOf_27 hl (k := 3) rfl (zI_add _ _) (by decide) rfl (fun ls hl => ?_)
          refine lv_goto (tgt := 4) hx hb dX3_waysOf_30 (by decide) ?_
          exact ih_a (k + 1) (x + 1) _ _ _ (by omega) (by first | (rw [cnt_y (q := fun w => sd σ w n) c_17]; omega) | (rw [cnt_n (q := fun w => sd σ w n) c_17]; omega)) (by omega) hP hD hS (lv_sub hl [2, 3, 1, 0] rfl)
  exact loop_a 70 (0) (0) _ _ _ (by omega) (rfl) (by omega) hP hD hS (lv_sub hl [2, 3, 1, 0] rfl)
