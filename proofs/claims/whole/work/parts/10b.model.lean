abbrev rmX3_horn : Room := { frames := 1, cells := 0, slots := 0, locals := 22 }
theorem in_X3_horn_X3 : ∀ w ∈ wsX30, w ∈ wsX3_horn := fun _ h => List.mem_cons_of_mem _ (List.mem_append_right _ h)
theorem m_X3_horn_0 : (.fieldLink RX3 7 "BrassWaysModel" "state" "[I" : Cond) ∈ wsX3_horn := List.mem_of_getElem? (i := 1) rfl
set_option maxHeartbeats 4000000 in
set_option maxRecDepth 100000 in
theorem c_X3_horn (l : Launch) (D : va_G) (cI cJ cZ cO : ClassId) (sz : Nat) (h0 : Nat) (a0 : Nat) (a1 : Nat) (a2 : Nat) (a3 : Nat) (a4 : Nat) (a5 : Nat) (a6 : Nat) (σ : Int → Int) (v : Int) (h_v : -2147483648 ≤ v ∧ v < 2147483648) : Met l yX3_horn wsX3_horn rmX3_horn (zPc D cI cJ cZ cO [(h0, .inr (3, [.ref a0, .ref a1, .ref a2, .ref a3, .ref a4, .ref a5, .ref a6])), (a0, .inl (cI, 22, .inl (zF (σ))))] sz [.ref h0, .int (zI (v))]) (zQi D (fun (r : Int32) (_ : Unit) => r = zI (A_horn σ v)) (fun (_ : Unit) => [(h0, .inr (3, [.ref a0, .ref a1, .ref a2, .ref a3, .ref a4, .ref a5, .ref a6])), (a0, .inl (cI, 22, .inl (zF (S_horn σ v))))]) [(h0, .inr (3, [.ref a0, .ref a1, .ref a2, .ref a3, .ref a4, .ref a5, .ref a6])), (a0, .inl (cI, 22, .inl (zF (σ))))] sz) 0 0 (va_A [(h0, .inr (3, [.ref a0, .ref a1, .ref a2, .ref a3, .ref a4, .ref a5, .ref a6])), (a0, .inl (cI, 22, .inl (zF (σ))))] sz) := by
  refine z_meti (by decide) rfl (Nat.le_of_ble_eq_true rfl) ?_
  intro p e s m args below meth c A Q ls hx hb hml hown hts hA hS hP hD hK hZ hl hret
  have hl : lv_has ls 3 [(0, .ref h0), (1, .int (zI (v)))] := hl
  refine lv_iload_n hx hb dX3_horn_0 rfl (lv_at hl 1 rfl) ?_
  refine lv_iconst (v := zI (0)) hx hb dX3_horn_1 rfl ?_
  refine lv_iconst (v := zI (1)) hx hb dX3_horn_2 rfl ?_
  refine z_Sir (As := [.int (zI (v)), .int (zI (0)), .int (zI (1))]) (rest := []) hx hb hml hown hts hA hS hP hD hK hZ hl.1 (c_X3_in l D cI cJ cZ cO _ (v) (0) (1) (by omega)) (va_cwS 3 hts gX3_horn_X3_in rfl rfl rfl (by decide +kernel) ⟨Nat.le_of_ble_eq_true rfl, Nat.le_of_ble_eq_true rfl⟩) [] rfl rfl rfl rfl (Nat.le_of_ble_eq_true rfl) ⟨Nat.zero_le _, Nat.zero_le _⟩ dX3_horn_3 (fun r u H locs hw hP hS => ?_)
  subst hw
  refine z_ifB_ne (P := 0 ≤ v ∧ v ≤ 1) (tgt := 12) hx hb dX3_horn_6 (by decide) (fun c_6 => ?_) (fun c_6 => ?_)
  · refine lv_aload_n hx hb dX3_horn_12 rfl (lv_at hl 0 rfl) ?_
    refine va_get (D := D) (ci := 3) (v := .ref a0) (C := RX3) (T := TX3) (N := 7) hx hb hts in_X3_horn_X3 hown hK hP 0 rfl rfl 0 (by decide) (hts _ m_X3_horn_0) (fun _ h9 => h9) rfl dX3_horn_13 ?_
    refine lv_iconst (v := zI (0)) hx hb dX3_horn_16 rfl ?_
    refine z_iald (k := 0) (g := σ) hx hb hK hP 1 0 rfl rfl (by omega) dX3_horn_17 ?_
    try dsimp only
    refine lv_istore_n (lv' := [(2, .int (zI (σ 0))), (0, .ref h0), (1, .int (zI (v)))]) hx hb dX3_horn_18 rfl hl (by decide) rfl (fun ls hl => ?_)
    refine lv_aload_n hx hb dX3_horn_19 rfl (lv_at hl 1 rfl) ?_
    refine va_get (D := D) (ci := 3) (v := .ref a0) (C := RX3) (T := TX3) (N := 7) hx hb hts in_X3_horn_X3 hown hK hP 0 rfl rfl 0 (by decide) (hts _ m_X3_horn_0) (fun _ h9 => h9) rfl dX3_horn_20 ?_
    refine lv_iconst (v := zI (0)) hx hb dX3_horn_23 rfl ?_
    refine lv_iload_n hx hb dX3_horn_24 rfl (lv_at hl 2 rfl) ?_
    refine z_iast (k := 0) (x := v) (g := σ) hx hb hK hP hD hS 1 0 rfl rfl (by omega) dX3_horn_25 (fun H locs hP hD hS => ?_)
    have hP : va_P D vwCl [(h0, .inr (3, [.ref a0, .ref a1, .ref a2, .ref a3, .ref a4, .ref a5, .ref a6])), (a0, .inl (cI, 22, .inl (zF (upI σ 0 v))))] H := hP
    have hD : va_D A [(h0, .inr (3, [.ref a0, .ref a1, .ref a2, .ref a3, .ref a4, .ref a5, .ref a6])), (a0, .inl (cI, 22, .inl (zF (upI σ 0 v))))] := hD
    refine lv_iload_n hx hb dX3_horn_26 rfl (lv_at hl 0 rfl) ?_
    exact hret _ _ _ _ _ () dX3_horn_27 (by unfold A_horn; first | rw [if_pos c_6]) (by simp only [S_horn]; first | (rw [if_pos c_6]; exact hP)) hS
  · refine lv_bipush (v := zI (-2)) hx hb dX3_horn_9 (by decide +kernel) ?_
    exact hret _ _ _ _ _ () dX3_horn_11 (by unfold A_horn; first | rw [if_neg c_6]) (by simp only [S_horn]; first | (rw [if_neg c_6]; exact hP)) hS
abbrev rmX3_valve : Room := { frames := 1, cells := 0, slots := 0, locals := 22 }
theorem in_X3_valve_X3 : ∀ w ∈ wsX30, w ∈ wsX3_valve := fun _ h => List.mem_cons_of_mem _ (List.mem_append_right _ h)
theorem m_X3_valve_0 : (.fieldLink RX3 7 "BrassWaysModel" "state" "[I" : Cond) ∈ wsX3_valve := List.mem_of_getElem? (i := 1) rfl
set_option maxHeartbeats 4000000 in
set_option maxRecDepth 100000 in
theorem c_X3_valve (l : Launch) (D : va_G) (cI cJ cZ cO : ClassId) (sz : Nat) (h0 : Nat) (a0 : Nat) (a1 : Nat) (a2 : Nat) (a3 : Nat) (a4 : Nat) (a5 : Nat) (a6 : Nat) (σ : Int → Int) (q : Int) (v : Int) (h_q : -2147483648 ≤ q ∧ q < 2147483648) (h_v : -2147483648 ≤ v ∧ v < 2147483648) : Met l yX3_valve wsX3_valve rmX3_valve (zPc D cI cJ cZ cO [(h0, .inr (3, [.ref a0, .ref a1, .ref a2, .ref a3, .ref a4, .ref a5, .ref a6])), (a0, .inl (cI, 22, .inl (zF (σ))))] sz [.ref h0, .int (zI (q)), .int (zI (v))]) (zQi D (fun (r : Int32) (_ : Unit) => r = zI (A_valve σ q v)) (fun (_ : Unit) => [(h0, .inr (3, [.ref a0, .ref a1, .ref a2, .ref a3, .ref a4, .ref a5, .ref a6])), (a0, .inl (cI, 22, .inl (zF (S_valve σ q v))))]) [(h0, .inr (3, [.ref a0, .ref a1, .ref a2, .ref a3, .ref a4, .ref a5, .ref a6])), (a0, .inl (cI, 22, .inl (zF (σ))))] sz) 0 0 (va_A [(h0, .inr (3, [.ref a0, .ref a1, .ref a2, .ref a3, .ref a4, .ref a5, .ref a6])), (a0, .inl (cI, 22, .inl (zF (σ))))] sz) := by
  refine z_meti (by decide) rfl (Nat.le_of_ble_eq_true rfl) ?_
  intro p e s m args below meth c A Q ls hx hb hml hown hts hA hS hP hD hK hZ hl hret
  have hl : lv_has ls 4 [(0, .ref h0), (1, .int (zI (q))), (2, .int (zI (v)))] := hl
  refine lv_iload_n hx hb dX3_valve_0 rfl (lv_at hl 1 rfl) ?_
  refine lv_iconst (v := zI (0)) hx hb dX3_valve_1 rfl ?_
  refine lv_iconst (v := zI (2)) hx hb dX3_valve_2 rfl ?_
  refine z_Sir (As := [.int (zI (q)), .int (zI (0)), .int (zI (2))]) (rest := []) hx hb hml hown hts hA hS hP hD hK hZ hl.1 (c_X3_in l D cI cJ cZ cO _ (q) (0) (2) (by omega)) (va_cwS 3 hts gX3_valve_X3_in rfl rfl rfl (by decide +kernel) ⟨Nat.le_of_ble_eq_true rfl, Nat.le_of_ble_eq_true rfl⟩) [] rfl rfl rfl rfl (Nat.le_of_ble_eq_true rfl) ⟨Nat.zero_le _, Nat.zero_le _⟩ dX3_valve_3 (fun r u H locs hw hP hS => ?_)
  subst hw
  refine z_ifB_ne (P := 0 ≤ q ∧ q ≤ 2) (tgt := 11) hx hb dX3_valve_6 (by decide) (fun c_6 => ?_) (fun c_6 => ?_)
  · refine lv_iload_n hx hb dX3_valve_11 rfl (lv_at hl 2 rfl) ?_
    refine lv_iconst (v := zI (0)) hx hb dX3_valve_12 rfl ?_
    refine lv_sipush (v := zI (400)) hx hb dX3_valve_13 (by decide +kernel) ?_
    refine z_Sir (As := [.int (zI (v)), .int (zI (0)), .int (zI (400))]) (rest := []) hx hb hml hown hts hA hS hP hD hK hZ hl.1 (c_X3_in l D cI cJ cZ cO _ (v) (0) (400) (by omega)) (va_cwS 3 hts gX3_valve_X3_in rfl rfl rfl (by decide +kernel) ⟨Nat.le_of_ble_eq_true rfl, Nat.le_of_ble_eq_true rfl⟩) [] rfl rfl rfl rfl (Nat.le_of_ble_eq_true rfl) ⟨Nat.zero_le _, Nat.zero_le _⟩ dX3_valve_16 (fun r u H locs hw hP hS => ?_)
    subst hw
    refine z_ifB_ne (P := 0 ≤ v ∧ v ≤ 400) (tgt := 25) hx hb dX3_valve_19 (by decide) (fun c_19 => ?_) (fun c_19 => ?_)
    · refine lv_aload_n hx hb dX3_valve_25 rfl (lv_at hl 0 rfl) ?_
      refine va_get (D := D) (ci := 3) (v := .ref a0) (C := RX3) (T := TX3) (N := 7) hx hb hts in_X3_valve_X3 hown hK hP 0 rfl rfl 0 (by decide) (hts _ m_X3_valve_0) (fun _ h9 => h9) rfl dX3_valve_26 ?_
      refine lv_iconst (v := zI (1)) hx hb dX3_valve_29 rfl ?_
      refine lv_iload_n hx hb dX3_valve_30 rfl (lv_at hl 1 rfl) ?_
      refine z_iadd (a := 1) (b := q) hx hb dX3_valve_31 ?_
      refine z_iald (k := 1 + q) (g := σ) hx hb hK hP 1 0 rfl rfl (by omega) dX3_valve_32 ?_
      try dsimp only
      refine lv_istore_n (lv' := [(3, .int (zI (σ (1 + q)))), (0, .ref h0), (1, .int (zI (q))), (2, .int (zI (v)))]) hx hb dX3_valve_33 rfl hl (by decide) rfl (fun ls hl => ?_)
      refine lv_aload_n hx hb dX3_valve_34 rfl (lv_at hl 1 rfl) ?_
      refine va_get (D := D) (ci := 3) (v := .ref a0) (C := RX3) (T := TX3) (N := 7) hx hb hts in_X3_valve_X3 hown hK hP 0 rfl rfl 0 (by decide) (hts _ m_X3_valve_0) (fun _ h9 => h9) rfl dX3_valve_35 ?_
      refine lv_iconst (v := zI (1)) hx hb dX3_valve_38 rfl ?_
      refine lv_iload_n hx hb dX3_valve_39 rfl (lv_at hl 2 rfl) ?_
      refine z_iadd (a := 1) (b := q) hx hb dX3_valve_40 ?_
      refine lv_iload_n hx hb dX3_valve_41 rfl (lv_at hl 3 rfl) ?_
      refine z_iast (k := 1 + q) (x := v) (g := σ) hx hb hK hP hD hS 1 0 rfl rfl (by omega) dX3_valve_42 (fun H locs hP hD hS => ?_)
      have hP : va_P D vwCl [(h0, .inr (3, [.ref a0, .ref a1, .ref a2, .ref a3, .ref a4, .ref a5, .ref a6])), (a0, .inl (cI, 22, .inl (zF (upI σ (1 + q) v))))] H := hP
      have hD : va_D A [(h0, .inr (3, [.ref a0, .ref a1, .ref a2, .ref a3, .ref a4, .ref a5, .ref a6])), (a0, .inl (cI, 22, .inl (zF (upI σ (1 + q) v))))] := hD
      refine lv_iload_n hx hb dX3_valve_43 rfl (lv_at hl 0 rfl) ?_
      exact hret _ _ _ _ _ () dX3_valve_44 (by unfold A_valve; first | rw [if_pos c_6, if_pos c_19]) (by simp only [S_valve]; first | (rw [if_pos c_6, if_pos c_19]; exact hP)) hS
    · refine lv_bipush (v := zI (-2)) hx hb dX3_valve_22 (by decide +kernel) ?_
      exact hret _ _ _ _ _ () dX3_valve_24 (by unfold A_valve; first | rw [if_pos c_6, if_neg c_19]) (by simp only [S_valve]; first | (rw [if_pos c_6, if_neg c_19]; exact hP)) hS
  · refine lv_iconst (v := zI (-1)) hx hb dX3_valve_9 rfl ?_
    exact hret _ _ _ _ _ () dX3_valve_10 (by unfold A_valve; first | rw [if_neg c_6]) (by simp only [S_valve]; first | (rw [if_neg c_6]; exact hP)) hS
abbrev rmX3_rule : Room := { frames := 1, cells := 0, slots := 0, locals := 22 }
theorem in_X3_rule_X3 : ∀ w ∈ wsX30, w ∈ wsX3_rule := fun _ h => List.mem_cons_of_mem _ (List.mem_append_right _ h)
theorem m_X3_rule_0 : (.fieldLink RX3 7 "BrassWaysModel" "state" "[I" : Cond) ∈ wsX3_rule := List.mem_of_getElem? (i := 1) rfl
set_option maxHeartbeats 4000000 in
set_option maxRecDepth 100000 in
theorem c_X3_rule (l : Launch) (D : va_G) (cI cJ cZ cO : ClassId) (sz : Nat) (h0 : Nat) (a0 : Nat) (a1 : Nat) (a2 : Nat) (a3 : Nat) (a4 : Nat) (a5 : Nat) (a6 : Nat) (σ : Int → Int) (q : Int) (v : Int) (h_q : -2147483648 ≤ q ∧ q < 2147483648) (h_v : -2147483648 ≤ v ∧ v < 2147483648) : Met l yX3_rule wsX3_rule rmX3_rule (zPc D cI cJ cZ cO [(h0, .inr (3, [.ref a0, .ref a1, .ref a2, .ref a3, .ref a4, .ref a5, .ref a6])), (a0, .inl (cI, 22, .inl (zF (σ))))] sz [.ref h0, .int (zI (q)), .int (zI (v))]) (zQi D (fun (r : Int32) (_ : Unit) => r = zI (A_rule σ q v)) (fun (_ : Unit) => [(h0, .inr (3, [.ref a0, .ref a1, .ref a2, .ref a3, .ref a4, .ref a5, .ref a6])), (a0, .inl (cI, 22, .inl (zF (S_rule σ q v))))]) [(h0, .inr (3, [.ref a0, .ref a1, .ref a2, .ref a3, .ref a4, .ref a5, .ref a6])), (a0, .inl (cI, 22, .inl (zF (σ))))] sz) 0 0 (va_A [(h0, .inr (3, [.ref a0, .ref a1, .ref a2, .ref a3, .ref a4, .ref a5, .ref a6])), (a0, .inl (cI, 22, .inl (zF (σ))))] sz) := by
  refine z_meti (by decide) rfl (Nat.le_of_ble_eq_true rfl) ?_
  intro p e s m args below meth c A Q ls hx hb hml hown hts hA hS hP hD hK hZ hl hret
  have hl : lv_has ls 4 [(0, .ref h0), (1, .int (zI (q))), (2, .int (zI (v)))] := hl
  refine lv_iload_n hx hb dX3_rule_0 rfl (lv_at hl 1 rfl) ?_
  refine lv_iconst (v := zI (0)) hx hb dX3_rule_1 rfl ?_
  refine lv_iconst (v := zI (4)) hx hb dX3_rule_2 rfl ?_
  refine z_Sir (As := [.int (zI (q)), .int (zI (0)), .int (zI (4))]) (rest := []) hx hb hml hown hts hA hS hP hD hK hZ hl.1 (c_X3_in l D cI cJ cZ cO _ (q) (0) (4) (by omega)) (va_cwS 3 hts gX3_rule_X3_in rfl rfl rfl (by decide +kernel) ⟨Nat.le_of_ble_eq_true rfl, Nat.le_of_ble_eq_true rfl⟩) [] rfl rfl rfl rfl (Nat.le_of_ble_eq_true rfl) ⟨Nat.zero_le _, Nat.zero_le _⟩ dX3_rule_3 (fun r u H locs hw hP hS => ?_)
  subst hw
  refine z_ifB_eq (P := 0 ≤ q ∧ q ≤ 4) (tgt := 38) hx hb dX3_rule_6 (by decide) (fun c_6 => ?_) (fun c_6 => ?_)
  · refine lv_bipush (v := zI (-2)) hx hb dX3_rule_38 (by decide +kernel) ?_
    exact hret _ _ _ _ _ () dX3_rule_40 (by unfold A_rule; first | (rw [if_neg c_6]; done) | (rw [if_pos c_6, hT, if_neg c_35]; done)) (by simp only [S_rule]; first | (rw [if_neg c_6]; exact hP) | (rw [if_pos c_6, hT, if_neg c_35]; exact hP)) hS
  · refine lv_iload_n hx hb dX3_rule_9 rfl (lv_at hl 2 rfl) ?_
    refine lv_iconst (v := zI (0)) hx hb dX3_rule_10 rfl ?_
    refine lv_iload_n hx hb dX3_rule_11 rfl (lv_at hl 1 rfl) ?_
    refine z_if_ne (a := q) (tgt := 20) hx hb (by omega) dX3_rule_12 (by decide) (fun c_12 => ?_) (fun c_12 => ?_)
    · refine lv_iload_n hx hb dX3_rule_20 rfl (lv_at hl 1 rfl) ?_
      refine lv_iconst (v := zI (1)) hx hb dX3_rule_21 rfl ?_
      refine z_icmp_ne (a := q) (b := 1) (tgt := 30) hx hb (by omega) dX3_rule_22 (by decide) (fun c_22 => ?_) (fun c_22 => ?_)
      · have hT : tp q = 9 := by unfold tp; first | (rw [if_pos (by omega)]; done) | (rw [if_neg (by omega), if_pos (by omega)]; done) | (rw [if_neg (by omega), if_neg (by omega)]; done)
        refine lv_bipush (v := zI (9)) hx hb dX3_rule_30 (by decide +kernel) ?_
        refine z_Sir (As := [.int (zI (v)), .int (zI (0)), .int (zI (9))]) (rest := []) hx hb hml hown hts hA hS hP hD hK hZ hl.1 (c_X3_in l D cI cJ cZ cO _ (v) (0) (9) (by omega)) (va_cwS 3 hts gX3_rule_X3_in rfl rfl rfl (by decide +kernel) ⟨Nat.le_of_ble_eq_true rfl, Nat.le_of_ble_eq_true rfl⟩) [] rfl rfl rfl rfl (Nat.le_of_ble_eq_true rfl) ⟨Nat.zero_le _, Nat.zero_le _⟩ dX3_rule_32 (fun r u H locs hw hP hS => ?_)
        subst hw
        refine z_ifB_ne (P := 0 ≤ v ∧ v ≤ 9) (tgt := 41) hx hb dX3_rule_35 (by decide) (fun c_35 => ?_) (fun c_35 => ?_)
        · refine lv_aload_n hx hb dX3_rule_41 rfl (lv_at hl 0 rfl) ?_
          refine va_get (D := D) (ci := 3) (v := .ref a0) (C := RX3) (T := TX3) (N := 7) hx hb hts in_X3_rule_X3 hown hK hP 0 rfl rfl 0 (by decide) (hts _ m_X3_rule_0) (fun _ h9 => h9) rfl dX3_rule_42 ?_
          refine lv_iconst (v := zI (4)) hx hb dX3_rule_45 rfl ?_
          refine lv_iload_n hx hb dX3_rule_46 rfl (lv_at hl 1 rfl) ?_
          refine z_iadd (a := 4) (b := q) hx hb dX3_rule_47 ?_
          refine z_iald (k := 4 + q) (g := σ) hx hb hK hP 1 0 rfl rfl (by omega) dX3_rule_48 ?_
          try dsimp only
          refine lv_istore_n (lv' := [(3, .int (zI (σ (4 + q)))), (0, .ref h0), (1, .int (zI (q))), (2, .int (zI (v)))]) hx hb dX3_rule_49 rfl hl (by decide) rfl (fun ls hl => ?_)
          refine lv_aload_n hx hb dX3_rule_50 rfl (lv_at hl 1 rfl) ?_
          refine va_get (D := D) (ci := 3) (v := .ref a0) (C := RX3) (T := TX3) (N := 7) hx hb hts in_X3_rule_X3 hown hK hP 0 rfl rfl 0 (by decide) (hts _ m_X3_rule_0) (fun _ h9 => h9) rfl dX3_rule_51 ?_
          refine lv_iconst (v := zI (4)) hx hb dX3_rule_54 rfl ?_
          refine lv_iload_n hx hb dX3_rule_55 rfl (lv_at hl 2 rfl) ?_
          refine z_iadd (a := 4) (b := q) hx hb dX3_rule_56 ?_
          refine lv_iload_n hx hb dX3_rule_57 rfl (lv_at hl 3 rfl) ?_
          refine z_iast (k := 4 + q) (x := v) (g := σ) hx hb hK hP hD hS 1 0 rfl rfl (by omega) dX3_rule_58 (fun H locs hP hD hS => ?_)
          have hP : va_P D vwCl [(h0, .inr (3, [.ref a0, .ref a1, .ref a2, .ref a3, .ref a4, .ref a5, .ref a6])), (a0, .inl (cI, 22, .inl (zF (upI σ (4 + q) v))))] H := hP
          have hD : va_D A [(h0, .inr (3, [.ref a0, .ref a1, .ref a2, .ref a3, .ref a4, .ref a5, .ref a6])), (a0, .inl (cI, 22, .inl (zF (upI σ (4 + q) v))))] := hD
          refine lv_iload_n hx hb dX3_rule_59 rfl (lv_at hl 0 rfl) ?_
          exact hret _ _ _ _ _ () dX3_rule_60 (by unfold A_rule; rw [if_pos c_6, hT, if_pos c_35]) (by simp only [S_rule]; rw [if_pos c_6, hT, if_pos c_35]; exact hP) hS
        · refine lv_bipush (v := zI (-2)) hx hb dX3_rule_38 (by decide +kernel) ?_
          exact hret _ _ _ _ _ () dX3_rule_40 (by unfold A_rule; first | (rw [if_neg c_6]; done) | (rw [if_pos c_6, hT, if_neg c_35]; done)) (by simp only [S_rule]; first | (rw [if_neg c_6]; exact hP) | (rw [if_pos c_6, hT, if_neg c_35]; exact hP)) hS
      · refine lv_bipush (v := zI (99)) hx hb dX3_rule_25 (by decide +kernel) ?_
        have hT : tp q = 99 := by unfold tp; first | (rw [if_pos (by omega)]; done) | (rw [if_neg (by omega), if_pos (by omega)]; done) | (rw [if_neg (by omega), if_neg (by omega)]; done)
        refine lv_goto (tgt := 32) hx hb dX3_rule_27 (by decide) ?_
        refine z_Sir (As := [.int (zI (v)), .int (zI (0)), .int (zI (99))]) (rest := []) hx hb hml hown hts hA hS hP hD hK hZ hl.1 (c_X3_in l D cI cJ cZ cO _ (v) (0) (99) (by omega)) (va_cwS 3 hts gX3_rule_X3_in rfl rfl rfl (by decide +kernel) ⟨Nat.le_of_ble_eq_true rfl, Nat.le_of_ble_eq_true rfl⟩) [] rfl rfl rfl rfl (Nat.le_of_ble_eq_true rfl) ⟨Nat.zero_le _, Nat.zero_le _⟩ dX3_rule_32 (fun r u H locs hw hP hS => ?_)
        subst hw
        refine z_ifB_ne (P := 0 ≤ v ∧ v ≤ 99) (tgt := 41) hx hb dX3_rule_35 (by decide) (fun c_35 => ?_) (fun c_35 => ?_)
        · refine lv_aload_n hx hb dX3_rule_41 rfl (lv_at hl 0 rfl) ?_
          refine va_get (D := D) (ci := 3) (v := .ref a0) (C := RX3) (T := TX3) (N := 7) hx hb hts in_X3_rule_X3 hown hK hP 0 rfl rfl 0 (by decide) (hts _ m_X3_rule_0) (fun _ h9 => h9) rfl dX3_rule_42 ?_
          refine lv_iconst (v := zI (4)) hx hb dX3_rule_45 rfl ?_
          refine lv_iload_n hx hb dX3_rule_46 rfl (lv_at hl 1 rfl) ?_
          refine z_iadd (a := 4) (b := q) hx hb dX3_rule_47 ?_
          refine z_iald (k := 4 + q) (g := σ) hx hb hK hP 1 0 rfl rfl (by omega) dX3_rule_48 ?_
          try dsimp only
          refine lv_istore_n (lv' := [(3, .int (zI (σ (4 + q)))), (0, .ref h0), (1, .int (zI (q))), (2, .int (zI (v)))]) hx hb dX3_rule_49 rfl hl (by decide) rfl (fun ls hl => ?_)
          refine lv_aload_n hx hb dX3_rule_50 rfl (lv_at hl 1 rfl) ?_
          refine va_get (D := D) (ci := 3) (v := .ref a0) (C := RX3) (T := TX3) (N := 7) hx hb hts in_X3_rule_X3 hown hK hP 0 rfl rfl 0 (by decide) (hts _ m_X3_rule_0) (fun _ h9 => h9) rfl dX3_rule_51 ?_
          refine lv_iconst (v := zI (4)) hx hb dX3_rule_54 rfl ?_
          refine lv_iload_n hx hb dX3_rule_55 rfl (lv_at hl 2 rfl) ?_
          refine z_iadd (a := 4) (b := q) hx hb dX3_rule_56 ?_
          refine lv_iload_n hx hb dX3_rule_57 rfl (lv_at hl 3 rfl) ?_
          refine z_iast (k := 4 + q) (x := v) (g := σ) hx hb hK hP hD hS 1 0 rfl rfl (by omega) dX3_rule_58 (fun H locs hP hD hS => ?_)
          have hP : va_P D vwCl [(h0, .inr (3, [.ref a0, .ref a1, .ref a2, .ref a3, .ref a4, .ref a5, .ref a6])), (a0, .inl (cI, 22, .inl (zF (upI σ (4 + q) v))))] H := hP
          have hD : va_D A [(h0, .inr (3, [.ref a0, .ref a1, .ref a2, .ref a3, .ref a4, .ref a5, .ref a6])), (a0, .inl (cI, 22, .inl (zF (upI σ (4 + q) v))))] := hD
          refine lv_iload_n hx hb dX3_rule_59 rfl (lv_at hl 0 rfl) ?_
          exact hret _ _ _ _ _ () dX3_rule_60 (by unfold A_rule; rw [if_pos c_6, hT, if_pos c_35]) (by simp only [S_rule]; rw [if_pos c_6, hT, if_pos c_35]; exact hP) hS
        · refine lv_bipush (v := zI (-2)) hx hb dX3_rule_38 (by decide +kernel) ?_
          exact hret _ _ _ _ _ () dX3_rule_40 (by unfold A_rule; first | (rw [if_neg c_6]; done) | (rw [if_pos c_6, hT, if_neg c_35]; done)) (by simp only [S_rule]; first | (rw [if_neg c_6]; exact hP) | (rw [if_pos c_6, hT, if_neg c_35]; exact hP)) hS
    · refine lv_bipush (v := zI (50)) hx hb dX3_rule_15 (by decide +kernel) ?_
      have hT : tp q = 50 := by unfold tp; first | (rw [if_pos (by omega)]; done) | (rw [if_neg (by omega), if_pos (by omega)]; done) | (rw [if_neg (by omega), if_neg (by omega)]; done)
      refine lv_goto (tgt := 32) hx hb dX3_rule_17 (by decide) ?_
      refine z_Sir (As := [.int (zI (v)), .int (zI (0)), .int (zI (50))]) (rest := []) hx hb hml hown hts hA hS hP hD hK hZ hl.1 (c_X3_in l D cI cJ cZ cO _ (v) (0) (50) (by omega)) (va_cwS 3 hts gX3_rule_X3_in rfl rfl rfl (by decide +kernel) ⟨Nat.le_of_ble_eq_true rfl, Nat.le_of_ble_eq_true rfl⟩) [] rfl rfl rfl rfl (Nat.le_of_ble_eq_true rfl) ⟨Nat.zero_le _, Nat.zero_le _⟩ dX3_rule_32 (fun r u H locs hw hP hS => ?_)
      subst hw
      refine z_ifB_ne (P := 0 ≤ v ∧ v ≤ 50) (tgt := 41) hx hb dX3_rule_35 (by decide) (fun c_35 => ?_) (fun c_35 => ?_)
      · refine lv_aload_n hx hb dX3_rule_41 rfl (lv_at hl 0 rfl) ?_
        refine va_get (D := D) (ci := 3) (v := .ref a0) (C := RX3) (T := TX3) (N := 7) hx hb hts in_X3_rule_X3 hown hK hP 0 rfl rfl 0 (by decide) (hts _ m_X3_rule_0) (fun _ h9 => h9) rfl dX3_rule_42 ?_
        refine lv_iconst (v := zI (4)) hx hb dX3_rule_45 rfl ?_
        refine lv_iload_n hx hb dX3_rule_46 rfl (lv_at hl 1 rfl) ?_
        refine z_iadd (a := 4) (b := q) hx hb dX3_rule_47 ?_
        refine z_iald (k := 4 + q) (g := σ) hx hb hK hP 1 0 rfl rfl (by omega) dX3_rule_48 ?_
        try dsimp only
        refine lv_istore_n (lv' := [(3, .int (zI (σ (4 + q)))), (0, .ref h0), (1, .int (zI (q))), (2, .int (zI (v)))]) hx hb dX3_rule_49 rfl hl (by decide) rfl (fun ls hl => ?_)
        refine lv_aload_n hx hb dX3_rule_50 rfl (lv_at hl 1 rfl) ?_
        refine va_get (D := D) (ci := 3) (v := .ref a0) (C := RX3) (T := TX3) (N := 7) hx hb hts in_X3_rule_X3 hown hK hP 0 rfl rfl 0 (by decide) (hts _ m_X3_rule_0) (fun _ h9 => h9) rfl dX3_rule_51 ?_
        refine lv_iconst (v := zI (4)) hx hb dX3_rule_54 rfl ?_
        refine lv_iload_n hx hb dX3_rule_55 rfl (lv_at hl 2 rfl) ?_
        refine z_iadd (a := 4) (b := q) hx hb dX3_rule_56 ?_
        refine lv_iload_n hx hb dX3_rule_57 rfl (lv_at hl 3 rfl) ?_
        refine z_iast (k := 4 + q) (x := v) (g := σ) hx hb hK hP hD hS 1 0 rfl rfl (by omega) dX3_rule_58 (fun H locs hP hD hS => ?_)
        have hP : va_P D vwCl [(h0, .inr (3, [.ref a0, .ref a1, .ref a2, .ref a3, .ref a4, .ref a5, .ref a6])), (a0, .inl (cI, 22, .inl (zF (upI σ (4 + q) v))))] H := hP
        have hD : va_D A [(h0, .inr (3, [.ref a0, .ref a1, .ref a2, .ref a3, .ref a4, .ref a5, .ref a6])), (a0, .inl (cI, 22, .inl (zF (upI σ (4 + q) v))))] := hD
        refine lv_iload_n hx hb dX3_rule_59 rfl (lv_at hl 0 rfl) ?_
        exact hret _ _ _ _ _ () dX3_rule_60 (by unfold A_rule; rw [if_pos c_6, hT, if_pos c_35]) (by simp only [S_rule]; rw [if_pos c_6, hT, if_pos c_35]; exact hP) hS
      · refine lv_bipush (v := zI (-2)) hx hb dX3_rule_38 (by decide +kernel) ?_
        exact hret _ _ _ _ _ () dX3_rule_40 (by unfold A_rule; first | (rw [if_neg c_6]; done) | (rw [if_pos c_6, hT, if_neg c_35]; done)) (by simp only [S_rule]; first | (rw [if_neg c_6]; exact hP) | (rw [if_pos c_6, hT, if_neg c_35]; exact hP)) hS
abbrev rmX3_lowers : Room := { frames := 2, cells := 0, slots := 0, locals := 43 }
set_option maxHeartbeats 4000000 in
set_option maxRecDepth 100000 in
theorem c_X3_lowers (l : Launch) (D : va_G) (cI cJ cZ cO : ClassId) (sz : Nat) (h0 : Nat) (a0 : Nat) (a1 : Nat) (a2 : Nat) (a3 : Nat) (a4 : Nat) (a5 : Nat) (a6 : Nat) (σ : Int → Int) (t : Int) (h_t : -2147483648 ≤ t ∧ t < 2147483648) (hO : Ok σ) : Met l yX3_lowers wsX3_lowers rmX3_lowers (zPc D cI cJ cZ cO [(h0, .inr (3, [.ref a0, .ref a1, .ref a2, .ref a3, .ref a4, .ref a5, .ref a6])), (a0, .inl (cI, 22, .inl (zF (σ))))] sz [.ref h0, .int (zI (t))]) (zQi D (fun (r : Int32) (_ : Unit) => r = zI (A_lowers σ t)) (fun (_ : Unit) => [(h0, .inr (3, [.ref a0, .ref a1, .ref a2, .ref a3, .ref a4, .ref a5, .ref a6])), (a0, .inl (cI, 22, .inl (zF (σ))))]) [(h0, .inr (3, [.ref a0, .ref a1, .ref a2, .ref a3, .ref a4, .ref a5, .ref a6])), (a0, .inl (cI, 22, .inl (zF (σ))))] sz) 0 0 (va_A [(h0, .inr (3, [.ref a0, .ref a1, .ref a2, .ref a3, .ref a4, .ref a5, .ref a6])), (a0, .inl (cI, 22, .inl (zF (σ))))] sz) := by
  refine z_meti (by decide) rfl (Nat.le_of_ble_eq_true rfl) ?_
  intro p e s m args below meth c A Q ls hx hb hml hown hts hA hS hP hD hK hZ hl hret
  have hl : lv_has ls 2 [(0, .ref h0), (1, .int (zI (t)))] := hl
  refine lv_aload_n hx hb dX3_lowers_0 rfl (lv_at hl 0 rfl) ?_
  refine lv_iload_n hx hb dX3_lowers_1 rfl (lv_at hl 1 rfl) ?_
  refine z_Vir (As := [.int (zI (t))]) (rest := []) hx hb hml hown hts hA hS hP hD hK hZ hl.1 (c_X3_isSetting l D cI cJ cZ cO _ (h0) (a0) (a1) (a2) (a3) (a4) (a5) (a6) (σ) (t) (by omega) hO) (cwV 1 hts gX3_lowers_X3_isSetting rfl rfl rfl (by decide +kernel) ⟨Nat.le_of_ble_eq_true rfl, Nat.le_of_ble_eq_true rfl⟩) [0, 1] rfl rfl 0 3 rfl rfl rfl rfl (Nat.le_of_ble_eq_true rfl) ⟨Nat.zero_le _, Nat.zero_le _⟩ dX3_lowers_2 (fun r u H locs hw hP hS => ?_)
  subst hw
  refine z_ifB_eq (P := okS σ t) (tgt := 20) hx hb dX3_lowers_5 (by decide) (fun c_5 => ?_) (fun c_5 => ?_)
  · refine lv_bipush (v := zI (-2)) hx hb dX3_lowers_20 (by decide +kernel) ?_
    exact hret _ _ _ _ _ () dX3_lowers_22 (by unfold A_lowers; first | rw [if_neg c_5] | rw [if_pos c_5]) hP hS
  · have ht8 : 0 ≤ t ∧ t < 8 := by have q := c_5; unfold okS at q; split at q <;> omega
    refine lv_aload_n hx hb dX3_lowers_8 rfl (lv_at hl 0 rfl) ?_
    refine lv_iload_n hx hb dX3_lowers_9 rfl (lv_at hl 1 rfl) ?_
    refine z_Vir (As := [.int (zI (t))]) (rest := []) hx hb hml hown hts hA hS hP hD hK hZ hl.1 (c_X3_lowersBy l D cI cJ cZ cO _ (h0) (a0) (a1) (a2) (a3) (a4) (a5) (a6) (σ) (t) (by omega) hO) (cwV 1 hts gX3_lowers_X3_lowersBy rfl rfl rfl (by decide +kernel) ⟨Nat.le_of_ble_eq_true rfl, Nat.le_of_ble_eq_true rfl⟩) [0, 1] rfl rfl 0 3 rfl rfl rfl rfl (Nat.le_of_ble_eq_true rfl) ⟨Nat.zero_le _, Nat.zero_le _⟩ dX3_lowers_10 (fun r u H locs hw hP hS => ?_)
    subst hw
    refine lv_sipush (v := zI (1000)) hx hb dX3_lowers_13 (by decide +kernel) ?_
    refine z_iadd (a := low σ t) (b := 1000) hx hb dX3_lowers_16 ?_
    refine lv_goto (tgt := 22) hx hb dX3_lowers_17 (by decide) ?_
    exact hret _ _ _ _ _ () dX3_lowers_22 (by unfold A_lowers; first | rw [if_neg c_5] | rw [if_pos c_5]) hP hS
abbrev rmX3_off : Room := { frames := 3, cells := 0, slots := 0, locals := 65 }
set_option maxHeartbeats 4000000 in
set_option maxRecDepth 100000 in
theorem c_X3_off (l : Launch) (D : va_G) (cI cJ cZ cO : ClassId) (sz : Nat) (h0 : Nat) (a0 : Nat) (a1 : Nat) (a2 : Nat) (a3 : Nat) (a4 : Nat) (a5 : Nat) (a6 : Nat) (σ : Int → Int) (w : Int) (n : Int) (h_w : -2147483648 ≤ w ∧ w < 2147483648) (h_n : -2147483648 ≤ n ∧ n < 2147483648) (hO : Ok σ) : Met l yX3_off wsX3_off rmX3_off (zPc D cI cJ cZ cO [(h0, .inr (3, [.ref a0, .ref a1, .ref a2, .ref a3, .ref a4, .ref a5, .ref a6])), (a0, .inl (cI, 22, .inl (zF (σ))))] sz [.ref h0, .int (zI (w)), .int (zI (n))]) (zQi D (fun (r : Int32) (_ : Unit) => r = zI (A_off σ w n)) (fun (_ : Unit) => [(h0, .inr (3, [.ref a0, .ref a1, .ref a2, .ref a3, .ref a4, .ref a5, .ref a6])), (a0, .inl (cI, 22, .inl (zF (σ))))]) [(h0, .inr (3, [.ref a0, .ref a1, .ref a2, .ref a3, .ref a4, .ref a5, .ref a6])), (a0, .inl (cI, 22, .inl (zF (σ))))] sz) 0 0 (va_A [(h0, .inr (3, [.ref a0, .ref a1, .ref a2, .ref a3, .ref a4, .ref a5, .ref a6])), (a0, .inl (cI, 22, .inl (zF (σ))))] sz) := by
  refine z_meti (by decide) rfl (Nat.le_of_ble_eq_true rfl) ?_
  intro p e s m args below meth c A Q ls hx hb hml hown hts hA hS hP hD hK hZ hl hret
  have hl : lv_has ls 3 [(0, .ref h0), (1, .int (zI (w))), (2, .int (zI (n)))] := hl
  refine lv_aload_n hx hb dX3_off_0 rfl (lv_at hl 0 rfl) ?_
  refine lv_iload_n hx hb dX3_off_1 rfl (lv_at hl 1 rfl) ?_
  refine z_Vir (As := [.int (zI (w))]) (rest := []) hx hb hml hown hts hA hS hP hD hK hZ hl.1 (c_X3_isWay l D cI cJ cZ cO _ (h0) (a0) (a1) (a2) (a3) (a4) (a5) (a6) (σ) (w) (by omega) hO) (cwV 1 hts gX3_off_X3_isWay rfl rfl rfl (by decide +kernel) ⟨Nat.le_of_ble_eq_true rfl, Nat.le_of_ble_eq_true rfl⟩) [0, 1] rfl rfl 0 3 rfl rfl rfl rfl (Nat.le_of_ble_eq_true rfl) ⟨Nat.zero_le _, Nat.zero_le _⟩ dX3_off_2 (fun r u H locs hw hP hS => ?_)
  subst hw
  refine z_ifB_eq (P := okW σ w) (tgt := 28) hx hb dX3_off_5 (by decide) (fun c_5 => ?_) (fun c_5 => ?_)
  · refine lv_bipush (v := zI (-2)) hx hb dX3_off_28 (by decide +kernel) ?_
    exact hret _ _ _ _ _ () dX3_off_30 (by unfold A_off; first | rw [if_neg c_5] | rw [if_pos c_5, if_neg c_12] | rw [if_pos c_5, if_pos c_12]) hP hS
  · have hw6 := c_5.1
    refine lv_iload_n hx hb dX3_off_8 rfl (lv_at hl 2 rfl) ?_
    refine z_Sir (As := [.int (zI (n))]) (rest := []) hx hb hml hown hts hA hS hP hD hK hZ hl.1 (c_X3_isNote l D cI cJ cZ cO _ (n) (by omega)) (va_cwS 1 hts gX3_off_X3_isNote rfl rfl rfl (by decide +kernel) ⟨Nat.le_of_ble_eq_true rfl, Nat.le_of_ble_eq_true rfl⟩) [] rfl rfl rfl rfl (Nat.le_of_ble_eq_true rfl) ⟨Nat.zero_le _, Nat.zero_le _⟩ dX3_off_9 (fun r u H locs hw hP hS => ?_)
    subst hw
    refine z_ifB_eq (P := 0 ≤ n ∧ n ≤ 36) (tgt := 28) hx hb dX3_off_12 (by decide) (fun c_12 => ?_) (fun c_12 => ?_)
    · refine lv_bipush (v := zI (-2)) hx hb dX3_off_28 (by decide +kernel) ?_
      exact hret _ _ _ _ _ () dX3_off_30 (by unfold A_off; first | rw [if_neg c_5] | rw [if_pos c_5, if_neg c_12] | rw [if_pos c_5, if_pos c_12]) hP hS
    · refine lv_aload_n hx hb dX3_off_15 rfl (lv_at hl 0 rfl) ?_
      refine lv_iload_n hx hb dX3_off_16 rfl (lv_at hl 1 rfl) ?_
      refine lv_iload_n hx hb dX3_off_17 rfl (lv_at hl 2 rfl) ?_
      refine z_Vir (As := [.int (zI (w)), .int (zI (n))]) (rest := []) hx hb hml hown hts hA hS hP hD hK hZ hl.1 (c_X3_offOf l D cI cJ cZ cO _ (h0) (a0) (a1) (a2) (a3) (a4) (a5) (a6) (σ) (w) (n) (by omega) hO) (cwV 2 hts gX3_off_X3_offOf rfl rfl rfl (by decide +kernel) ⟨Nat.le_of_ble_eq_true rfl, Nat.le_of_ble_eq_true rfl⟩) [0, 1] rfl rfl 0 3 rfl rfl rfl rfl (Nat.le_of_ble_eq_true rfl) ⟨Nat.zero_le _, Nat.zero_le _⟩ dX3_off_18 (fun r u H locs hw hP hS => ?_)
      subst hw
      refine lv_sipush (v := zI (10000)) hx hb dX3_off_21 (by decide +kernel) ?_
      refine z_iadd (a := off σ w n) (b := 10000) hx hb dX3_off_24 ?_
      refine lv_goto (tgt := 30) hx hb dX3_off_25 (by decide) ?_
      exact hret _ _ _ _ _ () dX3_off_30 (by unfold A_off; first | rw [if_neg c_5] | rw [if_pos c_5, if_neg c_12] | rw [if_pos c_5, if_pos c_12]) hP hS
abbrev rmX3_note : Room := { frames := 2, cells := 0, slots := 0, locals := 42 }
theorem in_X3_note_X3 : ∀ w ∈ wsX30, w ∈ wsX3_note := fun _ h => List.mem_cons_of_mem _ (List.mem_append_right _ h)
theorem m_X3_note_0 : (.fieldLink RX3 7 "BrassWaysModel" "state" "[I" : Cond) ∈ wsX3_note := List.mem_of_getElem? (i := 1) rfl
set_option maxHeartbeats 4000000 in
set_option maxRecDepth 100000 in
theorem c_X3_note (l : Launch) (D : va_G) (cI cJ cZ cO : ClassId) (sz : Nat) (h0 : Nat) (a0 : Nat) (a1 : Nat) (a2 : Nat) (a3 : Nat) (a4 : Nat) (a5 : Nat) (a6 : Nat) (σ : Int → Int) (n : Int) (h_n : -2147483648 ≤ n ∧ n < 2147483648) (hO : Ok σ) : Met l yX3_note wsX3_note rmX3_note (zPc D cI cJ cZ cO [(h0, .inr (3, [.ref a0, .ref a1, .ref a2, .ref a3, .ref a4, .ref a5, .ref a6])), (a0, .inl (cI, 22, .inl (zF (σ))))] sz [.ref h0, .int (zI (n))]) (zQi D (fun (r : Int32) (_ : Unit) => r = zI (A_note σ n)) (fun (_ : Unit) => [(h0, .inr (3, [.ref a0, .ref a1, .ref a2, .ref a3, .ref a4, .ref a5, .ref a6])), (a0, .inl (cI, 22, .inl (zF (S_note σ n))))]) [(h0, .inr (3, [.ref a0, .ref a1, .ref a2, .ref a3, .ref a4, .ref a5, .ref a6])), (a0, .inl (cI, 22, .inl (zF (σ))))] sz) 0 0 (va_A [(h0, .inr (3, [.ref a0, .ref a1, .ref a2, .ref a3, .ref a4, .ref a5, .ref a6])), (a0, .inl (cI, 22, .inl (zF (σ))))] sz) := by
  refine z_meti (by decide) rfl (Nat.le_of_ble_eq_true rfl) ?_
  intro p e s m args below meth c A Q ls hx hb hml hown hts hA hS hP hD hK hZ hl hret
  have hl : lv_has ls 2 [(0, .ref h0), (1, .int (zI (n)))] := hl
  have o9 := hO.2.2.2.2.2.2.2.2.2.1
  refine lv_iload_n hx hb dX3_note_0 rfl (lv_at hl 1 rfl) ?_
  refine z_Sir (As := [.int (zI (n))]) (rest := []) hx hb hml hown hts hA hS hP hD hK hZ hl.1 (c_X3_isNote l D cI cJ cZ cO _ (n) (by omega)) (va_cwS 1 hts gX3_note_X3_isNote rfl rfl rfl (by decide +kernel) ⟨Nat.le_of_ble_eq_true rfl, Nat.le_of_ble_eq_true rfl⟩) [] rfl rfl rfl rfl (Nat.le_of_ble_eq_true rfl) ⟨Nat.zero_le _, Nat.zero_le _⟩ dX3_note_1 (fun r u H locs hw hP hS => ?_)
  subst hw
  refine z_ifB_ne (P := 0 ≤ n ∧ n ≤ 36) (tgt := 10) hx hb dX3_note_4 (by decide) (fun c_4 => ?_) (fun c_4 => ?_)
  · refine lv_aload_n hx hb dX3_note_10 rfl (lv_at hl 0 rfl) ?_
    refine va_get (D := D) (ci := 3) (v := .ref a0) (C := RX3) (T := TX3) (N := 7) hx hb hts in_X3_note_X3 hown hK hP 0 rfl rfl 0 (by decide) (hts _ m_X3_note_0) (fun _ h9 => h9) rfl dX3_note_11 ?_
    refine lv_bipush (v := zI (9)) hx hb dX3_note_14 (by decide +kernel) ?_
    refine z_iald (k := 9) (g := σ) hx hb hK hP 1 0 rfl rfl (by omega) dX3_note_16 ?_
    try dsimp only
    refine lv_bipush (v := zI (12)) hx hb dX3_note_17 (by decide +kernel) ?_
    refine z_icmp_ne (a := σ 9) (b := 12) (tgt := 25) hx hb (by omega) dX3_note_19 (by decide) (fun c_19 => ?_) (fun c_19 => ?_)
    · refine lv_aload_n hx hb dX3_note_25 rfl (lv_at hl 0 rfl) ?_
      refine va_get (D := D) (ci := 3) (v := .ref a0) (C := RX3) (T := TX3) (N := 7) hx hb hts in_X3_note_X3 hown hK hP 0 rfl rfl 0 (by decide) (hts _ m_X3_note_0) (fun _ h9 => h9) rfl dX3_note_26 ?_
      refine lv_bipush (v := zI (10)) hx hb dX3_note_29 (by decide +kernel) ?_
      refine lv_aload_n hx hb dX3_note_31 rfl (lv_at hl 0 rfl) ?_
      refine va_get (D := D) (ci := 3) (v := .ref a0) (C := RX3) (T := TX3) (N := 7) hx hb hts in_X3_note_X3 hown hK hP 0 rfl rfl 0 (by decide) (hts _ m_X3_note_0) (fun _ h9 => h9) rfl dX3_note_32 ?_
      refine lv_bipush (v := zI (9)) hx hb dX3_note_35 (by decide +kernel) ?_
      refine z_iald (k := 9) (g := σ) hx hb hK hP 1 0 rfl rfl (by omega) dX3_note_37 ?_
      try dsimp only
      refine z_iadd (a := 10) (b := σ 9) hx hb dX3_note_38 ?_
      refine lv_iload_n hx hb dX3_note_39 rfl (lv_at hl 1 rfl) ?_
      refine z_iast (k := 10 + (σ 9)) (x := n) (g := σ) hx hb hK hP hD hS 1 0 rfl rfl (by omega) dX3_note_40 (fun H locs hP hD hS => ?_)
      have hP : va_P D vwCl [(h0, .inr (3, [.ref a0, .ref a1, .ref a2, .ref a3, .ref a4, .ref a5, .ref a6])), (a0, .inl (cI, 22, .inl (zF (upI σ (10 + (σ 9)) n))))] H := hP
      have hD : va_D A [(h0, .inr (3, [.ref a0, .ref a1, .ref a2, .ref a3, .ref a4, .ref a5, .ref a6])), (a0, .inl (cI, 22, .inl (zF (upI σ (10 + (σ 9)) n))))] := hD
      have e9 : upI σ (10 + σ 9) n 9 = σ 9 := upI_n (by omega)
      refine lv_aload_n hx hb dX3_note_41 rfl (lv_at hl 0 rfl) ?_
      refine va_get (D := D) (ci := 3) (v := .ref a0) (C := RX3) (T := TX3) (N := 7) hx hb hts in_X3_note_X3 hown hK hP 0 rfl rfl 0 (by decide) (hts _ m_X3_note_0) (fun _ h9 => h9) rfl dX3_note_42 ?_
      refine lv_bipush (v := zI (9)) hx hb dX3_note_45 (by decide +kernel) ?_
      refine lv_dup2_11 hx hb dX3_note_47 rfl rfl ?_
      refine z_iald (k := 9) (g := upI σ (10 + (σ 9)) n) hx hb hK hP 1 0 rfl rfl (by omega) dX3_note_48 ?_
      try dsimp only
      refine z_top (y := zI (σ 9)) (by rw [e9]) ?_
      refine lv_iconst (v := zI (1)) hx hb dX3_note_49 rfl ?_
      refine z_iadd (a := σ 9) (b := 1) hx hb dX3_note_50 ?_
      refine z_iast (k := 9) (x := (σ 9) + 1) (g := upI σ (10 + (σ 9)) n) hx hb hK hP hD hS 1 0 rfl rfl (by omega) dX3_note_51 (fun H locs hP hD hS => ?_)
      have hP : va_P D vwCl [(h0, .inr (3, [.ref a0, .ref a1, .ref a2, .ref a3, .ref a4, .ref a5, .ref a6])), (a0, .inl (cI, 22, .inl (zF (upI (upI σ (10 + (σ 9)) n) 9 ((σ 9) + 1)))))] H := hP
      have hD : va_D A [(h0, .inr (3, [.ref a0, .ref a1, .ref a2, .ref a3, .ref a4, .ref a5, .ref a6])), (a0, .inl (cI, 22, .inl (zF (upI (upI σ (10 + (σ 9)) n) 9 ((σ 9) + 1)))))] := hD
      refine lv_aload_n hx hb dX3_note_52 rfl (lv_at hl 0 rfl) ?_
      refine va_get (D := D) (ci := 3) (v := .ref a0) (C := RX3) (T := TX3) (N := 7) hx hb hts in_X3_note_X3 hown hK hP 0 rfl rfl 0 (by decide) (hts _ m_X3_note_0) (fun _ h9 => h9) rfl dX3_note_53 ?_
      refine lv_bipush (v := zI (9)) hx hb dX3_note_56 (by decide +kernel) ?_
      refine z_iald (k := 9) (g := upI (upI σ (10 + (σ 9)) n) 9 ((σ 9) + 1)) hx hb hK hP 1 0 rfl rfl (by omega) dX3_note_58 ?_
      try dsimp only
      refine z_top (y := zI (σ 9 + 1)) (by rw [upI_s]) ?_
      refine lv_iconst (v := zI (1)) hx hb dX3_note_59 rfl ?_
      refine z_isub (a := σ 9 + 1) (b := 1) hx hb dX3_note_60 ?_
      exact hret _ _ _ _ _ () dX3_note_61 (by unfold A_note; rw [if_pos c_4, if_neg c_19]; congr 1; omega) (by simp only [S_note]; first | (rw [if_pos c_4, if_neg c_19]; exact hP)) hS
    · refine lv_bipush (v := zI (-4)) hx hb dX3_note_22 (by decide +kernel) ?_
      exact hret _ _ _ _ _ () dX3_note_24 (by unfold A_note; first | rw [if_pos c_4, if_pos c_19]) (by simp only [S_note]; first | (rw [if_pos c_4, if_pos c_19]; exact hP)) hS
  · refine lv_bipush (v := zI (-2)) hx hb dX3_note_7 (by decide +kernel) ?_
    exact hret _ _ _ _ _ () dX3_note_9 (by unfold A_note; first | rw [if_neg c_4]) (by simp only [S_note]; first | (rw [if_neg c_4]; exact hP)) hS
abbrev rmX3_set : Room := { frames := 2, cells := 0, slots := 0, locals := 43 }
theorem in_X3_set_X3 : ∀ w ∈ wsX30, w ∈ wsX3_set := fun _ h => List.mem_cons_of_mem _ (List.mem_append_right _ h)
theorem m_X3_set_0 : (.fieldLink RX3 7 "BrassWaysModel" "state" "[I" : Cond) ∈ wsX3_set := List.mem_of_getElem? (i := 1) rfl
set_option maxHeartbeats 4000000 in
set_option maxRecDepth 100000 in
theorem c_X3_set (l : Launch) (D : va_G) (cI cJ cZ cO : ClassId) (sz : Nat) (h0 : Nat) (a0 : Nat) (a1 : Nat) (a2 : Nat) (a3 : Nat) (a4 : Nat) (a5 : Nat) (a6 : Nat) (σ : Int → Int) (q : Int) (n : Int) (h_q : -2147483648 ≤ q ∧ q < 2147483648) (h_n : -2147483648 ≤ n ∧ n < 2147483648) (hO : Ok σ) : Met l yX3_set wsX3_set rmX3_set (zPc D cI cJ cZ cO [(h0, .inr (3, [.ref a0, .ref a1, .ref a2, .ref a3, .ref a4, .ref a5, .ref a6])), (a0, .inl (cI, 22, .inl (zF (σ))))] sz [.ref h0, .int (zI (q)), .int (zI (n))]) (zQi D (fun (r : Int32) (_ : Unit) => r = zI (A_set σ q n)) (fun (_ : Unit) => [(h0, .inr (3, [.ref a0, .ref a1, .ref a2, .ref a3, .ref a4, .ref a5, .ref a6])), (a0, .inl (cI, 22, .inl (zF (S_set σ q n))))]) [(h0, .inr (3, [.ref a0, .ref a1, .ref a2, .ref a3, .ref a4, .ref a5, .ref a6])), (a0, .inl (cI, 22, .inl (zF (σ))))] sz) 0 0 (va_A [(h0, .inr (3, [.ref a0, .ref a1, .ref a2, .ref a3, .ref a4, .ref a5, .ref a6])), (a0, .inl (cI, 22, .inl (zF (σ))))] sz) := by
  refine z_meti (by decide) rfl (Nat.le_of_ble_eq_true rfl) ?_
  intro p e s m args below meth c A Q ls hx hb hml hown hts hA hS hP hD hK hZ hl hret
  have hl : lv_has ls 4 [(0, .ref h0), (1, .int (zI (q))), (2, .int (zI (n)))] := hl
  have o9 := hO.2.2.2.2.2.2.2.2.2.1
  refine lv_aload_n hx hb dX3_set_0 rfl (lv_at hl 0 rfl) ?_
  refine lv_iload_n hx hb dX3_set_1 rfl (lv_at hl 1 rfl) ?_
  refine z_Vir (As := [.int (zI (q))]) (rest := []) hx hb hml hown hts hA hS hP hD hK hZ hl.1 (c_X3_isPlace l D cI cJ cZ cO _ (h0) (a0) (a1) (a2) (a3) (a4) (a5) (a6) (σ) (q) (by omega) hO) (cwV 1 hts gX3_set_X3_isPlace rfl rfl rfl (by decide +kernel) ⟨Nat.le_of_ble_eq_true rfl, Nat.le_of_ble_eq_true rfl⟩) [0, 1] rfl rfl 0 3 rfl rfl rfl rfl (Nat.le_of_ble_eq_true rfl) ⟨Nat.zero_le _, Nat.zero_le _⟩ dX3_set_2 (fun r u H locs hw hP hS => ?_)
  subst hw
  refine z_ifB_ne (P := 0 ≤ q ∧ q ≤ σ 9 - 1) (tgt := 10) hx hb dX3_set_5 (by decide) (fun c_5 => ?_) (fun c_5 => ?_)
  · refine lv_iload_n hx hb dX3_set_10 rfl (lv_at hl 2 rfl) ?_
    refine z_Sir (As := [.int (zI (n))]) (rest := []) hx hb hml hown hts hA hS hP hD hK hZ hl.1 (c_X3_isNote l D cI cJ cZ cO _ (n) (by omega)) (va_cwS 1 hts gX3_set_X3_isNote rfl rfl rfl (by decide +kernel) ⟨Nat.le_of_ble_eq_true rfl, Nat.le_of_ble_eq_true rfl⟩) [] rfl rfl rfl rfl (Nat.le_of_ble_eq_true rfl) ⟨Nat.zero_le _, Nat.zero_le _⟩ dX3_set_11 (fun r u H locs hw hP hS => ?_)
    subst hw
    refine z_ifB_ne (P := 0 ≤ n ∧ n ≤ 36) (tgt := 20) hx hb dX3_set_14 (by decide) (fun c_14 => ?_) (fun c_14 => ?_)
    · refine lv_aload_n hx hb dX3_set_20 rfl (lv_at hl 0 rfl) ?_
      refine va_get (D := D) (ci := 3) (v := .ref a0) (C := RX3) (T := TX3) (N := 7) hx hb hts in_X3_set_X3 hown hK hP 0 rfl rfl 0 (by decide) (hts _ m_X3_set_0) (fun _ h9 => h9) rfl dX3_set_21 ?_
      refine lv_bipush (v := zI (10)) hx hb dX3_set_24 (by decide +kernel) ?_
      refine lv_iload_n hx hb dX3_set_26 rfl (lv_at hl 1 rfl) ?_
      refine z_iadd (a := 10) (b := q) hx hb dX3_set_27 ?_
      refine z_iald (k := 10 + q) (g := σ) hx hb hK hP 1 0 rfl rfl (by omega) dX3_set_28 ?_
      try dsimp only
      refine lv_istore_n (lv' := [(3, .int (zI (σ (10 + q)))), (0, .ref h0), (1, .int (zI (q))), (2, .int (zI (n)))]) hx hb dX3_set_29 rfl hl (by decide) rfl (fun ls hl => ?_)
      refine lv_aload_n hx hb dX3_set_30 rfl (lv_at hl 1 rfl) ?_
      refine va_get (D := D) (ci := 3) (v := .ref a0) (C := RX3) (T := TX3) (N := 7) hx hb hts in_X3_set_X3 hown hK hP 0 rfl rfl 0 (by decide) (hts _ m_X3_set_0) (fun _ h9 => h9) rfl dX3_set_31 ?_
      refine lv_bipush (v := zI (10)) hx hb dX3_set_34 (by decide +kernel) ?_
      refine lv_iload_n hx hb dX3_set_36 rfl (lv_at hl 2 rfl) ?_
      refine z_iadd (a := 10) (b := q) hx hb dX3_set_37 ?_
      refine lv_iload_n hx hb dX3_set_38 rfl (lv_at hl 3 rfl) ?_
      refine z_iast (k := 10 + q) (x := n) (g := σ) hx hb hK hP hD hS 1 0 rfl rfl (by omega) dX3_set_39 (fun H locs hP hD hS => ?_)
      have hP : va_P D vwCl [(h0, .inr (3, [.ref a0, .ref a1, .ref a2, .ref a3, .ref a4, .ref a5, .ref a6])), (a0, .inl (cI, 22, .inl (zF (upI σ (10 + q) n))))] H := hP
      have hD : va_D A [(h0, .inr (3, [.ref a0, .ref a1, .ref a2, .ref a3, .ref a4, .ref a5, .ref a6])), (a0, .inl (cI, 22, .inl (zF (upI σ (10 + q) n))))] := hD
      refine lv_iload_n hx hb dX3_set_40 rfl (lv_at hl 0 rfl) ?_
      exact hret _ _ _ _ _ () dX3_set_41 (by unfold A_set; first | rw [if_pos c_5, if_pos c_14]) (by simp only [S_set]; first | (rw [if_pos c_5, if_pos c_14]; exact hP)) hS
    · refine lv_bipush (v := zI (-2)) hx hb dX3_set_17 (by decide +kernel) ?_
      exact hret _ _ _ _ _ () dX3_set_19 (by unfold A_set; first | rw [if_pos c_5, if_neg c_14]) (by simp only [S_set]; first | (rw [if_pos c_5, if_neg c_14]; exact hP)) hS
  · refine lv_iconst (v := zI (-1)) hx hb dX3_set_8 rfl ?_
    exact hret _ _ _ _ _ () dX3_set_9 (by unfold A_set; first | rw [if_neg c_5]) (by simp only [S_set]; first | (rw [if_neg c_5]; exact hP)) hS
abbrev rmX3_clear : Room := { frames := 0, cells := 0, slots := 0, locals := 0 }
theorem in_X3_clear_X3 : ∀ w ∈ wsX30, w ∈ wsX3_clear := fun _ h => List.mem_cons_of_mem _ (List.mem_append_right _ h)
theorem m_X3_clear_0 : (.fieldLink RX3 7 "BrassWaysModel" "state" "[I" : Cond) ∈ wsX3_clear := List.mem_of_getElem? (i := 1) rfl
set_option maxHeartbeats 4000000 in
set_option maxRecDepth 100000 in
theorem c_X3_clear (l : Launch) (D : va_G) (cI cJ cZ cO : ClassId) (sz : Nat) (h0 : Nat) (a0 : Nat) (a1 : Nat) (a2 : Nat) (a3 : Nat) (a4 : Nat) (a5 : Nat) (a6 : Nat) (σ : Int → Int)  : Met l yX3_clear wsX3_clear rmX3_clear (zPc D cI cJ cZ cO [(h0, .inr (3, [.ref a0, .ref a1, .ref a2, .ref a3, .ref a4, .ref a5, .ref a6])), (a0, .inl (cI, 22, .inl (zF (σ))))] sz [.ref h0]) (zQi D (fun (r : Int32) (_ : Unit) => r = zI (σ 9)) (fun (_ : Unit) => [(h0, .inr (3, [.ref a0, .ref a1, .ref a2, .ref a3, .ref a4, .ref a5, .ref a6])), (a0, .inl (cI, 22, .inl (zF (upI σ 9 0))))]) [(h0, .inr (3, [.ref a0, .ref a1, .ref a2, .ref a3, .ref a4, .ref a5, .ref a6])), (a0, .inl (cI, 22, .inl (zF (σ))))] sz) 0 0 (va_A [(h0, .inr (3, [.ref a0, .ref a1, .ref a2, .ref a3, .ref a4, .ref a5, .ref a6])), (a0, .inl (cI, 22, .inl (zF (σ))))] sz) := by
  refine z_meti (by decide) rfl (Nat.le_of_ble_eq_true rfl) ?_
  intro p e s m args below meth c A Q ls hx hb hml hown hts hA hS hP hD hK hZ hl hret
  have hl : lv_has ls 2 [(0, .ref h0)] := hl
  refine lv_aload_n hx hb dX3_clear_0 rfl (lv_at hl 0 rfl) ?_
  refine va_get (D := D) (ci := 3) (v := .ref a0) (C := RX3) (T := TX3) (N := 7) hx hb hts in_X3_clear_X3 hown hK hP 0 rfl rfl 0 (by decide) (hts _ m_X3_clear_0) (fun _ h9 => h9) rfl dX3_clear_1 ?_
  refine lv_bipush (v := zI (9)) hx hb dX3_clear_4 (by decide +kernel) ?_
  refine z_iald (k := 9) (g := σ) hx hb hK hP 1 0 rfl rfl (by omega) dX3_clear_6 ?_
  try dsimp only
  refine lv_istore_n (lv' := [(1, .int (zI (σ 9))), (0, .ref h0)]) hx hb dX3_clear_7 rfl hl (by decide) rfl (fun ls hl => ?_)
  refine lv_aload_n hx hb dX3_clear_8 rfl (lv_at hl 1 rfl) ?_
  refine va_get (D := D) (ci := 3) (v := .ref a0) (C := RX3) (T := TX3) (N := 7) hx hb hts in_X3_clear_X3 hown hK hP 0 rfl rfl 0 (by decide) (hts _ m_X3_clear_0) (fun _ h9 => h9) rfl dX3_clear_9 ?_
  refine lv_bipush (v := zI (9)) hx hb dX3_clear_12 (by decide +kernel) ?_
  refine lv_iconst (v := zI (0)) hx hb dX3_clear_14 rfl ?_
  refine z_iast (k := 9) (x := 0) (g := σ) hx hb hK hP hD hS 1 0 rfl rfl (by omega) dX3_clear_15 (fun H locs hP hD hS => ?_)
  have hP : va_P D vwCl [(h0, .inr (3, [.ref a0, .ref a1, .ref a2, .ref a3, .ref a4, .ref a5, .ref a6])), (a0, .inl (cI, 22, .inl (zF (upI σ 9 0))))] H := hP
  have hD : va_D A [(h0, .inr (3, [.ref a0, .ref a1, .ref a2, .ref a3, .ref a4, .ref a5, .ref a6])), (a0, .inl (cI, 22, .inl (zF (upI σ 9 0))))] := hD
  refine lv_iload_n hx hb dX3_clear_16 rfl (lv_at hl 0 rfl) ?_
  exact hret _ _ _ _ _ () dX3_clear_17 rfl hP hS
abbrev rmX3_effortOf : Room := { frames := 1, cells := 0, slots := 0, locals := 20 }
theorem in_X3_effortOf_X3 : ∀ w ∈ wsX30, w ∈ wsX3_effortOf := fun _ h => List.mem_cons_of_mem _ (List.mem_append_right _ h)
theorem m_X3_effortOf_0 : (.fieldLink RX3 7 "BrassWaysModel" "state" "[I" : Cond) ∈ wsX3_effortOf := List.mem_of_getElem? (i := 1) rfl
set_option maxHeartbeats 4000000 in
set_option maxRecDepth 100000 in
theorem c_X3_effortOf (l : Launch) (D : va_G) (cI cJ cZ cO : ClassId) (sz : Nat) (h0 : Nat) (a0 : Nat) (a1 : Nat) (a2 : Nat) (a3 : Nat) (a4 : Nat) (a5 : Nat) (a6 : Nat) (σ : Int → Int) (a : Int) (b : Int) (h1 : (0 ≤ a ∧ a < 64) ∧ 0 ≤ b ∧ b < 64) (hO : Ok σ) : Met l yX3_effortOf wsX3_effortOf rmX3_effortOf (zPc D cI cJ cZ cO [(h0, .inr (3, [.ref a0, .ref a1, .ref a2, .ref a3, .ref a4, .ref a5, .ref a6])), (a0, .inl (cI, 22, .inl (zF (σ))))] sz [.ref h0, .int (zI (a)), .int (zI (b))]) (zQi D (fun (r : Int32) (_ : Unit) => r = zI (eff σ a b)) (fun (_ : Unit) => [(h0, .inr (3, [.ref a0, .ref a1, .ref a2, .ref a3, .ref a4, .ref a5, .ref a6])), (a0, .inl (cI, 22, .inl (zF (σ))))]) [(h0, .inr (3, [.ref a0, .ref a1, .ref a2, .ref a3, .ref a4, .ref a5, .ref a6])), (a0, .inl (cI, 22, .inl (zF (σ))))] sz) 0 0 (va_A [(h0, .inr (3, [.ref a0, .ref a1, .ref a2, .ref a3, .ref a4, .ref a5, .ref a6])), (a0, .inl (cI, 22, .inl (zF (σ))))] sz) := by
  refine z_meti (by decide) rfl (Nat.le_of_ble_eq_true rfl) ?_
  intro p e s m args below meth c A Q ls hx hb hml hown hts hA hS hP hD hK hZ hl hret
  have hl : lv_has ls 4 [(0, .ref h0), (1, .int (zI (a))), (2, .int (zI (b)))] := hl
  have o0 := hO.1
  have hx8 := xorI_in (a := a % 8) (b := b % 8) (by omega) (by omega)
  refine lv_aload_n hx hb dX3_effortOf_0 rfl (lv_at hl 0 rfl) ?_
  refine va_get (D := D) (ci := 3) (v := .ref a0) (C := RX3) (T := TX3) (N := 7) hx hb hts in_X3_effortOf_X3 hown hK hP 0 rfl rfl 0 (by decide) (hts _ m_X3_effortOf_0) (fun _ h9 => h9) rfl dX3_effortOf_1 ?_
  refine lv_iconst (v := zI (0)) hx hb dX3_effortOf_4 rfl ?_
  refine z_iald (k := 0) (g := σ) hx hb hK hP 1 0 rfl rfl (by omega) dX3_effortOf_5 ?_
  try dsimp only
  refine z_if_ne (a := σ 0) (tgt := 24) hx hb (by omega) dX3_effortOf_6 (by decide) (fun c_6 => ?_) (fun c_6 => ?_)
  · refine lv_iload_n hx hb dX3_effortOf_24 rfl (lv_at hl 1 rfl) ?_
    refine lv_bipush (v := zI (8)) hx hb dX3_effortOf_25 (by decide +kernel) ?_
    refine z_irem (a := a) (b := 8) hx hb (by omega) dX3_effortOf_27 ?_
    refine lv_iload_n hx hb dX3_effortOf_28 rfl (lv_at hl 2 rfl) ?_
    refine lv_bipush (v := zI (8)) hx hb dX3_effortOf_29 (by decide +kernel) ?_
    refine z_irem (a := b) (b := 8) hx hb (by omega) dX3_effortOf_31 ?_
    refine z_isub (a := a % 8) (b := b % 8) hx hb dX3_effortOf_32 ?_
    refine z_Sir (As := [.int (zI ((a % 8) - (b % 8)))]) (rest := []) hx hb hml hown hts hA hS hP hD hK hZ hl.1 (c_X3_size l D cI cJ cZ cO _ ((a % 8) - (b % 8)) (by omega)) (va_cwS 1 hts gX3_effortOf_X3_size rfl rfl rfl (by decide +kernel) ⟨Nat.le_of_ble_eq_true rfl, Nat.le_of_ble_eq_true rfl⟩) [] rfl rfl rfl rfl (Nat.le_of_ble_eq_true rfl) ⟨Nat.zero_le _, Nat.zero_le _⟩ dX3_effortOf_33 (fun r u H locs hw hP hS => ?_)
    subst hw
    refine lv_istore_n (lv' := [(3, .int (zI (aI ((a % 8) - (b % 8))))), (0, .ref h0), (1, .int (zI (a))), (2, .int (zI (b)))]) hx hb dX3_effortOf_36 rfl hl (by decide) rfl (fun ls hl => ?_)
    refine lv_aload_n hx hb dX3_effortOf_37 rfl (lv_at hl 1 rfl) ?_
    refine va_get (D := D) (ci := 3) (v := .ref a0) (C := RX3) (T := TX3) (N := 7) hx hb hts in_X3_effortOf_X3 hown hK hP 0 rfl rfl 0 (by decide) (hts _ m_X3_effortOf_0) (fun _ h9 => h9) rfl dX3_effortOf_38 ?_
    refine lv_bipush (v := zI (6)) hx hb dX3_effortOf_41 (by decide +kernel) ?_
    refine z_iald (k := 6) (g := σ) hx hb hK hP 1 0 rfl rfl (by omega) dX3_effortOf_43 ?_
    try dsimp only
    refine lv_iload_n hx hb dX3_effortOf_44 rfl (lv_at hl 0 rfl) ?_
    refine z_imul (a := σ 6) (b := aI ((a % 8) - (b % 8))) hx hb dX3_effortOf_45 ?_
    refine lv_aload_n hx hb dX3_effortOf_46 rfl (lv_at hl 1 rfl) ?_
    refine va_get (D := D) (ci := 3) (v := .ref a0) (C := RX3) (T := TX3) (N := 7) hx hb hts in_X3_effortOf_X3 hown hK hP 0 rfl rfl 0 (by decide) (hts _ m_X3_effortOf_0) (fun _ h9 => h9) rfl dX3_effortOf_47 ?_
    refine lv_bipush (v := zI (7)) hx hb dX3_effortOf_50 (by decide +kernel) ?_
    refine z_iald (k := 7) (g := σ) hx hb hK hP 1 0 rfl rfl (by omega) dX3_effortOf_52 ?_
    try dsimp only
    refine lv_iload_n hx hb dX3_effortOf_53 rfl (lv_at hl 2 rfl) ?_
    refine lv_bipush (v := zI (8)) hx hb dX3_effortOf_54 (by decide +kernel) ?_
    refine z_idiv (a := a) (b := 8) hx hb (by omega) dX3_effortOf_56 ?_
    refine lv_iload_n hx hb dX3_effortOf_57 rfl (lv_at hl 3 rfl) ?_
    refine lv_bipush (v := zI (8)) hx hb dX3_effortOf_58 (by decide +kernel) ?_
    refine z_idiv (a := b) (b := 8) hx hb (by omega) dX3_effortOf_60 ?_
    refine z_isub (a := a / 8) (b := b / 8) hx hb dX3_effortOf_61 ?_
    refine z_Sir (As := [.int (zI ((a / 8) - (b / 8)))]) (rest := [.int (zI (σ 7)), .int (zI ((σ 6) * (aI ((a % 8) - (b % 8)))))]) hx hb hml hown hts hA hS hP hD hK hZ hl.1 (c_X3_size l D cI cJ cZ cO _ ((a / 8) - (b / 8)) (by omega)) (va_cwS 1 hts gX3_effortOf_X3_size rfl rfl rfl (by decide +kernel) ⟨Nat.le_of_ble_eq_true rfl, Nat.le_of_ble_eq_true rfl⟩) [] rfl rfl rfl rfl (Nat.le_of_ble_eq_true rfl) ⟨Nat.zero_le _, Nat.zero_le _⟩ dX3_effortOf_62 (fun r u H locs hw hP hS => ?_)
    subst hw
    refine z_imul (a := σ 7) (b := aI ((a / 8) - (b / 8))) hx hb dX3_effortOf_65 ?_
    refine z_iadd (a := (σ 6) * (aI ((a % 8) - (b % 8)))) (b := (σ 7) * (aI ((a / 8) - (b / 8)))) hx hb dX3_effortOf_66 ?_
    exact hret _ _ _ _ _ () dX3_effortOf_67 (by unfold eff; first | rw [if_pos c_6] | rw [if_neg c_6]) hP hS
  · refine lv_iload_n hx hb dX3_effortOf_9 rfl (lv_at hl 1 rfl) ?_
    refine lv_bipush (v := zI (8)) hx hb dX3_effortOf_10 (by decide +kernel) ?_
    refine z_irem (a := a) (b := 8) hx hb (by omega) dX3_effortOf_12 ?_
    refine lv_iload_n hx hb dX3_effortOf_13 rfl (lv_at hl 2 rfl) ?_
    refine lv_bipush (v := zI (8)) hx hb dX3_effortOf_14 (by decide +kernel) ?_
    refine z_irem (a := b) (b := 8) hx hb (by omega) dX3_effortOf_16 ?_
    refine lv_ixor hx hb dX3_effortOf_17 ?_
    refine z_top (y := zI (xorI (a % 8) (b % 8))) (z_xor (by omega) (by omega)) ?_
    refine z_Sir (As := [.int (zI (xorI (a % 8) (b % 8)))]) (rest := []) hx hb hml hown hts hA hS hP hD hK hZ hl.1 (c_X3_bits l D cI cJ cZ cO _ (xorI (a % 8) (b % 8)) (by omega)) (va_cwS 1 hts gX3_effortOf_X3_bits rfl rfl rfl (by decide +kernel) ⟨Nat.le_of_ble_eq_true rfl, Nat.le_of_ble_eq_true rfl⟩) [] rfl rfl rfl rfl (Nat.le_of_ble_eq_true rfl) ⟨Nat.zero_le _, Nat.zero_le _⟩ dX3_effortOf_18 (fun r u H locs hw hP hS => ?_)
    subst hw
    refine lv_goto (tgt := 36) hx hb dX3_effortOf_21 (by decide) ?_
    refine lv_istore_n (lv' := [(3, .int (zI (bitsI (xorI (a % 8) (b % 8))))), (0, .ref h0), (1, .int (zI (a))), (2, .int (zI (b)))]) hx hb dX3_effortOf_36 rfl hl (by decide) rfl (fun ls hl => ?_)
    refine lv_aload_n hx hb dX3_effortOf_37 rfl (lv_at hl 1 rfl) ?_
    refine va_get (D := D) (ci := 3) (v := .ref a0) (C := RX3) (T := TX3) (N := 7) hx hb hts in_X3_effortOf_X3 hown hK hP 0 rfl rfl 0 (by decide) (hts _ m_X3_effortOf_0) (fun _ h9 => h9) rfl dX3_effortOf_38 ?_
    refine lv_bipush (v := zI (6)) hx hb dX3_effortOf_41 (by decide +kernel) ?_
    refine z_iald (k := 6) (g := σ) hx hb hK hP 1 0 rfl rfl (by omega) dX3_effortOf_43 ?_
    try dsimp only
    refine lv_iload_n hx hb dX3_effortOf_44 rfl (lv_at hl 0 rfl) ?_
    refine z_imul (a := σ 6) (b := bitsI (xorI (a % 8) (b % 8))) hx hb dX3_effortOf_45 ?_
    refine lv_aload_n hx hb dX3_effortOf_46 rfl (lv_at hl 1 rfl) ?_
    refine va_get (D := D) (ci := 3) (v := .ref a0) (C := RX3) (T := TX3) (N := 7) hx hb hts in_X3_effortOf_X3 hown hK hP 0 rfl rfl 0 (by decide) (hts _ m_X3_effortOf_0) (fun _ h9 => h9) rfl dX3_effortOf_47 ?_
    refine lv_bipush (v := zI (7)) hx hb dX3_effortOf_50 (by decide +kernel) ?_
    refine z_iald (k := 7) (g := σ) hx hb hK hP 1 0 rfl rfl (by omega) dX3_effortOf_52 ?_
    try dsimp only
    refine lv_iload_n hx hb dX3_effortOf_53 rfl (lv_at hl 2 rfl) ?_
    refine lv_bipush (v := zI (8)) hx hb dX3_effortOf_54 (by decide +kernel) ?_
    refine z_idiv (a := a) (b := 8) hx hb (by omega) dX3_effortOf_56 ?_
    refine lv_iload_n hx hb dX3_effortOf_57 rfl (lv_at hl 3 rfl) ?_
    refine lv_bipush (v := zI (8)) hx hb dX3_effortOf_58 (by decide +kernel) ?_
    refine z_idiv (a := b) (b := 8) hx hb (by omega) dX3_effortOf_60 ?_
    refine z_isub (a := a / 8) (b := b / 8) hx hb dX3_effortOf_61 ?_
    refine z_Sir (As := [.int (zI ((a / 8) - (b / 8)))]) (rest := [.int (zI (σ 7)), .int (zI ((σ 6) * (bitsI (xorI (a % 8) (b % 8)))))]) hx hb hml hown hts hA hS hP hD hK hZ hl.1 (c_X3_size l D cI cJ cZ cO _ ((a / 8) - (b / 8)) (by omega)) (va_cwS 1 hts gX3_effortOf_X3_size rfl rfl rfl (by decide +kernel) ⟨Nat.le_of_ble_eq_true rfl, Nat.le_of_ble_eq_true rfl⟩) [] rfl rfl rfl rfl (Nat.le_of_ble_eq_true rfl) ⟨Nat.zero_le _, Nat.zero_le _⟩ dX3_effortOf_62 (fun r u H locs hw hP hS => ?_)
    subst hw
    refine z_imul (a := σ 7) (b := aI ((a / 8) - (b / 8))) hx hb dX3_effortOf_65 ?_
    refine z_iadd (a := (σ 6) * (bitsI (xorI (a % 8) (b % 8)))) (b := (σ 7) * (aI ((a / 8) - (b / 8)))) hx hb dX3_effortOf_66 ?_
    exact hret _ _ _ _ _ () dX3_effortOf_67 (by unfold eff; first | rw [if_pos c_6] | rw [if_neg c_6]) hP hS
abbrev rmX3_effort : Room := { frames := 3, cells := 0, slots := 0, locals := 64 }
set_option maxHeartbeats 4000000 in
set_option maxRecDepth 100000 in
theorem c_X3_effort (l : Launch) (D : va_G) (cI cJ cZ cO : ClassId) (sz : Nat) (h0 : Nat) (a0 : Nat) (a1 : Nat) (a2 : Nat) (a3 : Nat) (a4 : Nat) (a5 : Nat) (a6 : Nat) (σ : Int → Int) (a : Int) (b : Int) (h_a : -2147483648 ≤ a ∧ a < 2147483648) (h_b : -2147483648 ≤ b ∧ b < 2147483648) (hO : Ok σ) : Met l yX3_effort wsX3_effort rmX3_effort (zPc D cI cJ cZ cO [(h0, .inr (3, [.ref a0, .ref a1, .ref a2, .ref a3, .ref a4, .ref a5, .ref a6])), (a0, .inl (cI, 22, .inl (zF (σ))))] sz [.ref h0, .int (zI (a)), .int (zI (b))]) (zQi D (fun (r : Int32) (_ : Unit) => r = zI (A_effort σ a b)) (fun (_ : Unit) => [(h0, .inr (3, [.ref a0, .ref a1, .ref a2, .ref a3, .ref a4, .ref a5, .ref a6])), (a0, .inl (cI, 22, .inl (zF (σ))))]) [(h0, .inr (3, [.ref a0, .ref a1, .ref a2, .ref a3, .ref a4, .ref a5, .ref a6])), (a0, .inl (cI, 22, .inl (zF (σ))))] sz) 0 0 (va_A [(h0, .inr (3, [.ref a0, .ref a1, .ref a2, .ref a3, .ref a4, .ref a5, .ref a6])), (a0, .inl (cI, 22, .inl (zF (σ))))] sz) := by
  refine z_meti (by decide) rfl (Nat.le_of_ble_eq_true rfl) ?_
  intro p e s m args below meth c A Q ls hx hb hml hown hts hA hS hP hD hK hZ hl hret
  have hl : lv_has ls 3 [(0, .ref h0), (1, .int (zI (a))), (2, .int (zI (b)))] := hl
  refine lv_aload_n hx hb dX3_effort_0 rfl (lv_at hl 0 rfl) ?_
  refine lv_iload_n hx hb dX3_effort_1 rfl (lv_at hl 1 rfl) ?_
  refine z_Vir (As := [.int (zI (a))]) (rest := []) hx hb hml hown hts hA hS hP hD hK hZ hl.1 (c_X3_isWay l D cI cJ cZ cO _ (h0) (a0) (a1) (a2) (a3) (a4) (a5) (a6) (σ) (a) (by omega) hO) (cwV 1 hts gX3_effort_X3_isWay rfl rfl rfl (by decide +kernel) ⟨Nat.le_of_ble_eq_true rfl, Nat.le_of_ble_eq_true rfl⟩) [0, 1] rfl rfl 0 3 rfl rfl rfl rfl (Nat.le_of_ble_eq_true rfl) ⟨Nat.zero_le _, Nat.zero_le _⟩ dX3_effort_2 (fun r u H locs hw hP hS => ?_)
  subst hw
  refine z_ifB_eq (P := okW σ a) (tgt := 25) hx hb dX3_effort_5 (by decide) (fun c_5 => ?_) (fun c_5 => ?_)
  · refine lv_bipush (v := zI (-2)) hx hb dX3_effort_25 (by decide +kernel) ?_
    exact hret _ _ _ _ _ () dX3_effort_27 (by unfold A_effort; first | rw [if_neg c_5] | rw [if_pos c_5, if_neg c_13] | rw [if_pos c_5, if_pos c_13]) hP hS
  · have hw6 := c_5.1
    refine lv_aload_n hx hb dX3_effort_8 rfl (lv_at hl 0 rfl) ?_
    refine lv_iload_n hx hb dX3_effort_9 rfl (lv_at hl 2 rfl) ?_
    refine z_Vir (As := [.int (zI (b))]) (rest := []) hx hb hml hown hts hA hS hP hD hK hZ hl.1 (c_X3_isWay l D cI cJ cZ cO _ (h0) (a0) (a1) (a2) (a3) (a4) (a5) (a6) (σ) (b) (by omega) hO) (cwV 1 hts gX3_effort_X3_isWay rfl rfl rfl (by decide +kernel) ⟨Nat.le_of_ble_eq_true rfl, Nat.le_of_ble_eq_true rfl⟩) [0, 1] rfl rfl 0 3 rfl rfl rfl rfl (Nat.le_of_ble_eq_true rfl) ⟨Nat.zero_le _, Nat.zero_le _⟩ dX3_effort_10 (fun r u H locs hw hP hS => ?_)
    subst hw
    refine z_ifB_eq (P := okW σ b) (tgt := 25) hx hb dX3_effort_13 (by decide) (fun c_13 => ?_) (fun c_13 => ?_)
    · refine lv_bipush (v := zI (-2)) hx hb dX3_effort_25 (by decide +kernel) ?_
      exact hret _ _ _ _ _ () dX3_effort_27 (by unfold A_effort; first | rw [if_neg c_5] | rw [if_pos c_5, if_neg c_13] | rw [if_pos c_5, if_pos c_13]) hP hS
    · have hw7 := c_13.1
      refine lv_aload_n hx hb dX3_effort_16 rfl (lv_at hl 0 rfl) ?_
      refine lv_iload_n hx hb dX3_effort_17 rfl (lv_at hl 1 rfl) ?_
      refine lv_iload_n hx hb dX3_effort_18 rfl (lv_at hl 2 rfl) ?_
      refine z_Vir (As := [.int (zI (a)), .int (zI (b))]) (rest := []) hx hb hml hown hts hA hS hP hD hK hZ hl.1 (c_X3_effortOf l D cI cJ cZ cO _ (h0) (a0) (a1) (a2) (a3) (a4) (a5) (a6) (σ) (a) (b) (by omega) hO) (cwV 2 hts gX3_effort_X3_effortOf rfl rfl rfl (by decide +kernel) ⟨Nat.le_of_ble_eq_true rfl, Nat.le_of_ble_eq_true rfl⟩) [0, 1] rfl rfl 0 3 rfl rfl rfl rfl (Nat.le_of_ble_eq_true rfl) ⟨Nat.zero_le _, Nat.zero_le _⟩ dX3_effort_19 (fun r u H locs hw hP hS => ?_)
      subst hw
      refine lv_goto (tgt := 27) hx hb dX3_effort_22 (by decide) ?_
      exact hret _ _ _ _ _ () dX3_effort_27 (by unfold A_effort; first | rw [if_neg c_5] | rw [if_pos c_5, if_neg c_13] | rw [if_pos c_5, if_pos c_13]) hP hS
abbrev rmX3_faultOf : Room := { frames := 3, cells := 0, slots := 0, locals := 65 }
theorem in_X3_faultOf_X3 : ∀ w ∈ wsX30, w ∈ wsX3_faultOf := fun _ h => List.mem_cons_of_mem _ (List.mem_append_right _ h)
theorem m_X3_faultOf_0 : (.fieldLink RX3 7 "BrassWaysModel" "state" "[I" : Cond) ∈ wsX3_faultOf := List.mem_of_getElem? (i := 1) rfl
set_option maxHeartbeats 4000000 in
set_option maxRecDepth 100000 in
theorem c_X3_faultOf (l : Launch) (D : va_G) (cI cJ cZ cO : ClassId) (sz : Nat) (h0 : Nat) (a0 : Nat) (a1 : Nat) (a2 : Nat) (a3 : Nat) (a4 : Nat) (a5 : Nat) (a6 : Nat) (σ : Int → Int) (w : Int) (n : Int) (h1 : 0 ≤ w ∧ w < 64) (h2 : 0 ≤ n ∧ n ≤ 36) (hO : Ok σ) : Met l yX3_faultOf wsX3_faultOf rmX3_faultOf (zPc D cI cJ cZ cO [(h0, .inr (3, [.ref a0, .ref a1, .ref a2, .ref a3, .ref a4, .ref a5, .ref a6])), (a0, .inl (cI, 22, .inl (zF (σ))))] sz [.ref h0, .int (zI (w)), .int (zI (n))]) (zQi D (fun (r : Int32) (_ : Unit) => r = zI (flt σ w n)) (fun (_ : Unit) => [(h0, .inr (3, [.ref a0, .ref a1, .ref a2, .ref a3, .ref a4, .ref a5, .ref a6])), (a0, .inl (cI, 22, .inl (zF (σ))))]) [(h0, .inr (3, [.ref a0, .ref a1, .ref a2, .ref a3, .ref a4, .ref a5, .ref a6])), (a0, .inl (cI, 22, .inl (zF (σ))))] sz) 0 0 (va_A [(h0, .inr (3, [.ref a0, .ref a1, .ref a2, .ref a3, .ref a4, .ref a5, .ref a6])), (a0, .inl (cI, 22, .inl (zF (σ))))] sz) := by
  refine z_meti (by decide) rfl (Nat.le_of_ble_eq_true rfl) ?_
  intro p e s m args below meth c A Q ls hx hb hml hown hts hA hS hP hD hK hZ hl hret
  have hl : lv_has ls 3 [(0, .ref h0), (1, .int (zI (w))), (2, .int (zI (n)))] := hl
  have o1 := off_in hO h1 h2
  have o2 : 0 ≤ aI (off σ w n) ∧ aI (off σ w n) ≤ 4800 := aI_in (by omega)
  have o3 := mul_in hO.2.2.2.2.2.2.2.2.1 o2
  refine lv_aload_n hx hb dX3_faultOf_0 rfl (lv_at hl 0 rfl) ?_
  refine va_get (D := D) (ci := 3) (v := .ref a0) (C := RX3) (T := TX3) (N := 7) hx hb hts in_X3_faultOf_X3 hown hK hP 0 rfl rfl 0 (by decide) (hts _ m_X3_faultOf_0) (fun _ h9 => h9) rfl dX3_faultOf_1 ?_
  refine lv_bipush (v := zI (8)) hx hb dX3_faultOf_4 (by decide +kernel) ?_
  refine z_iald (k := 8) (g := σ) hx hb hK hP 1 0 rfl rfl (by omega) dX3_faultOf_6 ?_
  try dsimp only
  refine lv_aload_n hx hb dX3_faultOf_7 rfl (lv_at hl 0 rfl) ?_
  refine lv_iload_n hx hb dX3_faultOf_8 rfl (lv_at hl 1 rfl) ?_
  refine lv_iload_n hx hb dX3_faultOf_9 rfl (lv_at hl 2 rfl) ?_
  refine z_Vir (As := [.int (zI (w)), .int (zI (n))]) (rest := [.int (zI (σ 8))]) hx hb hml hown hts hA hS hP hD hK hZ hl.1 (c_X3_offOf l D cI cJ cZ cO _ (h0) (a0) (a1) (a2) (a3) (a4) (a5) (a6) (σ) (w) (n) (by omega) hO) (cwV 2 hts gX3_faultOf_X3_offOf rfl rfl rfl (by decide +kernel) ⟨Nat.le_of_ble_eq_true rfl, Nat.le_of_ble_eq_true rfl⟩) [0, 1] rfl rfl 0 3 rfl rfl rfl rfl (Nat.le_of_ble_eq_true rfl) ⟨Nat.zero_le _, Nat.zero_le _⟩ dX3_faultOf_10 (fun r u H locs hw hP hS => ?_)
  subst hw
  refine z_Sir (As := [.int (zI (off σ w n))]) (rest := [.int (zI (σ 8))]) hx hb hml hown hts hA hS hP hD hK hZ hl.1 (c_X3_size l D cI cJ cZ cO _ (off σ w n) (by omega)) (va_cwS 1 hts gX3_faultOf_X3_size rfl rfl rfl (by decide +kernel) ⟨Nat.le_of_ble_eq_true rfl, Nat.le_of_ble_eq_true rfl⟩) [] rfl rfl rfl rfl (Nat.le_of_ble_eq_true rfl) ⟨Nat.zero_le _, Nat.zero_le _⟩ dX3_faultOf_13 (fun r u H locs hw hP hS => ?_)
  subst hw
  refine z_imul (a := σ 8) (b := aI (off σ w n)) hx hb dX3_faultOf_16 ?_
  refine lv_bipush (v := zI (10)) hx hb dX3_faultOf_17 (by decide +kernel) ?_
  refine z_idiv (a := (σ 8) * (aI (off σ w n))) (b := 10) hx hb (by omega) dX3_faultOf_19 ?_
  exact hret _ _ _ _ _ () dX3_faultOf_20 rfl hP hS
abbrev rmX3_at : Room := { frames := 0, cells := 0, slots := 0, locals := 0 }
set_option maxHeartbeats 4000000 in
set_option maxRecDepth 100000 in
theorem c_X3_at (l : Launch) (D : va_G) (cI cJ cZ cO : ClassId) (sz : Nat) (q : Int) (w : Int)  : Met l yX3_at wsX3_at rmX3_at (zPc D cI cJ cZ cO [] sz [.int (zI (q)), .int (zI (w))]) (zQi D (fun (r : Int32) (_ : Unit) => r = zI (64 * q + w)) (fun (_ : Unit) => []) [] sz) 0 0 (va_A [] sz) := by
  refine z_meti (by decide) rfl (Nat.le_of_ble_eq_true rfl) ?_
  intro p e s m args below meth c A Q ls hx hb hml hown hts hA hS hP hD hK hZ hl hret
  have hl : lv_has ls 2 [(0, .int (zI (q))), (1, .int (zI (w)))] := hl
  refine lv_bipush (v := zI (64)) hx hb dX3_at_0 (by decide +kernel) ?_
  refine lv_iload_n hx hb dX3_at_2 rfl (lv_at hl 0 rfl) ?_
  refine z_imul (a := 64) (b := q) hx hb dX3_at_3 ?_
  refine lv_iload_n hx hb dX3_at_4 rfl (lv_at hl 1 rfl) ?_
  refine z_iadd (a := 64 * q) (b := w) hx hb dX3_at_5 ?_
  exact hret _ _ _ _ _ () dX3_at_6 rfl hP hS
abbrev rmX3_isAt : Room := { frames := 4, cells := 0, slots := 0, locals := 87 }
theorem in_X3_isAt_X3 : ∀ w ∈ wsX30, w ∈ wsX3_isAt := fun _ h => List.mem_cons_of_mem _ (List.mem_append_right _ h)
theorem m_X3_isAt_0 : (.fieldLink RX3 7 "BrassWaysModel" "state" "[I" : Cond) ∈ wsX3_isAt := List.mem_of_getElem? (i := 1) rfl
set_option maxHeartbeats 4000000 in
set_option maxRecDepth 100000 in
theorem c_X3_isAt (l : Launch) (D : va_G) (cI cJ cZ cO : ClassId) (sz : Nat) (h0 : Nat) (a0 : Nat) (a1 : Nat) (a2 : Nat) (a3 : Nat) (a4 : Nat) (a5 : Nat) (a6 : Nat) (σ : Int → Int) (q : Int) (w : Int) (h1 : 0 ≤ q ∧ q < 12) (h2 : -2147483648 ≤ w ∧ w < 2147483648) (hO : Ok σ) : Met l yX3_isAt wsX3_isAt rmX3_isAt (zPc D cI cJ cZ cO [(h0, .inr (3, [.ref a0, .ref a1, .ref a2, .ref a3, .ref a4, .ref a5, .ref a6])), (a0, .inl (cI, 22, .inl (zF (σ))))] sz [.ref h0, .int (zI (q)), .int (zI (w))]) (zQi D (fun (r : Int32) (_ : Unit) => r = zI (zB (sd σ w (σ (10 + q)) = true))) (fun (_ : Unit) => [(h0, .inr (3, [.ref a0, .ref a1, .ref a2, .ref a3, .ref a4, .ref a5, .ref a6])), (a0, .inl (cI, 22, .inl (zF (σ))))]) [(h0, .inr (3, [.ref a0, .ref a1, .ref a2, .ref a3, .ref a4, .ref a5, .ref a6])), (a0, .inl (cI, 22, .inl (zF (σ))))] sz) 0 0 (va_A [(h0, .inr (3, [.ref a0, .ref a1, .ref a2, .ref a3, .ref a4, .ref a5, .ref a6])), (a0, .inl (cI, 22, .inl (zF (σ))))] sz) := by
  refine z_metz (by decide) rfl (Nat.le_of_ble_eq_true rfl) ?_
  intro p e s m args below meth c A Q ls hx hb hml hown hts hA hS hP hD hK hZ hl hret
  have hl : lv_has ls 3 [(0, .ref h0), (1, .int (zI (q))), (2, .int (zI (w)))] := hl
  have o10 := hO.2.2.2.2.2.2.2.2.2.2 q h1.1 h1.2
  refine lv_aload_n hx hb dX3_isAt_0 rfl (lv_at hl 0 rfl) ?_
  refine lv_iload_n hx hb dX3_isAt_1 rfl (lv_at hl 2 rfl) ?_
  refine lv_aload_n hx hb dX3_isAt_2 rfl (lv_at hl 0 rfl) ?_
  refine va_get (D := D) (ci := 3) (v := .ref a0) (C := RX3) (T := TX3) (N := 7) hx hb hts in_X3_isAt_X3 hown hK hP 0 rfl rfl 0 (by decide) (hts _ m_X3_isAt_0) (fun _ h9 => h9) rfl dX3_isAt_3 ?_
  refine lv_bipush (v := zI (10)) hx hb dX3_isAt_6 (by decide +kernel) ?_
  refine lv_iload_n hx hb dX3_isAt_8 rfl (lv_at hl 1 rfl) ?_
  refine z_iadd (a := 10) (b := q) hx hb dX3_isAt_9 ?_
  refine z_iald (k := 10 + q) (g := σ) hx hb hK hP 1 0 rfl rfl (by omega) dX3_isAt_10 ?_
  try dsimp only
  refine z_Vir (As := [.int (zI (w)), .int (zI (σ (10 + q)))]) (rest := []) hx hb hml hown hts hA hS hP hD hK hZ hl.1 (c_X3_sounds l D cI cJ cZ cO _ (h0) (a0) (a1) (a2) (a3) (a4) (a5) (a6) (σ) (w) (σ (10 + q)) (by omega) (by omega) hO) (cwV 2 hts gX3_isAt_X3_sounds rfl rfl rfl (by decide +kernel) ⟨Nat.le_of_ble_eq_true rfl, Nat.le_of_ble_eq_true rfl⟩) [0, 1] rfl rfl 0 3 rfl rfl rfl rfl (Nat.le_of_ble_eq_true rfl) ⟨Nat.zero_le _, Nat.zero_le _⟩ dX3_isAt_11 (fun r u H locs hw hP hS => ?_)
  subst hw
  exact hret _ _ _ _ _ () dX3_isAt_14 zB_nar rfl hP hS
