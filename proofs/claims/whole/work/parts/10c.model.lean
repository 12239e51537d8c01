abbrev rmX3_ways : Room := { frames := 5, cells := 0, slots := 0, locals := 110 }
set_option maxHeartbeats 4000000 in
set_option maxRecDepth 100000 in
theorem c_X3_ways (l : Launch) (D : va_G) (cI cJ cZ cO : ClassId) (sz : Nat) (h0 : Nat) (a0 : Nat) (a1 : Nat) (a2 : Nat) (a3 : Nat) (a4 : Nat) (a5 : Nat) (a6 : Nat) (σ : Int → Int) (n : Int) (i : Int) (h_n : -2147483648 ≤ n ∧ n < 2147483648) (h_i : -2147483648 ≤ i ∧ i < 2147483648) (hO : Ok σ) : Met l yX3_ways wsX3_ways rmX3_ways (zPc D cI cJ cZ cO [(h0, .inr (3, [.ref a0, .ref a1, .ref a2, .ref a3, .ref a4, .ref a5, .ref a6])), (a0, .inl (cI, 22, .inl (zF (σ))))] sz [.ref h0, .int (zI (n)), .int (zI (i))]) (zQi D (fun (r : Int32) (_ : Unit) => r = zI (A_ways σ n i)) (fun (_ : Unit) => [(h0, .inr (3, [.ref a0, .ref a1, .ref a2, .ref a3, .ref a4, .ref a5, .ref a6])), (a0, .inl (cI, 22, .inl (zF (σ))))]) [(h0, .inr (3, [.ref a0, .ref a1, .ref a2, .ref a3, .ref a4, .ref a5, .ref a6])), (a0, .inl (cI, 22, .inl (zF (σ))))] sz) 0 0 (va_A [(h0, .inr (3, [.ref a0, .ref a1, .ref a2, .ref a3, .ref a4, .ref a5, .ref a6])), (a0, .inl (cI, 22, .inl (zF (σ))))] sz) := by
  refine z_meti (by decide) rfl (Nat.le_of_ble_eq_true rfl) ?_
  intro p e s m args below meth c A Q ls hx hb hml hown hts hA hS hP hD hK hZ hl hret
  have hl : lv_has ls 5 [(0, .ref h0), (1, .int (zI (n))), (2, .int (zI (i)))] := hl
  refine lv_iload_n hx hb dX3_ways_0 rfl (lv_at hl 1 rfl) ?_
  refine z_Sir (As := [.int (zI (n))]) (rest := []) hx hb hml hown hts hA hS hP hD hK hZ hl.1 (c_X3_isNote l D cI cJ cZ cO _ (n) (by omega)) (va_cwS 1 hts gX3_ways_X3_isNote rfl rfl rfl (by decide +kernel) ⟨Nat.le_of_ble_eq_true rfl, Nat.le_of_ble_eq_true rfl⟩) [] rfl rfl rfl rfl (Nat.le_of_ble_eq_true rfl) ⟨Nat.zero_le _, Nat.zero_le _⟩ dX3_ways_1 (fun r u H locs hw hP hS => ?_)
  subst hw
  refine z_ifB_eq (P := 0 ≤ n ∧ n ≤ 36) (tgt := 12) hx hb dX3_ways_4 (by decide) (fun c_4 => ?_) (fun c_4 => ?_)
  · refine lv_bipush (v := zI (-2)) hx hb dX3_ways_12 (by decide +kernel) ?_
    exact hret _ _ _ _ _ () dX3_ways_14 (by unfold A_ways; first | (rw [if_neg c_4]; done) | (rw [if_pos c_4, if_pos (by omega)]; done)) hP hS
  · refine lv_iload_n hx hb dX3_ways_7 rfl (lv_at hl 2 rfl) ?_
    refine lv_iconst (v := zI (-1)) hx hb dX3_ways_8 rfl ?_
    refine z_icmp_ge (a := i) (b := -1) (tgt := 15) hx hb (by omega) dX3_ways_9 (by decide) (fun c_9 => ?_) (fun c_9 => ?_)
    · refine lv_iload_n hx hb dX3_ways_15 rfl (lv_at hl 2 rfl) ?_
      refine lv_iconst (v := zI (-1)) hx hb dX3_ways_16 rfl ?_
      refine z_icmp_ne (a := i) (b := -1) (tgt := 26) hx hb (by omega) dX3_ways_17 (by decide) (fun c_17 => ?_) (fun c_17 => ?_)
      · refine lv_iconst (v := zI (0)) hx hb dX3_ways_26 rfl ?_
        refine lv_istore_n (lv' := [(3, .int (zI (0))), (0, .ref h0), (1, .int (zI (n))), (2, .int (zI (i)))]) hx hb dX3_ways_27 rfl hl (by decide) rfl (fun ls hl => ?_)
        refine lv_iconst (v := zI (0)) hx hb dX3_ways_28 rfl ?_
        refine lv_istore (lv' := [(4, .int (zI (0))), (3, .int (zI (0))), (0, .ref h0), (1, .int (zI (n))), (2, .int (zI (i)))]) hx hb dX3_ways_29 hl (by decide) rfl (fun ls hl => ?_)
        have loop_a : ∀ (f_a : Nat) (k : Nat) (x : Int) (H : Heap) (locs : List Loc) (ls : Array Slot), (k ≤ 64) → (x = cnt (fun w => sd σ w n) k) → (fnd (fun w => sd σ w n && decide (cnt (fun v => sd σ v n) w.toNat = i)) k = -6) → (64 - (k : Int) < (f_a : Int)) → va_P D vwCl [(h0, .inr (3, [.ref a0, .ref a1, .ref a2, .ref a3, .ref a4, .ref a5, .ref a6])), (a0, .inl (cI, 22, .inl (zF (σ))))] H → va_D A [(h0, .inr (3, [.ref a0, .ref a1, .ref a2, .ref a3, .ref a4, .ref a5, .ref a6])), (a0, .inl (cI, 22, .inl (zF (σ))))] → va_S A s.heap H locs → lv_has ls 5 [(0, .ref h0), (1, .int (zI (n))), (2, .int (zI (i))), (3, .int (zI (x))), (4, .int (zI ((k : Int))))] → W p l e rmX3_ways s m args below meth c H locs 0 0 Q (F0 m 31 ls []) := by
          intro f_a
          induction f_a with
          | zero =>
            intros
            exfalso; omega
          | succ f_a ih_a =>
            intro k x H locs ls e_k e_x e_f hfu_a hP hD hS hl
            have e_b : 0 ≤ x ∧ x ≤ k := by rw [e_x]; exact cnt_in _ k
            refine lv_iload hx hb dX3_ways_31 (lv_at hl 4 rfl) ?_
            refine lv_bipush (v := zI (64)) hx hb dX3_ways_33 (by decide +kernel) ?_
            refine z_icmp_ge (a := (k : Int)) (b := 64) (tgt := 65) hx hb (by omega) dX3_ways_35 (by decide) (fun c_35 => ?_) (fun c_35 => ?_)
            · refine lv_bipush (v := zI (-6)) hx hb dX3_ways_65 (by decide +kernel) ?_
              exact hret _ _ _ _ _ () dX3_ways_67 (by unfold A_ways; rw [if_pos c_4, if_neg (by omega), if_neg c_17]; rw [show k = 64 by omega] at e_f; rw [e_f]) hP hS
            · refine lv_aload_n hx hb dX3_ways_38 rfl (lv_at hl 0 rfl) ?_
              refine lv_iload hx hb dX3_ways_39 (lv_at hl 4 rfl) ?_
              refine lv_iload_n hx hb dX3_ways_41 rfl (lv_at hl 1 rfl) ?_
              refine z_Vir (As := [.int (zI ((k : Int))), .int (zI (n))]) (rest := []) hx hb hml hown hts hA hS hP hD hK hZ hl.1 (c_X3_sounds l D cI cJ cZ cO _ (h0) (a0) (a1) (a2) (a3) (a4) (a5) (a6) (σ) ((k : Int)) (n) (by omega) (by omega) hO) (cwV 2 hts gX3_ways_X3_sounds rfl rfl rfl (by decide +kernel) ⟨Nat.le_of_ble_eq_true rfl, Nat.le_of_ble_eq_true rfl⟩) [0, 1] rfl rfl 0 3 rfl rfl rfl rfl (Nat.le_of_ble_eq_true rfl) ⟨Nat.zero_le _, Nat.zero_le _⟩ dX3_ways_42 (fun r u H locs hw hP hS => ?_)
              subst hw
              refine z_ifB_eq (P := sd σ (k : Int) n = true) (tgt := 59) hx hb dX3_ways_45 (by decide) (fun c_45 => ?_) (fun c_45 => ?_)
              · refine lv_iinc (v := zI ((k : Int) + 1)) (lv' := [(4, .int (zI ((k : Int) + 1))), (0, .ref h0), (1, .int (zI (n))), (2, .int (zI (i))), (3, .int (zI (x)))]) hx hb dX3_ways_59 hl (k := 4) rfl (zI_add _ _) (by decide) rfl (fun ls hl => ?_)
                refine lv_goto (tgt := 31) hx hb dX3_ways_62 (by decide) ?_
                exact ih_a (k + 1) (x) _ _ _ (by omega) (by first | (rw [cnt_y (q := fun w => sd σ w n) c_45]; omega) | (rw [cnt_n (q := fun w => sd σ w n) c_45]; omega)) (fnd_n e_f (by first | (simp [c_45]; done) | (simp [c_45]; omega))) (by omega) hP hD hS (lv_sub hl [1, 2, 3, 4, 0] rfl)
              · refine lv_iload_n hx hb dX3_ways_48 rfl (lv_at hl 3 rfl) ?_
                refine lv_iload_n hx hb dX3_ways_49 rfl (lv_at hl 2 rfl) ?_
                refine z_icmp_ne (a := x) (b := i) (tgt := 56) hx hb (by omega) dX3_ways_50 (by decide) (fun c_50 => ?_) (fun c_50 => ?_)
                · refine lv_iinc (v := zI (x + 1)) (lv' := [(3, .int (zI (x + 1))), (0, .ref h0), (1, .int (zI (n))), (2, .int (zI (i))), (4, .int (zI ((k : Int))))]) hx hb dX3_ways_56 hl (k := 3) rfl (zI_add _ _) (by decide) rfl (fun ls hl => ?_)
                  refine lv_iinc (v := zI ((k : Int) + 1)) (lv' := [(4, .int (zI ((k : Int) + 1))), (3, .int (zI (x + 1))), (0, .ref h0), (1, .int (zI (n))), (2, .int (zI (i)))]) hx hb dX3_ways_59 hl (k := 4) rfl (zI_add _ _) (by decide) rfl (fun ls hl => ?_)
                  refine lv_goto (tgt := 31) hx hb dX3_ways_62 (by decide) ?_
                  exact ih_a (k + 1) (x + 1) _ _ _ (by omega) (by first | (rw [cnt_y (q := fun w => sd σ w n) c_45]; omega) | (rw [cnt_n (q := fun w => sd σ w n) c_45]; omega)) (fnd_n e_f (by first | (simp [c_45]; done) | (simp [c_45]; omega))) (by omega) hP hD hS (lv_sub hl [2, 3, 4, 1, 0] rfl)
                · refine lv_iload hx hb dX3_ways_53 (lv_at hl 4 rfl) ?_
                  exact hret _ _ _ _ _ () dX3_ways_55 (by unfold A_ways; rw [if_pos c_4, if_neg (by omega), if_neg c_17, fnd_y e_f (by simp [c_45]; omega) 64 (by omega)]) hP hS
        exact loop_a 70 (0) (0) _ _ _ (by omega) (rfl) (rfl) (by omega) hP hD hS (lv_sub hl [2, 3, 4, 1, 0] rfl)
      · refine lv_aload_n hx hb dX3_ways_20 rfl (lv_at hl 0 rfl) ?_
        refine lv_iload_n hx hb dX3_ways_21 rfl (lv_at hl 1 rfl) ?_
        refine z_Vir (As := [.int (zI (n))]) (rest := []) hx hb hml hown hts hA hS hP hD hK hZ hl.1 (c_X3_waysOf l D cI cJ cZ cO _ (h0) (a0) (a1) (a2) (a3) (a4) (a5) (a6) (σ) (n) (by omega) hO) (cwV 1 hts gX3_ways_X3_waysOf rfl rfl rfl (by decide +kernel) ⟨Nat.le_of_ble_eq_true rfl, Nat.le_of_ble_eq_true rfl⟩) [0, 1] rfl rfl 0 3 rfl rfl rfl rfl (Nat.le_of_ble_eq_true rfl) ⟨Nat.zero_le _, Nat.zero_le _⟩ dX3_ways_22 (fun r u H locs hw hP hS => ?_)
        subst hw
        exact hret _ _ _ _ _ () dX3_ways_25 (by unfold A_ways; rw [if_pos c_4, if_neg (by omega), if_pos c_17]) hP hS
    · refine lv_bipush (v := zI (-2)) hx hb dX3_ways_12 (by decide +kernel) ?_
      exact hret _ _ _ _ _ () dX3_ways_14 (by unfold A_ways; first | (rw [if_neg c_4]; done) | (rw [if_pos c_4, if_pos (by omega)]; done)) hP hS
abbrev rmX3_truest : Room := { frames := 4, cells := 0, slots := 0, locals := 87 }
set_option maxHeartbeats 4000000 in
set_option maxRecDepth 100000 in
theorem c_X3_truest (l : Launch) (D : va_G) (cI cJ cZ cO : ClassId) (sz : Nat) (h0 : Nat) (a0 : Nat) (a1 : Nat) (a2 : Nat) (a3 : Nat) (a4 : Nat) (a5 : Nat) (a6 : Nat) (σ : Int → Int) (n : Int) (h_n : -2147483648 ≤ n ∧ n < 2147483648) (hO : Ok σ) : Met l yX3_truest wsX3_truest rmX3_truest (zPc D cI cJ cZ cO [(h0, .inr (3, [.ref a0, .ref a1, .ref a2, .ref a3, .ref a4, .ref a5, .ref a6])), (a0, .inl (cI, 22, .inl (zF (σ))))] sz [.ref h0, .int (zI (n))]) (zQi D (fun (r : Int32) (_ : Unit) => r = zI (A_truest σ n)) (fun (_ : Unit) => [(h0, .inr (3, [.ref a0, .ref a1, .ref a2, .ref a3, .ref a4, .ref a5, .ref a6])), (a0, .inl (cI, 22, .inl (zF (σ))))]) [(h0, .inr (3, [.ref a0, .ref a1, .ref a2, .ref a3, .ref a4, .ref a5, .ref a6])), (a0, .inl (cI, 22, .inl (zF (σ))))] sz) 0 0 (va_A [(h0, .inr (3, [.ref a0, .ref a1, .ref a2, .ref a3, .ref a4, .ref a5, .ref a6])), (a0, .inl (cI, 22, .inl (zF (σ))))] sz) := by
  refine z_meti (by decide) rfl (Nat.le_of_ble_eq_true rfl) ?_
  intro p e s m args below meth c A Q ls hx hb hml hown hts hA hS hP hD hK hZ hl hret
  have hl : lv_has ls 4 [(0, .ref h0), (1, .int (zI (n)))] := hl
  refine lv_iload_n hx hb dX3_truest_0 rfl (lv_at hl 1 rfl) ?_
  refine z_Sir (As := [.int (zI (n))]) (rest := []) hx hb hml hown hts hA hS hP hD hK hZ hl.1 (c_X3_isNote l D cI cJ cZ cO _ (n) (by omega)) (va_cwS 1 hts gX3_truest_X3_isNote rfl rfl rfl (by decide +kernel) ⟨Nat.le_of_ble_eq_true rfl, Nat.le_of_ble_eq_true rfl⟩) [] rfl rfl rfl rfl (Nat.le_of_ble_eq_true rfl) ⟨Nat.zero_le _, Nat.zero_le _⟩ dX3_truest_1 (fun r u H locs hw hP hS => ?_)
  subst hw
  refine z_ifB_ne (P := 0 ≤ n ∧ n ≤ 36) (tgt := 10) hx hb dX3_truest_4 (by decide) (fun c_4 => ?_) (fun c_4 => ?_)
  · refine lv_bipush (v := zI (-6)) hx hb dX3_truest_10 (by decide +kernel) ?_
    refine lv_istore_n (lv' := [(2, .int (zI (-6))), (0, .ref h0), (1, .int (zI (n)))]) hx hb dX3_truest_12 rfl hl (by decide) rfl (fun ls hl => ?_)
    refine lv_iconst (v := zI (0)) hx hb dX3_truest_13 rfl ?_
    refine lv_istore_n (lv' := [(3, .int (zI (0))), (2, .int (zI (-6))), (0, .ref h0), (1, .int (zI (n)))]) hx hb dX3_truest_14 rfl hl (by decide) rfl (fun ls hl => ?_)
    have loop_a : ∀ (f_a : Nat) (k : Nat) (x : Int) (H : Heap) (locs : List Loc) (ls : Array Slot), (k ≤ 64) → (x = amn (fun w => sd σ w n) (fun w => aI (off σ w n)) k) → (64 - (k : Int) < (f_a : Int)) → va_P D vwCl [(h0, .inr (3, [.ref a0, .ref a1, .ref a2, .ref a3, .ref a4, .ref a5, .ref a6])), (a0, .inl (cI, 22, .inl (zF (σ))))] H → va_D A [(h0, .inr (3, [.ref a0, .ref a1, .ref a2, .ref a3, .ref a4, .ref a5, .ref a6])), (a0, .inl (cI, 22, .inl (zF (σ))))] → va_S A s.heap H locs → lv_has ls 4 [(0, .ref h0), (1, .int (zI (n))), (2, .int (zI (x))), (3, .int (zI ((k : Int))))] → W p l e rmX3_truest s m args below meth c H locs 0 0 Q (F0 m 15 ls []) := by
      intro f_a
      induction f_a with
      | zero =>
        intros
        exfalso; omega
      | succ f_a ih_a =>
        intro k x H locs ls e_k e_x hfu_a hP hD hS hl
        have e_b : x = -6 ∨ (0 ≤ x ∧ x < k) := by rw [e_x]; exact amn_in _ _ k
        refine lv_iload_n hx hb dX3_truest_15 rfl (lv_at hl 3 rfl) ?_
        refine lv_bipush (v := zI (64)) hx hb dX3_truest_16 (by decide +kernel) ?_
        refine z_icmp_ge (a := (k : Int)) (b := 64) (tgt := 67) hx hb (by omega) dX3_truest_18 (by decide) (fun c_18 => ?_) (fun c_18 => ?_)
        · refine lv_iload_n hx hb dX3_truest_67 rfl (lv_at hl 2 rfl) ?_
          exact hret _ _ _ _ _ () dX3_truest_68 (by unfold A_truest; rw [if_pos c_4, e_x, show k = 64 by omega]) hP hS
        · refine lv_aload_n hx hb dX3_truest_21 rfl (lv_at hl 0 rfl) ?_
          refine lv_iload_n hx hb dX3_truest_22 rfl (lv_at hl 3 rfl) ?_
          refine lv_iload_n hx hb dX3_truest_23 rfl (lv_at hl 1 rfl) ?_
          refine z_Vir (As := [.int (zI ((k : Int))), .int (zI (n))]) (rest := []) hx hb hml hown hts hA hS hP hD hK hZ hl.1 (c_X3_sounds l D cI cJ cZ cO _ (h0) (a0) (a1) (a2) (a3) (a4) (a5) (a6) (σ) ((k : Int)) (n) (by omega) (by omega) hO) (cwV 2 hts gX3_truest_X3_sounds rfl rfl rfl (by decide +kernel) ⟨Nat.le_of_ble_eq_true rfl, Nat.le_of_ble_eq_true rfl⟩) [0, 1] rfl rfl 0 3 rfl rfl rfl rfl (Nat.le_of_ble_eq_true rfl) ⟨Nat.zero_le _, Nat.zero_le _⟩ dX3_truest_24 (fun r u H locs hw hP hS => ?_)
          subst hw
          refine z_ifB_eq (P := sd σ (k : Int) n = true) (tgt := 59) hx hb dX3_truest_27 (by decide) (fun c_27 => ?_) (fun c_27 => ?_)
          · refine lv_iload_n hx hb dX3_truest_59 rfl (lv_at hl 2 rfl) ?_
            refine lv_istore_n (lv' := [(2, .int (zI (x))), (0, .ref h0), (1, .int (zI (n))), (3, .int (zI ((k : Int))))]) hx hb dX3_truest_60 rfl hl (by decide) rfl (fun ls hl => ?_)
            refine lv_iinc (v := zI ((k : Int) + 1)) (lv' := [(3, .int (zI ((k : Int) + 1))), (2, .int (zI (x))), (0, .ref h0), (1, .int (zI (n)))]) hx hb dX3_truest_61 hl (k := 3) rfl (zI_add _ _) (by decide) rfl (fun ls hl => ?_)
            refine lv_goto (tgt := 15) hx hb dX3_truest_64 (by decide) ?_
            exact ih_a (k + 1) (x) _ _ _ (by omega) (by rw [amn_s e_x]; first | (rw [if_pos ⟨c_27, Or.inl c_31⟩]; done) | (rw [if_pos ⟨c_27, Or.inr c_52⟩]; done) | (rw [if_neg (fun h => c_27 h.1)]; done) | (rw [if_neg (fun h => h.2.elim (fun g => by omega) (fun g => Int.not_lt.mpr c_52 g))]; done)) (by omega) hP hD hS (lv_sub hl [2, 3, 1, 0] rfl)
          · refine lv_iload_n hx hb dX3_truest_30 rfl (lv_at hl 2 rfl) ?_
            refine z_if_lt (a := x) (tgt := 55) hx hb (by omega) dX3_truest_31 (by decide) (fun c_31 => ?_) (fun c_31 => ?_)
            · refine lv_iload_n hx hb dX3_truest_55 rfl (lv_at hl 3 rfl) ?_
              refine lv_goto (tgt := 60) hx hb dX3_truest_56 (by decide) ?_
              refine lv_istore_n (lv' := [(2, .int (zI ((k : Int)))), (0, .ref h0), (1, .int (zI (n))), (3, .int (zI ((k : Int))))]) hx hb dX3_truest_60 rfl hl (by decide) rfl (fun ls hl => ?_)
              refine lv_iinc (v := zI ((k : Int) + 1)) (lv' := [(3, .int (zI ((k : Int) + 1))), (2, .int (zI ((k : Int)))), (0, .ref h0), (1, .int (zI (n)))]) hx hb dX3_truest_61 hl (k := 3) rfl (zI_add _ _) (by decide) rfl (fun ls hl => ?_)
              refine lv_goto (tgt := 15) hx hb dX3_truest_64 (by decide) ?_
              exact ih_a (k + 1) ((k : Int)) _ _ _ (by omega) (by rw [amn_s e_x]; first | (rw [if_pos ⟨c_27, Or.inl c_31⟩]; done) | (rw [if_pos ⟨c_27, Or.inr c_52⟩]; done) | (rw [if_neg (fun h => c_27 h.1)]; done) | (rw [if_neg (fun h => h.2.elim (fun g => by omega) (fun g => Int.not_lt.mpr c_52 g))]; done)) (by omega) hP hD hS (lv_sub hl [2, 3, 1, 0] rfl)
            · have o1 := off_in hO (w := (k : Int)) (n := n) (by omega) (by omega)
              have o2 := off_in hO (w := x) (n := n) (by omega) (by omega)
              have o3 := aI_in (a := off σ (k : Int) n) (b := 4800) (by omega)
              have o4 := aI_in (a := off σ x n) (b := 4800) (by omega)
              refine lv_aload_n hx hb dX3_truest_34 rfl (lv_at hl 0 rfl) ?_
              refine lv_iload_n hx hb dX3_truest_35 rfl (lv_at hl 3 rfl) ?_
              refine lv_iload_n hx hb dX3_truest_36 rfl (lv_at hl 1 rfl) ?_
              refine z_Vir (As := [.int (zI ((k : Int))), .int (zI (n))]) (rest := []) hx hb hml hown hts hA hS hP hD hK hZ hl.1 (c_X3_offOf l D cI cJ cZ cO _ (h0) (a0) (a1) (a2) (a3) (a4) (a5) (a6) (σ) ((k : Int)) (n) (by omega) hO) (cwV 2 hts gX3_truest_X3_offOf rfl rfl rfl (by decide +kernel) ⟨Nat.le_of_ble_eq_true rfl, Nat.le_of_ble_eq_true rfl⟩) [0, 1] rfl rfl 0 3 rfl rfl rfl rfl (Nat.le_of_ble_eq_true rfl) ⟨Nat.zero_le _, Nat.zero_le _⟩ dX3_truest_37 (fun r u H locs hw hP hS => ?_)
              subst hw
              refine z_Sir (As := [.int (zI (off σ (k : Int) n))]) (rest := []) hx hb hml hown hts hA hS hP hD hK hZ hl.1 (c_X3_size l D cI cJ cZ cO _ (off σ (k : Int) n) (by omega)) (va_cwS 1 hts gX3_truest_X3_size rfl rfl rfl (by decide +kernel) ⟨Nat.le_of_ble_eq_true rfl, Nat.le_of_ble_eq_true rfl⟩) [] rfl rfl rfl rfl (Nat.le_of_ble_eq_true rfl) ⟨Nat.zero_le _, Nat.zero_le _⟩ dX3_truest_40 (fun r u H locs hw hP hS => ?_)
              subst hw
              refine lv_aload_n hx hb dX3_truest_43 rfl (lv_at hl 0 rfl) ?_
              refine lv_iload_n hx hb dX3_truest_44 rfl (lv_at hl 2 rfl) ?_
              refine lv_iload_n hx hb dX3_truest_45 rfl (lv_at hl 1 rfl) ?_
              refine z_Vir (As := [.int (zI (x)), .int (zI (n))]) (rest := [.int (zI (aI (off σ (k : Int) n)))]) hx hb hml hown hts hA hS hP hD hK hZ hl.1 (c_X3_offOf l D cI cJ cZ cO _ (h0) (a0) (a1) (a2) (a3) (a4) (a5) (a6) (σ) (x) (n) (by omega) hO) (cwV 2 hts gX3_truest_X3_offOf rfl rfl rfl (by decide +kernel) ⟨Nat.le_of_ble_eq_true rfl, Nat.le_of_ble_eq_true rfl⟩) [0, 1] rfl rfl 0 3 rfl rfl rfl rfl (Nat.le_of_ble_eq_true rfl) ⟨Nat.zero_le _, Nat.zero_le _⟩ dX3_truest_46 (fun r u H locs hw hP hS => ?_)
              subst hw
              refine z_Sir (As := [.int (zI (off σ x n))]) (rest := [.int (zI (aI (off σ (k : Int) n)))]) hx hb hml hown hts hA hS hP hD hK hZ hl.1 (c_X3_size l D cI cJ cZ cO _ (off σ x n) (by omega)) (va_cwS 1 hts gX3_truest_X3_size rfl rfl rfl (by decide +kernel) ⟨Nat.le_of_ble_eq_true rfl, Nat.le_of_ble_eq_true rfl⟩) [] rfl rfl rfl rfl (Nat.le_of_ble_eq_true rfl) ⟨Nat.zero_le _, Nat.zero_le _⟩ dX3_truest_49 (fun r u H locs hw hP hS => ?_)
              subst hw
              refine z_icmp_ge (a := aI (off σ (k : Int) n)) (b := aI (off σ x n)) (tgt := 59) hx hb (by omega) dX3_truest_52 (by decide) (fun c_52 => ?_) (fun c_52 => ?_)
              · refine lv_iload_n hx hb dX3_truest_59 rfl (lv_at hl 2 rfl) ?_
                refine lv_istore_n (lv' := [(2, .int (zI (x))), (0, .ref h0), (1, .int (zI (n))), (3, .int (zI ((k : Int))))]) hx hb dX3_truest_60 rfl hl (by decide) rfl (fun ls hl => ?_)
                refine lv_iinc (v := zI ((k : Int) + 1)) (lv' := [(3, .int (zI ((k : Int) + 1))), (2, .int (zI (x))), (0, .ref h0), (1, .int (zI (n)))]) hx hb dX3_truest_61 hl (k := 3) rfl (zI_add _ _) (by decide) rfl (fun ls hl => ?_)
                refine lv_goto (tgt := 15) hx hb dX3_truest_64 (by decide) ?_
                exact ih_a (k + 1) (x) _ _ _ (by omega) (by rw [amn_s e_x]; first | (rw [if_pos ⟨c_27, Or.inl c_31⟩]; done) | (rw [if_pos ⟨c_27, Or.inr c_52⟩]; done) | (rw [if_neg (fun h => c_27 h.1)]; done) | (rw [if_neg (fun h => h.2.elim (fun g => by omega) (fun g => Int.not_lt.mpr c_52 g))]; done)) (by omega) hP hD hS (lv_sub hl [2, 3, 1, 0] rfl)
              · refine lv_iload_n hx hb dX3_truest_55 rfl (lv_at hl 3 rfl) ?_
                refine lv_goto (tgt := 60) hx hb dX3_truest_56 (by decide) ?_
                refine lv_istore_n (lv' := [(2, .int (zI ((k : Int)))), (0, .ref h0), (1, .int (zI (n))), (3, .int (zI ((k : Int))))]) hx hb dX3_truest_60 rfl hl (by decide) rfl (fun ls hl => ?_)
                refine lv_iinc (v := zI ((k : Int) + 1)) (lv' := [(3, .int (zI ((k : Int) + 1))), (2, .int (zI ((k : Int)))), (0, .ref h0), (1, .int (zI (n)))]) hx hb dX3_truest_61 hl (k := 3) rfl (zI_add _ _) (by decide) rfl (fun ls hl => ?_)
                refine lv_goto (tgt := 15) hx hb dX3_truest_64 (by decide) ?_
                exact ih_a (k + 1) ((k : Int)) _ _ _ (by omega) (by rw [amn_s e_x]; first | (rw [if_pos ⟨c_27, Or.inl c_31⟩]; done) | (rw [if_pos ⟨c_27, Or.inr c_52⟩]; done) | (rw [if_neg (fun h => c_27 h.1)]; done) | (rw [if_neg (fun h => h.2.elim (fun g => by omega) (fun g => Int.not_lt.mpr c_52 g))]; done)) (by omega) hP hD hS (lv_sub hl [2, 3, 1, 0] rfl)
    exact loop_a 70 (0) (-6) _ _ _ (by omega) (rfl) (by omega) hP hD hS (lv_sub hl [2, 3, 1, 0] rfl)
  · refine lv_bipush (v := zI (-2)) hx hb dX3_truest_7 (by decide +kernel) ?_
    exact hret _ _ _ _ _ () dX3_truest_9 (by unfold A_truest; first | rw [if_neg c_4]) hP hS
abbrev rmX3_range : Room := { frames := 5, cells := 0, slots := 0, locals := 110 }
set_option maxHeartbeats 4000000 in
set_option maxRecDepth 100000 in
theorem c_X3_range (l : Launch) (D : va_G) (cI cJ cZ cO : ClassId) (sz : Nat) (h0 : Nat) (a0 : Nat) (a1 : Nat) (a2 : Nat) (a3 : Nat) (a4 : Nat) (a5 : Nat) (a6 : Nat) (σ : Int → Int) (q : Int) (h_q : -2147483648 ≤ q ∧ q < 2147483648) (hO : Ok σ) : Met l yX3_range wsX3_range rmX3_range (zPc D cI cJ cZ cO [(h0, .inr (3, [.ref a0, .ref a1, .ref a2, .ref a3, .ref a4, .ref a5, .ref a6])), (a0, .inl (cI, 22, .inl (zF (σ))))] sz [.ref h0, .int (zI (q))]) (zQi D (fun (r : Int32) (_ : Unit) => r = zI (A_range σ q)) (fun (_ : Unit) => [(h0, .inr (3, [.ref a0, .ref a1, .ref a2, .ref a3, .ref a4, .ref a5, .ref a6])), (a0, .inl (cI, 22, .inl (zF (σ))))]) [(h0, .inr (3, [.ref a0, .ref a1, .ref a2, .ref a3, .ref a4, .ref a5, .ref a6])), (a0, .inl (cI, 22, .inl (zF (σ))))] sz) 0 0 (va_A [(h0, .inr (3, [.ref a0, .ref a1, .ref a2, .ref a3, .ref a4, .ref a5, .ref a6])), (a0, .inl (cI, 22, .inl (zF (σ))))] sz) := by
  refine z_meti (by decide) rfl (Nat.le_of_ble_eq_true rfl) ?_
  intro p e s m args below meth c A Q ls hx hb hml hown hts hA hS hP hD hK hZ hl hret
  have hl : lv_has ls 5 [(0, .ref h0), (1, .int (zI (q)))] := hl
  refine lv_iload_n hx hb dX3_range_0 rfl (lv_at hl 1 rfl) ?_
  refine lv_iconst (v := zI (-1)) hx hb dX3_range_1 rfl ?_
  refine lv_bipush (v := zI (64)) hx hb dX3_range_2 (by decide +kernel) ?_
  refine z_Sir (As := [.int (zI (q)), .int (zI (-1)), .int (zI (64))]) (rest := []) hx hb hml hown hts hA hS hP hD hK hZ hl.1 (c_X3_in l D cI cJ cZ cO _ (q) (-1) (64) (by omega)) (va_cwS 3 hts gX3_range_X3_in rfl rfl rfl (by decide +kernel) ⟨Nat.le_of_ble_eq_true rfl, Nat.le_of_ble_eq_true rfl⟩) [] rfl rfl rfl rfl (Nat.le_of_ble_eq_true rfl) ⟨Nat.zero_le _, Nat.zero_le _⟩ dX3_range_4 (fun r u H locs hw hP hS => ?_)
  subst hw
  refine z_ifB_ne (P := (-1) ≤ q ∧ q ≤ 64) (tgt := 13) hx hb dX3_range_7 (by decide) (fun c_7 => ?_) (fun c_7 => ?_)
  · refine lv_iconst (v := zI (0)) hx hb dX3_range_13 rfl ?_
    refine lv_istore_n (lv' := [(2, .int (zI (0))), (0, .ref h0), (1, .int (zI (q)))]) hx hb dX3_range_14 rfl hl (by decide) rfl (fun ls hl => ?_)
    refine lv_iconst (v := zI (0)) hx hb dX3_range_15 rfl ?_
    refine lv_istore_n (lv' := [(3, .int (zI (0))), (2, .int (zI (0))), (0, .ref h0), (1, .int (zI (q)))]) hx hb dX3_range_16 rfl hl (by decide) rfl (fun ls hl => ?_)
    have loop_a : ∀ (f_a : Nat) (k : Nat) (x : Int) (H : Heap) (locs : List Loc) (ls : Array Slot), (k ≤ 37) → (x = cnt (fun n => decide (if q = -1 then 0 < cnt (fun w => sd σ w n) 64 else cnt (fun w => sd σ w n) 64 = q)) k) → (37 - (k : Int) < (f_a : Int)) → va_P D vwCl [(h0, .inr (3, [.ref a0, .ref a1, .ref a2, .ref a3, .ref a4, .ref a5, .ref a6])), (a0, .inl (cI, 22, .inl (zF (σ))))] H → va_D A [(h0, .inr (3, [.ref a0, .ref a1, .ref a2, .ref a3, .ref a4, .ref a5, .ref a6])), (a0, .inl (cI, 22, .inl (zF (σ))))] → va_S A s.heap H locs → lv_has ls 5 [(0, .ref h0), (1, .int (zI (q))), (2, .int (zI (x))), (3, .int (zI ((k : Int))))] → W p l e rmX3_range s m args below meth c H locs 0 0 Q (F0 m 17 ls []) := by
      intro f_a
      induction f_a with
      | zero =>
        intros
        exfalso; omega
      | succ f_a ih_a =>
        intro k x H locs ls e_k e_x hfu_a hP hD hS hl
        have e_b := cnt_in (fun w => sd σ w (k : Int)) 64
        refine lv_iload_n hx hb dX3_range_17 rfl (lv_at hl 3 rfl) ?_
        refine lv_bipush (v := zI (37)) hx hb dX3_range_18 (by decide +kernel) ?_
        refine z_icmp_ge (a := (k : Int)) (b := 37) (tgt := 63) hx hb (by omega) dX3_range_20 (by decide) (fun c_20 => ?_) (fun c_20 => ?_)
        · refine lv_iload_n hx hb dX3_range_63 rfl (lv_at hl 2 rfl) ?_
          exact hret _ _ _ _ _ () dX3_range_64 (by unfold A_range; rw [if_pos c_7, e_x, show k = 37 by omega]) hP hS
        · refine lv_aload_n hx hb dX3_range_23 rfl (lv_at hl 0 rfl) ?_
          refine lv_iload_n hx hb dX3_range_24 rfl (lv_at hl 3 rfl) ?_
          refine z_Vir (As := [.int (zI ((k : Int)))]) (rest := []) hx hb hml hown hts hA hS hP hD hK hZ hl.1 (c_X3_waysOf l D cI cJ cZ cO _ (h0) (a0) (a1) (a2) (a3) (a4) (a5) (a6) (σ) ((k : Int)) (by omega) hO) (cwV 1 hts gX3_range_X3_waysOf rfl rfl rfl (by decide +kernel) ⟨Nat.le_of_ble_eq_true rfl, Nat.le_of_ble_eq_true rfl⟩) [0, 1] rfl rfl 0 3 rfl rfl rfl rfl (Nat.le_of_ble_eq_true rfl) ⟨Nat.zero_le _, Nat.zero_le _⟩ dX3_range_25 (fun r u H locs hw hP hS => ?_)
          subst hw
          refine lv_istore (lv' := [(4, .int (zI (cnt (fun w => sd σ w (k : Int)) 64))), (0, .ref h0), (1, .int (zI (q))), (2, .int (zI (x))), (3, .int (zI ((k : Int))))]) hx hb dX3_range_28 hl (by decide) rfl (fun ls hl => ?_)
          refine lv_iload_n hx hb dX3_range_30 rfl (lv_at hl 3 rfl) ?_
          refine lv_iload_n hx hb dX3_range_31 rfl (lv_at hl 2 rfl) ?_
          refine lv_iconst (v := zI (-1)) hx hb dX3_range_32 rfl ?_
          refine z_icmp_ne (a := q) (b := -1) (tgt := 44) hx hb (by omega) dX3_range_33 (by decide) (fun c_33 => ?_) (fun c_33 => ?_)
          · refine lv_iload hx hb dX3_range_44 (lv_at hl 0 rfl) ?_
            refine lv_iload_n hx hb dX3_range_46 rfl (lv_at hl 2 rfl) ?_
            refine z_icmp_ne (a := cnt (fun w => sd σ w (k : Int)) 64) (b := q) (tgt := 54) hx hb (by omega) dX3_range_47 (by decide) (fun c_47 => ?_) (fun c_47 => ?_)
            · refine lv_iconst (v := zI (0)) hx hb dX3_range_54 rfl ?_
              refine z_iadd (a := x) (b := 0) hx hb dX3_range_55 ?_
              refine lv_istore_n (lv' := [(2, .int (zI (x + 0))), (4, .int (zI (cnt (fun w => sd σ w (k : Int)) 64))), (0, .ref h0), (1, .int (zI (q))), (3, .int (zI ((k : Int))))]) hx hb dX3_range_56 rfl hl (by decide) rfl (fun ls hl => ?_)
              refine lv_iinc (v := zI ((k : Int) + 1)) (lv' := [(3, .int (zI ((k : Int) + 1))), (2, .int (zI (x + 0))), (4, .int (zI (cnt (fun w => sd σ w (k : Int)) 64))), (0, .ref h0), (1, .int (zI (q)))]) hx hb dX3_range_57 hl (k := 4) rfl (zI_add _ _) (by decide) rfl (fun ls hl => ?_)
              refine lv_goto (tgt := 17) hx hb dX3_range_60 (by decide) ?_
              exact ih_a (k + 1) (x + 0) _ _ _ (by omega) (by rw [cnt_s e_x]; first | (rw [if_pos (by simp only [decide_eq_true_eq]; first | (rw [if_pos c_33]; omega) | (rw [if_neg c_33]; omega))]; done) | (rw [if_neg (by simp only [decide_eq_true_eq]; first | (rw [if_pos c_33]; omega) | (rw [if_neg c_33]; omega))]; done)) (by omega) hP hD hS (lv_sub hl [3, 4, 1, 0] rfl)
            · refine lv_iconst (v := zI (1)) hx hb dX3_range_50 rfl ?_
              refine lv_goto (tgt := 55) hx hb dX3_range_51 (by decide) ?_
              refine z_iadd (a := x) (b := 1) hx hb dX3_range_55 ?_
              refine lv_istore_n (lv' := [(2, .int (zI (x + 1))), (4, .int (zI (cnt (fun w => sd σ w (k : Int)) 64))), (0, .ref h0), (1, .int (zI (q))), (3, .int (zI ((k : Int))))]) hx hb dX3_range_56 rfl hl (by decide) rfl (fun ls hl => ?_)
              refine lv_iinc (v := zI ((k : Int) + 1)) (lv' := [(3, .int (zI ((k : Int) + 1))), (2, .int (zI (x + 1))), (4, .int (zI (cnt (fun w => sd σ w (k : Int)) 64))), (0, .ref h0), (1, .int (zI (q)))]) hx hb dX3_range_57 hl (k := 4) rfl (zI_add _ _) (by decide) rfl (fun ls hl => ?_)
              refine lv_goto (tgt := 17) hx hb dX3_range_60 (by decide) ?_
              exact ih_a (k + 1) (x + 1) _ _ _ (by omega) (by rw [cnt_s e_x]; first | (rw [if_pos (by simp only [decide_eq_true_eq]; first | (rw [if_pos c_33]; omega) | (rw [if_neg c_33]; omega))]; done) | (rw [if_neg (by simp only [decide_eq_true_eq]; first | (rw [if_pos c_33]; omega) | (rw [if_neg c_33]; omega))]; done)) (by omega) hP hD hS (lv_sub hl [3, 4, 1, 0] rfl)
          · refine lv_iload hx hb dX3_range_36 (lv_at hl 0 rfl) ?_
            refine z_if_le (a := cnt (fun w => sd σ w (k : Int)) 64) (tgt := 54) hx hb (by omega) dX3_range_38 (by decide) (fun c_38 => ?_) (fun c_38 => ?_)
            · refine lv_iconst (v := zI (0)) hx hb dX3_range_54 rfl ?_
              refine z_iadd (a := x) (b := 0) hx hb dX3_range_55 ?_
              refine lv_istore_n (lv' := [(2, .int (zI (x + 0))), (4, .int (zI (cnt (fun w => sd σ w (k : Int)) 64))), (0, .ref h0), (1, .int (zI (q))), (3, .int (zI ((k : Int))))]) hx hb dX3_range_56 rfl hl (by decide) rfl (fun ls hl => ?_)
              refine lv_iinc (v := zI ((k : Int) + 1)) (lv' := [(3, .int (zI ((k : Int) + 1))), (2, .int (zI (x + 0))), (4, .int (zI (cnt (fun w => sd σ w (k : Int)) 64))), (0, .ref h0), (1, .int (zI (q)))]) hx hb dX3_range_57 hl (k := 4) rfl (zI_add _ _) (by decide) rfl (fun ls hl => ?_)
              refine lv_goto (tgt := 17) hx hb dX3_range_60 (by decide) ?_
              exact ih_a (k + 1) (x + 0) _ _ _ (by omega) (by rw [cnt_s e_x]; first | (rw [if_pos (by simp only [decide_eq_true_eq]; first | (rw [if_pos c_33]; omega) | (rw [if_neg c_33]; omega))]; done) | (rw [if_neg (by simp only [decide_eq_true_eq]; first | (rw [if_pos c_33]; omega) | (rw [if_neg c_33]; omega))]; done)) (by omega) hP hD hS (lv_sub hl [3, 4, 1, 0] rfl)
            · refine lv_goto (tgt := 50) hx hb dX3_range_41 (by decide) ?_
              refine lv_iconst (v := zI (1)) hx hb dX3_range_50 rfl ?_
              refine lv_goto (tgt := 55) hx hb dX3_range_51 (by decide) ?_
              refine z_iadd (a := x) (b := 1) hx hb dX3_range_55 ?_
              refine lv_istore_n (lv' := [(2, .int (zI (x + 1))), (4, .int (zI (cnt (fun w => sd σ w (k : Int)) 64))), (0, .ref h0), (1, .int (zI (q))), (3, .int (zI ((k : Int))))]) hx hb dX3_range_56 rfl hl (by decide) rfl (fun ls hl => ?_)
              refine lv_iinc (v := zI ((k : Int) + 1)) (lv' := [(3, .int (zI ((k : Int) + 1))), (2, .int (zI (x + 1))), (4, .int (zI (cnt (fun w => sd σ w (k : Int)) 64))), (0, .ref h0), (1, .int (zI (q)))]) hx hb dX3_range_57 hl (k := 4) rfl (zI_add _ _) (by decide) rfl (fun ls hl => ?_)
              refine lv_goto (tgt := 17) hx hb dX3_range_60 (by decide) ?_
              exact ih_a (k + 1) (x + 1) _ _ _ (by omega) (by rw [cnt_s e_x]; first | (rw [if_pos (by simp only [decide_eq_true_eq]; first | (rw [if_pos c_33]; omega) | (rw [if_neg c_33]; omega))]; done) | (rw [if_neg (by simp only [decide_eq_true_eq]; first | (rw [if_pos c_33]; omega) | (rw [if_neg c_33]; omega))]; done)) (by omega) hP hD hS (lv_sub hl [3, 4, 1, 0] rfl)
    exact loop_a 70 (0) (0) _ _ _ (by omega) (rfl) (by omega) hP hD hS (lv_sub hl [2, 3, 1, 0] rfl)
  · refine lv_bipush (v := zI (-2)) hx hb dX3_range_10 (by decide +kernel) ?_
    exact hret _ _ _ _ _ () dX3_range_12 (by unfold A_range; first | rw [if_neg c_7]) hP hS
abbrev rmX3_trillOf : Room := { frames := 4, cells := 0, slots := 0, locals := 87 }
set_option maxHeartbeats 4000000 in
set_option maxRecDepth 100000 in
theorem c_X3_trillOf (l : Launch) (D : va_G) (cI cJ cZ cO : ClassId) (sz : Nat) (h0 : Nat) (a0 : Nat) (a1 : Nat) (a2 : Nat) (a3 : Nat) (a4 : Nat) (a5 : Nat) (a6 : Nat) (σ : Int → Int) (a : Int) (b : Int) (h1 : (0 ≤ a ∧ a ≤ 36) ∧ 0 ≤ b ∧ b ≤ 36) (hO : Ok σ) : Met l yX3_trillOf wsX3_trillOf rmX3_trillOf (zPc D cI cJ cZ cO [(h0, .inr (3, [.ref a0, .ref a1, .ref a2, .ref a3, .ref a4, .ref a5, .ref a6])), (a0, .inl (cI, 22, .inl (zF (σ))))] sz [.ref h0, .int (zI (a)), .int (zI (b))]) (zQi D (fun (r : Int32) (_ : Unit) => r = zI (tro σ a b 64)) (fun (_ : Unit) => [(h0, .inr (3, [.ref a0, .ref a1, .ref a2, .ref a3, .ref a4, .ref a5, .ref a6])), (a0, .inl (cI, 22, .inl (zF (σ))))]) [(h0, .inr (3, [.ref a0, .ref a1, .ref a2, .ref a3, .ref a4, .ref a5, .ref a6])), (a0, .inl (cI, 22, .inl (zF (σ))))] sz) 0 0 (va_A [(h0, .inr (3, [.ref a0, .ref a1, .ref a2, .ref a3, .ref a4, .ref a5, .ref a6])), (a0, .inl (cI, 22, .inl (zF (σ))))] sz) := by
  refine z_meti (by decide) rfl (Nat.le_of_ble_eq_true rfl) ?_
  intro p e s m args below meth c A Q ls hx hb hml hown hts hA hS hP hD hK hZ hl hret
  have hl : lv_has ls 7 [(0, .ref h0), (1, .int (zI (a))), (2, .int (zI (b)))] := hl
  refine lv_bipush (v := zI (-6)) hx hb dX3_trillOf_0 (by decide +kernel) ?_
  refine lv_istore_n (lv' := [(3, .int (zI (-6))), (0, .ref h0), (1, .int (zI (a))), (2, .int (zI (b)))]) hx hb dX3_trillOf_2 rfl hl (by decide) rfl (fun ls hl => ?_)
  refine lv_iconst (v := zI (0)) hx hb dX3_trillOf_3 rfl ?_
  refine lv_istore (lv' := [(4, .int (zI (0))), (3, .int (zI (-6))), (0, .ref h0), (1, .int (zI (a))), (2, .int (zI (b)))]) hx hb dX3_trillOf_4 hl (by decide) rfl (fun ls hl => ?_)
  have loop_a : ∀ (f_a : Nat) (k : Nat) (x : Int) (H : Heap) (locs : List Loc) (ls : Array Slot), (k ≤ 64) → (-6 ≤ x ∧ x ≤ 126) → (x = tro σ a b k) → (64 - (k : Int) < (f_a : Int)) → va_P D vwCl [(h0, .inr (3, [.ref a0, .ref a1, .ref a2, .ref a3, .ref a4, .ref a5, .ref a6])), (a0, .inl (cI, 22, .inl (zF (σ))))] H → va_D A [(h0, .inr (3, [.ref a0, .ref a1, .ref a2, .ref a3, .ref a4, .ref a5, .ref a6])), (a0, .inl (cI, 22, .inl (zF (σ))))] → va_S A s.heap H locs → lv_has ls 7 [(0, .ref h0), (1, .int (zI (a))), (2, .int (zI (b))), (3, .int (zI (x))), (4, .int (zI ((k : Int))))] → W p l e rmX3_trillOf s m args below meth c H locs 0 0 Q (F0 m 6 ls []) := by
    intro f_a
    induction f_a with
    | zero =>
      intros
      exfalso; omega
    | succ f_a ih_a =>
      intro k x H locs ls e_k e_b e_x hfu_a hP hD hS hl
      refine lv_iload hx hb dX3_trillOf_6 (lv_at hl 4 rfl) ?_
      refine lv_bipush (v := zI (64)) hx hb dX3_trillOf_8 (by decide +kernel) ?_
      refine z_icmp_ge (a := (k : Int)) (b := 64) (tgt := 82) hx hb (by omega) dX3_trillOf_10 (by decide) (fun c_10 => ?_) (fun c_10 => ?_)
      · refine lv_iload_n hx hb dX3_trillOf_82 rfl (lv_at hl 3 rfl) ?_
        exact hret _ _ _ _ _ () dX3_trillOf_83 (by rw [e_x, show k = 64 by omega]) hP hS
      · refine lv_iconst (v := zI (0)) hx hb dX3_trillOf_13 rfl ?_
        refine lv_istore (lv' := [(5, .int (zI (0))), (0, .ref h0), (1, .int (zI (a))), (2, .int (zI (b))), (3, .int (zI (x))), (4, .int (zI ((k : Int))))]) hx hb dX3_trillOf_14 hl (by decide) rfl (fun ls hl => ?_)
        have loop_b : ∀ (f_b : Nat) (i : Nat) (y : Int) (H : Heap) (locs : List Loc) (ls : Array Slot), (i ≤ 64) → (i = 0 ∨ sd σ (k : Int) a = true) → (y = mbs (fun v => sd σ v b) (fun v => eff σ (k : Int) v) x i) → (-6 ≤ y ∧ y ≤ 126) → (64 - (i : Int) < (f_b : Int)) → va_P D vwCl [(h0, .inr (3, [.ref a0, .ref a1, .ref a2, .ref a3, .ref a4, .ref a5, .ref a6])), (a0, .inl (cI, 22, .inl (zF (σ))))] H → va_D A [(h0, .inr (3, [.ref a0, .ref a1, .ref a2, .ref a3, .ref a4, .ref a5, .ref a6])), (a0, .inl (cI, 22, .inl (zF (σ))))] → va_S A s.heap H locs → lv_has ls 7 [(0, .ref h0), (1, .int (zI (a))), (2, .int (zI (b))), (3, .int (zI (y))), (4, .int (zI ((k : Int)))), (5, .int (zI ((i : Int))))] → W p l e rmX3_trillOf s m args below meth c H locs 0 0 Q (F0 m 16 ls []) := by
          intro f_b
          induction f_b with
          | zero =>
            intros
            exfalso; omega
          | succ f_b ih_b =>
            intro i y H locs ls e_i e_j e_y e_c hfu_b hP hD hS hl
            refine lv_iload hx hb dX3_trillOf_16 (lv_at hl 5 rfl) ?_
            refine lv_bipush (v := zI (64)) hx hb dX3_trillOf_18 (by decide +kernel) ?_
            refine z_icmp_ge (a := (i : Int)) (b := 64) (tgt := 76) hx hb (by omega) dX3_trillOf_20 (by decide) (fun c_20 => ?_) (fun c_20 => ?_)
            · refine lv_iinc (v := zI ((k : Int) + 1)) (lv' := [(4, .int (zI ((k : Int) + 1))), (0, .ref h0), (1, .int (zI (a))), (2, .int (zI (b))), (3, .int (zI (y))), (5, .int (zI ((i : Int))))]) hx hb dX3_trillOf_76 hl (k := 4) rfl (zI_add _ _) (by decide) rfl (fun ls hl => ?_)
              refine lv_goto (tgt := 6) hx hb dX3_trillOf_79 (by decide) ?_
              exact ih_a (k + 1) (y) _ _ _ (by omega) (by omega) (by rw [tro_s e_x]; first | (rw [if_neg c_30, e_y, show i = 0 from e_j.resolve_right c_30]; rfl) | (rw [if_pos (e_j.resolve_left (by omega)), e_y, show i = 64 by omega]; done)) (by omega) hP hD hS (lv_sub hl [1, 2, 3, 4, 0] rfl)
            · refine lv_aload_n hx hb dX3_trillOf_23 rfl (lv_at hl 0 rfl) ?_
              refine lv_iload hx hb dX3_trillOf_24 (lv_at hl 4 rfl) ?_
              refine lv_iload_n hx hb dX3_trillOf_26 rfl (lv_at hl 1 rfl) ?_
              refine z_Vir (As := [.int (zI ((k : Int))), .int (zI (a))]) (rest := []) hx hb hml hown hts hA hS hP hD hK hZ hl.1 (c_X3_sounds l D cI cJ cZ cO _ (h0) (a0) (a1) (a2) (a3) (a4) (a5) (a6) (σ) ((k : Int)) (a) (by omega) (by omega) hO) (cwV 2 hts gX3_trillOf_X3_sounds rfl rfl rfl (by decide +kernel) ⟨Nat.le_of_ble_eq_true rfl, Nat.le_of_ble_eq_true rfl⟩) [0, 1] rfl rfl 0 3 rfl rfl rfl rfl (Nat.le_of_ble_eq_true rfl) ⟨Nat.zero_le _, Nat.zero_le _⟩ dX3_trillOf_27 (fun r u H locs hw hP hS => ?_)
              subst hw
              refine z_ifB_eq (P := sd σ (k : Int) a = true) (tgt := 76) hx hb dX3_trillOf_30 (by decide) (fun c_30 => ?_) (fun c_30 => ?_)
              · refine lv_iinc (v := zI ((k : Int) + 1)) (lv' := [(4, .int (zI ((k : Int) + 1))), (0, .ref h0), (1, .int (zI (a))), (2, .int (zI (b))), (3, .int (zI (y))), (5, .int (zI ((i : Int))))]) hx hb dX3_trillOf_76 hl (k := 4) rfl (zI_add _ _) (by decide) rfl (fun ls hl => ?_)
                refine lv_goto (tgt := 6) hx hb dX3_trillOf_79 (by decide) ?_
                exact ih_a (k + 1) (y) _ _ _ (by omega) (by omega) (by rw [tro_s e_x]; first | (rw [if_neg c_30, e_y, show i = 0 from e_j.resolve_right c_30]; rfl) | (rw [if_pos (e_j.resolve_left (by omega)), e_y, show i = 64 by omega]; done)) (by omega) hP hD hS (lv_sub hl [1, 2, 3, 4, 0] rfl)
              · refine lv_aload_n hx hb dX3_trillOf_33 rfl (lv_at hl 0 rfl) ?_
                refine lv_iload hx hb dX3_trillOf_34 (lv_at hl 5 rfl) ?_
                refine lv_iload_n hx hb dX3_trillOf_36 rfl (lv_at hl 2 rfl) ?_
                refine z_Vir (As := [.int (zI ((i : Int))), .int (zI (b))]) (rest := []) hx hb hml hown hts hA hS hP hD hK hZ hl.1 (c_X3_sounds l D cI cJ cZ cO _ (h0) (a0) (a1) (a2) (a3) (a4) (a5) (a6) (σ) ((i : Int)) (b) (by omega) (by omega) hO) (cwV 2 hts gX3_trillOf_X3_sounds rfl rfl rfl (by decide +kernel) ⟨Nat.le_of_ble_eq_true rfl, Nat.le_of_ble_eq_true rfl⟩) [0, 1] rfl rfl 0 3 rfl rfl rfl rfl (Nat.le_of_ble_eq_true rfl) ⟨Nat.zero_le _, Nat.zero_le _⟩ dX3_trillOf_37 (fun r u H locs hw hP hS => ?_)
                subst hw
                refine z_ifB_eq (P := sd σ (i : Int) b = true) (tgt := 70) hx hb dX3_trillOf_40 (by decide) (fun c_40 => ?_) (fun c_40 => ?_)
                · refine lv_iinc (v := zI ((i : Int) + 1)) (lv' := [(5, .int (zI ((i : Int) + 1))), (0, .ref h0), (1, .int (zI (a))), (2, .int (zI (b))), (3, .int (zI (y))), (4, .int (zI ((k : Int))))]) hx hb dX3_trillOf_70 hl (k := 5) rfl (zI_add _ _) (by decide) rfl (fun ls hl => ?_)
                  refine lv_goto (tgt := 16) hx hb dX3_trillOf_73 (by decide) ?_
                  exact ih_b (i + 1) (y) _ _ _ (by omega) (Or.inr c_30) (by rw [mbs_s e_y]; first | (rw [if_neg c_40]; done) | (rw [if_pos c_40, if_pos (Or.inl c_54)]; done) | (rw [if_pos c_40, if_pos (Or.inr c_60)]; done) | (rw [if_pos c_40, if_neg (fun h => h.elim (fun g => by omega) (fun g => Int.not_lt.mpr c_60 g))]; done)) (by omega) (by omega) hP hD hS (lv_sub hl [1, 2, 3, 4, 5, 0] rfl)
                · have he := eff_in hO (a := (k : Int)) (b := (i : Int)) (by omega) (by omega)
                  refine lv_aload_n hx hb dX3_trillOf_43 rfl (lv_at hl 0 rfl) ?_
                  refine lv_iload hx hb dX3_trillOf_44 (lv_at hl 4 rfl) ?_
                  refine lv_iload hx hb dX3_trillOf_46 (lv_at hl 5 rfl) ?_
                  refine z_Vir (As := [.int (zI ((k : Int))), .int (zI ((i : Int)))]) (rest := []) hx hb hml hown hts hA hS hP hD hK hZ hl.1 (c_X3_effortOf l D cI cJ cZ cO _ (h0) (a0) (a1) (a2) (a3) (a4) (a5) (a6) (σ) ((k : Int)) ((i : Int)) (by omega) hO) (cwV 2 hts gX3_trillOf_X3_effortOf rfl rfl rfl (by decide +kernel) ⟨Nat.le_of_ble_eq_true rfl, Nat.le_of_ble_eq_true rfl⟩) [0, 1] rfl rfl 0 3 rfl rfl rfl rfl (Nat.le_of_ble_eq_true rfl) ⟨Nat.zero_le _, Nat.zero_le _⟩ dX3_trillOf_48 (fun r u H locs hw hP hS => ?_)
                  subst hw
                  refine lv_istore (lv' := [(6, .int (zI (eff σ (k : Int) (i : Int)))), (0, .ref h0), (1, .int (zI (a))), (2, .int (zI (b))), (3, .int (zI (y))), (4, .int (zI ((k : Int)))), (5, .int (zI ((i : Int))))]) hx hb dX3_trillOf_51 hl (by decide) rfl (fun ls hl => ?_)
                  refine lv_iload_n hx hb dX3_trillOf_53 rfl (lv_at hl 4 rfl) ?_
                  refine z_if_lt (a := y) (tgt := 63) hx hb (by omega) dX3_trillOf_54 (by decide) (fun c_54 => ?_) (fun c_54 => ?_)
                  · refine lv_iload hx hb dX3_trillOf_63 (lv_at hl 0 rfl) ?_
                    refine lv_goto (tgt := 69) hx hb dX3_trillOf_65 (by decide) ?_
                    refine lv_istore_n (lv' := [(3, .int (zI (eff σ (k : Int) (i : Int)))), (6, .int (zI (eff σ (k : Int) (i : Int)))), (0, .ref h0), (1, .int (zI (a))), (2, .int (zI (b))), (4, .int (zI ((k : Int)))), (5, .int (zI ((i : Int))))]) hx hb dX3_trillOf_69 rfl hl (by decide) rfl (fun ls hl => ?_)
                    refine lv_iinc (v := zI ((i : Int) + 1)) (lv' := [(5, .int (zI ((i : Int) + 1))), (3, .int (zI (eff σ (k : Int) (i : Int)))), (6, .int (zI (eff σ (k : Int) (i : Int)))), (0, .ref h0), (1, .int (zI (a))), (2, .int (zI (b))), (4, .int (zI ((k : Int))))]) hx hb dX3_trillOf_70 hl (k := 6) rfl (zI_add _ _) (by decide) rfl (fun ls hl => ?_)
                    refine lv_goto (tgt := 16) hx hb dX3_trillOf_73 (by decide) ?_
                    exact ih_b (i + 1) (eff σ (k : Int) (i : Int)) _ _ _ (by omega) (Or.inr c_30) (by rw [mbs_s e_y]; first | (rw [if_neg c_40]; done) | (rw [if_pos c_40, if_pos (Or.inl c_54)]; done) | (rw [if_pos c_40, if_pos (Or.inr c_60)]; done) | (rw [if_pos c_40, if_neg (fun h => h.elim (fun g => by omega) (fun g => Int.not_lt.mpr c_60 g))]; done)) (by omega) (by omega) hP hD hS (lv_sub hl [3, 4, 5, 1, 6, 0] rfl)
                  · refine lv_iload hx hb dX3_trillOf_57 (lv_at hl 0 rfl) ?_
                    refine lv_iload_n hx hb dX3_trillOf_59 rfl (lv_at hl 4 rfl) ?_
                    refine z_icmp_ge (a := eff σ (k : Int) (i : Int)) (b := y) (tgt := 68) hx hb (by omega) dX3_trillOf_60 (by decide) (fun c_60 => ?_) (fun c_60 => ?_)
                    · refine lv_iload_n hx hb dX3_trillOf_68 rfl (lv_at hl 4 rfl) ?_
                      refine lv_istore_n (lv' := [(3, .int (zI (y))), (6, .int (zI (eff σ (k : Int) (i : Int)))), (0, .ref h0), (1, .int (zI (a))), (2, .int (zI (b))), (4, .int (zI ((k : Int)))), (5, .int (zI ((i : Int))))]) hx hb dX3_trillOf_69 rfl hl (by decide) rfl (fun ls hl => ?_)
                      refine lv_iinc (v := zI ((i : Int) + 1)) (lv' := [(5, .int (zI ((i : Int) + 1))), (3, .int (zI (y))), (6, .int (zI (eff σ (k : Int) (i : Int)))), (0, .ref h0), (1, .int (zI (a))), (2, .int (zI (b))), (4, .int (zI ((k : Int))))]) hx hb dX3_trillOf_70 hl (k := 6) rfl (zI_add _ _) (by decide) rfl (fun ls hl => ?_)
                      refine lv_goto (tgt := 16) hx hb dX3_trillOf_73 (by decide) ?_
                      exact ih_b (i + 1) (y) _ _ _ (by omega) (Or.inr c_30) (by rw [mbs_s e_y]; first | (rw [if_neg c_40]; done) | (rw [if_pos c_40, if_pos (Or.inl c_54)]; done) | (rw [if_pos c_40, if_pos (Or.inr c_60)]; done) | (rw [if_pos c_40, if_neg (fun h => h.elim (fun g => by omega) (fun g => Int.not_lt.mpr c_60 g))]; done)) (by omega) (by omega) hP hD hS (lv_sub hl [3, 4, 5, 1, 6, 0] rfl)
                    · refine lv_iload hx hb dX3_trillOf_63 (lv_at hl 0 rfl) ?_
                      refine lv_goto (tgt := 69) hx hb dX3_trillOf_65 (by decide) ?_
                      refine lv_istore_n (lv' := [(3, .int (zI (eff σ (k : Int) (i : Int)))), (6, .int (zI (eff σ (k : Int) (i : Int)))), (0, .ref h0), (1, .int (zI (a))), (2, .int (zI (b))), (4, .int (zI ((k : Int)))), (5, .int (zI ((i : Int))))]) hx hb dX3_trillOf_69 rfl hl (by decide) rfl (fun ls hl => ?_)
                      refine lv_iinc (v := zI ((i : Int) + 1)) (lv' := [(5, .int (zI ((i : Int) + 1))), (3, .int (zI (eff σ (k : Int) (i : Int)))), (6, .int (zI (eff σ (k : Int) (i : Int)))), (0, .ref h0), (1, .int (zI (a))), (2, .int (zI (b))), (4, .int (zI ((k : Int))))]) hx hb dX3_trillOf_70 hl (k := 6) rfl (zI_add _ _) (by decide) rfl (fun ls hl => ?_)
                      refine lv_goto (tgt := 16) hx hb dX3_trillOf_73 (by decide) ?_
                      exact ih_b (i + 1) (eff σ (k : Int) (i : Int)) _ _ _ (by omega) (Or.inr c_30) (by rw [mbs_s e_y]; first | (rw [if_neg c_40]; done) | (rw [if_pos c_40, if_pos (Or.inl c_54)]; done) | (rw [if_pos c_40, if_pos (Or.inr c_60)]; done) | (rw [if_pos c_40, if_neg (fun h => h.elim (fun g => by omega) (fun g => Int.not_lt.mpr c_60 g))]; done)) (by omega) (by omega) hP hD hS (lv_sub hl [3, 4, 5, 1, 6, 0] rfl)
        exact loop_b 70 (0) (x) _ _ _ (by omega) (Or.inl rfl) (rfl) (by omega) (by omega) hP hD hS (lv_sub hl [1, 2, 3, 4, 5, 0] rfl)
  exact loop_a 70 (0) (-6) _ _ _ (by omega) (by omega) (rfl) (by omega) hP hD hS (lv_sub hl [2, 3, 4, 1, 0] rfl)
abbrev rmX3_trill : Room := { frames := 5, cells := 0, slots := 0, locals := 113 }
set_option maxHeartbeats 4000000 in
set_option maxRecDepth 100000 in
theorem c_X3_trill (l : Launch) (D : va_G) (cI cJ cZ cO : ClassId) (sz : Nat) (h0 : Nat) (a0 : Nat) (a1 : Nat) (a2 : Nat) (a3 : Nat) (a4 : Nat) (a5 : Nat) (a6 : Nat) (σ : Int → Int) (a : Int) (b : Int) (h_a : -2147483648 ≤ a ∧ a < 2147483648) (h_b : -2147483648 ≤ b ∧ b < 2147483648) (hO : Ok σ) : Met l yX3_trill wsX3_trill rmX3_trill (zPc D cI cJ cZ cO [(h0, .inr (3, [.ref a0, .ref a1, .ref a2, .ref a3, .ref a4, .ref a5, .ref a6])), (a0, .inl (cI, 22, .inl (zF (σ))))] sz [.ref h0, .int (zI (a)), .int (zI (b))]) (zQi D (fun (r : Int32) (_ : Unit) => r = zI (A_trill σ a b)) (fun (_ : Unit) => [(h0, .inr (3, [.ref a0, .ref a1, .ref a2, .ref a3, .ref a4, .ref a5, .ref a6])), (a0, .inl (cI, 22, .inl (zF (σ))))]) [(h0, .inr (3, [.ref a0, .ref a1, .ref a2, .ref a3, .ref a4, .ref a5, .ref a6])), (a0, .inl (cI, 22, .inl (zF (σ))))] sz) 0 0 (va_A [(h0, .inr (3, [.ref a0, .ref a1, .ref a2, .ref a3, .ref a4, .ref a5, .ref a6])), (a0, .inl (cI, 22, .inl (zF (σ))))] sz) := by
  refine z_meti (by decide) rfl (Nat.le_of_ble_eq_true rfl) ?_
  intro p e s m args below meth c A Q ls hx hb hml hown hts hA hS hP hD hK hZ hl hret
  have hl : lv_has ls 3 [(0, .ref h0), (1, .int (zI (a))), (2, .int (zI (b)))] := hl
  refine lv_iload_n hx hb dX3_trill_0 rfl (lv_at hl 1 rfl) ?_
  refine z_Sir (As := [.int (zI (a))]) (rest := []) hx hb hml hown hts hA hS hP hD hK hZ hl.1 (c_X3_isNote l D cI cJ cZ cO _ (a) (by omega)) (va_cwS 1 hts gX3_trill_X3_isNote rfl rfl rfl (by decide +kernel) ⟨Nat.le_of_ble_eq_true rfl, Nat.le_of_ble_eq_true rfl⟩) [] rfl rfl rfl rfl (Nat.le_of_ble_eq_true rfl) ⟨Nat.zero_le _, Nat.zero_le _⟩ dX3_trill_1 (fun r u H locs hw hP hS => ?_)
  subst hw
  refine z_ifB_eq (P := 0 ≤ a ∧ a ≤ 36) (tgt := 23) hx hb dX3_trill_4 (by decide) (fun c_4 => ?_) (fun c_4 => ?_)
  · refine lv_bipush (v := zI (-2)) hx hb dX3_trill_23 (by decide +kernel) ?_
    exact hret _ _ _ _ _ () dX3_trill_25 (by unfold A_trill; first | rw [if_neg c_4] | rw [if_pos c_4, if_neg c_11] | rw [if_pos c_4, if_pos c_11]) hP hS
  · refine lv_iload_n hx hb dX3_trill_7 rfl (lv_at hl 2 rfl) ?_
    refine z_Sir (As := [.int (zI (b))]) (rest := []) hx hb hml hown hts hA hS hP hD hK hZ hl.1 (c_X3_isNote l D cI cJ cZ cO _ (b) (by omega)) (va_cwS 1 hts gX3_trill_X3_isNote rfl rfl rfl (by decide +kernel) ⟨Nat.le_of_ble_eq_true rfl, Nat.le_of_ble_eq_true rfl⟩) [] rfl rfl rfl rfl (Nat.le_of_ble_eq_true rfl) ⟨Nat.zero_le _, Nat.zero_le _⟩ dX3_trill_8 (fun r u H locs hw hP hS => ?_)
    subst hw
    refine z_ifB_eq (P := 0 ≤ b ∧ b ≤ 36) (tgt := 23) hx hb dX3_trill_11 (by decide) (fun c_11 => ?_) (fun c_11 => ?_)
    · refine lv_bipush (v := zI (-2)) hx hb dX3_trill_23 (by decide +kernel) ?_
      exact hret _ _ _ _ _ () dX3_trill_25 (by unfold A_trill; first | rw [if_neg c_4] | rw [if_pos c_4, if_neg c_11] | rw [if_pos c_4, if_pos c_11]) hP hS
    · refine lv_aload_n hx hb dX3_trill_14 rfl (lv_at hl 0 rfl) ?_
      refine lv_iload_n hx hb dX3_trill_15 rfl (lv_at hl 1 rfl) ?_
      refine lv_iload_n hx hb dX3_trill_16 rfl (lv_at hl 2 rfl) ?_
      refine z_Vir (As := [.int (zI (a)), .int (zI (b))]) (rest := []) hx hb hml hown hts hA hS hP hD hK hZ hl.1 (c_X3_trillOf l D cI cJ cZ cO _ (h0) (a0) (a1) (a2) (a3) (a4) (a5) (a6) (σ) (a) (b) (by omega) hO) (cwV 2 hts gX3_trill_X3_trillOf rfl rfl rfl (by decide +kernel) ⟨Nat.le_of_ble_eq_true rfl, Nat.le_of_ble_eq_true rfl⟩) [0, 1] rfl rfl 0 3 rfl rfl rfl rfl (Nat.le_of_ble_eq_true rfl) ⟨Nat.zero_le _, Nat.zero_le _⟩ dX3_trill_17 (fun r u H locs hw hP hS => ?_)
      subst hw
      refine lv_goto (tgt := 25) hx hb dX3_trill_20 (by decide) ?_
      exact hret _ _ _ _ _ () dX3_trill_25 (by unfold A_trill; first | rw [if_neg c_4] | rw [if_pos c_4, if_neg c_11] | rw [if_pos c_4, if_pos c_11]) hP hS
abbrev rmX3_awkward : Room := { frames := 5, cells := 0, slots := 0, locals := 113 }
set_option maxHeartbeats 4000000 in
set_option maxRecDepth 100000 in
theorem c_X3_awkward (l : Launch) (D : va_G) (cI cJ cZ cO : ClassId) (sz : Nat) (h0 : Nat) (a0 : Nat) (a1 : Nat) (a2 : Nat) (a3 : Nat) (a4 : Nat) (a5 : Nat) (a6 : Nat) (σ : Int → Int) (d : Int) (t : Int) (h_d : -2147483648 ≤ d ∧ d < 2147483648) (h_t : -2147483648 ≤ t ∧ t < 2147483648) (hO : Ok σ) : Met l yX3_awkward wsX3_awkward rmX3_awkward (zPc D cI cJ cZ cO [(h0, .inr (3, [.ref a0, .ref a1, .ref a2, .ref a3, .ref a4, .ref a5, .ref a6])), (a0, .inl (cI, 22, .inl (zF (σ))))] sz [.ref h0, .int (zI (d)), .int (zI (t))]) (zQi D (fun (r : Int32) (_ : Unit) => r = zI (A_awk σ d t)) (fun (_ : Unit) => [(h0, .inr (3, [.ref a0, .ref a1, .ref a2, .ref a3, .ref a4, .ref a5, .ref a6])), (a0, .inl (cI, 22, .inl (zF (σ))))]) [(h0, .inr (3, [.ref a0, .ref a1, .ref a2, .ref a3, .ref a4, .ref a5, .ref a6])), (a0, .inl (cI, 22, .inl (zF (σ))))] sz) 0 0 (va_A [(h0, .inr (3, [.ref a0, .ref a1, .ref a2, .ref a3, .ref a4, .ref a5, .ref a6])), (a0, .inl (cI, 22, .inl (zF (σ))))] sz) := by
  refine z_meti (by decide) rfl (Nat.le_of_ble_eq_true rfl) ?_
  intro p e s m args below meth c A Q ls hx hb hml hown hts hA hS hP hD hK hZ hl hret
  have hl : lv_has ls 5 [(0, .ref h0), (1, .int (zI (d))), (2, .int (zI (t)))] := hl
  refine lv_iload_n hx hb dX3_awkward_0 rfl (lv_at hl 1 rfl) ?_
  refine lv_iconst (v := zI (1)) hx hb dX3_awkward_1 rfl ?_
  refine lv_bipush (v := zI (12)) hx hb dX3_awkward_2 (by decide +kernel) ?_
  refine z_Sir (As := [.int (zI (d)), .int (zI (1)), .int (zI (12))]) (rest := []) hx hb hml hown hts hA hS hP hD hK hZ hl.1 (c_X3_in l D cI cJ cZ cO _ (d) (1) (12) (by omega)) (va_cwS 3 hts gX3_awkward_X3_in rfl rfl rfl (by decide +kernel) ⟨Nat.le_of_ble_eq_true rfl, Nat.le_of_ble_eq_true rfl⟩) [] rfl rfl rfl rfl (Nat.le_of_ble_eq_true rfl) ⟨Nat.zero_le _, Nat.zero_le _⟩ dX3_awkward_4 (fun r u H locs hw hP hS => ?_)
  subst hw
  refine z_ifB_eq (P := 1 ≤ d ∧ d ≤ 12) (tgt := 20) hx hb dX3_awkward_7 (by decide) (fun c_7 => ?_) (fun c_7 => ?_)
  · refine lv_bipush (v := zI (-2)) hx hb dX3_awkward_20 (by decide +kernel) ?_
    exact hret _ _ _ _ _ () dX3_awkward_22 (by unfold A_awk; first | rw [if_neg c_7] | rw [if_pos c_7, if_neg c_17]) hP hS
  · refine lv_iload_n hx hb dX3_awkward_10 rfl (lv_at hl 2 rfl) ?_
    refine lv_iconst (v := zI (0)) hx hb dX3_awkward_11 rfl ?_
    refine lv_bipush (v := zI (99)) hx hb dX3_awkward_12 (by decide +kernel) ?_
    refine z_Sir (As := [.int (zI (t)), .int (zI (0)), .int (zI (99))]) (rest := []) hx hb hml hown hts hA hS hP hD hK hZ hl.1 (c_X3_in l D cI cJ cZ cO _ (t) (0) (99) (by omega)) (va_cwS 3 hts gX3_awkward_X3_in rfl rfl rfl (by decide +kernel) ⟨Nat.le_of_ble_eq_true rfl, Nat.le_of_ble_eq_true rfl⟩) [] rfl rfl rfl rfl (Nat.le_of_ble_eq_true rfl) ⟨Nat.zero_le _, Nat.zero_le _⟩ dX3_awkward_14 (fun r u H locs hw hP hS => ?_)
    subst hw
    refine z_ifB_ne (P := 0 ≤ t ∧ t ≤ 99) (tgt := 23) hx hb dX3_awkward_17 (by decide) (fun c_17 => ?_) (fun c_17 => ?_)
    · refine lv_iconst (v := zI (0)) hx hb dX3_awkward_23 rfl ?_
      refine lv_istore_n (lv' := [(3, .int (zI (0))), (0, .ref h0), (1, .int (zI (d))), (2, .int (zI (t)))]) hx hb dX3_awkward_24 rfl hl (by decide) rfl (fun ls hl => ?_)
      refine lv_iconst (v := zI (0)) hx hb dX3_awkward_25 rfl ?_
      refine lv_istore (lv' := [(4, .int (zI (0))), (3, .int (zI (0))), (0, .ref h0), (1, .int (zI (d))), (2, .int (zI (t)))]) hx hb dX3_awkward_26 hl (by decide) rfl (fun ls hl => ?_)
      have loop_a : ∀ (f_a : Nat) (k : Nat) (x : Int) (H : Heap) (locs : List Loc) (ls : Array Slot), ((k : Int) ≤ 37 - d) → (x = cnt (fun n => decide (t < tro σ n (n + d) 64)) k) → (37 - (k : Int) < (f_a : Int)) → va_P D vwCl [(h0, .inr (3, [.ref a0, .ref a1, .ref a2, .ref a3, .ref a4, .ref a5, .ref a6])), (a0, .inl (cI, 22, .inl (zF (σ))))] H → va_D A [(h0, .inr (3, [.ref a0, .ref a1, .ref a2, .ref a3, .ref a4, .ref a5, .ref a6])), (a0, .inl (cI, 22, .inl (zF (σ))))] → va_S A s.heap H locs → lv_has ls 5 [(0, .ref h0), (1, .int (zI (d))), (2, .int (zI (t))), (3, .int (zI (x))), (4, .int (zI ((k : Int))))] → W p l e rmX3_awkward s m args below meth c H locs 0 0 Q (F0 m 28 ls []) := by
        intro f_a
        induction f_a with
        | zero =>
          intros
          exfalso; omega
        | succ f_a ih_a =>
          intro k x H locs ls e_k e_x hfu_a hP hD hS hl
          have e_b := tro_in hO (k : Int) ((k : Int) + d) 64 (by omega)
          refine lv_iload hx hb dX3_awkward_28 (lv_at hl 4 rfl) ?_
          refine lv_iload_n hx hb dX3_awkward_30 rfl (lv_at hl 1 rfl) ?_
          refine z_iadd (a := (k : Int)) (b := d) hx hb dX3_awkward_31 ?_
          refine lv_bipush (v := zI (37)) hx hb dX3_awkward_32 (by decide +kernel) ?_
          refine z_icmp_ge (a := (k : Int) + d) (b := 37) (tgt := 65) hx hb (by omega) dX3_awkward_34 (by decide) (fun c_34 => ?_) (fun c_34 => ?_)
          · refine lv_iload_n hx hb dX3_awkward_65 rfl (lv_at hl 3 rfl) ?_
            exact hret _ _ _ _ _ () dX3_awkward_66 (by unfold A_awk; rw [if_pos c_7, if_pos c_17, e_x, show k = (37 - d).toNat by omega]) hP hS
          · refine lv_iload_n hx hb dX3_awkward_37 rfl (lv_at hl 3 rfl) ?_
            refine lv_aload_n hx hb dX3_awkward_38 rfl (lv_at hl 0 rfl) ?_
            refine lv_iload hx hb dX3_awkward_39 (lv_at hl 4 rfl) ?_
            refine lv_iload hx hb dX3_awkward_41 (lv_at hl 4 rfl) ?_
            refine lv_iload_n hx hb dX3_awkward_43 rfl (lv_at hl 1 rfl) ?_
            refine z_iadd (a := (k : Int)) (b := d) hx hb dX3_awkward_44 ?_
            refine z_Vir (As := [.int (zI ((k : Int))), .int (zI ((k : Int) + d))]) (rest := [.int (zI (x))]) hx hb hml hown hts hA hS hP hD hK hZ hl.1 (c_X3_trillOf l D cI cJ cZ cO _ (h0) (a0) (a1) (a2) (a3) (a4) (a5) (a6) (σ) ((k : Int)) ((k : Int) + d) (by omega) hO) (cwV 2 hts gX3_awkward_X3_trillOf rfl rfl rfl (by decide +kernel) ⟨Nat.le_of_ble_eq_true rfl, Nat.le_of_ble_eq_true rfl⟩) [0, 1] rfl rfl 0 3 rfl rfl rfl rfl (Nat.le_of_ble_eq_true rfl) ⟨Nat.zero_le _, Nat.zero_le _⟩ dX3_awkward_45 (fun r u H locs hw hP hS => ?_)
            subst hw
            refine lv_iload_n hx hb dX3_awkward_48 rfl (lv_at hl 2 rfl) ?_
            refine z_icmp_le (a := tro σ (k : Int) ((k : Int) + d) 64) (b := t) (tgt := 56) hx hb (by omega) dX3_awkward_49 (by decide) (fun c_49 => ?_) (fun c_49 => ?_)
            · refine lv_iconst (v := zI (0)) hx hb dX3_awkward_56 rfl ?_
              refine z_iadd (a := x) (b := 0) hx hb dX3_awkward_57 ?_
              refine lv_istore_n (lv' := [(3, .int (zI (x + 0))), (0, .ref h0), (1, .int (zI (d))), (2, .int (zI (t))), (4, .int (zI ((k : Int))))]) hx hb dX3_awkward_58 rfl hl (by decide) rfl (fun ls hl => ?_)
              refine lv_iinc (v := zI ((k : Int) + 1)) (lv' := [(4, .int (zI ((k : Int) + 1))), (3, .int (zI (x + 0))), (0, .ref h0), (1, .int (zI (d))), (2, .int (zI (t)))]) hx hb dX3_awkward_59 hl (k := 4) rfl (zI_add _ _) (by decide) rfl (fun ls hl => ?_)
              refine lv_goto (tgt := 28) hx hb dX3_awkward_62 (by decide) ?_
              exact ih_a (k + 1) (x + 0) _ _ _ (by omega) (by rw [cnt_s e_x]; first | (rw [if_pos (decide_eq_true c_49)]; done) | (rw [if_neg (by rw [decide_eq_true_eq]; omega)]; done)) (by omega) hP hD hS (lv_sub hl [2, 3, 4, 1, 0] rfl)
            · refine lv_iconst (v := zI (1)) hx hb dX3_awkward_52 rfl ?_
              refine lv_goto (tgt := 57) hx hb dX3_awkward_53 (by decide) ?_
              refine z_iadd (a := x) (b := 1) hx hb dX3_awkward_57 ?_
              refine lv_istore_n (lv' := [(3, .int (zI (x + 1))), (0, .ref h0), (1, .int (zI (d))), (2, .int (zI (t))), (4, .int (zI ((k : Int))))]) hx hb dX3_awkward_58 rfl hl (by decide) rfl (fun ls hl => ?_)
              refine lv_iinc (v := zI ((k : Int) + 1)) (lv' := [(4, .int (zI ((k : Int) + 1))), (3, .int (zI (x + 1))), (0, .ref h0), (1, .int (zI (d))), (2, .int (zI (t)))]) hx hb dX3_awkward_59 hl (k := 4) rfl (zI_add _ _) (by decide) rfl (fun ls hl => ?_)
              refine lv_goto (tgt := 28) hx hb dX3_awkward_62 (by decide) ?_
              exact ih_a (k + 1) (x + 1) _ _ _ (by omega) (by rw [cnt_s e_x]; first | (rw [if_pos (decide_eq_true c_49)]; done) | (rw [if_neg (by rw [decide_eq_true_eq]; omega)]; done)) (by omega) hP hD hS (lv_sub hl [2, 3, 4, 1, 0] rfl)
      exact loop_a 70 (0) (0) _ _ _ (by omega) (rfl) (by omega) hP hD hS (lv_sub hl [2, 3, 4, 1, 0] rfl)
    · refine lv_bipush (v := zI (-2)) hx hb dX3_awkward_20 (by decide +kernel) ?_
      exact hret _ _ _ _ _ () dX3_awkward_22 (by unfold A_awk; first | rw [if_neg c_7] | rw [if_pos c_7, if_neg c_17]) hP hS
abbrev rmX3_offOfPart : Room := { frames := 3, cells := 0, slots := 0, locals := 65 }
theorem in_X3_offOfPart_X3 : ∀ w ∈ wsX30, w ∈ wsX3_offOfPart := fun _ h => List.mem_cons_of_mem _ (List.mem_append_right _ h)
theorem m_X3_offOfPart_0 : (.fieldLink RX3 7 "BrassWaysModel" "state" "[I" : Cond) ∈ wsX3_offOfPart := List.mem_of_getElem? (i := 1) rfl
set_option maxHeartbeats 4000000 in
set_option maxRecDepth 100000 in
theorem c_X3_offOfPart (l : Launch) (D : va_G) (cI cJ cZ cO : ClassId) (sz : Nat) (h0 : Nat) (a0 : Nat) (a1 : Nat) (a2 : Nat) (a3 : Nat) (a4 : Nat) (a5 : Nat) (a6 : Nat) (σ : Int → Int) (hO : Ok σ) : Met l yX3_offOfPart wsX3_offOfPart rmX3_offOfPart (zPc D cI cJ cZ cO [(h0, .inr (3, [.ref a0, .ref a1, .ref a2, .ref a3, .ref a4, .ref a5, .ref a6])), (a0, .inl (cI, 22, .inl (zF (σ))))] sz [.ref h0]) (zQi D (fun (r : Int32) (_ : Unit) => r = zI (A_ofp σ)) (fun (_ : Unit) => [(h0, .inr (3, [.ref a0, .ref a1, .ref a2, .ref a3, .ref a4, .ref a5, .ref a6])), (a0, .inl (cI, 22, .inl (zF (σ))))]) [(h0, .inr (3, [.ref a0, .ref a1, .ref a2, .ref a3, .ref a4, .ref a5, .ref a6])), (a0, .inl (cI, 22, .inl (zF (σ))))] sz) 0 0 (va_A [(h0, .inr (3, [.ref a0, .ref a1, .ref a2, .ref a3, .ref a4, .ref a5, .ref a6])), (a0, .inl (cI, 22, .inl (zF (σ))))] sz) := by
  refine z_meti (by decide) rfl (Nat.le_of_ble_eq_true rfl) ?_
  intro p e s m args below meth c A Q ls hx hb hml hown hts hA hS hP hD hK hZ hl hret
  have hl : lv_has ls 6 [(0, .ref h0)] := hl
  have o9 := hO.2.2.2.2.2.2.2.2.2.1
  refine lv_iconst (v := zI (0)) hx hb dX3_offOfPart_0 rfl ?_
  refine lv_istore_n (lv' := [(1, .int (zI (0))), (0, .ref h0)]) hx hb dX3_offOfPart_1 rfl hl (by decide) rfl (fun ls hl => ?_)
  refine lv_iconst (v := zI (0)) hx hb dX3_offOfPart_2 rfl ?_
  refine lv_istore_n (lv' := [(2, .int (zI (0))), (1, .int (zI (0))), (0, .ref h0)]) hx hb dX3_offOfPart_3 rfl hl (by decide) rfl (fun ls hl => ?_)
  have loop_a : ∀ (f_a : Nat) (k : Nat) (x : Int) (H : Heap) (locs : List Loc) (ls : Array Slot), ((k : Int) ≤ σ 9) → (-6 * (k : Int) ≤ x ∧ x ≤ 4800 * (k : Int)) → (x = ofp σ k) → (12 - (k : Int) < (f_a : Int)) → va_P D vwCl [(h0, .inr (3, [.ref a0, .ref a1, .ref a2, .ref a3, .ref a4, .ref a5, .ref a6])), (a0, .inl (cI, 22, .inl (zF (σ))))] H → va_D A [(h0, .inr (3, [.ref a0, .ref a1, .ref a2, .ref a3, .ref a4, .ref a5, .ref a6])), (a0, .inl (cI, 22, .inl (zF (σ))))] → va_S A s.heap H locs → lv_has ls 6 [(0, .ref h0), (1, .int (zI (x))), (2, .int (zI ((k : Int))))] → W p l e rmX3_offOfPart s m args below meth c H locs 0 0 Q (F0 m 4 ls []) := by
    intro f_a
    induction f_a with
    | zero =>
      intros
      exfalso; omega
    | succ f_a ih_a =>
      intro k x H locs ls e_k e_b e_x hfu_a hP hD hS hl
      refine lv_iload_n hx hb dX3_offOfPart_4 rfl (lv_at hl 2 rfl) ?_
      refine lv_aload_n hx hb dX3_offOfPart_5 rfl (lv_at hl 0 rfl) ?_
      refine va_get (D := D) (ci := 3) (v := .ref a0) (C := RX3) (T := TX3) (N := 7) hx hb hts in_X3_offOfPart_X3 hown hK hP 0 rfl rfl 0 (by decide) (hts _ m_X3_offOfPart_0) (fun _ h9 => h9) rfl dX3_offOfPart_6 ?_
      refine lv_bipush (v := zI (9)) hx hb dX3_offOfPart_9 (by decide +kernel) ?_
      refine z_iald (k := 9) (g := σ) hx hb hK hP 1 0 rfl rfl (by omega) dX3_offOfPart_11 ?_
      try dsimp only
      refine z_icmp_ge (a := (k : Int)) (b := σ 9) (tgt := 81) hx hb (by omega) dX3_offOfPart_12 (by decide) (fun c_12 => ?_) (fun c_12 => ?_)
      · refine lv_iload_n hx hb dX3_offOfPart_81 rfl (lv_at hl 1 rfl) ?_
        exact hret _ _ _ _ _ () dX3_offOfPart_82 (by unfold A_ofp; rw [e_x, show k = (σ 9).toNat by omega]) hP hS
      · have o10 := hO.2.2.2.2.2.2.2.2.2.2 (k : Int) (by omega) (by omega)
        refine lv_bipush (v := zI (-6)) hx hb dX3_offOfPart_15 (by decide +kernel) ?_
        refine lv_istore_n (lv' := [(3, .int (zI (-6))), (0, .ref h0), (1, .int (zI (x))), (2, .int (zI ((k : Int))))]) hx hb dX3_offOfPart_17 rfl hl (by decide) rfl (fun ls hl => ?_)
        refine lv_iconst (v := zI (0)) hx hb dX3_offOfPart_18 rfl ?_
        refine lv_istore (lv' := [(4, .int (zI (0))), (3, .int (zI (-6))), (0, .ref h0), (1, .int (zI (x))), (2, .int (zI ((k : Int))))]) hx hb dX3_offOfPart_19 hl (by decide) rfl (fun ls hl => ?_)
        have loop_b : ∀ (f_b : Nat) (i : Nat) (y : Int) (H : Heap) (locs : List Loc) (ls : Array Slot), (i ≤ 64) → (y = mbs (fun _ => true) (fun w => aI (off σ w (σ (10 + (k : Int))))) (-6) i) → (-6 ≤ y ∧ y ≤ 4800) → (64 - (i : Int) < (f_b : Int)) → va_P D vwCl [(h0, .inr (3, [.ref a0, .ref a1, .ref a2, .ref a3, .ref a4, .ref a5, .ref a6])), (a0, .inl (cI, 22, .inl (zF (σ))))] H → va_D A [(h0, .inr (3, [.ref a0, .ref a1, .ref a2, .ref a3, .ref a4, .ref a5, .ref a6])), (a0, .inl (cI, 22, .inl (zF (σ))))] → va_S A s.heap H locs → lv_has ls 6 [(0, .ref h0), (1, .int (zI (x))), (2, .int (zI ((k : Int)))), (3, .int (zI (y))), (4, .int (zI ((i : Int))))] → W p l e rmX3_offOfPart s m args below meth c H locs 0 0 Q (F0 m 21 ls []) := by
          intro f_b
          induction f_b with
          | zero =>
            intros
            exfalso; omega
          | succ f_b ih_b =>
            intro i y H locs ls e_i e_y e_c hfu_b hP hD hS hl
            refine lv_iload hx hb dX3_offOfPart_21 (lv_at hl 4 rfl) ?_
            refine lv_bipush (v := zI (64)) hx hb dX3_offOfPart_23 (by decide +kernel) ?_
            refine z_icmp_ge (a := (i : Int)) (b := 64) (tgt := 71) hx hb (by omega) dX3_offOfPart_25 (by decide) (fun c_25 => ?_) (fun c_25 => ?_)
            · refine lv_iload_n hx hb dX3_offOfPart_71 rfl (lv_at hl 1 rfl) ?_
              refine lv_iload_n hx hb dX3_offOfPart_72 rfl (lv_at hl 3 rfl) ?_
              refine z_iadd (a := x) (b := y) hx hb dX3_offOfPart_73 ?_
              refine lv_istore_n (lv' := [(1, .int (zI (x + y))), (0, .ref h0), (2, .int (zI ((k : Int)))), (3, .int (zI (y))), (4, .int (zI ((i : Int))))]) hx hb dX3_offOfPart_74 rfl hl (by decide) rfl (fun ls hl => ?_)
              refine lv_iinc (v := zI ((k : Int) + 1)) (lv' := [(2, .int (zI ((k : Int) + 1))), (1, .int (zI (x + y))), (0, .ref h0), (3, .int (zI (y))), (4, .int (zI ((i : Int))))]) hx hb dX3_offOfPart_75 hl (k := 2) rfl (zI_add _ _) (by decide) rfl (fun ls hl => ?_)
              refine lv_goto (tgt := 4) hx hb dX3_offOfPart_78 (by decide) ?_
              exact ih_a (k + 1) (x + y) _ _ _ (by omega) (by omega) (by rw [ofp_s e_x, e_y, show i = 64 by omega]; rfl) (by omega) hP hD hS (lv_sub hl [2, 1, 0] rfl)
            · have o1 := off_in hO (w := (i : Int)) (n := σ (10 + (k : Int))) (by omega) o10
              have o3 := aI_in (a := off σ (i : Int) (σ (10 + (k : Int)))) (b := 4800) (by omega)
              refine lv_aload_n hx hb dX3_offOfPart_28 rfl (lv_at hl 0 rfl) ?_
              refine lv_iload hx hb dX3_offOfPart_29 (lv_at hl 4 rfl) ?_
              refine lv_aload_n hx hb dX3_offOfPart_31 rfl (lv_at hl 0 rfl) ?_
              refine va_get (D := D) (ci := 3) (v := .ref a0) (C := RX3) (T := TX3) (N := 7) hx hb hts in_X3_offOfPart_X3 hown hK hP 0 rfl rfl 0 (by decide) (hts _ m_X3_offOfPart_0) (fun _ h9 => h9) rfl dX3_offOfPart_32 ?_
              refine lv_bipush (v := zI (10)) hx hb dX3_offOfPart_35 (by decide +kernel) ?_
              refine lv_iload_n hx hb dX3_offOfPart_37 rfl (lv_at hl 2 rfl) ?_
              refine z_iadd (a := 10) (b := (k : Int)) hx hb dX3_offOfPart_38 ?_
              refine z_iald (k := 10 + (k : Int)) (g := σ) hx hb hK hP 1 0 rfl rfl (by omega) dX3_offOfPart_39 ?_
              try dsimp only
              refine z_Vir (As := [.int (zI ((i : Int))), .int (zI (σ (10 + (k : Int))))]) (rest := []) hx hb hml hown hts hA hS hP hD hK hZ hl.1 (c_X3_offOf l D cI cJ cZ cO _ (h0) (a0) (a1) (a2) (a3) (a4) (a5) (a6) (σ) ((i : Int)) (σ (10 + (k : Int))) (by omega) hO) (cwV 2 hts gX3_offOfPart_X3_offOf rfl rfl rfl (by decide +kernel) ⟨Nat.le_of_ble_eq_true rfl, Nat.le_of_ble_eq_true rfl⟩) [0, 1] rfl rfl 0 3 rfl rfl rfl rfl (Nat.le_of_ble_eq_true rfl) ⟨Nat.zero_le _, Nat.zero_le _⟩ dX3_offOfPart_40 (fun r u H locs hw hP hS => ?_)
              subst hw
              refine z_Sir (As := [.int (zI (off σ (i : Int) (σ (10 + (k : Int)))))]) (rest := []) hx hb hml hown hts hA hS hP hD hK hZ hl.1 (c_X3_size l D cI cJ cZ cO _ (off σ (i : Int) (σ (10 + (k : Int)))) (by omega)) (va_cwS 1 hts gX3_offOfPart_X3_size rfl rfl rfl (by decide +kernel) ⟨Nat.le_of_ble_eq_true rfl, Nat.le_of_ble_eq_true rfl⟩) [] rfl rfl rfl rfl (Nat.le_of_ble_eq_true rfl) ⟨Nat.zero_le _, Nat.zero_le _⟩ dX3_offOfPart_43 (fun r u H locs hw hP hS => ?_)
              subst hw
              refine lv_istore (lv' := [(5, .int (zI (aI (off σ (i : Int) (σ (10 + (k : Int))))))), (0, .ref h0), (1, .int (zI (x))), (2, .int (zI ((k : Int)))), (3, .int (zI (y))), (4, .int (zI ((i : Int))))]) hx hb dX3_offOfPart_46 hl (by decide) rfl (fun ls hl => ?_)
              refine lv_iload_n hx hb dX3_offOfPart_48 rfl (lv_at hl 4 rfl) ?_
              refine z_if_lt (a := y) (tgt := 58) hx hb (by omega) dX3_offOfPart_49 (by decide) (fun c_49 => ?_) (fun c_49 => ?_)
              · refine lv_iload hx hb dX3_offOfPart_58 (lv_at hl 0 rfl) ?_
                refine lv_goto (tgt := 64) hx hb dX3_offOfPart_60 (by decide) ?_
                refine lv_istore_n (lv' := [(3, .int (zI (aI (off σ (i : Int) (σ (10 + (k : Int))))))), (5, .int (zI (aI (off σ (i : Int) (σ (10 + (k : Int))))))), (0, .ref h0), (1, .int (zI (x))), (2, .int (zI ((k : Int)))), (4, .int (zI ((i : Int))))]) hx hb dX3_offOfPart_64 rfl hl (by decide) rfl (fun ls hl => ?_)
                refine lv_iinc (v := zI ((i : Int) + 1)) (lv' := [(4, .int (zI ((i : Int) + 1))), (3, .int (zI (aI (off σ (i : Int) (σ (10 + (k : Int))))))), (5, .int (zI (aI (off σ (i : Int) (σ (10 + (k : Int))))))), (0, .ref h0), (1, .int (zI (x))), (2, .int (zI ((k : Int))))]) hx hb dX3_offOfPart_65 hl (k := 5) rfl (zI_add _ _) (by decide) rfl (fun ls hl => ?_)
                refine lv_goto (tgt := 21) hx hb dX3_offOfPart_68 (by decide) ?_
                exact ih_b (i + 1) (aI (off σ (i : Int) (σ (10 + (k : Int))))) _ _ _ (by omega) (by rw [mbs_s e_y, if_pos rfl]; first | (rw [if_pos (Or.inl c_49)]; done) | (rw [if_pos (Or.inr c_55)]; done) | (rw [if_neg (fun h => h.elim (fun g => by omega) (fun g => Int.not_lt.mpr c_55 g))]; done)) (by omega) (by omega) hP hD hS (lv_sub hl [3, 4, 5, 1, 0] rfl)
              · refine lv_iload hx hb dX3_offOfPart_52 (lv_at hl 0 rfl) ?_
                refine lv_iload_n hx hb dX3_offOfPart_54 rfl (lv_at hl 4 rfl) ?_
                refine z_icmp_ge (a := aI (off σ (i : Int) (σ (10 + (k : Int))))) (b := y) (tgt := 63) hx hb (by omega) dX3_offOfPart_55 (by decide) (fun c_55 => ?_) (fun c_55 => ?_)
                · refine lv_iload_n hx hb dX3_offOfPart_63 rfl (lv_at hl 4 rfl) ?_
                  refine lv_istore_n (lv' := [(3, .int (zI (y))), (5, .int (zI (aI (off σ (i : Int) (σ (10 + (k : Int))))))), (0, .ref h0), (1, .int (zI (x))), (2, .int (zI ((k : Int)))), (4, .int (zI ((i : Int))))]) hx hb dX3_offOfPart_64 rfl hl (by decide) rfl (fun ls hl => ?_)
                  refine lv_iinc (v := zI ((i : Int) + 1)) (lv' := [(4, .int (zI ((i : Int) + 1))), (3, .int (zI (y))), (5, .int (zI (aI (off σ (i : Int) (σ (10 + (k : Int))))))), (0, .ref h0), (1, .int (zI (x))), (2, .int (zI ((k : Int))))]) hx hb dX3_offOfPart_65 hl (k := 5) rfl (zI_add _ _) (by decide) rfl (fun ls hl => ?_)
                  refine lv_goto (tgt := 21) hx hb dX3_offOfPart_68 (by decide) ?_
                  exact ih_b (i + 1) (y) _ _ _ (by omega) (by rw [mbs_s e_y, if_pos rfl]; first | (rw [if_pos (Or.inl c_49)]; done) | (rw [if_pos (Or.inr c_55)]; done) | (rw [if_neg (fun h => h.elim (fun g => by omega) (fun g => Int.not_lt.mpr c_55 g))]; done)) (by omega) (by omega) hP hD hS (lv_sub hl [3, 4, 5, 1, 0] rfl)
                · refine lv_iload hx hb dX3_offOfPart_58 (lv_at hl 0 rfl) ?_
                  refine lv_goto (tgt := 64) hx hb dX3_offOfPart_60 (by decide) ?_
                  refine lv_istore_n (lv' := [(3, .int (zI (aI (off σ (i : Int) (σ (10 + (k : Int))))))), (5, .int (zI (aI (off σ (i : Int) (σ (10 + (k : Int))))))), (0, .ref h0), (1, .int (zI (x))), (2, .int (zI ((k : Int)))), (4, .int (zI ((i : Int))))]) hx hb dX3_offOfPart_64 rfl hl (by decide) rfl (fun ls hl => ?_)
                  refine lv_iinc (v := zI ((i : Int) + 1)) (lv' := [(4, .int (zI ((i : Int) + 1))), (3, .int (zI (aI (off σ (i : Int) (σ (10 + (k : Int))))))), (5, .int (zI (aI (off σ (i : Int) (σ (10 + (k : Int))))))), (0, .ref h0), (1, .int (zI (x))), (2, .int (zI ((k : Int))))]) hx hb dX3_offOfPart_65 hl (k := 5) rfl (zI_add _ _) (by decide) rfl (fun ls hl => ?_)
                  refine lv_goto (tgt := 21) hx hb dX3_offOfPart_68 (by decide) ?_
                  exact ih_b (i + 1) (aI (off σ (i : Int) (σ (10 + (k : Int))))) _ _ _ (by omega) (by rw [mbs_s e_y, if_pos rfl]; first | (rw [if_pos (Or.inl c_49)]; done) | (rw [if_pos (Or.inr c_55)]; done) | (rw [if_neg (fun h => h.elim (fun g => by omega) (fun g => Int.not_lt.mpr c_55 g))]; done)) (by omega) (by omega) hP hD hS (lv_sub hl [3, 4, 5, 1, 0] rfl)
        exact loop_b 70 (0) (-6) _ _ _ (by omega) (rfl) (by omega) (by omega) hP hD hS (lv_sub hl [2, 3, 4, 1, 0] rfl)
  exact loop_a 70 (0) (0) _ _ _ (by omega) (by omega) (rfl) (by omega) hP hD hS (lv_sub hl [2, 1, 0] rfl)
abbrev rmX3_tune : Room := { frames := 4, cells := 0, slots := 0, locals := 90 }
theorem in_X3_tune_X3 : ∀ w ∈ wsX30, w ∈ wsX3_tune := fun _ h => List.mem_cons_of_mem _ (List.mem_append_right _ h)
theorem m_X3_tune_0 : (.fieldLink RX3 7 "BrassWaysModel" "state" "[I" : Cond) ∈ wsX3_tune := List.mem_of_getElem? (i := 1) rfl
set_option maxHeartbeats 4000000 in
set_option maxRecDepth 100000 in
theorem c_X3_tune (l : Launch) (D : va_G) (cI cJ cZ cO : ClassId) (sz : Nat) (h0 : Nat) (a0 : Nat) (a1 : Nat) (a2 : Nat) (a3 : Nat) (a4 : Nat) (a5 : Nat) (a6 : Nat) (σ : Int → Int) (q : Int) (v : Int) (h_q : -2147483648 ≤ q ∧ q < 2147483648) (h_v : -2147483648 ≤ v ∧ v < 2147483648) (hO : Ok σ) : Met l yX3_tune wsX3_tune rmX3_tune (zPc D cI cJ cZ cO [(h0, .inr (3, [.ref a0, .ref a1, .ref a2, .ref a3, .ref a4, .ref a5, .ref a6])), (a0, .inl (cI, 22, .inl (zF (σ))))] sz [.ref h0, .int (zI (q)), .int (zI (v))]) (zQi D (fun (r : Int32) (_ : Unit) => r = zI (A_tune σ q v)) (fun (_ : Unit) => [(h0, .inr (3, [.ref a0, .ref a1, .ref a2, .ref a3, .ref a4, .ref a5, .ref a6])), (a0, .inl (cI, 22, .inl (zF (σ))))]) [(h0, .inr (3, [.ref a0, .ref a1, .ref a2, .ref a3, .ref a4, .ref a5, .ref a6])), (a0, .inl (cI, 22, .inl (zF (σ))))] sz) 0 0 (va_A [(h0, .inr (3, [.ref a0, .ref a1, .ref a2, .ref a3, .ref a4, .ref a5, .ref a6])), (a0, .inl (cI, 22, .inl (zF (σ))))] sz) := by
  refine z_meti (by decide) rfl (Nat.le_of_ble_eq_true rfl) ?_
  intro p e s m args below meth c A Q ls hx hb hml hown hts hA hS hP hD hK hZ hl hret
  have hl : lv_has ls 8 [(0, .ref h0), (1, .int (zI (q))), (2, .int (zI (v)))] := hl
  have o0 := hO.1
  refine lv_iload_n hx hb dX3_tune_0 rfl (lv_at hl 1 rfl) ?_
  refine lv_iconst (v := zI (0)) hx hb dX3_tune_1 rfl ?_
  refine lv_iconst (v := zI (2)) hx hb dX3_tune_2 rfl ?_
  refine z_Sir (As := [.int (zI (q)), .int (zI (0)), .int (zI (2))]) (rest := []) hx hb hml hown hts hA hS hP hD hK hZ hl.1 (c_X3_in l D cI cJ cZ cO _ (q) (0) (2) (by omega)) (va_cwS 3 hts gX3_tune_X3_in rfl rfl rfl (by decide +kernel) ⟨Nat.le_of_ble_eq_true rfl, Nat.le_of_ble_eq_true rfl⟩) [] rfl rfl rfl rfl (Nat.le_of_ble_eq_true rfl) ⟨Nat.zero_le _, Nat.zero_le _⟩ dX3_tune_3 (fun r u H locs hw hP hS => ?_)
  subst hw
  refine z_ifB_ne (P := 0 ≤ q ∧ q ≤ 2) (tgt := 11) hx hb dX3_tune_6 (by decide) (fun c_6 => ?_) (fun c_6 => ?_)
  · refine lv_iload_n hx hb dX3_tune_11 rfl (lv_at hl 2 rfl) ?_
    refine lv_iconst (v := zI (0)) hx hb dX3_tune_12 rfl ?_
    refine lv_iconst (v := zI (1)) hx hb dX3_tune_13 rfl ?_
    refine z_Sir (As := [.int (zI (v)), .int (zI (0)), .int (zI (1))]) (rest := []) hx hb hml hown hts hA hS hP hD hK hZ hl.1 (c_X3_in l D cI cJ cZ cO _ (v) (0) (1) (by omega)) (va_cwS 3 hts gX3_tune_X3_in rfl rfl rfl (by decide +kernel) ⟨Nat.le_of_ble_eq_true rfl, Nat.le_of_ble_eq_true rfl⟩) [] rfl rfl rfl rfl (Nat.le_of_ble_eq_true rfl) ⟨Nat.zero_le _, Nat.zero_le _⟩ dX3_tune_14 (fun r u H locs hw hP hS => ?_)
    subst hw
    refine z_ifB_ne (P := 0 ≤ v ∧ v ≤ 1) (tgt := 23) hx hb dX3_tune_17 (by decide) (fun c_17 => ?_) (fun c_17 => ?_)
    · refine lv_aload_n hx hb dX3_tune_23 rfl (lv_at hl 0 rfl) ?_
      refine va_get (D := D) (ci := 3) (v := .ref a0) (C := RX3) (T := TX3) (N := 7) hx hb hts in_X3_tune_X3 hown hK hP 0 rfl rfl 0 (by decide) (hts _ m_X3_tune_0) (fun _ h9 => h9) rfl dX3_tune_24 ?_
      refine lv_iconst (v := zI (0)) hx hb dX3_tune_27 rfl ?_
      refine z_iald (k := 0) (g := σ) hx hb hK hP 1 0 rfl rfl (by omega) dX3_tune_28 ?_
      try dsimp only
      refine lv_iconst (v := zI (1)) hx hb dX3_tune_29 rfl ?_
      refine z_icmp_ne (a := σ 0) (b := 1) (tgt := 36) hx hb (by omega) dX3_tune_30 (by decide) (fun c_30 => ?_) (fun c_30 => ?_)
      · refine lv_aload_n hx hb dX3_tune_36 rfl (lv_at hl 0 rfl) ?_
        refine va_get (D := D) (ci := 3) (v := .ref a0) (C := RX3) (T := TX3) (N := 7) hx hb hts in_X3_tune_X3 hown hK hP 0 rfl rfl 0 (by decide) (hts _ m_X3_tune_0) (fun _ h9 => h9) rfl dX3_tune_37 ?_
        refine lv_iconst (v := zI (1)) hx hb dX3_tune_40 rfl ?_
        refine lv_iload_n hx hb dX3_tune_41 rfl (lv_at hl 1 rfl) ?_
        refine z_iadd (a := 1) (b := q) hx hb dX3_tune_42 ?_
        refine z_iald (k := 1 + q) (g := σ) hx hb hK hP 1 0 rfl rfl (by omega) dX3_tune_43 ?_
        try dsimp only
        refine lv_istore_n (lv' := [(3, .int (zI (σ (1 + q)))), (0, .ref h0), (1, .int (zI (q))), (2, .int (zI (v)))]) hx hb dX3_tune_44 rfl hl (by decide) rfl (fun ls hl => ?_)
        refine lv_bipush (v := zI (-6)) hx hb dX3_tune_45 (by decide +kernel) ?_
        refine lv_istore (lv' := [(4, .int (zI (-6))), (3, .int (zI (σ (1 + q)))), (0, .ref h0), (1, .int (zI (q))), (2, .int (zI (v)))]) hx hb dX3_tune_47 hl (by decide) rfl (fun ls hl => ?_)
        refine lv_iconst (v := zI (0)) hx hb dX3_tune_49 rfl ?_
        refine lv_istore (lv' := [(5, .int (zI (0))), (4, .int (zI (-6))), (3, .int (zI (σ (1 + q)))), (0, .ref h0), (1, .int (zI (q))), (2, .int (zI (v)))]) hx hb dX3_tune_50 hl (by decide) rfl (fun ls hl => ?_)
        refine lv_iconst (v := zI (0)) hx hb dX3_tune_52 rfl ?_
        refine lv_istore (lv' := [(6, .int (zI (0))), (5, .int (zI (0))), (4, .int (zI (-6))), (3, .int (zI (σ (1 + q)))), (0, .ref h0), (1, .int (zI (q))), (2, .int (zI (v)))]) hx hb dX3_tune_53 hl (by decide) rfl (fun ls hl => ?_)
        have loop_a : ∀ (f_a : Nat) (k : Nat) (z : Int) (b : Int) (t : Int) (g : Int → Int) (H : Heap) (locs : List Loc) (ls : Array Slot), (k ≤ 81) → (z = 5 * (k : Int)) → (-6 ≤ b ∧ b ≤ 400) → (-72 ≤ t ∧ t ≤ 57600) → ((b, t) = tuB (tuF σ q) k) → (∀ z : Int, upI g (1 + q) z = upI σ (1 + q) z) → (82 - (k : Int) < (f_a : Int)) → va_P D vwCl [(h0, .inr (3, [.ref a0, .ref a1, .ref a2, .ref a3, .ref a4, .ref a5, .ref a6])), (a0, .inl (cI, 22, .inl (zF (g))))] H → va_D A [(h0, .inr (3, [.ref a0, .ref a1, .ref a2, .ref a3, .ref a4, .ref a5, .ref a6])), (a0, .inl (cI, 22, .inl (zF (g))))] → va_S A s.heap H locs → lv_has ls 8 [(0, .ref h0), (1, .int (zI (q))), (2, .int (zI (v))), (3, .int (zI (σ (1 + q)))), (4, .int (zI (b))), (5, .int (zI (t))), (6, .int (zI (z)))] → W p l e rmX3_tune s m args below meth c H locs 0 0 Q (F0 m 55 ls []) := by
          intro f_a
          induction f_a with
          | zero =>
            intros
            exfalso; omega
          | succ f_a ih_a =>
            intro k z b t g H locs ls e_k e_z e_b e_t e_p e_g hfu_a hP hD hS hl
            refine lv_iload hx hb dX3_tune_55 (lv_at hl 6 rfl) ?_
            refine lv_sipush (v := zI (400)) hx hb dX3_tune_57 (by decide +kernel) ?_
            refine z_icmp_gt (a := z) (b := 400) (tgt := 105) hx hb (by omega) dX3_tune_60 (by decide) (fun c_60 => ?_) (fun c_60 => ?_)
            · refine lv_aload_n hx hb dX3_tune_105 rfl (lv_at hl 0 rfl) ?_
              refine va_get (D := D) (ci := 3) (v := .ref a0) (C := RX3) (T := TX3) (N := 7) hx hb hts in_X3_tune_X3 hown hK hP 0 rfl rfl 0 (by decide) (hts _ m_X3_tune_0) (fun _ h9 => h9) rfl dX3_tune_106 ?_
              refine lv_iconst (v := zI (1)) hx hb dX3_tune_109 rfl ?_
              refine lv_iload_n hx hb dX3_tune_110 rfl (lv_at hl 1 rfl) ?_
              refine z_iadd (a := 1) (b := q) hx hb dX3_tune_111 ?_
              refine lv_iload_n hx hb dX3_tune_112 rfl (lv_at hl 3 rfl) ?_
              refine z_iast (k := 1 + q) (x := σ (1 + q)) (g := g) hx hb hK hP hD hS 1 0 rfl rfl (by omega) dX3_tune_113 (fun H locs hP hD hS => ?_)
              have hP : va_P D vwCl [(h0, .inr (3, [.ref a0, .ref a1, .ref a2, .ref a3, .ref a4, .ref a5, .ref a6])), (a0, .inl (cI, 22, .inl (zF (upI g (1 + q) (σ (1 + q))))))] H := hP
              have hD : va_D A [(h0, .inr (3, [.ref a0, .ref a1, .ref a2, .ref a3, .ref a4, .ref a5, .ref a6])), (a0, .inl (cI, 22, .inl (zF (upI g (1 + q) (σ (1 + q))))))] := hD
              have e0 : (upI g (1 + q) (σ (1 + q))) = (σ) := (by rw [e_g, upI_self])
              rw [e0] at hP hD
              refine lv_iload_n hx hb dX3_tune_114 rfl (lv_at hl 2 rfl) ?_
              refine z_if_ne (a := v) (tgt := 123) hx hb (by omega) dX3_tune_115 (by decide) (fun c_115 => ?_) (fun c_115 => ?_)
              · refine lv_iload hx hb dX3_tune_123 (lv_at hl 5 rfl) ?_
                exact hret _ _ _ _ _ () dX3_tune_125 (by rw [show k = 81 by omega] at e_p; unfold A_tune; rw [if_pos c_6, if_pos c_17, if_neg c_30, ← e_p]; first | (rw [if_pos c_115]; done) | (rw [if_neg c_115]; done)) hP hS
              · refine lv_iload hx hb dX3_tune_118 (lv_at hl 4 rfl) ?_
                refine lv_goto (tgt := 125) hx hb dX3_tune_120 (by decide) ?_
                exact hret _ _ _ _ _ () dX3_tune_125 (by rw [show k = 81 by omega] at e_p; unfold A_tune; rw [if_pos c_6, if_pos c_17, if_neg c_30, ← e_p]; first | (rw [if_pos c_115]; done) | (rw [if_neg c_115]; done)) hP hS
            · refine lv_aload_n hx hb dX3_tune_63 rfl (lv_at hl 0 rfl) ?_
              refine va_get (D := D) (ci := 3) (v := .ref a0) (C := RX3) (T := TX3) (N := 7) hx hb hts in_X3_tune_X3 hown hK hP 0 rfl rfl 0 (by decide) (hts _ m_X3_tune_0) (fun _ h9 => h9) rfl dX3_tune_64 ?_
              refine lv_iconst (v := zI (1)) hx hb dX3_tune_67 rfl ?_
              refine lv_iload_n hx hb dX3_tune_68 rfl (lv_at hl 1 rfl) ?_
              refine z_iadd (a := 1) (b := q) hx hb dX3_tune_69 ?_
              refine lv_iload hx hb dX3_tune_70 (lv_at hl 6 rfl) ?_
              refine z_iast (k := 1 + q) (x := z) (g := g) hx hb hK hP hD hS 1 0 rfl rfl (by omega) dX3_tune_72 (fun H locs hP hD hS => ?_)
              have hP : va_P D vwCl [(h0, .inr (3, [.ref a0, .ref a1, .ref a2, .ref a3, .ref a4, .ref a5, .ref a6])), (a0, .inl (cI, 22, .inl (zF (upI g (1 + q) z))))] H := hP
              have hD : va_D A [(h0, .inr (3, [.ref a0, .ref a1, .ref a2, .ref a3, .ref a4, .ref a5, .ref a6])), (a0, .inl (cI, 22, .inl (zF (upI g (1 + q) z))))] := hD
              have e0 : (upI g (1 + q) z) = (upI σ (1 + q) z) := (e_g z)
              rw [e0] at hP hD
              have hO2 := Ok_valve hO c_6 (v := z) (by omega)
              have e_o := A_ofp_in hO2
              refine lv_aload_n hx hb dX3_tune_73 rfl (lv_at hl 0 rfl) ?_
              refine z_Vir (As := []) (rest := []) hx hb hml hown hts hA hS hP hD hK hZ hl.1 (c_X3_offOfPart l D cI cJ cZ cO _ (h0) (a0) (a1) (a2) (a3) (a4) (a5) (a6) (upI σ (1 + q) z) hO2) (cwV 0 hts gX3_tune_X3_offOfPart rfl rfl rfl (by decide +kernel) ⟨Nat.le_of_ble_eq_true rfl, Nat.le_of_ble_eq_true rfl⟩) [0, 1] rfl rfl 0 3 rfl rfl rfl rfl (Nat.le_of_ble_eq_true rfl) ⟨Nat.zero_le _, Nat.zero_le _⟩ dX3_tune_74 (fun r u H locs hw hP hS => ?_)
              subst hw
              refine lv_istore (lv' := [(7, .int (zI (A_ofp (upI σ (1 + q) z)))), (0, .ref h0), (1, .int (zI (q))), (2, .int (zI (v))), (3, .int (zI (σ (1 + q)))), (4, .int (zI (b))), (5, .int (zI (t))), (6, .int (zI (z)))]) hx hb dX3_tune_77 hl (by decide) rfl (fun ls hl => ?_)
              refine lv_iload hx hb dX3_tune_79 (lv_at hl 5 rfl) ?_
              refine z_if_lt (a := b) (tgt := 91) hx hb (by omega) dX3_tune_81 (by decide) (fun c_81 => ?_) (fun c_81 => ?_)
              · refine lv_iload hx hb dX3_tune_91 (lv_at hl 7 rfl) ?_
                refine lv_istore (lv' := [(4, .int (zI (z))), (7, .int (zI (A_ofp (upI σ (1 + q) z)))), (0, .ref h0), (1, .int (zI (q))), (2, .int (zI (v))), (3, .int (zI (σ (1 + q)))), (5, .int (zI (t))), (6, .int (zI (z)))]) hx hb dX3_tune_93 hl (by decide) rfl (fun ls hl => ?_)
                refine lv_iload hx hb dX3_tune_95 (lv_at hl 1 rfl) ?_
                refine lv_istore (lv' := [(5, .int (zI (A_ofp (upI σ (1 + q) z)))), (4, .int (zI (z))), (7, .int (zI (A_ofp (upI σ (1 + q) z)))), (0, .ref h0), (1, .int (zI (q))), (2, .int (zI (v))), (3, .int (zI (σ (1 + q)))), (6, .int (zI (z)))]) hx hb dX3_tune_97 hl (by decide) rfl (fun ls hl => ?_)
                refine lv_iinc (v := zI (z + 5)) (lv' := [(6, .int (zI (z + 5))), (5, .int (zI (A_ofp (upI σ (1 + q) z)))), (4, .int (zI (z))), (7, .int (zI (A_ofp (upI σ (1 + q) z)))), (0, .ref h0), (1, .int (zI (q))), (2, .int (zI (v))), (3, .int (zI (σ (1 + q))))]) hx hb dX3_tune_99 hl (k := 7) rfl (zI_add _ _) (by decide) rfl (fun ls hl => ?_)
                refine lv_goto (tgt := 55) hx hb dX3_tune_102 (by decide) ?_
                exact ih_a (k + 1) (z + 5) (z) (A_ofp (upI σ (1 + q) z)) (upI σ (1 + q) z) _ _ _ (by omega) (by omega) (by omega) (by omega) (by rw [tuB_s e_p, ← e_z]; first | (rw [if_pos (Or.inl c_81)]; done) | (rw [if_pos (Or.inr c_88)]; done) | (rw [if_neg (fun h => h.elim (fun g => by omega) (fun g => Int.not_lt.mpr c_88 g))]; done)) (fun z => upI_uu _ _ _ _) (by omega) hP hD hS (lv_sub hl [4, 5, 6, 7, 2, 1, 0] rfl)
              · refine lv_iload hx hb dX3_tune_84 (lv_at hl 0 rfl) ?_
                refine lv_iload hx hb dX3_tune_86 (lv_at hl 6 rfl) ?_
                refine z_icmp_ge (a := A_ofp (upI σ (1 + q) z)) (b := t) (tgt := 99) hx hb (by omega) dX3_tune_88 (by decide) (fun c_88 => ?_) (fun c_88 => ?_)
                · refine lv_iinc (v := zI (z + 5)) (lv' := [(6, .int (zI (z + 5))), (7, .int (zI (A_ofp (upI σ (1 + q) z)))), (0, .ref h0), (1, .int (zI (q))), (2, .int (zI (v))), (3, .int (zI (σ (1 + q)))), (4, .int (zI (b))), (5, .int (zI (t)))]) hx hb dX3_tune_99 hl (k := 7) rfl (zI_add _ _) (by decide) rfl (fun ls hl => ?_)
                  refine lv_goto (tgt := 55) hx hb dX3_tune_102 (by decide) ?_
                  exact ih_a (k + 1) (z + 5) (b) (t) (upI σ (1 + q) z) _ _ _ (by omega) (by omega) (by omega) (by omega) (by rw [tuB_s e_p, ← e_z]; first | (rw [if_pos (Or.inl c_81)]; done) | (rw [if_pos (Or.inr c_88)]; done) | (rw [if_neg (fun h => h.elim (fun g => by omega) (fun g => Int.not_lt.mpr c_88 g))]; done)) (fun z => upI_uu _ _ _ _) (by omega) hP hD hS (lv_sub hl [2, 3, 4, 5, 6, 7, 0] rfl)
                · refine lv_iload hx hb dX3_tune_91 (lv_at hl 7 rfl) ?_
                  refine lv_istore (lv' := [(4, .int (zI (z))), (7, .int (zI (A_ofp (upI σ (1 + q) z)))), (0, .ref h0), (1, .int (zI (q))), (2, .int (zI (v))), (3, .int (zI (σ (1 + q)))), (5, .int (zI (t))), (6, .int (zI (z)))]) hx hb dX3_tune_93 hl (by decide) rfl (fun ls hl => ?_)
                  refine lv_iload hx hb dX3_tune_95 (lv_at hl 1 rfl) ?_
                  refine lv_istore (lv' := [(5, .int (zI (A_ofp (upI σ (1 + q) z)))), (4, .int (zI (z))), (7, .int (zI (A_ofp (upI σ (1 + q) z)))), (0, .ref h0), (1, .int (zI (q))), (2, .int (zI (v))), (3, .int (zI (σ (1 + q)))), (6, .int (zI (z)))]) hx hb dX3_tune_97 hl (by decide) rfl (fun ls hl => ?_)
                  refine lv_iinc (v := zI (z + 5)) (lv' := [(6, .int (zI (z + 5))), (5, .int (zI (A_ofp (upI σ (1 + q) z)))), (4, .int (zI (z))), (7, .int (zI (A_ofp (upI σ (1 + q) z)))), (0, .ref h0), (1, .int (zI (q))), (2, .int (zI (v))), (3, .int (zI (σ (1 + q))))]) hx hb dX3_tune_99 hl (k := 7) rfl (zI_add _ _) (by decide) rfl (fun ls hl => ?_)
                  refine lv_goto (tgt := 55) hx hb dX3_tune_102 (by decide) ?_
                  exact ih_a (k + 1) (z + 5) (z) (A_ofp (upI σ (1 + q) z)) (upI σ (1 + q) z) _ _ _ (by omega) (by omega) (by omega) (by omega) (by rw [tuB_s e_p, ← e_z]; first | (rw [if_pos (Or.inl c_81)]; done) | (rw [if_pos (Or.inr c_88)]; done) | (rw [if_neg (fun h => h.elim (fun g => by omega) (fun g => Int.not_lt.mpr c_88 g))]; done)) (fun z => upI_uu _ _ _ _) (by omega) hP hD hS (lv_sub hl [4, 5, 6, 7, 2, 1, 0] rfl)
        exact loop_a 90 (0) (0) (-6) (0) (σ) _ _ _ (by omega) (by omega) (by omega) (by omega) (rfl) (fun _ => rfl) (by omega) hP hD hS (lv_sub hl [4, 5, 6, 3, 2, 1, 0] rfl)
      · refine lv_bipush (v := zI (-3)) hx hb dX3_tune_33 (by decide +kernel) ?_
        exact hret _ _ _ _ _ () dX3_tune_35 (by unfold A_tune; first | rw [if_pos c_6, if_pos c_17, if_pos c_30]) hP hS
    · refine lv_bipush (v := zI (-2)) hx hb dX3_tune_20 (by decide +kernel) ?_
      exact hret _ _ _ _ _ () dX3_tune_22 (by unfold A_tune; first | rw [if_pos c_6, if_neg c_17]) hP hS
  · refine lv_iconst (v := zI (-1)) hx hb dX3_tune_9 rfl ?_
    exact hret _ _ _ _ _ () dX3_tune_10 (by unfold A_tune; first | rw [if_neg c_6]) hP hS
abbrev rmX3_dumb : Room := { frames := 5, cells := 0, slots := 0, locals := 110 }
theorem in_X3_dumb_X3 : ∀ w ∈ wsX30, w ∈ wsX3_dumb := fun _ h => List.mem_cons_of_mem _ (List.mem_append_right _ h)
theorem m_X3_dumb_0 : (.fieldLink RX3 7 "BrassWaysModel" "state" "[I" : Cond) ∈ wsX3_dumb := List.mem_of_getElem? (i := 1) rfl
set_option maxHeartbeats 4000000 in
set_option maxRecDepth 100000 in
theorem c_X3_dumb (l : Launch) (D : va_G) (cI cJ cZ cO : ClassId) (sz : Nat) (h0 : Nat) (a0 : Nat) (a1 : Nat) (a2 : Nat) (a3 : Nat) (a4 : Nat) (a5 : Nat) (a6 : Nat) (σ : Int → Int) (hO : Ok σ) : Met l yX3_dumb wsX3_dumb rmX3_dumb (zPc D cI cJ cZ cO [(h0, .inr (3, [.ref a0, .ref a1, .ref a2, .ref a3, .ref a4, .ref a5, .ref a6])), (a0, .inl (cI, 22, .inl (zF (σ))))] sz [.ref h0]) (zQi D (fun (r : Int32) (_ : Unit) => r = zI (A_dumb σ)) (fun (_ : Unit) => [(h0, .inr (3, [.ref a0, .ref a1, .ref a2, .ref a3, .ref a4, .ref a5, .ref a6])), (a0, .inl (cI, 22, .inl (zF (σ))))]) [(h0, .inr (3, [.ref a0, .ref a1, .ref a2, .ref a3, .ref a4, .ref a5, .ref a6])), (a0, .inl (cI, 22, .inl (zF (σ))))] sz) 0 0 (va_A [(h0, .inr (3, [.ref a0, .ref a1, .ref a2, .ref a3, .ref a4, .ref a5, .ref a6])), (a0, .inl (cI, 22, .inl (zF (σ))))] sz) := by
  refine z_meti (by decide) rfl (Nat.le_of_ble_eq_true rfl) ?_
  intro p e s m args below meth c A Q ls hx hb hml hown hts hA hS hP hD hK hZ hl hret
  have hl : lv_has ls 2 [(0, .ref h0)] := hl
  have o9 := hO.2.2.2.2.2.2.2.2.2.1
  refine lv_iconst (v := zI (0)) hx hb dX3_dumb_0 rfl ?_
  refine lv_istore_n (lv' := [(1, .int (zI (0))), (0, .ref h0)]) hx hb dX3_dumb_1 rfl hl (by decide) rfl (fun ls hl => ?_)
  have loop_a : ∀ (f_a : Nat) (k : Nat) (H : Heap) (locs : List Loc) (ls : Array Slot), ((k : Int) ≤ σ 9) → (fnd (fun p => decide (cnt (fun w => sd σ w (σ (10 + p))) 64 = 0)) k = -6) → (12 - (k : Int) < (f_a : Int)) → va_P D vwCl [(h0, .inr (3, [.ref a0, .ref a1, .ref a2, .ref a3, .ref a4, .ref a5, .ref a6])), (a0, .inl (cI, 22, .inl (zF (σ))))] H → va_D A [(h0, .inr (3, [.ref a0, .ref a1, .ref a2, .ref a3, .ref a4, .ref a5, .ref a6])), (a0, .inl (cI, 22, .inl (zF (σ))))] → va_S A s.heap H locs → lv_has ls 2 [(0, .ref h0), (1, .int (zI ((k : Int))))] → W p l e rmX3_dumb s m args below meth c H locs 0 0 Q (F0 m 2 ls []) := by
    intro f_a
    induction f_a with
    | zero =>
      intros
      exfalso; omega
    | succ f_a ih_a =>
      intro k H locs ls e_k e_f hfu_a hP hD hS hl
      refine lv_iload_n hx hb dX3_dumb_2 rfl (lv_at hl 1 rfl) ?_
      refine lv_aload_n hx hb dX3_dumb_3 rfl (lv_at hl 0 rfl) ?_
      refine va_get (D := D) (ci := 3) (v := .ref a0) (C := RX3) (T := TX3) (N := 7) hx hb hts in_X3_dumb_X3 hown hK hP 0 rfl rfl 0 (by decide) (hts _ m_X3_dumb_0) (fun _ h9 => h9) rfl dX3_dumb_4 ?_
      refine lv_bipush (v := zI (9)) hx hb dX3_dumb_7 (by decide +kernel) ?_
      refine z_iald (k := 9) (g := σ) hx hb hK hP 1 0 rfl rfl (by omega) dX3_dumb_9 ?_
      try dsimp only
      refine z_icmp_ge (a := (k : Int)) (b := σ 9) (tgt := 37) hx hb (by omega) dX3_dumb_10 (by decide) (fun c_10 => ?_) (fun c_10 => ?_)
      · refine lv_bipush (v := zI (-6)) hx hb dX3_dumb_37 (by decide +kernel) ?_
        exact hret _ _ _ _ _ () dX3_dumb_39 (by unfold A_dumb; rw [show k = (σ 9).toNat by omega] at e_f; rw [e_f]) hP hS
      · have o10 := hO.2.2.2.2.2.2.2.2.2.2 (k : Int) (by omega) (by omega)
        have e_b := cnt_in (fun w => sd σ w (σ (10 + (k : Int)))) 64
        refine lv_aload_n hx hb dX3_dumb_13 rfl (lv_at hl 0 rfl) ?_
        refine lv_aload_n hx hb dX3_dumb_14 rfl (lv_at hl 0 rfl) ?_
        refine va_get (D := D) (ci := 3) (v := .ref a0) (C := RX3) (T := TX3) (N := 7) hx hb hts in_X3_dumb_X3 hown hK hP 0 rfl rfl 0 (by decide) (hts _ m_X3_dumb_0) (fun _ h9 => h9) rfl dX3_dumb_15 ?_
        refine lv_bipush (v := zI (10)) hx hb dX3_dumb_18 (by decide +kernel) ?_
        refine lv_iload_n hx hb dX3_dumb_20 rfl (lv_at hl 1 rfl) ?_
        refine z_iadd (a := 10) (b := (k : Int)) hx hb dX3_dumb_21 ?_
        refine z_iald (k := 10 + (k : Int)) (g := σ) hx hb hK hP 1 0 rfl rfl (by omega) dX3_dumb_22 ?_
        try dsimp only
        refine z_Vir (As := [.int (zI (σ (10 + (k : Int))))]) (rest := []) hx hb hml hown hts hA hS hP hD hK hZ hl.1 (c_X3_waysOf l D cI cJ cZ cO _ (h0) (a0) (a1) (a2) (a3) (a4) (a5) (a6) (σ) (σ (10 + (k : Int))) (by omega) hO) (cwV 1 hts gX3_dumb_X3_waysOf rfl rfl rfl (by decide +kernel) ⟨Nat.le_of_ble_eq_true rfl, Nat.le_of_ble_eq_true rfl⟩) [0, 1] rfl rfl 0 3 rfl rfl rfl rfl (Nat.le_of_ble_eq_true rfl) ⟨Nat.zero_le _, Nat.zero_le _⟩ dX3_dumb_23 (fun r u H locs hw hP hS => ?_)
        subst hw
        refine z_if_ne (a := cnt (fun w => sd σ w (σ (10 + (k : Int)))) 64) (tgt := 31) hx hb (by omega) dX3_dumb_26 (by decide) (fun c_26 => ?_) (fun c_26 => ?_)
        · refine lv_iinc (v := zI ((k : Int) + 1)) (lv' := [(1, .int (zI ((k : Int) + 1))), (0, .ref h0)]) hx hb dX3_dumb_31 hl (k := 1) rfl (zI_add _ _) (by decide) rfl (fun ls hl => ?_)
          refine lv_goto (tgt := 2) hx hb dX3_dumb_34 (by decide) ?_
          exact ih_a (k + 1) _ _ _ (by omega) (fnd_n e_f (by rw [decide_eq_true_eq]; exact c_26)) (by omega) hP hD hS (lv_sub hl [1, 0] rfl)
        · refine lv_iload_n hx hb dX3_dumb_29 rfl (lv_at hl 1 rfl) ?_
          exact hret _ _ _ _ _ () dX3_dumb_30 (by unfold A_dumb; rw [fnd_y e_f (decide_eq_true c_26) (σ 9).toNat (by omega)]) hP hS
  exact loop_a 70 (0) _ _ _ (by omega) (rfl) (by omega) hP hD hS (lv_sub hl [1, 0] rfl)
abbrev rmX3_image : Room := { frames := 1, cells := 0, slots := 0, locals := 22 }
theorem in_X3_image_X3 : ∀ w ∈ wsX30, w ∈ wsX3_image := fun _ h => List.mem_cons_of_mem _ (List.mem_append_right _ h)
theorem m_X3_image_2 : (.fieldLink RX3 16 "BrassWaysModel" "isKept" "[Z" : Cond) ∈ wsX3_image := List.mem_of_getElem? (i := 3) rfl
theorem m_X3_image_0 : (.fieldLink RX3 13 "BrassWaysModel" "images" "[I" : Cond) ∈ wsX3_image := List.mem_of_getElem? (i := 1) rfl
theorem m_X3_image_1 : (.fieldLink RX3 7 "BrassWaysModel" "state" "[I" : Cond) ∈ wsX3_image := List.mem_of_getElem? (i := 2) rfl
set_option maxHeartbeats 4000000 in
set_option maxRecDepth 100000 in
theorem c_X3_image (l : Launch) (D : va_G) (cI cJ cZ cO : ClassId) (sz : Nat) (h0 : Nat) (a0 : Nat) (a1 : Nat) (a2 : Nat) (a3 : Nat) (a4 : Nat) (a5 : Nat) (a6 : Nat) (σ : Int → Int) (gi : Int → Int) (gk : Int → Int) (q : Int) (h_q : -2147483648 ≤ q ∧ q < 2147483648) : Met l yX3_image wsX3_image rmX3_image (zPc D cI cJ cZ cO [(h0, .inr (3, [.ref a0, .ref a1, .ref a2, .ref a3, .ref a4, .ref a5, .ref a6])), (a0, .inl (cI, 22, .inl (zF (σ)))), (a1, .inl (cI, 44, .inl (zF (gi)))), (a2, .inl (cZ, 2, .inl (zF (gk))))] sz [.ref h0, .int (zI (q))]) (zQi D (fun (r : Int32) (_ : Unit) => r = zI (A_image q)) (fun (_ : Unit) => [(h0, .inr (3, [.ref a0, .ref a1, .ref a2, .ref a3, .ref a4, .ref a5, .ref a6])), (a0, .inl (cI, 22, .inl (zF (σ)))), (a1, .inl (cI, 44, .inl (zF (S_imi gi σ q)))), (a2, .inl (cZ, 2, .inl (zF (S_imk gk q))))]) [(h0, .inr (3, [.ref a0, .ref a1, .ref a2, .ref a3, .ref a4, .ref a5, .ref a6])), (a0, .inl (cI, 22, .inl (zF (σ)))), (a1, .inl (cI, 44, .inl (zF (gi)))), (a2, .inl (cZ, 2, .inl (zF (gk))))] sz) 0 0 (va_A [(h0, .inr (3, [.ref a0, .ref a1, .ref a2, .ref a3, .ref a4, .ref a5, .ref a6])), (a0, .inl (cI, 22, .inl (zF (σ)))), (a1, .inl (cI, 44, .inl (zF (gi)))), (a2, .inl (cZ, 2, .inl (zF (gk))))] sz) := by
  refine z_meti (by decide) rfl (Nat.le_of_ble_eq_true rfl) ?_
  intro p e s m args below meth c A Q ls hx hb hml hown hts hA hS hP hD hK hZ hl hret
  have hl : lv_has ls 3 [(0, .ref h0), (1, .int (zI (q)))] := hl
  refine lv_iload_n hx hb dX3_image_0 rfl (lv_at hl 1 rfl) ?_
  refine lv_iconst (v := zI (0)) hx hb dX3_image_1 rfl ?_
  refine lv_iconst (v := zI (1)) hx hb dX3_image_2 rfl ?_
  refine z_Sir (As := [.int (zI (q)), .int (zI (0)), .int (zI (1))]) (rest := []) hx hb hml hown hts hA hS hP hD hK hZ hl.1 (c_X3_in l D cI cJ cZ cO _ (q) (0) (1) (by omega)) (va_cwS 3 hts gX3_image_X3_in rfl rfl rfl (by decide +kernel) ⟨Nat.le_of_ble_eq_true rfl, Nat.le_of_ble_eq_true rfl⟩) [] rfl rfl rfl rfl (Nat.le_of_ble_eq_true rfl) ⟨Nat.zero_le _, Nat.zero_le _⟩ dX3_image_3 (fun r u H locs hw hP hS => ?_)
  subst hw
  refine z_ifB_ne (P := 0 ≤ q ∧ q ≤ 1) (tgt := 12) hx hb dX3_image_6 (by decide) (fun c_6 => ?_) (fun c_6 => ?_)
  · refine lv_iconst (v := zI (0)) hx hb dX3_image_12 rfl ?_
    refine lv_istore_n (lv' := [(2, .int (zI (0))), (0, .ref h0), (1, .int (zI (q)))]) hx hb dX3_image_13 rfl hl (by decide) rfl (fun ls hl => ?_)
    have e0 : (gi) = (cpI gi σ (22 * q) ((0 : Nat) : Int)) := (cpI_0 gi σ (22 * q)).symm
    rw [e0] at hP hD
    have loop_a : ∀ (f_a : Nat) (k : Nat) (H : Heap) (locs : List Loc) (ls : Array Slot), (k ≤ 22) → (22 - (k : Int) < (f_a : Int)) → va_P D vwCl [(h0, .inr (3, [.ref a0, .ref a1, .ref a2, .ref a3, .ref a4, .ref a5, .ref a6])), (a0, .inl (cI, 22, .inl (zF (σ)))), (a1, .inl (cI, 44, .inl (zF (cpI gi σ (22 * q) (k : Int))))), (a2, .inl (cZ, 2, .inl (zF (gk))))] H → va_D A [(h0, .inr (3, [.ref a0, .ref a1, .ref a2, .ref a3, .ref a4, .ref a5, .ref a6])), (a0, .inl (cI, 22, .inl (zF (σ)))), (a1, .inl (cI, 44, .inl (zF (cpI gi σ (22 * q) (k : Int))))), (a2, .inl (cZ, 2, .inl (zF (gk))))] → va_S A s.heap H locs → lv_has ls 3 [(0, .ref h0), (1, .int (zI (q))), (2, .int (zI ((k : Int))))] → W p l e rmX3_image s m args below meth c H locs 0 0 Q (F0 m 14 ls []) := by
      intro f_a
      induction f_a with
      | zero =>
        intros
        exfalso; omega
      | succ f_a ih_a =>
        intro k H locs ls e_k hfu_a hP hD hS hl
        refine lv_iload_n hx hb dX3_image_14 rfl (lv_at hl 2 rfl) ?_
        refine lv_bipush (v := zI (22)) hx hb dX3_image_15 (by decide +kernel) ?_
        refine z_icmp_ge (a := (k : Int)) (b := 22) (tgt := 43) hx hb (by omega) dX3_image_17 (by decide) (fun c_17 => ?_) (fun c_17 => ?_)
        · have e22 : (k : Int) = 22 := by omega
          rw [e22] at hP hD
          refine lv_aload_n hx hb dX3_image_43 rfl (lv_at hl 0 rfl) ?_
          refine va_get (D := D) (ci := 3) (v := .ref a2) (C := RX3) (T := TX3) (N := 7) hx hb hts in_X3_image_X3 hown hK hP 0 rfl rfl 2 (by decide) (hts _ m_X3_image_2) (fun _ h9 => h9) rfl dX3_image_44 ?_
          refine lv_iload_n hx hb dX3_image_47 rfl (lv_at hl 1 rfl) ?_
          refine lv_iconst (v := zI (1)) hx hb dX3_image_48 rfl ?_
          refine z_zast (k := q) (x := 1) (g := gk) hx hb hK hP hD hS 3 2 rfl rfl (by omega) (by decide +kernel) dX3_image_49 (fun H locs hP hD hS => ?_)
          have hP : va_P D vwCl [(h0, .inr (3, [.ref a0, .ref a1, .ref a2, .ref a3, .ref a4, .ref a5, .ref a6])), (a0, .inl (cI, 22, .inl (zF (σ)))), (a1, .inl (cI, 44, .inl (zF (cpI gi σ (22 * q) 22)))), (a2, .inl (cZ, 2, .inl (zF (upI gk q 1))))] H := hP
          have hD : va_D A [(h0, .inr (3, [.ref a0, .ref a1, .ref a2, .ref a3, .ref a4, .ref a5, .ref a6])), (a0, .inl (cI, 22, .inl (zF (σ)))), (a1, .inl (cI, 44, .inl (zF (cpI gi σ (22 * q) 22)))), (a2, .inl (cZ, 2, .inl (zF (upI gk q 1))))] := hD
          refine lv_iconst (v := zI (1)) hx hb dX3_image_50 rfl ?_
          exact hret _ _ _ _ _ () dX3_image_51 (by unfold A_image; first | rw [if_pos c_6]) (by simp only [S_imi, S_imk]; rw [if_pos c_6, if_pos c_6]; exact hP) hS
        · refine lv_aload_n hx hb dX3_image_20 rfl (lv_at hl 0 rfl) ?_
          refine va_get (D := D) (ci := 3) (v := .ref a1) (C := RX3) (T := TX3) (N := 7) hx hb hts in_X3_image_X3 hown hK hP 0 rfl rfl 1 (by decide) (hts _ m_X3_image_0) (fun _ h9 => h9) rfl dX3_image_21 ?_
          refine lv_bipush (v := zI (22)) hx hb dX3_image_24 (by decide +kernel) ?_
          refine lv_iload_n hx hb dX3_image_26 rfl (lv_at hl 1 rfl) ?_
          refine z_imul (a := 22) (b := q) hx hb dX3_image_27 ?_
          refine lv_iload_n hx hb dX3_image_28 rfl (lv_at hl 2 rfl) ?_
          refine z_iadd (a := 22 * q) (b := (k : Int)) hx hb dX3_image_29 ?_
          refine lv_aload_n hx hb dX3_image_30 rfl (lv_at hl 0 rfl) ?_
          refine va_get (D := D) (ci := 3) (v := .ref a0) (C := RX3) (T := TX3) (N := 7) hx hb hts in_X3_image_X3 hown hK hP 0 rfl rfl 0 (by decide) (hts _ m_X3_image_1) (fun _ h9 => h9) rfl dX3_image_31 ?_
          refine lv_iload_n hx hb dX3_image_34 rfl (lv_at hl 2 rfl) ?_
          refine z_iald (k := (k : Int)) (g := σ) hx hb hK hP 1 0 rfl rfl (by omega) dX3_image_35 ?_
          try dsimp only
          refine z_iast (k := (22 * q) + (k : Int)) (x := σ (k : Int)) (g := cpI gi σ (22 * q) (k : Int)) hx hb hK hP hD hS 2 0 rfl rfl (by omega) dX3_image_36 (fun H locs hP hD hS => ?_)
          have hP : va_P D vwCl [(h0, .inr (3, [.ref a0, .ref a1, .ref a2, .ref a3, .ref a4, .ref a5, .ref a6])), (a0, .inl (cI, 22, .inl (zF (σ)))), (a1, .inl (cI, 44, .inl (zF (upI (cpI gi σ (22 * q) (k : Int)) ((22 * q) + (k : Int)) (σ (k : Int)))))), (a2, .inl (cZ, 2, .inl (zF (gk))))] H := hP
          have hD : va_D A [(h0, .inr (3, [.ref a0, .ref a1, .ref a2, .ref a3, .ref a4, .ref a5, .ref a6])), (a0, .inl (cI, 22, .inl (zF (σ)))), (a1, .inl (cI, 44, .inl (zF (upI (cpI gi σ (22 * q) (k : Int)) ((22 * q) + (k : Int)) (σ (k : Int)))))), (a2, .inl (cZ, 2, .inl (zF (gk))))] := hD
          have e0 : (upI (cpI gi σ (22 * q) (k : Int)) ((22 * q) + (k : Int)) (σ (k : Int))) = (cpI gi σ (22 * q) ((k : Int) + 1)) := (cpI_s gi σ (22 * q) (k : Int) (by omega))
          rw [e0] at hP hD
          refine lv_iinc (v := zI ((k : Int) + 1)) (lv' := [(2, .int (zI ((k : Int) + 1))), (0, .ref h0), (1, .int (zI (q)))]) hx hb dX3_image_37 hl (k := 2) rfl (zI_add _ _) (by decide) rfl (fun ls hl => ?_)
          refine lv_goto (tgt := 14) hx hb dX3_image_40 (by decide) ?_
          exact ih_a (k + 1) _ _ _ (by omega) (by omega) hP hD hS (lv_sub hl [1, 2, 0] rfl)
    exact loop_a 70 (0) _ _ _ (by omega) (by omega) hP hD hS (lv_sub hl [1, 2, 0] rfl)
  · refine lv_bipush (v := zI (-2)) hx hb dX3_image_9 (by decide +kernel) ?_
    exact hret _ _ _ _ _ () dX3_image_11 (by unfold A_image; first | rw [if_neg c_6]) (by simp only [S_imi, S_imk]; rw [if_neg c_6, if_neg c_6]; exact hP) hS
abbrev rmX3_restore : Room := { frames := 1, cells := 0, slots := 0, locals := 22 }
theorem in_X3_restore_X3 : ∀ w ∈ wsX30, w ∈ wsX3_restore := fun _ h => List.mem_cons_of_mem _ (List.mem_append_right _ h)
theorem m_X3_restore_0 : (.fieldLink RX3 16 "BrassWaysModel" "isKept" "[Z" : Cond) ∈ wsX3_restore := List.mem_of_getElem? (i := 1) rfl
theorem m_X3_restore_1 : (.fieldLink RX3 7 "BrassWaysModel" "state" "[I" : Cond) ∈ wsX3_restore := List.mem_of_getElem? (i := 2) rfl
theorem m_X3_restore_2 : (.fieldLink RX3 13 "BrassWaysModel" "images" "[I" : Cond) ∈ wsX3_restore := List.mem_of_getElem? (i := 3) rfl
set_option maxHeartbeats 4000000 in
set_option maxRecDepth 100000 in
theorem c_X3_restore (l : Launch) (D : va_G) (cI cJ cZ cO : ClassId) (sz : Nat) (h0 : Nat) (a0 : Nat) (a1 : Nat) (a2 : Nat) (a3 : Nat) (a4 : Nat) (a5 : Nat) (a6 : Nat) (σ : Int → Int) (gi : Int → Int) (gk : Int → Int) (q : Int) (h_q : -2147483648 ≤ q ∧ q < 2147483648) (hk : (gk 0 = 0 ∨ gk 0 = 1) ∧ (gk 1 = 0 ∨ gk 1 = 1)) : Met l yX3_restore wsX3_restore rmX3_restore (zPc D cI cJ cZ cO [(h0, .inr (3, [.ref a0, .ref a1, .ref a2, .ref a3, .ref a4, .ref a5, .ref a6])), (a0, .inl (cI, 22, .inl (zF (σ)))), (a1, .inl (cI, 44, .inl (zF (gi)))), (a2, .inl (cZ, 2, .inl (zF (gk))))] sz [.ref h0, .int (zI (q))]) (zQi D (fun (r : Int32) (_ : Unit) => r = zI (A_restore gk q)) (fun (_ : Unit) => [(h0, .inr (3, [.ref a0, .ref a1, .ref a2, .ref a3, .ref a4, .ref a5, .ref a6])), (a0, .inl (cI, 22, .inl (zF (S_restore σ gi gk q)))), (a1, .inl (cI, 44, .inl (zF (gi)))), (a2, .inl (cZ, 2, .inl (zF (gk))))]) [(h0, .inr (3, [.ref a0, .ref a1, .ref a2, .ref a3, .ref a4, .ref a5, .ref a6])), (a0, .inl (cI, 22, .inl (zF (σ)))), (a1, .inl (cI, 44, .inl (zF (gi)))), (a2, .inl (cZ, 2, .inl (zF (gk))))] sz) 0 0 (va_A [(h0, .inr (3, [.ref a0, .ref a1, .ref a2, .ref a3, .ref a4, .ref a5, .ref a6])), (a0, .inl (cI, 22, .inl (zF (σ)))), (a1, .inl (cI, 44, .inl (zF (gi)))), (a2, .inl (cZ, 2, .inl (zF (gk))))] sz) := by
  refine z_meti (by decide) rfl (Nat.le_of_ble_eq_true rfl) ?_
  intro p e s m args below meth c A Q ls hx hb hml hown hts hA hS hP hD hK hZ hl hret
  have hl : lv_has ls 3 [(0, .ref h0), (1, .int (zI (q)))] := hl
  refine lv_iload_n hx hb dX3_restore_0 rfl (lv_at hl 1 rfl) ?_
  refine lv_iconst (v := zI (0)) hx hb dX3_restore_1 rfl ?_
  refine lv_iconst (v := zI (1)) hx hb dX3_restore_2 rfl ?_
  refine z_Sir (As := [.int (zI (q)), .int (zI (0)), .int (zI (1))]) (rest := []) hx hb hml hown hts hA hS hP hD hK hZ hl.1 (c_X3_in l D cI cJ cZ cO _ (q) (0) (1) (by omega)) (va_cwS 3 hts gX3_restore_X3_in rfl rfl rfl (by decide +kernel) ⟨Nat.le_of_ble_eq_true rfl, Nat.le_of_ble_eq_true rfl⟩) [] rfl rfl rfl rfl (Nat.le_of_ble_eq_true rfl) ⟨Nat.zero_le _, Nat.zero_le _⟩ dX3_restore_3 (fun r u H locs hw hP hS => ?_)
  subst hw
  refine z_ifB_ne (P := 0 ≤ q ∧ q ≤ 1) (tgt := 12) hx hb dX3_restore_6 (by decide) (fun c_6 => ?_) (fun c_6 => ?_)
  · have hk2 : gk q = 0 ∨ gk q = 1 := (show q = 0 ∨ q = 1 by omega).elim (fun h => by rw [h]; exact hk.1) (fun h => by rw [h]; exact hk.2)
    refine lv_aload_n hx hb dX3_restore_12 rfl (lv_at hl 0 rfl) ?_
    refine va_get (D := D) (ci := 3) (v := .ref a2) (C := RX3) (T := TX3) (N := 7) hx hb hts in_X3_restore_X3 hown hK hP 0 rfl rfl 2 (by decide) (hts _ m_X3_restore_0) (fun _ h9 => h9) rfl dX3_restore_13 ?_
    refine lv_iload_n hx hb dX3_restore_16 rfl (lv_at hl 1 rfl) ?_
    refine z_zald (k := q) (g := gk) hx hb hK hP 3 2 rfl rfl (by omega) dX3_restore_17 ?_
    try dsimp only
    refine z_if_ne (a := gk q) (tgt := 24) hx hb (by omega) dX3_restore_18 (by decide) (fun c_18 => ?_) (fun c_18 => ?_)
    · refine lv_iconst (v := zI (0)) hx hb dX3_restore_24 rfl ?_
      refine lv_istore_n (lv' := [(2, .int (zI (0))), (0, .ref h0), (1, .int (zI (q)))]) hx hb dX3_restore_25 rfl hl (by decide) rfl (fun ls hl => ?_)
      have e0 : (σ) = (rsI σ gi (22 * q) ((0 : Nat) : Int)) := (rsI_0 σ gi (22 * q)).symm
      rw [e0] at hP hD
      have loop_a : ∀ (f_a : Nat) (k : Nat) (H : Heap) (locs : List Loc) (ls : Array Slot), (k ≤ 22) → (22 - (k : Int) < (f_a : Int)) → va_P D vwCl [(h0, .inr (3, [.ref a0, .ref a1, .ref a2, .ref a3, .ref a4, .ref a5, .ref a6])), (a0, .inl (cI, 22, .inl (zF (rsI σ gi (22 * q) (k : Int))))), (a1, .inl (cI, 44, .inl (zF (gi)))), (a2, .inl (cZ, 2, .inl (zF (gk))))] H → va_D A [(h0, .inr (3, [.ref a0, .ref a1, .ref a2, .ref a3, .ref a4, .ref a5, .ref a6])), (a0, .inl (cI, 22, .inl (zF (rsI σ gi (22 * q) (k : Int))))), (a1, .inl (cI, 44, .inl (zF (gi)))), (a2, .inl (cZ, 2, .inl (zF (gk))))] → va_S A s.heap H locs → lv_has ls 3 [(0, .ref h0), (1, .int (zI (q))), (2, .int (zI ((k : Int))))] → W p l e rmX3_restore s m args below meth c H locs 0 0 Q (F0 m 26 ls []) := by
        intro f_a
        induction f_a with
        | zero =>
          intros
          exfalso; omega
        | succ f_a ih_a =>
          intro k H locs ls e_k hfu_a hP hD hS hl
          refine lv_iload_n hx hb dX3_restore_26 rfl (lv_at hl 2 rfl) ?_
          refine lv_bipush (v := zI (22)) hx hb dX3_restore_27 (by decide +kernel) ?_
          refine z_icmp_ge (a := (k : Int)) (b := 22) (tgt := 55) hx hb (by omega) dX3_restore_29 (by decide) (fun c_29 => ?_) (fun c_29 => ?_)
          · have e22 : (k : Int) = 22 := by omega
            rw [e22] at hP hD
            refine lv_iconst (v := zI (1)) hx hb dX3_restore_55 rfl ?_
            exact hret _ _ _ _ _ () dX3_restore_56 (by unfold A_restore; first | rw [if_pos c_6, if_neg c_18]) (by simp only [S_restore]; first | (rw [if_pos c_6, if_neg c_18]; exact hP)) hS
          · refine lv_aload_n hx hb dX3_restore_32 rfl (lv_at hl 0 rfl) ?_
            refine va_get (D := D) (ci := 3) (v := .ref a0) (C := RX3) (T := TX3) (N := 7) hx hb hts in_X3_restore_X3 hown hK hP 0 rfl rfl 0 (by decide) (hts _ m_X3_restore_1) (fun _ h9 => h9) rfl dX3_restore_33 ?_
            refine lv_iload_n hx hb dX3_restore_36 rfl (lv_at hl 2 rfl) ?_
            refine lv_aload_n hx hb dX3_restore_37 rfl (lv_at hl 0 rfl) ?_
            refine va_get (D := D) (ci := 3) (v := .ref a1) (C := RX3) (T := TX3) (N := 7) hx hb hts in_X3_restore_X3 hown hK hP 0 rfl rfl 1 (by decide) (hts _ m_X3_restore_2) (fun _ h9 => h9) rfl dX3_restore_38 ?_
            refine lv_bipush (v := zI (22)) hx hb dX3_restore_41 (by decide +kernel) ?_
            refine lv_iload_n hx hb dX3_restore_43 rfl (lv_at hl 1 rfl) ?_
            refine z_imul (a := 22) (b := q) hx hb dX3_restore_44 ?_
            refine lv_iload_n hx hb dX3_restore_45 rfl (lv_at hl 2 rfl) ?_
            refine z_iadd (a := 22 * q) (b := (k : Int)) hx hb dX3_restore_46 ?_
            refine z_iald (k := (22 * q) + (k : Int)) (g := gi) hx hb hK hP 2 0 rfl rfl (by omega) dX3_restore_47 ?_
            try dsimp only
            refine z_iast (k := (k : Int)) (x := gi ((22 * q) + (k : Int))) (g := rsI σ gi (22 * q) (k : Int)) hx hb hK hP hD hS 1 0 rfl rfl (by omega) dX3_restore_48 (fun H locs hP hD hS => ?_)
            have hP : va_P D vwCl [(h0, .inr (3, [.ref a0, .ref a1, .ref a2, .ref a3, .ref a4, .ref a5, .ref a6])), (a0, .inl (cI, 22, .inl (zF (upI (rsI σ gi (22 * q) (k : Int)) (k : Int) (gi ((22 * q) + (k : Int))))))), (a1, .inl (cI, 44, .inl (zF (gi)))), (a2, .inl (cZ, 2, .inl (zF (gk))))] H := hP
            have hD : va_D A [(h0, .inr (3, [.ref a0, .ref a1, .ref a2, .ref a3, .ref a4, .ref a5, .ref a6])), (a0, .inl (cI, 22, .inl (zF (upI (rsI σ gi (22 * q) (k : Int)) (k : Int) (gi ((22 * q) + (k : Int))))))), (a1, .inl (cI, 44, .inl (zF (gi)))), (a2, .inl (cZ, 2, .inl (zF (gk))))] := hD
            have e0 : (upI (rsI σ gi (22 * q) (k : Int)) (k : Int) (gi ((22 * q) + (k : Int)))) = (rsI σ gi (22 * q) ((k : Int) + 1)) := (rsI_s σ gi (22 * q) (k : Int) (by omega))
            rw [e0] at hP hD
            refine lv_iinc (v := zI ((k : Int) + 1)) (lv' := [(2, .int (zI ((k : Int) + 1))), (0, .ref h0), (1, .int (zI (q)))]) hx hb dX3_restore_49 hl (k := 2) rfl (zI_add _ _) (by decide) rfl (fun ls hl => ?_)
            refine lv_goto (tgt := 26) hx hb dX3_restore_52 (by decide) ?_
            exact ih_a (k + 1) _ _ _ (by omega) (by omega) hP hD hS (lv_sub hl [1, 2, 0] rfl)
      exact loop_a 70 (0) _ _ _ (by omega) (by omega) hP hD hS (lv_sub hl [1, 2, 0] rfl)
    · refine lv_bipush (v := zI (-3)) hx hb dX3_restore_21 (by decide +kernel) ?_
      exact hret _ _ _ _ _ () dX3_restore_23 (by unfold A_restore; first | rw [if_pos c_6, if_pos c_18]) (by simp only [S_restore]; first | (rw [if_pos c_6, if_pos c_18]; exact hP)) hS
  · refine lv_bipush (v := zI (-2)) hx hb dX3_restore_9 (by decide +kernel) ?_
    exact hret _ _ _ _ _ () dX3_restore_11 (by unfold A_restore; first | rw [if_neg c_6]) (by simp only [S_restore]; first | (rw [if_neg c_6]; exact hP)) hS
abbrev rmX3_count : Room := { frames := 2, cells := 0, slots := 0, locals := 43 }
theorem in_X3_count_X3 : ∀ w ∈ wsX30, w ∈ wsX3_count := fun _ h => List.mem_cons_of_mem _ (List.mem_append_right _ h)
theorem m_X3_count_0 : (.fieldLink RX3 7 "BrassWaysModel" "state" "[I" : Cond) ∈ wsX3_count := List.mem_of_getElem? (i := 1) rfl
theorem m_X3_count_1 : (.fieldLink RX3 16 "BrassWaysModel" "isKept" "[Z" : Cond) ∈ wsX3_count := List.mem_of_getElem? (i := 2) rfl
set_option maxHeartbeats 4000000 in
set_option maxRecDepth 100000 in
theorem c_X3_count (l : Launch) (D : va_G) (cI cJ cZ cO : ClassId) (sz : Nat) (h0 : Nat) (a0 : Nat) (a1 : Nat) (a2 : Nat) (a3 : Nat) (a4 : Nat) (a5 : Nat) (a6 : Nat) (σ : Int → Int) (gi : Int → Int) (gk : Int → Int) (q : Int) (h_q : -2147483648 ≤ q ∧ q < 2147483648) (hk : (gk 0 = 0 ∨ gk 0 = 1) ∧ (gk 1 = 0 ∨ gk 1 = 1)) (hO : Ok σ) : Met l yX3_count wsX3_count rmX3_count (zPc D cI cJ cZ cO [(h0, .inr (3, [.ref a0, .ref a1, .ref a2, .ref a3, .ref a4, .ref a5, .ref a6])), (a0, .inl (cI, 22, .inl (zF (σ)))), (a1, .inl (cI, 44, .inl (zF (gi)))), (a2, .inl (cZ, 2, .inl (zF (gk))))] sz [.ref h0, .int (zI (q))]) (zQi D (fun (r : Int32) (_ : Unit) => r = zI (A_count σ gk q)) (fun (_ : Unit) => [(h0, .inr (3, [.ref a0, .ref a1, .ref a2, .ref a3, .ref a4, .ref a5, .ref a6])), (a0, .inl (cI, 22, .inl (zF (σ)))), (a1, .inl (cI, 44, .inl (zF (gi)))), (a2, .inl (cZ, 2, .inl (zF (gk))))]) [(h0, .inr (3, [.ref a0, .ref a1, .ref a2, .ref a3, .ref a4, .ref a5, .ref a6])), (a0, .inl (cI, 22, .inl (zF (σ)))), (a1, .inl (cI, 44, .inl (zF (gi)))), (a2, .inl (cZ, 2, .inl (zF (gk))))] sz) 0 0 (va_A [(h0, .inr (3, [.ref a0, .ref a1, .ref a2, .ref a3, .ref a4, .ref a5, .ref a6])), (a0, .inl (cI, 22, .inl (zF (σ)))), (a1, .inl (cI, 44, .inl (zF (gi)))), (a2, .inl (cZ, 2, .inl (zF (gk))))] sz) := by
  refine z_meti (by decide) rfl (Nat.le_of_ble_eq_true rfl) ?_
  intro p e s m args below meth c A Q ls hx hb hml hown hts hA hS hP hD hK hZ hl hret
  have hl : lv_has ls 2 [(0, .ref h0), (1, .int (zI (q)))] := hl
  have o9 := hO.2.2.2.2.2.2.2.2.2.1
  refine lv_iload_n hx hb dX3_count_0 rfl (lv_at hl 1 rfl) ?_
  refine lv_bipush (v := zI (10)) hx hb dX3_count_1 (by decide +kernel) ?_
  refine lv_bipush (v := zI (14)) hx hb dX3_count_3 (by decide +kernel) ?_
  refine z_Sir (As := [.int (zI (q)), .int (zI (10)), .int (zI (14))]) (rest := []) hx hb hml hown hts hA hS hP hD hK hZ hl.1 (c_X3_in l D cI cJ cZ cO _ (q) (10) (14) (by omega)) (va_cwS 3 hts gX3_count_X3_in rfl rfl rfl (by decide +kernel) ⟨Nat.le_of_ble_eq_true rfl, Nat.le_of_ble_eq_true rfl⟩) [] rfl rfl rfl rfl (Nat.le_of_ble_eq_true rfl) ⟨Nat.zero_le _, Nat.zero_le _⟩ dX3_count_5 (fun r u H locs hw hP hS => ?_)
  subst hw
  refine z_ifB_eq (P := 10 ≤ q ∧ q ≤ 14) (tgt := 23) hx hb dX3_count_8 (by decide) (fun c_8 => ?_) (fun c_8 => ?_)
  · refine lv_iload_n hx hb dX3_count_23 rfl (lv_at hl 1 rfl) ?_
    refine lv_bipush (v := zI (20)) hx hb dX3_count_24 (by decide +kernel) ?_
    refine lv_bipush (v := zI (22)) hx hb dX3_count_26 (by decide +kernel) ?_
    refine z_Sir (As := [.int (zI (q)), .int (zI (20)), .int (zI (22))]) (rest := []) hx hb hml hown hts hA hS hP hD hK hZ hl.1 (c_X3_in l D cI cJ cZ cO _ (q) (20) (22) (by omega)) (va_cwS 3 hts gX3_count_X3_in rfl rfl rfl (by decide +kernel) ⟨Nat.le_of_ble_eq_true rfl, Nat.le_of_ble_eq_true rfl⟩) [] rfl rfl rfl rfl (Nat.le_of_ble_eq_true rfl) ⟨Nat.zero_le _, Nat.zero_le _⟩ dX3_count_28 (fun r u H locs hw hP hS => ?_)
    subst hw
    refine z_ifB_eq (P := 20 ≤ q ∧ q ≤ 22) (tgt := 46) hx hb dX3_count_31 (by decide) (fun c_31 => ?_) (fun c_31 => ?_)
    · refine lv_iload_n hx hb dX3_count_46 rfl (lv_at hl 1 rfl) ?_
      refine lv_bipush (v := zI (30)) hx hb dX3_count_47 (by decide +kernel) ?_
      refine lv_bipush (v := zI (41)) hx hb dX3_count_49 (by decide +kernel) ?_
      refine z_Sir (As := [.int (zI (q)), .int (zI (30)), .int (zI (41))]) (rest := []) hx hb hml hown hts hA hS hP hD hK hZ hl.1 (c_X3_in l D cI cJ cZ cO _ (q) (30) (41) (by omega)) (va_cwS 3 hts gX3_count_X3_in rfl rfl rfl (by decide +kernel) ⟨Nat.le_of_ble_eq_true rfl, Nat.le_of_ble_eq_true rfl⟩) [] rfl rfl rfl rfl (Nat.le_of_ble_eq_true rfl) ⟨Nat.zero_le _, Nat.zero_le _⟩ dX3_count_51 (fun r u H locs hw hP hS => ?_)
      subst hw
      refine z_ifB_eq (P := 30 ≤ q ∧ q ≤ 41) (tgt := 86) hx hb dX3_count_54 (by decide) (fun c_54 => ?_) (fun c_54 => ?_)
      · refine lv_iload_n hx hb dX3_count_86 rfl (lv_at hl 1 rfl) ?_
        rcases (show q = 0 ∨ q = 1 ∨ q = 2 ∨ (q < 0 ∨ 2 < q) by omega) with c_87 | c_87 | c_87 | c_87
        · refine z_tswIn (v := 0) (tgt := 112) hx hb c_87 (by decide) dX3_count_87 (by decide) rfl (by decide) ?_
          refine lv_aload_n hx hb dX3_count_112 rfl (lv_at hl 0 rfl) ?_
          refine va_get (D := D) (ci := 3) (v := .ref a0) (C := RX3) (T := TX3) (N := 7) hx hb hts in_X3_count_X3 hown hK hP 0 rfl rfl 0 (by decide) (hts _ m_X3_count_0) (fun _ h9 => h9) rfl dX3_count_113 ?_
          refine lv_iconst (v := zI (0)) hx hb dX3_count_116 rfl ?_
          refine z_iald (k := 0) (g := σ) hx hb hK hP 1 0 rfl rfl (by omega) dX3_count_117 ?_
          try dsimp only
          exact hret _ _ _ _ _ () dX3_count_118 (by unfold A_count; first | rw [if_neg c_8, if_neg c_31, if_neg c_54, if_pos c_87]) hP hS
        · refine z_tswIn (v := 1) (tgt := 119) hx hb c_87 (by decide) dX3_count_87 (by decide) rfl (by decide) ?_
          refine lv_aload_n hx hb dX3_count_119 rfl (lv_at hl 0 rfl) ?_
          refine va_get (D := D) (ci := 3) (v := .ref a0) (C := RX3) (T := TX3) (N := 7) hx hb hts in_X3_count_X3 hown hK hP 0 rfl rfl 0 (by decide) (hts _ m_X3_count_0) (fun _ h9 => h9) rfl dX3_count_120 ?_
          refine lv_bipush (v := zI (9)) hx hb dX3_count_123 (by decide +kernel) ?_
          refine z_iald (k := 9) (g := σ) hx hb hK hP 1 0 rfl rfl (by omega) dX3_count_125 ?_
          try dsimp only
          exact hret _ _ _ _ _ () dX3_count_126 (by unfold A_count; first | rw [if_neg c_8, if_neg c_31, if_neg c_54, if_neg (by omega), if_pos c_87]) hP hS
        · refine z_tswIn (v := 2) (tgt := 127) hx hb c_87 (by decide) dX3_count_87 (by decide) rfl (by decide) ?_
          refine lv_aload_n hx hb dX3_count_127 rfl (lv_at hl 0 rfl) ?_
          refine va_get (D := D) (ci := 3) (v := .ref a2) (C := RX3) (T := TX3) (N := 7) hx hb hts in_X3_count_X3 hown hK hP 0 rfl rfl 2 (by decide) (hts _ m_X3_count_1) (fun _ h9 => h9) rfl dX3_count_128 ?_
          refine lv_iconst (v := zI (0)) hx hb dX3_count_131 rfl ?_
          refine z_zald (k := 0) (g := gk) hx hb hK hP 3 2 rfl rfl (by omega) dX3_count_132 ?_
          try dsimp only
          refine z_if_eq (a := gk 0) (tgt := 140) hx hb (by omega) dX3_count_133 (by decide) (fun c_133 => ?_) (fun c_133 => ?_)
          · refine lv_iconst (v := zI (0)) hx hb dX3_count_140 rfl ?_
            refine lv_aload_n hx hb dX3_count_141 rfl (lv_at hl 0 rfl) ?_
            refine va_get (D := D) (ci := 3) (v := .ref a2) (C := RX3) (T := TX3) (N := 7) hx hb hts in_X3_count_X3 hown hK hP 0 rfl rfl 2 (by decide) (hts _ m_X3_count_1) (fun _ h9 => h9) rfl dX3_count_142 ?_
            refine lv_iconst (v := zI (1)) hx hb dX3_count_145 rfl ?_
            refine z_zald (k := 1) (g := gk) hx hb hK hP 3 2 rfl rfl (by omega) dX3_count_146 ?_
            try dsimp only
            refine z_if_eq (a := gk 1) (tgt := 154) hx hb (by omega) dX3_count_147 (by decide) (fun c_147 => ?_) (fun c_147 => ?_)
            · refine lv_iconst (v := zI (0)) hx hb dX3_count_154 rfl ?_
              refine z_iadd (a := 0) (b := 0) hx hb dX3_count_155 ?_
              refine z_top (y := zI (0)) rfl ?_
              exact hret _ _ _ _ _ () dX3_count_156 (by unfold A_count; rw [if_neg c_8, if_neg c_31, if_neg c_54, if_neg (by omega), if_neg (by omega), if_pos c_87]; first | (rw [if_pos c_133, if_pos c_147]; rfl) | (rw [if_pos c_133, if_neg c_147]; rfl) | (rw [if_neg c_133, if_pos c_147]; rfl) | (rw [if_neg c_133, if_neg c_147]; rfl)) hP hS
            · refine lv_iconst (v := zI (2)) hx hb dX3_count_150 rfl ?_
              refine lv_goto (tgt := 155) hx hb dX3_count_151 (by decide) ?_
              refine z_iadd (a := 0) (b := 2) hx hb dX3_count_155 ?_
              refine z_top (y := zI (2)) rfl ?_
              exact hret _ _ _ _ _ () dX3_count_156 (by unfold A_count; rw [if_neg c_8, if_neg c_31, if_neg c_54, if_neg (by omega), if_neg (by omega), if_pos c_87]; first | (rw [if_pos c_133, if_pos c_147]; rfl) | (rw [if_pos c_133, if_neg c_147]; rfl) | (rw [if_neg c_133, if_pos c_147]; rfl) | (rw [if_neg c_133, if_neg c_147]; rfl)) hP hS
          · refine lv_iconst (v := zI (1)) hx hb dX3_count_136 rfl ?_
            refine lv_goto (tgt := 141) hx hb dX3_count_137 (by decide) ?_
            refine lv_aload_n hx hb dX3_count_141 rfl (lv_at hl 0 rfl) ?_
            refine va_get (D := D) (ci := 3) (v := .ref a2) (C := RX3) (T := TX3) (N := 7) hx hb hts in_X3_count_X3 hown hK hP 0 rfl rfl 2 (by decide) (hts _ m_X3_count_1) (fun _ h9 => h9) rfl dX3_count_142 ?_
            refine lv_iconst (v := zI (1)) hx hb dX3_count_145 rfl ?_
            refine z_zald (k := 1) (g := gk) hx hb hK hP 3 2 rfl rfl (by omega) dX3_count_146 ?_
            try dsimp only
            refine z_if_eq (a := gk 1) (tgt := 154) hx hb (by omega) dX3_count_147 (by decide) (fun c_147 => ?_) (fun c_147 => ?_)
            · refine lv_iconst (v := zI (0)) hx hb dX3_count_154 rfl ?_
              refine z_iadd (a := 1) (b := 0) hx hb dX3_count_155 ?_
              refine z_top (y := zI (1)) rfl ?_
              exact hret _ _ _ _ _ () dX3_count_156 (by unfold A_count; rw [if_neg c_8, if_neg c_31, if_neg c_54, if_neg (by omega), if_neg (by omega), if_pos c_87]; first | (rw [if_pos c_133, if_pos c_147]; rfl) | (rw [if_pos c_133, if_neg c_147]; rfl) | (rw [if_neg c_133, if_pos c_147]; rfl) | (rw [if_neg c_133, if_neg c_147]; rfl)) hP hS
            · refine lv_iconst (v := zI (2)) hx hb dX3_count_150 rfl ?_
              refine lv_goto (tgt := 155) hx hb dX3_count_151 (by decide) ?_
              refine z_iadd (a := 1) (b := 2) hx hb dX3_count_155 ?_
              refine z_top (y := zI (3)) rfl ?_
              exact hret _ _ _ _ _ () dX3_count_156 (by unfold A_count; rw [if_neg c_8, if_neg c_31, if_neg c_54, if_neg (by omega), if_neg (by omega), if_pos c_87]; first | (rw [if_pos c_133, if_pos c_147]; rfl) | (rw [if_pos c_133, if_neg c_147]; rfl) | (rw [if_neg c_133, if_pos c_147]; rfl) | (rw [if_neg c_133, if_neg c_147]; rfl)) hP hS
        · refine z_tswOut (tgt := 157) hx hb (by omega) dX3_count_87 (by omega) (by decide) ?_
          refine lv_bipush (v := zI (-2)) hx hb dX3_count_157 (by decide +kernel) ?_
          exact hret _ _ _ _ _ () dX3_count_159 (by unfold A_count; first | rw [if_neg c_8, if_neg c_31, if_neg c_54, if_neg (by omega), if_neg (by omega), if_neg (by omega)]) hP hS
      · refine lv_aload_n hx hb dX3_count_57 rfl (lv_at hl 0 rfl) ?_
        refine lv_iload_n hx hb dX3_count_58 rfl (lv_at hl 1 rfl) ?_
        refine lv_bipush (v := zI (30)) hx hb dX3_count_59 (by decide +kernel) ?_
        refine z_isub (a := q) (b := 30) hx hb dX3_count_61 ?_
        refine z_Vir (As := [.int (zI (q - 30))]) (rest := []) hx hb hml hown hts hA hS hP hD hK hZ hl.1 (c_X3_isPlace l D cI cJ cZ cO _ (h0) (a0) (a1) (a2) (a3) (a4) (a5) (a6) (σ) (q - 30) (by omega) hO) (cwV 1 hts gX3_count_X3_isPlace rfl rfl rfl (by decide +kernel) ⟨Nat.le_of_ble_eq_true rfl, Nat.le_of_ble_eq_true rfl⟩) [0, 1] rfl rfl 0 3 rfl rfl rfl rfl (Nat.le_of_ble_eq_true rfl) ⟨Nat.zero_le _, Nat.zero_le _⟩ dX3_count_62 (fun r u H locs hw hP hS => ?_)
        subst hw
        refine z_ifB_eq (P := 0 ≤ (q - 30) ∧ (q - 30) ≤ σ 9 - 1) (tgt := 83) hx hb dX3_count_65 (by decide) (fun c_65 => ?_) (fun c_65 => ?_)
        · refine lv_bipush (v := zI (-6)) hx hb dX3_count_83 (by decide +kernel) ?_
          exact hret _ _ _ _ _ () dX3_count_85 (by unfold A_count; first | rw [if_neg c_8, if_neg c_31, if_pos c_54, if_pos c_65] | rw [if_neg c_8, if_neg c_31, if_pos c_54, if_neg c_65]) hP hS
        · refine lv_aload_n hx hb dX3_count_68 rfl (lv_at hl 0 rfl) ?_
          refine va_get (D := D) (ci := 3) (v := .ref a0) (C := RX3) (T := TX3) (N := 7) hx hb hts in_X3_count_X3 hown hK hP 0 rfl rfl 0 (by decide) (hts _ m_X3_count_0) (fun _ h9 => h9) rfl dX3_count_69 ?_
          refine lv_bipush (v := zI (10)) hx hb dX3_count_72 (by decide +kernel) ?_
          refine lv_iload_n hx hb dX3_count_74 rfl (lv_at hl 1 rfl) ?_
          refine z_iadd (a := 10) (b := q) hx hb dX3_count_75 ?_
          refine lv_bipush (v := zI (30)) hx hb dX3_count_76 (by decide +kernel) ?_
          refine z_isub (a := 10 + q) (b := 30) hx hb dX3_count_78 ?_
          refine z_iald (k := (10 + q) - 30) (g := σ) hx hb hK hP 1 0 rfl rfl (by omega) dX3_count_79 ?_
          try dsimp only
          refine lv_goto (tgt := 85) hx hb dX3_count_80 (by decide) ?_
          exact hret _ _ _ _ _ () dX3_count_85 (by unfold A_count; first | rw [if_neg c_8, if_neg c_31, if_pos c_54, if_pos c_65] | rw [if_neg c_8, if_neg c_31, if_pos c_54, if_neg c_65]) hP hS
    · refine lv_aload_n hx hb dX3_count_34 rfl (lv_at hl 0 rfl) ?_
      refine va_get (D := D) (ci := 3) (v := .ref a0) (C := RX3) (T := TX3) (N := 7) hx hb hts in_X3_count_X3 hown hK hP 0 rfl rfl 0 (by decide) (hts _ m_X3_count_0) (fun _ h9 => h9) rfl dX3_count_35 ?_
      refine lv_iconst (v := zI (1)) hx hb dX3_count_38 rfl ?_
      refine lv_iload_n hx hb dX3_count_39 rfl (lv_at hl 1 rfl) ?_
      refine z_iadd (a := 1) (b := q) hx hb dX3_count_40 ?_
      refine lv_bipush (v := zI (20)) hx hb dX3_count_41 (by decide +kernel) ?_
      refine z_isub (a := 1 + q) (b := 20) hx hb dX3_count_43 ?_
      refine z_iald (k := (1 + q) - 20) (g := σ) hx hb hK hP 1 0 rfl rfl (by omega) dX3_count_44 ?_
      try dsimp only
      exact hret _ _ _ _ _ () dX3_count_45 (by unfold A_count; first | rw [if_neg c_8, if_pos c_31]) hP hS
  · refine lv_aload_n hx hb dX3_count_11 rfl (lv_at hl 0 rfl) ?_
    refine va_get (D := D) (ci := 3) (v := .ref a0) (C := RX3) (T := TX3) (N := 7) hx hb hts in_X3_count_X3 hown hK hP 0 rfl rfl 0 (by decide) (hts _ m_X3_count_0) (fun _ h9 => h9) rfl dX3_count_12 ?_
    refine lv_iconst (v := zI (4)) hx hb dX3_count_15 rfl ?_
    refine lv_iload_n hx hb dX3_count_16 rfl (lv_at hl 1 rfl) ?_
    refine z_iadd (a := 4) (b := q) hx hb dX3_count_17 ?_
    refine lv_bipush (v := zI (10)) hx hb dX3_count_18 (by decide +kernel) ?_
    refine z_isub (a := 4 + q) (b := 10) hx hb dX3_count_20 ?_
    refine z_iald (k := (4 + q) - 10) (g := σ) hx hb hK hP 1 0 rfl rfl (by omega) dX3_count_21 ?_
    try dsimp only
    exact hret _ _ _ _ _ () dX3_count_22 (by unfold A_count; first | rw [if_pos c_8]) hP hS
