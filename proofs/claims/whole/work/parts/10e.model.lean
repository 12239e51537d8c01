abbrev rmX3_least : Room := { frames := 6, cells := 0, slots := 0, locals := 137 }
theorem in_X3_least_X3 : ∀ w ∈ wsX30, w ∈ wsX3_least := fun _ h => List.mem_cons_of_mem _ (List.mem_append_right _ h)
theorem m_X3_least_0 : (.fieldLink RX3 7 "BrassWaysModel" "state" "[I" : Cond) ∈ wsX3_least := List.mem_of_getElem? (i := 1) rfl
theorem m_X3_least_1 : (.fieldLink RX3 20 "BrassWaysModel" "rest" "[I" : Cond) ∈ wsX3_least := List.mem_of_getElem? (i := 2) rfl
set_option maxHeartbeats 4000000 in
set_option maxRecDepth 100000 in
theorem c_X3_least (l : Launch) (D : va_G) (cI cJ cZ cO : ClassId) (sz : Nat) (h0 : Nat) (a0 : Nat) (a1 : Nat) (a2 : Nat) (a3 : Nat) (a4 : Nat) (a5 : Nat) (a6 : Nat) (σ : Int → Int) (gr : Int → Int) (gw : Int → Int64) (gl : Int → Int64) (i : Int) (h_i : -2147483648 ≤ i ∧ i < 2147483648) (hO : Ok σ) : Met l yX3_least wsX3_least rmX3_least (zPc D cI cJ cZ cO [(h0, .inr (3, [.ref a0, .ref a1, .ref a2, .ref a3, .ref a4, .ref a5, .ref a6])), (a0, .inl (cI, 22, .inl (zF (σ)))), (a3, .inl (cI, 768, .inl (zF (gr)))), (a4, .inl (cJ, 768, .inr (.inl (zL (gw))))), (a5, .inl (cJ, 768, .inr (.inl (zL (gl)))))] sz [.ref h0, .int (zI (i))]) (zQi D (fun (r : Int32) (_ : (Int → Int) × (Int → Int64) × (Int → Int64)) => r = zI (A_least σ i)) (fun (u : (Int → Int) × (Int → Int64) × (Int → Int64)) => [(h0, .inr (3, [.ref a0, .ref a1, .ref a2, .ref a3, .ref a4, .ref a5, .ref a6])), (a0, .inl (cI, 22, .inl (zF (σ)))), (a3, .inl (cI, 768, .inl (zF (u.1)))), (a4, .inl (cJ, 768, .inr (.inl (zL (u.2.1))))), (a5, .inl (cJ, 768, .inr (.inl (zL (u.2.2)))))]) [(h0, .inr (3, [.ref a0, .ref a1, .ref a2, .ref a3, .ref a4, .ref a5, .ref a6])), (a0, .inl (cI, 22, .inl (zF (σ)))), (a3, .inl (cI, 768, .inl (zF (gr)))), (a4, .inl (cJ, 768, .inr (.inl (zL (gw))))), (a5, .inl (cJ, 768, .inr (.inl (zL (gl)))))] sz) 0 0 (va_A [(h0, .inr (3, [.ref a0, .ref a1, .ref a2, .ref a3, .ref a4, .ref a5, .ref a6])), (a0, .inl (cI, 22, .inl (zF (σ)))), (a3, .inl (cI, 768, .inl (zF (gr)))), (a4, .inl (cJ, 768, .inr (.inl (zL (gw))))), (a5, .inl (cJ, 768, .inr (.inl (zL (gl)))))] sz) := by
  refine z_meti (by decide) rfl (Nat.le_of_ble_eq_true rfl) ?_
  intro p e s m args below meth c A Q ls hx hb hml hown hts hA hS hP hD hK hZ hl hret
  have hl : lv_has ls 6 [(0, .ref h0), (1, .int (zI (i)))] := hl
  have o9 := hO.2.2.2.2.2.2.2.2.2.1
  have hLb := LEAST_in hO
  refine lv_iload_n hx hb dX3_least_0 rfl (lv_at hl 1 rfl) ?_
  refine lv_iconst (v := zI (-1)) hx hb dX3_least_1 rfl ?_
  refine z_icmp_ge (a := i) (b := -1) (tgt := 8) hx hb (by omega) dX3_least_2 (by decide) (fun c_2 => ?_) (fun c_2 => ?_)
  · refine lv_aload_n hx hb dX3_least_8 rfl (lv_at hl 0 rfl) ?_
    refine z_Vvw (As := []) (rest := []) hx hb hml hown hts hA hS hP hD hK hZ hl.1 (c_X3_layAllRests l D cI cJ cZ cO _ (h0) (a0) (a1) (a2) (a3) (a4) (a5) (a6) (σ) (gr) (gw) (gl) hO) (cwV 0 hts gX3_least_X3_layAllRests rfl rfl rfl (by decide +kernel) ⟨Nat.le_of_ble_eq_true rfl, Nat.le_of_ble_eq_true rfl⟩) [0, 1, 2, 3, 4] rfl rfl (fun _ => rfl) 0 3 rfl rfl rfl rfl (Nat.le_of_ble_eq_true rfl) ⟨Nat.zero_le _, Nat.zero_le _⟩ dX3_least_9 (fun u1 H locs hw hP hD hS => ?_)
    have hP : va_P D vwCl [(h0, .inr (3, [.ref a0, .ref a1, .ref a2, .ref a3, .ref a4, .ref a5, .ref a6])), (a0, .inl (cI, 22, .inl (zF (σ)))), (a3, .inl (cI, 768, .inl (zF (u1.1)))), (a4, .inl (cJ, 768, .inr (.inl (zL (u1.2.1))))), (a5, .inl (cJ, 768, .inr (.inl (zL (u1.2.2)))))] H := hP
    have hD : va_D A [(h0, .inr (3, [.ref a0, .ref a1, .ref a2, .ref a3, .ref a4, .ref a5, .ref a6])), (a0, .inl (cI, 22, .inl (zF (σ)))), (a3, .inl (cI, 768, .inl (zF (u1.1)))), (a4, .inl (cJ, 768, .inr (.inl (zL (u1.2.1))))), (a5, .inl (cJ, 768, .inr (.inl (zL (u1.2.2)))))] := hD
    have hLay := hw
    refine lv_aload_n hx hb dX3_least_12 rfl (lv_at hl 0 rfl) ?_
    refine z_Vir (As := []) (rest := []) hx hb hml hown hts hA hS hP hD hK hZ hl.1 (c_X3_leastOfAll l D cI cJ cZ cO _ (h0) (a0) (a1) (a2) (a3) (a4) (a5) (a6) (σ) (u1.1) (u1.2.1) (u1.2.2) hO hw) (cwV 0 hts gX3_least_X3_leastOfAll rfl rfl rfl (by decide +kernel) ⟨Nat.le_of_ble_eq_true rfl, Nat.le_of_ble_eq_true rfl⟩) [0, 1, 2, 3] rfl rfl 0 3 rfl rfl rfl rfl (Nat.le_of_ble_eq_true rfl) ⟨Nat.zero_le _, Nat.zero_le _⟩ dX3_least_13 (fun r u H locs hw hP hS => ?_)
    subst hw
    refine lv_istore_n (lv' := [(2, .int (zI (LEAST σ))), (0, .ref h0), (1, .int (zI (i)))]) hx hb dX3_least_16 rfl hl (by decide) rfl (fun ls hl => ?_)
    refine lv_iload_n hx hb dX3_least_17 rfl (lv_at hl 2 rfl) ?_
    refine lv_iconst (v := zI (-1)) hx hb dX3_least_18 rfl ?_
    refine z_icmp_eq (a := i) (b := -1) (tgt := 37) hx hb (by omega) dX3_least_19 (by decide) (fun c_19 => ?_) (fun c_19 => ?_)
    · refine lv_iload_n hx hb dX3_least_37 rfl (lv_at hl 2 rfl) ?_
      refine lv_iconst (v := zI (-1)) hx hb dX3_least_38 rfl ?_
      refine z_icmp_ne (a := i) (b := -1) (tgt := 46) hx hb (by omega) dX3_least_39 (by decide) (fun c_39 => ?_) (fun c_39 => ?_)
      · refine lv_bipush (v := zI (-6)) hx hb dX3_least_46 (by decide +kernel) ?_
        exact hret _ _ _ _ _ (u1.1, u1.2.1, u1.2.2) dX3_least_48 (by unfold A_least; first | (rw [if_neg (by omega), if_pos c_39]; done) | (rw [if_neg (by omega), if_neg c_39, if_pos (by omega)]; done)) hP hS
      · refine lv_iload_n hx hb dX3_least_42 rfl (lv_at hl 0 rfl) ?_
        refine lv_goto (tgt := 48) hx hb dX3_least_43 (by decide) ?_
        exact hret _ _ _ _ _ (u1.1, u1.2.1, u1.2.2) dX3_least_48 (by unfold A_least; first | (rw [if_neg (by omega), if_pos c_39]; done) | (rw [if_neg (by omega), if_neg c_39, if_pos (by omega)]; done)) hP hS
    · refine lv_iload_n hx hb dX3_least_22 rfl (lv_at hl 0 rfl) ?_
      refine z_if_lt (a := LEAST σ) (tgt := 37) hx hb (by omega) dX3_least_23 (by decide) (fun c_23 => ?_) (fun c_23 => ?_)
      · refine lv_iload_n hx hb dX3_least_37 rfl (lv_at hl 2 rfl) ?_
        refine lv_iconst (v := zI (-1)) hx hb dX3_least_38 rfl ?_
        refine z_icmp_ne (a := i) (b := -1) (tgt := 46) hx hb (by omega) dX3_least_39 (by decide) (fun c_39 => ?_) (fun c_39 => ?_)
        · refine lv_bipush (v := zI (-6)) hx hb dX3_least_46 (by decide +kernel) ?_
          exact hret _ _ _ _ _ (u1.1, u1.2.1, u1.2.2) dX3_least_48 (by unfold A_least; first | (rw [if_neg (by omega), if_pos c_39]; done) | (rw [if_neg (by omega), if_neg c_39, if_pos (by omega)]; done)) hP hS
        · refine lv_iload_n hx hb dX3_least_42 rfl (lv_at hl 0 rfl) ?_
          refine lv_goto (tgt := 48) hx hb dX3_least_43 (by decide) ?_
          exact hret _ _ _ _ _ (u1.1, u1.2.1, u1.2.2) dX3_least_48 (by unfold A_least; first | (rw [if_neg (by omega), if_pos c_39]; done) | (rw [if_neg (by omega), if_neg c_39, if_pos (by omega)]; done)) hP hS
      · refine lv_iload_n hx hb dX3_least_26 rfl (lv_at hl 2 rfl) ?_
        refine lv_aload_n hx hb dX3_least_27 rfl (lv_at hl 1 rfl) ?_
        refine va_get (D := D) (ci := 3) (v := .ref a0) (C := RX3) (T := TX3) (N := 7) hx hb hts in_X3_least_X3 hown hK hP 0 rfl rfl 0 (by decide) (hts _ m_X3_least_0) (fun _ h9 => h9) rfl dX3_least_28 ?_
        refine lv_bipush (v := zI (9)) hx hb dX3_least_31 (by decide +kernel) ?_
        refine z_iald (k := 9) (g := σ) hx hb hK hP 1 0 rfl rfl (by omega) dX3_least_33 ?_
        try dsimp only
        refine z_icmp_lt (a := i) (b := σ 9) (tgt := 49) hx hb (by omega) dX3_least_34 (by decide) (fun c_34 => ?_) (fun c_34 => ?_)
        · have hj0 : ((jP σ 0 : Nat) : Int) = σ 9 - 1 - ((0 : Nat) : Int) := by unfold jP; omega
          refine lv_aload_n hx hb dX3_least_49 rfl (lv_at hl 1 rfl) ?_
          refine lv_iconst (v := zI (0)) hx hb dX3_least_50 rfl ?_
          refine lv_iconst (v := zI (0)) hx hb dX3_least_51 rfl ?_
          refine lv_iload_n hx hb dX3_least_52 rfl (lv_at hl 0 rfl) ?_
          refine z_Vir (As := [.int (zI (0)), .int (zI (0)), .int (zI (LEAST σ))]) (rest := []) hx hb hml hown hts hA hS hP hD hK hZ hl.1 (c_X3_nextWay l D cI cJ cZ cO _ (h0) (a0) (a1) (a2) (a3) (a4) (a5) (a6) (σ) (u1.1) (u1.2.1) (u1.2.2) (jP σ 0) (0) (0) (LEAST σ) (by omega) (by omega) (by omega) (by omega) hO (hLay (jP σ 0) (by omega))) (cwV 3 hts gX3_least_X3_nextWay rfl rfl rfl (by decide +kernel) ⟨Nat.le_of_ble_eq_true rfl, Nat.le_of_ble_eq_true rfl⟩) [0, 1, 2, 3] rfl rfl 0 3 rfl rfl rfl rfl (Nat.le_of_ble_eq_true rfl) ⟨Nat.zero_le _, Nat.zero_le _⟩ dX3_least_53 (fun r u H locs hw hP hS => ?_)
          subst hw
          refine lv_istore_n (lv' := [(3, .int (zI (fnd (qN σ (jP σ 0) 0 0 (LEAST σ)) 64))), (2, .int (zI (LEAST σ))), (0, .ref h0), (1, .int (zI (i)))]) hx hb dX3_least_56 rfl hl (by decide) rfl (fun ls hl => ?_)
          refine lv_iconst (v := zI (1)) hx hb dX3_least_57 rfl ?_
          refine lv_istore (lv' := [(4, .int (zI (1))), (3, .int (zI (fnd (qN σ (jP σ 0) 0 0 (LEAST σ)) 64))), (2, .int (zI (LEAST σ))), (0, .ref h0), (1, .int (zI (i)))]) hx hb dX3_least_58 hl (by decide) rfl (fun ls hl => ?_)
          have loop_a : ∀ (f_a : Nat) (k : Nat) (x : Int) (t : Int) (H : Heap) (locs : List Loc) (ls : Array Slot), (t = (k : Int) + 1) → ((k : Int) ≤ i) → (x = wayAt σ k) → (12 - (k : Int) < (f_a : Int)) → va_P D vwCl [(h0, .inr (3, [.ref a0, .ref a1, .ref a2, .ref a3, .ref a4, .ref a5, .ref a6])), (a0, .inl (cI, 22, .inl (zF (σ)))), (a3, .inl (cI, 768, .inl (zF (u1.1)))), (a4, .inl (cJ, 768, .inr (.inl (zL (u1.2.1))))), (a5, .inl (cJ, 768, .inr (.inl (zL (u1.2.2)))))] H → va_D A [(h0, .inr (3, [.ref a0, .ref a1, .ref a2, .ref a3, .ref a4, .ref a5, .ref a6])), (a0, .inl (cI, 22, .inl (zF (σ)))), (a3, .inl (cI, 768, .inl (zF (u1.1)))), (a4, .inl (cJ, 768, .inr (.inl (zL (u1.2.1))))), (a5, .inl (cJ, 768, .inr (.inl (zL (u1.2.2)))))] → va_S A s.heap H locs → lv_has ls 6 [(0, .ref h0), (1, .int (zI (i))), (2, .int (zI (LEAST σ))), (3, .int (zI (x))), (4, .int (zI (t)))] → W p l e rmX3_least s m args below meth c H locs 0 0 Q (F0 m 60 ls []) := by
            intro f_a
            induction f_a with
            | zero =>
              intros
              exfalso; omega
            | succ f_a ih_a =>
              intro k x t H locs ls e_t e_k e_x hfu_a hP hD hS hl
              have hwk := wayAt_ok hO (by omega) k (by omega)
              rw [← e_x] at hwk
              have hjk : ((jP σ k : Nat) : Int) = σ 9 - 1 - (k : Int) := by unfold jP; omega
              refine lv_iload hx hb dX3_least_60 (lv_at hl 4 rfl) ?_
              refine lv_iload_n hx hb dX3_least_62 rfl (lv_at hl 1 rfl) ?_
              refine z_icmp_gt (a := t) (b := i) (tgt := 115) hx hb (by omega) dX3_least_63 (by decide) (fun c_63 => ?_) (fun c_63 => ?_)
              · refine lv_iload_n hx hb dX3_least_115 rfl (lv_at hl 3 rfl) ?_
                exact hret _ _ _ _ _ (u1.1, u1.2.1, u1.2.2) dX3_least_116 (by unfold A_least; rw [if_neg (by omega), if_neg c_19, if_neg (by omega), e_x, show k = i.toNat by omega]) hP hS
              · have hL1 := hLay (jP σ k) (by omega) x (by omega) (by omega)
                have hRx := (hL1.2 (WW_sd hwk.2).1).1
                rw [hjk, show 64 * (σ 9 - 1 - (σ 9 - 1 - (k : Int))) + x = 64 * (t - 1) + x by omega] at hRx
                have hRb := RR_in hO (jP σ k) (by omega) x hwk.1
                have o10 := hO.2.2.2.2.2.2.2.2.2.2 (k : Int) (by omega) (by omega)
                have hFb := flt_in hO (w := x) (n := σ (10 + (k : Int))) hwk.1 o10
                have e10 : 10 + t - 1 = 10 + (k : Int) := by omega
                have hj1 : ((jP σ (k + 1) : Nat) : Int) = σ 9 - 1 - ((k : Int) + 1) := by unfold jP; omega
                refine lv_aload_n hx hb dX3_least_66 rfl (lv_at hl 0 rfl) ?_
                refine va_get (D := D) (ci := 3) (v := .ref a3) (C := RX3) (T := TX3) (N := 7) hx hb hts in_X3_least_X3 hown hK hP 0 rfl rfl 3 (by decide) (hts _ m_X3_least_1) (fun _ h9 => h9) rfl dX3_least_67 ?_
                refine lv_iload hx hb dX3_least_70 (lv_at hl 4 rfl) ?_
                refine lv_iconst (v := zI (1)) hx hb dX3_least_72 rfl ?_
                refine z_isub (a := t) (b := 1) hx hb dX3_least_73 ?_
                refine lv_iload_n hx hb dX3_least_74 rfl (lv_at hl 3 rfl) ?_
                refine z_Sir (As := [.int (zI (t - 1)), .int (zI (x))]) (rest := [.ref a3]) hx hb hml hown hts hA hS hP hD hK hZ hl.1 (c_X3_at l D cI cJ cZ cO _ (t - 1) (x) ) (va_cwS 2 hts gX3_least_X3_at rfl rfl rfl (by decide +kernel) ⟨Nat.le_of_ble_eq_true rfl, Nat.le_of_ble_eq_true rfl⟩) [] rfl rfl rfl rfl (Nat.le_of_ble_eq_true rfl) ⟨Nat.zero_le _, Nat.zero_le _⟩ dX3_least_75 (fun r u H locs hw hP hS => ?_)
                subst hw
                refine z_iald (k := 64 * (t - 1) + x) (g := u1.1) hx hb hK hP 2 0 rfl rfl (by omega) dX3_least_78 ?_
                try dsimp only
                refine z_top (y := zI (RR σ (jP σ k) x)) (by rw [hRx]) ?_
                refine lv_aload_n hx hb dX3_least_79 rfl (lv_at hl 0 rfl) ?_
                refine lv_iload_n hx hb dX3_least_80 rfl (lv_at hl 3 rfl) ?_
                refine lv_aload_n hx hb dX3_least_81 rfl (lv_at hl 0 rfl) ?_
                refine va_get (D := D) (ci := 3) (v := .ref a0) (C := RX3) (T := TX3) (N := 7) hx hb hts in_X3_least_X3 hown hK hP 0 rfl rfl 0 (by decide) (hts _ m_X3_least_0) (fun _ h9 => h9) rfl dX3_least_82 ?_
                refine lv_bipush (v := zI (10)) hx hb dX3_least_85 (by decide +kernel) ?_
                refine lv_iload hx hb dX3_least_87 (lv_at hl 4 rfl) ?_
                refine z_iadd (a := 10) (b := t) hx hb dX3_least_89 ?_
                refine lv_iconst (v := zI (1)) hx hb dX3_least_90 rfl ?_
                refine z_isub (a := 10 + t) (b := 1) hx hb dX3_least_91 ?_
                refine z_iald (k := (10 + t) - 1) (g := σ) hx hb hK hP 1 0 rfl rfl (by omega) dX3_least_92 ?_
                try dsimp only
                refine z_top (y := zI (σ (10 + (k : Int)))) (by rw [e10]) ?_
                refine z_Vir (As := [.int (zI (x)), .int (zI (σ (10 + (k : Int))))]) (rest := [.int (zI (RR σ (jP σ k) x))]) hx hb hml hown hts hA hS hP hD hK hZ hl.1 (c_X3_faultOf l D cI cJ cZ cO _ (h0) (a0) (a1) (a2) (a3) (a4) (a5) (a6) (σ) (x) (σ (10 + (k : Int))) (by omega) (by omega) hO) (cwV 2 hts gX3_least_X3_faultOf rfl rfl rfl (by decide +kernel) ⟨Nat.le_of_ble_eq_true rfl, Nat.le_of_ble_eq_true rfl⟩) [0, 1] rfl rfl 0 3 rfl rfl rfl rfl (Nat.le_of_ble_eq_true rfl) ⟨Nat.zero_le _, Nat.zero_le _⟩ dX3_least_93 (fun r u H locs hw hP hS => ?_)
                subst hw
                refine z_isub (a := RR σ (jP σ k) x) (b := flt σ x (σ (10 + (k : Int)))) hx hb dX3_least_96 ?_
                refine lv_istore (lv' := [(5, .int (zI ((RR σ (jP σ k) x) - (flt σ x (σ (10 + (k : Int))))))), (0, .ref h0), (1, .int (zI (i))), (2, .int (zI (LEAST σ))), (3, .int (zI (x))), (4, .int (zI (t)))]) hx hb dX3_least_97 hl (by decide) rfl (fun ls hl => ?_)
                refine lv_aload_n hx hb dX3_least_99 rfl (lv_at hl 1 rfl) ?_
                refine lv_iload hx hb dX3_least_100 (lv_at hl 5 rfl) ?_
                refine lv_iload_n hx hb dX3_least_102 rfl (lv_at hl 4 rfl) ?_
                refine lv_iload hx hb dX3_least_103 (lv_at hl 0 rfl) ?_
                refine z_Vir (As := [.int (zI (t)), .int (zI (x)), .int (zI ((RR σ (jP σ k) x) - (flt σ x (σ (10 + (k : Int))))))]) (rest := []) hx hb hml hown hts hA hS hP hD hK hZ hl.1 (c_X3_nextWay l D cI cJ cZ cO _ (h0) (a0) (a1) (a2) (a3) (a4) (a5) (a6) (σ) (u1.1) (u1.2.1) (u1.2.2) (jP σ (k + 1)) (t) (x) ((RR σ (jP σ k) x) - (flt σ x (σ (10 + (k : Int))))) (by omega) (by omega) (by omega) (by omega) hO (hLay (jP σ (k + 1)) (by omega))) (cwV 3 hts gX3_least_X3_nextWay rfl rfl rfl (by decide +kernel) ⟨Nat.le_of_ble_eq_true rfl, Nat.le_of_ble_eq_true rfl⟩) [0, 1, 2, 3] rfl rfl 0 3 rfl rfl rfl rfl (Nat.le_of_ble_eq_true rfl) ⟨Nat.zero_le _, Nat.zero_le _⟩ dX3_least_105 (fun r u H locs hw hP hS => ?_)
                subst hw
                refine lv_istore_n (lv' := [(3, .int (zI (fnd (qN σ (jP σ (k + 1)) t x ((RR σ (jP σ k) x) - (flt σ x (σ (10 + (k : Int)))))) 64))), (5, .int (zI ((RR σ (jP σ k) x) - (flt σ x (σ (10 + (k : Int))))))), (0, .ref h0), (1, .int (zI (i))), (2, .int (zI (LEAST σ))), (4, .int (zI (t)))]) hx hb dX3_least_108 rfl hl (by decide) rfl (fun ls hl => ?_)
                refine lv_iinc (v := zI (t + 1)) (lv' := [(4, .int (zI (t + 1))), (3, .int (zI (fnd (qN σ (jP σ (k + 1)) t x ((RR σ (jP σ k) x) - (flt σ x (σ (10 + (k : Int)))))) 64))), (5, .int (zI ((RR σ (jP σ k) x) - (flt σ x (σ (10 + (k : Int))))))), (0, .ref h0), (1, .int (zI (i))), (2, .int (zI (LEAST σ)))]) hx hb dX3_least_109 hl (k := 5) rfl (zI_add _ _) (by decide) rfl (fun ls hl => ?_)
                refine lv_goto (tgt := 60) hx hb dX3_least_112 (by decide) ?_
                exact ih_a (k + 1) (fnd (qN σ (jP σ (k + 1)) t x ((RR σ (jP σ k) x) - (flt σ x (σ (10 + (k : Int)))))) 64) (t + 1) _ _ _ (by omega) (by omega) (by rw [wayAt_s, e_t, ← e_x]) (by omega) hP hD hS (lv_sub hl [3, 4, 5, 1, 0] rfl)
          exact loop_a 70 (0) (fnd (qN σ (jP σ 0) 0 0 (LEAST σ)) 64) (1) _ _ _ (by omega) (by omega) ((wayAt_0 σ).symm) (by omega) hP hD hS (lv_sub hl [3, 4, 2, 1, 0] rfl)
        · refine lv_iload_n hx hb dX3_least_37 rfl (lv_at hl 2 rfl) ?_
          refine lv_iconst (v := zI (-1)) hx hb dX3_least_38 rfl ?_
          refine z_icmp_ne (a := i) (b := -1) (tgt := 46) hx hb (by omega) dX3_least_39 (by decide) (fun c_39 => ?_) (fun c_39 => ?_)
          · refine lv_bipush (v := zI (-6)) hx hb dX3_least_46 (by decide +kernel) ?_
            exact hret _ _ _ _ _ (u1.1, u1.2.1, u1.2.2) dX3_least_48 (by unfold A_least; first | (rw [if_neg (by omega), if_pos c_39]; done) | (rw [if_neg (by omega), if_neg c_39, if_pos (by omega)]; done)) hP hS
          · refine lv_iload_n hx hb dX3_least_42 rfl (lv_at hl 0 rfl) ?_
            refine lv_goto (tgt := 48) hx hb dX3_least_43 (by decide) ?_
            exact hret _ _ _ _ _ (u1.1, u1.2.1, u1.2.2) dX3_least_48 (by unfold A_least; first | (rw [if_neg (by omega), if_pos c_39]; done) | (rw [if_neg (by omega), if_neg c_39, if_pos (by omega)]; done)) hP hS
  · refine lv_bipush (v := zI (-2)) hx hb dX3_least_5 (by decide +kernel) ?_
    exact hret _ _ _ _ _ (gr, gw, gl) dX3_least_7 (by unfold A_least; rw [if_pos (by omega)]) hP hS
