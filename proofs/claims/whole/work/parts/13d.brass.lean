abbrev rmX2_ways : Room := { frames := 4, cells := 0, slots := 0, locals := 93 }
theorem in_X2_ways_X2 : ∀ w ∈ wsX20, w ∈ wsX2_ways := fun _ h => List.mem_cons_of_mem _ (List.mem_append_left _ (List.mem_append_right _ h))
theorem m_X2_ways_0 : (.fieldLink RX2 12 "BrassWays" "now" "LBrassWays$Setup;" : Cond) ∈ wsX2_ways := List.mem_of_getElem? (i := 1) rfl
theorem m_X2_ways_1 : (.fieldLink RX2 31 "BrassWays" "waysOfOne" "[I" : Cond) ∈ wsX2_ways := List.mem_of_getElem? (i := 2) rfl
set_option maxHeartbeats 4000000 in
set_option maxRecDepth 100000 in
theorem c_X2_ways (l : Launch) (D : va_G) (cI cJ cZ cO : ClassId) (sz : Nat) (x0 : Nat) (s0 : Nat) (b1 : Nat) (b2 : Nat) (b3 : Nat) (im : Nat) (p0 : Nat) (r1 : Nat) (r2 : Nat) (r3 : Nat) (r4 : Nat) (σ : Int → Int) (gk : Int → Int) (g1 : Int → Int) (n : Int) (i : Int) (h_n : -2147483648 ≤ n ∧ n < 2147483648) (h_i : -2147483648 ≤ i ∧ i < 2147483648) (hO : Ok σ) : Met l yX2_ways wsX2_ways rmX2_ways (zPc D cI cJ cZ cO [(x0, .inr (2, [.ref s0, .ref im, .int (zI (gk 0 + 2 * gk 1)), .ref p0, .ref r1, .ref r2, .ref r3, .ref r4])), (s0, .inr (1, [.int (zI (σ 0)), .ref b1, .ref b2, .ref b3, .int (zI (σ 9))])), (b1, .inl (cI, 3, .inl (zF (fun j => σ (1 + j))))), (b2, .inl (cI, 5, .inl (zF (fun j => σ (4 + j))))), (b3, .inl (cI, 12, .inl (zF (fun j => σ (10 + j))))), (r1, .inl (cI, 8, .inl (zF (g1))))] sz [.ref x0, .int (zI (n)), .int (zI (i))]) (zQi D (fun (r : Int32) (_ : Int → Int) => r = zI (A_ways σ n i)) (fun (u : Int → Int) => [(x0, .inr (2, [.ref s0, .ref im, .int (zI (gk 0 + 2 * gk 1)), .ref p0, .ref r1, .ref r2, .ref r3, .ref r4])), (s0, .inr (1, [.int (zI (σ 0)), .ref b1, .ref b2, .ref b3, .int (zI (σ 9))])), (b1, .inl (cI, 3, .inl (zF (fun j => σ (1 + j))))), (b2, .inl (cI, 5, .inl (zF (fun j => σ (4 + j))))), (b3, .inl (cI, 12, .inl (zF (fun j => σ (10 + j))))), (r1, .inl (cI, 8, .inl (zF (u))))]) [(x0, .inr (2, [.ref s0, .ref im, .int (zI (gk 0 + 2 * gk 1)), .ref p0, .ref r1, .ref r2, .ref r3, .ref r4])), (s0, .inr (1, [.int (zI (σ 0)), .ref b1, .ref b2, .ref b3, .int (zI (σ 9))])), (b1, .inl (cI, 3, .inl (zF (fun j => σ (1 + j))))), (b2, .inl (cI, 5, .inl (zF (fun j => σ (4 + j))))), (b3, .inl (cI, 12, .inl (zF (fun j => σ (10 + j))))), (r1, .inl (cI, 8, .inl (zF (g1))))] sz) 0 0 (va_A [(x0, .inr (2, [.ref s0, .ref im, .int (zI (gk 0 + 2 * gk 1)), .ref p0, .ref r1, .ref r2, .ref r3, .ref r4])), (s0, .inr (1, [.int (zI (σ 0)), .ref b1, .ref b2, .ref b3, .int (zI (σ 9))])), (b1, .inl (cI, 3, .inl (zF (fun j => σ (1 + j))))), (b2, .inl (cI, 5, .inl (zF (fun j => σ (4 + j))))), (b3, .inl (cI, 12, .inl (zF (fun j => σ (10 + j))))), (r1, .inl (cI, 8, .inl (zF (g1))))] sz) := by
  refine z_meti (by decide) rfl (Nat.le_of_ble_eq_true rfl) ?_
  intro p e s m args below meth c A Q ls hx hb hml hown hts hA hS hP hD hK hZ hl hret
  have hl : lv_has ls 4 [(0, .ref x0), (1, .int (zI (n))), (2, .int (zI (i)))] := hl
  have h8 := cnt8 hO n 64
  have h08 := cnt_in (fun w => sd σ w n) 64
  refine lv_iload_n hx hb dX2_ways_0 rfl (lv_at hl 1 rfl) ?_
  refine z_Sir (As := [.int (zI (n))]) (rest := []) hx hb hml hown hts hA hS hP hD hK hZ hl.1 (c_X2_isNote l D cI cJ cZ cO _ (n) (by omega)) (va_cwS 1 hts gX2_ways_X2_isNote rfl rfl rfl (by decide +kernel) ⟨Nat.le_of_ble_eq_true rfl, Nat.le_of_ble_eq_true rfl⟩) [] rfl rfl rfl rfl (Nat.le_of_ble_eq_true rfl) ⟨Nat.zero_le _, Nat.zero_le _⟩ dX2_ways_1 (fun r u H locs hw hP hS => ?_)
  subst hw
  refine z_ifB_eq (P := 0 ≤ n ∧ n ≤ 36) (tgt := 12) hx hb dX2_ways_4 (by decide) (fun c_4 => ?_) (fun c_4 => ?_)
  · refine lv_bipush (v := zI (-2)) hx hb dX2_ways_12 (by decide +kernel) ?_
    exact hret _ _ _ _ _ g1 dX2_ways_14 (by unfold A_ways; first | (rw [if_neg c_4]; done) | (rw [if_pos c_4, if_pos (by omega)]; done)) hP hS
  · refine lv_iload_n hx hb dX2_ways_7 rfl (lv_at hl 2 rfl) ?_
    refine lv_iconst (v := zI (-1)) hx hb dX2_ways_8 rfl ?_
    refine z_icmp_ge (a := i) (b := -1) (tgt := 15) hx hb (by omega) dX2_ways_9 (by decide) (fun c_9 => ?_) (fun c_9 => ?_)
    · refine lv_aload_n hx hb dX2_ways_15 rfl (lv_at hl 0 rfl) ?_
      refine va_get (D := D) (ci := 2) (v := .ref s0) (C := RX2) (T := TX2) (N := 8) hx hb hts in_X2_ways_X2 hown hK hP 0 rfl rfl 0 (by decide) (hts _ m_X2_ways_0) (fun _ h9 => h9) rfl dX2_ways_16 ?_
      refine lv_iload_n hx hb dX2_ways_19 rfl (lv_at hl 1 rfl) ?_
      refine lv_aload_n hx hb dX2_ways_20 rfl (lv_at hl 0 rfl) ?_
      refine va_get (D := D) (ci := 2) (v := .ref r1) (C := RX2) (T := TX2) (N := 8) hx hb hts in_X2_ways_X2 hown hK hP 0 rfl rfl 4 (by decide) (hts _ m_X2_ways_1) (fun _ h9 => h9) rfl dX2_ways_21 ?_
      refine lv_iconst (v := zI (0)) hx hb dX2_ways_24 rfl ?_
      refine z_Viw (As := [.int (zI (n)), .ref r1, .int (zI (0))]) (rest := []) hx hb hml hown hts hA hS hP hD hK hZ hl.1 (c_X1_gatherWays l D cI cJ cZ cO _ (s0) (b1) (b2) (b3) (σ) (r1) (8) (g1) (n) (0) (by omega) (by omega) (by omega) hO) (cwV 3 hts gX2_ways_X1_gatherWays rfl rfl rfl (by decide +kernel) ⟨Nat.le_of_ble_eq_true rfl, Nat.le_of_ble_eq_true rfl⟩) [1, 2, 3, 4, 5] rfl rfl (fun _ => rfl) 1 1 rfl rfl rfl rfl (Nat.le_of_ble_eq_true rfl) ⟨Nat.zero_le _, Nat.zero_le _⟩ dX2_ways_25 (fun r u1 H locs hw hP hD hS => ?_)
      have hP : va_P D vwCl [(x0, .inr (2, [.ref s0, .ref im, .int (zI (gk 0 + 2 * gk 1)), .ref p0, .ref r1, .ref r2, .ref r3, .ref r4])), (s0, .inr (1, [.int (zI (σ 0)), .ref b1, .ref b2, .ref b3, .int (zI (σ 9))])), (b1, .inl (cI, 3, .inl (zF (fun j => σ (1 + j))))), (b2, .inl (cI, 5, .inl (zF (fun j => σ (4 + j))))), (b3, .inl (cI, 12, .inl (zF (fun j => σ (10 + j))))), (r1, .inl (cI, 8, .inl (zF (u1))))] H := hP
      have hD : va_D A [(x0, .inr (2, [.ref s0, .ref im, .int (zI (gk 0 + 2 * gk 1)), .ref p0, .ref r1, .ref r2, .ref r3, .ref r4])), (s0, .inr (1, [.int (zI (σ 0)), .ref b1, .ref b2, .ref b3, .int (zI (σ 9))])), (b1, .inl (cI, 3, .inl (zF (fun j => σ (1 + j))))), (b2, .inl (cI, 5, .inl (zF (fun j => σ (4 + j))))), (b3, .inl (cI, 12, .inl (zF (fun j => σ (10 + j))))), (r1, .inl (cI, 8, .inl (zF (u1))))] := hD
      obtain ⟨hr, hgo, hgn⟩ := hw
      subst hr
      refine lv_istore_n (lv' := [(3, .int (zI (cnt (fun w => sd σ w n) 64))), (0, .ref x0), (1, .int (zI (n))), (2, .int (zI (i)))]) hx hb dX2_ways_28 rfl hl (by decide) rfl (fun ls hl => ?_)
      refine lv_iload_n hx hb dX2_ways_29 rfl (lv_at hl 3 rfl) ?_
      refine lv_iconst (v := zI (-1)) hx hb dX2_ways_30 rfl ?_
      refine z_icmp_ne (a := i) (b := -1) (tgt := 36) hx hb (by omega) dX2_ways_31 (by decide) (fun c_31 => ?_) (fun c_31 => ?_)
      · refine lv_iload_n hx hb dX2_ways_36 rfl (lv_at hl 3 rfl) ?_
        refine lv_iload_n hx hb dX2_ways_37 rfl (lv_at hl 0 rfl) ?_
        refine z_icmp_ge (a := i) (b := cnt (fun w => sd σ w n) 64) (tgt := 50) hx hb (by omega) dX2_ways_38 (by decide) (fun c_38 => ?_) (fun c_38 => ?_)
        · refine lv_bipush (v := zI (-6)) hx hb dX2_ways_50 (by decide +kernel) ?_
          exact hret _ _ _ _ _ u1 dX2_ways_52 (by unfold A_ways; rw [if_pos c_4, if_neg (by omega), if_neg c_31]; first | rfl | (exact congrArg zI (nw_out c_38).symm)) hP hS
        · refine lv_aload_n hx hb dX2_ways_41 rfl (lv_at hl 1 rfl) ?_
          refine va_get (D := D) (ci := 2) (v := .ref r1) (C := RX2) (T := TX2) (N := 8) hx hb hts in_X2_ways_X2 hown hK hP 0 rfl rfl 4 (by decide) (hts _ m_X2_ways_1) (fun _ h9 => h9) rfl dX2_ways_42 ?_
          refine lv_iload_n hx hb dX2_ways_45 rfl (lv_at hl 3 rfl) ?_
          refine z_iald (k := i) (g := u1) hx hb hK hP 5 0 rfl rfl (by omega) dX2_ways_46 ?_
          try dsimp only
          refine z_top (y := zI (nw σ n i)) (by rw [← hgn i (by omega) (by omega), show 0 + i = i by omega]) ?_
          refine lv_goto (tgt := 52) hx hb dX2_ways_47 (by decide) ?_
          exact hret _ _ _ _ _ u1 dX2_ways_52 (by unfold A_ways; rw [if_pos c_4, if_neg (by omega), if_neg c_31]; first | rfl | (exact congrArg zI (nw_out c_38).symm)) hP hS
      · refine lv_iload_n hx hb dX2_ways_34 rfl (lv_at hl 0 rfl) ?_
        exact hret _ _ _ _ _ u1 dX2_ways_35 (by unfold A_ways; rw [if_pos c_4, if_neg (by omega), if_pos c_31]) hP hS
    · refine lv_bipush (v := zI (-2)) hx hb dX2_ways_12 (by decide +kernel) ?_
      exact hret _ _ _ _ _ g1 dX2_ways_14 (by unfold A_ways; first | (rw [if_neg c_4]; done) | (rw [if_pos c_4, if_pos (by omega)]; done)) hP hS
abbrev rmX2_truest : Room := { frames := 4, cells := 0, slots := 0, locals := 93 }
theorem in_X2_truest_X2 : ∀ w ∈ wsX20, w ∈ wsX2_truest := fun _ h => List.mem_cons_of_mem _ (List.mem_append_left _ (List.mem_append_right _ h))
theorem m_X2_truest_0 : (.fieldLink RX2 12 "BrassWays" "now" "LBrassWays$Setup;" : Cond) ∈ wsX2_truest := List.mem_of_getElem? (i := 1) rfl
theorem m_X2_truest_1 : (.fieldLink RX2 31 "BrassWays" "waysOfOne" "[I" : Cond) ∈ wsX2_truest := List.mem_of_getElem? (i := 2) rfl
theorem m_X2_truest_2 : (.constant RX2 81 (1000000) : Cond) ∈ wsX2_truest := List.mem_of_getElem? (i := 3) rfl
theorem m_X2_truest_3 : (.methodLink RX2 82 Lib.Math.abs.name : Cond) ∈ wsX2_truest := List.mem_of_getElem? (i := 4) rfl
theorem m_X2_truest_4 : (.static Lib.Math.abs.name : Cond) ∈ wsX2_truest := List.mem_of_getElem? (i := 5) rfl
theorem m_X2_truest_5 : (.initialized "java/lang/Math" : Cond) ∈ wsX2_truest := List.mem_of_getElem? (i := 6) rfl
theorem m_X2_truest_6 : (.code Lib.Math.abs.name Lib.Math.abs.code 1 (some .int) : Cond) ∈ wsX2_truest := List.mem_of_getElem? (i := 7) rfl
set_option maxHeartbeats 4000000 in
set_option maxRecDepth 100000 in
theorem c_X2_truest (l : Launch) (D : va_G) (cI cJ cZ cO : ClassId) (sz : Nat) (x0 : Nat) (s0 : Nat) (b1 : Nat) (b2 : Nat) (b3 : Nat) (im : Nat) (p0 : Nat) (r1 : Nat) (r2 : Nat) (r3 : Nat) (r4 : Nat) (σ : Int → Int) (gk : Int → Int) (g1 : Int → Int) (n : Int) (h_n : -2147483648 ≤ n ∧ n < 2147483648) (hO : Ok σ) : Met l yX2_truest wsX2_truest rmX2_truest (zPc D cI cJ cZ cO [(x0, .inr (2, [.ref s0, .ref im, .int (zI (gk 0 + 2 * gk 1)), .ref p0, .ref r1, .ref r2, .ref r3, .ref r4])), (s0, .inr (1, [.int (zI (σ 0)), .ref b1, .ref b2, .ref b3, .int (zI (σ 9))])), (b1, .inl (cI, 3, .inl (zF (fun j => σ (1 + j))))), (b2, .inl (cI, 5, .inl (zF (fun j => σ (4 + j))))), (b3, .inl (cI, 12, .inl (zF (fun j => σ (10 + j))))), (r1, .inl (cI, 8, .inl (zF (g1))))] sz [.ref x0, .int (zI (n))]) (zQi D (fun (r : Int32) (_ : Int → Int) => r = zI (A_truest σ n)) (fun (u : Int → Int) => [(x0, .inr (2, [.ref s0, .ref im, .int (zI (gk 0 + 2 * gk 1)), .ref p0, .ref r1, .ref r2, .ref r3, .ref r4])), (s0, .inr (1, [.int (zI (σ 0)), .ref b1, .ref b2, .ref b3, .int (zI (σ 9))])), (b1, .inl (cI, 3, .inl (zF (fun j => σ (1 + j))))), (b2, .inl (cI, 5, .inl (zF (fun j => σ (4 + j))))), (b3, .inl (cI, 12, .inl (zF (fun j => σ (10 + j))))), (r1, .inl (cI, 8, .inl (zF (u))))]) [(x0, .inr (2, [.ref s0, .ref im, .int (zI (gk 0 + 2 * gk 1)), .ref p0, .ref r1, .ref r2, .ref r3, .ref r4])), (s0, .inr (1, [.int (zI (σ 0)), .ref b1, .ref b2, .ref b3, .int (zI (σ 9))])), (b1, .inl (cI, 3, .inl (zF (fun j => σ (1 + j))))), (b2, .inl (cI, 5, .inl (zF (fun j => σ (4 + j))))), (b3, .inl (cI, 12, .inl (zF (fun j => σ (10 + j))))), (r1, .inl (cI, 8, .inl (zF (g1))))] sz) 0 0 (va_A [(x0, .inr (2, [.ref s0, .ref im, .int (zI (gk 0 + 2 * gk 1)), .ref p0, .ref r1, .ref r2, .ref r3, .ref r4])), (s0, .inr (1, [.int (zI (σ 0)), .ref b1, .ref b2, .ref b3, .int (zI (σ 9))])), (b1, .inl (cI, 3, .inl (zF (fun j => σ (1 + j))))), (b2, .inl (cI, 5, .inl (zF (fun j => σ (4 + j))))), (b3, .inl (cI, 12, .inl (zF (fun j => σ (10 + j))))), (r1, .inl (cI, 8, .inl (zF (g1))))] sz) := by
  refine z_meti (by decide) rfl (Nat.le_of_ble_eq_true rfl) ?_
  intro p e s m args below meth c A Q ls hx hb hml hown hts hA hS hP hD hK hZ hl hret
  have hl : lv_has ls 7 [(0, .ref x0), (1, .int (zI (n)))] := hl
  have h8 := cnt8 hO n 64
  have h08 := cnt_in (fun w => sd σ w n) 64
  refine lv_iload_n hx hb dX2_truest_0 rfl (lv_at hl 1 rfl) ?_
  refine z_Sir (As := [.int (zI (n))]) (rest := []) hx hb hml hown hts hA hS hP hD hK hZ hl.1 (c_X2_isNote l D cI cJ cZ cO _ (n) (by omega)) (va_cwS 1 hts gX2_truest_X2_isNote rfl rfl rfl (by decide +kernel) ⟨Nat.le_of_ble_eq_true rfl, Nat.le_of_ble_eq_true rfl⟩) [] rfl rfl rfl rfl (Nat.le_of_ble_eq_true rfl) ⟨Nat.zero_le _, Nat.zero_le _⟩ dX2_truest_1 (fun r u H locs hw hP hS => ?_)
  subst hw
  refine z_ifB_ne (P := 0 ≤ n ∧ n ≤ 36) (tgt := 10) hx hb dX2_truest_4 (by decide) (fun c_4 => ?_) (fun c_4 => ?_)
  · refine lv_aload_n hx hb dX2_truest_10 rfl (lv_at hl 0 rfl) ?_
    refine va_get (D := D) (ci := 2) (v := .ref s0) (C := RX2) (T := TX2) (N := 8) hx hb hts in_X2_truest_X2 hown hK hP 0 rfl rfl 0 (by decide) (hts _ m_X2_truest_0) (fun _ h9 => h9) rfl dX2_truest_11 ?_
    refine lv_iload_n hx hb dX2_truest_14 rfl (lv_at hl 1 rfl) ?_
    refine lv_aload_n hx hb dX2_truest_15 rfl (lv_at hl 0 rfl) ?_
    refine va_get (D := D) (ci := 2) (v := .ref r1) (C := RX2) (T := TX2) (N := 8) hx hb hts in_X2_truest_X2 hown hK hP 0 rfl rfl 4 (by decide) (hts _ m_X2_truest_1) (fun _ h9 => h9) rfl dX2_truest_16 ?_
    refine lv_iconst (v := zI (0)) hx hb dX2_truest_19 rfl ?_
    refine z_Viw (As := [.int (zI (n)), .ref r1, .int (zI (0))]) (rest := []) hx hb hml hown hts hA hS hP hD hK hZ hl.1 (c_X1_gatherWays l D cI cJ cZ cO _ (s0) (b1) (b2) (b3) (σ) (r1) (8) (g1) (n) (0) (by omega) (by omega) (by omega) hO) (cwV 3 hts gX2_truest_X1_gatherWays rfl rfl rfl (by decide +kernel) ⟨Nat.le_of_ble_eq_true rfl, Nat.le_of_ble_eq_true rfl⟩) [1, 2, 3, 4, 5] rfl rfl (fun _ => rfl) 1 1 rfl rfl rfl rfl (Nat.le_of_ble_eq_true rfl) ⟨Nat.zero_le _, Nat.zero_le _⟩ dX2_truest_20 (fun r u1 H locs hw hP hD hS => ?_)
    have hP : va_P D vwCl [(x0, .inr (2, [.ref s0, .ref im, .int (zI (gk 0 + 2 * gk 1)), .ref p0, .ref r1, .ref r2, .ref r3, .ref r4])), (s0, .inr (1, [.int (zI (σ 0)), .ref b1, .ref b2, .ref b3, .int (zI (σ 9))])), (b1, .inl (cI, 3, .inl (zF (fun j => σ (1 + j))))), (b2, .inl (cI, 5, .inl (zF (fun j => σ (4 + j))))), (b3, .inl (cI, 12, .inl (zF (fun j => σ (10 + j))))), (r1, .inl (cI, 8, .inl (zF (u1))))] H := hP
    have hD : va_D A [(x0, .inr (2, [.ref s0, .ref im, .int (zI (gk 0 + 2 * gk 1)), .ref p0, .ref r1, .ref r2, .ref r3, .ref r4])), (s0, .inr (1, [.int (zI (σ 0)), .ref b1, .ref b2, .ref b3, .int (zI (σ 9))])), (b1, .inl (cI, 3, .inl (zF (fun j => σ (1 + j))))), (b2, .inl (cI, 5, .inl (zF (fun j => σ (4 + j))))), (b3, .inl (cI, 12, .inl (zF (fun j => σ (10 + j))))), (r1, .inl (cI, 8, .inl (zF (u1))))] := hD
    obtain ⟨hr, hgo, hgn⟩ := hw
    subst hr
    refine lv_istore_n (lv' := [(2, .int (zI (cnt (fun w => sd σ w n) 64))), (0, .ref x0), (1, .int (zI (n)))]) hx hb dX2_truest_23 rfl hl (by decide) rfl (fun ls hl => ?_)
    refine lv_bipush (v := zI (-6)) hx hb dX2_truest_24 (by decide +kernel) ?_
    refine lv_istore_n (lv' := [(3, .int (zI (-6))), (2, .int (zI (cnt (fun w => sd σ w n) 64))), (0, .ref x0), (1, .int (zI (n)))]) hx hb dX2_truest_26 rfl hl (by decide) rfl (fun ls hl => ?_)
    refine lv_ldc hx hb hown (hts _ m_X2_truest_2) dX2_truest_27 ?_
    refine z_top (y := zI 1000000) (by decide +kernel) ?_
    refine lv_istore (lv' := [(4, .int (zI (1000000))), (3, .int (zI (-6))), (2, .int (zI (cnt (fun w => sd σ w n) 64))), (0, .ref x0), (1, .int (zI (n)))]) hx hb dX2_truest_29 hl (by decide) rfl (fun ls hl => ?_)
    refine lv_iconst (v := zI (0)) hx hb dX2_truest_31 rfl ?_
    refine lv_istore (lv' := [(5, .int (zI (0))), (4, .int (zI (1000000))), (3, .int (zI (-6))), (2, .int (zI (cnt (fun w => sd σ w n) 64))), (0, .ref x0), (1, .int (zI (n)))]) hx hb dX2_truest_32 hl (by decide) rfl (fun ls hl => ?_)
    have loop_a : ∀ (f_a : Nat) (k : Nat) (b : Int) (t : Int) (H : Heap) (locs : List Loc) (ls : Array Slot), ((k : Int) ≤ cnt (fun w => sd σ w n) 64) → (0 ≤ t ∧ t ≤ 1000000) → ((b, t) = amc (nw σ n) (fun w => aI (off σ w n)) k) → (8 - (k : Int) < (f_a : Int)) → va_P D vwCl [(x0, .inr (2, [.ref s0, .ref im, .int (zI (gk 0 + 2 * gk 1)), .ref p0, .ref r1, .ref r2, .ref r3, .ref r4])), (s0, .inr (1, [.int (zI (σ 0)), .ref b1, .ref b2, .ref b3, .int (zI (σ 9))])), (b1, .inl (cI, 3, .inl (zF (fun j => σ (1 + j))))), (b2, .inl (cI, 5, .inl (zF (fun j => σ (4 + j))))), (b3, .inl (cI, 12, .inl (zF (fun j => σ (10 + j))))), (r1, .inl (cI, 8, .inl (zF (u1))))] H → va_D A [(x0, .inr (2, [.ref s0, .ref im, .int (zI (gk 0 + 2 * gk 1)), .ref p0, .ref r1, .ref r2, .ref r3, .ref r4])), (s0, .inr (1, [.int (zI (σ 0)), .ref b1, .ref b2, .ref b3, .int (zI (σ 9))])), (b1, .inl (cI, 3, .inl (zF (fun j => σ (1 + j))))), (b2, .inl (cI, 5, .inl (zF (fun j => σ (4 + j))))), (b3, .inl (cI, 12, .inl (zF (fun j => σ (10 + j))))), (r1, .inl (cI, 8, .inl (zF (u1))))] → va_S A s.heap H locs → lv_has ls 7 [(0, .ref x0), (1, .int (zI (n))), (2, .int (zI (cnt (fun w => sd σ w n) 64))), (3, .int (zI (b))), (4, .int (zI (t))), (5, .int (zI ((k : Int))))] → W p l e rmX2_truest s m args below meth c H locs 0 0 Q (F0 m 34 ls []) := by
      intro f_a
      induction f_a with
      | zero =>
        intros
        exfalso; omega
      | succ f_a ih_a =>
        intro k b t H locs ls e_k e_t e_p hfu_a hP hD hS hl
        refine lv_iload hx hb dX2_truest_34 (lv_at hl 5 rfl) ?_
        refine lv_iload_n hx hb dX2_truest_36 rfl (lv_at hl 2 rfl) ?_
        refine z_icmp_ge (a := (k : Int)) (b := cnt (fun w => sd σ w n) 64) (tgt := 85) hx hb (by omega) dX2_truest_37 (by decide) (fun c_37 => ?_) (fun c_37 => ?_)
        · refine lv_iload_n hx hb dX2_truest_85 rfl (lv_at hl 3 rfl) ?_
          exact hret _ _ _ _ _ u1 dX2_truest_86 (by unfold A_truest; rw [if_pos c_4, ← truest_eq hO c_4, show (cnt (fun w => sd σ w n) 64).toNat = k by omega, ← e_p]) hP hS
        · obtain ⟨kx, a1, a2, a3, a4⟩ := nw_in (σ := σ) (n := n) (k : Int) (by omega) (by omega)
          have o1 := off_in hO (w := nw σ n (k : Int)) (n := n) (by omega) c_4
          have o3 := aI_in (a := off σ (nw σ n (k : Int)) n) (b := 4800) (by omega)
          refine lv_aload_n hx hb dX2_truest_40 rfl (lv_at hl 0 rfl) ?_
          refine va_get (D := D) (ci := 2) (v := .ref s0) (C := RX2) (T := TX2) (N := 8) hx hb hts in_X2_truest_X2 hown hK hP 0 rfl rfl 0 (by decide) (hts _ m_X2_truest_0) (fun _ h9 => h9) rfl dX2_truest_41 ?_
          refine lv_aload_n hx hb dX2_truest_44 rfl (lv_at hl 0 rfl) ?_
          refine va_get (D := D) (ci := 2) (v := .ref r1) (C := RX2) (T := TX2) (N := 8) hx hb hts in_X2_truest_X2 hown hK hP 0 rfl rfl 4 (by decide) (hts _ m_X2_truest_1) (fun _ h9 => h9) rfl dX2_truest_45 ?_
          refine lv_iload hx hb dX2_truest_48 (lv_at hl 5 rfl) ?_
          refine z_iald (k := (k : Int)) (g := u1) hx hb hK hP 5 0 rfl rfl (by omega) dX2_truest_50 ?_
          try dsimp only
          refine z_top (y := zI (nw σ n (k : Int))) (by rw [← hgn (k : Int) (by omega) (by omega), show 0 + (k : Int) = (k : Int) by omega]) ?_
          refine lv_iload_n hx hb dX2_truest_51 rfl (lv_at hl 1 rfl) ?_
          refine z_Vir (As := [.int (zI (nw σ n (k : Int))), .int (zI (n))]) (rest := []) hx hb hml hown hts hA hS hP hD hK hZ hl.1 (c_X1_offBy l D cI cJ cZ cO _ (s0) (b1) (b2) (b3) (σ) (nw σ n (k : Int)) (n) (by omega) hO) (cwV 2 hts gX2_truest_X1_offBy rfl rfl rfl (by decide +kernel) ⟨Nat.le_of_ble_eq_true rfl, Nat.le_of_ble_eq_true rfl⟩) [1, 2, 3, 4] rfl rfl 1 1 rfl rfl rfl rfl (Nat.le_of_ble_eq_true rfl) ⟨Nat.zero_le _, Nat.zero_le _⟩ dX2_truest_52 (fun r u H locs hw hP hS => ?_)
          subst hw
          refine z_mabs (a := off σ (nw σ n (k : Int)) n) hx hb (hml.trans hl.1.symm) hown (hts _ m_X2_truest_3) (hts _ m_X2_truest_4) (hts _ m_X2_truest_5) (hts _ m_X2_truest_6) (Nat.le_of_ble_eq_true rfl) (Nat.le_of_ble_eq_true rfl) (Nat.zero_le _) (Nat.zero_le _) (by omega) dX2_truest_55 ?_
          refine lv_istore (lv' := [(6, .int (zI (aI (off σ (nw σ n (k : Int)) n)))), (0, .ref x0), (1, .int (zI (n))), (2, .int (zI (cnt (fun w => sd σ w n) 64))), (3, .int (zI (b))), (4, .int (zI (t))), (5, .int (zI ((k : Int))))]) hx hb dX2_truest_58 hl (by decide) rfl (fun ls hl => ?_)
          refine lv_iload hx hb dX2_truest_60 (lv_at hl 0 rfl) ?_
          refine lv_iload hx hb dX2_truest_62 (lv_at hl 5 rfl) ?_
          refine z_icmp_ge (a := aI (off σ (nw σ n (k : Int)) n)) (b := t) (tgt := 79) hx hb (by omega) dX2_truest_64 (by decide) (fun c_64 => ?_) (fun c_64 => ?_)
          · refine lv_iinc (v := zI ((k : Int) + 1)) (lv' := [(5, .int (zI ((k : Int) + 1))), (6, .int (zI (aI (off σ (nw σ n (k : Int)) n)))), (0, .ref x0), (1, .int (zI (n))), (2, .int (zI (cnt (fun w => sd σ w n) 64))), (3, .int (zI (b))), (4, .int (zI (t)))]) hx hb dX2_truest_79 hl (k := 6) rfl (zI_add _ _) (by decide) rfl (fun ls hl => ?_)
            refine lv_goto (tgt := 34) hx hb dX2_truest_82 (by decide) ?_
            exact ih_a (k + 1) (b) (t) _ _ _ (by omega) (by omega) (by rw [amc_s e_p]; first | (rw [if_pos c_64]; done) | (rw [if_neg (Int.not_lt.mpr c_64)]; done)) (by omega) hP hD hS (lv_sub hl [2, 3, 4, 5, 6, 0] rfl)
          · refine lv_iload hx hb dX2_truest_67 (lv_at hl 0 rfl) ?_
            refine lv_istore (lv' := [(4, .int (zI (aI (off σ (nw σ n (k : Int)) n)))), (6, .int (zI (aI (off σ (nw σ n (k : Int)) n)))), (0, .ref x0), (1, .int (zI (n))), (2, .int (zI (cnt (fun w => sd σ w n) 64))), (3, .int (zI (b))), (5, .int (zI ((k : Int))))]) hx hb dX2_truest_69 hl (by decide) rfl (fun ls hl => ?_)
            refine lv_aload_n hx hb dX2_truest_71 rfl (lv_at hl 2 rfl) ?_
            refine va_get (D := D) (ci := 2) (v := .ref r1) (C := RX2) (T := TX2) (N := 8) hx hb hts in_X2_truest_X2 hown hK hP 0 rfl rfl 4 (by decide) (hts _ m_X2_truest_1) (fun _ h9 => h9) rfl dX2_truest_72 ?_
            refine lv_iload hx hb dX2_truest_75 (lv_at hl 6 rfl) ?_
            refine z_iald (k := (k : Int)) (g := u1) hx hb hK hP 5 0 rfl rfl (by omega) dX2_truest_77 ?_
            try dsimp only
            refine z_top (y := zI (nw σ n (k : Int))) (by rw [← hgn (k : Int) (by omega) (by omega), show 0 + (k : Int) = (k : Int) by omega]) ?_
            refine lv_istore_n (lv' := [(3, .int (zI (nw σ n (k : Int)))), (4, .int (zI (aI (off σ (nw σ n (k : Int)) n)))), (6, .int (zI (aI (off σ (nw σ n (k : Int)) n)))), (0, .ref x0), (1, .int (zI (n))), (2, .int (zI (cnt (fun w => sd σ w n) 64))), (5, .int (zI ((k : Int))))]) hx hb dX2_truest_78 rfl hl (by decide) rfl (fun ls hl => ?_)
            refine lv_iinc (v := zI ((k : Int) + 1)) (lv' := [(5, .int (zI ((k : Int) + 1))), (3, .int (zI (nw σ n (k : Int)))), (4, .int (zI (aI (off σ (nw σ n (k : Int)) n)))), (6, .int (zI (aI (off σ (nw σ n (k : Int)) n)))), (0, .ref x0), (1, .int (zI (n))), (2, .int (zI (cnt (fun w => sd σ w n) 64)))]) hx hb dX2_truest_79 hl (k := 6) rfl (zI_add _ _) (by decide) rfl (fun ls hl => ?_)
            refine lv_goto (tgt := 34) hx hb dX2_truest_82 (by decide) ?_
            exact ih_a (k + 1) (nw σ n (k : Int)) (aI (off σ (nw σ n (k : Int)) n)) _ _ _ (by omega) (by omega) (by rw [amc_s e_p]; first | (rw [if_pos c_64]; done) | (rw [if_neg (Int.not_lt.mpr c_64)]; done)) (by omega) hP hD hS (lv_sub hl [4, 5, 6, 1, 2, 0] rfl)
    exact loop_a 70 (0) (-6) (1000000) _ _ _ (by omega) (by omega) (rfl) (by omega) hP hD hS (lv_sub hl [4, 5, 3, 2, 1, 0] rfl)
  · refine lv_bipush (v := zI (-2)) hx hb dX2_truest_7 (by decide +kernel) ?_
    exact hret _ _ _ _ _ g1 dX2_truest_9 (by unfold A_truest; first | rw [if_neg c_4]) hP hS
abbrev rmX2_range : Room := { frames := 4, cells := 0, slots := 0, locals := 93 }
theorem in_X2_range_X2 : ∀ w ∈ wsX20, w ∈ wsX2_range := fun _ h => List.mem_cons_of_mem _ (List.mem_append_left _ (List.mem_append_right _ h))
theorem m_X2_range_0 : (.fieldLink RX2 12 "BrassWays" "now" "LBrassWays$Setup;" : Cond) ∈ wsX2_range := List.mem_of_getElem? (i := 1) rfl
theorem m_X2_range_1 : (.fieldLink RX2 31 "BrassWays" "waysOfOne" "[I" : Cond) ∈ wsX2_range := List.mem_of_getElem? (i := 2) rfl
set_option maxHeartbeats 4000000 in
set_option maxRecDepth 100000 in
theorem c_X2_range (l : Launch) (D : va_G) (cI cJ cZ cO : ClassId) (sz : Nat) (x0 : Nat) (s0 : Nat) (b1 : Nat) (b2 : Nat) (b3 : Nat) (im : Nat) (p0 : Nat) (r1 : Nat) (r2 : Nat) (r3 : Nat) (r4 : Nat) (σ : Int → Int) (gk : Int → Int) (g1 : Int → Int) (q : Int) (h_q : -2147483648 ≤ q ∧ q < 2147483648) (hO : Ok σ) : Met l yX2_range wsX2_range rmX2_range (zPc D cI cJ cZ cO [(x0, .inr (2, [.ref s0, .ref im, .int (zI (gk 0 + 2 * gk 1)), .ref p0, .ref r1, .ref r2, .ref r3, .ref r4])), (s0, .inr (1, [.int (zI (σ 0)), .ref b1, .ref b2, .ref b3, .int (zI (σ 9))])), (b1, .inl (cI, 3, .inl (zF (fun j => σ (1 + j))))), (b2, .inl (cI, 5, .inl (zF (fun j => σ (4 + j))))), (b3, .inl (cI, 12, .inl (zF (fun j => σ (10 + j))))), (r1, .inl (cI, 8, .inl (zF (g1))))] sz [.ref x0, .int (zI (q))]) (zQi D (fun (r : Int32) (_ : Int → Int) => r = zI (A_range σ q)) (fun (u : Int → Int) => [(x0, .inr (2, [.ref s0, .ref im, .int (zI (gk 0 + 2 * gk 1)), .ref p0, .ref r1, .ref r2, .ref r3, .ref r4])), (s0, .inr (1, [.int (zI (σ 0)), .ref b1, .ref b2, .ref b3, .int (zI (σ 9))])), (b1, .inl (cI, 3, .inl (zF (fun j => σ (1 + j))))), (b2, .inl (cI, 5, .inl (zF (fun j => σ (4 + j))))), (b3, .inl (cI, 12, .inl (zF (fun j => σ (10 + j))))), (r1, .inl (cI, 8, .inl (zF (u))))]) [(x0, .inr (2, [.ref s0, .ref im, .int (zI (gk 0 + 2 * gk 1)), .ref p0, .ref r1, .ref r2, .ref r3, .ref r4])), (s0, .inr (1, [.int (zI (σ 0)), .ref b1, .ref b2, .ref b3, .int (zI (σ 9))])), (b1, .inl (cI, 3, .inl (zF (fun j => σ (1 + j))))), (b2, .inl (cI, 5, .inl (zF (fun j => σ (4 + j))))), (b3, .inl (cI, 12, .inl (zF (fun j => σ (10 + j))))), (r1, .inl (cI, 8, .inl (zF (g1))))] sz) 0 0 (va_A [(x0, .inr (2, [.ref s0, .ref im, .int (zI (gk 0 + 2 * gk 1)), .ref p0, .ref r1, .ref r2, .ref r3, .ref r4])), (s0, .inr (1, [.int (zI (σ 0)), .ref b1, .ref b2, .ref b3, .int (zI (σ 9))])), (b1, .inl (cI, 3, .inl (zF (fun j => σ (1 + j))))), (b2, .inl (cI, 5, .inl (zF (fun j => σ (4 + j))))), (b3, .inl (cI, 12, .inl (zF (fun j => σ (10 + j))))), (r1, .inl (cI, 8, .inl (zF (g1))))] sz) := by
  refine z_meti (by decide) rfl (Nat.le_of_ble_eq_true rfl) ?_
  intro p e s m args below meth c A Q ls hx hb hml hown hts hA hS hP hD hK hZ hl hret
  have hl : lv_has ls 5 [(0, .ref x0), (1, .int (zI (q)))] := hl
  refine lv_iload_n hx hb dX2_range_0 rfl (lv_at hl 1 rfl) ?_
  refine lv_iconst (v := zI (-1)) hx hb dX2_range_1 rfl ?_
  refine z_icmp_lt (a := q) (b := -1) (tgt := 11) hx hb (by omega) dX2_range_2 (by decide) (fun c_2 => ?_) (fun c_2 => ?_)
  · refine lv_bipush (v := zI (-2)) hx hb dX2_range_11 (by decide +kernel) ?_
    exact hret _ _ _ _ _ g1 dX2_range_13 (by unfold A_range; rw [if_neg (by omega)]) hP hS
  · refine lv_iload_n hx hb dX2_range_5 rfl (lv_at hl 1 rfl) ?_
    refine lv_bipush (v := zI (64)) hx hb dX2_range_6 (by decide +kernel) ?_
    refine z_icmp_le (a := q) (b := 64) (tgt := 14) hx hb (by omega) dX2_range_8 (by decide) (fun c_8 => ?_) (fun c_8 => ?_)
    · refine lv_iconst (v := zI (0)) hx hb dX2_range_14 rfl ?_
      refine lv_istore_n (lv' := [(2, .int (zI (0))), (0, .ref x0), (1, .int (zI (q)))]) hx hb dX2_range_15 rfl hl (by decide) rfl (fun ls hl => ?_)
      refine lv_iconst (v := zI (0)) hx hb dX2_range_16 rfl ?_
      refine lv_istore_n (lv' := [(3, .int (zI (0))), (2, .int (zI (0))), (0, .ref x0), (1, .int (zI (q)))]) hx hb dX2_range_17 rfl hl (by decide) rfl (fun ls hl => ?_)
      have loop_a : ∀ (f_a : Nat) (k : Nat) (x : Int) (ro : Int → Int) (H : Heap) (locs : List Loc) (ls : Array Slot), (k ≤ 37) → (x = cnt (fun n => decide (if q = -1 then 0 < cnt (fun w => sd σ w n) 64 else cnt (fun w => sd σ w n) 64 = q)) k) → (37 - (k : Int) < (f_a : Int)) → va_P D vwCl [(x0, .inr (2, [.ref s0, .ref im, .int (zI (gk 0 + 2 * gk 1)), .ref p0, .ref r1, .ref r2, .ref r3, .ref r4])), (s0, .inr (1, [.int (zI (σ 0)), .ref b1, .ref b2, .ref b3, .int (zI (σ 9))])), (b1, .inl (cI, 3, .inl (zF (fun j => σ (1 + j))))), (b2, .inl (cI, 5, .inl (zF (fun j => σ (4 + j))))), (b3, .inl (cI, 12, .inl (zF (fun j => σ (10 + j))))), (r1, .inl (cI, 8, .inl (zF (ro))))] H → va_D A [(x0, .inr (2, [.ref s0, .ref im, .int (zI (gk 0 + 2 * gk 1)), .ref p0, .ref r1, .ref r2, .ref r3, .ref r4])), (s0, .inr (1, [.int (zI (σ 0)), .ref b1, .ref b2, .ref b3, .int (zI (σ 9))])), (b1, .inl (cI, 3, .inl (zF (fun j => σ (1 + j))))), (b2, .inl (cI, 5, .inl (zF (fun j => σ (4 + j))))), (b3, .inl (cI, 12, .inl (zF (fun j => σ (10 + j))))), (r1, .inl (cI, 8, .inl (zF (ro))))] → va_S A s.heap H locs → lv_has ls 5 [(0, .ref x0), (1, .int (zI (q))), (2, .int (zI (x))), (3, .int (zI ((k : Int))))] → W p l e rmX2_range s m args below meth c H locs 0 0 Q (F0 m 18 ls []) := by
        intro f_a
        induction f_a with
        | zero =>
          intros
          exfalso; omega
        | succ f_a ih_a =>
          intro k x ro H locs ls e_k e_x hfu_a hP hD hS hl
          have e_b := cnt_in (fun w => sd σ w (k : Int)) 64
          refine lv_iload_n hx hb dX2_range_18 rfl (lv_at hl 3 rfl) ?_
          refine lv_bipush (v := zI (37)) hx hb dX2_range_19 (by decide +kernel) ?_
          refine z_icmp_ge (a := (k : Int)) (b := 37) (tgt := 67) hx hb (by omega) dX2_range_21 (by decide) (fun c_21 => ?_) (fun c_21 => ?_)
          · refine lv_iload_n hx hb dX2_range_67 rfl (lv_at hl 2 rfl) ?_
            exact hret _ _ _ _ _ ro dX2_range_68 (by unfold A_range; rw [if_pos (by omega), e_x, show k = 37 by omega]) hP hS
          · refine lv_aload_n hx hb dX2_range_24 rfl (lv_at hl 0 rfl) ?_
            refine va_get (D := D) (ci := 2) (v := .ref s0) (C := RX2) (T := TX2) (N := 8) hx hb hts in_X2_range_X2 hown hK hP 0 rfl rfl 0 (by decide) (hts _ m_X2_range_0) (fun _ h9 => h9) rfl dX2_range_25 ?_
            refine lv_iload_n hx hb dX2_range_28 rfl (lv_at hl 3 rfl) ?_
            refine lv_aload_n hx hb dX2_range_29 rfl (lv_at hl 0 rfl) ?_
            refine va_get (D := D) (ci := 2) (v := .ref r1) (C := RX2) (T := TX2) (N := 8) hx hb hts in_X2_range_X2 hown hK hP 0 rfl rfl 4 (by decide) (hts _ m_X2_range_1) (fun _ h9 => h9) rfl dX2_range_30 ?_
            refine lv_iconst (v := zI (0)) hx hb dX2_range_33 rfl ?_
            refine z_Viw (As := [.int (zI ((k : Int))), .ref r1, .int (zI (0))]) (rest := []) hx hb hml hown hts hA hS hP hD hK hZ hl.1 (c_X1_gatherWays l D cI cJ cZ cO _ (s0) (b1) (b2) (b3) (σ) (r1) (8) (ro) ((k : Int)) (0) (by omega) (by omega) (by omega) hO) (cwV 3 hts gX2_range_X1_gatherWays rfl rfl rfl (by decide +kernel) ⟨Nat.le_of_ble_eq_true rfl, Nat.le_of_ble_eq_true rfl⟩) [1, 2, 3, 4, 5] rfl rfl (fun _ => rfl) 1 1 rfl rfl rfl rfl (Nat.le_of_ble_eq_true rfl) ⟨Nat.zero_le _, Nat.zero_le _⟩ dX2_range_34 (fun r u1 H locs hw hP hD hS => ?_)
            have hP : va_P D vwCl [(x0, .inr (2, [.ref s0, .ref im, .int (zI (gk 0 + 2 * gk 1)), .ref p0, .ref r1, .ref r2, .ref r3, .ref r4])), (s0, .inr (1, [.int (zI (σ 0)), .ref b1, .ref b2, .ref b3, .int (zI (σ 9))])), (b1, .inl (cI, 3, .inl (zF (fun j => σ (1 + j))))), (b2, .inl (cI, 5, .inl (zF (fun j => σ (4 + j))))), (b3, .inl (cI, 12, .inl (zF (fun j => σ (10 + j))))), (r1, .inl (cI, 8, .inl (zF (u1))))] H := hP
            have hD : va_D A [(x0, .inr (2, [.ref s0, .ref im, .int (zI (gk 0 + 2 * gk 1)), .ref p0, .ref r1, .ref r2, .ref r3, .ref r4])), (s0, .inr (1, [.int (zI (σ 0)), .ref b1, .ref b2, .ref b3, .int (zI (σ 9))])), (b1, .inl (cI, 3, .inl (zF (fun j => σ (1 + j))))), (b2, .inl (cI, 5, .inl (zF (fun j => σ (4 + j))))), (b3, .inl (cI, 12, .inl (zF (fun j => σ (10 + j))))), (r1, .inl (cI, 8, .inl (zF (u1))))] := hD
            obtain ⟨hr, hgo, hgn⟩ := hw
            subst hr
            refine lv_istore (lv' := [(4, .int (zI (cnt (fun w => sd σ w (k : Int)) 64))), (0, .ref x0), (1, .int (zI (q))), (2, .int (zI (x))), (3, .int (zI ((k : Int))))]) hx hb dX2_range_37 hl (by decide) rfl (fun ls hl => ?_)
            refine lv_iload_n hx hb dX2_range_39 rfl (lv_at hl 2 rfl) ?_
            refine lv_iconst (v := zI (-1)) hx hb dX2_range_40 rfl ?_
            refine z_icmp_ne (a := q) (b := -1) (tgt := 52) hx hb (by omega) dX2_range_41 (by decide) (fun c_41 => ?_) (fun c_41 => ?_)
            · refine lv_iload hx hb dX2_range_52 (lv_at hl 0 rfl) ?_
              refine lv_iload_n hx hb dX2_range_54 rfl (lv_at hl 2 rfl) ?_
              refine z_icmp_ne (a := cnt (fun w => sd σ w (k : Int)) 64) (b := q) (tgt := 61) hx hb (by omega) dX2_range_55 (by decide) (fun c_55 => ?_) (fun c_55 => ?_)
              · refine lv_iinc (v := zI ((k : Int) + 1)) (lv' := [(3, .int (zI ((k : Int) + 1))), (4, .int (zI (cnt (fun w => sd σ w (k : Int)) 64))), (0, .ref x0), (1, .int (zI (q))), (2, .int (zI (x)))]) hx hb dX2_range_61 hl (k := 4) rfl (zI_add _ _) (by decide) rfl (fun ls hl => ?_)
                refine lv_goto (tgt := 18) hx hb dX2_range_64 (by decide) ?_
                exact ih_a (k + 1) (x) (u1) _ _ _ (by omega) (by rw [cnt_s e_x]; first | (rw [if_pos (by simp only [decide_eq_true_eq]; first | (rw [if_pos c_41]; omega) | (rw [if_neg c_41]; omega))]; done) | (rw [if_neg (by simp only [decide_eq_true_eq]; first | (rw [if_pos c_41]; omega) | (rw [if_neg c_41]; omega)), Int.add_zero]; done)) (by omega) hP hD hS (lv_sub hl [2, 3, 4, 0] rfl)
              · refine lv_iinc (v := zI (x + 1)) (lv' := [(2, .int (zI (x + 1))), (4, .int (zI (cnt (fun w => sd σ w (k : Int)) 64))), (0, .ref x0), (1, .int (zI (q))), (3, .int (zI ((k : Int))))]) hx hb dX2_range_58 hl (k := 3) rfl (zI_add _ _) (by decide) rfl (fun ls hl => ?_)
                refine lv_iinc (v := zI ((k : Int) + 1)) (lv' := [(3, .int (zI ((k : Int) + 1))), (2, .int (zI (x + 1))), (4, .int (zI (cnt (fun w => sd σ w (k : Int)) 64))), (0, .ref x0), (1, .int (zI (q)))]) hx hb dX2_range_61 hl (k := 4) rfl (zI_add _ _) (by decide) rfl (fun ls hl => ?_)
                refine lv_goto (tgt := 18) hx hb dX2_range_64 (by decide) ?_
                exact ih_a (k + 1) (x + 1) (u1) _ _ _ (by omega) (by rw [cnt_s e_x]; first | (rw [if_pos (by simp only [decide_eq_true_eq]; first | (rw [if_pos c_41]; omega) | (rw [if_neg c_41]; omega))]; done) | (rw [if_neg (by simp only [decide_eq_true_eq]; first | (rw [if_pos c_41]; omega) | (rw [if_neg c_41]; omega)), Int.add_zero]; done)) (by omega) hP hD hS (lv_sub hl [3, 4, 1, 0] rfl)
            · refine lv_iload hx hb dX2_range_44 (lv_at hl 0 rfl) ?_
              refine z_if_le (a := cnt (fun w => sd σ w (k : Int)) 64) (tgt := 61) hx hb (by omega) dX2_range_46 (by decide) (fun c_46 => ?_) (fun c_46 => ?_)
              · refine lv_iinc (v := zI ((k : Int) + 1)) (lv' := [(3, .int (zI ((k : Int) + 1))), (4, .int (zI (cnt (fun w => sd σ w (k : Int)) 64))), (0, .ref x0), (1, .int (zI (q))), (2, .int (zI (x)))]) hx hb dX2_range_61 hl (k := 4) rfl (zI_add _ _) (by decide) rfl (fun ls hl => ?_)
                refine lv_goto (tgt := 18) hx hb dX2_range_64 (by decide) ?_
                exact ih_a (k + 1) (x) (u1) _ _ _ (by omega) (by rw [cnt_s e_x]; first | (rw [if_pos (by simp only [decide_eq_true_eq]; first | (rw [if_pos c_41]; omega) | (rw [if_neg c_41]; omega))]; done) | (rw [if_neg (by simp only [decide_eq_true_eq]; first | (rw [if_pos c_41]; omega) | (rw [if_neg c_41]; omega)), Int.add_zero]; done)) (by omega) hP hD hS (lv_sub hl [2, 3, 4, 0] rfl)
              · refine lv_goto (tgt := 58) hx hb dX2_range_49 (by decide) ?_
                refine lv_iinc (v := zI (x + 1)) (lv' := [(2, .int (zI (x + 1))), (4, .int (zI (cnt (fun w => sd σ w (k : Int)) 64))), (0, .ref x0), (1, .int (zI (q))), (3, .int (zI ((k : Int))))]) hx hb dX2_range_58 hl (k := 3) rfl (zI_add _ _) (by decide) rfl (fun ls hl => ?_)
                refine lv_iinc (v := zI ((k : Int) + 1)) (lv' := [(3, .int (zI ((k : Int) + 1))), (2, .int (zI (x + 1))), (4, .int (zI (cnt (fun w => sd σ w (k : Int)) 64))), (0, .ref x0), (1, .int (zI (q)))]) hx hb dX2_range_61 hl (k := 4) rfl (zI_add _ _) (by decide) rfl (fun ls hl => ?_)
                refine lv_goto (tgt := 18) hx hb dX2_range_64 (by decide) ?_
                exact ih_a (k + 1) (x + 1) (u1) _ _ _ (by omega) (by rw [cnt_s e_x]; first | (rw [if_pos (by simp only [decide_eq_true_eq]; first | (rw [if_pos c_41]; omega) | (rw [if_neg c_41]; omega))]; done) | (rw [if_neg (by simp only [decide_eq_true_eq]; first | (rw [if_pos c_41]; omega) | (rw [if_neg c_41]; omega)), Int.add_zero]; done)) (by omega) hP hD hS (lv_sub hl [3, 4, 1, 0] rfl)
      exact loop_a 70 (0) (0) (g1) _ _ _ (by omega) (rfl) (by omega) hP hD hS (lv_sub hl [2, 3, 1, 0] rfl)
    · refine lv_bipush (v := zI (-2)) hx hb dX2_range_11 (by decide +kernel) ?_
      exact hret _ _ _ _ _ g1 dX2_range_13 (by unfold A_range; rw [if_neg (by omega)]) hP hS
abbrev rmX2_dumb : Room := { frames := 4, cells := 0, slots := 0, locals := 93 }
theorem in_X2_dumb_X2 : ∀ w ∈ wsX20, w ∈ wsX2_dumb := fun _ h => List.mem_cons_of_mem _ (List.mem_append_left _ (List.mem_append_right _ h))
theorem m_X2_dumb_0 : (.fieldLink RX2 12 "BrassWays" "now" "LBrassWays$Setup;" : Cond) ∈ wsX2_dumb := List.mem_of_getElem? (i := 1) rfl
theorem in_X2_dumb_X1 : ∀ w ∈ wsX10, w ∈ wsX2_dumb := fun _ h => List.mem_cons_of_mem _ (List.mem_append_right _ h)
theorem m_X2_dumb_1 : (.fieldLink RX2 87 "BrassWays$Setup" "size" "I" : Cond) ∈ wsX2_dumb := List.mem_of_getElem? (i := 2) rfl
theorem m_X2_dumb_2 : (.fieldLink RX2 90 "BrassWays$Setup" "notes" "[I" : Cond) ∈ wsX2_dumb := List.mem_of_getElem? (i := 3) rfl
theorem m_X2_dumb_3 : (.fieldLink RX2 31 "BrassWays" "waysOfOne" "[I" : Cond) ∈ wsX2_dumb := List.mem_of_getElem? (i := 4) rfl
set_option maxHeartbeats 4000000 in
set_option maxRecDepth 100000 in
theorem c_X2_dumb (l : Launch) (D : va_G) (cI cJ cZ cO : ClassId) (sz : Nat) (x0 : Nat) (s0 : Nat) (b1 : Nat) (b2 : Nat) (b3 : Nat) (im : Nat) (p0 : Nat) (r1 : Nat) (r2 : Nat) (r3 : Nat) (r4 : Nat) (σ : Int → Int) (gk : Int → Int) (g1 : Int → Int) (hO : Ok σ) : Met l yX2_dumb wsX2_dumb rmX2_dumb (zPc D cI cJ cZ cO [(x0, .inr (2, [.ref s0, .ref im, .int (zI (gk 0 + 2 * gk 1)), .ref p0, .ref r1, .ref r2, .ref r3, .ref r4])), (s0, .inr (1, [.int (zI (σ 0)), .ref b1, .ref b2, .ref b3, .int (zI (σ 9))])), (b1, .inl (cI, 3, .inl (zF (fun j => σ (1 + j))))), (b2, .inl (cI, 5, .inl (zF (fun j => σ (4 + j))))), (b3, .inl (cI, 12, .inl (zF (fun j => σ (10 + j))))), (r1, .inl (cI, 8, .inl (zF (g1))))] sz [.ref x0]) (zQi D (fun (r : Int32) (_ : Int → Int) => r = zI (A_dumb σ)) (fun (u : Int → Int) => [(x0, .inr (2, [.ref s0, .ref im, .int (zI (gk 0 + 2 * gk 1)), .ref p0, .ref r1, .ref r2, .ref r3, .ref r4])), (s0, .inr (1, [.int (zI (σ 0)), .ref b1, .ref b2, .ref b3, .int (zI (σ 9))])), (b1, .inl (cI, 3, .inl (zF (fun j => σ (1 + j))))), (b2, .inl (cI, 5, .inl (zF (fun j => σ (4 + j))))), (b3, .inl (cI, 12, .inl (zF (fun j => σ (10 + j))))), (r1, .inl (cI, 8, .inl (zF (u))))]) [(x0, .inr (2, [.ref s0, .ref im, .int (zI (gk 0 + 2 * gk 1)), .ref p0, .ref r1, .ref r2, .ref r3, .ref r4])), (s0, .inr (1, [.int (zI (σ 0)), .ref b1, .ref b2, .ref b3, .int (zI (σ 9))])), (b1, .inl (cI, 3, .inl (zF (fun j => σ (1 + j))))), (b2, .inl (cI, 5, .inl (zF (fun j => σ (4 + j))))), (b3, .inl (cI, 12, .inl (zF (fun j => σ (10 + j))))), (r1, .inl (cI, 8, .inl (zF (g1))))] sz) 0 0 (va_A [(x0, .inr (2, [.ref s0, .ref im, .int (zI (gk 0 + 2 * gk 1)), .ref p0, .ref r1, .ref r2, .ref r3, .ref r4])), (s0, .inr (1, [.int (zI (σ 0)), .ref b1, .ref b2, .ref b3, .int (zI (σ 9))])), (b1, .inl (cI, 3, .inl (zF (fun j => σ (1 + j))))), (b2, .inl (cI, 5, .inl (zF (fun j => σ (4 + j))))), (b3, .inl (cI, 12, .inl (zF (fun j => σ (10 + j))))), (r1, .inl (cI, 8, .inl (zF (g1))))] sz) := by
  refine z_meti (by decide) rfl (Nat.le_of_ble_eq_true rfl) ?_
  intro p e s m args below meth c A Q ls hx hb hml hown hts hA hS hP hD hK hZ hl hret
  have hl : lv_has ls 2 [(0, .ref x0)] := hl
  have o9 := hO.2.2.2.2.2.2.2.2.2.1
  refine lv_iconst (v := zI (0)) hx hb dX2_dumb_0 rfl ?_
  refine lv_istore_n (lv' := [(1, .int (zI (0))), (0, .ref x0)]) hx hb dX2_dumb_1 rfl hl (by decide) rfl (fun ls hl => ?_)
  have loop_a : ∀ (f_a : Nat) (k : Nat) (ro : Int → Int) (H : Heap) (locs : List Loc) (ls : Array Slot), ((k : Int) ≤ σ 9) → (fnd (fun p => decide (cnt (fun w => sd σ w (σ (10 + p))) 64 = 0)) k = -6) → (12 - (k : Int) < (f_a : Int)) → va_P D vwCl [(x0, .inr (2, [.ref s0, .ref im, .int (zI (gk 0 + 2 * gk 1)), .ref p0, .ref r1, .ref r2, .ref r3, .ref r4])), (s0, .inr (1, [.int (zI (σ 0)), .ref b1, .ref b2, .ref b3, .int (zI (σ 9))])), (b1, .inl (cI, 3, .inl (zF (fun j => σ (1 + j))))), (b2, .inl (cI, 5, .inl (zF (fun j => σ (4 + j))))), (b3, .inl (cI, 12, .inl (zF (fun j => σ (10 + j))))), (r1, .inl (cI, 8, .inl (zF (ro))))] H → va_D A [(x0, .inr (2, [.ref s0, .ref im, .int (zI (gk 0 + 2 * gk 1)), .ref p0, .ref r1, .ref r2, .ref r3, .ref r4])), (s0, .inr (1, [.int (zI (σ 0)), .ref b1, .ref b2, .ref b3, .int (zI (σ 9))])), (b1, .inl (cI, 3, .inl (zF (fun j => σ (1 + j))))), (b2, .inl (cI, 5, .inl (zF (fun j => σ (4 + j))))), (b3, .inl (cI, 12, .inl (zF (fun j => σ (10 + j))))), (r1, .inl (cI, 8, .inl (zF (ro))))] → va_S A s.heap H locs → lv_has ls 2 [(0, .ref x0), (1, .int (zI ((k : Int))))] → W p l e rmX2_dumb s m args below meth c H locs 0 0 Q (F0 m 2 ls []) := by
    intro f_a
    induction f_a with
    | zero =>
      intros
      exfalso; omega
    | succ f_a ih_a =>
      intro k ro H locs ls e_k e_f hfu_a hP hD hS hl
      refine lv_iload_n hx hb dX2_dumb_2 rfl (lv_at hl 1 rfl) ?_
      refine lv_aload_n hx hb dX2_dumb_3 rfl (lv_at hl 0 rfl) ?_
      refine va_get (D := D) (ci := 2) (v := .ref s0) (C := RX2) (T := TX2) (N := 8) hx hb hts in_X2_dumb_X2 hown hK hP 0 rfl rfl 0 (by decide) (hts _ m_X2_dumb_0) (fun _ h9 => h9) rfl dX2_dumb_4 ?_
      refine va_get (D := D) (ci := 1) (v := .int (zI (σ 9))) (C := RX1) (T := TX1) (N := 5) hx hb hts in_X2_dumb_X1 hown hK hP 1 rfl rfl 4 (by decide) (hts _ m_X2_dumb_1) (fun _ h9 => h9) rfl dX2_dumb_7 ?_
      refine z_icmp_ge (a := (k : Int)) (b := σ 9) (tgt := 45) hx hb (by omega) dX2_dumb_10 (by decide) (fun c_10 => ?_) (fun c_10 => ?_)
      · refine lv_bipush (v := zI (-6)) hx hb dX2_dumb_45 (by decide +kernel) ?_
        exact hret _ _ _ _ _ ro dX2_dumb_47 (by unfold A_dumb; rw [show k = (σ 9).toNat by omega] at e_f; rw [e_f]) hP hS
      · have o10 := hO.2.2.2.2.2.2.2.2.2.2 (k : Int) (by omega) (by omega)
        have e_b := cnt_in (fun w => sd σ w (σ (10 + (k : Int)))) 64
        refine lv_aload_n hx hb dX2_dumb_13 rfl (lv_at hl 0 rfl) ?_
        refine va_get (D := D) (ci := 2) (v := .ref s0) (C := RX2) (T := TX2) (N := 8) hx hb hts in_X2_dumb_X2 hown hK hP 0 rfl rfl 0 (by decide) (hts _ m_X2_dumb_0) (fun _ h9 => h9) rfl dX2_dumb_14 ?_
        refine lv_aload_n hx hb dX2_dumb_17 rfl (lv_at hl 0 rfl) ?_
        refine va_get (D := D) (ci := 2) (v := .ref s0) (C := RX2) (T := TX2) (N := 8) hx hb hts in_X2_dumb_X2 hown hK hP 0 rfl rfl 0 (by decide) (hts _ m_X2_dumb_0) (fun _ h9 => h9) rfl dX2_dumb_18 ?_
        refine va_get (D := D) (ci := 1) (v := .ref b3) (C := RX1) (T := TX1) (N := 5) hx hb hts in_X2_dumb_X1 hown hK hP 1 rfl rfl 3 (by decide) (hts _ m_X2_dumb_2) (fun _ h9 => h9) rfl dX2_dumb_21 ?_
        refine lv_iload_n hx hb dX2_dumb_24 rfl (lv_at hl 1 rfl) ?_
        refine z_iald (k := (k : Int)) (g := fun j => σ (10 + j)) hx hb hK hP 4 0 rfl rfl (by omega) dX2_dumb_25 ?_
        try dsimp only
        refine lv_aload_n hx hb dX2_dumb_26 rfl (lv_at hl 0 rfl) ?_
        refine va_get (D := D) (ci := 2) (v := .ref r1) (C := RX2) (T := TX2) (N := 8) hx hb hts in_X2_dumb_X2 hown hK hP 0 rfl rfl 4 (by decide) (hts _ m_X2_dumb_3) (fun _ h9 => h9) rfl dX2_dumb_27 ?_
        refine lv_iconst (v := zI (0)) hx hb dX2_dumb_30 rfl ?_
        refine z_Viw (As := [.int (zI (σ (10 + (k : Int)))), .ref r1, .int (zI (0))]) (rest := []) hx hb hml hown hts hA hS hP hD hK hZ hl.1 (c_X1_gatherWays l D cI cJ cZ cO _ (s0) (b1) (b2) (b3) (σ) (r1) (8) (ro) (σ (10 + (k : Int))) (0) (by omega) (by omega) (by omega) hO) (cwV 3 hts gX2_dumb_X1_gatherWays rfl rfl rfl (by decide +kernel) ⟨Nat.le_of_ble_eq_true rfl, Nat.le_of_ble_eq_true rfl⟩) [1, 2, 3, 4, 5] rfl rfl (fun _ => rfl) 1 1 rfl rfl rfl rfl (Nat.le_of_ble_eq_true rfl) ⟨Nat.zero_le _, Nat.zero_le _⟩ dX2_dumb_31 (fun r u1 H locs hw hP hD hS => ?_)
        have hP : va_P D vwCl [(x0, .inr (2, [.ref s0, .ref im, .int (zI (gk 0 + 2 * gk 1)), .ref p0, .ref r1, .ref r2, .ref r3, .ref r4])), (s0, .inr (1, [.int (zI (σ 0)), .ref b1, .ref b2, .ref b3, .int (zI (σ 9))])), (b1, .inl (cI, 3, .inl (zF (fun j => σ (1 + j))))), (b2, .inl (cI, 5, .inl (zF (fun j => σ (4 + j))))), (b3, .inl (cI, 12, .inl (zF (fun j => σ (10 + j))))), (r1, .inl (cI, 8, .inl (zF (u1))))] H := hP
        have hD : va_D A [(x0, .inr (2, [.ref s0, .ref im, .int (zI (gk 0 + 2 * gk 1)), .ref p0, .ref r1, .ref r2, .ref r3, .ref r4])), (s0, .inr (1, [.int (zI (σ 0)), .ref b1, .ref b2, .ref b3, .int (zI (σ 9))])), (b1, .inl (cI, 3, .inl (zF (fun j => σ (1 + j))))), (b2, .inl (cI, 5, .inl (zF (fun j => σ (4 + j))))), (b3, .inl (cI, 12, .inl (zF (fun j => σ (10 + j))))), (r1, .inl (cI, 8, .inl (zF (u1))))] := hD
        obtain ⟨hr, hgo, hgn⟩ := hw
        subst hr
        refine z_if_ne (a := cnt (fun w => sd σ w (σ (10 + (k : Int)))) 64) (tgt := 39) hx hb (by omega) dX2_dumb_34 (by decide) (fun c_34 => ?_) (fun c_34 => ?_)
        · refine lv_iinc (v := zI ((k : Int) + 1)) (lv' := [(1, .int (zI ((k : Int) + 1))), (0, .ref x0)]) hx hb dX2_dumb_39 hl (k := 1) rfl (zI_add _ _) (by decide) rfl (fun ls hl => ?_)
          refine lv_goto (tgt := 2) hx hb dX2_dumb_42 (by decide) ?_
          exact ih_a (k + 1) (u1) _ _ _ (by omega) (fnd_n e_f (by rw [decide_eq_true_eq]; exact c_34)) (by omega) hP hD hS (lv_sub hl [1, 0] rfl)
        · refine lv_iload_n hx hb dX2_dumb_37 rfl (lv_at hl 1 rfl) ?_
          exact hret _ _ _ _ _ u1 dX2_dumb_38 (by unfold A_dumb; rw [fnd_y e_f (decide_eq_true c_34) (σ 9).toNat (by omega)]) hP hS
  exact loop_a 70 (0) (g1) _ _ _ (by omega) (rfl) (by omega) hP hD hS (lv_sub hl [1, 0] rfl)
abbrev rmX2_leastMotion : Room := { frames := 4, cells := 0, slots := 0, locals := 93 }
theorem in_X2_leastMotion_X2 : ∀ w ∈ wsX20, w ∈ wsX2_leastMotion := fun _ h => List.mem_cons_of_mem _ (List.mem_append_left _ (List.mem_append_right _ h))
theorem m_X2_leastMotion_0 : (.fieldLink RX2 12 "BrassWays" "now" "LBrassWays$Setup;" : Cond) ∈ wsX2_leastMotion := List.mem_of_getElem? (i := 1) rfl
theorem m_X2_leastMotion_1 : (.fieldLink RX2 31 "BrassWays" "waysOfOne" "[I" : Cond) ∈ wsX2_leastMotion := List.mem_of_getElem? (i := 2) rfl
theorem m_X2_leastMotion_2 : (.fieldLink RX2 35 "BrassWays" "waysOfOther" "[I" : Cond) ∈ wsX2_leastMotion := List.mem_of_getElem? (i := 3) rfl
theorem m_X2_leastMotion_3 : (.constant RX2 81 (1000000) : Cond) ∈ wsX2_leastMotion := List.mem_of_getElem? (i := 4) rfl
theorem m_X2_leastMotion_4 : (.methodLink RX2 138 Lib.Math.min.name : Cond) ∈ wsX2_leastMotion := List.mem_of_getElem? (i := 5) rfl
theorem m_X2_leastMotion_5 : (.static Lib.Math.min.name : Cond) ∈ wsX2_leastMotion := List.mem_of_getElem? (i := 6) rfl
theorem m_X2_leastMotion_6 : (.initialized "java/lang/Math" : Cond) ∈ wsX2_leastMotion := List.mem_of_getElem? (i := 7) rfl
theorem m_X2_leastMotion_7 : (.code Lib.Math.min.name Lib.Math.min.code 2 (some .int) : Cond) ∈ wsX2_leastMotion := List.mem_of_getElem? (i := 8) rfl
set_option maxHeartbeats 4000000 in
set_option maxRecDepth 100000 in
theorem c_X2_leastMotion (l : Launch) (D : va_G) (cI cJ cZ cO : ClassId) (sz : Nat) (x0 : Nat) (s0 : Nat) (b1 : Nat) (b2 : Nat) (b3 : Nat) (im : Nat) (p0 : Nat) (r1 : Nat) (r2 : Nat) (r3 : Nat) (r4 : Nat) (σ : Int → Int) (gk : Int → Int) (g1 : Int → Int) (g2 : Int → Int) (a : Int) (b : Int) (h1 : (0 ≤ a ∧ a ≤ 36) ∧ 0 ≤ b ∧ b ≤ 36) (hO : Ok σ) : Met l yX2_leastMotion wsX2_leastMotion rmX2_leastMotion (zPc D cI cJ cZ cO [(x0, .inr (2, [.ref s0, .ref im, .int (zI (gk 0 + 2 * gk 1)), .ref p0, .ref r1, .ref r2, .ref r3, .ref r4])), (s0, .inr (1, [.int (zI (σ 0)), .ref b1, .ref b2, .ref b3, .int (zI (σ 9))])), (b1, .inl (cI, 3, .inl (zF (fun j => σ (1 + j))))), (b2, .inl (cI, 5, .inl (zF (fun j => σ (4 + j))))), (b3, .inl (cI, 12, .inl (zF (fun j => σ (10 + j))))), (r1, .inl (cI, 8, .inl (zF (g1)))), (r2, .inl (cI, 8, .inl (zF (g2))))] sz [.ref x0, .int (zI (a)), .int (zI (b))]) (zQi D (fun (r : Int32) (_ : (Int → Int) × (Int → Int)) => r = zI (tro σ a b 64)) (fun (u : (Int → Int) × (Int → Int)) => [(x0, .inr (2, [.ref s0, .ref im, .int (zI (gk 0 + 2 * gk 1)), .ref p0, .ref r1, .ref r2, .ref r3, .ref r4])), (s0, .inr (1, [.int (zI (σ 0)), .ref b1, .ref b2, .ref b3, .int (zI (σ 9))])), (b1, .inl (cI, 3, .inl (zF (fun j => σ (1 + j))))), (b2, .inl (cI, 5, .inl (zF (fun j => σ (4 + j))))), (b3, .inl (cI, 12, .inl (zF (fun j => σ (10 + j))))), (r1, .inl (cI, 8, .inl (zF (u.1)))), (r2, .inl (cI, 8, .inl (zF (u.2))))]) [(x0, .inr (2, [.ref s0, .ref im, .int (zI (gk 0 + 2 * gk 1)), .ref p0, .ref r1, .ref r2, .ref r3, .ref r4])), (s0, .inr (1, [.int (zI (σ 0)), .ref b1, .ref b2, .ref b3, .int (zI (σ 9))])), (b1, .inl (cI, 3, .inl (zF (fun j => σ (1 + j))))), (b2, .inl (cI, 5, .inl (zF (fun j => σ (4 + j))))), (b3, .inl (cI, 12, .inl (zF (fun j => σ (10 + j))))), (r1, .inl (cI, 8, .inl (zF (g1)))), (r2, .inl (cI, 8, .inl (zF (g2))))] sz) 0 0 (va_A [(x0, .inr (2, [.ref s0, .ref im, .int (zI (gk 0 + 2 * gk 1)), .ref p0, .ref r1, .ref r2, .ref r3, .ref r4])), (s0, .inr (1, [.int (zI (σ 0)), .ref b1, .ref b2, .ref b3, .int (zI (σ 9))])), (b1, .inl (cI, 3, .inl (zF (fun j => σ (1 + j))))), (b2, .inl (cI, 5, .inl (zF (fun j => σ (4 + j))))), (b3, .inl (cI, 12, .inl (zF (fun j => σ (10 + j))))), (r1, .inl (cI, 8, .inl (zF (g1)))), (r2, .inl (cI, 8, .inl (zF (g2))))] sz) := by
  refine z_meti (by decide) rfl (Nat.le_of_ble_eq_true rfl) ?_
  intro p e s m args below meth c A Q ls hx hb hml hown hts hA hS hP hD hK hZ hl hret
  have hl : lv_has ls 8 [(0, .ref x0), (1, .int (zI (a))), (2, .int (zI (b)))] := hl
  have ha8 := cnt8 hO a 64
  have ha0 := cnt_in (fun w => sd σ w a) 64
  have hb8 := cnt8 hO b 64
  have hb0 := cnt_in (fun w => sd σ w b) 64
  refine lv_aload_n hx hb dX2_leastMotion_0 rfl (lv_at hl 0 rfl) ?_
  refine va_get (D := D) (ci := 2) (v := .ref s0) (C := RX2) (T := TX2) (N := 8) hx hb hts in_X2_leastMotion_X2 hown hK hP 0 rfl rfl 0 (by decide) (hts _ m_X2_leastMotion_0) (fun _ h9 => h9) rfl dX2_leastMotion_1 ?_
  refine lv_iload_n hx hb dX2_leastMotion_4 rfl (lv_at hl 1 rfl) ?_
  refine lv_aload_n hx hb dX2_leastMotion_5 rfl (lv_at hl 0 rfl) ?_
  refine va_get (D := D) (ci := 2) (v := .ref r1) (C := RX2) (T := TX2) (N := 8) hx hb hts in_X2_leastMotion_X2 hown hK hP 0 rfl rfl 4 (by decide) (hts _ m_X2_leastMotion_1) (fun _ h9 => h9) rfl dX2_leastMotion_6 ?_
  refine lv_iconst (v := zI (0)) hx hb dX2_leastMotion_9 rfl ?_
  refine z_Viw (As := [.int (zI (a)), .ref r1, .int (zI (0))]) (rest := []) hx hb hml hown hts hA hS hP hD hK hZ hl.1 (c_X1_gatherWays l D cI cJ cZ cO _ (s0) (b1) (b2) (b3) (σ) (r1) (8) (g1) (a) (0) (by omega) (by omega) (by omega) hO) (cwV 3 hts gX2_leastMotion_X1_gatherWays rfl rfl rfl (by decide +kernel) ⟨Nat.le_of_ble_eq_true rfl, Nat.le_of_ble_eq_true rfl⟩) [1, 2, 3, 4, 5] rfl rfl (fun _ => rfl) 1 1 rfl rfl rfl rfl (Nat.le_of_ble_eq_true rfl) ⟨Nat.zero_le _, Nat.zero_le _⟩ dX2_leastMotion_10 (fun r u1 H locs hw hP hD hS => ?_)
  have hP : va_P D vwCl [(x0, .inr (2, [.ref s0, .ref im, .int (zI (gk 0 + 2 * gk 1)), .ref p0, .ref r1, .ref r2, .ref r3, .ref r4])), (s0, .inr (1, [.int (zI (σ 0)), .ref b1, .ref b2, .ref b3, .int (zI (σ 9))])), (b1, .inl (cI, 3, .inl (zF (fun j => σ (1 + j))))), (b2, .inl (cI, 5, .inl (zF (fun j => σ (4 + j))))), (b3, .inl (cI, 12, .inl (zF (fun j => σ (10 + j))))), (r1, .inl (cI, 8, .inl (zF (u1)))), (r2, .inl (cI, 8, .inl (zF (g2))))] H := hP
  have hD : va_D A [(x0, .inr (2, [.ref s0, .ref im, .int (zI (gk 0 + 2 * gk 1)), .ref p0, .ref r1, .ref r2, .ref r3, .ref r4])), (s0, .inr (1, [.int (zI (σ 0)), .ref b1, .ref b2, .ref b3, .int (zI (σ 9))])), (b1, .inl (cI, 3, .inl (zF (fun j => σ (1 + j))))), (b2, .inl (cI, 5, .inl (zF (fun j => σ (4 + j))))), (b3, .inl (cI, 12, .inl (zF (fun j => σ (10 + j))))), (r1, .inl (cI, 8, .inl (zF (u1)))), (r2, .inl (cI, 8, .inl (zF (g2))))] := hD
  obtain ⟨hra, hgoa, hgna⟩ := hw
  subst hra
  refine lv_istore_n (lv' := [(3, .int (zI (cnt (fun w => sd σ w a) 64))), (0, .ref x0), (1, .int (zI (a))), (2, .int (zI (b)))]) hx hb dX2_leastMotion_13 rfl hl (by decide) rfl (fun ls hl => ?_)
  refine lv_aload_n hx hb dX2_leastMotion_14 rfl (lv_at hl 1 rfl) ?_
  refine va_get (D := D) (ci := 2) (v := .ref s0) (C := RX2) (T := TX2) (N := 8) hx hb hts in_X2_leastMotion_X2 hown hK hP 0 rfl rfl 0 (by decide) (hts _ m_X2_leastMotion_0) (fun _ h9 => h9) rfl dX2_leastMotion_15 ?_
  refine lv_iload_n hx hb dX2_leastMotion_18 rfl (lv_at hl 3 rfl) ?_
  refine lv_aload_n hx hb dX2_leastMotion_19 rfl (lv_at hl 1 rfl) ?_
  refine va_get (D := D) (ci := 2) (v := .ref r2) (C := RX2) (T := TX2) (N := 8) hx hb hts in_X2_leastMotion_X2 hown hK hP 0 rfl rfl 5 (by decide) (hts _ m_X2_leastMotion_2) (fun _ h9 => h9) rfl dX2_leastMotion_20 ?_
  refine lv_iconst (v := zI (0)) hx hb dX2_leastMotion_23 rfl ?_
  refine z_Viw (As := [.int (zI (b)), .ref r2, .int (zI (0))]) (rest := []) hx hb hml hown hts hA hS hP hD hK hZ hl.1 (c_X1_gatherWays l D cI cJ cZ cO _ (s0) (b1) (b2) (b3) (σ) (r2) (8) (g2) (b) (0) (by omega) (by omega) (by omega) hO) (cwV 3 hts gX2_leastMotion_X1_gatherWays rfl rfl rfl (by decide +kernel) ⟨Nat.le_of_ble_eq_true rfl, Nat.le_of_ble_eq_true rfl⟩) [1, 2, 3, 4, 6] rfl rfl (fun _ => rfl) 1 1 rfl rfl rfl rfl (Nat.le_of_ble_eq_true rfl) ⟨Nat.zero_le _, Nat.zero_le _⟩ dX2_leastMotion_24 (fun r u2 H locs hw hP hD hS => ?_)
  have hP : va_P D vwCl [(x0, .inr (2, [.ref s0, .ref im, .int (zI (gk 0 + 2 * gk 1)), .ref p0, .ref r1, .ref r2, .ref r3, .ref r4])), (s0, .inr (1, [.int (zI (σ 0)), .ref b1, .ref b2, .ref b3, .int (zI (σ 9))])), (b1, .inl (cI, 3, .inl (zF (fun j => σ (1 + j))))), (b2, .inl (cI, 5, .inl (zF (fun j => σ (4 + j))))), (b3, .inl (cI, 12, .inl (zF (fun j => σ (10 + j))))), (r1, .inl (cI, 8, .inl (zF (u1)))), (r2, .inl (cI, 8, .inl (zF (u2))))] H := hP
  have hD : va_D A [(x0, .inr (2, [.ref s0, .ref im, .int (zI (gk 0 + 2 * gk 1)), .ref p0, .ref r1, .ref r2, .ref r3, .ref r4])), (s0, .inr (1, [.int (zI (σ 0)), .ref b1, .ref b2, .ref b3, .int (zI (σ 9))])), (b1, .inl (cI, 3, .inl (zF (fun j => σ (1 + j))))), (b2, .inl (cI, 5, .inl (zF (fun j => σ (4 + j))))), (b3, .inl (cI, 12, .inl (zF (fun j => σ (10 + j))))), (r1, .inl (cI, 8, .inl (zF (u1)))), (r2, .inl (cI, 8, .inl (zF (u2))))] := hD
  obtain ⟨hrb, hgob, hgnb⟩ := hw
  subst hrb
  refine lv_istore (lv' := [(4, .int (zI (cnt (fun w => sd σ w b) 64))), (3, .int (zI (cnt (fun w => sd σ w a) 64))), (0, .ref x0), (1, .int (zI (a))), (2, .int (zI (b)))]) hx hb dX2_leastMotion_27 hl (by decide) rfl (fun ls hl => ?_)
  refine lv_iload_n hx hb dX2_leastMotion_29 rfl (lv_at hl 1 rfl) ?_
  refine z_if_eq (a := cnt (fun w => sd σ w a) 64) (tgt := 38) hx hb (by omega) dX2_leastMotion_30 (by decide) (fun c_30 => ?_) (fun c_30 => ?_)
  · refine lv_bipush (v := zI (-6)) hx hb dX2_leastMotion_38 (by decide +kernel) ?_
    exact hret _ _ _ _ _ (u1, u2) dX2_leastMotion_40 (by rw [tro_lm2 hO, if_pos (by omega)]) hP hS
  · refine lv_iload hx hb dX2_leastMotion_33 (lv_at hl 0 rfl) ?_
    refine z_if_ne (a := cnt (fun w => sd σ w b) 64) (tgt := 41) hx hb (by omega) dX2_leastMotion_35 (by decide) (fun c_35 => ?_) (fun c_35 => ?_)
    · refine lv_ldc hx hb hown (hts _ m_X2_leastMotion_3) dX2_leastMotion_41 ?_
      refine z_top (y := zI 1000000) (by decide +kernel) ?_
      refine lv_istore (lv' := [(5, .int (zI (1000000))), (4, .int (zI (cnt (fun w => sd σ w b) 64))), (3, .int (zI (cnt (fun w => sd σ w a) 64))), (0, .ref x0), (1, .int (zI (a))), (2, .int (zI (b)))]) hx hb dX2_leastMotion_43 hl (by decide) rfl (fun ls hl => ?_)
      refine lv_iconst (v := zI (0)) hx hb dX2_leastMotion_45 rfl ?_
      refine lv_istore (lv' := [(6, .int (zI (0))), (5, .int (zI (1000000))), (4, .int (zI (cnt (fun w => sd σ w b) 64))), (3, .int (zI (cnt (fun w => sd σ w a) 64))), (0, .ref x0), (1, .int (zI (a))), (2, .int (zI (b)))]) hx hb dX2_leastMotion_46 hl (by decide) rfl (fun ls hl => ?_)
      have loop_a : ∀ (f_a : Nat) (k : Nat) (x : Int) (H : Heap) (locs : List Loc) (ls : Array Slot), ((k : Int) ≤ cnt (fun w => sd σ w a) 64) → (0 ≤ x ∧ x ≤ 1000000) → (x = lm2 (tF σ a b) (cnt (fun w => sd σ w b) 64).toNat k) → (8 - (k : Int) < (f_a : Int)) → va_P D vwCl [(x0, .inr (2, [.ref s0, .ref im, .int (zI (gk 0 + 2 * gk 1)), .ref p0, .ref r1, .ref r2, .ref r3, .ref r4])), (s0, .inr (1, [.int (zI (σ 0)), .ref b1, .ref b2, .ref b3, .int (zI (σ 9))])), (b1, .inl (cI, 3, .inl (zF (fun j => σ (1 + j))))), (b2, .inl (cI, 5, .inl (zF (fun j => σ (4 + j))))), (b3, .inl (cI, 12, .inl (zF (fun j => σ (10 + j))))), (r1, .inl (cI, 8, .inl (zF (u1)))), (r2, .inl (cI, 8, .inl (zF (u2))))] H → va_D A [(x0, .inr (2, [.ref s0, .ref im, .int (zI (gk 0 + 2 * gk 1)), .ref p0, .ref r1, .ref r2, .ref r3, .ref r4])), (s0, .inr (1, [.int (zI (σ 0)), .ref b1, .ref b2, .ref b3, .int (zI (σ 9))])), (b1, .inl (cI, 3, .inl (zF (fun j => σ (1 + j))))), (b2, .inl (cI, 5, .inl (zF (fun j => σ (4 + j))))), (b3, .inl (cI, 12, .inl (zF (fun j => σ (10 + j))))), (r1, .inl (cI, 8, .inl (zF (u1)))), (r2, .inl (cI, 8, .inl (zF (u2))))] → va_S A s.heap H locs → lv_has ls 8 [(0, .ref x0), (1, .int (zI (a))), (2, .int (zI (b))), (3, .int (zI (cnt (fun w => sd σ w a) 64))), (4, .int (zI (cnt (fun w => sd σ w b) 64))), (5, .int (zI (x))), (6, .int (zI ((k : Int))))] → W p l e rmX2_leastMotion s m args below meth c H locs 0 0 Q (F0 m 48 ls []) := by
        intro f_a
        induction f_a with
        | zero =>
          intros
          exfalso; omega
        | succ f_a ih_a =>
          intro k x H locs ls e_k e_b e_x hfu_a hP hD hS hl
          refine lv_iload hx hb dX2_leastMotion_48 (lv_at hl 6 rfl) ?_
          refine lv_iload_n hx hb dX2_leastMotion_50 rfl (lv_at hl 3 rfl) ?_
          refine z_icmp_ge (a := (k : Int)) (b := cnt (fun w => sd σ w a) 64) (tgt := 104) hx hb (by omega) dX2_leastMotion_51 (by decide) (fun c_51 => ?_) (fun c_51 => ?_)
          · refine lv_iload hx hb dX2_leastMotion_104 (lv_at hl 5 rfl) ?_
            exact hret _ _ _ _ _ (u1, u2) dX2_leastMotion_106 (by rw [tro_lm2 hO, if_neg (by omega), e_x, show (cnt (fun w => sd σ w a) 64).toNat = k by omega]) hP hS
          · refine lv_iconst (v := zI (0)) hx hb dX2_leastMotion_54 rfl ?_
            refine lv_istore (lv' := [(7, .int (zI (0))), (0, .ref x0), (1, .int (zI (a))), (2, .int (zI (b))), (3, .int (zI (cnt (fun w => sd σ w a) 64))), (4, .int (zI (cnt (fun w => sd σ w b) 64))), (5, .int (zI (x))), (6, .int (zI ((k : Int))))]) hx hb dX2_leastMotion_55 hl (by decide) rfl (fun ls hl => ?_)
            have loop_b : ∀ (f_b : Nat) (i : Nat) (y : Int) (H : Heap) (locs : List Loc) (ls : Array Slot), ((i : Int) ≤ cnt (fun w => sd σ w b) 64) → (0 ≤ y ∧ y ≤ 1000000) → (y = lm1 (tF σ a b (k : Int)) x i) → (8 - (i : Int) < (f_b : Int)) → va_P D vwCl [(x0, .inr (2, [.ref s0, .ref im, .int (zI (gk 0 + 2 * gk 1)), .ref p0, .ref r1, .ref r2, .ref r3, .ref r4])), (s0, .inr (1, [.int (zI (σ 0)), .ref b1, .ref b2, .ref b3, .int (zI (σ 9))])), (b1, .inl (cI, 3, .inl (zF (fun j => σ (1 + j))))), (b2, .inl (cI, 5, .inl (zF (fun j => σ (4 + j))))), (b3, .inl (cI, 12, .inl (zF (fun j => σ (10 + j))))), (r1, .inl (cI, 8, .inl (zF (u1)))), (r2, .inl (cI, 8, .inl (zF (u2))))] H → va_D A [(x0, .inr (2, [.ref s0, .ref im, .int (zI (gk 0 + 2 * gk 1)), .ref p0, .ref r1, .ref r2, .ref r3, .ref r4])), (s0, .inr (1, [.int (zI (σ 0)), .ref b1, .ref b2, .ref b3, .int (zI (σ 9))])), (b1, .inl (cI, 3, .inl (zF (fun j => σ (1 + j))))), (b2, .inl (cI, 5, .inl (zF (fun j => σ (4 + j))))), (b3, .inl (cI, 12, .inl (zF (fun j => σ (10 + j))))), (r1, .inl (cI, 8, .inl (zF (u1)))), (r2, .inl (cI, 8, .inl (zF (u2))))] → va_S A s.heap H locs → lv_has ls 8 [(0, .ref x0), (1, .int (zI (a))), (2, .int (zI (b))), (3, .int (zI (cnt (fun w => sd σ w a) 64))), (4, .int (zI (cnt (fun w => sd σ w b) 64))), (5, .int (zI (y))), (6, .int (zI ((k : Int)))), (7, .int (zI ((i : Int))))] → W p l e rmX2_leastMotion s m args below meth c H locs 0 0 Q (F0 m 57 ls []) := by
              intro f_b
              induction f_b with
              | zero =>
                intros
                exfalso; omega
              | succ f_b ih_b =>
                intro i y H locs ls e_i e_c e_y hfu_b hP hD hS hl
                refine lv_iload hx hb dX2_leastMotion_57 (lv_at hl 7 rfl) ?_
                refine lv_iload hx hb dX2_leastMotion_59 (lv_at hl 4 rfl) ?_
                refine z_icmp_ge (a := (i : Int)) (b := cnt (fun w => sd σ w b) 64) (tgt := 98) hx hb (by omega) dX2_leastMotion_61 (by decide) (fun c_61 => ?_) (fun c_61 => ?_)
                · refine lv_iinc (v := zI ((k : Int) + 1)) (lv' := [(6, .int (zI ((k : Int) + 1))), (0, .ref x0), (1, .int (zI (a))), (2, .int (zI (b))), (3, .int (zI (cnt (fun w => sd σ w a) 64))), (4, .int (zI (cnt (fun w => sd σ w b) 64))), (5, .int (zI (y))), (7, .int (zI ((i : Int))))]) hx hb dX2_leastMotion_98 hl (k := 6) rfl (zI_add _ _) (by decide) rfl (fun ls hl => ?_)
                  refine lv_goto (tgt := 48) hx hb dX2_leastMotion_101 (by decide) ?_
                  exact ih_a (k + 1) (y) _ _ _ (by omega) (by omega) (by rw [lm2_s e_x, e_y, show (cnt (fun w => sd σ w b) 64).toNat = i by omega]) (by omega) hP hD hS (lv_sub hl [1, 2, 3, 4, 5, 6, 0] rfl)
                · obtain ⟨kx, a1, a2, a3, a4⟩ := nw_in (σ := σ) (n := a) (k : Int) (by omega) (by omega)
                  obtain ⟨ky, y1, y2, y3, y4⟩ := nw_in (σ := σ) (n := b) (i : Int) (by omega) (by omega)
                  have hE := eff_in hO (a := nw σ a (k : Int)) (b := nw σ b (i : Int)) (by omega) (by omega)
                  refine lv_iload hx hb dX2_leastMotion_64 (lv_at hl 5 rfl) ?_
                  refine lv_aload_n hx hb dX2_leastMotion_66 rfl (lv_at hl 0 rfl) ?_
                  refine va_get (D := D) (ci := 2) (v := .ref s0) (C := RX2) (T := TX2) (N := 8) hx hb hts in_X2_leastMotion_X2 hown hK hP 0 rfl rfl 0 (by decide) (hts _ m_X2_leastMotion_0) (fun _ h9 => h9) rfl dX2_leastMotion_67 ?_
                  refine lv_aload_n hx hb dX2_leastMotion_70 rfl (lv_at hl 0 rfl) ?_
                  refine va_get (D := D) (ci := 2) (v := .ref r1) (C := RX2) (T := TX2) (N := 8) hx hb hts in_X2_leastMotion_X2 hown hK hP 0 rfl rfl 4 (by decide) (hts _ m_X2_leastMotion_1) (fun _ h9 => h9) rfl dX2_leastMotion_71 ?_
                  refine lv_iload hx hb dX2_leastMotion_74 (lv_at hl 6 rfl) ?_
                  refine z_iald (k := (k : Int)) (g := u1) hx hb hK hP 5 0 rfl rfl (by omega) dX2_leastMotion_76 ?_
                  try dsimp only
                  refine z_top (y := zI (nw σ a (k : Int))) (by rw [← hgna (k : Int) (by omega) (by omega), show 0 + (k : Int) = (k : Int) by omega]) ?_
                  refine lv_aload_n hx hb dX2_leastMotion_77 rfl (lv_at hl 0 rfl) ?_
                  refine va_get (D := D) (ci := 2) (v := .ref r2) (C := RX2) (T := TX2) (N := 8) hx hb hts in_X2_leastMotion_X2 hown hK hP 0 rfl rfl 5 (by decide) (hts _ m_X2_leastMotion_2) (fun _ h9 => h9) rfl dX2_leastMotion_78 ?_
                  refine lv_iload hx hb dX2_leastMotion_81 (lv_at hl 7 rfl) ?_
                  refine z_iald (k := (i : Int)) (g := u2) hx hb hK hP 6 0 rfl rfl (by omega) dX2_leastMotion_83 ?_
                  try dsimp only
                  refine z_top (y := zI (nw σ b (i : Int))) (by rw [← hgnb (i : Int) (by omega) (by omega), show 0 + (i : Int) = (i : Int) by omega]) ?_
                  refine z_Vir (As := [.int (zI (nw σ a (k : Int))), .int (zI (nw σ b (i : Int)))]) (rest := [.int (zI (y))]) hx hb hml hown hts hA hS hP hD hK hZ hl.1 (c_X1_motion l D cI cJ cZ cO _ (s0) (b1) (b2) (b3) (σ) (nw σ a (k : Int)) (nw σ b (i : Int)) (by omega) hO) (cwV 2 hts gX2_leastMotion_X1_motion rfl rfl rfl (by decide +kernel) ⟨Nat.le_of_ble_eq_true rfl, Nat.le_of_ble_eq_true rfl⟩) [1, 2, 3, 4] rfl rfl 1 1 rfl rfl rfl rfl (Nat.le_of_ble_eq_true rfl) ⟨Nat.zero_le _, Nat.zero_le _⟩ dX2_leastMotion_84 (fun r u H locs hw hP hS => ?_)
                  subst hw
                  refine z_mmin (a := y) (b := eff σ (nw σ a (k : Int)) (nw σ b (i : Int))) hx hb (hml.trans hl.1.symm) hown (hts _ m_X2_leastMotion_4) (hts _ m_X2_leastMotion_5) (hts _ m_X2_leastMotion_6) (hts _ m_X2_leastMotion_7) (Nat.le_of_ble_eq_true rfl) (Nat.le_of_ble_eq_true rfl) (Nat.zero_le _) (Nat.zero_le _) (by omega) dX2_leastMotion_87 ?_
                  refine lv_istore (lv' := [(5, .int (zI (mI y (eff σ (nw σ a (k : Int)) (nw σ b (i : Int)))))), (0, .ref x0), (1, .int (zI (a))), (2, .int (zI (b))), (3, .int (zI (cnt (fun w => sd σ w a) 64))), (4, .int (zI (cnt (fun w => sd σ w b) 64))), (6, .int (zI ((k : Int)))), (7, .int (zI ((i : Int))))]) hx hb dX2_leastMotion_90 hl (by decide) rfl (fun ls hl => ?_)
                  refine lv_iinc (v := zI ((i : Int) + 1)) (lv' := [(7, .int (zI ((i : Int) + 1))), (5, .int (zI (mI y (eff σ (nw σ a (k : Int)) (nw σ b (i : Int)))))), (0, .ref x0), (1, .int (zI (a))), (2, .int (zI (b))), (3, .int (zI (cnt (fun w => sd σ w a) 64))), (4, .int (zI (cnt (fun w => sd σ w b) 64))), (6, .int (zI ((k : Int))))]) hx hb dX2_leastMotion_92 hl (k := 7) rfl (zI_add _ _) (by decide) rfl (fun ls hl => ?_)
                  refine lv_goto (tgt := 57) hx hb dX2_leastMotion_95 (by decide) ?_
                  exact ih_b (i + 1) (mI y (eff σ (nw σ a (k : Int)) (nw σ b (i : Int)))) _ _ _ (by omega) (by have := mI_le y (eff σ (nw σ a (k : Int)) (nw σ b (i : Int))); omega) (by rw [lm1_s e_y]) (by omega) hP hD hS (lv_sub hl [2, 3, 4, 5, 6, 1, 7, 0] rfl)
            exact loop_b 70 (0) (x) _ _ _ (by omega) (by omega) (rfl) (by omega) hP hD hS (lv_sub hl [1, 2, 3, 4, 5, 6, 7, 0] rfl)
      exact loop_a 70 (0) (1000000) _ _ _ (by omega) (by omega) (rfl) (by omega) hP hD hS (lv_sub hl [4, 5, 6, 3, 2, 1, 0] rfl)
    · refine lv_bipush (v := zI (-6)) hx hb dX2_leastMotion_38 (by decide +kernel) ?_
      exact hret _ _ _ _ _ (u1, u2) dX2_leastMotion_40 (by rw [tro_lm2 hO, if_pos (by omega)]) hP hS
abbrev rmX2_trill : Room := { frames := 5, cells := 0, slots := 0, locals := 120 }
set_option maxHeartbeats 4000000 in
set_option maxRecDepth 100000 in
theorem c_X2_trill (l : Launch) (D : va_G) (cI cJ cZ cO : ClassId) (sz : Nat) (x0 : Nat) (s0 : Nat) (b1 : Nat) (b2 : Nat) (b3 : Nat) (im : Nat) (p0 : Nat) (r1 : Nat) (r2 : Nat) (r3 : Nat) (r4 : Nat) (σ : Int → Int) (gk : Int → Int) (g1 : Int → Int) (g2 : Int → Int) (a : Int) (b : Int) (h_a : -2147483648 ≤ a ∧ a < 2147483648) (h_b : -2147483648 ≤ b ∧ b < 2147483648) (hO : Ok σ) : Met l yX2_trill wsX2_trill rmX2_trill (zPc D cI cJ cZ cO [(x0, .inr (2, [.ref s0, .ref im, .int (zI (gk 0 + 2 * gk 1)), .ref p0, .ref r1, .ref r2, .ref r3, .ref r4])), (s0, .inr (1, [.int (zI (σ 0)), .ref b1, .ref b2, .ref b3, .int (zI (σ 9))])), (b1, .inl (cI, 3, .inl (zF (fun j => σ (1 + j))))), (b2, .inl (cI, 5, .inl (zF (fun j => σ (4 + j))))), (b3, .inl (cI, 12, .inl (zF (fun j => σ (10 + j))))), (r1, .inl (cI, 8, .inl (zF (g1)))), (r2, .inl (cI, 8, .inl (zF (g2))))] sz [.ref x0, .int (zI (a)), .int (zI (b))]) (zQi D (fun (r : Int32) (_ : (Int → Int) × (Int → Int)) => r = zI (A_trill σ a b)) (fun (u : (Int → Int) × (Int → Int)) => [(x0, .inr (2, [.ref s0, .ref im, .int (zI (gk 0 + 2 * gk 1)), .ref p0, .ref r1, .ref r2, .ref r3, .ref r4])), (s0, .inr (1, [.int (zI (σ 0)), .ref b1, .ref b2, .ref b3, .int (zI (σ 9))])), (b1, .inl (cI, 3, .inl (zF (fun j => σ (1 + j))))), (b2, .inl (cI, 5, .inl (zF (fun j => σ (4 + j))))), (b3, .inl (cI, 12, .inl (zF (fun j => σ (10 + j))))), (r1, .inl (cI, 8, .inl (zF (u.1)))), (r2, .inl (cI, 8, .inl (zF (u.2))))]) [(x0, .inr (2, [.ref s0, .ref im, .int (zI (gk 0 + 2 * gk 1)), .ref p0, .ref r1, .ref r2, .ref r3, .ref r4])), (s0, .inr (1, [.int (zI (σ 0)), .ref b1, .ref b2, .ref b3, .int (zI (σ 9))])), (b1, .inl (cI, 3, .inl (zF (fun j => σ (1 + j))))), (b2, .inl (cI, 5, .inl (zF (fun j => σ (4 + j))))), (b3, .inl (cI, 12, .inl (zF (fun j => σ (10 + j))))), (r1, .inl (cI, 8, .inl (zF (g1)))), (r2, .inl (cI, 8, .inl (zF (g2))))] sz) 0 0 (va_A [(x0, .inr (2, [.ref s0, .ref im, .int (zI (gk 0 + 2 * gk 1)), .ref p0, .ref r1, .ref r2, .ref r3, .ref r4])), (s0, .inr (1, [.int (zI (σ 0)), .ref b1, .ref b2, .ref b3, .int (zI (σ 9))])), (b1, .inl (cI, 3, .inl (zF (fun j => σ (1 + j))))), (b2, .inl (cI, 5, .inl (zF (fun j => σ (4 + j))))), (b3, .inl (cI, 12, .inl (zF (fun j => σ (10 + j))))), (r1, .inl (cI, 8, .inl (zF (g1)))), (r2, .inl (cI, 8, .inl (zF (g2))))] sz) := by
  refine z_meti (by decide) rfl (Nat.le_of_ble_eq_true rfl) ?_
  intro p e s m args below meth c A Q ls hx hb hml hown hts hA hS hP hD hK hZ hl hret
  have hl : lv_has ls 3 [(0, .ref x0), (1, .int (zI (a))), (2, .int (zI (b)))] := hl
  refine lv_iload_n hx hb dX2_trill_0 rfl (lv_at hl 1 rfl) ?_
  refine z_Sir (As := [.int (zI (a))]) (rest := []) hx hb hml hown hts hA hS hP hD hK hZ hl.1 (c_X2_isNote l D cI cJ cZ cO _ (a) (by omega)) (va_cwS 1 hts gX2_trill_X2_isNote rfl rfl rfl (by decide +kernel) ⟨Nat.le_of_ble_eq_true rfl, Nat.le_of_ble_eq_true rfl⟩) [] rfl rfl rfl rfl (Nat.le_of_ble_eq_true rfl) ⟨Nat.zero_le _, Nat.zero_le _⟩ dX2_trill_1 (fun r u H locs hw hP hS => ?_)
  subst hw
  refine z_ifB_eq (P := 0 ≤ a ∧ a ≤ 36) (tgt := 23) hx hb dX2_trill_4 (by decide) (fun c_4 => ?_) (fun c_4 => ?_)
  · refine lv_bipush (v := zI (-2)) hx hb dX2_trill_23 (by decide +kernel) ?_
    exact hret _ _ _ _ _ (g1, g2) dX2_trill_25 (by unfold A_trill; first | rw [if_neg c_4] | rw [if_pos c_4, if_neg c_11] | rw [if_pos c_4, if_pos c_11]) hP hS
  · refine lv_iload_n hx hb dX2_trill_7 rfl (lv_at hl 2 rfl) ?_
    refine z_Sir (As := [.int (zI (b))]) (rest := []) hx hb hml hown hts hA hS hP hD hK hZ hl.1 (c_X2_isNote l D cI cJ cZ cO _ (b) (by omega)) (va_cwS 1 hts gX2_trill_X2_isNote rfl rfl rfl (by decide +kernel) ⟨Nat.le_of_ble_eq_true rfl, Nat.le_of_ble_eq_true rfl⟩) [] rfl rfl rfl rfl (Nat.le_of_ble_eq_true rfl) ⟨Nat.zero_le _, Nat.zero_le _⟩ dX2_trill_8 (fun r u H locs hw hP hS => ?_)
    subst hw
    refine z_ifB_eq (P := 0 ≤ b ∧ b ≤ 36) (tgt := 23) hx hb dX2_trill_11 (by decide) (fun c_11 => ?_) (fun c_11 => ?_)
    · refine lv_bipush (v := zI (-2)) hx hb dX2_trill_23 (by decide +kernel) ?_
      exact hret _ _ _ _ _ (g1, g2) dX2_trill_25 (by unfold A_trill; first | rw [if_neg c_4] | rw [if_pos c_4, if_neg c_11] | rw [if_pos c_4, if_pos c_11]) hP hS
    · refine lv_aload_n hx hb dX2_trill_14 rfl (lv_at hl 0 rfl) ?_
      refine lv_iload_n hx hb dX2_trill_15 rfl (lv_at hl 1 rfl) ?_
      refine lv_iload_n hx hb dX2_trill_16 rfl (lv_at hl 2 rfl) ?_
      refine z_Viw (As := [.int (zI (a)), .int (zI (b))]) (rest := []) hx hb hml hown hts hA hS hP hD hK hZ hl.1 (c_X2_leastMotion l D cI cJ cZ cO _ (x0) (s0) (b1) (b2) (b3) (im) (p0) (r1) (r2) (r3) (r4) (σ) (gk) (g1) (g2) (a) (b) (by omega) hO) (cwV 2 hts gX2_trill_X2_leastMotion rfl rfl rfl (by decide +kernel) ⟨Nat.le_of_ble_eq_true rfl, Nat.le_of_ble_eq_true rfl⟩) [0, 1, 2, 3, 4, 5, 6] rfl rfl (fun _ => rfl) 0 2 rfl rfl rfl rfl (Nat.le_of_ble_eq_true rfl) ⟨Nat.zero_le _, Nat.zero_le _⟩ dX2_trill_17 (fun r u1 H locs hw hP hD hS => ?_)
      have hP : va_P D vwCl [(x0, .inr (2, [.ref s0, .ref im, .int (zI (gk 0 + 2 * gk 1)), .ref p0, .ref r1, .ref r2, .ref r3, .ref r4])), (s0, .inr (1, [.int (zI (σ 0)), .ref b1, .ref b2, .ref b3, .int (zI (σ 9))])), (b1, .inl (cI, 3, .inl (zF (fun j => σ (1 + j))))), (b2, .inl (cI, 5, .inl (zF (fun j => σ (4 + j))))), (b3, .inl (cI, 12, .inl (zF (fun j => σ (10 + j))))), (r1, .inl (cI, 8, .inl (zF (u1.1)))), (r2, .inl (cI, 8, .inl (zF (u1.2))))] H := hP
      have hD : va_D A [(x0, .inr (2, [.ref s0, .ref im, .int (zI (gk 0 + 2 * gk 1)), .ref p0, .ref r1, .ref r2, .ref r3, .ref r4])), (s0, .inr (1, [.int (zI (σ 0)), .ref b1, .ref b2, .ref b3, .int (zI (σ 9))])), (b1, .inl (cI, 3, .inl (zF (fun j => σ (1 + j))))), (b2, .inl (cI, 5, .inl (zF (fun j => σ (4 + j))))), (b3, .inl (cI, 12, .inl (zF (fun j => σ (10 + j))))), (r1, .inl (cI, 8, .inl (zF (u1.1)))), (r2, .inl (cI, 8, .inl (zF (u1.2))))] := hD
      subst hw
      refine lv_goto (tgt := 25) hx hb dX2_trill_20 (by decide) ?_
      exact hret _ _ _ _ _ (u1.1, u1.2) dX2_trill_25 (by unfold A_trill; first | rw [if_neg c_4] | rw [if_pos c_4, if_neg c_11] | rw [if_pos c_4, if_pos c_11]) hP hS
abbrev rmX2_awkward : Room := { frames := 5, cells := 0, slots := 0, locals := 120 }
set_option maxHeartbeats 4000000 in
set_option maxRecDepth 100000 in
theorem c_X2_awkward (l : Launch) (D : va_G) (cI cJ cZ cO : ClassId) (sz : Nat) (x0 : Nat) (s0 : Nat) (b1 : Nat) (b2 : Nat) (b3 : Nat) (im : Nat) (p0 : Nat) (r1 : Nat) (r2 : Nat) (r3 : Nat) (r4 : Nat) (σ : Int → Int) (gk : Int → Int) (g1 : Int → Int) (g2 : Int → Int) (d : Int) (t : Int) (h_d : -2147483648 ≤ d ∧ d < 2147483648) (h_t : -2147483648 ≤ t ∧ t < 2147483648) (hO : Ok σ) : Met l yX2_awkward wsX2_awkward rmX2_awkward (zPc D cI cJ cZ cO [(x0, .inr (2, [.ref s0, .ref im, .int (zI (gk 0 + 2 * gk 1)), .ref p0, .ref r1, .ref r2, .ref r3, .ref r4])), (s0, .inr (1, [.int (zI (σ 0)), .ref b1, .ref b2, .ref b3, .int (zI (σ 9))])), (b1, .inl (cI, 3, .inl (zF (fun j => σ (1 + j))))), (b2, .inl (cI, 5, .inl (zF (fun j => σ (4 + j))))), (b3, .inl (cI, 12, .inl (zF (fun j => σ (10 + j))))), (r1, .inl (cI, 8, .inl (zF (g1)))), (r2, .inl (cI, 8, .inl (zF (g2))))] sz [.ref x0, .int (zI (d)), .int (zI (t))]) (zQi D (fun (r : Int32) (_ : (Int → Int) × (Int → Int)) => r = zI (A_awk σ d t)) (fun (u : (Int → Int) × (Int → Int)) => [(x0, .inr (2, [.ref s0, .ref im, .int (zI (gk 0 + 2 * gk 1)), .ref p0, .ref r1, .ref r2, .ref r3, .ref r4])), (s0, .inr (1, [.int (zI (σ 0)), .ref b1, .ref b2, .ref b3, .int (zI (σ 9))])), (b1, .inl (cI, 3, .inl (zF (fun j => σ (1 + j))))), (b2, .inl (cI, 5, .inl (zF (fun j => σ (4 + j))))), (b3, .inl (cI, 12, .inl (zF (fun j => σ (10 + j))))), (r1, .inl (cI, 8, .inl (zF (u.1)))), (r2, .inl (cI, 8, .inl (zF (u.2))))]) [(x0, .inr (2, [.ref s0, .ref im, .int (zI (gk 0 + 2 * gk 1)), .ref p0, .ref r1, .ref r2, .ref r3, .ref r4])), (s0, .inr (1, [.int (zI (σ 0)), .ref b1, .ref b2, .ref b3, .int (zI (σ 9))])), (b1, .inl (cI, 3, .inl (zF (fun j => σ (1 + j))))), (b2, .inl (cI, 5, .inl (zF (fun j => σ (4 + j))))), (b3, .inl (cI, 12, .inl (zF (fun j => σ (10 + j))))), (r1, .inl (cI, 8, .inl (zF (g1)))), (r2, .inl (cI, 8, .inl (zF (g2))))] sz) 0 0 (va_A [(x0, .inr (2, [.ref s0, .ref im, .int (zI (gk 0 + 2 * gk 1)), .ref p0, .ref r1, .ref r2, .ref r3, .ref r4])), (s0, .inr (1, [.int (zI (σ 0)), .ref b1, .ref b2, .ref b3, .int (zI (σ 9))])), (b1, .inl (cI, 3, .inl (zF (fun j => σ (1 + j))))), (b2, .inl (cI, 5, .inl (zF (fun j => σ (4 + j))))), (b3, .inl (cI, 12, .inl (zF (fun j => σ (10 + j))))), (r1, .inl (cI, 8, .inl (zF (g1)))), (r2, .inl (cI, 8, .inl (zF (g2))))] sz) := by
  refine z_meti (by decide) rfl (Nat.le_of_ble_eq_true rfl) ?_
  intro p e s m args below meth c A Q ls hx hb hml hown hts hA hS hP hD hK hZ hl hret
  have hl : lv_has ls 5 [(0, .ref x0), (1, .int (zI (d))), (2, .int (zI (t)))] := hl
  refine lv_iload_n hx hb dX2_awkward_0 rfl (lv_at hl 1 rfl) ?_
  refine lv_iconst (v := zI (1)) hx hb dX2_awkward_1 rfl ?_
  refine z_icmp_lt (a := d) (b := 1) (tgt := 21) hx hb (by omega) dX2_awkward_2 (by decide) (fun c_2 => ?_) (fun c_2 => ?_)
  · refine lv_bipush (v := zI (-2)) hx hb dX2_awkward_21 (by decide +kernel) ?_
    exact hret _ _ _ _ _ (g1, g2) dX2_awkward_23 (by unfold A_awk; first | (rw [if_neg (by omega)]; done) | (rw [if_pos (by omega), if_neg (by omega)]; done)) hP hS
  · refine lv_iload_n hx hb dX2_awkward_5 rfl (lv_at hl 1 rfl) ?_
    refine lv_bipush (v := zI (12)) hx hb dX2_awkward_6 (by decide +kernel) ?_
    refine z_icmp_gt (a := d) (b := 12) (tgt := 21) hx hb (by omega) dX2_awkward_8 (by decide) (fun c_8 => ?_) (fun c_8 => ?_)
    · refine lv_bipush (v := zI (-2)) hx hb dX2_awkward_21 (by decide +kernel) ?_
      exact hret _ _ _ _ _ (g1, g2) dX2_awkward_23 (by unfold A_awk; first | (rw [if_neg (by omega)]; done) | (rw [if_pos (by omega), if_neg (by omega)]; done)) hP hS
    · refine lv_iload_n hx hb dX2_awkward_11 rfl (lv_at hl 2 rfl) ?_
      refine z_if_lt (a := t) (tgt := 21) hx hb (by omega) dX2_awkward_12 (by decide) (fun c_12 => ?_) (fun c_12 => ?_)
      · refine lv_bipush (v := zI (-2)) hx hb dX2_awkward_21 (by decide +kernel) ?_
        exact hret _ _ _ _ _ (g1, g2) dX2_awkward_23 (by unfold A_awk; first | (rw [if_neg (by omega)]; done) | (rw [if_pos (by omega), if_neg (by omega)]; done)) hP hS
      · refine lv_iload_n hx hb dX2_awkward_15 rfl (lv_at hl 2 rfl) ?_
        refine lv_bipush (v := zI (99)) hx hb dX2_awkward_16 (by decide +kernel) ?_
        refine z_icmp_le (a := t) (b := 99) (tgt := 24) hx hb (by omega) dX2_awkward_18 (by decide) (fun c_18 => ?_) (fun c_18 => ?_)
        · refine lv_iconst (v := zI (0)) hx hb dX2_awkward_24 rfl ?_
          refine lv_istore_n (lv' := [(3, .int (zI (0))), (0, .ref x0), (1, .int (zI (d))), (2, .int (zI (t)))]) hx hb dX2_awkward_25 rfl hl (by decide) rfl (fun ls hl => ?_)
          refine lv_iconst (v := zI (0)) hx hb dX2_awkward_26 rfl ?_
          refine lv_istore (lv' := [(4, .int (zI (0))), (3, .int (zI (0))), (0, .ref x0), (1, .int (zI (d))), (2, .int (zI (t)))]) hx hb dX2_awkward_27 hl (by decide) rfl (fun ls hl => ?_)
          have loop_a : ∀ (f_a : Nat) (k : Nat) (x : Int) (ra : Int → Int) (rb : Int → Int) (H : Heap) (locs : List Loc) (ls : Array Slot), ((k : Int) ≤ 37 - d) → (x = cnt (fun n => decide (t < tro σ n (n + d) 64)) k) → (37 - (k : Int) < (f_a : Int)) → va_P D vwCl [(x0, .inr (2, [.ref s0, .ref im, .int (zI (gk 0 + 2 * gk 1)), .ref p0, .ref r1, .ref r2, .ref r3, .ref r4])), (s0, .inr (1, [.int (zI (σ 0)), .ref b1, .ref b2, .ref b3, .int (zI (σ 9))])), (b1, .inl (cI, 3, .inl (zF (fun j => σ (1 + j))))), (b2, .inl (cI, 5, .inl (zF (fun j => σ (4 + j))))), (b3, .inl (cI, 12, .inl (zF (fun j => σ (10 + j))))), (r1, .inl (cI, 8, .inl (zF (ra)))), (r2, .inl (cI, 8, .inl (zF (rb))))] H → va_D A [(x0, .inr (2, [.ref s0, .ref im, .int (zI (gk 0 + 2 * gk 1)), .ref p0, .ref r1, .ref r2, .ref r3, .ref r4])), (s0, .inr (1, [.int (zI (σ 0)), .ref b1, .ref b2, .ref b3, .int (zI (σ 9))])), (b1, .inl (cI, 3, .inl (zF (fun j => σ (1 + j))))), (b2, .inl (cI, 5, .inl (zF (fun j => σ (4 + j))))), (b3, .inl (cI, 12, .inl (zF (fun j => σ (10 + j))))), (r1, .inl (cI, 8, .inl (zF (ra)))), (r2, .inl (cI, 8, .inl (zF (rb))))] → va_S A s.heap H locs → lv_has ls 5 [(0, .ref x0), (1, .int (zI (d))), (2, .int (zI (t))), (3, .int (zI (x))), (4, .int (zI ((k : Int))))] → W p l e rmX2_awkward s m args below meth c H locs 0 0 Q (F0 m 29 ls []) := by
            intro f_a
            induction f_a with
            | zero =>
              intros
              exfalso; omega
            | succ f_a ih_a =>
              intro k x ra rb H locs ls e_k e_x hfu_a hP hD hS hl
              have e_b := tro_in hO (k : Int) ((k : Int) + d) 64 (by omega)
              refine lv_iload hx hb dX2_awkward_29 (lv_at hl 4 rfl) ?_
              refine lv_iload_n hx hb dX2_awkward_31 rfl (lv_at hl 1 rfl) ?_
              refine z_iadd (a := (k : Int)) (b := d) hx hb dX2_awkward_32 ?_
              refine lv_bipush (v := zI (37)) hx hb dX2_awkward_33 (by decide +kernel) ?_
              refine z_icmp_ge (a := (k : Int) + d) (b := 37) (tgt := 61) hx hb (by omega) dX2_awkward_35 (by decide) (fun c_35 => ?_) (fun c_35 => ?_)
              · refine lv_iload_n hx hb dX2_awkward_61 rfl (lv_at hl 3 rfl) ?_
                exact hret _ _ _ _ _ (ra, rb) dX2_awkward_62 (by unfold A_awk; rw [if_pos (by omega), if_pos (by omega), e_x, show k = (37 - d).toNat by omega]) hP hS
              · refine lv_aload_n hx hb dX2_awkward_38 rfl (lv_at hl 0 rfl) ?_
                refine lv_iload hx hb dX2_awkward_39 (lv_at hl 4 rfl) ?_
                refine lv_iload hx hb dX2_awkward_41 (lv_at hl 4 rfl) ?_
                refine lv_iload_n hx hb dX2_awkward_43 rfl (lv_at hl 1 rfl) ?_
                refine z_iadd (a := (k : Int)) (b := d) hx hb dX2_awkward_44 ?_
                refine z_Viw (As := [.int (zI ((k : Int))), .int (zI ((k : Int) + d))]) (rest := []) hx hb hml hown hts hA hS hP hD hK hZ hl.1 (c_X2_leastMotion l D cI cJ cZ cO _ (x0) (s0) (b1) (b2) (b3) (im) (p0) (r1) (r2) (r3) (r4) (σ) (gk) (ra) (rb) ((k : Int)) ((k : Int) + d) (by omega) hO) (cwV 2 hts gX2_awkward_X2_leastMotion rfl rfl rfl (by decide +kernel) ⟨Nat.le_of_ble_eq_true rfl, Nat.le_of_ble_eq_true rfl⟩) [0, 1, 2, 3, 4, 5, 6] rfl rfl (fun _ => rfl) 0 2 rfl rfl rfl rfl (Nat.le_of_ble_eq_true rfl) ⟨Nat.zero_le _, Nat.zero_le _⟩ dX2_awkward_45 (fun r u1 H locs hw hP hD hS => ?_)
                have hP : va_P D vwCl [(x0, .inr (2, [.ref s0, .ref im, .int (zI (gk 0 + 2 * gk 1)), .ref p0, .ref r1, .ref r2, .ref r3, .ref r4])), (s0, .inr (1, [.int (zI (σ 0)), .ref b1, .ref b2, .ref b3, .int (zI (σ 9))])), (b1, .inl (cI, 3, .inl (zF (fun j => σ (1 + j))))), (b2, .inl (cI, 5, .inl (zF (fun j => σ (4 + j))))), (b3, .inl (cI, 12, .inl (zF (fun j => σ (10 + j))))), (r1, .inl (cI, 8, .inl (zF (u1.1)))), (r2, .inl (cI, 8, .inl (zF (u1.2))))] H := hP
                have hD : va_D A [(x0, .inr (2, [.ref s0, .ref im, .int (zI (gk 0 + 2 * gk 1)), .ref p0, .ref r1, .ref r2, .ref r3, .ref r4])), (s0, .inr (1, [.int (zI (σ 0)), .ref b1, .ref b2, .ref b3, .int (zI (σ 9))])), (b1, .inl (cI, 3, .inl (zF (fun j => σ (1 + j))))), (b2, .inl (cI, 5, .inl (zF (fun j => σ (4 + j))))), (b3, .inl (cI, 12, .inl (zF (fun j => σ (10 + j))))), (r1, .inl (cI, 8, .inl (zF (u1.1)))), (r2, .inl (cI, 8, .inl (zF (u1.2))))] := hD
                subst hw
                refine lv_iload_n hx hb dX2_awkward_48 rfl (lv_at hl 2 rfl) ?_
                refine z_icmp_le (a := tro σ (k : Int) ((k : Int) + d) 64) (b := t) (tgt := 55) hx hb (by omega) dX2_awkward_49 (by decide) (fun c_49 => ?_) (fun c_49 => ?_)
                · refine lv_iinc (v := zI ((k : Int) + 1)) (lv' := [(4, .int (zI ((k : Int) + 1))), (0, .ref x0), (1, .int (zI (d))), (2, .int (zI (t))), (3, .int (zI (x)))]) hx hb dX2_awkward_55 hl (k := 4) rfl (zI_add _ _) (by decide) rfl (fun ls hl => ?_)
                  refine lv_goto (tgt := 29) hx hb dX2_awkward_58 (by decide) ?_
                  exact ih_a (k + 1) (x) (u1.1) (u1.2) _ _ _ (by omega) (by rw [cnt_s e_x]; first | (rw [if_pos (decide_eq_true c_49)]; done) | (rw [if_neg (by rw [decide_eq_true_eq]; omega), Int.add_zero]; done)) (by omega) hP hD hS (lv_sub hl [1, 2, 3, 4, 0] rfl)
                · refine lv_iinc (v := zI (x + 1)) (lv' := [(3, .int (zI (x + 1))), (0, .ref x0), (1, .int (zI (d))), (2, .int (zI (t))), (4, .int (zI ((k : Int))))]) hx hb dX2_awkward_52 hl (k := 3) rfl (zI_add _ _) (by decide) rfl (fun ls hl => ?_)
                  refine lv_iinc (v := zI ((k : Int) + 1)) (lv' := [(4, .int (zI ((k : Int) + 1))), (3, .int (zI (x + 1))), (0, .ref x0), (1, .int (zI (d))), (2, .int (zI (t)))]) hx hb dX2_awkward_55 hl (k := 4) rfl (zI_add _ _) (by decide) rfl (fun ls hl => ?_)
                  refine lv_goto (tgt := 29) hx hb dX2_awkward_58 (by decide) ?_
                  exact ih_a (k + 1) (x + 1) (u1.1) (u1.2) _ _ _ (by omega) (by rw [cnt_s e_x]; first | (rw [if_pos (decide_eq_true c_49)]; done) | (rw [if_neg (by rw [decide_eq_true_eq]; omega), Int.add_zero]; done)) (by omega) hP hD hS (lv_sub hl [2, 3, 4, 1, 0] rfl)
          exact loop_a 70 (0) (0) (g1) (g2) _ _ _ (by omega) (rfl) (by omega) hP hD hS (lv_sub hl [2, 3, 4, 1, 0] rfl)
        · refine lv_bipush (v := zI (-2)) hx hb dX2_awkward_21 (by decide +kernel) ?_
          exact hret _ _ _ _ _ (g1, g2) dX2_awkward_23 (by unfold A_awk; first | (rw [if_neg (by omega)]; done) | (rw [if_pos (by omega), if_neg (by omega)]; done)) hP hS
abbrev rmX2_nearestMiss : Room := { frames := 1, cells := 0, slots := 0, locals := 19 }
theorem m_X2_nearestMiss_0 : (.constant RX2 81 (1000000) : Cond) ∈ wsX2_nearestMiss := List.mem_of_getElem? (i := 1) rfl
theorem in_X2_nearestMiss_X2 : ∀ w ∈ wsX20, w ∈ wsX2_nearestMiss := fun _ h => List.mem_cons_of_mem _ (List.mem_append_right _ h)
theorem m_X2_nearestMiss_1 : (.fieldLink RX2 41 "BrassWays" "trialDrops" "[I" : Cond) ∈ wsX2_nearestMiss := List.mem_of_getElem? (i := 2) rfl
theorem m_X2_nearestMiss_2 : (.fieldLink RX2 147 "BrassWays" "HIGH" "[I" : Cond) ∈ wsX2_nearestMiss := List.mem_of_getElem? (i := 3) rfl
theorem m_X2_nearestMiss_3 : (.methodLink RX2 82 Lib.Math.abs.name : Cond) ∈ wsX2_nearestMiss := List.mem_of_getElem? (i := 4) rfl
theorem m_X2_nearestMiss_4 : (.static Lib.Math.abs.name : Cond) ∈ wsX2_nearestMiss := List.mem_of_getElem? (i := 5) rfl
theorem m_X2_nearestMiss_5 : (.initialized "java/lang/Math" : Cond) ∈ wsX2_nearestMiss := List.mem_of_getElem? (i := 6) rfl
theorem m_X2_nearestMiss_6 : (.code Lib.Math.abs.name Lib.Math.abs.code 1 (some .int) : Cond) ∈ wsX2_nearestMiss := List.mem_of_getElem? (i := 7) rfl
theorem m_X2_nearestMiss_7 : (.methodLink RX2 138 Lib.Math.min.name : Cond) ∈ wsX2_nearestMiss := List.mem_of_getElem? (i := 8) rfl
theorem m_X2_nearestMiss_8 : (.static Lib.Math.min.name : Cond) ∈ wsX2_nearestMiss := List.mem_of_getElem? (i := 9) rfl
theorem m_X2_nearestMiss_9 : (.code Lib.Math.min.name Lib.Math.min.code 2 (some .int) : Cond) ∈ wsX2_nearestMiss := List.mem_of_getElem? (i := 10) rfl
set_option maxHeartbeats 4000000 in
set_option maxRecDepth 100000 in
theorem c_X2_nearestMiss (l : Launch) (D : va_G) (cI cJ cZ cO : ClassId) (sz : Nat) (x0 : Nat) (s0 : Nat) (b1 : Nat) (b2 : Nat) (b3 : Nat) (im : Nat) (p0 : Nat) (r1 : Nat) (r2 : Nat) (r3 : Nat) (r4 : Nat) (σ : Int → Int) (gk : Int → Int) (g4 : Int → Int) (n : Int) (h1 : 0 ≤ n ∧ n ≤ 36) (h4 : ∀ t : Int, 0 ≤ t → t < 8 → -2000 ≤ g4 t ∧ g4 t ≤ 2000) : Met l yX2_nearestMiss wsX2_nearestMiss rmX2_nearestMiss (zPc D cI cJ cZ cO [(x0, .inr (2, [.ref s0, .ref im, .int (zI (gk 0 + 2 * gk 1)), .ref p0, .ref r1, .ref r2, .ref r3, .ref r4])), (r4, .inl (cI, 8, .inl (zF (g4))))] sz [.ref x0, .int (zI (n))]) (zQi D (fun (r : Int32) (_ : Unit) => r = zI (lm2 (fun t q => aI (hi q - (g4 t + 100 * n))) 8 8)) (fun (_ : Unit) => [(x0, .inr (2, [.ref s0, .ref im, .int (zI (gk 0 + 2 * gk 1)), .ref p0, .ref r1, .ref r2, .ref r3, .ref r4])), (r4, .inl (cI, 8, .inl (zF (g4))))]) [(x0, .inr (2, [.ref s0, .ref im, .int (zI (gk 0 + 2 * gk 1)), .ref p0, .ref r1, .ref r2, .ref r3, .ref r4])), (r4, .inl (cI, 8, .inl (zF (g4))))] sz) 0 0 (va_A [(x0, .inr (2, [.ref s0, .ref im, .int (zI (gk 0 + 2 * gk 1)), .ref p0, .ref r1, .ref r2, .ref r3, .ref r4])), (r4, .inl (cI, 8, .inl (zF (g4))))] sz) := by
  refine z_meti (by decide) rfl (Nat.le_of_ble_eq_true rfl) ?_
  intro p e s m args below meth c A Q ls hx hb hml hown hts hA hS hP hD hK hZ hl hret
  have hl : lv_has ls 6 [(0, .ref x0), (1, .int (zI (n)))] := hl
  refine lv_ldc hx hb hown (hts _ m_X2_nearestMiss_0) dX2_nearestMiss_0 ?_
  refine z_top (y := zI 1000000) (by decide +kernel) ?_
  refine lv_istore_n (lv' := [(2, .int (zI (1000000))), (0, .ref x0), (1, .int (zI (n)))]) hx hb dX2_nearestMiss_2 rfl hl (by decide) rfl (fun ls hl => ?_)
  refine lv_iconst (v := zI (0)) hx hb dX2_nearestMiss_3 rfl ?_
  refine lv_istore_n (lv' := [(3, .int (zI (0))), (2, .int (zI (1000000))), (0, .ref x0), (1, .int (zI (n)))]) hx hb dX2_nearestMiss_4 rfl hl (by decide) rfl (fun ls hl => ?_)
  have loop_a : ∀ (f_a : Nat) (k : Nat) (x : Int) (H : Heap) (locs : List Loc) (ls : Array Slot), (k ≤ 8) → (0 ≤ x ∧ x ≤ 1000000) → (x = lm2 (fun t q => aI (hi q - (g4 t + 100 * n))) 8 k) → (8 - (k : Int) < (f_a : Int)) → va_P D vwCl [(x0, .inr (2, [.ref s0, .ref im, .int (zI (gk 0 + 2 * gk 1)), .ref p0, .ref r1, .ref r2, .ref r3, .ref r4])), (r4, .inl (cI, 8, .inl (zF (g4))))] H → va_D A [(x0, .inr (2, [.ref s0, .ref im, .int (zI (gk 0 + 2 * gk 1)), .ref p0, .ref r1, .ref r2, .ref r3, .ref r4])), (r4, .inl (cI, 8, .inl (zF (g4))))] → va_S A s.heap H locs → lv_has ls 6 [(0, .ref x0), (1, .int (zI (n))), (2, .int (zI (x))), (3, .int (zI ((k : Int))))] → W p l e rmX2_nearestMiss s m args below meth c H locs 0 0 Q (F0 m 5 ls []) := by
    intro f_a
    induction f_a with
    | zero =>
      intros
      exfalso; omega
    | succ f_a ih_a =>
      intro k x H locs ls e_k e_b e_x hfu_a hP hD hS hl
      refine lv_iload_n hx hb dX2_nearestMiss_5 rfl (lv_at hl 3 rfl) ?_
      refine lv_bipush (v := zI (8)) hx hb dX2_nearestMiss_6 (by decide +kernel) ?_
      refine z_icmp_ge (a := (k : Int)) (b := 8) (tgt := 63) hx hb (by omega) dX2_nearestMiss_8 (by decide) (fun c_8 => ?_) (fun c_8 => ?_)
      · refine lv_iload_n hx hb dX2_nearestMiss_63 rfl (lv_at hl 2 rfl) ?_
        exact hret _ _ _ _ _ () dX2_nearestMiss_64 (by rw [e_x, show k = 8 by omega]) hP hS
      · have hg4 := h4 (k : Int) (by omega) (by omega)
        refine lv_aload_n hx hb dX2_nearestMiss_11 rfl (lv_at hl 0 rfl) ?_
        refine va_get (D := D) (ci := 2) (v := .ref r4) (C := RX2) (T := TX2) (N := 8) hx hb hts in_X2_nearestMiss_X2 hown hK hP 0 rfl rfl 7 (by decide) (hts _ m_X2_nearestMiss_1) (fun _ h9 => h9) rfl dX2_nearestMiss_12 ?_
        refine lv_iload_n hx hb dX2_nearestMiss_15 rfl (lv_at hl 3 rfl) ?_
        refine z_iald (k := (k : Int)) (g := g4) hx hb hK hP 1 0 rfl rfl (by omega) dX2_nearestMiss_16 ?_
        try dsimp only
        refine lv_bipush (v := zI (100)) hx hb dX2_nearestMiss_17 (by decide +kernel) ?_
        refine lv_iload_n hx hb dX2_nearestMiss_19 rfl (lv_at hl 1 rfl) ?_
        refine z_imul (a := 100) (b := n) hx hb dX2_nearestMiss_20 ?_
        refine z_iadd (a := g4 (k : Int)) (b := 100 * n) hx hb dX2_nearestMiss_21 ?_
        refine lv_istore (lv' := [(4, .int (zI ((g4 (k : Int)) + (100 * n)))), (0, .ref x0), (1, .int (zI (n))), (2, .int (zI (x))), (3, .int (zI ((k : Int))))]) hx hb dX2_nearestMiss_22 hl (by decide) rfl (fun ls hl => ?_)
        refine lv_iconst (v := zI (0)) hx hb dX2_nearestMiss_24 rfl ?_
        refine lv_istore (lv' := [(5, .int (zI (0))), (4, .int (zI ((g4 (k : Int)) + (100 * n)))), (0, .ref x0), (1, .int (zI (n))), (2, .int (zI (x))), (3, .int (zI ((k : Int))))]) hx hb dX2_nearestMiss_25 hl (by decide) rfl (fun ls hl => ?_)
        have loop_b : ∀ (f_b : Nat) (i : Nat) (y : Int) (H : Heap) (locs : List Loc) (ls : Array Slot), (i ≤ 8) → (0 ≤ y ∧ y ≤ 1000000) → (y = lm1 ((fun t q => aI (hi q - (g4 t + 100 * n))) (k : Int)) x i) → (8 - (i : Int) < (f_b : Int)) → va_P D vwCl [(x0, .inr (2, [.ref s0, .ref im, .int (zI (gk 0 + 2 * gk 1)), .ref p0, .ref r1, .ref r2, .ref r3, .ref r4])), (r4, .inl (cI, 8, .inl (zF (g4))))] H → va_D A [(x0, .inr (2, [.ref s0, .ref im, .int (zI (gk 0 + 2 * gk 1)), .ref p0, .ref r1, .ref r2, .ref r3, .ref r4])), (r4, .inl (cI, 8, .inl (zF (g4))))] → va_S A s.heap H locs → lv_has ls 6 [(0, .ref x0), (1, .int (zI (n))), (2, .int (zI (y))), (3, .int (zI ((k : Int)))), (4, .int (zI (g4 (k : Int) + (100 * n)))), (5, .int (zI ((i : Int))))] → W p l e rmX2_nearestMiss s m args below meth c H locs 0 0 Q (F0 m 27 ls []) := by
          intro f_b
          induction f_b with
          | zero =>
            intros
            exfalso; omega
          | succ f_b ih_b =>
            intro i y H locs ls e_i e_c e_y hfu_b hP hD hS hl
            refine lv_iload hx hb dX2_nearestMiss_27 (lv_at hl 5 rfl) ?_
            refine lv_bipush (v := zI (8)) hx hb dX2_nearestMiss_29 (by decide +kernel) ?_
            refine z_icmp_ge (a := (i : Int)) (b := 8) (tgt := 57) hx hb (by omega) dX2_nearestMiss_31 (by decide) (fun c_31 => ?_) (fun c_31 => ?_)
            · refine lv_iinc (v := zI ((k : Int) + 1)) (lv' := [(3, .int (zI ((k : Int) + 1))), (0, .ref x0), (1, .int (zI (n))), (2, .int (zI (y))), (4, .int (zI (g4 (k : Int) + (100 * n)))), (5, .int (zI ((i : Int))))]) hx hb dX2_nearestMiss_57 hl (k := 3) rfl (zI_add _ _) (by decide) rfl (fun ls hl => ?_)
              refine lv_goto (tgt := 5) hx hb dX2_nearestMiss_60 (by decide) ?_
              exact ih_a (k + 1) (y) _ _ _ (by omega) (by omega) (by rw [lm2_s e_x, e_y, show i = 8 by omega]) (by omega) hP hD hS (lv_sub hl [1, 2, 3, 0] rfl)
            · have hhi := hi_in (i : Int)
              have ha := aI_in (a := hi (i : Int) - (g4 (k : Int) + 100 * n)) (b := 20000) (by omega)
              refine lv_iload_n hx hb dX2_nearestMiss_34 rfl (lv_at hl 2 rfl) ?_
              obtain ⟨tH, hH1, hH2⟩ := hZ.1
              refine va_gets (ref := "BrassWays") hx hb hH1 hS hown (hts _ m_X2_nearestMiss_2) (fun _ h9 => h9) dX2_nearestMiss_35 ?_
              refine lv_iload hx hb dX2_nearestMiss_38 (lv_at hl 5 rfl) ?_
              refine va_ti hx hb hH2 hS (zI_in (n := 8) (a := (i : Int)) (by omega) (by omega) (by decide)) (v := .int (zI (hi ((i : Int))))) (by show Value.int (zI (hi (((zI ((i : Int))).toNatClampNeg : Nat) : Int))) = _; rw [zI_clampI (by omega) (by omega)]) dX2_nearestMiss_40 ?_
              refine lv_iload hx hb dX2_nearestMiss_41 (lv_at hl 4 rfl) ?_
              refine z_isub (a := hi ((i : Int))) (b := g4 (k : Int) + (100 * n)) hx hb dX2_nearestMiss_43 ?_
              refine z_mabs (a := (hi ((i : Int))) - (g4 (k : Int) + (100 * n))) hx hb (hml.trans hl.1.symm) hown (hts _ m_X2_nearestMiss_3) (hts _ m_X2_nearestMiss_4) (hts _ m_X2_nearestMiss_5) (hts _ m_X2_nearestMiss_6) (Nat.le_of_ble_eq_true rfl) (Nat.le_of_ble_eq_true rfl) (Nat.zero_le _) (Nat.zero_le _) (by omega) dX2_nearestMiss_44 ?_
              refine z_mmin (a := y) (b := aI ((hi ((i : Int))) - (g4 (k : Int) + (100 * n)))) hx hb (hml.trans hl.1.symm) hown (hts _ m_X2_nearestMiss_7) (hts _ m_X2_nearestMiss_8) (hts _ m_X2_nearestMiss_5) (hts _ m_X2_nearestMiss_9) (Nat.le_of_ble_eq_true rfl) (Nat.le_of_ble_eq_true rfl) (Nat.zero_le _) (Nat.zero_le _) (by omega) dX2_nearestMiss_47 ?_
              refine lv_istore_n (lv' := [(2, .int (zI (mI y (aI ((hi ((i : Int))) - (g4 (k : Int) + (100 * n))))))), (0, .ref x0), (1, .int (zI (n))), (3, .int (zI ((k : Int)))), (4, .int (zI (g4 (k : Int) + (100 * n)))), (5, .int (zI ((i : Int))))]) hx hb dX2_nearestMiss_50 rfl hl (by decide) rfl (fun ls hl => ?_)
              refine lv_iinc (v := zI ((i : Int) + 1)) (lv' := [(5, .int (zI ((i : Int) + 1))), (2, .int (zI (mI y (aI ((hi ((i : Int))) - (g4 (k : Int) + (100 * n))))))), (0, .ref x0), (1, .int (zI (n))), (3, .int (zI ((k : Int)))), (4, .int (zI (g4 (k : Int) + (100 * n))))]) hx hb dX2_nearestMiss_51 hl (k := 5) rfl (zI_add _ _) (by decide) rfl (fun ls hl => ?_)
              refine lv_goto (tgt := 27) hx hb dX2_nearestMiss_54 (by decide) ?_
              exact ih_b (i + 1) (mI y (aI ((hi ((i : Int))) - (g4 (k : Int) + (100 * n))))) _ _ _ (by omega) (by have := mI_le y (aI (hi (i : Int) - (g4 (k : Int) + 100 * n))); omega) (by rw [lm1_s e_y]) (by omega) hP hD hS (lv_sub hl [2, 3, 1, 4, 5, 0] rfl)
        exact loop_b 70 (0) (x) _ _ _ (by omega) (by omega) (rfl) (by omega) hP hD hS (lv_sub hl [2, 3, 4, 5, 1, 0] rfl)
  exact loop_a 70 (0) (1000000) _ _ _ (by omega) (by omega) (rfl) (by omega) hP hD hS (lv_sub hl [2, 3, 1, 0] rfl)
abbrev rmX2_missOfPart : Room := { frames := 2, cells := 0, slots := 0, locals := 44 }
theorem in_X2_missOfPart_X2 : ∀ w ∈ wsX20, w ∈ wsX2_missOfPart := fun _ h => List.mem_cons_of_mem _ (List.mem_append_left _ (List.mem_append_right _ h))
theorem m_X2_missOfPart_1 : (.fieldLink RX2 12 "BrassWays" "now" "LBrassWays$Setup;" : Cond) ∈ wsX2_missOfPart := List.mem_of_getElem? (i := 2) rfl
theorem in_X2_missOfPart_X1 : ∀ w ∈ wsX10, w ∈ wsX2_missOfPart := fun _ h => List.mem_cons_of_mem _ (List.mem_append_right _ h)
theorem m_X2_missOfPart_5 : (.fieldLink RX2 87 "BrassWays$Setup" "size" "I" : Cond) ∈ wsX2_missOfPart := List.mem_of_getElem? (i := 6) rfl
theorem m_X2_missOfPart_6 : (.fieldLink RX2 90 "BrassWays$Setup" "notes" "[I" : Cond) ∈ wsX2_missOfPart := List.mem_of_getElem? (i := 7) rfl
theorem m_X2_missOfPart_3 : (.fieldLink RX2 41 "BrassWays" "trialDrops" "[I" : Cond) ∈ wsX2_missOfPart := List.mem_of_getElem? (i := 4) rfl
theorem m_X2_missOfPart_0 : (.fieldLink RX2 38 "BrassWays" "trialLengths" "[I" : Cond) ∈ wsX2_missOfPart := List.mem_of_getElem? (i := 1) rfl
theorem m_X2_missOfPart_4 : (.fieldLink RX2 57 "BrassWays$Setup" "rules" "[I" : Cond) ∈ wsX2_missOfPart := List.mem_of_getElem? (i := 5) rfl
theorem m_X2_missOfPart_2 : (.fieldLink RX2 51 "BrassWays$Setup" "lengths" "[I" : Cond) ∈ wsX2_missOfPart := List.mem_of_getElem? (i := 3) rfl
set_option maxHeartbeats 4000000 in
set_option maxRecDepth 100000 in
theorem c_X2_missOfPart (l : Launch) (D : va_G) (cI cJ cZ cO : ClassId) (sz : Nat) (x0 : Nat) (s0 : Nat) (b1 : Nat) (b2 : Nat) (b3 : Nat) (im : Nat) (p0 : Nat) (r1 : Nat) (r2 : Nat) (r3 : Nat) (r4 : Nat) (σ : Int → Int) (gk : Int → Int) (g3 : Int → Int) (g4 : Int → Int) (q : Int) (v : Int) (hq : 0 ≤ q ∧ q ≤ 2) (hv : 0 ≤ v ∧ v ≤ 400) (hs : ¬ σ 0 = 1) (hO : Ok σ) : Met l yX2_missOfPart wsX2_missOfPart rmX2_missOfPart (zPc D cI cJ cZ cO [(x0, .inr (2, [.ref s0, .ref im, .int (zI (gk 0 + 2 * gk 1)), .ref p0, .ref r1, .ref r2, .ref r3, .ref r4])), (s0, .inr (1, [.int (zI (σ 0)), .ref b1, .ref b2, .ref b3, .int (zI (σ 9))])), (b1, .inl (cI, 3, .inl (zF (fun j => σ (1 + j))))), (b2, .inl (cI, 5, .inl (zF (fun j => σ (4 + j))))), (b3, .inl (cI, 12, .inl (zF (fun j => σ (10 + j))))), (r3, .inl (cI, 3, .inl (zF (g3)))), (r4, .inl (cI, 8, .inl (zF (g4))))] sz [.ref x0, .int (zI (q)), .int (zI (v))]) (zQi D (fun (r : Int32) (_ : (Int → Int) × (Int → Int)) => r = zI (A_ofp (upI σ (1 + q) v))) (fun (u : (Int → Int) × (Int → Int)) => [(x0, .inr (2, [.ref s0, .ref im, .int (zI (gk 0 + 2 * gk 1)), .ref p0, .ref r1, .ref r2, .ref r3, .ref r4])), (s0, .inr (1, [.int (zI (σ 0)), .ref b1, .ref b2, .ref b3, .int (zI (σ 9))])), (b1, .inl (cI, 3, .inl (zF (fun j => σ (1 + j))))), (b2, .inl (cI, 5, .inl (zF (fun j => σ (4 + j))))), (b3, .inl (cI, 12, .inl (zF (fun j => σ (10 + j))))), (r3, .inl (cI, 3, .inl (zF (u.1)))), (r4, .inl (cI, 8, .inl (zF (u.2))))]) [(x0, .inr (2, [.ref s0, .ref im, .int (zI (gk 0 + 2 * gk 1)), .ref p0, .ref r1, .ref r2, .ref r3, .ref r4])), (s0, .inr (1, [.int (zI (σ 0)), .ref b1, .ref b2, .ref b3, .int (zI (σ 9))])), (b1, .inl (cI, 3, .inl (zF (fun j => σ (1 + j))))), (b2, .inl (cI, 5, .inl (zF (fun j => σ (4 + j))))), (b3, .inl (cI, 12, .inl (zF (fun j => σ (10 + j))))), (r3, .inl (cI, 3, .inl (zF (g3)))), (r4, .inl (cI, 8, .inl (zF (g4))))] sz) 0 0 (va_A [(x0, .inr (2, [.ref s0, .ref im, .int (zI (gk 0 + 2 * gk 1)), .ref p0, .ref r1, .ref r2, .ref r3, .ref r4])), (s0, .inr (1, [.int (zI (σ 0)), .ref b1, .ref b2, .ref b3, .int (zI (σ 9))])), (b1, .inl (cI, 3, .inl (zF (fun j => σ (1 + j))))), (b2, .inl (cI, 5, .inl (zF (fun j => σ (4 + j))))), (b3, .inl (cI, 12, .inl (zF (fun j => σ (10 + j))))), (r3, .inl (cI, 3, .inl (zF (g3)))), (r4, .inl (cI, 8, .inl (zF (g4))))] sz) := by
  refine z_meti (by decide) rfl (Nat.le_of_ble_eq_true rfl) ?_
  intro p e s m args below meth c A Q ls hx hb hml hown hts hA hS hP hD hK hZ hl hret
  have hl : lv_has ls 5 [(0, .ref x0), (1, .int (zI (q))), (2, .int (zI (v)))] := hl
  have o9 := hO.2.2.2.2.2.2.2.2.2.1
  have hO2 := Ok_valve hO hq hv
  have u0 : upI σ (1 + q) v 0 = σ 0 := upI_n (by omega)
  have u4 : upI σ (1 + q) v 4 = σ 4 := upI_n (by omega)
  have u9 : upI σ (1 + q) v 9 = σ 9 := upI_n (by omega)
  refine lv_iconst (v := zI (0)) hx hb dX2_missOfPart_0 rfl ?_
  refine lv_istore_n (lv' := [(3, .int (zI (0))), (0, .ref x0), (1, .int (zI (q))), (2, .int (zI (v)))]) hx hb dX2_missOfPart_1 rfl hl (by decide) rfl (fun ls hl => ?_)
  have loop_a : ∀ (f_a : Nat) (k : Nat) (t3 : Int → Int) (H : Heap) (locs : List Loc) (ls : Array Slot), (k ≤ 3) → (∀ j : Int, 0 ≤ j → j < (k : Int) → t3 j = upI σ (1 + q) v (1 + j)) → (3 - (k : Int) < (f_a : Int)) → va_P D vwCl [(x0, .inr (2, [.ref s0, .ref im, .int (zI (gk 0 + 2 * gk 1)), .ref p0, .ref r1, .ref r2, .ref r3, .ref r4])), (s0, .inr (1, [.int (zI (σ 0)), .ref b1, .ref b2, .ref b3, .int (zI (σ 9))])), (b1, .inl (cI, 3, .inl (zF (fun j => σ (1 + j))))), (b2, .inl (cI, 5, .inl (zF (fun j => σ (4 + j))))), (b3, .inl (cI, 12, .inl (zF (fun j => σ (10 + j))))), (r3, .inl (cI, 3, .inl (zF (t3)))), (r4, .inl (cI, 8, .inl (zF (g4))))] H → va_D A [(x0, .inr (2, [.ref s0, .ref im, .int (zI (gk 0 + 2 * gk 1)), .ref p0, .ref r1, .ref r2, .ref r3, .ref r4])), (s0, .inr (1, [.int (zI (σ 0)), .ref b1, .ref b2, .ref b3, .int (zI (σ 9))])), (b1, .inl (cI, 3, .inl (zF (fun j => σ (1 + j))))), (b2, .inl (cI, 5, .inl (zF (fun j => σ (4 + j))))), (b3, .inl (cI, 12, .inl (zF (fun j => σ (10 + j))))), (r3, .inl (cI, 3, .inl (zF (t3)))), (r4, .inl (cI, 8, .inl (zF (g4))))] → va_S A s.heap H locs → lv_has ls 5 [(0, .ref x0), (1, .int (zI (q))), (2, .int (zI (v))), (3, .int (zI ((k : Int))))] → W p l e rmX2_missOfPart s m args below meth c H locs 0 0 Q (F0 m 2 ls []) := by
    intro f_a
    induction f_a with
    | zero =>
      intros
      exfalso; omega
    | succ f_a ih_a =>
      intro k t3 H locs ls e_k e_t hfu_a hP hD hS hl
      refine lv_iload_n hx hb dX2_missOfPart_2 rfl (lv_at hl 3 rfl) ?_
      refine lv_iconst (v := zI (3)) hx hb dX2_missOfPart_3 rfl ?_
      refine z_icmp_ge (a := (k : Int)) (b := 3) (tgt := 37) hx hb (by omega) dX2_missOfPart_4 (by decide) (fun c_4 => ?_) (fun c_4 => ?_)
      · have e_t3 : ∀ j : Int, 0 ≤ j → j < 3 → t3 j = upI σ (1 + q) v (1 + j) := fun j h0 h1 => e_t j h0 (by omega)
        refine lv_iconst (v := zI (0)) hx hb dX2_missOfPart_37 rfl ?_
        refine lv_istore_n (lv' := [(3, .int (zI (0))), (0, .ref x0), (1, .int (zI (q))), (2, .int (zI (v)))]) hx hb dX2_missOfPart_38 rfl hl (by decide) rfl (fun ls hl => ?_)
        have loop_b : ∀ (f_b : Nat) (i : Nat) (d4 : Int → Int) (H : Heap) (locs : List Loc) (ls : Array Slot), (i ≤ 8) → (∀ j : Int, 0 ≤ j → j < (i : Int) → d4 j = low (upI σ (1 + q) v) j) → (8 - (i : Int) < (f_b : Int)) → va_P D vwCl [(x0, .inr (2, [.ref s0, .ref im, .int (zI (gk 0 + 2 * gk 1)), .ref p0, .ref r1, .ref r2, .ref r3, .ref r4])), (s0, .inr (1, [.int (zI (σ 0)), .ref b1, .ref b2, .ref b3, .int (zI (σ 9))])), (b1, .inl (cI, 3, .inl (zF (fun j => σ (1 + j))))), (b2, .inl (cI, 5, .inl (zF (fun j => σ (4 + j))))), (b3, .inl (cI, 12, .inl (zF (fun j => σ (10 + j))))), (r3, .inl (cI, 3, .inl (zF (t3)))), (r4, .inl (cI, 8, .inl (zF (d4))))] H → va_D A [(x0, .inr (2, [.ref s0, .ref im, .int (zI (gk 0 + 2 * gk 1)), .ref p0, .ref r1, .ref r2, .ref r3, .ref r4])), (s0, .inr (1, [.int (zI (σ 0)), .ref b1, .ref b2, .ref b3, .int (zI (σ 9))])), (b1, .inl (cI, 3, .inl (zF (fun j => σ (1 + j))))), (b2, .inl (cI, 5, .inl (zF (fun j => σ (4 + j))))), (b3, .inl (cI, 12, .inl (zF (fun j => σ (10 + j))))), (r3, .inl (cI, 3, .inl (zF (t3)))), (r4, .inl (cI, 8, .inl (zF (d4))))] → va_S A s.heap H locs → lv_has ls 5 [(0, .ref x0), (1, .int (zI (q))), (2, .int (zI (v))), (3, .int (zI ((i : Int))))] → W p l e rmX2_missOfPart s m args below meth c H locs 0 0 Q (F0 m 39 ls []) := by
          intro f_b
          induction f_b with
          | zero =>
            intros
            exfalso; omega
          | succ f_b ih_b =>
            intro i d4 H locs ls e_i e_d hfu_b hP hD hS hl
            refine lv_iload_n hx hb dX2_missOfPart_39 rfl (lv_at hl 3 rfl) ?_
            refine lv_bipush (v := zI (8)) hx hb dX2_missOfPart_40 (by decide +kernel) ?_
            refine z_icmp_ge (a := (i : Int)) (b := 8) (tgt := 74) hx hb (by omega) dX2_missOfPart_42 (by decide) (fun c_42 => ?_) (fun c_42 => ?_)
            · have e_d8 : ∀ j : Int, 0 ≤ j → j < 8 → d4 j = low (upI σ (1 + q) v) j := fun j h0 h1 => e_d j h0 (by omega)
              refine lv_iconst (v := zI (0)) hx hb dX2_missOfPart_74 rfl ?_
              refine lv_istore_n (lv' := [(3, .int (zI (0))), (0, .ref x0), (1, .int (zI (q))), (2, .int (zI (v)))]) hx hb dX2_missOfPart_75 rfl hl (by decide) rfl (fun ls hl => ?_)
              refine lv_iconst (v := zI (0)) hx hb dX2_missOfPart_76 rfl ?_
              refine lv_istore (lv' := [(4, .int (zI (0))), (3, .int (zI (0))), (0, .ref x0), (1, .int (zI (q))), (2, .int (zI (v)))]) hx hb dX2_missOfPart_77 hl (by decide) rfl (fun ls hl => ?_)
              have loop_c : ∀ (f_c : Nat) (j : Nat) (x : Int) (H : Heap) (locs : List Loc) (ls : Array Slot), ((j : Int) ≤ σ 9) → (x = ofp (upI σ (1 + q) v) j) → (12 - (j : Int) < (f_c : Int)) → va_P D vwCl [(x0, .inr (2, [.ref s0, .ref im, .int (zI (gk 0 + 2 * gk 1)), .ref p0, .ref r1, .ref r2, .ref r3, .ref r4])), (s0, .inr (1, [.int (zI (σ 0)), .ref b1, .ref b2, .ref b3, .int (zI (σ 9))])), (b1, .inl (cI, 3, .inl (zF (fun j => σ (1 + j))))), (b2, .inl (cI, 5, .inl (zF (fun j => σ (4 + j))))), (b3, .inl (cI, 12, .inl (zF (fun j => σ (10 + j))))), (r3, .inl (cI, 3, .inl (zF (t3)))), (r4, .inl (cI, 8, .inl (zF (d4))))] H → va_D A [(x0, .inr (2, [.ref s0, .ref im, .int (zI (gk 0 + 2 * gk 1)), .ref p0, .ref r1, .ref r2, .ref r3, .ref r4])), (s0, .inr (1, [.int (zI (σ 0)), .ref b1, .ref b2, .ref b3, .int (zI (σ 9))])), (b1, .inl (cI, 3, .inl (zF (fun j => σ (1 + j))))), (b2, .inl (cI, 5, .inl (zF (fun j => σ (4 + j))))), (b3, .inl (cI, 12, .inl (zF (fun j => σ (10 + j))))), (r3, .inl (cI, 3, .inl (zF (t3)))), (r4, .inl (cI, 8, .inl (zF (d4))))] → va_S A s.heap H locs → lv_has ls 5 [(0, .ref x0), (1, .int (zI (q))), (2, .int (zI (v))), (3, .int (zI (x))), (4, .int (zI ((j : Int))))] → W p l e rmX2_missOfPart s m args below meth c H locs 0 0 Q (F0 m 79 ls []) := by
                intro f_c
                induction f_c with
                | zero =>
                  intros
                  exfalso; omega
                | succ f_c ih_c =>
                  intro j x H locs ls e_j e_x hfu_c hP hD hS hl
                  refine lv_iload hx hb dX2_missOfPart_79 (lv_at hl 4 rfl) ?_
                  refine lv_aload_n hx hb dX2_missOfPart_81 rfl (lv_at hl 0 rfl) ?_
                  refine va_get (D := D) (ci := 2) (v := .ref s0) (C := RX2) (T := TX2) (N := 8) hx hb hts in_X2_missOfPart_X2 hown hK hP 0 rfl rfl 0 (by decide) (hts _ m_X2_missOfPart_1) (fun _ h9 => h9) rfl dX2_missOfPart_82 ?_
                  refine va_get (D := D) (ci := 1) (v := .int (zI (σ 9))) (C := RX1) (T := TX1) (N := 5) hx hb hts in_X2_missOfPart_X1 hown hK hP 1 rfl rfl 4 (by decide) (hts _ m_X2_missOfPart_5) (fun _ h9 => h9) rfl dX2_missOfPart_85 ?_
                  refine z_icmp_ge (a := (j : Int)) (b := σ 9) (tgt := 114) hx hb (by omega) dX2_missOfPart_88 (by decide) (fun c_88 => ?_) (fun c_88 => ?_)
                  · refine lv_iload_n hx hb dX2_missOfPart_114 rfl (lv_at hl 3 rfl) ?_
                    exact hret _ _ _ _ _ (t3, d4) dX2_missOfPart_115 (by unfold A_ofp; rw [e_x, u9, show j = (σ 9).toNat by omega]) hP hS
                  · have o10 := hO.2.2.2.2.2.2.2.2.2.2 (j : Int) (by omega) (by omega)
                    have u10 : upI σ (1 + q) v (10 + (j : Int)) = σ (10 + (j : Int)) := upI_n (by omega)
                    refine lv_iload_n hx hb dX2_missOfPart_91 rfl (lv_at hl 3 rfl) ?_
                    refine lv_aload_n hx hb dX2_missOfPart_92 rfl (lv_at hl 0 rfl) ?_
                    refine lv_aload_n hx hb dX2_missOfPart_93 rfl (lv_at hl 0 rfl) ?_
                    refine va_get (D := D) (ci := 2) (v := .ref s0) (C := RX2) (T := TX2) (N := 8) hx hb hts in_X2_missOfPart_X2 hown hK hP 0 rfl rfl 0 (by decide) (hts _ m_X2_missOfPart_1) (fun _ h9 => h9) rfl dX2_missOfPart_94 ?_
                    refine va_get (D := D) (ci := 1) (v := .ref b3) (C := RX1) (T := TX1) (N := 5) hx hb hts in_X2_missOfPart_X1 hown hK hP 1 rfl rfl 3 (by decide) (hts _ m_X2_missOfPart_6) (fun _ h9 => h9) rfl dX2_missOfPart_97 ?_
                    refine lv_iload hx hb dX2_missOfPart_100 (lv_at hl 4 rfl) ?_
                    refine z_iald (k := (j : Int)) (g := fun j => σ (10 + j)) hx hb hK hP 4 0 rfl rfl (by omega) dX2_missOfPart_102 ?_
                    try dsimp only
                    refine z_Vir (As := [.int (zI (σ (10 + (j : Int))))]) (rest := [.int (zI (x))]) hx hb hml hown hts hA hS hP hD hK hZ hl.1 (c_X2_nearestMiss l D cI cJ cZ cO _ (x0) (s0) (b1) (b2) (b3) (im) (p0) (r1) (r2) (r3) (r4) (σ) (gk) (d4) (σ (10 + (j : Int))) (by omega) (fun t h0 h1 => by rw [e_d8 t h0 h1]; have := low_in hO2 (s := t) ⟨h0, h1⟩; omega)) (cwV 1 hts gX2_missOfPart_X2_nearestMiss rfl rfl rfl (by decide +kernel) ⟨Nat.le_of_ble_eq_true rfl, Nat.le_of_ble_eq_true rfl⟩) [0, 6] rfl rfl 0 2 rfl rfl rfl rfl (Nat.le_of_ble_eq_true rfl) ⟨Nat.zero_le _, Nat.zero_le _⟩ dX2_missOfPart_103 (fun r u H locs hw hP hS => ?_)
                    subst hw
                    refine z_top (y := zI (nrm (upI σ (1 + q) v) (upI σ (1 + q) v (10 + (j : Int))))) (by rw [u10, nrm_lm2 hO2 o10 e_d8]) ?_
                    refine z_iadd (a := x) (b := nrm (upI σ (1 + q) v) (upI σ (1 + q) v (10 + (j : Int)))) hx hb dX2_missOfPart_106 ?_
                    refine lv_istore_n (lv' := [(3, .int (zI (x + (nrm (upI σ (1 + q) v) (upI σ (1 + q) v (10 + (j : Int))))))), (0, .ref x0), (1, .int (zI (q))), (2, .int (zI (v))), (4, .int (zI ((j : Int))))]) hx hb dX2_missOfPart_107 rfl hl (by decide) rfl (fun ls hl => ?_)
                    refine lv_iinc (v := zI ((j : Int) + 1)) (lv' := [(4, .int (zI ((j : Int) + 1))), (3, .int (zI (x + (nrm (upI σ (1 + q) v) (upI σ (1 + q) v (10 + (j : Int))))))), (0, .ref x0), (1, .int (zI (q))), (2, .int (zI (v)))]) hx hb dX2_missOfPart_108 hl (k := 4) rfl (zI_add _ _) (by decide) rfl (fun ls hl => ?_)
                    refine lv_goto (tgt := 79) hx hb dX2_missOfPart_111 (by decide) ?_
                    exact ih_c (j + 1) (x + (nrm (upI σ (1 + q) v) (upI σ (1 + q) v (10 + (j : Int))))) _ _ _ (by omega) (by rw [ofp_s e_x]) (by omega) hP hD hS (lv_sub hl [2, 3, 4, 1, 0] rfl)
              exact loop_c 70 (0) (0) _ _ _ (by omega) (rfl) (by omega) hP hD hS (lv_sub hl [2, 3, 4, 1, 0] rfl)
            · refine lv_aload_n hx hb dX2_missOfPart_45 rfl (lv_at hl 0 rfl) ?_
              refine va_get (D := D) (ci := 2) (v := .ref r4) (C := RX2) (T := TX2) (N := 8) hx hb hts in_X2_missOfPart_X2 hown hK hP 0 rfl rfl 7 (by decide) (hts _ m_X2_missOfPart_3) (fun _ h9 => h9) rfl dX2_missOfPart_46 ?_
              refine lv_iload_n hx hb dX2_missOfPart_49 rfl (lv_at hl 3 rfl) ?_
              refine lv_iload_n hx hb dX2_missOfPart_50 rfl (lv_at hl 3 rfl) ?_
              refine lv_aload_n hx hb dX2_missOfPart_51 rfl (lv_at hl 0 rfl) ?_
              refine va_get (D := D) (ci := 2) (v := .ref r3) (C := RX2) (T := TX2) (N := 8) hx hb hts in_X2_missOfPart_X2 hown hK hP 0 rfl rfl 6 (by decide) (hts _ m_X2_missOfPart_0) (fun _ h9 => h9) rfl dX2_missOfPart_52 ?_
              refine lv_aload_n hx hb dX2_missOfPart_55 rfl (lv_at hl 0 rfl) ?_
              refine va_get (D := D) (ci := 2) (v := .ref s0) (C := RX2) (T := TX2) (N := 8) hx hb hts in_X2_missOfPart_X2 hown hK hP 0 rfl rfl 0 (by decide) (hts _ m_X2_missOfPart_1) (fun _ h9 => h9) rfl dX2_missOfPart_56 ?_
              refine va_get (D := D) (ci := 1) (v := .ref b2) (C := RX1) (T := TX1) (N := 5) hx hb hts in_X2_missOfPart_X1 hown hK hP 1 rfl rfl 2 (by decide) (hts _ m_X2_missOfPart_4) (fun _ h9 => h9) rfl dX2_missOfPart_59 ?_
              refine lv_iconst (v := zI (0)) hx hb dX2_missOfPart_62 rfl ?_
              refine z_iald (k := 0) (g := fun j => σ (4 + j)) hx hb hK hP 3 0 rfl rfl (by omega) dX2_missOfPart_63 ?_
              try dsimp only
              refine z_top (y := zI (σ 4)) rfl ?_
              refine z_Sir (As := [.int (zI ((i : Int))), .ref r3, .int (zI (σ 4))]) (rest := [.int (zI ((i : Int))), .ref r4]) hx hb hml hown hts hA hS hP hD hK hZ hl.1 (c_X2_valveDrop l D cI cJ cZ cO _ (r3) (t3) ((i : Int)) (σ 4) (by omega)) (va_cwS 3 hts gX2_missOfPart_X2_valveDrop rfl rfl rfl (by decide +kernel) ⟨Nat.le_of_ble_eq_true rfl, Nat.le_of_ble_eq_true rfl⟩) [5] rfl rfl rfl rfl (Nat.le_of_ble_eq_true rfl) ⟨Nat.zero_le _, Nat.zero_le _⟩ dX2_missOfPart_64 (fun r u H locs hw hP hS => ?_)
              subst hw
              refine z_top (y := zI (low (upI σ (1 + q) v) (i : Int))) (by rw [← u4, vdr_low e_t3 (by rw [u0]; exact hs)]) ?_
              refine z_iast (k := (i : Int)) (x := low (upI σ (1 + q) v) (i : Int)) (g := d4) hx hb hK hP hD hS 6 0 rfl rfl (by omega) dX2_missOfPart_67 (fun H locs hP hD hS => ?_)
              have hP : va_P D vwCl [(x0, .inr (2, [.ref s0, .ref im, .int (zI (gk 0 + 2 * gk 1)), .ref p0, .ref r1, .ref r2, .ref r3, .ref r4])), (s0, .inr (1, [.int (zI (σ 0)), .ref b1, .ref b2, .ref b3, .int (zI (σ 9))])), (b1, .inl (cI, 3, .inl (zF (fun j => σ (1 + j))))), (b2, .inl (cI, 5, .inl (zF (fun j => σ (4 + j))))), (b3, .inl (cI, 12, .inl (zF (fun j => σ (10 + j))))), (r3, .inl (cI, 3, .inl (zF (t3)))), (r4, .inl (cI, 8, .inl (zF (upI d4 (i : Int) (low (upI σ (1 + q) v) (i : Int))))))] H := hP
              have hD : va_D A [(x0, .inr (2, [.ref s0, .ref im, .int (zI (gk 0 + 2 * gk 1)), .ref p0, .ref r1, .ref r2, .ref r3, .ref r4])), (s0, .inr (1, [.int (zI (σ 0)), .ref b1, .ref b2, .ref b3, .int (zI (σ 9))])), (b1, .inl (cI, 3, .inl (zF (fun j => σ (1 + j))))), (b2, .inl (cI, 5, .inl (zF (fun j => σ (4 + j))))), (b3, .inl (cI, 12, .inl (zF (fun j => σ (10 + j))))), (r3, .inl (cI, 3, .inl (zF (t3)))), (r4, .inl (cI, 8, .inl (zF (upI d4 (i : Int) (low (upI σ (1 + q) v) (i : Int))))))] := hD
              refine lv_iinc (v := zI ((i : Int) + 1)) (lv' := [(3, .int (zI ((i : Int) + 1))), (0, .ref x0), (1, .int (zI (q))), (2, .int (zI (v)))]) hx hb dX2_missOfPart_68 hl (k := 3) rfl (zI_add _ _) (by decide) rfl (fun ls hl => ?_)
              refine lv_goto (tgt := 39) hx hb dX2_missOfPart_71 (by decide) ?_
              exact ih_b (i + 1) (upI d4 (i : Int) (low (upI σ (1 + q) v) (i : Int))) _ _ _ (by omega) (fun j h0 h1 => if hj : j = (i : Int) then by rw [hj, upI_s] else (upI_n hj).trans (e_d j h0 (by omega))) (by omega) hP hD hS (lv_sub hl [1, 2, 3, 0] rfl)
        exact loop_b 70 (0) (g4) _ _ _ (by omega) (fun j h0 h1 => by omega) (by omega) hP hD hS (lv_sub hl [1, 2, 3, 0] rfl)
      · refine lv_aload_n hx hb dX2_missOfPart_7 rfl (lv_at hl 0 rfl) ?_
        refine va_get (D := D) (ci := 2) (v := .ref r3) (C := RX2) (T := TX2) (N := 8) hx hb hts in_X2_missOfPart_X2 hown hK hP 0 rfl rfl 6 (by decide) (hts _ m_X2_missOfPart_0) (fun _ h9 => h9) rfl dX2_missOfPart_8 ?_
        refine lv_iload_n hx hb dX2_missOfPart_11 rfl (lv_at hl 3 rfl) ?_
        refine lv_iload_n hx hb dX2_missOfPart_12 rfl (lv_at hl 3 rfl) ?_
        refine lv_iload_n hx hb dX2_missOfPart_13 rfl (lv_at hl 1 rfl) ?_
        refine z_icmp_ne (a := (k : Int)) (b := q) (tgt := 21) hx hb (by omega) dX2_missOfPart_14 (by decide) (fun c_14 => ?_) (fun c_14 => ?_)
        · refine lv_aload_n hx hb dX2_missOfPart_21 rfl (lv_at hl 0 rfl) ?_
          refine va_get (D := D) (ci := 2) (v := .ref s0) (C := RX2) (T := TX2) (N := 8) hx hb hts in_X2_missOfPart_X2 hown hK hP 0 rfl rfl 0 (by decide) (hts _ m_X2_missOfPart_1) (fun _ h9 => h9) rfl dX2_missOfPart_22 ?_
          refine va_get (D := D) (ci := 1) (v := .ref b1) (C := RX1) (T := TX1) (N := 5) hx hb hts in_X2_missOfPart_X1 hown hK hP 1 rfl rfl 1 (by decide) (hts _ m_X2_missOfPart_2) (fun _ h9 => h9) rfl dX2_missOfPart_25 ?_
          refine lv_iload_n hx hb dX2_missOfPart_28 rfl (lv_at hl 3 rfl) ?_
          refine z_iald (k := (k : Int)) (g := fun j => σ (1 + j)) hx hb hK hP 2 0 rfl rfl (by omega) dX2_missOfPart_29 ?_
          try dsimp only
          refine z_iast (k := (k : Int)) (x := σ (1 + (k : Int))) (g := t3) hx hb hK hP hD hS 5 0 rfl rfl (by omega) dX2_missOfPart_30 (fun H locs hP hD hS => ?_)
          have hP : va_P D vwCl [(x0, .inr (2, [.ref s0, .ref im, .int (zI (gk 0 + 2 * gk 1)), .ref p0, .ref r1, .ref r2, .ref r3, .ref r4])), (s0, .inr (1, [.int (zI (σ 0)), .ref b1, .ref b2, .ref b3, .int (zI (σ 9))])), (b1, .inl (cI, 3, .inl (zF (fun j => σ (1 + j))))), (b2, .inl (cI, 5, .inl (zF (fun j => σ (4 + j))))), (b3, .inl (cI, 12, .inl (zF (fun j => σ (10 + j))))), (r3, .inl (cI, 3, .inl (zF (upI t3 (k : Int) (σ (1 + (k : Int))))))), (r4, .inl (cI, 8, .inl (zF (g4))))] H := hP
          have hD : va_D A [(x0, .inr (2, [.ref s0, .ref im, .int (zI (gk 0 + 2 * gk 1)), .ref p0, .ref r1, .ref r2, .ref r3, .ref r4])), (s0, .inr (1, [.int (zI (σ 0)), .ref b1, .ref b2, .ref b3, .int (zI (σ 9))])), (b1, .inl (cI, 3, .inl (zF (fun j => σ (1 + j))))), (b2, .inl (cI, 5, .inl (zF (fun j => σ (4 + j))))), (b3, .inl (cI, 12, .inl (zF (fun j => σ (10 + j))))), (r3, .inl (cI, 3, .inl (zF (upI t3 (k : Int) (σ (1 + (k : Int))))))), (r4, .inl (cI, 8, .inl (zF (g4))))] := hD
          refine lv_iinc (v := zI ((k : Int) + 1)) (lv' := [(3, .int (zI ((k : Int) + 1))), (0, .ref x0), (1, .int (zI (q))), (2, .int (zI (v)))]) hx hb dX2_missOfPart_31 hl (k := 3) rfl (zI_add _ _) (by decide) rfl (fun ls hl => ?_)
          refine lv_goto (tgt := 2) hx hb dX2_missOfPart_34 (by decide) ?_
          exact ih_a (k + 1) (upI t3 (k : Int) (σ (1 + (k : Int)))) _ _ _ (by omega) (fun j h0 h1 => if hj : j = (k : Int) then by rw [hj, upI_s]; first | (rw [c_14, upI_s]; done) | (rw [upI_n (by omega)]; done) else (upI_n hj).trans (e_t j h0 (by omega))) (by omega) hP hD hS (lv_sub hl [1, 2, 3, 0] rfl)
        · refine lv_iload_n hx hb dX2_missOfPart_17 rfl (lv_at hl 2 rfl) ?_
          refine lv_goto (tgt := 30) hx hb dX2_missOfPart_18 (by decide) ?_
          refine z_iast (k := (k : Int)) (x := v) (g := t3) hx hb hK hP hD hS 5 0 rfl rfl (by omega) dX2_missOfPart_30 (fun H locs hP hD hS => ?_)
          have hP : va_P D vwCl [(x0, .inr (2, [.ref s0, .ref im, .int (zI (gk 0 + 2 * gk 1)), .ref p0, .ref r1, .ref r2, .ref r3, .ref r4])), (s0, .inr (1, [.int (zI (σ 0)), .ref b1, .ref b2, .ref b3, .int (zI (σ 9))])), (b1, .inl (cI, 3, .inl (zF (fun j => σ (1 + j))))), (b2, .inl (cI, 5, .inl (zF (fun j => σ (4 + j))))), (b3, .inl (cI, 12, .inl (zF (fun j => σ (10 + j))))), (r3, .inl (cI, 3, .inl (zF (upI t3 (k : Int) v)))), (r4, .inl (cI, 8, .inl (zF (g4))))] H := hP
          have hD : va_D A [(x0, .inr (2, [.ref s0, .ref im, .int (zI (gk 0 + 2 * gk 1)), .ref p0, .ref r1, .ref r2, .ref r3, .ref r4])), (s0, .inr (1, [.int (zI (σ 0)), .ref b1, .ref b2, .ref b3, .int (zI (σ 9))])), (b1, .inl (cI, 3, .inl (zF (fun j => σ (1 + j))))), (b2, .inl (cI, 5, .inl (zF (fun j => σ (4 + j))))), (b3, .inl (cI, 12, .inl (zF (fun j => σ (10 + j))))), (r3, .inl (cI, 3, .inl (zF (upI t3 (k : Int) v)))), (r4, .inl (cI, 8, .inl (zF (g4))))] := hD
          refine lv_iinc (v := zI ((k : Int) + 1)) (lv' := [(3, .int (zI ((k : Int) + 1))), (0, .ref x0), (1, .int (zI (q))), (2, .int (zI (v)))]) hx hb dX2_missOfPart_31 hl (k := 3) rfl (zI_add _ _) (by decide) rfl (fun ls hl => ?_)
          refine lv_goto (tgt := 2) hx hb dX2_missOfPart_34 (by decide) ?_
          exact ih_a (k + 1) (upI t3 (k : Int) v) _ _ _ (by omega) (fun j h0 h1 => if hj : j = (k : Int) then by rw [hj, upI_s]; first | (rw [c_14, upI_s]; done) | (rw [upI_n (by omega)]; done) else (upI_n hj).trans (e_t j h0 (by omega))) (by omega) hP hD hS (lv_sub hl [1, 2, 3, 0] rfl)
  exact loop_a 70 (0) (g3) _ _ _ (by omega) (fun j h0 h1 => by omega) (by omega) hP hD hS (lv_sub hl [1, 2, 3, 0] rfl)
abbrev rmX2_tune : Room := { frames := 3, cells := 0, slots := 0, locals := 68 }
theorem in_X2_tune_X2 : ∀ w ∈ wsX20, w ∈ wsX2_tune := fun _ h => List.mem_cons_of_mem _ (List.mem_append_left _ (List.mem_append_right _ h))
theorem m_X2_tune_0 : (.fieldLink RX2 12 "BrassWays" "now" "LBrassWays$Setup;" : Cond) ∈ wsX2_tune := List.mem_of_getElem? (i := 1) rfl
theorem in_X2_tune_X1 : ∀ w ∈ wsX10, w ∈ wsX2_tune := fun _ h => List.mem_cons_of_mem _ (List.mem_append_right _ h)
theorem m_X2_tune_1 : (.fieldLink RX2 44 "BrassWays$Setup" "kind" "I" : Cond) ∈ wsX2_tune := List.mem_of_getElem? (i := 2) rfl
set_option maxHeartbeats 4000000 in
set_option maxRecDepth 100000 in
theorem c_X2_tune (l : Launch) (D : va_G) (cI cJ cZ cO : ClassId) (sz : Nat) (x0 : Nat) (s0 : Nat) (b1 : Nat) (b2 : Nat) (b3 : Nat) (im : Nat) (p0 : Nat) (r1 : Nat) (r2 : Nat) (r3 : Nat) (r4 : Nat) (σ : Int → Int) (gk : Int → Int) (g3 : Int → Int) (g4 : Int → Int) (q : Int) (v : Int) (h_q : -2147483648 ≤ q ∧ q < 2147483648) (h_v : -2147483648 ≤ v ∧ v < 2147483648) (hO : Ok σ) : Met l yX2_tune wsX2_tune rmX2_tune (zPc D cI cJ cZ cO [(x0, .inr (2, [.ref s0, .ref im, .int (zI (gk 0 + 2 * gk 1)), .ref p0, .ref r1, .ref r2, .ref r3, .ref r4])), (s0, .inr (1, [.int (zI (σ 0)), .ref b1, .ref b2, .ref b3, .int (zI (σ 9))])), (b1, .inl (cI, 3, .inl (zF (fun j => σ (1 + j))))), (b2, .inl (cI, 5, .inl (zF (fun j => σ (4 + j))))), (b3, .inl (cI, 12, .inl (zF (fun j => σ (10 + j))))), (r3, .inl (cI, 3, .inl (zF (g3)))), (r4, .inl (cI, 8, .inl (zF (g4))))] sz [.ref x0, .int (zI (q)), .int (zI (v))]) (zQi D (fun (r : Int32) (_ : (Int → Int) × (Int → Int)) => r = zI (A_tune σ q v)) (fun (u : (Int → Int) × (Int → Int)) => [(x0, .inr (2, [.ref s0, .ref im, .int (zI (gk 0 + 2 * gk 1)), .ref p0, .ref r1, .ref r2, .ref r3, .ref r4])), (s0, .inr (1, [.int (zI (σ 0)), .ref b1, .ref b2, .ref b3, .int (zI (σ 9))])), (b1, .inl (cI, 3, .inl (zF (fun j => σ (1 + j))))), (b2, .inl (cI, 5, .inl (zF (fun j => σ (4 + j))))), (b3, .inl (cI, 12, .inl (zF (fun j => σ (10 + j))))), (r3, .inl (cI, 3, .inl (zF (u.1)))), (r4, .inl (cI, 8, .inl (zF (u.2))))]) [(x0, .inr (2, [.ref s0, .ref im, .int (zI (gk 0 + 2 * gk 1)), .ref p0, .ref r1, .ref r2, .ref r3, .ref r4])), (s0, .inr (1, [.int (zI (σ 0)), .ref b1, .ref b2, .ref b3, .int (zI (σ 9))])), (b1, .inl (cI, 3, .inl (zF (fun j => σ (1 + j))))), (b2, .inl (cI, 5, .inl (zF (fun j => σ (4 + j))))), (b3, .inl (cI, 12, .inl (zF (fun j => σ (10 + j))))), (r3, .inl (cI, 3, .inl (zF (g3)))), (r4, .inl (cI, 8, .inl (zF (g4))))] sz) 0 0 (va_A [(x0, .inr (2, [.ref s0, .ref im, .int (zI (gk 0 + 2 * gk 1)), .ref p0, .ref r1, .ref r2, .ref r3, .ref r4])), (s0, .inr (1, [.int (zI (σ 0)), .ref b1, .ref b2, .ref b3, .int (zI (σ 9))])), (b1, .inl (cI, 3, .inl (zF (fun j => σ (1 + j))))), (b2, .inl (cI, 5, .inl (zF (fun j => σ (4 + j))))), (b3, .inl (cI, 12, .inl (zF (fun j => σ (10 + j))))), (r3, .inl (cI, 3, .inl (zF (g3)))), (r4, .inl (cI, 8, .inl (zF (g4))))] sz) := by
  refine z_meti (by decide) rfl (Nat.le_of_ble_eq_true rfl) ?_
  intro p e s m args below meth c A Q ls hx hb hml hown hts hA hS hP hD hK hZ hl hret
  have hl : lv_has ls 7 [(0, .ref x0), (1, .int (zI (q))), (2, .int (zI (v)))] := hl
  have o0 := hO.1
  refine lv_iload_n hx hb dX2_tune_0 rfl (lv_at hl 1 rfl) ?_
  refine z_Sir (As := [.int (zI (q))]) (rest := []) hx hb hml hown hts hA hS hP hD hK hZ hl.1 (c_X2_isValve l D cI cJ cZ cO _ (q) (by omega)) (va_cwS 1 hts gX2_tune_X2_isValve rfl rfl rfl (by decide +kernel) ⟨Nat.le_of_ble_eq_true rfl, Nat.le_of_ble_eq_true rfl⟩) [] rfl rfl rfl rfl (Nat.le_of_ble_eq_true rfl) ⟨Nat.zero_le _, Nat.zero_le _⟩ dX2_tune_1 (fun r u H locs hw hP hS => ?_)
  subst hw
  refine z_ifB_ne (P := 0 ≤ q ∧ q ≤ 2) (tgt := 9) hx hb dX2_tune_4 (by decide) (fun c_4 => ?_) (fun c_4 => ?_)
  · refine lv_iload_n hx hb dX2_tune_9 rfl (lv_at hl 2 rfl) ?_
    refine z_if_lt (a := v) (tgt := 18) hx hb (by omega) dX2_tune_10 (by decide) (fun c_10 => ?_) (fun c_10 => ?_)
    · refine lv_bipush (v := zI (-2)) hx hb dX2_tune_18 (by decide +kernel) ?_
      exact hret _ _ _ _ _ (g3, g4) dX2_tune_20 (by unfold A_tune; rw [if_pos c_4, if_neg (by omega)]) hP hS
    · refine lv_iload_n hx hb dX2_tune_13 rfl (lv_at hl 2 rfl) ?_
      refine lv_iconst (v := zI (1)) hx hb dX2_tune_14 rfl ?_
      refine z_icmp_le (a := v) (b := 1) (tgt := 21) hx hb (by omega) dX2_tune_15 (by decide) (fun c_15 => ?_) (fun c_15 => ?_)
      · refine lv_aload_n hx hb dX2_tune_21 rfl (lv_at hl 0 rfl) ?_
        refine va_get (D := D) (ci := 2) (v := .ref s0) (C := RX2) (T := TX2) (N := 8) hx hb hts in_X2_tune_X2 hown hK hP 0 rfl rfl 0 (by decide) (hts _ m_X2_tune_0) (fun _ h9 => h9) rfl dX2_tune_22 ?_
        refine va_get (D := D) (ci := 1) (v := .int (zI (σ 0))) (C := RX1) (T := TX1) (N := 5) hx hb hts in_X2_tune_X1 hown hK hP 1 rfl rfl 0 (by decide) (hts _ m_X2_tune_1) (fun _ h9 => h9) rfl dX2_tune_25 ?_
        refine lv_iconst (v := zI (1)) hx hb dX2_tune_28 rfl ?_
        refine z_icmp_ne (a := σ 0) (b := 1) (tgt := 35) hx hb (by omega) dX2_tune_29 (by decide) (fun c_29 => ?_) (fun c_29 => ?_)
        · refine lv_iconst (v := zI (0)) hx hb dX2_tune_35 rfl ?_
          refine lv_istore_n (lv' := [(3, .int (zI (0))), (0, .ref x0), (1, .int (zI (q))), (2, .int (zI (v)))]) hx hb dX2_tune_36 rfl hl (by decide) rfl (fun ls hl => ?_)
          have e_o0 := A_ofp_in (Ok_valve hO c_4 (v := 0) (by omega))
          refine lv_aload_n hx hb dX2_tune_37 rfl (lv_at hl 1 rfl) ?_
          refine lv_iload_n hx hb dX2_tune_38 rfl (lv_at hl 2 rfl) ?_
          refine lv_iconst (v := zI (0)) hx hb dX2_tune_39 rfl ?_
          refine z_Viw (As := [.int (zI (q)), .int (zI (0))]) (rest := []) hx hb hml hown hts hA hS hP hD hK hZ hl.1 (c_X2_missOfPart l D cI cJ cZ cO _ (x0) (s0) (b1) (b2) (b3) (im) (p0) (r1) (r2) (r3) (r4) (σ) (gk) (g3) (g4) (q) (0) (by omega) (by omega) c_29 hO) (cwV 2 hts gX2_tune_X2_missOfPart rfl rfl rfl (by decide +kernel) ⟨Nat.le_of_ble_eq_true rfl, Nat.le_of_ble_eq_true rfl⟩) [0, 1, 2, 3, 4, 5, 6] rfl rfl (fun _ => rfl) 0 2 rfl rfl rfl rfl (Nat.le_of_ble_eq_true rfl) ⟨Nat.zero_le _, Nat.zero_le _⟩ dX2_tune_40 (fun r u1 H locs hw hP hD hS => ?_)
          have hP : va_P D vwCl [(x0, .inr (2, [.ref s0, .ref im, .int (zI (gk 0 + 2 * gk 1)), .ref p0, .ref r1, .ref r2, .ref r3, .ref r4])), (s0, .inr (1, [.int (zI (σ 0)), .ref b1, .ref b2, .ref b3, .int (zI (σ 9))])), (b1, .inl (cI, 3, .inl (zF (fun j => σ (1 + j))))), (b2, .inl (cI, 5, .inl (zF (fun j => σ (4 + j))))), (b3, .inl (cI, 12, .inl (zF (fun j => σ (10 + j))))), (r3, .inl (cI, 3, .inl (zF (u1.1)))), (r4, .inl (cI, 8, .inl (zF (u1.2))))] H := hP
          have hD : va_D A [(x0, .inr (2, [.ref s0, .ref im, .int (zI (gk 0 + 2 * gk 1)), .ref p0, .ref r1, .ref r2, .ref r3, .ref r4])), (s0, .inr (1, [.int (zI (σ 0)), .ref b1, .ref b2, .ref b3, .int (zI (σ 9))])), (b1, .inl (cI, 3, .inl (zF (fun j => σ (1 + j))))), (b2, .inl (cI, 5, .inl (zF (fun j => σ (4 + j))))), (b3, .inl (cI, 12, .inl (zF (fun j => σ (10 + j))))), (r3, .inl (cI, 3, .inl (zF (u1.1)))), (r4, .inl (cI, 8, .inl (zF (u1.2))))] := hD
          subst hw
          refine lv_istore (lv' := [(4, .int (zI (A_ofp (upI σ (1 + q) 0)))), (3, .int (zI (0))), (0, .ref x0), (1, .int (zI (q))), (2, .int (zI (v)))]) hx hb dX2_tune_43 hl (by decide) rfl (fun ls hl => ?_)
          refine lv_iconst (v := zI (5)) hx hb dX2_tune_45 rfl ?_
          refine lv_istore (lv' := [(5, .int (zI (5))), (4, .int (zI (A_ofp (upI σ (1 + q) 0)))), (3, .int (zI (0))), (0, .ref x0), (1, .int (zI (q))), (2, .int (zI (v)))]) hx hb dX2_tune_46 hl (by decide) rfl (fun ls hl => ?_)
          have loop_a : ∀ (f_a : Nat) (k : Nat) (z : Int) (b : Int) (t : Int) (ra : Int → Int) (rb : Int → Int) (H : Heap) (locs : List Loc) (ls : Array Slot), (1 ≤ k ∧ k ≤ 81) → (z = 5 * (k : Int)) → (0 ≤ b ∧ b ≤ 400) → (-72 ≤ t ∧ t ≤ 57600) → ((b, t) = tuB (tuF σ q) k) → (82 - (k : Int) < (f_a : Int)) → va_P D vwCl [(x0, .inr (2, [.ref s0, .ref im, .int (zI (gk 0 + 2 * gk 1)), .ref p0, .ref r1, .ref r2, .ref r3, .ref r4])), (s0, .inr (1, [.int (zI (σ 0)), .ref b1, .ref b2, .ref b3, .int (zI (σ 9))])), (b1, .inl (cI, 3, .inl (zF (fun j => σ (1 + j))))), (b2, .inl (cI, 5, .inl (zF (fun j => σ (4 + j))))), (b3, .inl (cI, 12, .inl (zF (fun j => σ (10 + j))))), (r3, .inl (cI, 3, .inl (zF (ra)))), (r4, .inl (cI, 8, .inl (zF (rb))))] H → va_D A [(x0, .inr (2, [.ref s0, .ref im, .int (zI (gk 0 + 2 * gk 1)), .ref p0, .ref r1, .ref r2, .ref r3, .ref r4])), (s0, .inr (1, [.int (zI (σ 0)), .ref b1, .ref b2, .ref b3, .int (zI (σ 9))])), (b1, .inl (cI, 3, .inl (zF (fun j => σ (1 + j))))), (b2, .inl (cI, 5, .inl (zF (fun j => σ (4 + j))))), (b3, .inl (cI, 12, .inl (zF (fun j => σ (10 + j))))), (r3, .inl (cI, 3, .inl (zF (ra)))), (r4, .inl (cI, 8, .inl (zF (rb))))] → va_S A s.heap H locs → lv_has ls 7 [(0, .ref x0), (1, .int (zI (q))), (2, .int (zI (v))), (3, .int (zI (b))), (4, .int (zI (t))), (5, .int (zI (z)))] → W p l e rmX2_tune s m args below meth c H locs 0 0 Q (F0 m 48 ls []) := by
            intro f_a
            induction f_a with
            | zero =>
              intros
              exfalso; omega
            | succ f_a ih_a =>
              intro k z b t ra rb H locs ls e_k e_z e_b e_t e_p hfu_a hP hD hS hl
              refine lv_iload hx hb dX2_tune_48 (lv_at hl 5 rfl) ?_
              refine lv_sipush (v := zI (400)) hx hb dX2_tune_50 (by decide +kernel) ?_
              refine z_icmp_gt (a := z) (b := 400) (tgt := 85) hx hb (by omega) dX2_tune_53 (by decide) (fun c_53 => ?_) (fun c_53 => ?_)
              · refine lv_iload_n hx hb dX2_tune_85 rfl (lv_at hl 2 rfl) ?_
                refine z_if_ne (a := v) (tgt := 93) hx hb (by omega) dX2_tune_86 (by decide) (fun c_86 => ?_) (fun c_86 => ?_)
                · refine lv_iload hx hb dX2_tune_93 (lv_at hl 4 rfl) ?_
                  exact hret _ _ _ _ _ (ra, rb) dX2_tune_95 (by rw [show k = 81 by omega] at e_p; unfold A_tune; rw [if_pos c_4, if_pos (by omega), if_neg c_29, ← e_p]; first | (rw [if_pos c_86]; done) | (rw [if_neg c_86]; done)) hP hS
                · refine lv_iload_n hx hb dX2_tune_89 rfl (lv_at hl 3 rfl) ?_
                  refine lv_goto (tgt := 95) hx hb dX2_tune_90 (by decide) ?_
                  exact hret _ _ _ _ _ (ra, rb) dX2_tune_95 (by rw [show k = 81 by omega] at e_p; unfold A_tune; rw [if_pos c_4, if_pos (by omega), if_neg c_29, ← e_p]; first | (rw [if_pos c_86]; done) | (rw [if_neg c_86]; done)) hP hS
              · have e_o := A_ofp_in (Ok_valve hO c_4 (v := z) (by omega))
                refine lv_aload_n hx hb dX2_tune_56 rfl (lv_at hl 0 rfl) ?_
                refine lv_iload_n hx hb dX2_tune_57 rfl (lv_at hl 1 rfl) ?_
                refine lv_iload hx hb dX2_tune_58 (lv_at hl 5 rfl) ?_
                refine z_Viw (As := [.int (zI (q)), .int (zI (z))]) (rest := []) hx hb hml hown hts hA hS hP hD hK hZ hl.1 (c_X2_missOfPart l D cI cJ cZ cO _ (x0) (s0) (b1) (b2) (b3) (im) (p0) (r1) (r2) (r3) (r4) (σ) (gk) (ra) (rb) (q) (z) (by omega) (by omega) c_29 hO) (cwV 2 hts gX2_tune_X2_missOfPart rfl rfl rfl (by decide +kernel) ⟨Nat.le_of_ble_eq_true rfl, Nat.le_of_ble_eq_true rfl⟩) [0, 1, 2, 3, 4, 5, 6] rfl rfl (fun _ => rfl) 0 2 rfl rfl rfl rfl (Nat.le_of_ble_eq_true rfl) ⟨Nat.zero_le _, Nat.zero_le _⟩ dX2_tune_60 (fun r u2 H locs hw hP hD hS => ?_)
                have hP : va_P D vwCl [(x0, .inr (2, [.ref s0, .ref im, .int (zI (gk 0 + 2 * gk 1)), .ref p0, .ref r1, .ref r2, .ref r3, .ref r4])), (s0, .inr (1, [.int (zI (σ 0)), .ref b1, .ref b2, .ref b3, .int (zI (σ 9))])), (b1, .inl (cI, 3, .inl (zF (fun j => σ (1 + j))))), (b2, .inl (cI, 5, .inl (zF (fun j => σ (4 + j))))), (b3, .inl (cI, 12, .inl (zF (fun j => σ (10 + j))))), (r3, .inl (cI, 3, .inl (zF (u2.1)))), (r4, .inl (cI, 8, .inl (zF (u2.2))))] H := hP
                have hD : va_D A [(x0, .inr (2, [.ref s0, .ref im, .int (zI (gk 0 + 2 * gk 1)), .ref p0, .ref r1, .ref r2, .ref r3, .ref r4])), (s0, .inr (1, [.int (zI (σ 0)), .ref b1, .ref b2, .ref b3, .int (zI (σ 9))])), (b1, .inl (cI, 3, .inl (zF (fun j => σ (1 + j))))), (b2, .inl (cI, 5, .inl (zF (fun j => σ (4 + j))))), (b3, .inl (cI, 12, .inl (zF (fun j => σ (10 + j))))), (r3, .inl (cI, 3, .inl (zF (u2.1)))), (r4, .inl (cI, 8, .inl (zF (u2.2))))] := hD
                subst hw
                refine lv_istore (lv' := [(6, .int (zI (A_ofp (upI σ (1 + q) z)))), (0, .ref x0), (1, .int (zI (q))), (2, .int (zI (v))), (3, .int (zI (b))), (4, .int (zI (t))), (5, .int (zI (z)))]) hx hb dX2_tune_63 hl (by decide) rfl (fun ls hl => ?_)
                refine lv_iload hx hb dX2_tune_65 (lv_at hl 0 rfl) ?_
                refine lv_iload hx hb dX2_tune_67 (lv_at hl 5 rfl) ?_
                refine z_icmp_ge (a := A_ofp (upI σ (1 + q) z)) (b := t) (tgt := 79) hx hb (by omega) dX2_tune_69 (by decide) (fun c_69 => ?_) (fun c_69 => ?_)
                · refine lv_iinc (v := zI (z + 5)) (lv' := [(5, .int (zI (z + 5))), (6, .int (zI (A_ofp (upI σ (1 + q) z)))), (0, .ref x0), (1, .int (zI (q))), (2, .int (zI (v))), (3, .int (zI (b))), (4, .int (zI (t)))]) hx hb dX2_tune_79 hl (k := 6) rfl (zI_add _ _) (by decide) rfl (fun ls hl => ?_)
                  refine lv_goto (tgt := 48) hx hb dX2_tune_82 (by decide) ?_
                  exact ih_a (k + 1) (z + 5) (b) (t) (u2.1) (u2.2) _ _ _ (by omega) (by omega) (by omega) (by omega) (by rw [tuB_s e_p, ← e_z]; first | (rw [if_pos (Or.inr c_69)]; done) | (rw [if_neg (fun h => h.elim (fun g => by omega) (fun g => Int.not_lt.mpr c_69 g))]; done)) (by omega) hP hD hS (lv_sub hl [2, 3, 4, 5, 6, 0] rfl)
                · refine lv_iload hx hb dX2_tune_72 (lv_at hl 0 rfl) ?_
                  refine lv_istore (lv' := [(4, .int (zI (A_ofp (upI σ (1 + q) z)))), (6, .int (zI (A_ofp (upI σ (1 + q) z)))), (0, .ref x0), (1, .int (zI (q))), (2, .int (zI (v))), (3, .int (zI (b))), (5, .int (zI (z)))]) hx hb dX2_tune_74 hl (by decide) rfl (fun ls hl => ?_)
                  refine lv_iload hx hb dX2_tune_76 (lv_at hl 6 rfl) ?_
                  refine lv_istore_n (lv' := [(3, .int (zI (z))), (4, .int (zI (A_ofp (upI σ (1 + q) z)))), (6, .int (zI (A_ofp (upI σ (1 + q) z)))), (0, .ref x0), (1, .int (zI (q))), (2, .int (zI (v))), (5, .int (zI (z)))]) hx hb dX2_tune_78 rfl hl (by decide) rfl (fun ls hl => ?_)
                  refine lv_iinc (v := zI (z + 5)) (lv' := [(5, .int (zI (z + 5))), (3, .int (zI (z))), (4, .int (zI (A_ofp (upI σ (1 + q) z)))), (6, .int (zI (A_ofp (upI σ (1 + q) z)))), (0, .ref x0), (1, .int (zI (q))), (2, .int (zI (v)))]) hx hb dX2_tune_79 hl (k := 6) rfl (zI_add _ _) (by decide) rfl (fun ls hl => ?_)
                  refine lv_goto (tgt := 48) hx hb dX2_tune_82 (by decide) ?_
                  exact ih_a (k + 1) (z + 5) (z) (A_ofp (upI σ (1 + q) z)) (u2.1) (u2.2) _ _ _ (by omega) (by omega) (by omega) (by omega) (by rw [tuB_s e_p, ← e_z]; first | (rw [if_pos (Or.inr c_69)]; done) | (rw [if_neg (fun h => h.elim (fun g => by omega) (fun g => Int.not_lt.mpr c_69 g))]; done)) (by omega) hP hD hS (lv_sub hl [4, 5, 6, 1, 2, 0] rfl)
          exact loop_a 90 (1) (5) (0) (A_ofp (upI σ (1 + q) 0)) (u1.1) (u1.2) _ _ _ (by omega) (by omega) (by omega) (by omega) (by rw [tuB_s (b := -6) (t := 0) rfl, if_pos (Or.inl (by omega))]; rfl) (by omega) hP hD hS (lv_sub hl [3, 4, 5, 2, 1, 0] rfl)
        · refine lv_bipush (v := zI (-3)) hx hb dX2_tune_32 (by decide +kernel) ?_
          exact hret _ _ _ _ _ (g3, g4) dX2_tune_34 (by unfold A_tune; rw [if_pos c_4, if_pos (by omega), if_pos c_29]) hP hS
      · refine lv_bipush (v := zI (-2)) hx hb dX2_tune_18 (by decide +kernel) ?_
        exact hret _ _ _ _ _ (g3, g4) dX2_tune_20 (by unfold A_tune; rw [if_pos c_4, if_neg (by omega)]) hP hS
  · refine lv_iconst (v := zI (-1)) hx hb dX2_tune_7 rfl ?_
    exact hret _ _ _ _ _ (g3, g4) dX2_tune_8 (by unfold A_tune; rw [if_neg c_4]) hP hS
