abbrev rmX2_least : Room := { frames := 6, cells := 0, slots := 0, locals := 142 }
theorem in_X2_least_X2 : ∀ w ∈ wsX20, w ∈ wsX2_least := fun _ h => List.mem_cons_of_mem _ (List.mem_append_left _ (List.mem_append_left _ (List.mem_append_right _ h)))
theorem m_X2_least_0 : (.fieldLink RX2 12 "BrassWays" "now" "LBrassWays$Setup;" : Cond) ∈ wsX2_least := List.mem_of_getElem? (i := 1) rfl
theorem in_X2_least_X1 : ∀ w ∈ wsX10, w ∈ wsX2_least := fun _ h => List.mem_cons_of_mem _ (List.mem_append_left _ (List.mem_append_right _ h))
theorem m_X2_least_1 : (.fieldLink RX2 87 "BrassWays$Setup" "size" "I" : Cond) ∈ wsX2_least := List.mem_of_getElem? (i := 2) rfl
theorem m_X2_least_2 : (.fieldLink RX2 27 "BrassWays" "planner" "LBrassWays$Planner;" : Cond) ∈ wsX2_least := List.mem_of_getElem? (i := 3) rfl
set_option maxHeartbeats 4000000 in
set_option maxRecDepth 100000 in
theorem c_X2_least (l : Launch) (D : va_G) (cI cJ cZ cO : ClassId) (sz : Nat) (x0 : Nat) (s0 : Nat) (b1 : Nat) (b2 : Nat) (b3 : Nat) (im : Nat) (p0 : Nat) (r1 : Nat) (r2 : Nat) (r3 : Nat) (r4 : Nat) (σ : Int → Int) (gk : Int → Int) (p1 : Nat) (p2 : Nat) (p3 : Nat) (p4 : Nat) (p5 : Nat) (ps : Int) (gf : Int → Int) (gW : Int → Int) (gb : Int → Int) (go : Int → Int) (gt : Int → Int64) (i : Int) (h_i : -2147483648 ≤ i ∧ i < 2147483648) (hO : Ok σ) : Met l yX2_least wsX2_least rmX2_least (zPc D cI cJ cZ cO [(x0, .inr (2, [.ref s0, .ref im, .int (zI (gk 0 + 2 * gk 1)), .ref p0, .ref r1, .ref r2, .ref r3, .ref r4])), (s0, .inr (1, [.int (zI (σ 0)), .ref b1, .ref b2, .ref b3, .int (zI (σ 9))])), (b1, .inl (cI, 3, .inl (zF (fun j => σ (1 + j))))), (b2, .inl (cI, 5, .inl (zF (fun j => σ (4 + j))))), (b3, .inl (cI, 12, .inl (zF (fun j => σ (10 + j))))), (p0, .inr (0, [.int (zI (ps)), .ref p1, .ref p2, .ref p3, .ref p4, .ref p5])), (p1, .inl (cI, 12, .inl (zF (gf)))), (p2, .inl (cI, 96, .inl (zF (gW)))), (p3, .inl (cI, 96, .inl (zF (gb)))), (p4, .inl (cI, 96, .inl (zF (go)))), (p5, .inl (cJ, 96, .inr (.inl (zL (gt)))))] sz [.ref x0, .int (zI (i))]) (zQi D (fun (r : Int32) (_ : Int × (Int → Int) × (Int → Int) × (Int → Int) × (Int → Int) × (Int → Int64)) => r = zI (A_least σ i)) (fun (u : Int × (Int → Int) × (Int → Int) × (Int → Int) × (Int → Int) × (Int → Int64)) => [(x0, .inr (2, [.ref s0, .ref im, .int (zI (gk 0 + 2 * gk 1)), .ref p0, .ref r1, .ref r2, .ref r3, .ref r4])), (s0, .inr (1, [.int (zI (σ 0)), .ref b1, .ref b2, .ref b3, .int (zI (σ 9))])), (b1, .inl (cI, 3, .inl (zF (fun j => σ (1 + j))))), (b2, .inl (cI, 5, .inl (zF (fun j => σ (4 + j))))), (b3, .inl (cI, 12, .inl (zF (fun j => σ (10 + j))))), (p0, .inr (0, [.int (zI (u.1)), .ref p1, .ref p2, .ref p3, .ref p4, .ref p5])), (p1, .inl (cI, 12, .inl (zF (u.2.1)))), (p2, .inl (cI, 96, .inl (zF (u.2.2.1)))), (p3, .inl (cI, 96, .inl (zF (u.2.2.2.1)))), (p4, .inl (cI, 96, .inl (zF (u.2.2.2.2.1)))), (p5, .inl (cJ, 96, .inr (.inl (zL (u.2.2.2.2.2)))))]) [(x0, .inr (2, [.ref s0, .ref im, .int (zI (gk 0 + 2 * gk 1)), .ref p0, .ref r1, .ref r2, .ref r3, .ref r4])), (s0, .inr (1, [.int (zI (σ 0)), .ref b1, .ref b2, .ref b3, .int (zI (σ 9))])), (b1, .inl (cI, 3, .inl (zF (fun j => σ (1 + j))))), (b2, .inl (cI, 5, .inl (zF (fun j => σ (4 + j))))), (b3, .inl (cI, 12, .inl (zF (fun j => σ (10 + j))))), (p0, .inr (0, [.int (zI (ps)), .ref p1, .ref p2, .ref p3, .ref p4, .ref p5])), (p1, .inl (cI, 12, .inl (zF (gf)))), (p2, .inl (cI, 96, .inl (zF (gW)))), (p3, .inl (cI, 96, .inl (zF (gb)))), (p4, .inl (cI, 96, .inl (zF (go)))), (p5, .inl (cJ, 96, .inr (.inl (zL (gt)))))] sz) 0 0 (va_A [(x0, .inr (2, [.ref s0, .ref im, .int (zI (gk 0 + 2 * gk 1)), .ref p0, .ref r1, .ref r2, .ref r3, .ref r4])), (s0, .inr (1, [.int (zI (σ 0)), .ref b1, .ref b2, .ref b3, .int (zI (σ 9))])), (b1, .inl (cI, 3, .inl (zF (fun j => σ (1 + j))))), (b2, .inl (cI, 5, .inl (zF (fun j => σ (4 + j))))), (b3, .inl (cI, 12, .inl (zF (fun j => σ (10 + j))))), (p0, .inr (0, [.int (zI (ps)), .ref p1, .ref p2, .ref p3, .ref p4, .ref p5])), (p1, .inl (cI, 12, .inl (zF (gf)))), (p2, .inl (cI, 96, .inl (zF (gW)))), (p3, .inl (cI, 96, .inl (zF (gb)))), (p4, .inl (cI, 96, .inl (zF (go)))), (p5, .inl (cJ, 96, .inr (.inl (zL (gt)))))] sz) := by
  refine z_meti (by decide) rfl (Nat.le_of_ble_eq_true rfl) ?_
  intro p e s m args below meth c A Q ls hx hb hml hown hts hA hS hP hD hK hZ hl hret
  have hl : lv_has ls 2 [(0, .ref x0), (1, .int (zI (i)))] := hl
  have o9 := hO.2.2.2.2.2.2.2.2.2.1
  have hLb := LEAST_in hO
  refine lv_iload_n hx hb dX2_least_0 rfl (lv_at hl 1 rfl) ?_
  refine lv_iconst (v := zI (-1)) hx hb dX2_least_1 rfl ?_
  refine z_icmp_ge (a := i) (b := -1) (tgt := 8) hx hb (by omega) dX2_least_2 (by decide) (fun c_2 => ?_) (fun c_2 => ?_)
  · refine lv_iload_n hx hb dX2_least_8 rfl (lv_at hl 1 rfl) ?_
    refine lv_aload_n hx hb dX2_least_9 rfl (lv_at hl 0 rfl) ?_
    refine va_get (D := D) (ci := 2) (v := .ref s0) (C := RX2) (T := TX2) (N := 8) hx hb hts in_X2_least_X2 hown hK hP 0 rfl rfl 0 (by decide) (hts _ m_X2_least_0) (fun _ h9 => h9) rfl dX2_least_10 ?_
    refine va_get (D := D) (ci := 1) (v := .int (zI (σ 9))) (C := RX1) (T := TX1) (N := 5) hx hb hts in_X2_least_X1 hown hK hP 1 rfl rfl 4 (by decide) (hts _ m_X2_least_1) (fun _ h9 => h9) rfl dX2_least_13 ?_
    refine z_icmp_lt (a := i) (b := σ 9) (tgt := 22) hx hb (by omega) dX2_least_16 (by decide) (fun c_16 => ?_) (fun c_16 => ?_)
    · refine lv_aload_n hx hb dX2_least_22 rfl (lv_at hl 0 rfl) ?_
      refine va_get (D := D) (ci := 2) (v := .ref p0) (C := RX2) (T := TX2) (N := 8) hx hb hts in_X2_least_X2 hown hK hP 0 rfl rfl 3 (by decide) (hts _ m_X2_least_2) (fun _ h9 => h9) rfl dX2_least_23 ?_
      refine lv_aload_n hx hb dX2_least_26 rfl (lv_at hl 0 rfl) ?_
      refine va_get (D := D) (ci := 2) (v := .ref s0) (C := RX2) (T := TX2) (N := 8) hx hb hts in_X2_least_X2 hown hK hP 0 rfl rfl 0 (by decide) (hts _ m_X2_least_0) (fun _ h9 => h9) rfl dX2_least_27 ?_
      refine z_Vvw (As := [.ref s0]) (rest := []) hx hb hml hown hts hA hS hP hD hK hZ hl.1 (c_X0_workOut l D cI cJ cZ cO _ (p0) (p1) (p2) (p3) (p4) (p5) (ps) (gf) (gW) (gb) (go) (gt) (s0) (b1) (b2) (b3) (σ) hO) (cwV 1 hts gX2_least_X0_workOut rfl rfl rfl (by decide +kernel) ⟨Nat.le_of_ble_eq_true rfl, Nat.le_of_ble_eq_true rfl⟩) [5, 6, 7, 8, 9, 10, 1, 2, 3, 4] rfl rfl (fun _ => rfl) 5 0 rfl rfl rfl rfl (Nat.le_of_ble_eq_true rfl) ⟨Nat.zero_le _, Nat.zero_le _⟩ dX2_least_30 (fun u1 H locs hw hP hD hS => ?_)
      have hP : va_P D vwCl [(x0, .inr (2, [.ref s0, .ref im, .int (zI (gk 0 + 2 * gk 1)), .ref p0, .ref r1, .ref r2, .ref r3, .ref r4])), (s0, .inr (1, [.int (zI (σ 0)), .ref b1, .ref b2, .ref b3, .int (zI (σ 9))])), (b1, .inl (cI, 3, .inl (zF (fun j => σ (1 + j))))), (b2, .inl (cI, 5, .inl (zF (fun j => σ (4 + j))))), (b3, .inl (cI, 12, .inl (zF (fun j => σ (10 + j))))), (p0, .inr (0, [.int (zI (σ 9)), .ref p1, .ref p2, .ref p3, .ref p4, .ref p5])), (p1, .inl (cI, 12, .inl (zF (u1.1)))), (p2, .inl (cI, 96, .inl (zF (u1.2.1)))), (p3, .inl (cI, 96, .inl (zF (u1.2.2.1)))), (p4, .inl (cI, 96, .inl (zF (u1.2.2.2.1)))), (p5, .inl (cJ, 96, .inr (.inl (zL (u1.2.2.2.2)))))] H := hP
      have hD : va_D A [(x0, .inr (2, [.ref s0, .ref im, .int (zI (gk 0 + 2 * gk 1)), .ref p0, .ref r1, .ref r2, .ref r3, .ref r4])), (s0, .inr (1, [.int (zI (σ 0)), .ref b1, .ref b2, .ref b3, .int (zI (σ 9))])), (b1, .inl (cI, 3, .inl (zF (fun j => σ (1 + j))))), (b2, .inl (cI, 5, .inl (zF (fun j => σ (4 + j))))), (b3, .inl (cI, 12, .inl (zF (fun j => σ (10 + j))))), (p0, .inr (0, [.int (zI (σ 9)), .ref p1, .ref p2, .ref p3, .ref p4, .ref p5])), (p1, .inl (cI, 12, .inl (zF (u1.1)))), (p2, .inl (cI, 96, .inl (zF (u1.2.1)))), (p3, .inl (cI, 96, .inl (zF (u1.2.2.1)))), (p4, .inl (cI, 96, .inl (zF (u1.2.2.2.1)))), (p5, .inl (cJ, 96, .inr (.inl (zL (u1.2.2.2.2)))))] := hD
      obtain ⟨w1, w2⟩ := hw
      have hall := wo_all hO w1 w2
      have hpm := pm_PR w1 (by omega)
      have hf8 : ∀ i : Int, 0 ≤ i → i < σ 9 → 0 ≤ u1.1 i ∧ u1.1 i ≤ 8 := fun i h0 h1 => (hall i h0 h1).1
      have hf0 : σ 9 ≠ 0 → 0 ≤ u1.1 0 ∧ u1.1 0 ≤ 8 := fun h => hf8 0 (by omega) (by omega)
      have hg0 : σ 9 ≠ 0 → ∀ i : Int, 0 ≤ i → i < u1.1 0 → 0 ≤ u1.2.2.2.1 i ∧ u1.2.2.2.1 i ≤ 1100000 := fun h i h0 h1 => by have g := ((hall 0 (by omega) (by omega)).2 i h0 h1).2.1; rw [show 8 * (0 : Int) + i = i by omega] at g; exact g
      refine lv_aload_n hx hb dX2_least_33 rfl (lv_at hl 0 rfl) ?_
      refine va_get (D := D) (ci := 2) (v := .ref p0) (C := RX2) (T := TX2) (N := 8) hx hb hts in_X2_least_X2 hown hK hP 0 rfl rfl 3 (by decide) (hts _ m_X2_least_2) (fun _ h9 => h9) rfl dX2_least_34 ?_
      refine z_Vir (As := []) (rest := []) hx hb hml hown hts hA hS hP hD hK hZ hl.1 (c_X0_hasPlan l D cI cJ cZ cO _ (p0) (p1) (p2) (p3) (p4) (p5) (σ 9) (u1.1) (by omega) hf8) (cwV 0 hts gX2_least_X0_hasPlan rfl rfl rfl (by decide +kernel) ⟨Nat.le_of_ble_eq_true rfl, Nat.le_of_ble_eq_true rfl⟩) [5, 6] rfl rfl 5 0 rfl rfl rfl rfl (Nat.le_of_ble_eq_true rfl) ⟨Nat.zero_le _, Nat.zero_le _⟩ dX2_least_37 (fun r u H locs hw hP hS => ?_)
      subst hw
      refine z_ifB_ne (P := 0 < pmI u1.1 (σ 9).toNat) (tgt := 46) hx hb dX2_least_40 (by decide) (fun c_40 => ?_) (fun c_40 => ?_)
      · rw [hpm] at c_40
        obtain ⟨hL1, hL2⟩ := LEAST_yes hO w1 w2 c_40
        refine lv_iload_n hx hb dX2_least_46 rfl (lv_at hl 1 rfl) ?_
        refine lv_iconst (v := zI (-1)) hx hb dX2_least_47 rfl ?_
        refine z_icmp_ne (a := i) (b := -1) (tgt := 61) hx hb (by omega) dX2_least_48 (by decide) (fun c_48 => ?_) (fun c_48 => ?_)
        · obtain ⟨kx, x1, x2, x3, x4⟩ := LM_ok hO w1 w2 c_40 i.toNat (by omega)
          have hcx := cnt_lt (q := fun w => sd σ w (σ (10 + ((i.toNat : Nat) : Int)))) x1 x2
          have hc0 := (cnt_in (fun w => sd σ w (σ (10 + ((i.toNat : Nat) : Int)))) kx).1
          have hc8 := cnt8 hO (σ (10 + ((i.toNat : Nat) : Int))) 64
          have hWi := (w1 ((i.toNat : Nat) : Int) (by omega) (by omega)).2 _ hc0 hcx
          rw [nw_at x1 x2, ← x4, show ((i.toNat : Nat) : Int) = i by omega] at hWi
          refine lv_aload_n hx hb dX2_least_61 rfl (lv_at hl 0 rfl) ?_
          refine va_get (D := D) (ci := 2) (v := .ref p0) (C := RX2) (T := TX2) (N := 8) hx hb hts in_X2_least_X2 hown hK hP 0 rfl rfl 3 (by decide) (hts _ m_X2_least_2) (fun _ h9 => h9) rfl dX2_least_62 ?_
          refine lv_aload_n hx hb dX2_least_65 rfl (lv_at hl 0 rfl) ?_
          refine va_get (D := D) (ci := 2) (v := .ref s0) (C := RX2) (T := TX2) (N := 8) hx hb hts in_X2_least_X2 hown hK hP 0 rfl rfl 0 (by decide) (hts _ m_X2_least_0) (fun _ h9 => h9) rfl dX2_least_66 ?_
          refine lv_iload_n hx hb dX2_least_69 rfl (lv_at hl 1 rfl) ?_
          refine z_Vir (As := [.ref s0, .int (zI (i))]) (rest := []) hx hb hml hown hts hA hS hP hD hK hZ hl.1 (c_X0_leastWayAt l D cI cJ cZ cO _ (p0) (p1) (p2) (p3) (p4) (p5) (σ 9) (u1.1) (u1.2.1) (u1.2.2.1) (u1.2.2.2.1) (s0) (b1) (b2) (b3) (σ) (i) rfl (by omega) hall (by rw [x4]; omega) hO) (cwV 2 hts gX2_least_X0_leastWayAt rfl rfl rfl (by decide +kernel) ⟨Nat.le_of_ble_eq_true rfl, Nat.le_of_ble_eq_true rfl⟩) [5, 6, 7, 8, 9, 1, 2, 3, 4] rfl rfl 5 0 rfl rfl rfl rfl (Nat.le_of_ble_eq_true rfl) ⟨Nat.zero_le _, Nat.zero_le _⟩ dX2_least_70 (fun r u H locs hw hP hS => ?_)
          subst hw
          exact hret _ _ _ _ _ (σ 9, u1.1, u1.2.1, u1.2.2.1, u1.2.2.2.1, u1.2.2.2.2) dX2_least_73 (by unfold A_least; first | (rw [if_neg (by omega), if_pos c_48, hL1]; done) | (rw [if_neg (by omega), if_neg c_48, if_neg (by omega), hWi, ← x3]; done)) hP hS
        · refine lv_aload_n hx hb dX2_least_51 rfl (lv_at hl 0 rfl) ?_
          refine va_get (D := D) (ci := 2) (v := .ref p0) (C := RX2) (T := TX2) (N := 8) hx hb hts in_X2_least_X2 hown hK hP 0 rfl rfl 3 (by decide) (hts _ m_X2_least_2) (fun _ h9 => h9) rfl dX2_least_52 ?_
          refine z_Vir (As := []) (rest := []) hx hb hml hown hts hA hS hP hD hK hZ hl.1 (c_X0_leastCost l D cI cJ cZ cO _ (p0) (p1) (p2) (p3) (p4) (p5) (σ 9) (u1.1) (u1.2.2.2.1) (by omega) hf0 hg0) (cwV 0 hts gX2_least_X0_leastCost rfl rfl rfl (by decide +kernel) ⟨Nat.le_of_ble_eq_true rfl, Nat.le_of_ble_eq_true rfl⟩) [5, 6, 9] rfl rfl 5 0 rfl rfl rfl rfl (Nat.le_of_ble_eq_true rfl) ⟨Nat.zero_le _, Nat.zero_le _⟩ dX2_least_55 (fun r u H locs hw hP hS => ?_)
          subst hw
          refine lv_goto (tgt := 73) hx hb dX2_least_58 (by decide) ?_
          exact hret _ _ _ _ _ (σ 9, u1.1, u1.2.1, u1.2.2.1, u1.2.2.2.1, u1.2.2.2.2) dX2_least_73 (by unfold A_least; first | (rw [if_neg (by omega), if_pos c_48, hL1]; done) | (rw [if_neg (by omega), if_neg c_48, if_neg (by omega), hWi, ← x3]; done)) hP hS
      · rw [hpm] at c_40
        obtain ⟨hL1, hL2⟩ := LEAST_no hO c_40
        refine lv_bipush (v := zI (-6)) hx hb dX2_least_43 (by decide +kernel) ?_
        exact hret _ _ _ _ _ (σ 9, u1.1, u1.2.1, u1.2.2.1, u1.2.2.2.1, u1.2.2.2.2) dX2_least_45 (by unfold A_least; rw [if_neg (by omega)]; first | (rw [if_neg (show ¬ i = -1 by omega), if_pos (Or.inl (by omega))]; done) | (by_cases hi1 : i = -1; (rw [if_pos hi1, hL1]); (rw [if_neg hi1, if_pos (Or.inl (by omega))]))) hP hS
    · refine lv_bipush (v := zI (-6)) hx hb dX2_least_19 (by decide +kernel) ?_
      exact hret _ _ _ _ _ (ps, gf, gW, gb, go, gt) dX2_least_21 (by unfold A_least; rw [if_neg (by omega), if_neg (by omega), if_pos (Or.inr (by omega))]) hP hS
  · refine lv_bipush (v := zI (-2)) hx hb dX2_least_5 (by decide +kernel) ?_
    exact hret _ _ _ _ _ (ps, gf, gW, gb, go, gt) dX2_least_7 (by unfold A_least; rw [if_pos (by omega)]) hP hS
abbrev rmX2_plans : Room := { frames := 6, cells := 0, slots := 0, locals := 142 }
theorem m_X2_plans_0 : (.constantLong RX2 115 (-2) : Cond) ∈ wsX2_plans := List.mem_of_getElem? (i := 1) rfl
theorem in_X2_plans_X2 : ∀ w ∈ wsX20, w ∈ wsX2_plans := fun _ h => List.mem_cons_of_mem _ (List.mem_append_left _ (List.mem_append_left _ (List.mem_append_right _ h)))
theorem m_X2_plans_1 : (.fieldLink RX2 27 "BrassWays" "planner" "LBrassWays$Planner;" : Cond) ∈ wsX2_plans := List.mem_of_getElem? (i := 2) rfl
theorem m_X2_plans_2 : (.fieldLink RX2 12 "BrassWays" "now" "LBrassWays$Setup;" : Cond) ∈ wsX2_plans := List.mem_of_getElem? (i := 3) rfl
theorem m_X2_plans_3 : (.constantLong RX2 127 (-6) : Cond) ∈ wsX2_plans := List.mem_of_getElem? (i := 4) rfl
set_option maxHeartbeats 4000000 in
set_option maxRecDepth 100000 in
theorem c_X2_plans (l : Launch) (D : va_G) (cI cJ cZ cO : ClassId) (sz : Nat) (x0 : Nat) (s0 : Nat) (b1 : Nat) (b2 : Nat) (b3 : Nat) (im : Nat) (p0 : Nat) (r1 : Nat) (r2 : Nat) (r3 : Nat) (r4 : Nat) (σ : Int → Int) (gk : Int → Int) (p1 : Nat) (p2 : Nat) (p3 : Nat) (p4 : Nat) (p5 : Nat) (ps : Int) (gf : Int → Int) (gW : Int → Int) (gb : Int → Int) (go : Int → Int) (gt : Int → Int64) (q : Int) (h_q : -2147483648 ≤ q ∧ q < 2147483648) (hO : Ok σ) : Met l yX2_plans wsX2_plans rmX2_plans (zPc D cI cJ cZ cO [(x0, .inr (2, [.ref s0, .ref im, .int (zI (gk 0 + 2 * gk 1)), .ref p0, .ref r1, .ref r2, .ref r3, .ref r4])), (s0, .inr (1, [.int (zI (σ 0)), .ref b1, .ref b2, .ref b3, .int (zI (σ 9))])), (b1, .inl (cI, 3, .inl (zF (fun j => σ (1 + j))))), (b2, .inl (cI, 5, .inl (zF (fun j => σ (4 + j))))), (b3, .inl (cI, 12, .inl (zF (fun j => σ (10 + j))))), (p0, .inr (0, [.int (zI (ps)), .ref p1, .ref p2, .ref p3, .ref p4, .ref p5])), (p1, .inl (cI, 12, .inl (zF (gf)))), (p2, .inl (cI, 96, .inl (zF (gW)))), (p3, .inl (cI, 96, .inl (zF (gb)))), (p4, .inl (cI, 96, .inl (zF (go)))), (p5, .inl (cJ, 96, .inr (.inl (zL (gt)))))] sz [.ref x0, .int (zI (q))]) (zQl D (fun (r : Int64) (_ : Int × (Int → Int) × (Int → Int) × (Int → Int) × (Int → Int) × (Int → Int64)) => r = A_plans σ q) (fun (u : Int × (Int → Int) × (Int → Int) × (Int → Int) × (Int → Int) × (Int → Int64)) => [(x0, .inr (2, [.ref s0, .ref im, .int (zI (gk 0 + 2 * gk 1)), .ref p0, .ref r1, .ref r2, .ref r3, .ref r4])), (s0, .inr (1, [.int (zI (σ 0)), .ref b1, .ref b2, .ref b3, .int (zI (σ 9))])), (b1, .inl (cI, 3, .inl (zF (fun j => σ (1 + j))))), (b2, .inl (cI, 5, .inl (zF (fun j => σ (4 + j))))), (b3, .inl (cI, 12, .inl (zF (fun j => σ (10 + j))))), (p0, .inr (0, [.int (zI (u.1)), .ref p1, .ref p2, .ref p3, .ref p4, .ref p5])), (p1, .inl (cI, 12, .inl (zF (u.2.1)))), (p2, .inl (cI, 96, .inl (zF (u.2.2.1)))), (p3, .inl (cI, 96, .inl (zF (u.2.2.2.1)))), (p4, .inl (cI, 96, .inl (zF (u.2.2.2.2.1)))), (p5, .inl (cJ, 96, .inr (.inl (zL (u.2.2.2.2.2)))))]) [(x0, .inr (2, [.ref s0, .ref im, .int (zI (gk 0 + 2 * gk 1)), .ref p0, .ref r1, .ref r2, .ref r3, .ref r4])), (s0, .inr (1, [.int (zI (σ 0)), .ref b1, .ref b2, .ref b3, .int (zI (σ 9))])), (b1, .inl (cI, 3, .inl (zF (fun j => σ (1 + j))))), (b2, .inl (cI, 5, .inl (zF (fun j => σ (4 + j))))), (b3, .inl (cI, 12, .inl (zF (fun j => σ (10 + j))))), (p0, .inr (0, [.int (zI (ps)), .ref p1, .ref p2, .ref p3, .ref p4, .ref p5])), (p1, .inl (cI, 12, .inl (zF (gf)))), (p2, .inl (cI, 96, .inl (zF (gW)))), (p3, .inl (cI, 96, .inl (zF (gb)))), (p4, .inl (cI, 96, .inl (zF (go)))), (p5, .inl (cJ, 96, .inr (.inl (zL (gt)))))] sz) 0 0 (va_A [(x0, .inr (2, [.ref s0, .ref im, .int (zI (gk 0 + 2 * gk 1)), .ref p0, .ref r1, .ref r2, .ref r3, .ref r4])), (s0, .inr (1, [.int (zI (σ 0)), .ref b1, .ref b2, .ref b3, .int (zI (σ 9))])), (b1, .inl (cI, 3, .inl (zF (fun j => σ (1 + j))))), (b2, .inl (cI, 5, .inl (zF (fun j => σ (4 + j))))), (b3, .inl (cI, 12, .inl (zF (fun j => σ (10 + j))))), (p0, .inr (0, [.int (zI (ps)), .ref p1, .ref p2, .ref p3, .ref p4, .ref p5])), (p1, .inl (cI, 12, .inl (zF (gf)))), (p2, .inl (cI, 96, .inl (zF (gW)))), (p3, .inl (cI, 96, .inl (zF (gb)))), (p4, .inl (cI, 96, .inl (zF (go)))), (p5, .inl (cJ, 96, .inr (.inl (zL (gt)))))] sz) := by
  refine z_metl (by decide) rfl (Nat.le_of_ble_eq_true rfl) ?_
  intro p e s m args below meth c A Q ls hx hb hml hown hts hA hS hP hD hK hZ hl hret
  have hl : lv_has ls 3 [(0, .ref x0), (1, .int (zI (q)))] := hl
  have o9 := hO.2.2.2.2.2.2.2.2.2.1
  have hLb := LEAST_in hO
  refine lv_iload_n hx hb dX2_plans_0 rfl (lv_at hl 1 rfl) ?_
  refine z_if_lt (a := q) (tgt := 21) hx hb (by omega) dX2_plans_1 (by decide) (fun c_1 => ?_) (fun c_1 => ?_)
  · refine lv_ldc2 hx hb hown (hts _ m_X2_plans_0) dX2_plans_21 ?_
    exact hret _ _ _ _ _ (ps, gf, gW, gb, go, gt) dX2_plans_24 (by unfold A_plans; rw [if_neg (by omega), if_neg (by omega)]) hP hS
  · refine lv_iload_n hx hb dX2_plans_4 rfl (lv_at hl 1 rfl) ?_
    refine lv_iconst (v := zI (1)) hx hb dX2_plans_5 rfl ?_
    refine z_icmp_le (a := q) (b := 1) (tgt := 15) hx hb (by omega) dX2_plans_6 (by decide) (fun c_6 => ?_) (fun c_6 => ?_)
    · refine lv_iload_n hx hb dX2_plans_15 rfl (lv_at hl 1 rfl) ?_
      refine lv_bipush (v := zI (22)) hx hb dX2_plans_16 (by decide +kernel) ?_
      refine z_icmp_lt (a := q) (b := 22) (tgt := 25) hx hb (by omega) dX2_plans_18 (by decide) (fun c_18 => ?_) (fun c_18 => ?_)
      · refine lv_aload_n hx hb dX2_plans_25 rfl (lv_at hl 0 rfl) ?_
        refine va_get (D := D) (ci := 2) (v := .ref p0) (C := RX2) (T := TX2) (N := 8) hx hb hts in_X2_plans_X2 hown hK hP 0 rfl rfl 3 (by decide) (hts _ m_X2_plans_1) (fun _ h9 => h9) rfl dX2_plans_26 ?_
        refine lv_aload_n hx hb dX2_plans_29 rfl (lv_at hl 0 rfl) ?_
        refine va_get (D := D) (ci := 2) (v := .ref s0) (C := RX2) (T := TX2) (N := 8) hx hb hts in_X2_plans_X2 hown hK hP 0 rfl rfl 0 (by decide) (hts _ m_X2_plans_2) (fun _ h9 => h9) rfl dX2_plans_30 ?_
        refine z_Vvw (As := [.ref s0]) (rest := []) hx hb hml hown hts hA hS hP hD hK hZ hl.1 (c_X0_workOut l D cI cJ cZ cO _ (p0) (p1) (p2) (p3) (p4) (p5) (ps) (gf) (gW) (gb) (go) (gt) (s0) (b1) (b2) (b3) (σ) hO) (cwV 1 hts gX2_plans_X0_workOut rfl rfl rfl (by decide +kernel) ⟨Nat.le_of_ble_eq_true rfl, Nat.le_of_ble_eq_true rfl⟩) [5, 6, 7, 8, 9, 10, 1, 2, 3, 4] rfl rfl (fun _ => rfl) 5 0 rfl rfl rfl rfl (Nat.le_of_ble_eq_true rfl) ⟨Nat.zero_le _, Nat.zero_le _⟩ dX2_plans_33 (fun u1 H locs hw hP hD hS => ?_)
        have hP : va_P D vwCl [(x0, .inr (2, [.ref s0, .ref im, .int (zI (gk 0 + 2 * gk 1)), .ref p0, .ref r1, .ref r2, .ref r3, .ref r4])), (s0, .inr (1, [.int (zI (σ 0)), .ref b1, .ref b2, .ref b3, .int (zI (σ 9))])), (b1, .inl (cI, 3, .inl (zF (fun j => σ (1 + j))))), (b2, .inl (cI, 5, .inl (zF (fun j => σ (4 + j))))), (b3, .inl (cI, 12, .inl (zF (fun j => σ (10 + j))))), (p0, .inr (0, [.int (zI (σ 9)), .ref p1, .ref p2, .ref p3, .ref p4, .ref p5])), (p1, .inl (cI, 12, .inl (zF (u1.1)))), (p2, .inl (cI, 96, .inl (zF (u1.2.1)))), (p3, .inl (cI, 96, .inl (zF (u1.2.2.1)))), (p4, .inl (cI, 96, .inl (zF (u1.2.2.2.1)))), (p5, .inl (cJ, 96, .inr (.inl (zL (u1.2.2.2.2)))))] H := hP
        have hD : va_D A [(x0, .inr (2, [.ref s0, .ref im, .int (zI (gk 0 + 2 * gk 1)), .ref p0, .ref r1, .ref r2, .ref r3, .ref r4])), (s0, .inr (1, [.int (zI (σ 0)), .ref b1, .ref b2, .ref b3, .int (zI (σ 9))])), (b1, .inl (cI, 3, .inl (zF (fun j => σ (1 + j))))), (b2, .inl (cI, 5, .inl (zF (fun j => σ (4 + j))))), (b3, .inl (cI, 12, .inl (zF (fun j => σ (10 + j))))), (p0, .inr (0, [.int (zI (σ 9)), .ref p1, .ref p2, .ref p3, .ref p4, .ref p5])), (p1, .inl (cI, 12, .inl (zF (u1.1)))), (p2, .inl (cI, 96, .inl (zF (u1.2.1)))), (p3, .inl (cI, 96, .inl (zF (u1.2.2.1)))), (p4, .inl (cI, 96, .inl (zF (u1.2.2.2.1)))), (p5, .inl (cJ, 96, .inr (.inl (zL (u1.2.2.2.2)))))] := hD
        obtain ⟨w1, w2⟩ := hw
        have hall := wo_all hO w1 w2
        have hpm := pm_PR w1 (by omega)
        have hf8 : ∀ i : Int, 0 ≤ i → i < σ 9 → 0 ≤ u1.1 i ∧ u1.1 i ≤ 8 := fun i h0 h1 => (hall i h0 h1).1
        have hf0 : σ 9 ≠ 0 → 0 ≤ u1.1 0 ∧ u1.1 0 ≤ 8 := fun h => hf8 0 (by omega) (by omega)
        have hg0 : σ 9 ≠ 0 → ∀ i : Int, 0 ≤ i → i < u1.1 0 → 0 ≤ u1.2.2.2.1 i ∧ u1.2.2.2.1 i ≤ 1100000 := fun h i h0 h1 => by have g := ((hall 0 (by omega) (by omega)).2 i h0 h1).2.1; rw [show 8 * (0 : Int) + i = i by omega] at g; exact g
        refine lv_iload_n hx hb dX2_plans_36 rfl (lv_at hl 1 rfl) ?_
        refine z_if_ne (a := q) (tgt := 48) hx hb (by omega) dX2_plans_37 (by decide) (fun c_37 => ?_) (fun c_37 => ?_)
        · refine lv_iload_n hx hb dX2_plans_48 rfl (lv_at hl 1 rfl) ?_
          refine lv_iconst (v := zI (1)) hx hb dX2_plans_49 rfl ?_
          refine z_icmp_ne (a := q) (b := 1) (tgt := 61) hx hb (by omega) dX2_plans_50 (by decide) (fun c_50 => ?_) (fun c_50 => ?_)
          · refine lv_iload_n hx hb dX2_plans_61 rfl (lv_at hl 1 rfl) ?_
            refine lv_bipush (v := zI (10)) hx hb dX2_plans_62 (by decide +kernel) ?_
            refine z_isub (a := q) (b := 10) hx hb dX2_plans_64 ?_
            refine lv_istore_n (lv' := [(2, .int (zI (q - 10))), (0, .ref x0), (1, .int (zI (q)))]) hx hb dX2_plans_65 rfl hl (by decide) rfl (fun ls hl => ?_)
            refine lv_aload_n hx hb dX2_plans_66 rfl (lv_at hl 1 rfl) ?_
            refine lv_iload_n hx hb dX2_plans_67 rfl (lv_at hl 0 rfl) ?_
            refine z_Vir (As := [.int (zI (q - 10))]) (rest := []) hx hb hml hown hts hA hS hP hD hK hZ hl.1 (c_X2_isPlace l D cI cJ cZ cO _ (x0) (s0) (b1) (b2) (b3) (im) (p0) (r1) (r2) (r3) (r4) (σ) (gk) (q - 10) (by omega) hO) (cwV 1 hts gX2_plans_X2_isPlace rfl rfl rfl (by decide +kernel) ⟨Nat.le_of_ble_eq_true rfl, Nat.le_of_ble_eq_true rfl⟩) [0, 1, 2, 3, 4] rfl rfl 0 2 rfl rfl rfl rfl (Nat.le_of_ble_eq_true rfl) ⟨Nat.zero_le _, Nat.zero_le _⟩ dX2_plans_68 (fun r u H locs hw hP hS => ?_)
            subst hw
            refine z_ifB_eq (P := 0 ≤ (q - 10) ∧ (q - 10) ≤ σ 9 - 1) (tgt := 100) hx hb dX2_plans_71 (by decide) (fun c_71 => ?_) (fun c_71 => ?_)
            · refine lv_ldc2 hx hb hown (hts _ m_X2_plans_3) dX2_plans_100 ?_
              exact hret _ _ _ _ _ (σ 9, u1.1, u1.2.1, u1.2.2.1, u1.2.2.2.1, u1.2.2.2.2) dX2_plans_103 (by unfold A_plans; rw [if_neg (by omega), if_pos (by omega)]; first | (rw [if_neg (show ¬ LEAST σ < 0 by omega), if_pos (by omega)]; done) | (rw [if_pos (show LEAST σ < 0 by omega)]; done) | (by_cases hl : LEAST σ < 0; (rw [if_pos hl]); (rw [if_neg hl, if_neg c_71]))) hP hS
            · refine lv_aload_n hx hb dX2_plans_74 rfl (lv_at hl 1 rfl) ?_
              refine va_get (D := D) (ci := 2) (v := .ref p0) (C := RX2) (T := TX2) (N := 8) hx hb hts in_X2_plans_X2 hown hK hP 0 rfl rfl 3 (by decide) (hts _ m_X2_plans_1) (fun _ h9 => h9) rfl dX2_plans_75 ?_
              refine z_Vir (As := []) (rest := []) hx hb hml hown hts hA hS hP hD hK hZ hl.1 (c_X0_hasPlan l D cI cJ cZ cO _ (p0) (p1) (p2) (p3) (p4) (p5) (σ 9) (u1.1) (by omega) hf8) (cwV 0 hts gX2_plans_X0_hasPlan rfl rfl rfl (by decide +kernel) ⟨Nat.le_of_ble_eq_true rfl, Nat.le_of_ble_eq_true rfl⟩) [5, 6] rfl rfl 5 0 rfl rfl rfl rfl (Nat.le_of_ble_eq_true rfl) ⟨Nat.zero_le _, Nat.zero_le _⟩ dX2_plans_78 (fun r u H locs hw hP hS => ?_)
              subst hw
              refine z_ifB_eq (P := 0 < pmI u1.1 (σ 9).toNat) (tgt := 100) hx hb dX2_plans_81 (by decide) (fun c_81 => ?_) (fun c_81 => ?_)
              · rw [hpm] at c_81
                obtain ⟨hL1, hL2⟩ := LEAST_no hO c_81
                refine lv_ldc2 hx hb hown (hts _ m_X2_plans_3) dX2_plans_100 ?_
                exact hret _ _ _ _ _ (σ 9, u1.1, u1.2.1, u1.2.2.1, u1.2.2.2.1, u1.2.2.2.2) dX2_plans_103 (by unfold A_plans; rw [if_neg (by omega), if_pos (by omega)]; first | (rw [if_neg (show ¬ LEAST σ < 0 by omega), if_pos (by omega)]; done) | (rw [if_pos (show LEAST σ < 0 by omega)]; done) | (by_cases hl : LEAST σ < 0; (rw [if_pos hl]); (rw [if_neg hl, if_neg c_71]))) hP hS
              · rw [hpm] at c_81
                obtain ⟨hL1, hL2⟩ := LEAST_yes hO w1 w2 c_81
                refine lv_aload_n hx hb dX2_plans_84 rfl (lv_at hl 1 rfl) ?_
                refine va_get (D := D) (ci := 2) (v := .ref p0) (C := RX2) (T := TX2) (N := 8) hx hb hts in_X2_plans_X2 hown hK hP 0 rfl rfl 3 (by decide) (hts _ m_X2_plans_1) (fun _ h9 => h9) rfl dX2_plans_85 ?_
                refine lv_aload_n hx hb dX2_plans_88 rfl (lv_at hl 1 rfl) ?_
                refine va_get (D := D) (ci := 2) (v := .ref s0) (C := RX2) (T := TX2) (N := 8) hx hb hts in_X2_plans_X2 hown hK hP 0 rfl rfl 0 (by decide) (hts _ m_X2_plans_2) (fun _ h9 => h9) rfl dX2_plans_89 ?_
                refine lv_iload_n hx hb dX2_plans_92 rfl (lv_at hl 0 rfl) ?_
                refine z_Vir (As := [.ref s0, .int (zI (q - 10))]) (rest := []) hx hb hml hown hts hA hS hP hD hK hZ hl.1 (c_X0_countWaysAt l D cI cJ cZ cO _ (p0) (p1) (p2) (p3) (p4) (p5) (σ 9) (u1.1) (u1.2.1) (u1.2.2.1) (u1.2.2.2.1) (s0) (b1) (b2) (b3) (σ) (q - 10) rfl (by omega) hall hO) (cwV 2 hts gX2_plans_X0_countWaysAt rfl rfl rfl (by decide +kernel) ⟨Nat.le_of_ble_eq_true rfl, Nat.le_of_ble_eq_true rfl⟩) [5, 6, 7, 8, 9, 1, 2, 3, 4] rfl rfl 5 0 rfl rfl rfl rfl (Nat.le_of_ble_eq_true rfl) ⟨Nat.zero_le _, Nat.zero_le _⟩ dX2_plans_93 (fun r u H locs hw hP hS => ?_)
                subst hw
                refine lv_i2l (v := (zI (cnt (MK σ (σ 9) u1.1 u1.2.1 u1.2.2.1 u1.2.2.2.1 (q - 10).toNat) 8)).toInt64) hx hb dX2_plans_96 rfl ?_
                refine z_topl (y := lW (cntAt σ (q - 10).toNat (LEAST σ))) (by rw [cntAt_eq hO w1 w2 c_81 (by omega)]; exact zI_toL (by have h := cnt_in (fun v => decide (0 ≤ AH σ (q - 10).toNat v) && (decide (0 < WW σ (jP σ (q - 10).toNat) v) && decide (AH σ (q - 10).toNat v + RR σ (jP σ (q - 10).toNat) v = LEAST σ))) 64; unfold cntAt; omega)) ?_
                refine lv_goto (tgt := 103) hx hb dX2_plans_97 (by decide) ?_
                exact hret _ _ _ _ _ (σ 9, u1.1, u1.2.1, u1.2.2.1, u1.2.2.2.1, u1.2.2.2.2) dX2_plans_103 (by unfold A_plans; rw [if_neg (by omega), if_pos (by omega)]; first | (rw [if_neg (show ¬ LEAST σ < 0 by omega), if_pos (by omega)]; done) | (rw [if_pos (show LEAST σ < 0 by omega)]; done) | (by_cases hl : LEAST σ < 0; (rw [if_pos hl]); (rw [if_neg hl, if_neg c_71]))) hP hS
          · refine lv_aload_n hx hb dX2_plans_53 rfl (lv_at hl 0 rfl) ?_
            refine va_get (D := D) (ci := 2) (v := .ref p0) (C := RX2) (T := TX2) (N := 8) hx hb hts in_X2_plans_X2 hown hK hP 0 rfl rfl 3 (by decide) (hts _ m_X2_plans_1) (fun _ h9 => h9) rfl dX2_plans_54 ?_
            refine z_Vlr (As := []) (rest := []) hx hb hml hown hts hA hS hP hD hK hZ hl.1 (c_X0_countLeast l D cI cJ cZ cO _ (p0) (p1) (p2) (p3) (p4) (p5) (σ 9) (u1.1) (u1.2.2.2.1) (u1.2.2.2.2) (by omega) hf8 hg0) (cwV 0 hts gX2_plans_X0_countLeast rfl rfl rfl (by decide +kernel) ⟨Nat.le_of_ble_eq_true rfl, Nat.le_of_ble_eq_true rfl⟩) [5, 6, 9, 10] rfl rfl 5 0 rfl rfl rfl rfl (Nat.le_of_ble_eq_true rfl) ⟨Nat.zero_le _, Nat.zero_le _⟩ dX2_plans_57 (fun r u H locs hw hP hS => ?_)
            subst hw
            exact hret _ _ _ _ _ (σ 9, u1.1, u1.2.1, u1.2.2.1, u1.2.2.2.1, u1.2.2.2.2) dX2_plans_60 (by rw [A_plans_lo (by omega), hpm]; by_cases h9 : σ 9 = 0; (rw [if_pos (Or.inl h9), if_pos h9, h9]; exact lW_1); (rw [if_neg h9]; by_cases hp : 0 < PR σ (σ 9).toNat; (rw [if_neg (fun h => h.elim h9 (fun g => g hp)), plans_1 hO w1 w2 hp h9 _ (fun v => if_neg c_37)]); (rw [if_pos (Or.inr hp)]; exact plans_1n hO hp _))) hP hS
        · refine lv_aload_n hx hb dX2_plans_40 rfl (lv_at hl 0 rfl) ?_
          refine va_get (D := D) (ci := 2) (v := .ref p0) (C := RX2) (T := TX2) (N := 8) hx hb hts in_X2_plans_X2 hown hK hP 0 rfl rfl 3 (by decide) (hts _ m_X2_plans_1) (fun _ h9 => h9) rfl dX2_plans_41 ?_
          refine z_Vlr (As := []) (rest := []) hx hb hml hown hts hA hS hP hD hK hZ hl.1 (c_X0_countAll l D cI cJ cZ cO _ (p0) (p1) (p2) (p3) (p4) (p5) (σ 9) (u1.1) (by omega) hf8) (cwV 0 hts gX2_plans_X0_countAll rfl rfl rfl (by decide +kernel) ⟨Nat.le_of_ble_eq_true rfl, Nat.le_of_ble_eq_true rfl⟩) [5, 6] rfl rfl 5 0 rfl rfl rfl rfl (Nat.le_of_ble_eq_true rfl) ⟨Nat.zero_le _, Nat.zero_le _⟩ dX2_plans_44 (fun r u H locs hw hP hS => ?_)
          subst hw
          exact hret _ _ _ _ _ (σ 9, u1.1, u1.2.1, u1.2.2.1, u1.2.2.2.1, u1.2.2.2.2) dX2_plans_47 (by rw [hpm, A_plans_lo (by omega)]; by_cases h9 : σ 9 = 0; (rw [if_pos h9, h9]; exact lW_1); (rw [if_neg h9, plans_0 hO h9 _ (fun v => if_pos c_37)])) hP hS
      · refine lv_ldc2 hx hb hown (hts _ m_X2_plans_0) dX2_plans_21 ?_
        exact hret _ _ _ _ _ (ps, gf, gW, gb, go, gt) dX2_plans_24 (by unfold A_plans; rw [if_neg (by omega), if_neg (by omega)]) hP hS
    · refine lv_iload_n hx hb dX2_plans_9 rfl (lv_at hl 1 rfl) ?_
      refine lv_bipush (v := zI (10)) hx hb dX2_plans_10 (by decide +kernel) ?_
      refine z_icmp_lt (a := q) (b := 10) (tgt := 21) hx hb (by omega) dX2_plans_12 (by decide) (fun c_12 => ?_) (fun c_12 => ?_)
      · refine lv_ldc2 hx hb hown (hts _ m_X2_plans_0) dX2_plans_21 ?_
        exact hret _ _ _ _ _ (ps, gf, gW, gb, go, gt) dX2_plans_24 (by unfold A_plans; rw [if_neg (by omega), if_neg (by omega)]) hP hS
      · refine lv_iload_n hx hb dX2_plans_15 rfl (lv_at hl 1 rfl) ?_
        refine lv_bipush (v := zI (22)) hx hb dX2_plans_16 (by decide +kernel) ?_
        refine z_icmp_lt (a := q) (b := 22) (tgt := 25) hx hb (by omega) dX2_plans_18 (by decide) (fun c_18 => ?_) (fun c_18 => ?_)
        · refine lv_aload_n hx hb dX2_plans_25 rfl (lv_at hl 0 rfl) ?_
          refine va_get (D := D) (ci := 2) (v := .ref p0) (C := RX2) (T := TX2) (N := 8) hx hb hts in_X2_plans_X2 hown hK hP 0 rfl rfl 3 (by decide) (hts _ m_X2_plans_1) (fun _ h9 => h9) rfl dX2_plans_26 ?_
          refine lv_aload_n hx hb dX2_plans_29 rfl (lv_at hl 0 rfl) ?_
          refine va_get (D := D) (ci := 2) (v := .ref s0) (C := RX2) (T := TX2) (N := 8) hx hb hts in_X2_plans_X2 hown hK hP 0 rfl rfl 0 (by decide) (hts _ m_X2_plans_2) (fun _ h9 => h9) rfl dX2_plans_30 ?_
          refine z_Vvw (As := [.ref s0]) (rest := []) hx hb hml hown hts hA hS hP hD hK hZ hl.1 (c_X0_workOut l D cI cJ cZ cO _ (p0) (p1) (p2) (p3) (p4) (p5) (ps) (gf) (gW) (gb) (go) (gt) (s0) (b1) (b2) (b3) (σ) hO) (cwV 1 hts gX2_plans_X0_workOut rfl rfl rfl (by decide +kernel) ⟨Nat.le_of_ble_eq_true rfl, Nat.le_of_ble_eq_true rfl⟩) [5, 6, 7, 8, 9, 10, 1, 2, 3, 4] rfl rfl (fun _ => rfl) 5 0 rfl rfl rfl rfl (Nat.le_of_ble_eq_true rfl) ⟨Nat.zero_le _, Nat.zero_le _⟩ dX2_plans_33 (fun u1 H locs hw hP hD hS => ?_)
          have hP : va_P D vwCl [(x0, .inr (2, [.ref s0, .ref im, .int (zI (gk 0 + 2 * gk 1)), .ref p0, .ref r1, .ref r2, .ref r3, .ref r4])), (s0, .inr (1, [.int (zI (σ 0)), .ref b1, .ref b2, .ref b3, .int (zI (σ 9))])), (b1, .inl (cI, 3, .inl (zF (fun j => σ (1 + j))))), (b2, .inl (cI, 5, .inl (zF (fun j => σ (4 + j))))), (b3, .inl (cI, 12, .inl (zF (fun j => σ (10 + j))))), (p0, .inr (0, [.int (zI (σ 9)), .ref p1, .ref p2, .ref p3, .ref p4, .ref p5])), (p1, .inl (cI, 12, .inl (zF (u1.1)))), (p2, .inl (cI, 96, .inl (zF (u1.2.1)))), (p3, .inl (cI, 96, .inl (zF (u1.2.2.1)))), (p4, .inl (cI, 96, .inl (zF (u1.2.2.2.1)))), (p5, .inl (cJ, 96, .inr (.inl (zL (u1.2.2.2.2)))))] H := hP
          have hD : va_D A [(x0, .inr (2, [.ref s0, .ref im, .int (zI (gk 0 + 2 * gk 1)), .ref p0, .ref r1, .ref r2, .ref r3, .ref r4])), (s0, .inr (1, [.int (zI (σ 0)), .ref b1, .ref b2, .ref b3, .int (zI (σ 9))])), (b1, .inl (cI, 3, .inl (zF (fun j => σ (1 + j))))), (b2, .inl (cI, 5, .inl (zF (fun j => σ (4 + j))))), (b3, .inl (cI, 12, .inl (zF (fun j => σ (10 + j))))), (p0, .inr (0, [.int (zI (σ 9)), .ref p1, .ref p2, .ref p3, .ref p4, .ref p5])), (p1, .inl (cI, 12, .inl (zF (u1.1)))), (p2, .inl (cI, 96, .inl (zF (u1.2.1)))), (p3, .inl (cI, 96, .inl (zF (u1.2.2.1)))), (p4, .inl (cI, 96, .inl (zF (u1.2.2.2.1)))), (p5, .inl (cJ, 96, .inr (.inl (zL (u1.2.2.2.2)))))] := hD
          obtain ⟨w1, w2⟩ := hw
          have hall := wo_all hO w1 w2
          have hpm := pm_PR w1 (by omega)
          have hf8 : ∀ i : Int, 0 ≤ i → i < σ 9 → 0 ≤ u1.1 i ∧ u1.1 i ≤ 8 := fun i h0 h1 => (hall i h0 h1).1
          have hf0 : σ 9 ≠ 0 → 0 ≤ u1.1 0 ∧ u1.1 0 ≤ 8 := fun h => hf8 0 (by omega) (by omega)
          have hg0 : σ 9 ≠ 0 → ∀ i : Int, 0 ≤ i → i < u1.1 0 → 0 ≤ u1.2.2.2.1 i ∧ u1.2.2.2.1 i ≤ 1100000 := fun h i h0 h1 => by have g := ((hall 0 (by omega) (by omega)).2 i h0 h1).2.1; rw [show 8 * (0 : Int) + i = i by omega] at g; exact g
          refine lv_iload_n hx hb dX2_plans_36 rfl (lv_at hl 1 rfl) ?_
          refine z_if_ne (a := q) (tgt := 48) hx hb (by omega) dX2_plans_37 (by decide) (fun c_37 => ?_) (fun c_37 => ?_)
          · refine lv_iload_n hx hb dX2_plans_48 rfl (lv_at hl 1 rfl) ?_
            refine lv_iconst (v := zI (1)) hx hb dX2_plans_49 rfl ?_
            refine z_icmp_ne (a := q) (b := 1) (tgt := 61) hx hb (by omega) dX2_plans_50 (by decide) (fun c_50 => ?_) (fun c_50 => ?_)
            · refine lv_iload_n hx hb dX2_plans_61 rfl (lv_at hl 1 rfl) ?_
              refine lv_bipush (v := zI (10)) hx hb dX2_plans_62 (by decide +kernel) ?_
              refine z_isub (a := q) (b := 10) hx hb dX2_plans_64 ?_
              refine lv_istore_n (lv' := [(2, .int (zI (q - 10))), (0, .ref x0), (1, .int (zI (q)))]) hx hb dX2_plans_65 rfl hl (by decide) rfl (fun ls hl => ?_)
              refine lv_aload_n hx hb dX2_plans_66 rfl (lv_at hl 1 rfl) ?_
              refine lv_iload_n hx hb dX2_plans_67 rfl (lv_at hl 0 rfl) ?_
              refine z_Vir (As := [.int (zI (q - 10))]) (rest := []) hx hb hml hown hts hA hS hP hD hK hZ hl.1 (c_X2_isPlace l D cI cJ cZ cO _ (x0) (s0) (b1) (b2) (b3) (im) (p0) (r1) (r2) (r3) (r4) (σ) (gk) (q - 10) (by omega) hO) (cwV 1 hts gX2_plans_X2_isPlace rfl rfl rfl (by decide +kernel) ⟨Nat.le_of_ble_eq_true rfl, Nat.le_of_ble_eq_true rfl⟩) [0, 1, 2, 3, 4] rfl rfl 0 2 rfl rfl rfl rfl (Nat.le_of_ble_eq_true rfl) ⟨Nat.zero_le _, Nat.zero_le _⟩ dX2_plans_68 (fun r u H locs hw hP hS => ?_)
              subst hw
              refine z_ifB_eq (P := 0 ≤ (q - 10) ∧ (q - 10) ≤ σ 9 - 1) (tgt := 100) hx hb dX2_plans_71 (by decide) (fun c_71 => ?_) (fun c_71 => ?_)
              · refine lv_ldc2 hx hb hown (hts _ m_X2_plans_3) dX2_plans_100 ?_
                exact hret _ _ _ _ _ (σ 9, u1.1, u1.2.1, u1.2.2.1, u1.2.2.2.1, u1.2.2.2.2) dX2_plans_103 (by unfold A_plans; rw [if_neg (by omega), if_pos (by omega)]; first | (rw [if_neg (show ¬ LEAST σ < 0 by omega), if_pos (by omega)]; done) | (rw [if_pos (show LEAST σ < 0 by omega)]; done) | (by_cases hl : LEAST σ < 0; (rw [if_pos hl]); (rw [if_neg hl, if_neg c_71]))) hP hS
              · refine lv_aload_n hx hb dX2_plans_74 rfl (lv_at hl 1 rfl) ?_
                refine va_get (D := D) (ci := 2) (v := .ref p0) (C := RX2) (T := TX2) (N := 8) hx hb hts in_X2_plans_X2 hown hK hP 0 rfl rfl 3 (by decide) (hts _ m_X2_plans_1) (fun _ h9 => h9) rfl dX2_plans_75 ?_
                refine z_Vir (As := []) (rest := []) hx hb hml hown hts hA hS hP hD hK hZ hl.1 (c_X0_hasPlan l D cI cJ cZ cO _ (p0) (p1) (p2) (p3) (p4) (p5) (σ 9) (u1.1) (by omega) hf8) (cwV 0 hts gX2_plans_X0_hasPlan rfl rfl rfl (by decide +kernel) ⟨Nat.le_of_ble_eq_true rfl, Nat.le_of_ble_eq_true rfl⟩) [5, 6] rfl rfl 5 0 rfl rfl rfl rfl (Nat.le_of_ble_eq_true rfl) ⟨Nat.zero_le _, Nat.zero_le _⟩ dX2_plans_78 (fun r u H locs hw hP hS => ?_)
                subst hw
                refine z_ifB_eq (P := 0 < pmI u1.1 (σ 9).toNat) (tgt := 100) hx hb dX2_plans_81 (by decide) (fun c_81 => ?_) (fun c_81 => ?_)
                · rw [hpm] at c_81
                  obtain ⟨hL1, hL2⟩ := LEAST_no hO c_81
                  refine lv_ldc2 hx hb hown (hts _ m_X2_plans_3) dX2_plans_100 ?_
                  exact hret _ _ _ _ _ (σ 9, u1.1, u1.2.1, u1.2.2.1, u1.2.2.2.1, u1.2.2.2.2) dX2_plans_103 (by unfold A_plans; rw [if_neg (by omega), if_pos (by omega)]; first | (rw [if_neg (show ¬ LEAST σ < 0 by omega), if_pos (by omega)]; done) | (rw [if_pos (show LEAST σ < 0 by omega)]; done) | (by_cases hl : LEAST σ < 0; (rw [if_pos hl]); (rw [if_neg hl, if_neg c_71]))) hP hS
                · rw [hpm] at c_81
                  obtain ⟨hL1, hL2⟩ := LEAST_yes hO w1 w2 c_81
                  refine lv_aload_n hx hb dX2_plans_84 rfl (lv_at hl 1 rfl) ?_
                  refine va_get (D := D) (ci := 2) (v := .ref p0) (C := RX2) (T := TX2) (N := 8) hx hb hts in_X2_plans_X2 hown hK hP 0 rfl rfl 3 (by decide) (hts _ m_X2_plans_1) (fun _ h9 => h9) rfl dX2_plans_85 ?_
                  refine lv_aload_n hx hb dX2_plans_88 rfl (lv_at hl 1 rfl) ?_
                  refine va_get (D := D) (ci := 2) (v := .ref s0) (C := RX2) (T := TX2) (N := 8) hx hb hts in_X2_plans_X2 hown hK hP 0 rfl rfl 0 (by decide) (hts _ m_X2_plans_2) (fun _ h9 => h9) rfl dX2_plans_89 ?_
                  refine lv_iload_n hx hb dX2_plans_92 rfl (lv_at hl 0 rfl) ?_
                  refine z_Vir (As := [.ref s0, .int (zI (q - 10))]) (rest := []) hx hb hml hown hts hA hS hP hD hK hZ hl.1 (c_X0_countWaysAt l D cI cJ cZ cO _ (p0) (p1) (p2) (p3) (p4) (p5) (σ 9) (u1.1) (u1.2.1) (u1.2.2.1) (u1.2.2.2.1) (s0) (b1) (b2) (b3) (σ) (q - 10) rfl (by omega) hall hO) (cwV 2 hts gX2_plans_X0_countWaysAt rfl rfl rfl (by decide +kernel) ⟨Nat.le_of_ble_eq_true rfl, Nat.le_of_ble_eq_true rfl⟩) [5, 6, 7, 8, 9, 1, 2, 3, 4] rfl rfl 5 0 rfl rfl rfl rfl (Nat.le_of_ble_eq_true rfl) ⟨Nat.zero_le _, Nat.zero_le _⟩ dX2_plans_93 (fun r u H locs hw hP hS => ?_)
                  subst hw
                  refine lv_i2l (v := (zI (cnt (MK σ (σ 9) u1.1 u1.2.1 u1.2.2.1 u1.2.2.2.1 (q - 10).toNat) 8)).toInt64) hx hb dX2_plans_96 rfl ?_
                  refine z_topl (y := lW (cntAt σ (q - 10).toNat (LEAST σ))) (by rw [cntAt_eq hO w1 w2 c_81 (by omega)]; exact zI_toL (by have h := cnt_in (fun v => decide (0 ≤ AH σ (q - 10).toNat v) && (decide (0 < WW σ (jP σ (q - 10).toNat) v) && decide (AH σ (q - 10).toNat v + RR σ (jP σ (q - 10).toNat) v = LEAST σ))) 64; unfold cntAt; omega)) ?_
                  refine lv_goto (tgt := 103) hx hb dX2_plans_97 (by decide) ?_
                  exact hret _ _ _ _ _ (σ 9, u1.1, u1.2.1, u1.2.2.1, u1.2.2.2.1, u1.2.2.2.2) dX2_plans_103 (by unfold A_plans; rw [if_neg (by omega), if_pos (by omega)]; first | (rw [if_neg (show ¬ LEAST σ < 0 by omega), if_pos (by omega)]; done) | (rw [if_pos (show LEAST σ < 0 by omega)]; done) | (by_cases hl : LEAST σ < 0; (rw [if_pos hl]); (rw [if_neg hl, if_neg c_71]))) hP hS
            · refine lv_aload_n hx hb dX2_plans_53 rfl (lv_at hl 0 rfl) ?_
              refine va_get (D := D) (ci := 2) (v := .ref p0) (C := RX2) (T := TX2) (N := 8) hx hb hts in_X2_plans_X2 hown hK hP 0 rfl rfl 3 (by decide) (hts _ m_X2_plans_1) (fun _ h9 => h9) rfl dX2_plans_54 ?_
              refine z_Vlr (As := []) (rest := []) hx hb hml hown hts hA hS hP hD hK hZ hl.1 (c_X0_countLeast l D cI cJ cZ cO _ (p0) (p1) (p2) (p3) (p4) (p5) (σ 9) (u1.1) (u1.2.2.2.1) (u1.2.2.2.2) (by omega) hf8 hg0) (cwV 0 hts gX2_plans_X0_countLeast rfl rfl rfl (by decide +kernel) ⟨Nat.le_of_ble_eq_true rfl, Nat.le_of_ble_eq_true rfl⟩) [5, 6, 9, 10] rfl rfl 5 0 rfl rfl rfl rfl (Nat.le_of_ble_eq_true rfl) ⟨Nat.zero_le _, Nat.zero_le _⟩ dX2_plans_57 (fun r u H locs hw hP hS => ?_)
              subst hw
              exact hret _ _ _ _ _ (σ 9, u1.1, u1.2.1, u1.2.2.1, u1.2.2.2.1, u1.2.2.2.2) dX2_plans_60 (by rw [A_plans_lo (by omega), hpm]; by_cases h9 : σ 9 = 0; (rw [if_pos (Or.inl h9), if_pos h9, h9]; exact lW_1); (rw [if_neg h9]; by_cases hp : 0 < PR σ (σ 9).toNat; (rw [if_neg (fun h => h.elim h9 (fun g => g hp)), plans_1 hO w1 w2 hp h9 _ (fun v => if_neg c_37)]); (rw [if_pos (Or.inr hp)]; exact plans_1n hO hp _))) hP hS
          · refine lv_aload_n hx hb dX2_plans_40 rfl (lv_at hl 0 rfl) ?_
            refine va_get (D := D) (ci := 2) (v := .ref p0) (C := RX2) (T := TX2) (N := 8) hx hb hts in_X2_plans_X2 hown hK hP 0 rfl rfl 3 (by decide) (hts _ m_X2_plans_1) (fun _ h9 => h9) rfl dX2_plans_41 ?_
            refine z_Vlr (As := []) (rest := []) hx hb hml hown hts hA hS hP hD hK hZ hl.1 (c_X0_countAll l D cI cJ cZ cO _ (p0) (p1) (p2) (p3) (p4) (p5) (σ 9) (u1.1) (by omega) hf8) (cwV 0 hts gX2_plans_X0_countAll rfl rfl rfl (by decide +kernel) ⟨Nat.le_of_ble_eq_true rfl, Nat.le_of_ble_eq_true rfl⟩) [5, 6] rfl rfl 5 0 rfl rfl rfl rfl (Nat.le_of_ble_eq_true rfl) ⟨Nat.zero_le _, Nat.zero_le _⟩ dX2_plans_44 (fun r u H locs hw hP hS => ?_)
            subst hw
            exact hret _ _ _ _ _ (σ 9, u1.1, u1.2.1, u1.2.2.1, u1.2.2.2.1, u1.2.2.2.2) dX2_plans_47 (by rw [hpm, A_plans_lo (by omega)]; by_cases h9 : σ 9 = 0; (rw [if_pos h9, h9]; exact lW_1); (rw [if_neg h9, plans_0 hO h9 _ (fun v => if_pos c_37)])) hP hS
        · refine lv_ldc2 hx hb hown (hts _ m_X2_plans_0) dX2_plans_21 ?_
          exact hret _ _ _ _ _ (ps, gf, gW, gb, go, gt) dX2_plans_24 (by unfold A_plans; rw [if_neg (by omega), if_neg (by omega)]) hP hS
