abbrev rmX3_layRest : Room := { frames := 4, cells := 0, slots := 0, locals := 87 }
theorem in_X3_layRest_X3 : ∀ w ∈ wsX30, w ∈ wsX3_layRest := fun _ h => List.mem_cons_of_mem _ (List.mem_append_right _ h)
theorem m_X3_layRest_0 : (.fieldLink RX3 7 "BrassWaysModel" "state" "[I" : Cond) ∈ wsX3_layRest := List.mem_of_getElem? (i := 1) rfl
theorem m_X3_layRest_1 : (.fieldLink RX3 20 "BrassWaysModel" "rest" "[I" : Cond) ∈ wsX3_layRest := List.mem_of_getElem? (i := 2) rfl
theorem m_X3_layRest_2 : (.fieldLink RX3 23 "BrassWaysModel" "ways" "[J" : Cond) ∈ wsX3_layRest := List.mem_of_getElem? (i := 3) rfl
theorem m_X3_layRest_3 : (.fieldLink RX3 27 "BrassWaysModel" "leastWays" "[J" : Cond) ∈ wsX3_layRest := List.mem_of_getElem? (i := 4) rfl
set_option maxHeartbeats 4000000 in
set_option maxRecDepth 100000 in
theorem c_X3_layRest (l : Launch) (D : va_G) (cI cJ cZ cO : ClassId) (sz : Nat) (h0 : Nat) (a0 : Nat) (a1 : Nat) (a2 : Nat) (a3 : Nat) (a4 : Nat) (a5 : Nat) (a6 : Nat) (σ : Int → Int) (gr : Int → Int) (gw : Int → Int64) (gl : Int → Int64) (j : Nat) (q : Int) (w : Int) (hq : q = σ 9 - 1 - (j : Int)) (hq0 : 0 ≤ q) (hw6 : 0 ≤ w ∧ w < 64) (hO : Ok σ) (hj : ∀ i : Nat, j = i + 1 → LAY σ gr gw gl i) : Met l yX3_layRest wsX3_layRest rmX3_layRest (zPc D cI cJ cZ cO [(h0, .inr (3, [.ref a0, .ref a1, .ref a2, .ref a3, .ref a4, .ref a5, .ref a6])), (a0, .inl (cI, 22, .inl (zF (σ)))), (a3, .inl (cI, 768, .inl (zF (gr)))), (a4, .inl (cJ, 768, .inr (.inl (zL (gw))))), (a5, .inl (cJ, 768, .inr (.inl (zL (gl)))))] sz [.ref h0, .int (zI (q)), .int (zI (w))]) (zQv D (fun (u : (Int → Int) × (Int → Int64) × (Int → Int64)) => (∀ c : Int, c ≠ 64 * q + w → u.1 c = gr c ∧ u.2.1 c = gw c ∧ u.2.2 c = gl c) ∧ u.1 (64 * q + w) = RR σ j w ∧ u.2.1 (64 * q + w) = lW (PR σ j) ∧ u.2.2 (64 * q + w) = TT σ j w) (fun (u : (Int → Int) × (Int → Int64) × (Int → Int64)) => [(h0, .inr (3, [.ref a0, .ref a1, .ref a2, .ref a3, .ref a4, .ref a5, .ref a6])), (a0, .inl (cI, 22, .inl (zF (σ)))), (a3, .inl (cI, 768, .inl (zF (u.1)))), (a4, .inl (cJ, 768, .inr (.inl (zL (u.2.1))))), (a5, .inl (cJ, 768, .inr (.inl (zL (u.2.2)))))]) [(h0, .inr (3, [.ref a0, .ref a1, .ref a2, .ref a3, .ref a4, .ref a5, .ref a6])), (a0, .inl (cI, 22, .inl (zF (σ)))), (a3, .inl (cI, 768, .inl (zF (gr)))), (a4, .inl (cJ, 768, .inr (.inl (zL (gw))))), (a5, .inl (cJ, 768, .inr (.inl (zL (gl)))))] sz) 0 0 (va_A [(h0, .inr (3, [.ref a0, .ref a1, .ref a2, .ref a3, .ref a4, .ref a5, .ref a6])), (a0, .inl (cI, 22, .inl (zF (σ)))), (a3, .inl (cI, 768, .inl (zF (gr)))), (a4, .inl (cJ, 768, .inr (.inl (zL (gw))))), (a5, .inl (cJ, 768, .inr (.inl (zL (gl)))))] sz) := by
  refine z_metv (by decide) rfl (Nat.le_of_ble_eq_true rfl) ?_
  intro p e s m args below meth c A Q ls hx hb hml hown hts hA hS hP hD hK hZ hl hret
  have hl : lv_has ls 9 [(0, .ref h0), (1, .int (zI (q))), (2, .int (zI (w)))] := hl
  have o9 := hO.2.2.2.2.2.2.2.2.2.1
  have hn : ntj σ j = σ (10 + q) := by unfold ntj; rw [hq]
  have o10 := hO.2.2.2.2.2.2.2.2.2.2 q (by omega) (by omega)
  have hF := flt_in hO (w := w) (n := ntj σ j) hw6 (by rw [hn]; exact o10)
  refine lv_iload_n hx hb dX3_layRest_0 rfl (lv_at hl 1 rfl) ?_
  refine lv_iload_n hx hb dX3_layRest_1 rfl (lv_at hl 2 rfl) ?_
  refine z_Sir (As := [.int (zI (q)), .int (zI (w))]) (rest := []) hx hb hml hown hts hA hS hP hD hK hZ hl.1 (c_X3_at l D cI cJ cZ cO _ (q) (w) ) (va_cwS 2 hts gX3_layRest_X3_at rfl rfl rfl (by decide +kernel) ⟨Nat.le_of_ble_eq_true rfl, Nat.le_of_ble_eq_true rfl⟩) [] rfl rfl rfl rfl (Nat.le_of_ble_eq_true rfl) ⟨Nat.zero_le _, Nat.zero_le _⟩ dX3_layRest_2 (fun r u H locs hw hP hS => ?_)
  subst hw
  refine lv_istore_n (lv' := [(3, .int (zI (64 * q + w))), (0, .ref h0), (1, .int (zI (q))), (2, .int (zI (w)))]) hx hb dX3_layRest_5 rfl hl (by decide) rfl (fun ls hl => ?_)
  refine lv_aload_n hx hb dX3_layRest_6 rfl (lv_at hl 1 rfl) ?_
  refine lv_iload_n hx hb dX3_layRest_7 rfl (lv_at hl 3 rfl) ?_
  refine lv_aload_n hx hb dX3_layRest_8 rfl (lv_at hl 1 rfl) ?_
  refine va_get (D := D) (ci := 3) (v := .ref a0) (C := RX3) (T := TX3) (N := 7) hx hb hts in_X3_layRest_X3 hown hK hP 0 rfl rfl 0 (by decide) (hts _ m_X3_layRest_0) (fun _ h9 => h9) rfl dX3_layRest_9 ?_
  refine lv_bipush (v := zI (10)) hx hb dX3_layRest_12 (by decide +kernel) ?_
  refine lv_iload_n hx hb dX3_layRest_14 rfl (lv_at hl 2 rfl) ?_
  refine z_iadd (a := 10) (b := q) hx hb dX3_layRest_15 ?_
  refine z_iald (k := 10 + q) (g := σ) hx hb hK hP 1 0 rfl rfl (by omega) dX3_layRest_16 ?_
  try dsimp only
  refine z_Vir (As := [.int (zI (w)), .int (zI (σ (10 + q)))]) (rest := []) hx hb hml hown hts hA hS hP hD hK hZ hl.1 (c_X3_faultOf l D cI cJ cZ cO _ (h0) (a0) (a1) (a2) (a3) (a4) (a5) (a6) (σ) (w) (σ (10 + q)) (by omega) (by omega) hO) (cwV 2 hts gX3_layRest_X3_faultOf rfl rfl rfl (by decide +kernel) ⟨Nat.le_of_ble_eq_true rfl, Nat.le_of_ble_eq_true rfl⟩) [0, 1] rfl rfl 0 3 rfl rfl rfl rfl (Nat.le_of_ble_eq_true rfl) ⟨Nat.zero_le _, Nat.zero_le _⟩ dX3_layRest_17 (fun r u H locs hw hP hS => ?_)
  subst hw
  refine z_top (y := zI (flt σ w (ntj σ j))) (by rw [hn]) ?_
  refine lv_istore (lv' := [(4, .int (zI (flt σ w (ntj σ j)))), (3, .int (zI (64 * q + w))), (0, .ref h0), (1, .int (zI (q))), (2, .int (zI (w)))]) hx hb dX3_layRest_20 hl (by decide) rfl (fun ls hl => ?_)
  refine lv_iload_n hx hb dX3_layRest_22 rfl (lv_at hl 3 rfl) ?_
  refine lv_iconst (v := zI (1)) hx hb dX3_layRest_23 rfl ?_
  refine z_iadd (a := q) (b := 1) hx hb dX3_layRest_24 ?_
  refine lv_aload_n hx hb dX3_layRest_25 rfl (lv_at hl 2 rfl) ?_
  refine va_get (D := D) (ci := 3) (v := .ref a0) (C := RX3) (T := TX3) (N := 7) hx hb hts in_X3_layRest_X3 hown hK hP 0 rfl rfl 0 (by decide) (hts _ m_X3_layRest_0) (fun _ h9 => h9) rfl dX3_layRest_26 ?_
  refine lv_bipush (v := zI (9)) hx hb dX3_layRest_29 (by decide +kernel) ?_
  refine z_iald (k := 9) (g := σ) hx hb hK hP 1 0 rfl rfl (by omega) dX3_layRest_31 ?_
  try dsimp only
  refine z_icmp_ne (a := q + 1) (b := σ 9) (tgt := 39) hx hb (by omega) dX3_layRest_32 (by decide) (fun c_32 => ?_) (fun c_32 => ?_)
  · obtain ⟨i, hji⟩ : ∃ i : Nat, j = i + 1 := ⟨j - 1, by omega⟩
    have hL : ∀ v : Int, 0 ≤ v → v < 64 → gw (64 * (q + 1) + v) = lW (WW σ i v) ∧ (sd σ v (ntj σ i) = true → gr (64 * (q + 1) + v) = RR σ i v ∧ gl (64 * (q + 1) + v) = TT σ i v) := by intro v h1 h2; have h := hj i hji v h1 h2; rw [show σ 9 - 1 - (i : Int) = q + 1 by omega] at h; exact h
    refine lv_iconst (v := zI (0)) hx hb dX3_layRest_39 rfl ?_
    refine lv_istore (lv' := [(5, .int (zI (0))), (4, .int (zI (flt σ w (ntj σ j)))), (3, .int (zI (64 * q + w))), (0, .ref h0), (1, .int (zI (q))), (2, .int (zI (w)))]) hx hb dX3_layRest_40 hl (by decide) rfl (fun ls hl => ?_)
    refine lv_aload_n hx hb dX3_layRest_42 rfl (lv_at hl 3 rfl) ?_
    refine va_get (D := D) (ci := 3) (v := .ref a3) (C := RX3) (T := TX3) (N := 7) hx hb hts in_X3_layRest_X3 hown hK hP 0 rfl rfl 3 (by decide) (hts _ m_X3_layRest_1) (fun _ h9 => h9) rfl dX3_layRest_43 ?_
    refine lv_iload_n hx hb dX3_layRest_46 rfl (lv_at hl 2 rfl) ?_
    refine lv_iload hx hb dX3_layRest_47 (lv_at hl 0 rfl) ?_
    refine z_if_eq (a := 0) (tgt := 57) hx hb (by omega) dX3_layRest_49 (by decide) (fun c_49 => ?_) (fun c_49 => ?_)
    · refine lv_bipush (v := zI (-6)) hx hb dX3_layRest_57 (by decide +kernel) ?_
      refine z_iast (k := 64 * q + w) (x := -6) (g := gr) hx hb hK hP hD hS 2 0 rfl rfl (by omega) dX3_layRest_59 (fun H locs hP hD hS => ?_)
      have hP : va_P D vwCl [(h0, .inr (3, [.ref a0, .ref a1, .ref a2, .ref a3, .ref a4, .ref a5, .ref a6])), (a0, .inl (cI, 22, .inl (zF (σ)))), (a3, .inl (cI, 768, .inl (zF (upI gr (64 * q + w) (-6))))), (a4, .inl (cJ, 768, .inr (.inl (zL (gw))))), (a5, .inl (cJ, 768, .inr (.inl (zL (gl)))))] H := hP
      have hD : va_D A [(h0, .inr (3, [.ref a0, .ref a1, .ref a2, .ref a3, .ref a4, .ref a5, .ref a6])), (a0, .inl (cI, 22, .inl (zF (σ)))), (a3, .inl (cI, 768, .inl (zF (upI gr (64 * q + w) (-6))))), (a4, .inl (cJ, 768, .inr (.inl (zL (gw))))), (a5, .inl (cJ, 768, .inr (.inl (zL (gl)))))] := hD
      refine lv_aload_n hx hb dX3_layRest_60 rfl (lv_at hl 3 rfl) ?_
      refine va_get (D := D) (ci := 3) (v := .ref a4) (C := RX3) (T := TX3) (N := 7) hx hb hts in_X3_layRest_X3 hown hK hP 0 rfl rfl 4 (by decide) (hts _ m_X3_layRest_2) (fun _ h9 => h9) rfl dX3_layRest_61 ?_
      refine lv_iload_n hx hb dX3_layRest_64 rfl (lv_at hl 2 rfl) ?_
      refine lv_iload hx hb dX3_layRest_65 (lv_at hl 0 rfl) ?_
      refine z_if_eq (a := 0) (tgt := 74) hx hb (by omega) dX3_layRest_67 (by decide) (fun c_67 => ?_) (fun c_67 => ?_)
      · refine lv_lconst (v := 0) hx hb dX3_layRest_74 rfl ?_
        refine z_last (k := 64 * q + w) (x := 0) (g := gw) hx hb hK hP hD hS 3 1 rfl rfl (by omega) dX3_layRest_75 (fun H locs hP hD hS => ?_)
        have hP : va_P D vwCl [(h0, .inr (3, [.ref a0, .ref a1, .ref a2, .ref a3, .ref a4, .ref a5, .ref a6])), (a0, .inl (cI, 22, .inl (zF (σ)))), (a3, .inl (cI, 768, .inl (zF (upI gr (64 * q + w) (-6))))), (a4, .inl (cJ, 768, .inr (.inl (zL (upI gw (64 * q + w) 0))))), (a5, .inl (cJ, 768, .inr (.inl (zL (gl)))))] H := hP
        have hD : va_D A [(h0, .inr (3, [.ref a0, .ref a1, .ref a2, .ref a3, .ref a4, .ref a5, .ref a6])), (a0, .inl (cI, 22, .inl (zF (σ)))), (a3, .inl (cI, 768, .inl (zF (upI gr (64 * q + w) (-6))))), (a4, .inl (cJ, 768, .inr (.inl (zL (upI gw (64 * q + w) 0))))), (a5, .inl (cJ, 768, .inr (.inl (zL (gl)))))] := hD
        refine lv_aload_n hx hb dX3_layRest_76 rfl (lv_at hl 3 rfl) ?_
        refine va_get (D := D) (ci := 3) (v := .ref a5) (C := RX3) (T := TX3) (N := 7) hx hb hts in_X3_layRest_X3 hown hK hP 0 rfl rfl 5 (by decide) (hts _ m_X3_layRest_3) (fun _ h9 => h9) rfl dX3_layRest_77 ?_
        refine lv_iload_n hx hb dX3_layRest_80 rfl (lv_at hl 2 rfl) ?_
        refine lv_iload hx hb dX3_layRest_81 (lv_at hl 0 rfl) ?_
        refine z_if_eq (a := 0) (tgt := 90) hx hb (by omega) dX3_layRest_83 (by decide) (fun c_83 => ?_) (fun c_83 => ?_)
        · refine lv_lconst (v := 0) hx hb dX3_layRest_90 rfl ?_
          refine z_last (k := 64 * q + w) (x := 0) (g := gl) hx hb hK hP hD hS 4 1 rfl rfl (by omega) dX3_layRest_91 (fun H locs hP hD hS => ?_)
          have hP : va_P D vwCl [(h0, .inr (3, [.ref a0, .ref a1, .ref a2, .ref a3, .ref a4, .ref a5, .ref a6])), (a0, .inl (cI, 22, .inl (zF (σ)))), (a3, .inl (cI, 768, .inl (zF (upI gr (64 * q + w) (-6))))), (a4, .inl (cJ, 768, .inr (.inl (zL (upI gw (64 * q + w) 0))))), (a5, .inl (cJ, 768, .inr (.inl (zL (upI gl (64 * q + w) 0)))))] H := hP
          have hD : va_D A [(h0, .inr (3, [.ref a0, .ref a1, .ref a2, .ref a3, .ref a4, .ref a5, .ref a6])), (a0, .inl (cI, 22, .inl (zF (σ)))), (a3, .inl (cI, 768, .inl (zF (upI gr (64 * q + w) (-6))))), (a4, .inl (cJ, 768, .inr (.inl (zL (upI gw (64 * q + w) 0))))), (a5, .inl (cJ, 768, .inr (.inl (zL (upI gl (64 * q + w) 0)))))] := hD
          refine lv_iconst (v := zI (0)) hx hb dX3_layRest_92 rfl ?_
          refine lv_istore (lv' := [(6, .int (zI (0))), (5, .int (zI (0))), (4, .int (zI (flt σ w (ntj σ j)))), (3, .int (zI (64 * q + w))), (0, .ref h0), (1, .int (zI (q))), (2, .int (zI (w)))]) hx hb dX3_layRest_93 hl (by decide) rfl (fun ls hl => ?_)
          have loop_a : ∀ (f_a : Nat) (k : Nat) (y : Int) (z : Int64) (r2 : Int → Int) (w2 : Int → Int64) (l2 : Int → Int64) (H : Heap) (locs : List Loc) (ls : Array Slot), (k ≤ 64) → (-6 ≤ y ∧ y ≤ 60000) → (∀ c : Int, c ≠ 64 * q + w → r2 c = gr c ∧ w2 c = gw c ∧ l2 c = gl c) → (r2 (64 * q + w) = y) → (y = mbs (qW σ i) (fun v => flt σ w (ntj σ j) + eff σ w v + RR σ i v) (-6) k) → (w2 (64 * q + w) = lW (cnt (fun v => sd σ v (ntj σ i)) k * PR σ i)) → (z = tie (qW σ i) (fun v => flt σ w (ntj σ j) + eff σ w v + RR σ i v) (TT σ i) k) → (l2 (64 * q + w) = z) → (64 - (k : Int) < (f_a : Int)) → va_P D vwCl [(h0, .inr (3, [.ref a0, .ref a1, .ref a2, .ref a3, .ref a4, .ref a5, .ref a6])), (a0, .inl (cI, 22, .inl (zF (σ)))), (a3, .inl (cI, 768, .inl (zF (r2)))), (a4, .inl (cJ, 768, .inr (.inl (zL (w2))))), (a5, .inl (cJ, 768, .inr (.inl (zL (l2)))))] H → va_D A [(h0, .inr (3, [.ref a0, .ref a1, .ref a2, .ref a3, .ref a4, .ref a5, .ref a6])), (a0, .inl (cI, 22, .inl (zF (σ)))), (a3, .inl (cI, 768, .inl (zF (r2)))), (a4, .inl (cJ, 768, .inr (.inl (zL (w2))))), (a5, .inl (cJ, 768, .inr (.inl (zL (l2)))))] → va_S A s.heap H locs → lv_has ls 9 [(0, .ref h0), (1, .int (zI (q))), (2, .int (zI (w))), (3, .int (zI (64 * q + w))), (4, .int (zI (flt σ w (ntj σ j)))), (5, .int (zI (0))), (6, .int (zI ((k : Int))))] → W p l e rmX3_layRest s m args below meth c H locs 0 0 Q (F0 m 95 ls []) := by
            intro f_a
            induction f_a with
            | zero =>
              intros
              exfalso; omega
            | succ f_a ih_a =>
              intro k y z r2 w2 l2 H locs ls e_k e_b e_o e_r e_y e_w e_z e_l hfu_a hP hD hS hl
              have hWb := WW_in hO (j := i) (by omega) (k : Int)
              refine lv_iload hx hb dX3_layRest_95 (lv_at hl 6 rfl) ?_
              refine lv_bipush (v := zI (64)) hx hb dX3_layRest_97 (by decide +kernel) ?_
              refine z_icmp_ge (a := (k : Int)) (b := 64) (tgt := 237) hx hb (by omega) dX3_layRest_99 (by decide) (fun c_99 => ?_) (fun c_99 => ?_)
              · exact hret _ _ _ _ (r2, w2, l2) dX3_layRest_237 ⟨e_o, by show r2 _ = _; rw [e_r, e_y, show k = 64 by omega, hji]; rfl, by show w2 _ = _; rw [e_w, show k = 64 by omega, hji]; rfl, by show l2 _ = _; rw [e_l, e_z, show k = 64 by omega, hji]; rfl⟩ hP hS
              · refine lv_iload hx hb dX3_layRest_102 (lv_at hl 5 rfl) ?_
                refine z_if_ne (a := 0) (tgt := 237) hx hb (by omega) dX3_layRest_104 (by decide) (fun c_104 => ?_) (fun c_104 => ?_)
                · exfalso; omega
                · refine lv_iload_n hx hb dX3_layRest_107 rfl (lv_at hl 1 rfl) ?_
                  refine lv_iconst (v := zI (1)) hx hb dX3_layRest_108 rfl ?_
                  refine z_iadd (a := q) (b := 1) hx hb dX3_layRest_109 ?_
                  refine lv_iload hx hb dX3_layRest_110 (lv_at hl 6 rfl) ?_
                  refine z_Sir (As := [.int (zI (q + 1)), .int (zI ((k : Int)))]) (rest := []) hx hb hml hown hts hA hS hP hD hK hZ hl.1 (c_X3_at l D cI cJ cZ cO _ (q + 1) ((k : Int)) ) (va_cwS 2 hts gX3_layRest_X3_at rfl rfl rfl (by decide +kernel) ⟨Nat.le_of_ble_eq_true rfl, Nat.le_of_ble_eq_true rfl⟩) [] rfl rfl rfl rfl (Nat.le_of_ble_eq_true rfl) ⟨Nat.zero_le _, Nat.zero_le _⟩ dX3_layRest_112 (fun r u H locs hw hP hS => ?_)
                  subst hw
                  refine lv_istore (lv' := [(7, .int (zI (64 * (q + 1) + (k : Int)))), (0, .ref h0), (1, .int (zI (q))), (2, .int (zI (w))), (3, .int (zI (64 * q + w))), (4, .int (zI (flt σ w (ntj σ j)))), (5, .int (zI (0))), (6, .int (zI ((k : Int))))]) hx hb dX3_layRest_115 hl (by decide) rfl (fun ls hl => ?_)
                  refine lv_aload_n hx hb dX3_layRest_117 rfl (lv_at hl 1 rfl) ?_
                  refine va_get (D := D) (ci := 3) (v := .ref a4) (C := RX3) (T := TX3) (N := 7) hx hb hts in_X3_layRest_X3 hown hK hP 0 rfl rfl 4 (by decide) (hts _ m_X3_layRest_2) (fun _ h9 => h9) rfl dX3_layRest_118 ?_
                  refine lv_iload hx hb dX3_layRest_121 (lv_at hl 0 rfl) ?_
                  refine z_lald (k := 64 * (q + 1) + (k : Int)) (g := w2) hx hb hK hP 3 1 rfl rfl (by omega) dX3_layRest_123 ?_
                  try dsimp only
                  refine z_topl (y := lW (WW σ i (k : Int))) ((e_o (64 * (q + 1) + (k : Int)) (by omega)).2.1.trans (hL (k : Int) (by omega) (by omega)).1) ?_
                  refine lv_lconst (v := 0) hx hb dX3_layRest_124 rfl ?_
                  refine z_lcmp_le (x := lW (WW σ i (k : Int))) (y := 0) (tgt := 231) hx hb dX3_layRest_125 dX3_layRest_126 (by decide) (fun c_125 => ?_) (fun c_125 => ?_)
                  · have hnw : ¬ 0 < WW σ i (k : Int) := by have := (lW_le0 (by omega)).mp c_125; omega
                    have hnq : ¬ qW σ i (k : Int) = true := by rw [decide_eq_true_eq]; exact hnw
                    refine lv_iinc (v := zI ((k : Int) + 1)) (lv' := [(6, .int (zI ((k : Int) + 1))), (7, .int (zI (64 * (q + 1) + (k : Int)))), (0, .ref h0), (1, .int (zI (q))), (2, .int (zI (w))), (3, .int (zI (64 * q + w))), (4, .int (zI (flt σ w (ntj σ j)))), (5, .int (zI (0)))]) hx hb dX3_layRest_231 hl (k := 7) rfl (zI_add _ _) (by decide) rfl (fun ls hl => ?_)
                    refine lv_goto (tgt := 95) hx hb dX3_layRest_234 (by decide) ?_
                    exact ih_a (k + 1) (y) (z) (r2) (w2) (l2) _ _ _ (by omega) (by omega) (fun c hc => ⟨by first | exact (e_o c hc).1 | (rw [upI_n hc]; exact (e_o c hc).1), by first | exact (e_o c hc).2.1 | (rw [upI_n hc]; exact (e_o c hc).2.1), by first | exact (e_o c hc).2.2 | (rw [upI_n hc]; exact (e_o c hc).2.2) | (rw [upI_n hc, upI_n hc]; exact (e_o c hc).2.2)⟩) (by first | exact e_r | exact upI_s) (by rw [mbs_s e_y]; first | (rw [if_neg hnq]; done) | (rw [if_pos hyq, if_pos (Or.inl c_155)]; done) | (rw [if_pos hyq, if_pos (Or.inr c_166)]; done) | (rw [if_pos hyq, if_neg (fun h => h.elim (fun g => by omega) (fun g => Int.not_lt.mpr c_166 g))]; done)) (by first | (rw [WW_step hO hnw]; exact e_w) | (rw [upI_s, lW_add, WW_stepy hyw])) (by rw [tie_s e_y e_z]; first | (rw [if_neg hnq]; done) | (rw [if_pos hyq, if_pos (Or.inl c_155)]; exact Int64.zero_add _) | (rw [if_pos hyq, if_pos (Or.inr c_166)]; exact Int64.zero_add _) | (rw [if_pos hyq, if_neg (fun h => h.elim (fun g => by omega) (fun g => Int.not_lt.mpr c_166 g)), if_pos c_199]; done) | (rw [if_pos hyq, if_neg (fun h => h.elim (fun g => by omega) (fun g => Int.not_lt.mpr c_166 g)), if_neg c_199]; exact Int64.add_zero _)) (by first | exact e_l | exact upI_s) (by omega) hP hD hS (lv_sub hl [2, 3, 4, 5, 6, 7, 0] rfl)
                  · have hyw : 0 < WW σ i (k : Int) := (lW_gt0 (by omega)).mp c_125
                    have hyq : qW σ i (k : Int) = true := decide_eq_true hyw
                    have hRR := (hL (k : Int) (by omega) (by omega)).2 (WW_sd hyw).1
                    have hR := RR_in hO i (by omega) (k : Int) (by omega)
                    have hR2 := hR.2 hyw
                    have hE := eff_in hO (a := w) (b := (k : Int)) hw6 (by omega)
                    refine lv_iload hx hb dX3_layRest_129 (lv_at hl 5 rfl) ?_
                    refine lv_aload_n hx hb dX3_layRest_131 rfl (lv_at hl 1 rfl) ?_
                    refine lv_iload_n hx hb dX3_layRest_132 rfl (lv_at hl 3 rfl) ?_
                    refine lv_iload hx hb dX3_layRest_133 (lv_at hl 7 rfl) ?_
                    refine z_Vir (As := [.int (zI (w)), .int (zI ((k : Int)))]) (rest := [.int (zI (flt σ w (ntj σ j)))]) hx hb hml hown hts hA hS hP hD hK hZ hl.1 (c_X3_effortOf l D cI cJ cZ cO _ (h0) (a0) (a1) (a2) (a3) (a4) (a5) (a6) (σ) (w) ((k : Int)) (by omega) hO) (cwV 2 hts gX3_layRest_X3_effortOf rfl rfl rfl (by decide +kernel) ⟨Nat.le_of_ble_eq_true rfl, Nat.le_of_ble_eq_true rfl⟩) [0, 1] rfl rfl 0 3 rfl rfl rfl rfl (Nat.le_of_ble_eq_true rfl) ⟨Nat.zero_le _, Nat.zero_le _⟩ dX3_layRest_135 (fun r u H locs hw hP hS => ?_)
                    subst hw
                    refine z_iadd (a := flt σ w (ntj σ j)) (b := eff σ w (k : Int)) hx hb dX3_layRest_138 ?_
                    refine lv_aload_n hx hb dX3_layRest_139 rfl (lv_at hl 1 rfl) ?_
                    refine va_get (D := D) (ci := 3) (v := .ref a3) (C := RX3) (T := TX3) (N := 7) hx hb hts in_X3_layRest_X3 hown hK hP 0 rfl rfl 3 (by decide) (hts _ m_X3_layRest_1) (fun _ h9 => h9) rfl dX3_layRest_140 ?_
                    refine lv_iload hx hb dX3_layRest_143 (lv_at hl 0 rfl) ?_
                    refine z_iald (k := 64 * (q + 1) + (k : Int)) (g := r2) hx hb hK hP 2 0 rfl rfl (by omega) dX3_layRest_145 ?_
                    try dsimp only
                    refine z_top (y := zI (RR σ i (k : Int))) (by rw [(e_o (64 * (q + 1) + (k : Int)) (by omega)).1, hRR.1]) ?_
                    refine z_iadd (a := (flt σ w (ntj σ j)) + (eff σ w (k : Int))) (b := RR σ i (k : Int)) hx hb dX3_layRest_146 ?_
                    refine lv_istore (lv' := [(8, .int (zI (((flt σ w (ntj σ j)) + (eff σ w (k : Int))) + (RR σ i (k : Int))))), (7, .int (zI (64 * (q + 1) + (k : Int)))), (0, .ref h0), (1, .int (zI (q))), (2, .int (zI (w))), (3, .int (zI (64 * q + w))), (4, .int (zI (flt σ w (ntj σ j)))), (5, .int (zI (0))), (6, .int (zI ((k : Int))))]) hx hb dX3_layRest_147 hl (by decide) rfl (fun ls hl => ?_)
                    refine lv_aload_n hx hb dX3_layRest_149 rfl (lv_at hl 2 rfl) ?_
                    refine va_get (D := D) (ci := 3) (v := .ref a3) (C := RX3) (T := TX3) (N := 7) hx hb hts in_X3_layRest_X3 hown hK hP 0 rfl rfl 3 (by decide) (hts _ m_X3_layRest_1) (fun _ h9 => h9) rfl dX3_layRest_150 ?_
                    refine lv_iload_n hx hb dX3_layRest_153 rfl (lv_at hl 5 rfl) ?_
                    refine z_iald (k := 64 * q + w) (g := r2) hx hb hK hP 2 0 rfl rfl (by omega) dX3_layRest_154 ?_
                    try dsimp only
                    refine z_top (y := zI (y)) (by rw [e_r]) ?_
                    refine z_if_lt (a := y) (tgt := 169) hx hb (by omega) dX3_layRest_155 (by decide) (fun c_155 => ?_) (fun c_155 => ?_)
                    · refine lv_aload_n hx hb dX3_layRest_169 rfl (lv_at hl 2 rfl) ?_
                      refine va_get (D := D) (ci := 3) (v := .ref a3) (C := RX3) (T := TX3) (N := 7) hx hb hts in_X3_layRest_X3 hown hK hP 0 rfl rfl 3 (by decide) (hts _ m_X3_layRest_1) (fun _ h9 => h9) rfl dX3_layRest_170 ?_
                      refine lv_iload_n hx hb dX3_layRest_173 rfl (lv_at hl 5 rfl) ?_
                      refine lv_iload hx hb dX3_layRest_174 (lv_at hl 0 rfl) ?_
                      refine z_iast (k := 64 * q + w) (x := ((flt σ w (ntj σ j)) + (eff σ w (k : Int))) + (RR σ i (k : Int))) (g := r2) hx hb hK hP hD hS 2 0 rfl rfl (by omega) dX3_layRest_176 (fun H locs hP hD hS => ?_)
                      have hP : va_P D vwCl [(h0, .inr (3, [.ref a0, .ref a1, .ref a2, .ref a3, .ref a4, .ref a5, .ref a6])), (a0, .inl (cI, 22, .inl (zF (σ)))), (a3, .inl (cI, 768, .inl (zF (upI r2 (64 * q + w) (((flt σ w (ntj σ j)) + (eff σ w (k : Int))) + (RR σ i (k : Int))))))), (a4, .inl (cJ, 768, .inr (.inl (zL (w2))))), (a5, .inl (cJ, 768, .inr (.inl (zL (l2)))))] H := hP
                      have hD : va_D A [(h0, .inr (3, [.ref a0, .ref a1, .ref a2, .ref a3, .ref a4, .ref a5, .ref a6])), (a0, .inl (cI, 22, .inl (zF (σ)))), (a3, .inl (cI, 768, .inl (zF (upI r2 (64 * q + w) (((flt σ w (ntj σ j)) + (eff σ w (k : Int))) + (RR σ i (k : Int))))))), (a4, .inl (cJ, 768, .inr (.inl (zL (w2))))), (a5, .inl (cJ, 768, .inr (.inl (zL (l2)))))] := hD
                      refine lv_aload_n hx hb dX3_layRest_177 rfl (lv_at hl 2 rfl) ?_
                      refine va_get (D := D) (ci := 3) (v := .ref a5) (C := RX3) (T := TX3) (N := 7) hx hb hts in_X3_layRest_X3 hown hK hP 0 rfl rfl 5 (by decide) (hts _ m_X3_layRest_3) (fun _ h9 => h9) rfl dX3_layRest_178 ?_
                      refine lv_iload_n hx hb dX3_layRest_181 rfl (lv_at hl 5 rfl) ?_
                      refine lv_lconst (v := 0) hx hb dX3_layRest_182 rfl ?_
                      refine z_last (k := 64 * q + w) (x := 0) (g := l2) hx hb hK hP hD hS 4 1 rfl rfl (by omega) dX3_layRest_183 (fun H locs hP hD hS => ?_)
                      have hP : va_P D vwCl [(h0, .inr (3, [.ref a0, .ref a1, .ref a2, .ref a3, .ref a4, .ref a5, .ref a6])), (a0, .inl (cI, 22, .inl (zF (σ)))), (a3, .inl (cI, 768, .inl (zF (upI r2 (64 * q + w) (((flt σ w (ntj σ j)) + (eff σ w (k : Int))) + (RR σ i (k : Int))))))), (a4, .inl (cJ, 768, .inr (.inl (zL (w2))))), (a5, .inl (cJ, 768, .inr (.inl (zL (upI l2 (64 * q + w) 0)))))] H := hP
                      have hD : va_D A [(h0, .inr (3, [.ref a0, .ref a1, .ref a2, .ref a3, .ref a4, .ref a5, .ref a6])), (a0, .inl (cI, 22, .inl (zF (σ)))), (a3, .inl (cI, 768, .inl (zF (upI r2 (64 * q + w) (((flt σ w (ntj σ j)) + (eff σ w (k : Int))) + (RR σ i (k : Int))))))), (a4, .inl (cJ, 768, .inr (.inl (zL (w2))))), (a5, .inl (cJ, 768, .inr (.inl (zL (upI l2 (64 * q + w) 0)))))] := hD
                      refine lv_aload_n hx hb dX3_layRest_184 rfl (lv_at hl 2 rfl) ?_
                      refine va_get (D := D) (ci := 3) (v := .ref a5) (C := RX3) (T := TX3) (N := 7) hx hb hts in_X3_layRest_X3 hown hK hP 0 rfl rfl 5 (by decide) (hts _ m_X3_layRest_3) (fun _ h9 => h9) rfl dX3_layRest_185 ?_
                      refine lv_iload_n hx hb dX3_layRest_188 rfl (lv_at hl 5 rfl) ?_
                      refine lv_dup2_11 hx hb dX3_layRest_189 rfl rfl ?_
                      refine z_lald (k := 64 * q + w) (g := upI l2 (64 * q + w) 0) hx hb hK hP 4 1 rfl rfl (by omega) dX3_layRest_190 ?_
                      try dsimp only
                      refine z_topl (y := 0) (upI_s) ?_
                      refine lv_iload hx hb dX3_layRest_191 (lv_at hl 0 rfl) ?_
                      refine lv_aload_n hx hb dX3_layRest_193 rfl (lv_at hl 2 rfl) ?_
                      refine va_get (D := D) (ci := 3) (v := .ref a3) (C := RX3) (T := TX3) (N := 7) hx hb hts in_X3_layRest_X3 hown hK hP 0 rfl rfl 3 (by decide) (hts _ m_X3_layRest_1) (fun _ h9 => h9) rfl dX3_layRest_194 ?_
                      refine lv_iload_n hx hb dX3_layRest_197 rfl (lv_at hl 5 rfl) ?_
                      refine z_iald (k := 64 * q + w) (g := upI r2 (64 * q + w) (((flt σ w (ntj σ j)) + (eff σ w (k : Int))) + (RR σ i (k : Int)))) hx hb hK hP 2 0 rfl rfl (by omega) dX3_layRest_198 ?_
                      try dsimp only
                      refine z_top (y := zI (((flt σ w (ntj σ j)) + (eff σ w (k : Int))) + (RR σ i (k : Int)))) (by rw [upI_s]) ?_
                      refine z_icmp_ne (a := ((flt σ w (ntj σ j)) + (eff σ w (k : Int))) + (RR σ i (k : Int))) (b := ((flt σ w (ntj σ j)) + (eff σ w (k : Int))) + (RR σ i (k : Int))) (tgt := 212) hx hb (by omega) dX3_layRest_199 (by decide) (fun c_199 => ?_) (fun c_199 => ?_)
                      · exfalso; omega
                      · refine lv_aload_n hx hb dX3_layRest_202 rfl (lv_at hl 2 rfl) ?_
                        refine va_get (D := D) (ci := 3) (v := .ref a5) (C := RX3) (T := TX3) (N := 7) hx hb hts in_X3_layRest_X3 hown hK hP 0 rfl rfl 5 (by decide) (hts _ m_X3_layRest_3) (fun _ h9 => h9) rfl dX3_layRest_203 ?_
                        refine lv_iload hx hb dX3_layRest_206 (lv_at hl 1 rfl) ?_
                        refine z_lald (k := 64 * (q + 1) + (k : Int)) (g := upI l2 (64 * q + w) 0) hx hb hK hP 4 1 rfl rfl (by omega) dX3_layRest_208 ?_
                        try dsimp only
                        refine z_topl (y := TT σ i (k : Int)) (by first | exact (e_o (64 * (q + 1) + (k : Int)) (by omega)).2.2.trans hRR.2 | (rw [upI_n (by omega)]; exact (e_o (64 * (q + 1) + (k : Int)) (by omega)).2.2.trans hRR.2)) ?_
                        refine lv_goto (tgt := 213) hx hb dX3_layRest_209 (by decide) ?_
                        refine lv_ladd hx hb dX3_layRest_213 ?_
                        refine z_last (k := 64 * q + w) (x := 0 + (TT σ i (k : Int))) (g := upI l2 (64 * q + w) 0) hx hb hK hP hD hS 4 1 rfl rfl (by omega) dX3_layRest_214 (fun H locs hP hD hS => ?_)
                        have hP : va_P D vwCl [(h0, .inr (3, [.ref a0, .ref a1, .ref a2, .ref a3, .ref a4, .ref a5, .ref a6])), (a0, .inl (cI, 22, .inl (zF (σ)))), (a3, .inl (cI, 768, .inl (zF (upI r2 (64 * q + w) (((flt σ w (ntj σ j)) + (eff σ w (k : Int))) + (RR σ i (k : Int))))))), (a4, .inl (cJ, 768, .inr (.inl (zL (w2))))), (a5, .inl (cJ, 768, .inr (.inl (zL (upI (upI l2 (64 * q + w) 0) (64 * q + w) (0 + (TT σ i (k : Int))))))))] H := hP
                        have hD : va_D A [(h0, .inr (3, [.ref a0, .ref a1, .ref a2, .ref a3, .ref a4, .ref a5, .ref a6])), (a0, .inl (cI, 22, .inl (zF (σ)))), (a3, .inl (cI, 768, .inl (zF (upI r2 (64 * q + w) (((flt σ w (ntj σ j)) + (eff σ w (k : Int))) + (RR σ i (k : Int))))))), (a4, .inl (cJ, 768, .inr (.inl (zL (w2))))), (a5, .inl (cJ, 768, .inr (.inl (zL (upI (upI l2 (64 * q + w) 0) (64 * q + w) (0 + (TT σ i (k : Int))))))))] := hD
                        refine lv_aload_n hx hb dX3_layRest_215 rfl (lv_at hl 2 rfl) ?_
                        refine va_get (D := D) (ci := 3) (v := .ref a4) (C := RX3) (T := TX3) (N := 7) hx hb hts in_X3_layRest_X3 hown hK hP 0 rfl rfl 4 (by decide) (hts _ m_X3_layRest_2) (fun _ h9 => h9) rfl dX3_layRest_216 ?_
                        refine lv_iload_n hx hb dX3_layRest_219 rfl (lv_at hl 5 rfl) ?_
                        refine lv_dup2_11 hx hb dX3_layRest_220 rfl rfl ?_
                        refine z_lald (k := 64 * q + w) (g := w2) hx hb hK hP 3 1 rfl rfl (by omega) dX3_layRest_221 ?_
                        try dsimp only
                        refine z_topl (y := lW (cnt (fun v => sd σ v (ntj σ i)) k * PR σ i)) (e_w) ?_
                        refine lv_aload_n hx hb dX3_layRest_222 rfl (lv_at hl 2 rfl) ?_
                        refine va_get (D := D) (ci := 3) (v := .ref a4) (C := RX3) (T := TX3) (N := 7) hx hb hts in_X3_layRest_X3 hown hK hP 0 rfl rfl 4 (by decide) (hts _ m_X3_layRest_2) (fun _ h9 => h9) rfl dX3_layRest_223 ?_
                        refine lv_iload hx hb dX3_layRest_226 (lv_at hl 1 rfl) ?_
                        refine z_lald (k := 64 * (q + 1) + (k : Int)) (g := w2) hx hb hK hP 3 1 rfl rfl (by omega) dX3_layRest_228 ?_
                        try dsimp only
                        refine z_topl (y := lW (WW σ i (k : Int))) ((e_o (64 * (q + 1) + (k : Int)) (by omega)).2.1.trans (hL (k : Int) (by omega) (by omega)).1) ?_
                        refine lv_ladd hx hb dX3_layRest_229 ?_
                        refine z_last (k := 64 * q + w) (x := (lW (cnt (fun v => sd σ v (ntj σ i)) k * PR σ i)) + (lW (WW σ i (k : Int)))) (g := w2) hx hb hK hP hD hS 3 1 rfl rfl (by omega) dX3_layRest_230 (fun H locs hP hD hS => ?_)
                        have hP : va_P D vwCl [(h0, .inr (3, [.ref a0, .ref a1, .ref a2, .ref a3, .ref a4, .ref a5, .ref a6])), (a0, .inl (cI, 22, .inl (zF (σ)))), (a3, .inl (cI, 768, .inl (zF (upI r2 (64 * q + w) (((flt σ w (ntj σ j)) + (eff σ w (k : Int))) + (RR σ i (k : Int))))))), (a4, .inl (cJ, 768, .inr (.inl (zL (upI w2 (64 * q + w) ((lW (cnt (fun v => sd σ v (ntj σ i)) k * PR σ i)) + (lW (WW σ i (k : Int))))))))), (a5, .inl (cJ, 768, .inr (.inl (zL (upI (upI l2 (64 * q + w) 0) (64 * q + w) (0 + (TT σ i (k : Int))))))))] H := hP
                        have hD : va_D A [(h0, .inr (3, [.ref a0, .ref a1, .ref a2, .ref a3, .ref a4, .ref a5, .ref a6])), (a0, .inl (cI, 22, .inl (zF (σ)))), (a3, .inl (cI, 768, .inl (zF (upI r2 (64 * q + w) (((flt σ w (ntj σ j)) + (eff σ w (k : Int))) + (RR σ i (k : Int))))))), (a4, .inl (cJ, 768, .inr (.inl (zL (upI w2 (64 * q + w) ((lW (cnt (fun v => sd σ v (ntj σ i)) k * PR σ i)) + (lW (WW σ i (k : Int))))))))), (a5, .inl (cJ, 768, .inr (.inl (zL (upI (upI l2 (64 * q + w) 0) (64 * q + w) (0 + (TT σ i (k : Int))))))))] := hD
                        refine lv_iinc (v := zI ((k : Int) + 1)) (lv' := [(6, .int (zI ((k : Int) + 1))), (8, .int (zI (((flt σ w (ntj σ j)) + (eff σ w (k : Int))) + (RR σ i (k : Int))))), (7, .int (zI (64 * (q + 1) + (k : Int)))), (0, .ref h0), (1, .int (zI (q))), (2, .int (zI (w))), (3, .int (zI (64 * q + w))), (4, .int (zI (flt σ w (ntj σ j)))), (5, .int (zI (0)))]) hx hb dX3_layRest_231 hl (k := 8) rfl (zI_add _ _) (by decide) rfl (fun ls hl => ?_)
                        refine lv_goto (tgt := 95) hx hb dX3_layRest_234 (by decide) ?_
                        exact ih_a (k + 1) (((flt σ w (ntj σ j)) + (eff σ w (k : Int))) + (RR σ i (k : Int))) (0 + (TT σ i (k : Int))) (upI r2 (64 * q + w) (((flt σ w (ntj σ j)) + (eff σ w (k : Int))) + (RR σ i (k : Int)))) (upI w2 (64 * q + w) ((lW (cnt (fun v => sd σ v (ntj σ i)) k * PR σ i)) + (lW (WW σ i (k : Int))))) (upI (upI l2 (64 * q + w) 0) (64 * q + w) (0 + (TT σ i (k : Int)))) _ _ _ (by omega) (by omega) (fun c hc => ⟨by first | exact (e_o c hc).1 | (rw [upI_n hc]; exact (e_o c hc).1), by first | exact (e_o c hc).2.1 | (rw [upI_n hc]; exact (e_o c hc).2.1), by first | exact (e_o c hc).2.2 | (rw [upI_n hc]; exact (e_o c hc).2.2) | (rw [upI_n hc, upI_n hc]; exact (e_o c hc).2.2)⟩) (by first | exact e_r | exact upI_s) (by rw [mbs_s e_y]; first | (rw [if_neg hnq]; done) | (rw [if_pos hyq, if_pos (Or.inl c_155)]; done) | (rw [if_pos hyq, if_pos (Or.inr c_166)]; done) | (rw [if_pos hyq, if_neg (fun h => h.elim (fun g => by omega) (fun g => Int.not_lt.mpr c_166 g))]; done)) (by first | (rw [WW_step hO hnw]; exact e_w) | (rw [upI_s, lW_add, WW_stepy hyw])) (by rw [tie_s e_y e_z]; first | (rw [if_neg hnq]; done) | (rw [if_pos hyq, if_pos (Or.inl c_155)]; exact Int64.zero_add _) | (rw [if_pos hyq, if_pos (Or.inr c_166)]; exact Int64.zero_add _) | (rw [if_pos hyq, if_neg (fun h => h.elim (fun g => by omega) (fun g => Int.not_lt.mpr c_166 g)), if_pos c_199]; done) | (rw [if_pos hyq, if_neg (fun h => h.elim (fun g => by omega) (fun g => Int.not_lt.mpr c_166 g)), if_neg c_199]; exact Int64.add_zero _)) (by first | exact e_l | exact upI_s) (by omega) hP hD hS (lv_sub hl [3, 4, 5, 6, 7, 8, 0] rfl)
                    · refine lv_iload hx hb dX3_layRest_158 (lv_at hl 0 rfl) ?_
                      refine lv_aload_n hx hb dX3_layRest_160 rfl (lv_at hl 2 rfl) ?_
                      refine va_get (D := D) (ci := 3) (v := .ref a3) (C := RX3) (T := TX3) (N := 7) hx hb hts in_X3_layRest_X3 hown hK hP 0 rfl rfl 3 (by decide) (hts _ m_X3_layRest_1) (fun _ h9 => h9) rfl dX3_layRest_161 ?_
                      refine lv_iload_n hx hb dX3_layRest_164 rfl (lv_at hl 5 rfl) ?_
                      refine z_iald (k := 64 * q + w) (g := r2) hx hb hK hP 2 0 rfl rfl (by omega) dX3_layRest_165 ?_
                      try dsimp only
                      refine z_top (y := zI (y)) (by rw [e_r]) ?_
                      refine z_icmp_ge (a := ((flt σ w (ntj σ j)) + (eff σ w (k : Int))) + (RR σ i (k : Int))) (b := y) (tgt := 184) hx hb (by omega) dX3_layRest_166 (by decide) (fun c_166 => ?_) (fun c_166 => ?_)
                      · refine lv_aload_n hx hb dX3_layRest_184 rfl (lv_at hl 2 rfl) ?_
                        refine va_get (D := D) (ci := 3) (v := .ref a5) (C := RX3) (T := TX3) (N := 7) hx hb hts in_X3_layRest_X3 hown hK hP 0 rfl rfl 5 (by decide) (hts _ m_X3_layRest_3) (fun _ h9 => h9) rfl dX3_layRest_185 ?_
                        refine lv_iload_n hx hb dX3_layRest_188 rfl (lv_at hl 5 rfl) ?_
                        refine lv_dup2_11 hx hb dX3_layRest_189 rfl rfl ?_
                        refine z_lald (k := 64 * q + w) (g := l2) hx hb hK hP 4 1 rfl rfl (by omega) dX3_layRest_190 ?_
                        try dsimp only
                        refine z_topl (y := z) (e_l) ?_
                        refine lv_iload hx hb dX3_layRest_191 (lv_at hl 0 rfl) ?_
                        refine lv_aload_n hx hb dX3_layRest_193 rfl (lv_at hl 2 rfl) ?_
                        refine va_get (D := D) (ci := 3) (v := .ref a3) (C := RX3) (T := TX3) (N := 7) hx hb hts in_X3_layRest_X3 hown hK hP 0 rfl rfl 3 (by decide) (hts _ m_X3_layRest_1) (fun _ h9 => h9) rfl dX3_layRest_194 ?_
                        refine lv_iload_n hx hb dX3_layRest_197 rfl (lv_at hl 5 rfl) ?_
                        refine z_iald (k := 64 * q + w) (g := r2) hx hb hK hP 2 0 rfl rfl (by omega) dX3_layRest_198 ?_
                        try dsimp only
                        refine z_top (y := zI (y)) (by rw [e_r]) ?_
                        refine z_icmp_ne (a := ((flt σ w (ntj σ j)) + (eff σ w (k : Int))) + (RR σ i (k : Int))) (b := y) (tgt := 212) hx hb (by omega) dX3_layRest_199 (by decide) (fun c_199 => ?_) (fun c_199 => ?_)
                        · refine lv_lconst (v := 0) hx hb dX3_layRest_212 rfl ?_
                          refine lv_ladd hx hb dX3_layRest_213 ?_
                          refine z_last (k := 64 * q + w) (x := z + 0) (g := l2) hx hb hK hP hD hS 4 1 rfl rfl (by omega) dX3_layRest_214 (fun H locs hP hD hS => ?_)
                          have hP : va_P D vwCl [(h0, .inr (3, [.ref a0, .ref a1, .ref a2, .ref a3, .ref a4, .ref a5, .ref a6])), (a0, .inl (cI, 22, .inl (zF (σ)))), (a3, .inl (cI, 768, .inl (zF (r2)))), (a4, .inl (cJ, 768, .inr (.inl (zL (w2))))), (a5, .inl (cJ, 768, .inr (.inl (zL (upI l2 (64 * q + w) (z + 0))))))] H := hP
                          have hD : va_D A [(h0, .inr (3, [.ref a0, .ref a1, .ref a2, .ref a3, .ref a4, .ref a5, .ref a6])), (a0, .inl (cI, 22, .inl (zF (σ)))), (a3, .inl (cI, 768, .inl (zF (r2)))), (a4, .inl (cJ, 768, .inr (.inl (zL (w2))))), (a5, .inl (cJ, 768, .inr (.inl (zL (upI l2 (64 * q + w) (z + 0))))))] := hD
                          refine lv_aload_n hx hb dX3_layRest_215 rfl (lv_at hl 2 rfl) ?_
                          refine va_get (D := D) (ci := 3) (v := .ref a4) (C := RX3) (T := TX3) (N := 7) hx hb hts in_X3_layRest_X3 hown hK hP 0 rfl rfl 4 (by decide) (hts _ m_X3_layRest_2) (fun _ h9 => h9) rfl dX3_layRest_216 ?_
                          refine lv_iload_n hx hb dX3_layRest_219 rfl (lv_at hl 5 rfl) ?_
                          refine lv_dup2_11 hx hb dX3_layRest_220 rfl rfl ?_
                          refine z_lald (k := 64 * q + w) (g := w2) hx hb hK hP 3 1 rfl rfl (by omega) dX3_layRest_221 ?_
                          try dsimp only
                          refine z_topl (y := lW (cnt (fun v => sd σ v (ntj σ i)) k * PR σ i)) (e_w) ?_
                          refine lv_aload_n hx hb dX3_layRest_222 rfl (lv_at hl 2 rfl) ?_
                          refine va_get (D := D) (ci := 3) (v := .ref a4) (C := RX3) (T := TX3) (N := 7) hx hb hts in_X3_layRest_X3 hown hK hP 0 rfl rfl 4 (by decide) (hts _ m_X3_layRest_2) (fun _ h9 => h9) rfl dX3_layRest_223 ?_
                          refine lv_iload hx hb dX3_layRest_226 (lv_at hl 1 rfl) ?_
                          refine z_lald (k := 64 * (q + 1) + (k : Int)) (g := w2) hx hb hK hP 3 1 rfl rfl (by omega) dX3_layRest_228 ?_
                          try dsimp only
                          refine z_topl (y := lW (WW σ i (k : Int))) ((e_o (64 * (q + 1) + (k : Int)) (by omega)).2.1.trans (hL (k : Int) (by omega) (by omega)).1) ?_
                          refine lv_ladd hx hb dX3_layRest_229 ?_
                          refine z_last (k := 64 * q + w) (x := (lW (cnt (fun v => sd σ v (ntj σ i)) k * PR σ i)) + (lW (WW σ i (k : Int)))) (g := w2) hx hb hK hP hD hS 3 1 rfl rfl (by omega) dX3_layRest_230 (fun H locs hP hD hS => ?_)
                          have hP : va_P D vwCl [(h0, .inr (3, [.ref a0, .ref a1, .ref a2, .ref a3, .ref a4, .ref a5, .ref a6])), (a0, .inl (cI, 22, .inl (zF (σ)))), (a3, .inl (cI, 768, .inl (zF (r2)))), (a4, .inl (cJ, 768, .inr (.inl (zL (upI w2 (64 * q + w) ((lW (cnt (fun v => sd σ v (ntj σ i)) k * PR σ i)) + (lW (WW σ i (k : Int))))))))), (a5, .inl (cJ, 768, .inr (.inl (zL (upI l2 (64 * q + w) (z + 0))))))] H := hP
                          have hD : va_D A [(h0, .inr (3, [.ref a0, .ref a1, .ref a2, .ref a3, .ref a4, .ref a5, .ref a6])), (a0, .inl (cI, 22, .inl (zF (σ)))), (a3, .inl (cI, 768, .inl (zF (r2)))), (a4, .inl (cJ, 768, .inr (.inl (zL (upI w2 (64 * q + w) ((lW (cnt (fun v => sd σ v (ntj σ i)) k * PR σ i)) + (lW (WW σ i (k : Int))))))))), (a5, .inl (cJ, 768, .inr (.inl (zL (upI l2 (64 * q + w) (z + 0))))))] := hD
                          refine lv_iinc (v := zI ((k : Int) + 1)) (lv' := [(6, .int (zI ((k : Int) + 1))), (8, .int (zI (((flt σ w (ntj σ j)) + (eff σ w (k : Int))) + (RR σ i (k : Int))))), (7, .int (zI (64 * (q + 1) + (k : Int)))), (0, .ref h0), (1, .int (zI (q))), (2, .int (zI (w))), (3, .int (zI (64 * q + w))), (4, .int (zI (flt σ w (ntj σ j)))), (5, .int (zI (0)))]) hx hb dX3_layRest_231 hl (k := 8) rfl (zI_add _ _) (by decide) rfl (fun ls hl => ?_)
                          refine lv_goto (tgt := 95) hx hb dX3_layRest_234 (by decide) ?_
                          exact ih_a (k + 1) (y) (z + 0) (r2) (upI w2 (64 * q + w) ((lW (cnt (fun v => sd σ v (ntj σ i)) k * PR σ i)) + (lW (WW σ i (k : Int))))) (upI l2 (64 * q + w) (z + 0)) _ _ _ (by omega) (by omega) (fun c hc => ⟨by first | exact (e_o c hc).1 | (rw [upI_n hc]; exact (e_o c hc).1), by first | exact (e_o c hc).2.1 | (rw [upI_n hc]; exact (e_o c hc).2.1), by first | exact (e_o c hc).2.2 | (rw [upI_n hc]; exact (e_o c hc).2.2) | (rw [upI_n hc, upI_n hc]; exact (e_o c hc).2.2)⟩) (by first | exact e_r | exact upI_s) (by rw [mbs_s e_y]; first | (rw [if_neg hnq]; done) | (rw [if_pos hyq, if_pos (Or.inl c_155)]; done) | (rw [if_pos hyq, if_pos (Or.inr c_166)]; done) | (rw [if_pos hyq, if_neg (fun h => h.elim (fun g => by omega) (fun g => Int.not_lt.mpr c_166 g))]; done)) (by first | (rw [WW_step hO hnw]; exact e_w) | (rw [upI_s, lW_add, WW_stepy hyw])) (by rw [tie_s e_y e_z]; first | (rw [if_neg hnq]; done) | (rw [if_pos hyq, if_pos (Or.inl c_155)]; exact Int64.zero_add _) | (rw [if_pos hyq, if_pos (Or.inr c_166)]; exact Int64.zero_add _) | (rw [if_pos hyq, if_neg (fun h => h.elim (fun g => by omega) (fun g => Int.not_lt.mpr c_166 g)), if_pos c_199]; done) | (rw [if_pos hyq, if_neg (fun h => h.elim (fun g => by omega) (fun g => Int.not_lt.mpr c_166 g)), if_neg c_199]; exact Int64.add_zero _)) (by first | exact e_l | exact upI_s) (by omega) hP hD hS (lv_sub hl [3, 4, 5, 6, 7, 8, 0] rfl)
                        · refine lv_aload_n hx hb dX3_layRest_202 rfl (lv_at hl 2 rfl) ?_
                          refine va_get (D := D) (ci := 3) (v := .ref a5) (C := RX3) (T := TX3) (N := 7) hx hb hts in_X3_layRest_X3 hown hK hP 0 rfl rfl 5 (by decide) (hts _ m_X3_layRest_3) (fun _ h9 => h9) rfl dX3_layRest_203 ?_
                          refine lv_iload hx hb dX3_layRest_206 (lv_at hl 1 rfl) ?_
                          refine z_lald (k := 64 * (q + 1) + (k : Int)) (g := l2) hx hb hK hP 4 1 rfl rfl (by omega) dX3_layRest_208 ?_
                          try dsimp only
                          refine z_topl (y := TT σ i (k : Int)) (by first | exact (e_o (64 * (q + 1) + (k : Int)) (by omega)).2.2.trans hRR.2 | (rw [upI_n (by omega)]; exact (e_o (64 * (q + 1) + (k : Int)) (by omega)).2.2.trans hRR.2)) ?_
                          refine lv_goto (tgt := 213) hx hb dX3_layRest_209 (by decide) ?_
                          refine lv_ladd hx hb dX3_layRest_213 ?_
                          refine z_last (k := 64 * q + w) (x := z + (TT σ i (k : Int))) (g := l2) hx hb hK hP hD hS 4 1 rfl rfl (by omega) dX3_layRest_214 (fun H locs hP hD hS => ?_)
                          have hP : va_P D vwCl [(h0, .inr (3, [.ref a0, .ref a1, .ref a2, .ref a3, .ref a4, .ref a5, .ref a6])), (a0, .inl (cI, 22, .inl (zF (σ)))), (a3, .inl (cI, 768, .inl (zF (r2)))), (a4, .inl (cJ, 768, .inr (.inl (zL (w2))))), (a5, .inl (cJ, 768, .inr (.inl (zL (upI l2 (64 * q + w) (z + (TT σ i (k : Int))))))))] H := hP
                          have hD : va_D A [(h0, .inr (3, [.ref a0, .ref a1, .ref a2, .ref a3, .ref a4, .ref a5, .ref a6])), (a0, .inl (cI, 22, .inl (zF (σ)))), (a3, .inl (cI, 768, .inl (zF (r2)))), (a4, .inl (cJ, 768, .inr (.inl (zL (w2))))), (a5, .inl (cJ, 768, .inr (.inl (zL (upI l2 (64 * q + w) (z + (TT σ i (k : Int))))))))] := hD
                          refine lv_aload_n hx hb dX3_layRest_215 rfl (lv_at hl 2 rfl) ?_
                          refine va_get (D := D) (ci := 3) (v := .ref a4) (C := RX3) (T := TX3) (N := 7) hx hb hts in_X3_layRest_X3 hown hK hP 0 rfl rfl 4 (by decide) (hts _ m_X3_layRest_2) (fun _ h9 => h9) rfl dX3_layRest_216 ?_
                          refine lv_iload_n hx hb dX3_layRest_219 rfl (lv_at hl 5 rfl) ?_
                          refine lv_dup2_11 hx hb dX3_layRest_220 rfl rfl ?_
                          refine z_lald (k := 64 * q + w) (g := w2) hx hb hK hP 3 1 rfl rfl (by omega) dX3_layRest_221 ?_
                          try dsimp only
                          refine z_topl (y := lW (cnt (fun v => sd σ v (ntj σ i)) k * PR σ i)) (e_w) ?_
                          refine lv_aload_n hx hb dX3_layRest_222 rfl (lv_at hl 2 rfl) ?_
                          refine va_get (D := D) (ci := 3) (v := .ref a4) (C := RX3) (T := TX3) (N := 7) hx hb hts in_X3_layRest_X3 hown hK hP 0 rfl rfl 4 (by decide) (hts _ m_X3_layRest_2) (fun _ h9 => h9) rfl dX3_layRest_223 ?_
                          refine lv_iload hx hb dX3_layRest_226 (lv_at hl 1 rfl) ?_
                          refine z_lald (k := 64 * (q + 1) + (k : Int)) (g := w2) hx hb hK hP 3 1 rfl rfl (by omega) dX3_layRest_228 ?_
                          try dsimp only
                          refine z_topl (y := lW (WW σ i (k : Int))) ((e_o (64 * (q + 1) + (k : Int)) (by omega)).2.1.trans (hL (k : Int) (by omega) (by omega)).1) ?_
                          refine lv_ladd hx hb dX3_layRest_229 ?_
                          refine z_last (k := 64 * q + w) (x := (lW (cnt (fun v => sd σ v (ntj σ i)) k * PR σ i)) + (lW (WW σ i (k : Int)))) (g := w2) hx hb hK hP hD hS 3 1 rfl rfl (by omega) dX3_layRest_230 (fun H locs hP hD hS => ?_)
                          have hP : va_P D vwCl [(h0, .inr (3, [.ref a0, .ref a1, .ref a2, .ref a3, .ref a4, .ref a5, .ref a6])), (a0, .inl (cI, 22, .inl (zF (σ)))), (a3, .inl (cI, 768, .inl (zF (r2)))), (a4, .inl (cJ, 768, .inr (.inl (zL (upI w2 (64 * q + w) ((lW (cnt (fun v => sd σ v (ntj σ i)) k * PR σ i)) + (lW (WW σ i (k : Int))))))))), (a5, .inl (cJ, 768, .inr (.inl (zL (upI l2 (64 * q + w) (z + (TT σ i (k : Int))))))))] H := hP
                          have hD : va_D A [(h0, .inr (3, [.ref a0, .ref a1, .ref a2, .ref a3, .ref a4, .ref a5, .ref a6])), (a0, .inl (cI, 22, .inl (zF (σ)))), (a3, .inl (cI, 768, .inl (zF (r2)))), (a4, .inl (cJ, 768, .inr (.inl (zL (upI w2 (64 * q + w) ((lW (cnt (fun v => sd σ v (ntj σ i)) k * PR σ i)) + (lW (WW σ i (k : Int))))))))), (a5, .inl (cJ, 768, .inr (.inl (zL (upI l2 (64 * q + w) (z + (TT σ i (k : Int))))))))] := hD
                          refine lv_iinc (v := zI ((k : Int) + 1)) (lv' := [(6, .int (zI ((k : Int) + 1))), (8, .int (zI (((flt σ w (ntj σ j)) + (eff σ w (k : Int))) + (RR σ i (k : Int))))), (7, .int (zI (64 * (q + 1) + (k : Int)))), (0, .ref h0), (1, .int (zI (q))), (2, .int (zI (w))), (3, .int (zI (64 * q + w))), (4, .int (zI (flt σ w (ntj σ j)))), (5, .int (zI (0)))]) hx hb dX3_layRest_231 hl (k := 8) rfl (zI_add _ _) (by decide) rfl (fun ls hl => ?_)
                          refine lv_goto (tgt := 95) hx hb dX3_layRest_234 (by decide) ?_
                          exact ih_a (k + 1) (y) (z + (TT σ i (k : Int))) (r2) (upI w2 (64 * q + w) ((lW (cnt (fun v => sd σ v (ntj σ i)) k * PR σ i)) + (lW (WW σ i (k : Int))))) (upI l2 (64 * q + w) (z + (TT σ i (k : Int)))) _ _ _ (by omega) (by omega) (fun c hc => ⟨by first | exact (e_o c hc).1 | (rw [upI_n hc]; exact (e_o c hc).1), by first | exact (e_o c hc).2.1 | (rw [upI_n hc]; exact (e_o c hc).2.1), by first | exact (e_o c hc).2.2 | (rw [upI_n hc]; exact (e_o c hc).2.2) | (rw [upI_n hc, upI_n hc]; exact (e_o c hc).2.2)⟩) (by first | exact e_r | exact upI_s) (by rw [mbs_s e_y]; first | (rw [if_neg hnq]; done) | (rw [if_pos hyq, if_pos (Or.inl c_155)]; done) | (rw [if_pos hyq, if_pos (Or.inr c_166)]; done) | (rw [if_pos hyq, if_neg (fun h => h.elim (fun g => by omega) (fun g => Int.not_lt.mpr c_166 g))]; done)) (by first | (rw [WW_step hO hnw]; exact e_w) | (rw [upI_s, lW_add, WW_stepy hyw])) (by rw [tie_s e_y e_z]; first | (rw [if_neg hnq]; done) | (rw [if_pos hyq, if_pos (Or.inl c_155)]; exact Int64.zero_add _) | (rw [if_pos hyq, if_pos (Or.inr c_166)]; exact Int64.zero_add _) | (rw [if_pos hyq, if_neg (fun h => h.elim (fun g => by omega) (fun g => Int.not_lt.mpr c_166 g)), if_pos c_199]; done) | (rw [if_pos hyq, if_neg (fun h => h.elim (fun g => by omega) (fun g => Int.not_lt.mpr c_166 g)), if_neg c_199]; exact Int64.add_zero _)) (by first | exact e_l | exact upI_s) (by omega) hP hD hS (lv_sub hl [3, 4, 5, 6, 7, 8, 0] rfl)
                      · refine lv_aload_n hx hb dX3_layRest_169 rfl (lv_at hl 2 rfl) ?_
                        refine va_get (D := D) (ci := 3) (v := .ref a3) (C := RX3) (T := TX3) (N := 7) hx hb hts in_X3_layRest_X3 hown hK hP 0 rfl rfl 3 (by decide) (hts _ m_X3_layRest_1) (fun _ h9 => h9) rfl dX3_layRest_170 ?_
                        refine lv_iload_n hx hb dX3_layRest_173 rfl (lv_at hl 5 rfl) ?_
                        refine lv_iload hx hb dX3_layRest_174 (lv_at hl 0 rfl) ?_
                        refine z_iast (k := 64 * q + w) (x := ((flt σ w (ntj σ j)) + (eff σ w (k : Int))) + (RR σ i (k : Int))) (g := r2) hx hb hK hP hD hS 2 0 rfl rfl (by omega) dX3_layRest_176 (fun H locs hP hD hS => ?_)
                        have hP : va_P D vwCl [(h0, .inr (3, [.ref a0, .ref a1, .ref a2, .ref a3, .ref a4, .ref a5, .ref a6])), (a0, .inl (cI, 22, .inl (zF (σ)))), (a3, .inl (cI, 768, .inl (zF (upI r2 (64 * q + w) (((flt σ w (ntj σ j)) + (eff σ w (k : Int))) + (RR σ i (k : Int))))))), (a4, .inl (cJ, 768, .inr (.inl (zL (w2))))), (a5, .inl (cJ, 768, .inr (.inl (zL (l2)))))] H := hP
                        have hD : va_D A [(h0, .inr (3, [.ref a0, .ref a1, .ref a2, .ref a3, .ref a4, .ref a5, .ref a6])), (a0, .inl (cI, 22, .inl (zF (σ)))), (a3, .inl (cI, 768, .inl (zF (upI r2 (64 * q + w) (((flt σ w (ntj σ j)) + (eff σ w (k : Int))) + (RR σ i (k : Int))))))), (a4, .inl (cJ, 768, .inr (.inl (zL (w2))))), (a5, .inl (cJ, 768, .inr (.inl (zL (l2)))))] := hD
                        refine lv_aload_n hx hb dX3_layRest_177 rfl (lv_at hl 2 rfl) ?_
                        refine va_get (D := D) (ci := 3) (v := .ref a5) (C := RX3) (T := TX3) (N := 7) hx hb hts in_X3_layRest_X3 hown hK hP 0 rfl rfl 5 (by decide) (hts _ m_X3_layRest_3) (fun _ h9 => h9) rfl dX3_layRest_178 ?_
                        refine lv_iload_n hx hb dX3_layRest_181 rfl (lv_at hl 5 rfl) ?_
                        refine lv_lconst (v := 0) hx hb dX3_layRest_182 rfl ?_
                        refine z_last (k := 64 * q + w) (x := 0) (g := l2) hx hb hK hP hD hS 4 1 rfl rfl (by omega) dX3_layRest_183 (fun H locs hP hD hS => ?_)
                        have hP : va_P D vwCl [(h0, .inr (3, [.ref a0, .ref a1, .ref a2, .ref a3, .ref a4, .ref a5, .ref a6])), (a0, .inl (cI, 22, .inl (zF (σ)))), (a3, .inl (cI, 768, .inl (zF (upI r2 (64 * q + w) (((flt σ w (ntj σ j)) + (eff σ w (k : Int))) + (RR σ i (k : Int))))))), (a4, .inl (cJ, 768, .inr (.inl (zL (w2))))), (a5, .inl (cJ, 768, .inr (.inl (zL (upI l2 (64 * q + w) 0)))))] H := hP
                        have hD : va_D A [(h0, .inr (3, [.ref a0, .ref a1, .ref a2, .ref a3, .ref a4, .ref a5, .ref a6])), (a0, .inl (cI, 22, .inl (zF (σ)))), (a3, .inl (cI, 768, .inl (zF (upI r2 (64 * q + w) (((flt σ w (ntj σ j)) + (eff σ w (k : Int))) + (RR σ i (k : Int))))))), (a4, .inl (cJ, 768, .inr (.inl (zL (w2))))), (a5, .inl (cJ, 768, .inr (.inl (zL (upI l2 (64 * q + w) 0)))))] := hD
                        refine lv_aload_n hx hb dX3_layRest_184 rfl (lv_at hl 2 rfl) ?_
                        refine va_get (D := D) (ci := 3) (v := .ref a5) (C := RX3) (T := TX3) (N := 7) hx hb hts in_X3_layRest_X3 hown hK hP 0 rfl rfl 5 (by decide) (hts _ m_X3_layRest_3) (fun _ h9 => h9) rfl dX3_layRest_185 ?_
                        refine lv_iload_n hx hb dX3_layRest_188 rfl (lv_at hl 5 rfl) ?_
                        refine lv_dup2_11 hx hb dX3_layRest_189 rfl rfl ?_
                        refine z_lald (k := 64 * q + w) (g := upI l2 (64 * q + w) 0) hx hb hK hP 4 1 rfl rfl (by omega) dX3_layRest_190 ?_
                        try dsimp only
                        refine z_topl (y := 0) (upI_s) ?_
                        refine lv_iload hx hb dX3_layRest_191 (lv_at hl 0 rfl) ?_
                        refine lv_aload_n hx hb dX3_layRest_193 rfl (lv_at hl 2 rfl) ?_
                        refine va_get (D := D) (ci := 3) (v := .ref a3) (C := RX3) (T := TX3) (N := 7) hx hb hts in_X3_layRest_X3 hown hK hP 0 rfl rfl 3 (by decide) (hts _ m_X3_layRest_1) (fun _ h9 => h9) rfl dX3_layRest_194 ?_
                        refine lv_iload_n hx hb dX3_layRest_197 rfl (lv_at hl 5 rfl) ?_
                        refine z_iald (k := 64 * q + w) (g := upI r2 (64 * q + w) (((flt σ w (ntj σ j)) + (eff σ w (k : Int))) + (RR σ i (k : Int)))) hx hb hK hP 2 0 rfl rfl (by omega) dX3_layRest_198 ?_
                        try dsimp only
                        refine z_top (y := zI (((flt σ w (ntj σ j)) + (eff σ w (k : Int))) + (RR σ i (k : Int)))) (by rw [upI_s]) ?_
                        refine z_icmp_ne (a := ((flt σ w (ntj σ j)) + (eff σ w (k : Int))) + (RR σ i (k : Int))) (b := ((flt σ w (ntj σ j)) + (eff σ w (k : Int))) + (RR σ i (k : Int))) (tgt := 212) hx hb (by omega) dX3_layRest_199 (by decide) (fun c_199 => ?_) (fun c_199 => ?_)
                        · exfalso; omega
                        · refine lv_aload_n hx hb dX3_layRest_202 rfl (lv_at hl 2 rfl) ?_
                          refine va_get (D := D) (ci := 3) (v := .ref a5) (C := RX3) (T := TX3) (N := 7) hx hb hts in_X3_layRest_X3 hown hK hP 0 rfl rfl 5 (by decide) (hts _ m_X3_layRest_3) (fun _ h9 => h9) rfl dX3_layRest_203 ?_
                          refine lv_iload hx hb dX3_layRest_206 (lv_at hl 1 rfl) ?_
                          refine z_lald (k := 64 * (q + 1) + (k : Int)) (g := upI l2 (64 * q + w) 0) hx hb hK hP 4 1 rfl rfl (by omega) dX3_layRest_208 ?_
                          try dsimp only
                          refine z_topl (y := TT σ i (k : Int)) (by first | exact (e_o (64 * (q + 1) + (k : Int)) (by omega)).2.2.trans hRR.2 | (rw [upI_n (by omega)]; exact (e_o (64 * (q + 1) + (k : Int)) (by omega)).2.2.trans hRR.2)) ?_
                          refine lv_goto (tgt := 213) hx hb dX3_layRest_209 (by decide) ?_
                          refine lv_ladd hx hb dX3_layRest_213 ?_
                          refine z_last (k := 64 * q + w) (x := 0 + (TT σ i (k : Int))) (g := upI l2 (64 * q + w) 0) hx hb hK hP hD hS 4 1 rfl rfl (by omega) dX3_layRest_214 (fun H locs hP hD hS => ?_)
                          have hP : va_P D vwCl [(h0, .inr (3, [.ref a0, .ref a1, .ref a2, .ref a3, .ref a4, .ref a5, .ref a6])), (a0, .inl (cI, 22, .inl (zF (σ)))), (a3, .inl (cI, 768, .inl (zF (upI r2 (64 * q + w) (((flt σ w (ntj σ j)) + (eff σ w (k : Int))) + (RR σ i (k : Int))))))), (a4, .inl (cJ, 768, .inr (.inl (zL (w2))))), (a5, .inl (cJ, 768, .inr (.inl (zL (upI (upI l2 (64 * q + w) 0) (64 * q + w) (0 + (TT σ i (k : Int))))))))] H := hP
                          have hD : va_D A [(h0, .inr (3, [.ref a0, .ref a1, .ref a2, .ref a3, .ref a4, .ref a5, .ref a6])), (a0, .inl (cI, 22, .inl (zF (σ)))), (a3, .inl (cI, 768, .inl (zF (upI r2 (64 * q + w) (((flt σ w (ntj σ j)) + (eff σ w (k : Int))) + (RR σ i (k : Int))))))), (a4, .inl (cJ, 768, .inr (.inl (zL (w2))))), (a5, .inl (cJ, 768, .inr (.inl (zL (upI (upI l2 (64 * q + w) 0) (64 * q + w) (0 + (TT σ i (k : Int))))))))] := hD
                          refine lv_aload_n hx hb dX3_layRest_215 rfl (lv_at hl 2 rfl) ?_
                          refine va_get (D := D) (ci := 3) (v := .ref a4) (C := RX3) (T := TX3) (N := 7) hx hb hts in_X3_layRest_X3 hown hK hP 0 rfl rfl 4 (by decide) (hts _ m_X3_layRest_2) (fun _ h9 => h9) rfl dX3_layRest_216 ?_
                          refine lv_iload_n hx hb dX3_layRest_219 rfl (lv_at hl 5 rfl) ?_
                          refine lv_dup2_11 hx hb dX3_layRest_220 rfl rfl ?_
                          refine z_lald (k := 64 * q + w) (g := w2) hx hb hK hP 3 1 rfl rfl (by omega) dX3_layRest_221 ?_
                          try dsimp only
                          refine z_topl (y := lW (cnt (fun v => sd σ v (ntj σ i)) k * PR σ i)) (e_w) ?_
                          refine lv_aload_n hx hb dX3_layRest_222 rfl (lv_at hl 2 rfl) ?_
                          refine va_get (D := D) (ci := 3) (v := .ref a4) (C := RX3) (T := TX3) (N := 7) hx hb hts in_X3_layRest_X3 hown hK hP 0 rfl rfl 4 (by decide) (hts _ m_X3_layRest_2) (fun _ h9 => h9) rfl dX3_layRest_223 ?_
                          refine lv_iload hx hb dX3_layRest_226 (lv_at hl 1 rfl) ?_
                          refine z_lald (k := 64 * (q + 1) + (k : Int)) (g := w2) hx hb hK hP 3 1 rfl rfl (by omega) dX3_layRest_228 ?_
                          try dsimp only
                          refine z_topl (y := lW (WW σ i (k : Int))) ((e_o (64 * (q + 1) + (k : Int)) (by omega)).2.1.trans (hL (k : Int) (by omega) (by omega)).1) ?_
                          refine lv_ladd hx hb dX3_layRest_229 ?_
                          refine z_last (k := 64 * q + w) (x := (lW (cnt (fun v => sd σ v (ntj σ i)) k * PR σ i)) + (lW (WW σ i (k : Int)))) (g := w2) hx hb hK hP hD hS 3 1 rfl rfl (by omega) dX3_layRest_230 (fun H locs hP hD hS => ?_)
                          have hP : va_P D vwCl [(h0, .inr (3, [.ref a0, .ref a1, .ref a2, .ref a3, .ref a4, .ref a5, .ref a6])), (a0, .inl (cI, 22, .inl (zF (σ)))), (a3, .inl (cI, 768, .inl (zF (upI r2 (64 * q + w) (((flt σ w (ntj σ j)) + (eff σ w (k : Int))) + (RR σ i (k : Int))))))), (a4, .inl (cJ, 768, .inr (.inl (zL (upI w2 (64 * q + w) ((lW (cnt (fun v => sd σ v (ntj σ i)) k * PR σ i)) + (lW (WW σ i (k : Int))))))))), (a5, .inl (cJ, 768, .inr (.inl (zL (upI (upI l2 (64 * q + w) 0) (64 * q + w) (0 + (TT σ i (k : Int))))))))] H := hP
                          have hD : va_D A [(h0, .inr (3, [.ref a0, .ref a1, .ref a2, .ref a3, .ref a4, .ref a5, .ref a6])), (a0, .inl (cI, 22, .inl (zF (σ)))), (a3, .inl (cI, 768, .inl (zF (upI r2 (64 * q + w) (((flt σ w (ntj σ j)) + (eff σ w (k : Int))) + (RR σ i (k : Int))))))), (a4, .inl (cJ, 768, .inr (.inl (zL (upI w2 (64 * q + w) ((lW (cnt (fun v => sd σ v (ntj σ i)) k * PR σ i)) + (lW (WW σ i (k : Int))))))))), (a5, .inl (cJ, 768, .inr (.inl (zL (upI (upI l2 (64 * q + w) 0) (64 * q + w) (0 + (TT σ i (k : Int))))))))] := hD
                          refine lv_iinc (v := zI ((k : Int) + 1)) (lv' := [(6, .int (zI ((k : Int) + 1))), (8, .int (zI (((flt σ w (ntj σ j)) + (eff σ w (k : Int))) + (RR σ i (k : Int))))), (7, .int (zI (64 * (q + 1) + (k : Int)))), (0, .ref h0), (1, .int (zI (q))), (2, .int (zI (w))), (3, .int (zI (64 * q + w))), (4, .int (zI (flt σ w (ntj σ j)))), (5, .int (zI (0)))]) hx hb dX3_layRest_231 hl (k := 8) rfl (zI_add _ _) (by decide) rfl (fun ls hl => ?_)
                          refine lv_goto (tgt := 95) hx hb dX3_layRest_234 (by decide) ?_
                          exact ih_a (k + 1) (((flt σ w (ntj σ j)) + (eff σ w (k : Int))) + (RR σ i (k : Int))) (0 + (TT σ i (k : Int))) (upI r2 (64 * q + w) (((flt σ w (ntj σ j)) + (eff σ w (k : Int))) + (RR σ i (k : Int)))) (upI w2 (64 * q + w) ((lW (cnt (fun v => sd σ v (ntj σ i)) k * PR σ i)) + (lW (WW σ i (k : Int))))) (upI (upI l2 (64 * q + w) 0) (64 * q + w) (0 + (TT σ i (k : Int)))) _ _ _ (by omega) (by omega) (fun c hc => ⟨by first | exact (e_o c hc).1 | (rw [upI_n hc]; exact (e_o c hc).1), by first | exact (e_o c hc).2.1 | (rw [upI_n hc]; exact (e_o c hc).2.1), by first | exact (e_o c hc).2.2 | (rw [upI_n hc]; exact (e_o c hc).2.2) | (rw [upI_n hc, upI_n hc]; exact (e_o c hc).2.2)⟩) (by first | exact e_r | exact upI_s) (by rw [mbs_s e_y]; first | (rw [if_neg hnq]; done) | (rw [if_pos hyq, if_pos (Or.inl c_155)]; done) | (rw [if_pos hyq, if_pos (Or.inr c_166)]; done) | (rw [if_pos hyq, if_neg (fun h => h.elim (fun g => by omega) (fun g => Int.not_lt.mpr c_166 g))]; done)) (by first | (rw [WW_step hO hnw]; exact e_w) | (rw [upI_s, lW_add, WW_stepy hyw])) (by rw [tie_s e_y e_z]; first | (rw [if_neg hnq]; done) | (rw [if_pos hyq, if_pos (Or.inl c_155)]; exact Int64.zero_add _) | (rw [if_pos hyq, if_pos (Or.inr c_166)]; exact Int64.zero_add _) | (rw [if_pos hyq, if_neg (fun h => h.elim (fun g => by omega) (fun g => Int.not_lt.mpr c_166 g)), if_pos c_199]; done) | (rw [if_pos hyq, if_neg (fun h => h.elim (fun g => by omega) (fun g => Int.not_lt.mpr c_166 g)), if_neg c_199]; exact Int64.add_zero _)) (by first | exact e_l | exact upI_s) (by omega) hP hD hS (lv_sub hl [3, 4, 5, 6, 7, 8, 0] rfl)
          exact loop_a 70 (0) (-6) (0) (upI gr (64 * q + w) (-6)) (upI gw (64 * q + w) 0) (upI gl (64 * q + w) 0) _ _ _ (by omega) (by omega) (fun c hc => ⟨upI_n hc, upI_n hc, upI_n hc⟩) (upI_s) (rfl) (by rw [upI_s, show cnt (fun v => sd σ v (ntj σ i)) 0 * PR σ i = 0 from Int.zero_mul _, lW_0]) (rfl) (upI_s) (by omega) hP hD hS (lv_sub hl [4, 5, 6, 3, 2, 1, 0] rfl)
        · exfalso; omega
      · exfalso; omega
    · exfalso; omega
  · have hj0 : j = 0 := by omega
    refine lv_iconst (v := zI (1)) hx hb dX3_layRest_35 rfl ?_
    refine lv_goto (tgt := 40) hx hb dX3_layRest_36 (by decide) ?_
    refine lv_istore (lv' := [(5, .int (zI (1))), (4, .int (zI (flt σ w (ntj σ j)))), (3, .int (zI (64 * q + w))), (0, .ref h0), (1, .int (zI (q))), (2, .int (zI (w)))]) hx hb dX3_layRest_40 hl (by decide) rfl (fun ls hl => ?_)
    refine lv_aload_n hx hb dX3_layRest_42 rfl (lv_at hl 3 rfl) ?_
    refine va_get (D := D) (ci := 3) (v := .ref a3) (C := RX3) (T := TX3) (N := 7) hx hb hts in_X3_layRest_X3 hown hK hP 0 rfl rfl 3 (by decide) (hts _ m_X3_layRest_1) (fun _ h9 => h9) rfl dX3_layRest_43 ?_
    refine lv_iload_n hx hb dX3_layRest_46 rfl (lv_at hl 2 rfl) ?_
    refine lv_iload hx hb dX3_layRest_47 (lv_at hl 0 rfl) ?_
    refine z_if_eq (a := 1) (tgt := 57) hx hb (by omega) dX3_layRest_49 (by decide) (fun c_49 => ?_) (fun c_49 => ?_)
    · exfalso; omega
    · refine lv_iload hx hb dX3_layRest_52 (lv_at hl 1 rfl) ?_
      refine lv_goto (tgt := 59) hx hb dX3_layRest_54 (by decide) ?_
      refine z_iast (k := 64 * q + w) (x := flt σ w (ntj σ j)) (g := gr) hx hb hK hP hD hS 2 0 rfl rfl (by omega) dX3_layRest_59 (fun H locs hP hD hS => ?_)
      have hP : va_P D vwCl [(h0, .inr (3, [.ref a0, .ref a1, .ref a2, .ref a3, .ref a4, .ref a5, .ref a6])), (a0, .inl (cI, 22, .inl (zF (σ)))), (a3, .inl (cI, 768, .inl (zF (upI gr (64 * q + w) (flt σ w (ntj σ j)))))), (a4, .inl (cJ, 768, .inr (.inl (zL (gw))))), (a5, .inl (cJ, 768, .inr (.inl (zL (gl)))))] H := hP
      have hD : va_D A [(h0, .inr (3, [.ref a0, .ref a1, .ref a2, .ref a3, .ref a4, .ref a5, .ref a6])), (a0, .inl (cI, 22, .inl (zF (σ)))), (a3, .inl (cI, 768, .inl (zF (upI gr (64 * q + w) (flt σ w (ntj σ j)))))), (a4, .inl (cJ, 768, .inr (.inl (zL (gw))))), (a5, .inl (cJ, 768, .inr (.inl (zL (gl)))))] := hD
      refine lv_aload_n hx hb dX3_layRest_60 rfl (lv_at hl 3 rfl) ?_
      refine va_get (D := D) (ci := 3) (v := .ref a4) (C := RX3) (T := TX3) (N := 7) hx hb hts in_X3_layRest_X3 hown hK hP 0 rfl rfl 4 (by decide) (hts _ m_X3_layRest_2) (fun _ h9 => h9) rfl dX3_layRest_61 ?_
      refine lv_iload_n hx hb dX3_layRest_64 rfl (lv_at hl 2 rfl) ?_
      refine lv_iload hx hb dX3_layRest_65 (lv_at hl 0 rfl) ?_
      refine z_if_eq (a := 1) (tgt := 74) hx hb (by omega) dX3_layRest_67 (by decide) (fun c_67 => ?_) (fun c_67 => ?_)
      · exfalso; omega
      · refine lv_lconst (v := 1) hx hb dX3_layRest_70 rfl ?_
        refine lv_goto (tgt := 75) hx hb dX3_layRest_71 (by decide) ?_
        refine z_last (k := 64 * q + w) (x := 1) (g := gw) hx hb hK hP hD hS 3 1 rfl rfl (by omega) dX3_layRest_75 (fun H locs hP hD hS => ?_)
        have hP : va_P D vwCl [(h0, .inr (3, [.ref a0, .ref a1, .ref a2, .ref a3, .ref a4, .ref a5, .ref a6])), (a0, .inl (cI, 22, .inl (zF (σ)))), (a3, .inl (cI, 768, .inl (zF (upI gr (64 * q + w) (flt σ w (ntj σ j)))))), (a4, .inl (cJ, 768, .inr (.inl (zL (upI gw (64 * q + w) 1))))), (a5, .inl (cJ, 768, .inr (.inl (zL (gl)))))] H := hP
        have hD : va_D A [(h0, .inr (3, [.ref a0, .ref a1, .ref a2, .ref a3, .ref a4, .ref a5, .ref a6])), (a0, .inl (cI, 22, .inl (zF (σ)))), (a3, .inl (cI, 768, .inl (zF (upI gr (64 * q + w) (flt σ w (ntj σ j)))))), (a4, .inl (cJ, 768, .inr (.inl (zL (upI gw (64 * q + w) 1))))), (a5, .inl (cJ, 768, .inr (.inl (zL (gl)))))] := hD
        refine lv_aload_n hx hb dX3_layRest_76 rfl (lv_at hl 3 rfl) ?_
        refine va_get (D := D) (ci := 3) (v := .ref a5) (C := RX3) (T := TX3) (N := 7) hx hb hts in_X3_layRest_X3 hown hK hP 0 rfl rfl 5 (by decide) (hts _ m_X3_layRest_3) (fun _ h9 => h9) rfl dX3_layRest_77 ?_
        refine lv_iload_n hx hb dX3_layRest_80 rfl (lv_at hl 2 rfl) ?_
        refine lv_iload hx hb dX3_layRest_81 (lv_at hl 0 rfl) ?_
        refine z_if_eq (a := 1) (tgt := 90) hx hb (by omega) dX3_layRest_83 (by decide) (fun c_83 => ?_) (fun c_83 => ?_)
        · exfalso; omega
        · refine lv_lconst (v := 1) hx hb dX3_layRest_86 rfl ?_
          refine lv_goto (tgt := 91) hx hb dX3_layRest_87 (by decide) ?_
          refine z_last (k := 64 * q + w) (x := 1) (g := gl) hx hb hK hP hD hS 4 1 rfl rfl (by omega) dX3_layRest_91 (fun H locs hP hD hS => ?_)
          have hP : va_P D vwCl [(h0, .inr (3, [.ref a0, .ref a1, .ref a2, .ref a3, .ref a4, .ref a5, .ref a6])), (a0, .inl (cI, 22, .inl (zF (σ)))), (a3, .inl (cI, 768, .inl (zF (upI gr (64 * q + w) (flt σ w (ntj σ j)))))), (a4, .inl (cJ, 768, .inr (.inl (zL (upI gw (64 * q + w) 1))))), (a5, .inl (cJ, 768, .inr (.inl (zL (upI gl (64 * q + w) 1)))))] H := hP
          have hD : va_D A [(h0, .inr (3, [.ref a0, .ref a1, .ref a2, .ref a3, .ref a4, .ref a5, .ref a6])), (a0, .inl (cI, 22, .inl (zF (σ)))), (a3, .inl (cI, 768, .inl (zF (upI gr (64 * q + w) (flt σ w (ntj σ j)))))), (a4, .inl (cJ, 768, .inr (.inl (zL (upI gw (64 * q + w) 1))))), (a5, .inl (cJ, 768, .inr (.inl (zL (upI gl (64 * q + w) 1)))))] := hD
          refine lv_iconst (v := zI (0)) hx hb dX3_layRest_92 rfl ?_
          refine lv_istore (lv' := [(6, .int (zI (0))), (5, .int (zI (1))), (4, .int (zI (flt σ w (ntj σ j)))), (3, .int (zI (64 * q + w))), (0, .ref h0), (1, .int (zI (q))), (2, .int (zI (w)))]) hx hb dX3_layRest_93 hl (by decide) rfl (fun ls hl => ?_)
          refine lv_iload hx hb dX3_layRest_95 (lv_at hl 0 rfl) ?_
          refine lv_bipush (v := zI (64)) hx hb dX3_layRest_97 (by decide +kernel) ?_
          refine z_icmp_ge (a := 0) (b := 64) (tgt := 237) hx hb (by omega) dX3_layRest_99 (by decide) (fun c_99 => ?_) (fun c_99 => ?_)
          · exfalso; omega
          · refine lv_iload hx hb dX3_layRest_102 (lv_at hl 1 rfl) ?_
            refine z_if_ne (a := 1) (tgt := 237) hx hb (by omega) dX3_layRest_104 (by decide) (fun c_104 => ?_) (fun c_104 => ?_)
            · exact hret _ _ _ _ (upI gr (64 * q + w) (flt σ w (ntj σ j)), upI gw (64 * q + w) 1, upI gl (64 * q + w) 1) dX3_layRest_237 ⟨fun c hc => ⟨upI_n hc, upI_n hc, upI_n hc⟩, by show upI _ _ _ _ = _; rw [upI_s, hj0]; rfl, by show upI _ _ _ _ = _; rw [upI_s, hj0]; exact lW_1.symm, by show upI _ _ _ _ = _; rw [upI_s, hj0]; rfl⟩ hP hS
            · exfalso; omega
abbrev rmX3_layAllRests : Room := { frames := 5, cells := 0, slots := 0, locals := 115 }
theorem in_X3_layAllRests_X3 : ∀ w ∈ wsX30, w ∈ wsX3_layAllRests := fun _ h => List.mem_cons_of_mem _ (List.mem_append_right _ h)
theorem m_X3_layAllRests_0 : (.fieldLink RX3 7 "BrassWaysModel" "state" "[I" : Cond) ∈ wsX3_layAllRests := List.mem_of_getElem? (i := 1) rfl
theorem m_X3_layAllRests_1 : (.fieldLink RX3 23 "BrassWaysModel" "ways" "[J" : Cond) ∈ wsX3_layAllRests := List.mem_of_getElem? (i := 2) rfl
set_option maxHeartbeats 4000000 in
set_option maxRecDepth 100000 in
theorem c_X3_layAllRests (l : Launch) (D : va_G) (cI cJ cZ cO : ClassId) (sz : Nat) (h0 : Nat) (a0 : Nat) (a1 : Nat) (a2 : Nat) (a3 : Nat) (a4 : Nat) (a5 : Nat) (a6 : Nat) (σ : Int → Int) (gr : Int → Int) (gw : Int → Int64) (gl : Int → Int64) (hO : Ok σ) : Met l yX3_layAllRests wsX3_layAllRests rmX3_layAllRests (zPc D cI cJ cZ cO [(h0, .inr (3, [.ref a0, .ref a1, .ref a2, .ref a3, .ref a4, .ref a5, .ref a6])), (a0, .inl (cI, 22, .inl (zF (σ)))), (a3, .inl (cI, 768, .inl (zF (gr)))), (a4, .inl (cJ, 768, .inr (.inl (zL (gw))))), (a5, .inl (cJ, 768, .inr (.inl (zL (gl)))))] sz [.ref h0]) (zQv D (fun (u : (Int → Int) × (Int → Int64) × (Int → Int64)) => ∀ i : Nat, (i : Int) < σ 9 → LAY σ u.1 u.2.1 u.2.2 i) (fun (u : (Int → Int) × (Int → Int64) × (Int → Int64)) => [(h0, .inr (3, [.ref a0, .ref a1, .ref a2, .ref a3, .ref a4, .ref a5, .ref a6])), (a0, .inl (cI, 22, .inl (zF (σ)))), (a3, .inl (cI, 768, .inl (zF (u.1)))), (a4, .inl (cJ, 768, .inr (.inl (zL (u.2.1))))), (a5, .inl (cJ, 768, .inr (.inl (zL (u.2.2)))))]) [(h0, .inr (3, [.ref a0, .ref a1, .ref a2, .ref a3, .ref a4, .ref a5, .ref a6])), (a0, .inl (cI, 22, .inl (zF (σ)))), (a3, .inl (cI, 768, .inl (zF (gr)))), (a4, .inl (cJ, 768, .inr (.inl (zL (gw))))), (a5, .inl (cJ, 768, .inr (.inl (zL (gl)))))] sz) 0 0 (va_A [(h0, .inr (3, [.ref a0, .ref a1, .ref a2, .ref a3, .ref a4, .ref a5, .ref a6])), (a0, .inl (cI, 22, .inl (zF (σ)))), (a3, .inl (cI, 768, .inl (zF (gr)))), (a4, .inl (cJ, 768, .inr (.inl (zL (gw))))), (a5, .inl (cJ, 768, .inr (.inl (zL (gl)))))] sz) := by
  refine z_metv (by decide) rfl (Nat.le_of_ble_eq_true rfl) ?_
  intro p e s m args below meth c A Q ls hx hb hml hown hts hA hS hP hD hK hZ hl hret
  have hl : lv_has ls 3 [(0, .ref h0)] := hl
  have o9 := hO.2.2.2.2.2.2.2.2.2.1
  refine lv_aload_n hx hb dX3_layAllRests_0 rfl (lv_at hl 0 rfl) ?_
  refine va_get (D := D) (ci := 3) (v := .ref a0) (C := RX3) (T := TX3) (N := 7) hx hb hts in_X3_layAllRests_X3 hown hK hP 0 rfl rfl 0 (by decide) (hts _ m_X3_layAllRests_0) (fun _ h9 => h9) rfl dX3_layAllRests_1 ?_
  refine lv_bipush (v := zI (9)) hx hb dX3_layAllRests_4 (by decide +kernel) ?_
  refine z_iald (k := 9) (g := σ) hx hb hK hP 1 0 rfl rfl (by omega) dX3_layAllRests_6 ?_
  try dsimp only
  refine lv_iconst (v := zI (1)) hx hb dX3_layAllRests_7 rfl ?_
  refine z_isub (a := σ 9) (b := 1) hx hb dX3_layAllRests_8 ?_
  refine lv_istore_n (lv' := [(1, .int (zI ((σ 9) - 1))), (0, .ref h0)]) hx hb dX3_layAllRests_9 rfl hl (by decide) rfl (fun ls hl => ?_)
  have loop_a : ∀ (f_a : Nat) (j : Nat) (pp : Int) (r1 : Int → Int) (w1 : Int → Int64) (l1 : Int → Int64) (H : Heap) (locs : List Loc) (ls : Array Slot), ((j : Int) ≤ σ 9) → (pp = σ 9 - 1 - (j : Int)) → (∀ i : Nat, i < j → LAY σ r1 w1 l1 i) → (12 - (j : Int) < (f_a : Int)) → va_P D vwCl [(h0, .inr (3, [.ref a0, .ref a1, .ref a2, .ref a3, .ref a4, .ref a5, .ref a6])), (a0, .inl (cI, 22, .inl (zF (σ)))), (a3, .inl (cI, 768, .inl (zF (r1)))), (a4, .inl (cJ, 768, .inr (.inl (zL (w1))))), (a5, .inl (cJ, 768, .inr (.inl (zL (l1)))))] H → va_D A [(h0, .inr (3, [.ref a0, .ref a1, .ref a2, .ref a3, .ref a4, .ref a5, .ref a6])), (a0, .inl (cI, 22, .inl (zF (σ)))), (a3, .inl (cI, 768, .inl (zF (r1)))), (a4, .inl (cJ, 768, .inr (.inl (zL (w1))))), (a5, .inl (cJ, 768, .inr (.inl (zL (l1)))))] → va_S A s.heap H locs → lv_has ls 3 [(0, .ref h0), (1, .int (zI (pp)))] → W p l e rmX3_layAllRests s m args below meth c H locs 0 0 Q (F0 m 10 ls []) := by
    intro f_a
    induction f_a with
    | zero =>
      intros
      exfalso; omega
    | succ f_a ih_a =>
      intro j pp r1 w1 l1 H locs ls e_j e_p e_L hfu_a hP hD hS hl
      refine lv_iload_n hx hb dX3_layAllRests_10 rfl (lv_at hl 1 rfl) ?_
      refine z_if_lt (a := pp) (tgt := 60) hx hb (by omega) dX3_layAllRests_11 (by decide) (fun c_11 => ?_) (fun c_11 => ?_)
      · exact hret _ _ _ _ (r1, w1, l1) dX3_layAllRests_60 (fun i hi => e_L i (by omega)) hP hS
      · have hn : ntj σ j = σ (10 + pp) := by unfold ntj; rw [e_p]
        refine lv_iconst (v := zI (0)) hx hb dX3_layAllRests_14 rfl ?_
        refine lv_istore_n (lv' := [(2, .int (zI (0))), (0, .ref h0), (1, .int (zI (pp)))]) hx hb dX3_layAllRests_15 rfl hl (by decide) rfl (fun ls hl => ?_)
        have loop_b : ∀ (f_b : Nat) (k : Nat) (r2 : Int → Int) (w2 : Int → Int64) (l2 : Int → Int64) (H : Heap) (locs : List Loc) (ls : Array Slot), (k ≤ 64) → (∀ i : Nat, i < j → LAY σ r2 w2 l2 i) → (LAYK σ r2 w2 l2 j pp k) → (64 - (k : Int) < (f_b : Int)) → va_P D vwCl [(h0, .inr (3, [.ref a0, .ref a1, .ref a2, .ref a3, .ref a4, .ref a5, .ref a6])), (a0, .inl (cI, 22, .inl (zF (σ)))), (a3, .inl (cI, 768, .inl (zF (r2)))), (a4, .inl (cJ, 768, .inr (.inl (zL (w2))))), (a5, .inl (cJ, 768, .inr (.inl (zL (l2)))))] H → va_D A [(h0, .inr (3, [.ref a0, .ref a1, .ref a2, .ref a3, .ref a4, .ref a5, .ref a6])), (a0, .inl (cI, 22, .inl (zF (σ)))), (a3, .inl (cI, 768, .inl (zF (r2)))), (a4, .inl (cJ, 768, .inr (.inl (zL (w2))))), (a5, .inl (cJ, 768, .inr (.inl (zL (l2)))))] → va_S A s.heap H locs → lv_has ls 3 [(0, .ref h0), (1, .int (zI (pp))), (2, .int (zI ((k : Int))))] → W p l e rmX3_layAllRests s m args below meth c H locs 0 0 Q (F0 m 16 ls []) := by
          intro f_b
          induction f_b with
          | zero =>
            intros
            exfalso; omega
          | succ f_b ih_b =>
            intro k r2 w2 l2 H locs ls e_k e_M e_N hfu_b hP hD hS hl
            refine lv_iload_n hx hb dX3_layAllRests_16 rfl (lv_at hl 2 rfl) ?_
            refine lv_bipush (v := zI (64)) hx hb dX3_layAllRests_17 (by decide +kernel) ?_
            refine z_icmp_ge (a := (k : Int)) (b := 64) (tgt := 54) hx hb (by omega) dX3_layAllRests_19 (by decide) (fun c_19 => ?_) (fun c_19 => ?_)
            · refine lv_iinc (v := zI (pp + (-1))) (lv' := [(1, .int (zI (pp + (-1)))), (0, .ref h0), (2, .int (zI ((k : Int))))]) hx hb dX3_layAllRests_54 hl (k := 1) rfl (zI_add _ _) (by decide) rfl (fun ls hl => ?_)
              refine lv_goto (tgt := 10) hx hb dX3_layAllRests_57 (by decide) ?_
              exact ih_a (j + 1) (pp + (-1)) (r2) (w2) (l2) _ _ _ (by omega) (by omega) (fun i hi => if hij : i = j then by rw [hij]; exact LAY_of e_p (by rw [show k = 64 by omega] at e_N; exact e_N) else e_M i (by omega)) (by omega) hP hD hS (lv_sub hl [1, 0] rfl)
            · refine lv_aload_n hx hb dX3_layAllRests_22 rfl (lv_at hl 0 rfl) ?_
              refine va_get (D := D) (ci := 3) (v := .ref a4) (C := RX3) (T := TX3) (N := 7) hx hb hts in_X3_layAllRests_X3 hown hK hP 0 rfl rfl 4 (by decide) (hts _ m_X3_layAllRests_1) (fun _ h9 => h9) rfl dX3_layAllRests_23 ?_
              refine lv_iload_n hx hb dX3_layAllRests_26 rfl (lv_at hl 1 rfl) ?_
              refine lv_iload_n hx hb dX3_layAllRests_27 rfl (lv_at hl 2 rfl) ?_
              refine z_Sir (As := [.int (zI (pp)), .int (zI ((k : Int)))]) (rest := [.ref a4]) hx hb hml hown hts hA hS hP hD hK hZ hl.1 (c_X3_at l D cI cJ cZ cO _ (pp) ((k : Int)) ) (va_cwS 2 hts gX3_layAllRests_X3_at rfl rfl rfl (by decide +kernel) ⟨Nat.le_of_ble_eq_true rfl, Nat.le_of_ble_eq_true rfl⟩) [] rfl rfl rfl rfl (Nat.le_of_ble_eq_true rfl) ⟨Nat.zero_le _, Nat.zero_le _⟩ dX3_layAllRests_28 (fun r u H locs hw hP hS => ?_)
              subst hw
              refine lv_lconst (v := 0) hx hb dX3_layAllRests_31 rfl ?_
              refine z_last (k := 64 * pp + (k : Int)) (x := 0) (g := w2) hx hb hK hP hD hS 3 1 rfl rfl (by omega) dX3_layAllRests_32 (fun H locs hP hD hS => ?_)
              have hP : va_P D vwCl [(h0, .inr (3, [.ref a0, .ref a1, .ref a2, .ref a3, .ref a4, .ref a5, .ref a6])), (a0, .inl (cI, 22, .inl (zF (σ)))), (a3, .inl (cI, 768, .inl (zF (r2)))), (a4, .inl (cJ, 768, .inr (.inl (zL (upI w2 (64 * pp + (k : Int)) 0))))), (a5, .inl (cJ, 768, .inr (.inl (zL (l2)))))] H := hP
              have hD : va_D A [(h0, .inr (3, [.ref a0, .ref a1, .ref a2, .ref a3, .ref a4, .ref a5, .ref a6])), (a0, .inl (cI, 22, .inl (zF (σ)))), (a3, .inl (cI, 768, .inl (zF (r2)))), (a4, .inl (cJ, 768, .inr (.inl (zL (upI w2 (64 * pp + (k : Int)) 0))))), (a5, .inl (cJ, 768, .inr (.inl (zL (l2)))))] := hD
              refine lv_aload_n hx hb dX3_layAllRests_33 rfl (lv_at hl 0 rfl) ?_
              refine lv_iload_n hx hb dX3_layAllRests_34 rfl (lv_at hl 1 rfl) ?_
              refine lv_iload_n hx hb dX3_layAllRests_35 rfl (lv_at hl 2 rfl) ?_
              refine z_Vir (As := [.int (zI (pp)), .int (zI ((k : Int)))]) (rest := []) hx hb hml hown hts hA hS hP hD hK hZ hl.1 (c_X3_isAt l D cI cJ cZ cO _ (h0) (a0) (a1) (a2) (a3) (a4) (a5) (a6) (σ) (pp) ((k : Int)) (by omega) (by omega) hO) (cwV 2 hts gX3_layAllRests_X3_isAt rfl rfl rfl (by decide +kernel) ⟨Nat.le_of_ble_eq_true rfl, Nat.le_of_ble_eq_true rfl⟩) [0, 1] rfl rfl 0 3 rfl rfl rfl rfl (Nat.le_of_ble_eq_true rfl) ⟨Nat.zero_le _, Nat.zero_le _⟩ dX3_layAllRests_36 (fun r u H locs hw hP hS => ?_)
              subst hw
              refine z_ifB_eq (P := sd σ (k : Int) (σ (10 + pp)) = true) (tgt := 48) hx hb dX3_layAllRests_39 (by decide) (fun c_39 => ?_) (fun c_39 => ?_)
              · refine lv_iinc (v := zI ((k : Int) + 1)) (lv' := [(2, .int (zI ((k : Int) + 1))), (0, .ref h0), (1, .int (zI (pp)))]) hx hb dX3_layAllRests_48 hl (k := 2) rfl (zI_add _ _) (by decide) rfl (fun ls hl => ?_)
                refine lv_goto (tgt := 16) hx hb dX3_layAllRests_51 (by decide) ?_
                exact ih_b (k + 1) (r2) (upI w2 (64 * pp + (k : Int)) 0) (l2) _ _ _ (by omega) (fun i hi => LAY_keep (e_M i (by omega)) (c := 64 * pp + (k : Int)) (fun x hx => ⟨rfl, upI_n hx, rfl⟩) (by intro v h1 h2; omega)) (LAYK_n e_N (by rw [hn]; exact c_39)) (by omega) hP hD hS (lv_sub hl [1, 2, 0] rfl)
              · refine lv_aload_n hx hb dX3_layAllRests_42 rfl (lv_at hl 0 rfl) ?_
                refine lv_iload_n hx hb dX3_layAllRests_43 rfl (lv_at hl 1 rfl) ?_
                refine lv_iload_n hx hb dX3_layAllRests_44 rfl (lv_at hl 2 rfl) ?_
                refine z_Vvw (As := [.int (zI (pp)), .int (zI ((k : Int)))]) (rest := []) hx hb hml hown hts hA hS hP hD hK hZ hl.1 (c_X3_layRest l D cI cJ cZ cO _ (h0) (a0) (a1) (a2) (a3) (a4) (a5) (a6) (σ) (r2) (upI w2 (64 * pp + (k : Int)) 0) (l2) (j) (pp) ((k : Int)) (by omega) (by omega) (by omega) hO (fun i hi => LAY_keep (e_M i (by omega)) (c := 64 * pp + (k : Int)) (fun x hx => ⟨rfl, upI_n hx, rfl⟩) (by intro v h1 h2; omega))) (cwV 2 hts gX3_layAllRests_X3_layRest rfl rfl rfl (by decide +kernel) ⟨Nat.le_of_ble_eq_true rfl, Nat.le_of_ble_eq_true rfl⟩) [0, 1, 2, 3, 4] rfl rfl (fun _ => rfl) 0 3 rfl rfl rfl rfl (Nat.le_of_ble_eq_true rfl) ⟨Nat.zero_le _, Nat.zero_le _⟩ dX3_layAllRests_45 (fun u1 H locs hw hP hD hS => ?_)
                have hP : va_P D vwCl [(h0, .inr (3, [.ref a0, .ref a1, .ref a2, .ref a3, .ref a4, .ref a5, .ref a6])), (a0, .inl (cI, 22, .inl (zF (σ)))), (a3, .inl (cI, 768, .inl (zF (u1.1)))), (a4, .inl (cJ, 768, .inr (.inl (zL (u1.2.1))))), (a5, .inl (cJ, 768, .inr (.inl (zL (u1.2.2)))))] H := hP
                have hD : va_D A [(h0, .inr (3, [.ref a0, .ref a1, .ref a2, .ref a3, .ref a4, .ref a5, .ref a6])), (a0, .inl (cI, 22, .inl (zF (σ)))), (a3, .inl (cI, 768, .inl (zF (u1.1)))), (a4, .inl (cJ, 768, .inr (.inl (zL (u1.2.1))))), (a5, .inl (cJ, 768, .inr (.inl (zL (u1.2.2)))))] := hD
                refine lv_iinc (v := zI ((k : Int) + 1)) (lv' := [(2, .int (zI ((k : Int) + 1))), (0, .ref h0), (1, .int (zI (pp)))]) hx hb dX3_layAllRests_48 hl (k := 2) rfl (zI_add _ _) (by decide) rfl (fun ls hl => ?_)
                refine lv_goto (tgt := 16) hx hb dX3_layAllRests_51 (by decide) ?_
                exact ih_b (k + 1) (u1.1) (u1.2.1) (u1.2.2) _ _ _ (by omega) (fun i hi => LAY_keep (e_M i (by omega)) (c := 64 * pp + (k : Int)) (fun x hx => ⟨(hw.1 x hx).1, ((hw.1 x hx).2.1).trans (upI_n hx), (hw.1 x hx).2.2⟩) (by intro v h1 h2; omega)) (LAYK_y e_N (by rw [hn]; exact c_39) (fun x hx => ⟨(hw.1 x hx).1, ((hw.1 x hx).2.1).trans (upI_n hx), (hw.1 x hx).2.2⟩) hw.2.1 hw.2.2.1 hw.2.2.2) (by omega) hP hD hS (lv_sub hl [1, 2, 0] rfl)
        exact loop_b 70 (0) (r1) (w1) (l1) _ _ _ (by omega) (e_L) (LAYK_0) (by omega) hP hD hS (lv_sub hl [1, 2, 0] rfl)
  exact loop_a 70 (0) ((σ 9) - 1) (gr) (gw) (gl) _ _ _ (by omega) (by omega) (fun i h => absurd h (by omega)) (by omega) hP hD hS (lv_sub hl [1, 0] rfl)
abbrev rmX3_leastOfAll : Room := { frames := 0, cells := 0, slots := 0, locals := 0 }
theorem in_X3_leastOfAll_X3 : ∀ w ∈ wsX30, w ∈ wsX3_leastOfAll := fun _ h => List.mem_cons_of_mem _ (List.mem_append_right _ h)
theorem m_X3_leastOfAll_0 : (.fieldLink RX3 7 "BrassWaysModel" "state" "[I" : Cond) ∈ wsX3_leastOfAll := List.mem_of_getElem? (i := 1) rfl
theorem m_X3_leastOfAll_1 : (.fieldLink RX3 23 "BrassWaysModel" "ways" "[J" : Cond) ∈ wsX3_leastOfAll := List.mem_of_getElem? (i := 2) rfl
theorem m_X3_leastOfAll_2 : (.fieldLink RX3 20 "BrassWaysModel" "rest" "[I" : Cond) ∈ wsX3_leastOfAll := List.mem_of_getElem? (i := 3) rfl
set_option maxHeartbeats 4000000 in
set_option maxRecDepth 100000 in
theorem c_X3_leastOfAll (l : Launch) (D : va_G) (cI cJ cZ cO : ClassId) (sz : Nat) (h0 : Nat) (a0 : Nat) (a1 : Nat) (a2 : Nat) (a3 : Nat) (a4 : Nat) (a5 : Nat) (a6 : Nat) (σ : Int → Int) (gr : Int → Int) (gw : Int → Int64) (gl : Int → Int64) (hO : Ok σ) (hL : ∀ i : Nat, (i : Int) < σ 9 → LAY σ gr gw gl i) : Met l yX3_leastOfAll wsX3_leastOfAll rmX3_leastOfAll (zPc D cI cJ cZ cO [(h0, .inr (3, [.ref a0, .ref a1, .ref a2, .ref a3, .ref a4, .ref a5, .ref a6])), (a0, .inl (cI, 22, .inl (zF (σ)))), (a3, .inl (cI, 768, .inl (zF (gr)))), (a4, .inl (cJ, 768, .inr (.inl (zL (gw)))))] sz [.ref h0]) (zQi D (fun (r : Int32) (_ : Unit) => r = zI (LEAST σ)) (fun (_ : Unit) => [(h0, .inr (3, [.ref a0, .ref a1, .ref a2, .ref a3, .ref a4, .ref a5, .ref a6])), (a0, .inl (cI, 22, .inl (zF (σ)))), (a3, .inl (cI, 768, .inl (zF (gr)))), (a4, .inl (cJ, 768, .inr (.inl (zL (gw)))))]) [(h0, .inr (3, [.ref a0, .ref a1, .ref a2, .ref a3, .ref a4, .ref a5, .ref a6])), (a0, .inl (cI, 22, .inl (zF (σ)))), (a3, .inl (cI, 768, .inl (zF (gr)))), (a4, .inl (cJ, 768, .inr (.inl (zL (gw)))))] sz) 0 0 (va_A [(h0, .inr (3, [.ref a0, .ref a1, .ref a2, .ref a3, .ref a4, .ref a5, .ref a6])), (a0, .inl (cI, 22, .inl (zF (σ)))), (a3, .inl (cI, 768, .inl (zF (gr)))), (a4, .inl (cJ, 768, .inr (.inl (zL (gw)))))] sz) := by
  refine z_meti (by decide) rfl (Nat.le_of_ble_eq_true rfl) ?_
  intro p e s m args below meth c A Q ls hx hb hml hown hts hA hS hP hD hK hZ hl hret
  have hl : lv_has ls 4 [(0, .ref h0)] := hl
  have o9 := hO.2.2.2.2.2.2.2.2.2.1
  refine lv_aload_n hx hb dX3_leastOfAll_0 rfl (lv_at hl 0 rfl) ?_
  refine va_get (D := D) (ci := 3) (v := .ref a0) (C := RX3) (T := TX3) (N := 7) hx hb hts in_X3_leastOfAll_X3 hown hK hP 0 rfl rfl 0 (by decide) (hts _ m_X3_leastOfAll_0) (fun _ h9 => h9) rfl dX3_leastOfAll_1 ?_
  refine lv_bipush (v := zI (9)) hx hb dX3_leastOfAll_4 (by decide +kernel) ?_
  refine z_iald (k := 9) (g := σ) hx hb hK hP 1 0 rfl rfl (by omega) dX3_leastOfAll_6 ?_
  try dsimp only
  refine z_if_ne (a := σ 9) (tgt := 12) hx hb (by omega) dX3_leastOfAll_7 (by decide) (fun c_7 => ?_) (fun c_7 => ?_)
  · obtain ⟨j0, hj0⟩ : ∃ j0 : Nat, (j0 : Int) = σ 9 - 1 := ⟨(σ 9 - 1).toNat, by omega⟩
    have hLL : ∀ v : Int, 0 ≤ v → v < 64 → gw v = lW (WW σ j0 v) ∧ (sd σ v (ntj σ j0) = true → gr v = RR σ j0 v ∧ gl v = TT σ j0 v) := by intro v h1 h2; have h := hL j0 (by omega) v h1 h2; rw [show 64 * (σ 9 - 1 - (j0 : Int)) + v = v by omega] at h; exact h
    refine lv_bipush (v := zI (-6)) hx hb dX3_leastOfAll_12 (by decide +kernel) ?_
    refine lv_istore_n (lv' := [(1, .int (zI (-6))), (0, .ref h0)]) hx hb dX3_leastOfAll_14 rfl hl (by decide) rfl (fun ls hl => ?_)
    refine lv_iconst (v := zI (0)) hx hb dX3_leastOfAll_15 rfl ?_
    refine lv_istore_n (lv' := [(2, .int (zI (0))), (1, .int (zI (-6))), (0, .ref h0)]) hx hb dX3_leastOfAll_16 rfl hl (by decide) rfl (fun ls hl => ?_)
    have loop_a : ∀ (f_a : Nat) (k : Nat) (y : Int) (H : Heap) (locs : List Loc) (ls : Array Slot), (k ≤ 64) → (-6 ≤ y ∧ y ≤ 60000) → (y = mbs (qW σ j0) (RR σ j0) (-6) k) → (64 - (k : Int) < (f_a : Int)) → va_P D vwCl [(h0, .inr (3, [.ref a0, .ref a1, .ref a2, .ref a3, .ref a4, .ref a5, .ref a6])), (a0, .inl (cI, 22, .inl (zF (σ)))), (a3, .inl (cI, 768, .inl (zF (gr)))), (a4, .inl (cJ, 768, .inr (.inl (zL (gw)))))] H → va_D A [(h0, .inr (3, [.ref a0, .ref a1, .ref a2, .ref a3, .ref a4, .ref a5, .ref a6])), (a0, .inl (cI, 22, .inl (zF (σ)))), (a3, .inl (cI, 768, .inl (zF (gr)))), (a4, .inl (cJ, 768, .inr (.inl (zL (gw)))))] → va_S A s.heap H locs → lv_has ls 4 [(0, .ref h0), (1, .int (zI (y))), (2, .int (zI ((k : Int))))] → W p l e rmX3_leastOfAll s m args below meth c H locs 0 0 Q (F0 m 17 ls []) := by
      intro f_a
      induction f_a with
      | zero =>
        intros
        exfalso; omega
      | succ f_a ih_a =>
        intro k y H locs ls e_k e_b e_y hfu_a hP hD hS hl
        have hWb := WW_in hO (j := j0) (by omega) (k : Int)
        refine lv_iload_n hx hb dX3_leastOfAll_17 rfl (lv_at hl 2 rfl) ?_
        refine lv_bipush (v := zI (64)) hx hb dX3_leastOfAll_18 (by decide +kernel) ?_
        refine z_icmp_ge (a := (k : Int)) (b := 64) (tgt := 75) hx hb (by omega) dX3_leastOfAll_20 (by decide) (fun c_20 => ?_) (fun c_20 => ?_)
        · refine lv_iload_n hx hb dX3_leastOfAll_75 rfl (lv_at hl 1 rfl) ?_
          exact hret _ _ _ _ _ () dX3_leastOfAll_76 (by unfold LEAST; rw [if_neg c_7, e_y, show k = 64 by omega, show (σ 9 - 1).toNat = j0 by omega]) hP hS
        · refine lv_aload_n hx hb dX3_leastOfAll_23 rfl (lv_at hl 0 rfl) ?_
          refine va_get (D := D) (ci := 3) (v := .ref a4) (C := RX3) (T := TX3) (N := 7) hx hb hts in_X3_leastOfAll_X3 hown hK hP 0 rfl rfl 4 (by decide) (hts _ m_X3_leastOfAll_1) (fun _ h9 => h9) rfl dX3_leastOfAll_24 ?_
          refine lv_iload_n hx hb dX3_leastOfAll_27 rfl (lv_at hl 2 rfl) ?_
          refine z_lald (k := (k : Int)) (g := gw) hx hb hK hP 3 1 rfl rfl (by omega) dX3_leastOfAll_28 ?_
          try dsimp only
          refine z_topl (y := lW (WW σ j0 (k : Int))) ((hLL (k : Int) (by omega) (by omega)).1) ?_
          refine lv_lconst (v := 0) hx hb dX3_leastOfAll_29 rfl ?_
          refine z_lcmp_le (x := lW (WW σ j0 (k : Int))) (y := 0) (tgt := 52) hx hb dX3_leastOfAll_30 dX3_leastOfAll_31 (by decide) (fun c_30 => ?_) (fun c_30 => ?_)
          · have hnw : ¬ 0 < WW σ j0 (k : Int) := by have := (lW_le0 (by omega)).mp c_30; omega
            have hnq : ¬ qW σ j0 (k : Int) = true := by rw [decide_eq_true_eq]; exact hnw
            refine lv_iconst (v := zI (0)) hx hb dX3_leastOfAll_52 rfl ?_
            refine lv_istore_n (lv' := [(3, .int (zI (0))), (0, .ref h0), (1, .int (zI (y))), (2, .int (zI ((k : Int))))]) hx hb dX3_leastOfAll_53 rfl hl (by decide) rfl (fun ls hl => ?_)
            refine lv_iload_n hx hb dX3_leastOfAll_54 rfl (lv_at hl 0 rfl) ?_
            refine z_if_eq (a := 0) (tgt := 67) hx hb (by omega) dX3_leastOfAll_55 (by decide) (fun c_55 => ?_) (fun c_55 => ?_)
            · refine lv_iload_n hx hb dX3_leastOfAll_67 rfl (lv_at hl 2 rfl) ?_
              refine lv_istore_n (lv' := [(1, .int (zI (y))), (3, .int (zI (0))), (0, .ref h0), (2, .int (zI ((k : Int))))]) hx hb dX3_leastOfAll_68 rfl hl (by decide) rfl (fun ls hl => ?_)
              refine lv_iinc (v := zI ((k : Int) + 1)) (lv' := [(2, .int (zI ((k : Int) + 1))), (1, .int (zI (y))), (3, .int (zI (0))), (0, .ref h0)]) hx hb dX3_leastOfAll_69 hl (k := 3) rfl (zI_add _ _) (by decide) rfl (fun ls hl => ?_)
              refine lv_goto (tgt := 17) hx hb dX3_leastOfAll_72 (by decide) ?_
              exact ih_a (k + 1) (y) _ _ _ (by omega) (by omega) (by rw [mbs_s e_y]; first | (rw [if_neg hnq]; done) | (rw [if_pos hyq, if_pos (Or.inl c_35)]; done) | (rw [if_pos hyq, if_pos (Or.inr c_45)]; done) | (rw [if_pos hyq, if_neg (fun h => h.elim (fun g => by omega) (fun g => Int.not_lt.mpr c_45 g))]; done)) (by omega) hP hD hS (lv_sub hl [3, 1, 0] rfl)
            · exfalso; omega
          · have hyw : 0 < WW σ j0 (k : Int) := (lW_gt0 (by omega)).mp c_30
            have hyq : qW σ j0 (k : Int) = true := decide_eq_true hyw
            have hRR := (hLL (k : Int) (by omega) (by omega)).2 (WW_sd hyw).1
            have hR := RR_in hO j0 (by omega) (k : Int) (by omega)
            have hR2 := hR.2 hyw
            refine lv_iload_n hx hb dX3_leastOfAll_34 rfl (lv_at hl 1 rfl) ?_
            refine z_if_lt (a := y) (tgt := 48) hx hb (by omega) dX3_leastOfAll_35 (by decide) (fun c_35 => ?_) (fun c_35 => ?_)
            · refine lv_iconst (v := zI (1)) hx hb dX3_leastOfAll_48 rfl ?_
              refine lv_goto (tgt := 53) hx hb dX3_leastOfAll_49 (by decide) ?_
              refine lv_istore_n (lv' := [(3, .int (zI (1))), (0, .ref h0), (1, .int (zI (y))), (2, .int (zI ((k : Int))))]) hx hb dX3_leastOfAll_53 rfl hl (by decide) rfl (fun ls hl => ?_)
              refine lv_iload_n hx hb dX3_leastOfAll_54 rfl (lv_at hl 0 rfl) ?_
              refine z_if_eq (a := 1) (tgt := 67) hx hb (by omega) dX3_leastOfAll_55 (by decide) (fun c_55 => ?_) (fun c_55 => ?_)
              · exfalso; omega
              · refine lv_aload_n hx hb dX3_leastOfAll_58 rfl (lv_at hl 1 rfl) ?_
                refine va_get (D := D) (ci := 3) (v := .ref a3) (C := RX3) (T := TX3) (N := 7) hx hb hts in_X3_leastOfAll_X3 hown hK hP 0 rfl rfl 3 (by decide) (hts _ m_X3_leastOfAll_2) (fun _ h9 => h9) rfl dX3_leastOfAll_59 ?_
                refine lv_iload_n hx hb dX3_leastOfAll_62 rfl (lv_at hl 3 rfl) ?_
                refine z_iald (k := (k : Int)) (g := gr) hx hb hK hP 2 0 rfl rfl (by omega) dX3_leastOfAll_63 ?_
                try dsimp only
                refine z_top (y := zI (RR σ j0 (k : Int))) (by rw [hRR.1]) ?_
                refine lv_goto (tgt := 68) hx hb dX3_leastOfAll_64 (by decide) ?_
                refine lv_istore_n (lv' := [(1, .int (zI (RR σ j0 (k : Int)))), (3, .int (zI (1))), (0, .ref h0), (2, .int (zI ((k : Int))))]) hx hb dX3_leastOfAll_68 rfl hl (by decide) rfl (fun ls hl => ?_)
                refine lv_iinc (v := zI ((k : Int) + 1)) (lv' := [(2, .int (zI ((k : Int) + 1))), (1, .int (zI (RR σ j0 (k : Int)))), (3, .int (zI (1))), (0, .ref h0)]) hx hb dX3_leastOfAll_69 hl (k := 3) rfl (zI_add _ _) (by decide) rfl (fun ls hl => ?_)
                refine lv_goto (tgt := 17) hx hb dX3_leastOfAll_72 (by decide) ?_
                exact ih_a (k + 1) (RR σ j0 (k : Int)) _ _ _ (by omega) (by omega) (by rw [mbs_s e_y]; first | (rw [if_neg hnq]; done) | (rw [if_pos hyq, if_pos (Or.inl c_35)]; done) | (rw [if_pos hyq, if_pos (Or.inr c_45)]; done) | (rw [if_pos hyq, if_neg (fun h => h.elim (fun g => by omega) (fun g => Int.not_lt.mpr c_45 g))]; done)) (by omega) hP hD hS (lv_sub hl [3, 1, 0] rfl)
            · refine lv_aload_n hx hb dX3_leastOfAll_38 rfl (lv_at hl 0 rfl) ?_
              refine va_get (D := D) (ci := 3) (v := .ref a3) (C := RX3) (T := TX3) (N := 7) hx hb hts in_X3_leastOfAll_X3 hown hK hP 0 rfl rfl 3 (by decide) (hts _ m_X3_leastOfAll_2) (fun _ h9 => h9) rfl dX3_leastOfAll_39 ?_
              refine lv_iload_n hx hb dX3_leastOfAll_42 rfl (lv_at hl 2 rfl) ?_
              refine z_iald (k := (k : Int)) (g := gr) hx hb hK hP 2 0 rfl rfl (by omega) dX3_leastOfAll_43 ?_
              try dsimp only
              refine z_top (y := zI (RR σ j0 (k : Int))) (by rw [hRR.1]) ?_
              refine lv_iload_n hx hb dX3_leastOfAll_44 rfl (lv_at hl 1 rfl) ?_
              refine z_icmp_ge (a := RR σ j0 (k : Int)) (b := y) (tgt := 52) hx hb (by omega) dX3_leastOfAll_45 (by decide) (fun c_45 => ?_) (fun c_45 => ?_)
              · refine lv_iconst (v := zI (0)) hx hb dX3_leastOfAll_52 rfl ?_
                refine lv_istore_n (lv' := [(3, .int (zI (0))), (0, .ref h0), (1, .int (zI (y))), (2, .int (zI ((k : Int))))]) hx hb dX3_leastOfAll_53 rfl hl (by decide) rfl (fun ls hl => ?_)
                refine lv_iload_n hx hb dX3_leastOfAll_54 rfl (lv_at hl 0 rfl) ?_
                refine z_if_eq (a := 0) (tgt := 67) hx hb (by omega) dX3_leastOfAll_55 (by decide) (fun c_55 => ?_) (fun c_55 => ?_)
                · refine lv_iload_n hx hb dX3_leastOfAll_67 rfl (lv_at hl 2 rfl) ?_
                  refine lv_istore_n (lv' := [(1, .int (zI (y))), (3, .int (zI (0))), (0, .ref h0), (2, .int (zI ((k : Int))))]) hx hb dX3_leastOfAll_68 rfl hl (by decide) rfl (fun ls hl => ?_)
                  refine lv_iinc (v := zI ((k : Int) + 1)) (lv' := [(2, .int (zI ((k : Int) + 1))), (1, .int (zI (y))), (3, .int (zI (0))), (0, .ref h0)]) hx hb dX3_leastOfAll_69 hl (k := 3) rfl (zI_add _ _) (by decide) rfl (fun ls hl => ?_)
                  refine lv_goto (tgt := 17) hx hb dX3_leastOfAll_72 (by decide) ?_
                  exact ih_a (k + 1) (y) _ _ _ (by omega) (by omega) (by rw [mbs_s e_y]; first | (rw [if_neg hnq]; done) | (rw [if_pos hyq, if_pos (Or.inl c_35)]; done) | (rw [if_pos hyq, if_pos (Or.inr c_45)]; done) | (rw [if_pos hyq, if_neg (fun h => h.elim (fun g => by omega) (fun g => Int.not_lt.mpr c_45 g))]; done)) (by omega) hP hD hS (lv_sub hl [3, 1, 0] rfl)
                · exfalso; omega
              · refine lv_iconst (v := zI (1)) hx hb dX3_leastOfAll_48 rfl ?_
                refine lv_goto (tgt := 53) hx hb dX3_leastOfAll_49 (by decide) ?_
                refine lv_istore_n (lv' := [(3, .int (zI (1))), (0, .ref h0), (1, .int (zI (y))), (2, .int (zI ((k : Int))))]) hx hb dX3_leastOfAll_53 rfl hl (by decide) rfl (fun ls hl => ?_)
                refine lv_iload_n hx hb dX3_leastOfAll_54 rfl (lv_at hl 0 rfl) ?_
                refine z_if_eq (a := 1) (tgt := 67) hx hb (by omega) dX3_leastOfAll_55 (by decide) (fun c_55 => ?_) (fun c_55 => ?_)
                · exfalso; omega
                · refine lv_aload_n hx hb dX3_leastOfAll_58 rfl (lv_at hl 1 rfl) ?_
                  refine va_get (D := D) (ci := 3) (v := .ref a3) (C := RX3) (T := TX3) (N := 7) hx hb hts in_X3_leastOfAll_X3 hown hK hP 0 rfl rfl 3 (by decide) (hts _ m_X3_leastOfAll_2) (fun _ h9 => h9) rfl dX3_leastOfAll_59 ?_
                  refine lv_iload_n hx hb dX3_leastOfAll_62 rfl (lv_at hl 3 rfl) ?_
                  refine z_iald (k := (k : Int)) (g := gr) hx hb hK hP 2 0 rfl rfl (by omega) dX3_leastOfAll_63 ?_
                  try dsimp only
                  refine z_top (y := zI (RR σ j0 (k : Int))) (by rw [hRR.1]) ?_
                  refine lv_goto (tgt := 68) hx hb dX3_leastOfAll_64 (by decide) ?_
                  refine lv_istore_n (lv' := [(1, .int (zI (RR σ j0 (k : Int)))), (3, .int (zI (1))), (0, .ref h0), (2, .int (zI ((k : Int))))]) hx hb dX3_leastOfAll_68 rfl hl (by decide) rfl (fun ls hl => ?_)
                  refine lv_iinc (v := zI ((k : Int) + 1)) (lv' := [(2, .int (zI ((k : Int) + 1))), (1, .int (zI (RR σ j0 (k : Int)))), (3, .int (zI (1))), (0, .ref h0)]) hx hb dX3_leastOfAll_69 hl (k := 3) rfl (zI_add _ _) (by decide) rfl (fun ls hl => ?_)
                  refine lv_goto (tgt := 17) hx hb dX3_leastOfAll_72 (by decide) ?_
                  exact ih_a (k + 1) (RR σ j0 (k : Int)) _ _ _ (by omega) (by omega) (by rw [mbs_s e_y]; first | (rw [if_neg hnq]; done) | (rw [if_pos hyq, if_pos (Or.inl c_35)]; done) | (rw [if_pos hyq, if_pos (Or.inr c_45)]; done) | (rw [if_pos hyq, if_neg (fun h => h.elim (fun g => by omega) (fun g => Int.not_lt.mpr c_45 g))]; done)) (by omega) hP hD hS (lv_sub hl [3, 1, 0] rfl)
    exact loop_a 70 (0) (-6) _ _ _ (by omega) (by omega) (rfl) (by omega) hP hD hS (lv_sub hl [2, 1, 0] rfl)
  · refine lv_iconst (v := zI (0)) hx hb dX3_leastOfAll_10 rfl ?_
    exact hret _ _ _ _ _ () dX3_leastOfAll_11 (by unfold LEAST; rw [if_pos c_7]) hP hS
abbrev rmX3_nextWay : Room := { frames := 2, cells := 0, slots := 0, locals := 43 }
theorem in_X3_nextWay_X3 : ∀ w ∈ wsX30, w ∈ wsX3_nextWay := fun _ h => List.mem_cons_of_mem _ (List.mem_append_right _ h)
theorem m_X3_nextWay_0 : (.fieldLink RX3 20 "BrassWaysModel" "rest" "[I" : Cond) ∈ wsX3_nextWay := List.mem_of_getElem? (i := 1) rfl
theorem m_X3_nextWay_1 : (.fieldLink RX3 23 "BrassWaysModel" "ways" "[J" : Cond) ∈ wsX3_nextWay := List.mem_of_getElem? (i := 2) rfl
set_option maxHeartbeats 4000000 in
set_option maxRecDepth 100000 in
theorem c_X3_nextWay (l : Launch) (D : va_G) (cI cJ cZ cO : ClassId) (sz : Nat) (h0 : Nat) (a0 : Nat) (a1 : Nat) (a2 : Nat) (a3 : Nat) (a4 : Nat) (a5 : Nat) (a6 : Nat) (σ : Int → Int) (gr : Int → Int) (gw : Int → Int64) (gl : Int → Int64) (j : Nat) (q : Int) (a : Int) (d : Int) (hq : q = σ 9 - 1 - (j : Int)) (hq0 : 0 ≤ q) (ha : q = 0 ∨ (0 ≤ a ∧ a < 64)) (hd : -2147483648 ≤ d ∧ d < 2147483648) (hO : Ok σ) (hL : LAY σ gr gw gl j) : Met l yX3_nextWay wsX3_nextWay rmX3_nextWay (zPc D cI cJ cZ cO [(h0, .inr (3, [.ref a0, .ref a1, .ref a2, .ref a3, .ref a4, .ref a5, .ref a6])), (a0, .inl (cI, 22, .inl (zF (σ)))), (a3, .inl (cI, 768, .inl (zF (gr)))), (a4, .inl (cJ, 768, .inr (.inl (zL (gw)))))] sz [.ref h0, .int (zI (q)), .int (zI (a)), .int (zI (d))]) (zQi D (fun (r : Int32) (_ : Unit) => r = zI (fnd (qN σ j q a d) 64)) (fun (_ : Unit) => [(h0, .inr (3, [.ref a0, .ref a1, .ref a2, .ref a3, .ref a4, .ref a5, .ref a6])), (a0, .inl (cI, 22, .inl (zF (σ)))), (a3, .inl (cI, 768, .inl (zF (gr)))), (a4, .inl (cJ, 768, .inr (.inl (zL (gw)))))]) [(h0, .inr (3, [.ref a0, .ref a1, .ref a2, .ref a3, .ref a4, .ref a5, .ref a6])), (a0, .inl (cI, 22, .inl (zF (σ)))), (a3, .inl (cI, 768, .inl (zF (gr)))), (a4, .inl (cJ, 768, .inr (.inl (zL (gw)))))] sz) 0 0 (va_A [(h0, .inr (3, [.ref a0, .ref a1, .ref a2, .ref a3, .ref a4, .ref a5, .ref a6])), (a0, .inl (cI, 22, .inl (zF (σ)))), (a3, .inl (cI, 768, .inl (zF (gr)))), (a4, .inl (cJ, 768, .inr (.inl (zL (gw)))))] sz) := by
  refine z_meti (by decide) rfl (Nat.le_of_ble_eq_true rfl) ?_
  intro p e s m args below meth c A Q ls hx hb hml hown hts hA hS hP hD hK hZ hl hret
  have hl : lv_has ls 6 [(0, .ref h0), (1, .int (zI (q))), (2, .int (zI (a))), (3, .int (zI (d)))] := hl
  have o9 := hO.2.2.2.2.2.2.2.2.2.1
  have hLL := hL
  unfold LAY at hLL
  rw [← hq] at hLL
  refine lv_iconst (v := zI (0)) hx hb dX3_nextWay_0 rfl ?_
  refine lv_istore (lv' := [(4, .int (zI (0))), (0, .ref h0), (1, .int (zI (q))), (2, .int (zI (a))), (3, .int (zI (d)))]) hx hb dX3_nextWay_1 hl (by decide) rfl (fun ls hl => ?_)
  have loop_a : ∀ (f_a : Nat) (k : Nat) (H : Heap) (locs : List Loc) (ls : Array Slot), (k ≤ 64) → (fnd (qN σ j q a d) k = -6) → (64 - (k : Int) < (f_a : Int)) → va_P D vwCl [(h0, .inr (3, [.ref a0, .ref a1, .ref a2, .ref a3, .ref a4, .ref a5, .ref a6])), (a0, .inl (cI, 22, .inl (zF (σ)))), (a3, .inl (cI, 768, .inl (zF (gr)))), (a4, .inl (cJ, 768, .inr (.inl (zL (gw)))))] H → va_D A [(h0, .inr (3, [.ref a0, .ref a1, .ref a2, .ref a3, .ref a4, .ref a5, .ref a6])), (a0, .inl (cI, 22, .inl (zF (σ)))), (a3, .inl (cI, 768, .inl (zF (gr)))), (a4, .inl (cJ, 768, .inr (.inl (zL (gw)))))] → va_S A s.heap H locs → lv_has ls 6 [(0, .ref h0), (1, .int (zI (q))), (2, .int (zI (a))), (3, .int (zI (d))), (4, .int (zI ((k : Int))))] → W p l e rmX3_nextWay s m args below meth c H locs 0 0 Q (F0 m 3 ls []) := by
    intro f_a
    induction f_a with
    | zero =>
      intros
      exfalso; omega
    | succ f_a ih_a =>
      intro k H locs ls e_k e_f hfu_a hP hD hS hl
      have hWb := WW_in hO (j := j) (by omega) (k : Int)
      refine lv_iload hx hb dX3_nextWay_3 (lv_at hl 4 rfl) ?_
      refine lv_bipush (v := zI (64)) hx hb dX3_nextWay_5 (by decide +kernel) ?_
      refine z_icmp_ge (a := (k : Int)) (b := 64) (tgt := 70) hx hb (by omega) dX3_nextWay_7 (by decide) (fun c_7 => ?_) (fun c_7 => ?_)
      · refine lv_bipush (v := zI (-6)) hx hb dX3_nextWay_70 (by decide +kernel) ?_
        exact hret _ _ _ _ _ () dX3_nextWay_72 (by rw [show k = 64 by omega] at e_f; rw [e_f]) hP hS
      · refine lv_iload_n hx hb dX3_nextWay_10 rfl (lv_at hl 1 rfl) ?_
        refine z_if_ne (a := q) (tgt := 18) hx hb (by omega) dX3_nextWay_11 (by decide) (fun c_11 => ?_) (fun c_11 => ?_)
        · refine lv_aload_n hx hb dX3_nextWay_18 rfl (lv_at hl 0 rfl) ?_
          refine lv_iload_n hx hb dX3_nextWay_19 rfl (lv_at hl 2 rfl) ?_
          refine lv_iload hx hb dX3_nextWay_20 (lv_at hl 4 rfl) ?_
          refine z_Vir (As := [.int (zI (a)), .int (zI ((k : Int)))]) (rest := []) hx hb hml hown hts hA hS hP hD hK hZ hl.1 (c_X3_effortOf l D cI cJ cZ cO _ (h0) (a0) (a1) (a2) (a3) (a4) (a5) (a6) (σ) (a) ((k : Int)) (by omega) hO) (cwV 2 hts gX3_nextWay_X3_effortOf rfl rfl rfl (by decide +kernel) ⟨Nat.le_of_ble_eq_true rfl, Nat.le_of_ble_eq_true rfl⟩) [0, 1] rfl rfl 0 3 rfl rfl rfl rfl (Nat.le_of_ble_eq_true rfl) ⟨Nat.zero_le _, Nat.zero_le _⟩ dX3_nextWay_22 (fun r u H locs hw hP hS => ?_)
          subst hw
          refine lv_aload_n hx hb dX3_nextWay_25 rfl (lv_at hl 0 rfl) ?_
          refine va_get (D := D) (ci := 3) (v := .ref a3) (C := RX3) (T := TX3) (N := 7) hx hb hts in_X3_nextWay_X3 hown hK hP 0 rfl rfl 3 (by decide) (hts _ m_X3_nextWay_0) (fun _ h9 => h9) rfl dX3_nextWay_26 ?_
          refine lv_iload_n hx hb dX3_nextWay_29 rfl (lv_at hl 1 rfl) ?_
          refine lv_iload hx hb dX3_nextWay_30 (lv_at hl 4 rfl) ?_
          refine z_Sir (As := [.int (zI (q)), .int (zI ((k : Int)))]) (rest := [.ref a3, .int (zI (eff σ a (k : Int)))]) hx hb hml hown hts hA hS hP hD hK hZ hl.1 (c_X3_at l D cI cJ cZ cO _ (q) ((k : Int)) ) (va_cwS 2 hts gX3_nextWay_X3_at rfl rfl rfl (by decide +kernel) ⟨Nat.le_of_ble_eq_true rfl, Nat.le_of_ble_eq_true rfl⟩) [] rfl rfl rfl rfl (Nat.le_of_ble_eq_true rfl) ⟨Nat.zero_le _, Nat.zero_le _⟩ dX3_nextWay_32 (fun r u H locs hw hP hS => ?_)
          subst hw
          refine z_iald (k := 64 * q + (k : Int)) (g := gr) hx hb hK hP 2 0 rfl rfl (by omega) dX3_nextWay_35 ?_
          try dsimp only
          refine z_iadd (a := eff σ a (k : Int)) (b := gr (64 * q + (k : Int))) hx hb dX3_nextWay_36 ?_
          refine lv_istore (lv' := [(5, .int (zI ((eff σ a (k : Int)) + (gr (64 * q + (k : Int)))))), (0, .ref h0), (1, .int (zI (q))), (2, .int (zI (a))), (3, .int (zI (d))), (4, .int (zI ((k : Int))))]) hx hb dX3_nextWay_37 hl (by decide) rfl (fun ls hl => ?_)
          refine lv_aload_n hx hb dX3_nextWay_39 rfl (lv_at hl 1 rfl) ?_
          refine va_get (D := D) (ci := 3) (v := .ref a4) (C := RX3) (T := TX3) (N := 7) hx hb hts in_X3_nextWay_X3 hown hK hP 0 rfl rfl 4 (by decide) (hts _ m_X3_nextWay_1) (fun _ h9 => h9) rfl dX3_nextWay_40 ?_
          refine lv_iload_n hx hb dX3_nextWay_43 rfl (lv_at hl 2 rfl) ?_
          refine lv_iload hx hb dX3_nextWay_44 (lv_at hl 5 rfl) ?_
          refine z_Sir (As := [.int (zI (q)), .int (zI ((k : Int)))]) (rest := [.ref a4]) hx hb hml hown hts hA hS hP hD hK hZ hl.1 (c_X3_at l D cI cJ cZ cO _ (q) ((k : Int)) ) (va_cwS 2 hts gX3_nextWay_X3_at rfl rfl rfl (by decide +kernel) ⟨Nat.le_of_ble_eq_true rfl, Nat.le_of_ble_eq_true rfl⟩) [] rfl rfl rfl rfl (Nat.le_of_ble_eq_true rfl) ⟨Nat.zero_le _, Nat.zero_le _⟩ dX3_nextWay_46 (fun r u H locs hw hP hS => ?_)
          subst hw
          refine z_lald (k := 64 * q + (k : Int)) (g := gw) hx hb hK hP 3 1 rfl rfl (by omega) dX3_nextWay_49 ?_
          try dsimp only
          refine z_topl (y := lW (WW σ j (k : Int))) ((hLL (k : Int) (by omega) (by omega)).1) ?_
          refine lv_lconst (v := 0) hx hb dX3_nextWay_50 rfl ?_
          refine z_lcmp_le (x := lW (WW σ j (k : Int))) (y := 0) (tgt := 64) hx hb dX3_nextWay_51 dX3_nextWay_52 (by decide) (fun c_51 => ?_) (fun c_51 => ?_)
          · have hnw : ¬ 0 < WW σ j (k : Int) := by have := (lW_le0 (by omega)).mp c_51; omega
            refine lv_iinc (v := zI ((k : Int) + 1)) (lv' := [(4, .int (zI ((k : Int) + 1))), (5, .int (zI ((eff σ a (k : Int)) + (gr (64 * q + (k : Int)))))), (0, .ref h0), (1, .int (zI (q))), (2, .int (zI (a))), (3, .int (zI (d)))]) hx hb dX3_nextWay_64 hl (k := 5) rfl (zI_add _ _) (by decide) rfl (fun ls hl => ?_)
            refine lv_goto (tgt := 3) hx hb dX3_nextWay_67 (by decide) ?_
            exact ih_a (k + 1) _ _ _ (by omega) (fnd_n e_f (by simp only [qN, Bool.and_eq_true, decide_eq_true_eq]; rintro ⟨h1, h2⟩; first | omega | (rw [if_pos c_11] at h2; omega) | (rw [if_neg c_11] at h2; omega))) (by omega) hP hD hS (lv_sub hl [2, 3, 4, 5, 0] rfl)
          · have hyw : 0 < WW σ j (k : Int) := (lW_gt0 (by omega)).mp c_51
            have hRR := ((hLL (k : Int) (by omega) (by omega)).2 (WW_sd hyw).1).1
            have hR := RR_in hO j (by omega) (k : Int) (by omega)
            have hE : q ≠ 0 → 0 ≤ eff σ a (k : Int) ∧ eff σ a (k : Int) ≤ 126 := fun h => eff_in hO (by omega) (by omega)
            refine lv_iload hx hb dX3_nextWay_55 (lv_at hl 0 rfl) ?_
            refine lv_iload_n hx hb dX3_nextWay_57 rfl (lv_at hl 4 rfl) ?_
            refine z_icmp_ne (a := (eff σ a (k : Int)) + (gr (64 * q + (k : Int)))) (b := d) (tgt := 64) hx hb (by omega) dX3_nextWay_58 (by decide) (fun c_58 => ?_) (fun c_58 => ?_)
            · refine lv_iinc (v := zI ((k : Int) + 1)) (lv' := [(4, .int (zI ((k : Int) + 1))), (5, .int (zI ((eff σ a (k : Int)) + (gr (64 * q + (k : Int)))))), (0, .ref h0), (1, .int (zI (q))), (2, .int (zI (a))), (3, .int (zI (d)))]) hx hb dX3_nextWay_64 hl (k := 5) rfl (zI_add _ _) (by decide) rfl (fun ls hl => ?_)
              refine lv_goto (tgt := 3) hx hb dX3_nextWay_67 (by decide) ?_
              exact ih_a (k + 1) _ _ _ (by omega) (fnd_n e_f (by simp only [qN, Bool.and_eq_true, decide_eq_true_eq]; rintro ⟨h1, h2⟩; first | omega | (rw [if_pos c_11] at h2; omega) | (rw [if_neg c_11] at h2; omega))) (by omega) hP hD hS (lv_sub hl [2, 3, 4, 5, 0] rfl)
            · refine lv_iload hx hb dX3_nextWay_61 (lv_at hl 5 rfl) ?_
              exact hret _ _ _ _ _ () dX3_nextWay_63 (by rw [fnd_y e_f (by simp only [qN, Bool.and_eq_true, decide_eq_true_eq]; refine ⟨hyw, ?_⟩; first | (rw [if_pos c_11]; omega) | (rw [if_neg c_11]; omega)) 64 (by omega)]) hP hS
        · refine lv_iconst (v := zI (0)) hx hb dX3_nextWay_14 rfl ?_
          refine lv_goto (tgt := 25) hx hb dX3_nextWay_15 (by decide) ?_
          refine lv_aload_n hx hb dX3_nextWay_25 rfl (lv_at hl 0 rfl) ?_
          refine va_get (D := D) (ci := 3) (v := .ref a3) (C := RX3) (T := TX3) (N := 7) hx hb hts in_X3_nextWay_X3 hown hK hP 0 rfl rfl 3 (by decide) (hts _ m_X3_nextWay_0) (fun _ h9 => h9) rfl dX3_nextWay_26 ?_
          refine lv_iload_n hx hb dX3_nextWay_29 rfl (lv_at hl 1 rfl) ?_
          refine lv_iload hx hb dX3_nextWay_30 (lv_at hl 4 rfl) ?_
          refine z_Sir (As := [.int (zI (q)), .int (zI ((k : Int)))]) (rest := [.ref a3, .int (zI (0))]) hx hb hml hown hts hA hS hP hD hK hZ hl.1 (c_X3_at l D cI cJ cZ cO _ (q) ((k : Int)) ) (va_cwS 2 hts gX3_nextWay_X3_at rfl rfl rfl (by decide +kernel) ⟨Nat.le_of_ble_eq_true rfl, Nat.le_of_ble_eq_true rfl⟩) [] rfl rfl rfl rfl (Nat.le_of_ble_eq_true rfl) ⟨Nat.zero_le _, Nat.zero_le _⟩ dX3_nextWay_32 (fun r u H locs hw hP hS => ?_)
          subst hw
          refine z_iald (k := 64 * q + (k : Int)) (g := gr) hx hb hK hP 2 0 rfl rfl (by omega) dX3_nextWay_35 ?_
          try dsimp only
          refine z_iadd (a := 0) (b := gr (64 * q + (k : Int))) hx hb dX3_nextWay_36 ?_
          refine lv_istore (lv' := [(5, .int (zI (0 + (gr (64 * q + (k : Int)))))), (0, .ref h0), (1, .int (zI (q))), (2, .int (zI (a))), (3, .int (zI (d))), (4, .int (zI ((k : Int))))]) hx hb dX3_nextWay_37 hl (by decide) rfl (fun ls hl => ?_)
          refine lv_aload_n hx hb dX3_nextWay_39 rfl (lv_at hl 1 rfl) ?_
          refine va_get (D := D) (ci := 3) (v := .ref a4) (C := RX3) (T := TX3) (N := 7) hx hb hts in_X3_nextWay_X3 hown hK hP 0 rfl rfl 4 (by decide) (hts _ m_X3_nextWay_1) (fun _ h9 => h9) rfl dX3_nextWay_40 ?_
          refine lv_iload_n hx hb dX3_nextWay_43 rfl (lv_at hl 2 rfl) ?_
          refine lv_iload hx hb dX3_nextWay_44 (lv_at hl 5 rfl) ?_
          refine z_Sir (As := [.int (zI (q)), .int (zI ((k : Int)))]) (rest := [.ref a4]) hx hb hml hown hts hA hS hP hD hK hZ hl.1 (c_X3_at l D cI cJ cZ cO _ (q) ((k : Int)) ) (va_cwS 2 hts gX3_nextWay_X3_at rfl rfl rfl (by decide +kernel) ⟨Nat.le_of_ble_eq_true rfl, Nat.le_of_ble_eq_true rfl⟩) [] rfl rfl rfl rfl (Nat.le_of_ble_eq_true rfl) ⟨Nat.zero_le _, Nat.zero_le _⟩ dX3_nextWay_46 (fun r u H locs hw hP hS => ?_)
          subst hw
          refine z_lald (k := 64 * q + (k : Int)) (g := gw) hx hb hK hP 3 1 rfl rfl (by omega) dX3_nextWay_49 ?_
          try dsimp only
          refine z_topl (y := lW (WW σ j (k : Int))) ((hLL (k : Int) (by omega) (by omega)).1) ?_
          refine lv_lconst (v := 0) hx hb dX3_nextWay_50 rfl ?_
          refine z_lcmp_le (x := lW (WW σ j (k : Int))) (y := 0) (tgt := 64) hx hb dX3_nextWay_51 dX3_nextWay_52 (by decide) (fun c_51 => ?_) (fun c_51 => ?_)
          · have hnw : ¬ 0 < WW σ j (k : Int) := by have := (lW_le0 (by omega)).mp c_51; omega
            refine lv_iinc (v := zI ((k : Int) + 1)) (lv' := [(4, .int (zI ((k : Int) + 1))), (5, .int (zI (0 + (gr (64 * q + (k : Int)))))), (0, .ref h0), (1, .int (zI (q))), (2, .int (zI (a))), (3, .int (zI (d)))]) hx hb dX3_nextWay_64 hl (k := 5) rfl (zI_add _ _) (by decide) rfl (fun ls hl => ?_)
            refine lv_goto (tgt := 3) hx hb dX3_nextWay_67 (by decide) ?_
            exact ih_a (k + 1) _ _ _ (by omega) (fnd_n e_f (by simp only [qN, Bool.and_eq_true, decide_eq_true_eq]; rintro ⟨h1, h2⟩; first | omega | (rw [if_pos c_11] at h2; omega) | (rw [if_neg c_11] at h2; omega))) (by omega) hP hD hS (lv_sub hl [2, 3, 4, 5, 0] rfl)
          · have hyw : 0 < WW σ j (k : Int) := (lW_gt0 (by omega)).mp c_51
            have hRR := ((hLL (k : Int) (by omega) (by omega)).2 (WW_sd hyw).1).1
            have hR := RR_in hO j (by omega) (k : Int) (by omega)
            have hE : q ≠ 0 → 0 ≤ eff σ a (k : Int) ∧ eff σ a (k : Int) ≤ 126 := fun h => eff_in hO (by omega) (by omega)
            refine lv_iload hx hb dX3_nextWay_55 (lv_at hl 0 rfl) ?_
            refine lv_iload_n hx hb dX3_nextWay_57 rfl (lv_at hl 4 rfl) ?_
            refine z_icmp_ne (a := 0 + (gr (64 * q + (k : Int)))) (b := d) (tgt := 64) hx hb (by omega) dX3_nextWay_58 (by decide) (fun c_58 => ?_) (fun c_58 => ?_)
            · refine lv_iinc (v := zI ((k : Int) + 1)) (lv' := [(4, .int (zI ((k : Int) + 1))), (5, .int (zI (0 + (gr (64 * q + (k : Int)))))), (0, .ref h0), (1, .int (zI (q))), (2, .int (zI (a))), (3, .int (zI (d)))]) hx hb dX3_nextWay_64 hl (k := 5) rfl (zI_add _ _) (by decide) rfl (fun ls hl => ?_)
              refine lv_goto (tgt := 3) hx hb dX3_nextWay_67 (by decide) ?_
              exact ih_a (k + 1) _ _ _ (by omega) (fnd_n e_f (by simp only [qN, Bool.and_eq_true, decide_eq_true_eq]; rintro ⟨h1, h2⟩; first | omega | (rw [if_pos c_11] at h2; omega) | (rw [if_neg c_11] at h2; omega))) (by omega) hP hD hS (lv_sub hl [2, 3, 4, 5, 0] rfl)
            · refine lv_iload hx hb dX3_nextWay_61 (lv_at hl 5 rfl) ?_
              exact hret _ _ _ _ _ () dX3_nextWay_63 (by rw [fnd_y e_f (by simp only [qN, Bool.and_eq_true, decide_eq_true_eq]; refine ⟨hyw, ?_⟩; first | (rw [if_pos c_11]; omega) | (rw [if_neg c_11]; omega)) 64 (by omega)]) hP hS
  exact loop_a 70 (0) _ _ _ (by omega) (rfl) (by omega) hP hD hS (lv_sub hl [1, 2, 3, 4, 0] rfl)
