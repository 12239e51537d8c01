/-! what the law's loop keeps -/
theorem Ok_sig0 : Ok sig0 := by
  unfold Ok
  refine ⟨by decide, by decide, by decide, by decide, by decide, by decide, by decide, by decide, by decide, by decide, fun j h0 h1 => ?_⟩
  rcases (show j = 0 ∨ j = 1 ∨ j = 2 ∨ j = 3 ∨ j = 4 ∨ j = 5 ∨ j = 6 ∨ j = 7 ∨ j = 8 ∨ j = 9 ∨ j = 10 ∨ j = 11 by omega) with rfl | rfl | rfl | rfl | rfl | rfl | rfl | rfl | rfl | rfl | rfl | rfl <;> decide
theorem Ok_horn {σ : Int → Int} (h : Ok σ) (v : Int) : Ok (S_horn σ v) := by
  obtain ⟨h0, h1, h2, h3, h4, h5, h6, h7, h8, h9, h10⟩ := id h
  unfold S_horn
  by_cases hv : 0 ≤ v ∧ v ≤ 1
  · rw [if_pos hv]
    refine ⟨by rw [upI_s]; exact hv, ?_, ?_, ?_, ?_, ?_, ?_, ?_, ?_, ?_, fun j a b => ?_⟩ <;> rw [upI_n (by omega)] <;> first | assumption | exact h10 j a b
  · rw [if_neg hv]; exact h
theorem Ok_Svalve {σ : Int → Int} (h : Ok σ) (q v : Int) : Ok (S_valve σ q v) := by
  unfold S_valve
  by_cases hq : 0 ≤ q ∧ q ≤ 2
  · rw [if_pos hq]
    by_cases hv : 0 ≤ v ∧ v ≤ 400
    · rw [if_pos hv]; exact Ok_valve h hq hv
    · rw [if_neg hv]; exact h
  · rw [if_neg hq]; exact h
theorem Ok_rule {σ : Int → Int} (h : Ok σ) (q v : Int) : Ok (S_rule σ q v) := by
  obtain ⟨h0, h1, h2, h3, h4, h5, h6, h7, h8, h9, h10⟩ := id h
  unfold S_rule
  by_cases hq : 0 ≤ q ∧ q ≤ 4
  · rw [if_pos hq]
    by_cases hv : 0 ≤ v ∧ v ≤ tp q
    · rw [if_pos hv]
      rcases (show q = 0 ∨ q = 1 ∨ q = 2 ∨ q = 3 ∨ q = 4 by omega) with rfl | rfl | rfl | rfl | rfl
      all_goals
        have hv' := hv
        simp only [tp] at hv'
        simp at hv'
        unfold Ok upI
        refine ⟨?_, ?_, ?_, ?_, ?_, ?_, ?_, ?_, ?_, ?_, ?_⟩
        all_goals first | (split <;> omega) | (intro j a b; rw [if_neg (by omega)]; exact h10 j a b)
    · rw [if_neg hv]; exact h
  · rw [if_neg hq]; exact h
theorem Ok_nn {σ : Int → Int} (h : Ok σ) {q n : Int} (hq : 0 ≤ q ∧ q < 12) (hn : 0 ≤ n ∧ n ≤ 36) : Ok (upI σ (10 + q) n) := by
  obtain ⟨h0, h1, h2, h3, h4, h5, h6, h7, h8, h9, h10⟩ := id h
  refine ⟨?_, ?_, ?_, ?_, ?_, ?_, ?_, ?_, ?_, ?_, fun j a b => ?_⟩
  all_goals first | (rw [upI_n (by omega)]; assumption) | skip
  by_cases hj : j = q
  · rw [hj, upI_s]; exact hn
  · rw [upI_n (by omega)]; exact h10 j a b
theorem Ok_sz {σ : Int → Int} (h : Ok σ) {n : Int} (hn : 0 ≤ n ∧ n ≤ 12) : Ok (upI σ 9 n) := by
  obtain ⟨h0, h1, h2, h3, h4, h5, h6, h7, h8, h9, h10⟩ := id h
  refine ⟨?_, ?_, ?_, ?_, ?_, ?_, ?_, ?_, ?_, by rw [upI_s]; exact hn, fun j a b => ?_⟩ <;> rw [upI_n (by omega)] <;> first | assumption | exact h10 j a b
theorem Ok_note {σ : Int → Int} (h : Ok σ) (n : Int) : Ok (S_note σ n) := by
  have h9 := h.2.2.2.2.2.2.2.2.2.1
  unfold S_note
  by_cases hn : 0 ≤ n ∧ n ≤ 36
  · rw [if_pos hn]
    by_cases h12 : σ 9 = 12
    · rw [if_pos h12]; exact h
    · rw [if_neg h12]; exact Ok_sz (Ok_nn h (by omega) hn) (by omega)
  · rw [if_neg hn]; exact h
theorem Ok_set {σ : Int → Int} (h : Ok σ) (q n : Int) : Ok (S_set σ q n) := by
  have h9 := h.2.2.2.2.2.2.2.2.2.1
  unfold S_set
  by_cases hq : 0 ≤ q ∧ q ≤ σ 9 - 1
  · rw [if_pos hq]
    by_cases hn : 0 ≤ n ∧ n ≤ 36
    · rw [if_pos hn]; exact Ok_nn h (by omega) hn
    · rw [if_neg hn]; exact h
  · rw [if_neg hq]; exact h
def LI (σ τ0 τ1 gk gi : Int → Int) : Prop := Ok σ ∧ Ok τ0 ∧ Ok τ1 ∧ ((gk 0 = 0 ∨ gk 0 = 1) ∧ (gk 1 = 0 ∨ gk 1 = 1)) ∧ (gk 0 = 1 → ∀ c : Int, 0 ≤ c → c < 22 → gi c = τ0 c) ∧ (gk 1 = 1 → ∀ c : Int, 0 ≤ c → c < 22 → gi (22 + c) = τ1 c)
theorem LI_0 : LI sig0 sig0 sig0 (fun _ => 0) (fun _ => 0) := ⟨Ok_sig0, Ok_sig0, Ok_sig0, ⟨Or.inl rfl, Or.inl rfl⟩, fun h => by simp at h, fun h => by simp at h⟩
theorem LI_image {σ τ0 τ1 gk gi : Int → Int} (h : LI σ τ0 τ1 gk gi) (q : Int) : LI σ (S_imT τ0 σ q 0) (S_imT τ1 σ q 1) (S_imk gk q) (S_imi gi σ q) := by
  obtain ⟨h0, h1, h2, h3, h4, h5⟩ := h
  unfold S_imT S_imk S_imi
  by_cases hq : 0 ≤ q ∧ q ≤ 1
  · rw [if_pos hq, if_pos hq]
    rcases (show q = 0 ∨ q = 1 by omega) with rfl | rfl
    · rw [if_pos ⟨hq, rfl⟩, if_neg (by omega)]
      refine ⟨h0, h0, h2, ⟨Or.inr upI_s, ?_⟩, fun _ c a b => ?_, fun hk c a b => ?_⟩
      · rw [upI_n (by omega)]; exact h3.2
      · unfold cpI; rw [if_pos (by omega), show c - 22 * 0 = c by omega]
      · rw [upI_n (by omega)] at hk
        unfold cpI; rw [if_neg (by omega)]; exact h5 hk c a b
    · rw [if_neg (by omega), if_pos ⟨hq, rfl⟩]
      refine ⟨h0, h1, h0, ⟨?_, Or.inr upI_s⟩, fun hk c a b => ?_, fun _ c a b => ?_⟩
      · rw [upI_n (by omega)]; exact h3.1
      · rw [upI_n (by omega)] at hk
        unfold cpI; rw [if_neg (by omega)]; exact h4 hk c a b
      · unfold cpI; rw [if_pos (by omega), show 22 + c - 22 * 1 = c by omega]
  · rw [if_neg hq, if_neg hq, if_neg (fun h => hq h.1), if_neg (fun h => hq h.1)]
    exact ⟨h0, h1, h2, h3, h4, h5⟩
theorem LI_re {σ τ0 τ1 gk gi : Int → Int} (h : LI σ τ0 τ1 gk gi) (q : Int) : LI (S_reT σ τ0 τ1 gk q) τ0 τ1 gk gi := by
  refine ⟨?_, h.2⟩
  obtain ⟨h0, h1, h2, h3⟩ := h
  unfold S_reT
  (repeat' split) <;> assumption
theorem re_eq {σ τ0 τ1 gk gi : Int → Int} (h : LI σ τ0 τ1 gk gi) (q : Int) : ∀ j : Int, 0 ≤ j → j < ((22 : Nat) : Int) → S_restore σ gi gk q j = S_reT σ τ0 τ1 gk q j := by
  intro j a b
  obtain ⟨h0, h1, h2, h3, h4, h5⟩ := h
  unfold S_restore S_reT
  by_cases hq : 0 ≤ q ∧ q ≤ 1
  · rw [if_pos hq, if_pos hq]
    by_cases hk : gk q = 0
    · rw [if_pos hk, if_pos hk]
    · rw [if_neg hk, if_neg hk]
      unfold rsI
      rw [if_pos (by omega)]
      rcases (show q = 0 ∨ q = 1 by omega) with rfl | rfl
      · rw [if_pos rfl, show 22 * (0 : Int) + j = j by omega]
        exact h4 (h3.1.resolve_left hk) j a (by omega)
      · rw [if_neg (by omega), show 22 * (1 : Int) + j = 22 + j by omega]
        exact h5 (h3.2.resolve_left hk) j a (by omega)
  · rw [if_neg hq, if_neg hq]
theorem z_and31 (x : Int32) : (0 ≤ (x &&& zI 31).toInt ∧ (x &&& zI 31).toInt < 32) ∧ x &&& zI 31 = zI (x &&& zI 31).toInt := by
  refine ⟨?_, (zI_of _).2⟩
  have h : (x &&& zI 31).toBitVec.toNat ≤ 31 := by
    rw [Int32.toBitVec_and, BitVec.toNat_and, show (zI 31).toBitVec.toNat = 31 by decide +kernel]
    exact Nat.and_le_right
  have h2 : (x &&& zI 31).toInt = ((x &&& zI 31).toBitVec.toNat : Int) := BitVec.toInt_eq_toNat_of_lt (by omega)
  rw [h2]; omega
theorem zI_nat (L : Nat) : Int32.ofNat L = zI (L : Int) := rfl
section ZSCR
variable {p : Program} {l : Launch} {e : Env} {R : Room} {s : State} {m : MethodId} {args : Array Value} {below : List Frame} {meth : Method} {c : Code} {H : Heap} {locs : List Loc} {cells slots : Nat} {Q : State → Prop}
variable {cc : ByteArray} {pc : Nat} {ls : Array Slot} {rest : List Value} {A : Nat → Prop} {H0 : Heap} {b L : Nat} {xs : Nat → Int32}
theorem z_scr (hx : p.tables.exec = Jvm.exec) (hb : c.code = cc) (hX : va_X b L xs s H0) (hbl : b < H0.size) (hbA : ¬ A b) (hS : va_S A H0 H locs) {k y : Int} (hk : (0 ≤ k ∧ k < (L : Int)) ∧ L ≤ 2147483647) (hy : xs k.toNat = zI y) (hdg : decode cc pc = .ok (.iaload, 1))
    (kk : W p l e R s m args below meth c H locs cells slots Q (F0 m (pc + 1) ls (.int (zI y) :: rest))) : W p l e R s m args below meth c H locs cells slots Q (F0 m pc ls (.int (zI k) :: .ref b :: rest)) := by
  refine va_sld hx hb hX hbl hbA hS (zI_in hk.1.1 hk.1.2 hk.2) hdg ?_
  rw [zI_clamp hk.1.1 (by omega), hy]
  exact kk
end ZSCR
