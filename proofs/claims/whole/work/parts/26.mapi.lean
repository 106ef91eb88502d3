/-! the reference's public calls -/
theorem sw_cases (x : Int32) (lo hi : Nat) (h : hi < 2 ^ 31 := by decide) : (x.toInt < (lo : Int) ∨ (hi : Int) < x.toInt) ∨ ∃ k, lo ≤ k ∧ k ≤ hi ∧ x = nI k := by
  by_cases h1 : x.toInt < (lo : Int)
  · exact Or.inl (Or.inl h1)
  · by_cases h2 : (hi : Int) < x.toInt
    · exact Or.inl (Or.inr h2)
    · refine Or.inr ⟨x.toInt.toNat, by omega, by omega, ?_⟩
      apply Int32.toInt_inj.mp
      rw [nI_toInt (by omega)]
      omega
theorem sw_ne {x : Int32} {lo hi : Nat} (h : x.toInt < (lo : Int) ∨ (hi : Int) < x.toInt) (hh : hi < 2 ^ 31) {k : Nat} (h1 : lo ≤ k) (h2 : k ≤ hi) : ¬ x = nI k := fun e => by
  rw [e, nI_toInt (by omega)] at h
  omega
theorem pIn_iff {x : Int32} {n : Nat} (hn : n < 2 ^ 31) : pIn x n = true ↔ 0 ≤ x.toInt ∧ x.toInt < n := by
  unfold pIn
  simp only [Bool.and_eq_true, decide_eq_true_eq]
  rw [Int32.le_iff_toInt_le, Int32.lt_iff_toInt_lt, nI_toInt hn]
  exact Iff.rfl
theorem pIn_some {x : Int32} {n : Nat} (hn : n < 2 ^ 31) (h : pIn x n = true) : ∃ j, j < n ∧ x = nI j := by
  obtain ⟨h1, h2⟩ := (pIn_iff hn).mp h
  refine ⟨x.toInt.toNat, by omega, ?_⟩
  apply Int32.toInt_inj.mp
  rw [nI_toInt (by omega)]
  omega
theorem pIn_nI {j n : Nat} (h : j < n) (hn : n < 2 ^ 31) : pIn (nI j) n = true := by
  rw [pIn_iff hn, nI_toInt (by omega)]
  omega
theorem in_eq {x y : Int32} {n : Nat} (hn : n < 2 ^ 30) (hy : y.toInt = (n : Int) - 1) : (decide (0 ≤ x) && decide (x ≤ y)) = pIn x n := by
  rw [Bool.eq_iff_iff, pIn_iff (by omega)]
  simp only [Bool.and_eq_true, decide_eq_true_eq]
  rw [Int32.le_iff_toInt_le, Int32.le_iff_toInt_le, hy]
  have : (0 : Int32).toInt = 0 := rfl
  rw [this]
  omega
section M15
variable (l : Launch) {α : sA} {σ : hm_M}
theorem rM.ref {α : sA} {σ : hm_M} (h : rM α σ) (k : Nat) (hk : k < 7) : rM (pRef α k).2 (hm_wI σ 49 k (hm_I σ 49 k + 1)) := by
  have e : hm_I σ 49 k = aI α 5 k := h.i 5 k hk
  rw [e]; exact h.upI 5 k _ hk
theorem r5_refuse (h : rM α σ) (k : Nat) (hk : k < 7) : hm_Ct l yX5_refuse cX5_refuse 2 (some .int) 0 0 0 [.ref 27, .int (-(nI k))] σ (fun r τ => r = some (.int (pRef α k).1) ∧ rM (pRef α k).2 τ ∧ md_fo σ τ) := by
  refine (c5_refuse l σ h.m k hk).mono ?_
  rintro r τ ⟨rfl, rfl⟩
  exact ⟨rfl, h.ref k hk, (md_fo.rf σ).wI 49 k _ (by decide)⟩
theorem r5_in (x y : Int32) {n : Nat} (hn : n < 2 ^ 30) (hy : y.toInt = (n : Int) - 1) : hm_Ct l yX5_in cX5_in 3 (some .boolean) 0 0 0 [.int x, .int 0, .int y] σ (fun r τ => r = some (.int (bI (pIn x n))) ∧ τ = σ) := by
  refine (c5_in l σ x 0 y).mono ?_
  rintro r τ ⟨rfl, rfl⟩
  exact ⟨by rw [in_eq hn hy], rfl⟩
set_option maxRecDepth 100000 in
theorem r5_isPortable (h : rM α σ) (w : sW α) (p : Int32) : hm_Ct l yX5_isPortable cX5_isPortable 2 (some .boolean) 1 0 0 [.ref 27, .int p] σ (fun r τ => r = some (.int (bI (pIn p (nPort α)))) ∧ τ = σ) := by
  obtain ⟨hN, hM⟩ := h.m
  have e0 : hm_I σ 27 2 = nI (nPort α) := h.n 1 0 (by decide)
  have h8 := w.p8
  refine hm_startQ (ini := false) [.ref 27, .int p] (by decide) (by decide) rfl (Nat.le_of_ble_eq_true rfl) (fun Q hQ => ?_)
  refine hm_iload_n dX5_isPortable_0 rfl ?_
  refine hm_iconst dX5_isPortable_1 (v := 0) (by decide) ?_
  refine hm_aload_n dX5_isPortable_2 rfl ?_
  refine hm_getI lf_RX5_92 rfl rfl (by first | exact Nat.lt_of_lt_of_le (by decide) hN | assumption | (simp only [hm_n_wI, hm_n_wL, hm_n_wR, hm_n_g] at *; omega)) dX5_isPortable_3 ?_
  rw [e0]
  refine hm_iconst dX5_isPortable_6 (v := 1) (by decide) ?_
  refine hm_isub dX5_isPortable_7 ?_
  refine hm_callS lm_RX5_88 (r5_in l _ _ (n := nPort α) (by omega) (pk_sub_toInt (b := 1) (by omega) (by decide))) rfl rfl (by decide) (by decide) (Nat.le_of_ble_eq_true rfl) dX5_isPortable_8 ?_
  rintro _ t9 ⟨rfl, hh9⟩
  rw [hh9]
  clear hh9 t9
  refine hm_zret dX5_isPortable_11 rfl (by decide) (by decide) (bI_01 _) ?_
  exact hQ _ _ ⟨rfl, rfl⟩
set_option maxRecDepth 100000 in
theorem r5_isCell (h : rM α σ) (w : sW α) (c : Int32) : hm_Ct l yX5_isCell cX5_isCell 2 (some .boolean) 1 0 0 [.ref 27, .int c] σ (fun r τ => r = some (.int (bI (pIn c (nCell α)))) ∧ τ = σ) := by
  obtain ⟨hN, hM⟩ := h.m
  have e0 : hm_I σ 27 0 = nI (nCell α) := h.n 0 0 (by decide)
  have h4 := w.c4
  refine hm_startQ (ini := false) [.ref 27, .int c] (by decide) (by decide) rfl (Nat.le_of_ble_eq_true rfl) (fun Q hQ => ?_)
  refine hm_iload_n dX5_isCell_0 rfl ?_
  refine hm_iconst dX5_isCell_1 (v := 0) (by decide) ?_
  refine hm_aload_n dX5_isCell_2 rfl ?_
  refine hm_getI lf_RX5_84 rfl rfl (by first | exact Nat.lt_of_lt_of_le (by decide) hN | assumption | (simp only [hm_n_wI, hm_n_wL, hm_n_wR, hm_n_g] at *; omega)) dX5_isCell_3 ?_
  rw [e0]
  refine hm_iconst dX5_isCell_6 (v := 1) (by decide) ?_
  refine hm_isub dX5_isCell_7 ?_
  refine hm_callS lm_RX5_88 (r5_in l _ _ (n := nCell α) (by omega) (pk_sub_toInt (b := 1) (by omega) (by decide))) rfl rfl (by decide) (by decide) (Nat.le_of_ble_eq_true rfl) dX5_isCell_8 ?_
  rintro _ t9 ⟨rfl, hh9⟩
  rw [hh9]
  clear hh9 t9
  refine hm_zret dX5_isCell_11 rfl (by decide) (by decide) (bI_01 _) ?_
  exact hQ _ _ ⟨rfl, rfl⟩
set_option maxRecDepth 100000 in
theorem r5_cell (h : rM α σ) (w : sW α) (ch : Int32) : hm_Ct l yX5_cell cX5_cell 2 (some .int) 1 0 0 [.ref 27, .int ch] σ (fun r τ => r = some (.int (oCell α ch).1) ∧ rM (oCell α ch).2 τ ∧ md_fo σ τ) := by
  obtain ⟨hN, hM⟩ := h.m
  have e0 : hm_I σ 27 0 = nI (nCell α) := h.n 0 0 (by decide)
  have h4 := w.c4
  have q4 : nI (nCell α) = 4 ↔ nCell α = 4 := nI_eq (b := 4) (by omega) (by decide)
  refine hm_startQ (ini := false) [.ref 27, .int ch] (by decide) (by decide) rfl (Nat.le_of_ble_eq_true rfl) (fun Q hQ => ?_)
  refine hm_iload_n dX5_cell_0 rfl ?_
  refine hm_iconst dX5_cell_1 (v := 0) (by decide) ?_
  refine hm_bipush dX5_cell_2 (v := 119) (by decide) ?_
  refine hm_callS lm_RX5_88 (r5_in l _ _ (n := 120) (by decide) (by decide)) rfl rfl (by decide) (by decide) (Nat.le_of_ble_eq_true rfl) dX5_cell_4 ?_
  rintro _ t9 ⟨rfl, hh9⟩
  rw [hh9]
  clear hh9 t9
  refine hm_if_ne 16 dX5_cell_7 (by decide) (fun h7 => ?_) (fun h7 => ?_)
  · skip
    rw [bI_0] at h7
    have h7 := b_nf h7
    obtain ⟨j, hj, rfl⟩ := pIn_some (by decide) h7
    refine hm_aload_n dX5_cell_16 rfl ?_
    refine hm_getI lf_RX5_84 rfl rfl (by first | exact Nat.lt_of_lt_of_le (by decide) hN | assumption | (simp only [hm_n_wI, hm_n_wL, hm_n_wR, hm_n_g] at *; omega)) dX5_cell_17 ?_
    rw [e0]
    refine hm_iconst dX5_cell_20 (v := 4) (by decide) ?_
    refine hm_icmp_ne 31 dX5_cell_21 (by decide) (fun h21 => ?_) (fun h21 => ?_)
    · skip
      rw [q4] at h21
      have hc : oCell α (nI j) = (nI (nCell α), sN (sN α 2 (nCell α) j) 0 0 (nCell α + 1)) := by unfold oCell; rw [h7, if_neg (by decide), if_neg h21, nI_clamp (by omega)]
      refine hm_aload_n dX5_cell_31 rfl ?_
      refine hm_getR lf_RX5_7 rfl rfl (by first | exact Nat.lt_of_lt_of_le (by decide) hN | assumption | (simp only [hm_n_wI, hm_n_wL, hm_n_wR, hm_n_g] at *; omega)) (hM 1) dX5_cell_32 ?_
      refine hm_aload_n dX5_cell_35 rfl ?_
      refine hm_getI lf_RX5_84 rfl rfl (by first | exact Nat.lt_of_lt_of_le (by decide) hN | assumption | (simp only [hm_n_wI, hm_n_wL, hm_n_wR, hm_n_g] at *; omega)) dX5_cell_36 ?_
      rw [e0]
      refine hm_iload_n dX5_cell_39 rfl ?_
      refine hm_iast _ rfl (by first | exact Nat.lt_of_lt_of_le (by decide) hN | assumption | (simp only [hm_n_wI, hm_n_wL, hm_n_wR, hm_n_g] at *; omega)) rfl (by omega) (by decide) dX5_cell_40 ?_
      refine hm_aload_n dX5_cell_41 rfl ?_
      refine hm_dup dX5_cell_42 rfl ?_
      refine hm_getI lf_RX5_84 rfl rfl (by first | exact Nat.lt_of_lt_of_le (by decide) hN | assumption | (simp only [hm_n_wI, hm_n_wL, hm_n_wR, hm_n_g] at *; omega)) dX5_cell_43 ?_
      simp only [hm_I_wI, e0, Nat.reduceEqDiff, false_and, reduceIte]
      refine hm_iconst dX5_cell_46 (v := 1) (by decide) ?_
      refine hm_iadd dX5_cell_47 ?_
      refine hm_putI lf_RX5_84 rfl rfl rfl (by first | exact Nat.lt_of_lt_of_le (by decide) hN | assumption | (simp only [hm_n_wI, hm_n_wL, hm_n_wR, hm_n_g] at *; omega)) dX5_cell_48 ?_
      refine hm_aload_n dX5_cell_51 rfl ?_
      refine hm_getI lf_RX5_84 rfl rfl (by first | exact Nat.lt_of_lt_of_le (by decide) hN | assumption | (simp only [hm_n_wI, hm_n_wL, hm_n_wR, hm_n_g] at *; omega)) dX5_cell_52 ?_
      simp only [hm_I_wI, and_self, reduceIte]
      refine hm_iconst dX5_cell_55 (v := 1) (by decide) ?_
      refine hm_isub dX5_cell_56 ?_
      refine hm_iret dX5_cell_57 rfl (by decide) (by decide) ?_
      rw [nI_1, nI_pred]
      refine hQ _ _ ⟨by rw [hc], ?_, ((md_fo.rf σ).wI 28 _ _ (by decide)).wI 27 0 _ (by decide)⟩
      rw [hc]
      exact (h.upN 2 (nCell α) j (by show _ < 4; omega)).upN 0 0 (nCell α + 1) (by decide)
    · skip
      rw [q4] at h21
      refine hm_aload_n dX5_cell_24 rfl ?_
      refine hm_bipush dX5_cell_25 (v := -6) (by decide) ?_
      refine hm_callV lm_RX5_95 (r5_refuse l h 6 (by decide)) rfl rfl rfl rfl (by first | exact Nat.lt_of_lt_of_le (by decide) hN | assumption | (simp only [hm_n_wI, hm_n_wL, hm_n_wR, hm_n_g] at *; omega)) (by decide) (by decide) (Nat.le_of_ble_eq_true rfl) dX5_cell_27 ?_
      rintro _ ρ ⟨rfl, hρ, hf⟩
      refine hm_iret dX5_cell_30 rfl (by decide) (by decide) ?_
      refine hQ _ _ ⟨?_, ?_, hf⟩
      rw [oCell, h7, if_neg (by decide), if_pos h21]
      rw [oCell, h7, if_neg (by decide), if_pos h21]; exact hρ
  · skip
    rw [bI_0] at h7
    refine hm_aload_n dX5_cell_10 rfl ?_
    refine hm_iconst dX5_cell_11 (v := -1) (by decide) ?_
    refine hm_callV lm_RX5_95 (r5_refuse l h 1 (by decide)) rfl rfl rfl rfl (by first | exact Nat.lt_of_lt_of_le (by decide) hN | assumption | (simp only [hm_n_wI, hm_n_wL, hm_n_wR, hm_n_g] at *; omega)) (by decide) (by decide) (Nat.le_of_ble_eq_true rfl) dX5_cell_12 ?_
    rintro _ ρ ⟨rfl, hρ, hf⟩
    refine hm_iret dX5_cell_15 rfl (by decide) (by decide) ?_
    refine hQ _ _ ⟨?_, ?_, hf⟩
    rw [oCell, h7]; rfl
    rw [oCell, h7]; exact hρ
end M15
