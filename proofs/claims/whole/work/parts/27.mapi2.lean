/-! the reference's public calls, on -/
section M16
variable (l : Launch) {α : sA} {σ : hm_M}
set_option maxRecDepth 100000 in
theorem r5_portable (h : rM α σ) (w : sW α) (pl : Int32) (key : Int64) : hm_Ct l yX5_portable cX5_portable 4 (some .int) 1 0 0 [.ref 27, .int pl, .long key] σ (fun r τ => r = some (.int (oPortable α pl key).1) ∧ rM (oPortable α pl key).2 τ ∧ md_fo σ τ) := by
  obtain ⟨hN, hM⟩ := h.m
  have e0 : hm_I σ 27 2 = nI (nPort α) := h.n 1 0 (by decide)
  have h8 := w.p8
  have q4 : nI (nPort α) = 8 ↔ nPort α = 8 := nI_eq (b := 8) (by omega) (by decide)
  refine hm_startQ (ini := false) [.ref 27, .int pl, .long key, hm_u] (by decide) (by decide) rfl (Nat.le_of_ble_eq_true rfl) (fun Q hQ => ?_)
  refine hm_iload_n dX5_portable_0 rfl ?_
  refine hm_iconst dX5_portable_1 (v := 0) (by decide) ?_
  refine hm_bipush dX5_portable_2 (v := 15) (by decide) ?_
  refine hm_callS lm_RX5_88 (r5_in l _ _ (n := 16) (by decide) (by decide)) rfl rfl (by decide) (by decide) (Nat.le_of_ble_eq_true rfl) dX5_portable_4 ?_
  rintro _ t9 ⟨rfl, hh9⟩
  rw [hh9]
  clear hh9 t9
  refine hm_if_ne 16 dX5_portable_7 (by decide) (fun h7 => ?_) (fun h7 => ?_)
  · skip
    rw [bI_0] at h7
    have h7 := b_nf h7
    obtain ⟨j, hj, rfl⟩ := pIn_some (by decide) h7
    refine hm_aload_n dX5_portable_16 rfl ?_
    refine hm_getI lf_RX5_92 rfl rfl (by first | exact Nat.lt_of_lt_of_le (by decide) hN | assumption | (simp only [hm_n_wI, hm_n_wL, hm_n_wR, hm_n_g] at *; omega)) dX5_portable_17 ?_
    rw [e0]
    refine hm_bipush dX5_portable_20 (v := 8) (by decide) ?_
    refine hm_icmp_ne 32 dX5_portable_22 (by decide) (fun h22 => ?_) (fun h22 => ?_)
    · skip
      rw [q4] at h22
      have hc : oPortable α (nI j) key = (nI (nPort α), sN (sI (sL (sN α 3 (nPort α) j) 0 (nPort α) key) 2 (nPort α) (-9)) 1 0 (nPort α + 1)) := by unfold oPortable; rw [h7, if_neg (by decide), if_neg h22, nI_clamp (by omega)]
      refine hm_aload_n dX5_portable_32 rfl ?_
      refine hm_getR lf_RX5_13 rfl rfl (by first | exact Nat.lt_of_lt_of_le (by decide) hN | assumption | (simp only [hm_n_wI, hm_n_wL, hm_n_wR, hm_n_g] at *; omega)) (hM 3) dX5_portable_33 ?_
      refine hm_aload_n dX5_portable_36 rfl ?_
      refine hm_getI lf_RX5_92 rfl rfl (by first | exact Nat.lt_of_lt_of_le (by decide) hN | assumption | (simp only [hm_n_wI, hm_n_wL, hm_n_wR, hm_n_g] at *; omega)) dX5_portable_37 ?_
      rw [e0]
      refine hm_iload_n dX5_portable_40 rfl ?_
      refine hm_iast _ rfl (by first | exact Nat.lt_of_lt_of_le (by decide) hN | assumption | (simp only [hm_n_wI, hm_n_wL, hm_n_wR, hm_n_g] at *; omega)) rfl (by omega) (by decide) dX5_portable_41 ?_
      refine hm_aload_n dX5_portable_42 rfl ?_
      refine hm_getR lf_RX5_16 rfl rfl (by first | exact Nat.lt_of_lt_of_le (by decide) hN | assumption | (simp only [hm_n_wI, hm_n_wL, hm_n_wR, hm_n_g] at *; omega)) (hM 4) dX5_portable_43 ?_
      refine hm_aload_n dX5_portable_46 rfl ?_
      refine hm_getI lf_RX5_92 rfl rfl (by first | exact Nat.lt_of_lt_of_le (by decide) hN | assumption | (simp only [hm_n_wI, hm_n_wL, hm_n_wR, hm_n_g] at *; omega)) dX5_portable_47 ?_
      simp only [hm_I_wI, hm_I_wL, e0, Nat.reduceEqDiff, false_and, reduceIte]
      refine hm_lload_n dX5_portable_50 rfl ?_
      refine hm_last _ rfl (by first | exact Nat.lt_of_lt_of_le (by decide) hN | assumption | (simp only [hm_n_wI, hm_n_wL, hm_n_wR, hm_n_g] at *; omega)) rfl (by omega) (by decide) dX5_portable_51 ?_
      refine hm_aload_n dX5_portable_52 rfl ?_
      refine hm_getR lf_RX5_30 rfl rfl (by first | exact Nat.lt_of_lt_of_le (by decide) hN | assumption | (simp only [hm_n_wI, hm_n_wL, hm_n_wR, hm_n_g] at *; omega)) (hM 8) dX5_portable_53 ?_
      refine hm_aload_n dX5_portable_56 rfl ?_
      refine hm_getI lf_RX5_92 rfl rfl (by first | exact Nat.lt_of_lt_of_le (by decide) hN | assumption | (simp only [hm_n_wI, hm_n_wL, hm_n_wR, hm_n_g] at *; omega)) dX5_portable_57 ?_
      simp only [hm_I_wI, hm_I_wL, e0, Nat.reduceEqDiff, false_and, reduceIte]
      refine hm_bipush dX5_portable_60 (v := -9) (by decide) ?_
      refine hm_iast _ rfl (by first | exact Nat.lt_of_lt_of_le (by decide) hN | assumption | (simp only [hm_n_wI, hm_n_wL, hm_n_wR, hm_n_g] at *; omega)) rfl (by omega) (by decide) dX5_portable_62 ?_
      refine hm_aload_n dX5_portable_63 rfl ?_
      refine hm_dup dX5_portable_64 rfl ?_
      refine hm_getI lf_RX5_92 rfl rfl (by first | exact Nat.lt_of_lt_of_le (by decide) hN | assumption | (simp only [hm_n_wI, hm_n_wL, hm_n_wR, hm_n_g] at *; omega)) dX5_portable_65 ?_
      simp only [hm_I_wI, hm_I_wL, e0, Nat.reduceEqDiff, false_and, reduceIte]
      refine hm_iconst dX5_portable_68 (v := 1) (by decide) ?_
      refine hm_iadd dX5_portable_69 ?_
      refine hm_putI lf_RX5_92 rfl rfl rfl (by first | exact Nat.lt_of_lt_of_le (by decide) hN | assumption | (simp only [hm_n_wI, hm_n_wL, hm_n_wR, hm_n_g] at *; omega)) dX5_portable_70 ?_
      refine hm_aload_n dX5_portable_73 rfl ?_
      refine hm_getI lf_RX5_92 rfl rfl (by first | exact Nat.lt_of_lt_of_le (by decide) hN | assumption | (simp only [hm_n_wI, hm_n_wL, hm_n_wR, hm_n_g] at *; omega)) dX5_portable_74 ?_
      simp only [hm_I_wI, and_self, reduceIte]
      refine hm_iconst dX5_portable_77 (v := 1) (by decide) ?_
      refine hm_isub dX5_portable_78 ?_
      refine hm_iret dX5_portable_79 rfl (by decide) (by decide) ?_
      rw [nI_1, nI_pred]
      refine hQ _ _ ⟨by rw [hc], ?_, ?_⟩
      rw [hc]
      exact (((h.upN 3 (nPort α) j (by show _ < 8; omega)).upL 0 (nPort α) key (by show _ < 8; omega)).upI 2 (nPort α) (-9) (by show _ < 8; omega)).upN 1 0 (nPort α + 1) (by decide)
      exact (((((md_fr.rf σ).wI 29 _ _ (by decide)).wL 30 _ _ (by decide)).wI 34 _ _ (by decide)).wI 27 2 _ (by decide)).fo
    · skip
      rw [q4] at h22
      refine hm_aload_n dX5_portable_25 rfl ?_
      refine hm_bipush dX5_portable_26 (v := -6) (by decide) ?_
      refine hm_callV lm_RX5_95 (r5_refuse l h 6 (by decide)) rfl rfl rfl rfl (by first | exact Nat.lt_of_lt_of_le (by decide) hN | assumption | (simp only [hm_n_wI, hm_n_wL, hm_n_wR, hm_n_g] at *; omega)) (by decide) (by decide) (Nat.le_of_ble_eq_true rfl) dX5_portable_28 ?_
      rintro _ ρ ⟨rfl, hρ, hf⟩
      refine hm_iret dX5_portable_31 rfl (by decide) (by decide) ?_
      refine hQ _ _ ⟨?_, ?_, hf⟩
      rw [oPortable, h7, if_neg (by decide), if_pos h22]
      rw [oPortable, h7, if_neg (by decide), if_pos h22]; exact hρ
  · skip
    rw [bI_0] at h7
    refine hm_aload_n dX5_portable_10 rfl ?_
    refine hm_iconst dX5_portable_11 (v := -1) (by decide) ?_
    refine hm_callV lm_RX5_95 (r5_refuse l h 1 (by decide)) rfl rfl rfl rfl (by first | exact Nat.lt_of_lt_of_le (by decide) hN | assumption | (simp only [hm_n_wI, hm_n_wL, hm_n_wR, hm_n_g] at *; omega)) (by decide) (by decide) (Nat.le_of_ble_eq_true rfl) dX5_portable_12 ?_
    rintro _ ρ ⟨rfl, hρ, hf⟩
    refine hm_iret dX5_portable_15 rfl (by decide) (by decide) ?_
    refine hQ _ _ ⟨?_, ?_, hf⟩
    rw [oPortable, h7]; rfl
    rw [oPortable, h7]; exact hρ
set_option maxRecDepth 100000 in
theorem r5_reach (h : rM α σ) (w : sW α) (pl bits : Int32) : hm_Ct l yX5_reach cX5_reach 4 (some .int) 1 0 0 [.ref 27, .int pl, .int bits] σ (fun r τ => r = some (.int (oReach α pl bits).1) ∧ rM (oReach α pl bits).2 τ ∧ md_fo σ τ) := by
  obtain ⟨hN, hM⟩ := h.m
  refine hm_startQ (ini := false) [.ref 27, .int pl, .int bits, hm_u] (by decide) (by decide) rfl (Nat.le_of_ble_eq_true rfl) (fun Q hQ => ?_)
  refine hm_iload_n dX5_reach_0 rfl ?_
  refine hm_iconst dX5_reach_1 (v := 0) (by decide) ?_
  refine hm_bipush dX5_reach_2 (v := 15) (by decide) ?_
  refine hm_callS lm_RX5_88 (r5_in l _ _ (n := 16) (by decide) (by decide)) rfl rfl (by decide) (by decide) (Nat.le_of_ble_eq_true rfl) dX5_reach_4 ?_
  rintro _ t9 ⟨rfl, hh9⟩
  rw [hh9]
  clear hh9 t9
  refine hm_if_ne 16 dX5_reach_7 (by decide) (fun h7 => ?_) (fun h7 => ?_)
  · skip
    rw [bI_0] at h7
    have h7 := b_nf h7
    obtain ⟨j, hj, rfl⟩ := pIn_some (by decide) h7
    refine hm_iload_n dX5_reach_16 rfl ?_
    refine hm_if_ge 27 dX5_reach_17 (by decide) (fun h17 => ?_) (fun h17 => ?_)
    · skip
      refine hm_iload_n dX5_reach_27 rfl ?_
      refine hm_bipush dX5_reach_28 (v := 15) (by decide) ?_
      refine hm_icmp_le 40 dX5_reach_30 (by decide) (fun h30 => ?_) (fun h30 => ?_)
      · skip
        obtain ⟨b, hb, rfl⟩ := nI_of2 (M := 15) (n := 15) (by decide) (Int32.not_lt.mpr h17) h30
        have hc : oReach α (nI j) (nI b) = (nI (aN α 4 j), sN α 4 j b) := by unfold oReach; rw [h7, if_neg (by decide), if_neg (Int32.not_lt.mpr h17), if_neg (Int32.not_lt.mpr h30), nI_clamp (by omega), nI_clamp (by omega)]
        refine hm_aload_n dX5_reach_40 rfl ?_
        refine hm_getR lf_RX5_36 rfl rfl (by first | exact Nat.lt_of_lt_of_le (by decide) hN | assumption | (simp only [hm_n_wI, hm_n_wL, hm_n_wR, hm_n_g] at *; omega)) (hM 10) dX5_reach_41 ?_
        refine hm_iload_n dX5_reach_44 rfl ?_
        refine hm_iald _ rfl (by first | exact Nat.lt_of_lt_of_le (by decide) hN | assumption | (simp only [hm_n_wI, hm_n_wL, hm_n_wR, hm_n_g] at *; omega)) rfl (by omega) (by decide) dX5_reach_45 ?_
        rw [show hm_I σ 36 j = nI (aN α 4 j) from h.n 4 j hj]
        refine hm_istore_n dX5_reach_46 (by decide) rfl ?_
        refine hm_aload_n dX5_reach_47 rfl ?_
        refine hm_getR lf_RX5_36 rfl rfl (by first | exact Nat.lt_of_lt_of_le (by decide) hN | assumption | (simp only [hm_n_wI, hm_n_wL, hm_n_wR, hm_n_g] at *; omega)) (hM 10) dX5_reach_48 ?_
        refine hm_iload_n dX5_reach_51 rfl ?_
        refine hm_iload_n dX5_reach_52 rfl ?_
        refine hm_iast _ rfl (by first | exact Nat.lt_of_lt_of_le (by decide) hN | assumption | (simp only [hm_n_wI, hm_n_wL, hm_n_wR, hm_n_g] at *; omega)) rfl (by omega) (by decide) dX5_reach_53 ?_
        refine hm_iload_n dX5_reach_54 rfl ?_
        refine hm_iret dX5_reach_55 rfl (by decide) (by decide) ?_
        refine hQ _ _ ⟨by rw [hc], ?_, (md_fo.rf σ).wI 36 _ _ (by decide)⟩
        rw [hc]
        exact h.upN 4 j b hj
      · skip
        have h30 := Int32.not_le.mp h30
        refine hm_aload_n dX5_reach_33 rfl ?_
        refine hm_bipush dX5_reach_34 (v := -6) (by decide) ?_
        refine hm_callV lm_RX5_95 (r5_refuse l h 6 (by decide)) rfl rfl rfl rfl (by first | exact Nat.lt_of_lt_of_le (by decide) hN | assumption | (simp only [hm_n_wI, hm_n_wL, hm_n_wR, hm_n_g] at *; omega)) (by decide) (by decide) (Nat.le_of_ble_eq_true rfl) dX5_reach_36 ?_
        rintro _ ρ ⟨rfl, hρ, hf⟩
        refine hm_iret dX5_reach_39 rfl (by decide) (by decide) ?_
        refine hQ _ _ ⟨?_, ?_, hf⟩
        rw [oReach, h7, if_neg (by decide), if_neg (Int32.not_lt.mpr h17), if_pos h30]
        rw [oReach, h7, if_neg (by decide), if_neg (Int32.not_lt.mpr h17), if_pos h30]; exact hρ
    · skip
      have h17 := Int32.not_le.mp h17
      refine hm_aload_n dX5_reach_20 rfl ?_
      refine hm_bipush dX5_reach_21 (v := -4) (by decide) ?_
      refine hm_callV lm_RX5_95 (r5_refuse l h 4 (by decide)) rfl rfl rfl rfl (by first | exact Nat.lt_of_lt_of_le (by decide) hN | assumption | (simp only [hm_n_wI, hm_n_wL, hm_n_wR, hm_n_g] at *; omega)) (by decide) (by decide) (Nat.le_of_ble_eq_true rfl) dX5_reach_23 ?_
      rintro _ ρ ⟨rfl, hρ, hf⟩
      refine hm_iret dX5_reach_26 rfl (by decide) (by decide) ?_
      refine hQ _ _ ⟨?_, ?_, hf⟩
      rw [oReach, h7, if_neg (by decide), if_pos h17]
      rw [oReach, h7, if_neg (by decide), if_pos h17]; exact hρ
  · skip
    rw [bI_0] at h7
    refine hm_aload_n dX5_reach_10 rfl ?_
    refine hm_iconst dX5_reach_11 (v := -1) (by decide) ?_
    refine hm_callV lm_RX5_95 (r5_refuse l h 1 (by decide)) rfl rfl rfl rfl (by first | exact Nat.lt_of_lt_of_le (by decide) hN | assumption | (simp only [hm_n_wI, hm_n_wL, hm_n_wR, hm_n_g] at *; omega)) (by decide) (by decide) (Nat.le_of_ble_eq_true rfl) dX5_reach_12 ?_
    rintro _ ρ ⟨rfl, hρ, hf⟩
    refine hm_iret dX5_reach_15 rfl (by decide) (by decide) ?_
    refine hQ _ _ ⟨?_, ?_, hf⟩
    rw [oReach, h7]; rfl
    rw [oReach, h7]; exact hρ
set_option maxRecDepth 100000 in
theorem r5_noise (h : rM α σ) (w : sW α) (wh ch on : Int32) (ho : on = 0 ∨ on = 1) : hm_Ct l yX5_noise cX5_noise 4 (some .boolean) 1 0 0 [.ref 27, .int wh, .int ch, .int on] σ (fun r τ => r = some (.int (oNoise α wh ch on).1) ∧ rM (oNoise α wh ch on).2 τ ∧ md_fo σ τ) := by
  obtain ⟨hN, hM⟩ := h.m
  have e0 : hm_I σ 27 0 = nI (nCell α) := h.n 0 0 (by decide)
  have h4 := w.c4
  refine hm_startQ (ini := false) [.ref 27, .int wh, .int ch, .int on] (by decide) (by decide) rfl (Nat.le_of_ble_eq_true rfl) (fun Q hQ => ?_)
  refine hm_iload_n dX5_noise_0 rfl ?_
  refine hm_iconst dX5_noise_1 (v := 0) (by decide) ?_
  refine hm_bipush dX5_noise_2 (v := 15) (by decide) ?_
  refine hm_aload_n dX5_noise_4 rfl ?_
  refine hm_getI lf_RX5_84 rfl rfl (by first | exact Nat.lt_of_lt_of_le (by decide) hN | assumption | (simp only [hm_n_wI, hm_n_wL, hm_n_wR, hm_n_g] at *; omega)) dX5_noise_5 ?_
  rw [e0]
  refine hm_iadd dX5_noise_8 ?_
  refine hm_callS lm_RX5_88 (r5_in l _ _ (n := 16 + nCell α) (by omega) (by rw [show (15 : Int32) = nI 15 from rfl, nI_add, nI_toInt (by omega)]; omega)) rfl rfl (by decide) (by decide) (Nat.le_of_ble_eq_true rfl) dX5_noise_9 ?_
  rintro _ t9 ⟨rfl, hh9⟩
  rw [hh9]
  clear hh9 t9
  refine hm_if_eq 40 dX5_noise_12 (by decide) (fun h12 => ?_) (fun h12 => ?_)
  · skip
    rw [bI_0] at h12
    have hc : oNoise α wh ch on = (0, α) := by unfold oNoise; rw [h12]; rfl
    refine hm_iconst dX5_noise_40 (v := 0) (by decide) ?_
    refine hm_zret dX5_noise_41 rfl (by decide) (by decide) (by first | exact Or.inl rfl | exact Or.inr rfl | assumption) ?_
    exact hQ _ _ ⟨by rw [hc], by rw [hc]; exact h, md_fo.rf σ⟩
  · skip
    rw [bI_0] at h12
    have h12 := b_nf h12
    obtain ⟨a, ha, rfl⟩ := pIn_some (by omega) h12
    refine hm_iload_n dX5_noise_15 rfl ?_
    refine hm_iconst dX5_noise_16 (v := 0) (by decide) ?_
    refine hm_bipush dX5_noise_17 (v := 119) (by decide) ?_
    refine hm_callS lm_RX5_88 (r5_in l _ _ (n := 120) (by decide) (by decide)) rfl rfl (by decide) (by decide) (Nat.le_of_ble_eq_true rfl) dX5_noise_19 ?_
    rintro _ t9 ⟨rfl, hh9⟩
    rw [hh9]
    clear hh9 t9
    refine hm_if_eq 40 dX5_noise_22 (by decide) (fun h22 => ?_) (fun h22 => ?_)
    · skip
      rw [bI_0] at h22
      have hc : oNoise α (nI a) ch on = (0, α) := by unfold oNoise; rw [h12, h22]; rfl
      refine hm_iconst dX5_noise_40 (v := 0) (by decide) ?_
      refine hm_zret dX5_noise_41 rfl (by decide) (by decide) (by first | exact Or.inl rfl | exact Or.inr rfl | assumption) ?_
      exact hQ _ _ ⟨by rw [hc], by rw [hc]; exact h, md_fo.rf σ⟩
    · skip
      rw [bI_0] at h22
      have h22 := b_nf h22
      obtain ⟨b, hb, rfl⟩ := pIn_some (by decide) h22
      refine hm_aload_n dX5_noise_25 rfl ?_
      refine hm_getR lf_RX5_39 rfl rfl (by first | exact Nat.lt_of_lt_of_le (by decide) hN | assumption | (simp only [hm_n_wI, hm_n_wL, hm_n_wR, hm_n_g] at *; omega)) (hM 11) dX5_noise_26 ?_
      refine hm_bipush dX5_noise_29 (v := 120) (by decide) ?_
      refine hm_iload_n dX5_noise_31 rfl ?_
      refine hm_imul dX5_noise_32 ?_
      refine hm_iload_n dX5_noise_33 rfl ?_
      refine hm_iadd dX5_noise_34 ?_
      refine hm_zald (120 * a + b) rfl (by first | exact Nat.lt_of_lt_of_le (by decide) hN | assumption | (simp only [hm_n_wI, hm_n_wL, hm_n_wR, hm_n_g] at *; omega)) (ix120 _ _) (by omega) (by decide) dX5_noise_35 ?_
      rw [show hm_I σ 37 (120 * a + b) = nI (aN α 5 (120 * a + b)) from h.n 5 _ (by show _ < 2400; omega)]
      refine hm_iload_n dX5_noise_36 rfl ?_
      refine hm_icmp_ne 42 dX5_noise_37 (by decide) (fun h37 => ?_) (fun h37 => ?_)
      · skip
        have hc : oNoise α (nI a) (nI b) on = (1, sN α 5 (120 * a + b) on.toNatClampNeg) := by unfold oNoise; rw [h12, h22, nI_clamp (by omega), nI_clamp (by omega)]; simp [h37]
        refine hm_aload_n dX5_noise_42 rfl ?_
        refine hm_getR lf_RX5_39 rfl rfl (by first | exact Nat.lt_of_lt_of_le (by decide) hN | assumption | (simp only [hm_n_wI, hm_n_wL, hm_n_wR, hm_n_g] at *; omega)) (hM 11) dX5_noise_43 ?_
        refine hm_bipush dX5_noise_46 (v := 120) (by decide) ?_
        refine hm_iload_n dX5_noise_48 rfl ?_
        refine hm_imul dX5_noise_49 ?_
        refine hm_iload_n dX5_noise_50 rfl ?_
        refine hm_iadd dX5_noise_51 ?_
        refine hm_iload_n dX5_noise_52 rfl ?_
        refine hm_zast (120 * a + b) (by first | exact Or.inl rfl | exact Or.inr rfl | assumption) rfl (by first | exact Nat.lt_of_lt_of_le (by decide) hN | assumption | (simp only [hm_n_wI, hm_n_wL, hm_n_wR, hm_n_g] at *; omega)) (ix120 _ _) (by omega) (by decide) dX5_noise_53 ?_
        refine hm_iconst dX5_noise_54 (v := 1) (by decide) ?_
        refine hm_zret dX5_noise_55 rfl (by decide) (by decide) (by first | exact Or.inl rfl | exact Or.inr rfl | assumption) ?_
        refine hQ _ _ ⟨by rw [hc], ?_, (md_fo.rf σ).wI 37 _ _ (by decide)⟩
        rw [hc]
        have h9 := h.upN 5 (120 * a + b) on.toNatClampNeg (by show _ < 2400; omega)
        rw [show nI on.toNatClampNeg = on by rcases ho with rfl | rfl <;> rfl] at h9
        exact h9
      · skip
        have hc : oNoise α (nI a) (nI b) on = (0, α) := by unfold oNoise; rw [h12, h22, nI_clamp (by omega), nI_clamp (by omega)]; simp [h37]
        refine hm_iconst dX5_noise_40 (v := 0) (by decide) ?_
        refine hm_zret dX5_noise_41 rfl (by decide) (by decide) (by first | exact Or.inl rfl | exact Or.inr rfl | assumption) ?_
        exact hQ _ _ ⟨by rw [hc], by rw [hc]; exact h, md_fo.rf σ⟩
set_option maxRecDepth 100000 in
theorem r5_go (h : rM α σ) (w : sW α) (p pl : Int32) : hm_Ct l yX5_go cX5_go 4 (some .int) 2 0 0 [.ref 27, .int p, .int pl] σ (fun r τ => r = some (.int (oGo α p pl).1) ∧ rM (oGo α p pl).2 τ ∧ md_fo σ τ) := by
  obtain ⟨hN, hM⟩ := h.m
  have h8 := w.p8
  refine hm_startQ (ini := false) [.ref 27, .int p, .int pl, hm_u] (by decide) (by decide) rfl (Nat.le_of_ble_eq_true rfl) (fun Q hQ => ?_)
  refine hm_aload_n dX5_go_0 rfl ?_
  refine hm_iload_n dX5_go_1 rfl ?_
  refine hm_callV lm_RX5_99 (r5_isPortable l h w p) rfl rfl rfl rfl (by first | exact Nat.lt_of_lt_of_le (by decide) hN | assumption | (simp only [hm_n_wI, hm_n_wL, hm_n_wR, hm_n_g] at *; omega)) (by decide) (by decide) (Nat.le_of_ble_eq_true rfl) dX5_go_2 ?_
  rintro _ t9 ⟨rfl, hh9⟩
  rw [hh9]
  clear hh9 t9
  refine hm_if_eq 18 dX5_go_5 (by decide) (fun h5 => ?_) (fun h5 => ?_)
  · skip
    rw [bI_0] at h5
    have hc : oGo α p pl = pRef α 1 := by unfold oGo; rw [h5]; rfl
    refine hm_aload_n dX5_go_18 rfl ?_
    refine hm_iconst dX5_go_19 (v := -1) (by decide) ?_
    refine hm_callV lm_RX5_95 (r5_refuse l h 1 (by decide)) rfl rfl rfl rfl (by first | exact Nat.lt_of_lt_of_le (by decide) hN | assumption | (simp only [hm_n_wI, hm_n_wL, hm_n_wR, hm_n_g] at *; omega)) (by decide) (by decide) (Nat.le_of_ble_eq_true rfl) dX5_go_20 ?_
    rintro _ ρ ⟨rfl, hρ, hf⟩
    refine hm_iret dX5_go_23 rfl (by decide) (by decide) ?_
    exact hQ _ _ ⟨by rw [hc], by rw [hc]; exact hρ, hf⟩
  · skip
    rw [bI_0] at h5
    have h5 := b_nf h5
    obtain ⟨a, ha, rfl⟩ := pIn_some (by omega) h5
    refine hm_iload_n dX5_go_8 rfl ?_
    refine hm_iconst dX5_go_9 (v := 0) (by decide) ?_
    refine hm_bipush dX5_go_10 (v := 15) (by decide) ?_
    refine hm_callS lm_RX5_88 (r5_in l _ _ (n := 16) (by decide) (by decide)) rfl rfl (by decide) (by decide) (Nat.le_of_ble_eq_true rfl) dX5_go_12 ?_
    rintro _ t9 ⟨rfl, hh9⟩
    rw [hh9]
    clear hh9 t9
    refine hm_if_ne 24 dX5_go_15 (by decide) (fun h15 => ?_) (fun h15 => ?_)
    · skip
      rw [bI_0] at h15
      have h15 := b_nf h15
      obtain ⟨b, hb, rfl⟩ := pIn_some (by decide) h15
      have hc : oGo α (nI a) (nI b) = (nI (aN α 3 a), sN α 3 a b) := by unfold oGo; rw [h5, h15, nI_clamp (by omega), nI_clamp (by omega)]; rfl
      refine hm_aload_n dX5_go_24 rfl ?_
      refine hm_getR lf_RX5_13 rfl rfl (by first | exact Nat.lt_of_lt_of_le (by decide) hN | assumption | (simp only [hm_n_wI, hm_n_wL, hm_n_wR, hm_n_g] at *; omega)) (hM 3) dX5_go_25 ?_
      refine hm_iload_n dX5_go_28 rfl ?_
      refine hm_iald _ rfl (by first | exact Nat.lt_of_lt_of_le (by decide) hN | assumption | (simp only [hm_n_wI, hm_n_wL, hm_n_wR, hm_n_g] at *; omega)) rfl (by omega) (by decide) dX5_go_29 ?_
      rw [show hm_I σ 29 a = nI (aN α 3 a) from h.n 3 a (by show _ < 8; omega)]
      refine hm_istore_n dX5_go_30 (by decide) rfl ?_
      refine hm_aload_n dX5_go_31 rfl ?_
      refine hm_getR lf_RX5_13 rfl rfl (by first | exact Nat.lt_of_lt_of_le (by decide) hN | assumption | (simp only [hm_n_wI, hm_n_wL, hm_n_wR, hm_n_g] at *; omega)) (hM 3) dX5_go_32 ?_
      refine hm_iload_n dX5_go_35 rfl ?_
      refine hm_iload_n dX5_go_36 rfl ?_
      refine hm_iast _ rfl (by first | exact Nat.lt_of_lt_of_le (by decide) hN | assumption | (simp only [hm_n_wI, hm_n_wL, hm_n_wR, hm_n_g] at *; omega)) rfl (by omega) (by decide) dX5_go_37 ?_
      refine hm_iload_n dX5_go_38 rfl ?_
      refine hm_iret dX5_go_39 rfl (by decide) (by decide) ?_
      exact hQ _ _ ⟨by rw [hc], by rw [hc]; exact h.upN 3 a b (by show _ < 8; omega), (md_fo.rf σ).wI 29 _ _ (by decide)⟩
    · skip
      rw [bI_0] at h15
      have hc : oGo α (nI a) pl = pRef α 1 := by unfold oGo; rw [h5, h15]; rfl
      refine hm_aload_n dX5_go_18 rfl ?_
      refine hm_iconst dX5_go_19 (v := -1) (by decide) ?_
      refine hm_callV lm_RX5_95 (r5_refuse l h 1 (by decide)) rfl rfl rfl rfl (by first | exact Nat.lt_of_lt_of_le (by decide) hN | assumption | (simp only [hm_n_wI, hm_n_wL, hm_n_wR, hm_n_g] at *; omega)) (by decide) (by decide) (Nat.le_of_ble_eq_true rfl) dX5_go_20 ?_
      rintro _ ρ ⟨rfl, hρ, hf⟩
      refine hm_iret dX5_go_23 rfl (by decide) (by decide) ?_
      exact hQ _ _ ⟨by rw [hc], by rw [hc]; exact hρ, hf⟩
set_option maxRecDepth 100000 in
theorem r5_enter (h : rM α σ) (w : sW α) (p : Int32) (key : Int64) : hm_Ct l yX5_enter cX5_enter 4 (some .int) 2 0 0 [.ref 27, .int p, .long key] σ (fun r τ => r = some (.int (oEnter α p key).1) ∧ rM (oEnter α p key).2 τ ∧ md_fo σ τ) := by
  obtain ⟨hN, hM⟩ := h.m
  have h8 := w.p8
  refine hm_startQ (ini := false) [.ref 27, .int p, .long key, hm_u] (by decide) (by decide) rfl (Nat.le_of_ble_eq_true rfl) (fun Q hQ => ?_)
  refine hm_aload_n dX5_enter_0 rfl ?_
  refine hm_iload_n dX5_enter_1 rfl ?_
  refine hm_callV lm_RX5_99 (r5_isPortable l h w p) rfl rfl rfl rfl (by first | exact Nat.lt_of_lt_of_le (by decide) hN | assumption | (simp only [hm_n_wI, hm_n_wL, hm_n_wR, hm_n_g] at *; omega)) (by decide) (by decide) (Nat.le_of_ble_eq_true rfl) dX5_enter_2 ?_
  rintro _ t9 ⟨rfl, hh9⟩
  rw [hh9]
  clear hh9 t9
  refine hm_if_ne 14 dX5_enter_5 (by decide) (fun h5 => ?_) (fun h5 => ?_)
  · skip
    rw [bI_0] at h5
    have h5 := b_nf h5
    obtain ⟨a, ha, rfl⟩ := pIn_some (by omega) h5
    refine hm_aload_n dX5_enter_14 rfl ?_
    refine hm_getR lf_RX5_27 rfl rfl (by first | exact Nat.lt_of_lt_of_le (by decide) hN | assumption | (simp only [hm_n_wI, hm_n_wL, hm_n_wR, hm_n_g] at *; omega)) (hM 7) dX5_enter_15 ?_
    refine hm_iload_n dX5_enter_18 rfl ?_
    refine hm_iald _ rfl (by first | exact Nat.lt_of_lt_of_le (by decide) hN | assumption | (simp only [hm_n_wI, hm_n_wL, hm_n_wR, hm_n_g] at *; omega)) rfl (by omega) (by decide) dX5_enter_19 ?_
    rw [show hm_I σ 33 a = aI α 1 a from h.i 1 a (by show _ < 8; omega)]
    refine hm_if_eq 30 dX5_enter_20 (by decide) (fun h20 => ?_) (fun h20 => ?_)
    · skip
      have hc : oEnter α (nI a) key = (1, sL (sI α 0 a 1) 1 a key) := by unfold oEnter; rw [h5, nI_clamp (by omega), if_neg (by decide), if_neg (by simp [h20])]
      refine hm_aload_n dX5_enter_30 rfl ?_
      refine hm_getR lf_RX5_20 rfl rfl (by first | exact Nat.lt_of_lt_of_le (by decide) hN | assumption | (simp only [hm_n_wI, hm_n_wL, hm_n_wR, hm_n_g] at *; omega)) (hM 5) dX5_enter_31 ?_
      refine hm_iload_n dX5_enter_34 rfl ?_
      refine hm_iconst dX5_enter_35 (v := 1) (by decide) ?_
      refine hm_zast _ (by first | exact Or.inl rfl | exact Or.inr rfl | assumption) rfl (by first | exact Nat.lt_of_lt_of_le (by decide) hN | assumption | (simp only [hm_n_wI, hm_n_wL, hm_n_wR, hm_n_g] at *; omega)) rfl (by omega) (by decide) dX5_enter_36 ?_
      refine hm_aload_n dX5_enter_37 rfl ?_
      refine hm_getR lf_RX5_24 rfl rfl (by first | exact Nat.lt_of_lt_of_le (by decide) hN | assumption | (simp only [hm_n_wI, hm_n_wL, hm_n_wR, hm_n_g] at *; omega)) (hM 6) dX5_enter_38 ?_
      refine hm_iload_n dX5_enter_41 rfl ?_
      refine hm_lload_n dX5_enter_42 rfl ?_
      refine hm_last _ rfl (by first | exact Nat.lt_of_lt_of_le (by decide) hN | assumption | (simp only [hm_n_wI, hm_n_wL, hm_n_wR, hm_n_g] at *; omega)) rfl (by omega) (by decide) dX5_enter_43 ?_
      refine hm_iconst dX5_enter_44 (v := 1) (by decide) ?_
      refine hm_iret dX5_enter_45 rfl (by decide) (by decide) ?_
      exact hQ _ _ ⟨by rw [hc], by rw [hc]; exact (h.upI 0 a 1 (by show _ < 8; omega)).upL 1 a key (by show _ < 8; omega), (((md_fr.rf σ).wI 31 _ _ (by decide)).wL 32 _ _ (by decide)).fo⟩
    · skip
      have hc : oEnter α (nI a) key = pRef α 2 := by unfold oEnter; rw [h5, nI_clamp (by omega), if_neg (by decide), if_pos h20]
      refine hm_aload_n dX5_enter_23 rfl ?_
      refine hm_bipush dX5_enter_24 (v := -2) (by decide) ?_
      refine hm_callV lm_RX5_95 (r5_refuse l h 2 (by decide)) rfl rfl rfl rfl (by first | exact Nat.lt_of_lt_of_le (by decide) hN | assumption | (simp only [hm_n_wI, hm_n_wL, hm_n_wR, hm_n_g] at *; omega)) (by decide) (by decide) (Nat.le_of_ble_eq_true rfl) dX5_enter_26 ?_
      rintro _ ρ ⟨rfl, hρ, hf⟩
      refine hm_iret dX5_enter_29 rfl (by decide) (by decide) ?_
      exact hQ _ _ ⟨by rw [hc], by rw [hc]; exact hρ, hf⟩
  · skip
    rw [bI_0] at h5
    have hc : oEnter α p key = pRef α 1 := by unfold oEnter; rw [h5]; rfl
    refine hm_aload_n dX5_enter_8 rfl ?_
    refine hm_iconst dX5_enter_9 (v := -1) (by decide) ?_
    refine hm_callV lm_RX5_95 (r5_refuse l h 1 (by decide)) rfl rfl rfl rfl (by first | exact Nat.lt_of_lt_of_le (by decide) hN | assumption | (simp only [hm_n_wI, hm_n_wL, hm_n_wR, hm_n_g] at *; omega)) (by decide) (by decide) (Nat.le_of_ble_eq_true rfl) dX5_enter_10 ?_
    rintro _ ρ ⟨rfl, hρ, hf⟩
    refine hm_iret dX5_enter_13 rfl (by decide) (by decide) ?_
    exact hQ _ _ ⟨by rw [hc], by rw [hc]; exact hρ, hf⟩
set_option maxRecDepth 100000 in
theorem r5_dial (h : rM α σ) (w : sW α) (p q : Int32) : hm_Ct l yX5_dial cX5_dial 3 (some .int) 2 0 0 [.ref 27, .int p, .int q] σ (fun r τ => r = some (.int (oDial α p q).1) ∧ rM (oDial α p q).2 τ ∧ md_fo σ τ) := by
  obtain ⟨hN, hM⟩ := h.m
  have h8 := w.p8
  refine hm_startQ (ini := false) [.ref 27, .int p, .int q] (by decide) (by decide) rfl (Nat.le_of_ble_eq_true rfl) (fun Q hQ => ?_)
  refine hm_aload_n dX5_dial_0 rfl ?_
  refine hm_iload_n dX5_dial_1 rfl ?_
  refine hm_callV lm_RX5_99 (r5_isPortable l h w p) rfl rfl rfl rfl (by first | exact Nat.lt_of_lt_of_le (by decide) hN | assumption | (simp only [hm_n_wI, hm_n_wL, hm_n_wR, hm_n_g] at *; omega)) (by decide) (by decide) (Nat.le_of_ble_eq_true rfl) dX5_dial_2 ?_
  rintro _ t9 ⟨rfl, hh9⟩
  rw [hh9]
  clear hh9 t9
  refine hm_if_eq 21 dX5_dial_5 (by decide) (fun h5 => ?_) (fun h5 => ?_)
  · skip
    rw [bI_0] at h5
    have hc : oDial α p q = pRef α 1 := by unfold oDial; rw [h5]; rfl
    refine hm_aload_n dX5_dial_21 rfl ?_
    refine hm_iconst dX5_dial_22 (v := -1) (by decide) ?_
    refine hm_callV lm_RX5_95 (r5_refuse l h 1 (by decide)) rfl rfl rfl rfl (by first | exact Nat.lt_of_lt_of_le (by decide) hN | assumption | (simp only [hm_n_wI, hm_n_wL, hm_n_wR, hm_n_g] at *; omega)) (by decide) (by decide) (Nat.le_of_ble_eq_true rfl) dX5_dial_23 ?_
    rintro _ ρ ⟨rfl, hρ, hf⟩
    refine hm_iret dX5_dial_26 rfl (by decide) (by decide) ?_
    exact hQ _ _ ⟨by rw [hc], by rw [hc]; exact hρ, hf⟩
  · skip
    rw [bI_0] at h5
    have h5 := b_nf h5
    obtain ⟨a, ha, rfl⟩ := pIn_some (by omega) h5
    refine hm_aload_n dX5_dial_8 rfl ?_
    refine hm_iload_n dX5_dial_9 rfl ?_
    refine hm_callV lm_RX5_99 (r5_isPortable l h w q) rfl rfl rfl rfl (by first | exact Nat.lt_of_lt_of_le (by decide) hN | assumption | (simp only [hm_n_wI, hm_n_wL, hm_n_wR, hm_n_g] at *; omega)) (by decide) (by decide) (Nat.le_of_ble_eq_true rfl) dX5_dial_10 ?_
    rintro _ t9 ⟨rfl, hh9⟩
    rw [hh9]
    clear hh9 t9
    refine hm_if_eq 21 dX5_dial_13 (by decide) (fun h13 => ?_) (fun h13 => ?_)
    · skip
      rw [bI_0] at h13
      have hc : oDial α (nI a) q = pRef α 1 := by unfold oDial; rw [h5, h13]; rfl
      refine hm_aload_n dX5_dial_21 rfl ?_
      refine hm_iconst dX5_dial_22 (v := -1) (by decide) ?_
      refine hm_callV lm_RX5_95 (r5_refuse l h 1 (by decide)) rfl rfl rfl rfl (by first | exact Nat.lt_of_lt_of_le (by decide) hN | assumption | (simp only [hm_n_wI, hm_n_wL, hm_n_wR, hm_n_g] at *; omega)) (by decide) (by decide) (Nat.le_of_ble_eq_true rfl) dX5_dial_23 ?_
      rintro _ ρ ⟨rfl, hρ, hf⟩
      refine hm_iret dX5_dial_26 rfl (by decide) (by decide) ?_
      exact hQ _ _ ⟨by rw [hc], by rw [hc]; exact hρ, hf⟩
    · skip
      rw [bI_0] at h13
      have h13 := b_nf h13
      obtain ⟨b, hb, rfl⟩ := pIn_some (by omega) h13
      refine hm_iload_n dX5_dial_16 rfl ?_
      refine hm_iload_n dX5_dial_17 rfl ?_
      refine hm_icmp_ne 27 dX5_dial_18 (by decide) (fun h18 => ?_) (fun h18 => ?_)
      · skip
        have hcc : oDial α (nI a) (nI b) = if aI α 1 a ≠ 0 then pRef α 2 else if aI α 0 a = 0 ∨ aI α 0 b = 0 then pRef α 3 else (1, sI (sI (sI α 1 a 1) 2 a (nI b)) 3 a (nI (aN α 6 0))) := by unfold oDial; rw [h5, h13, nI_clamp (by omega), nI_clamp (by omega)]; simp [h18]
        refine hm_aload_n dX5_dial_27 rfl ?_
        refine hm_getR lf_RX5_27 rfl rfl (by first | exact Nat.lt_of_lt_of_le (by decide) hN | assumption | (simp only [hm_n_wI, hm_n_wL, hm_n_wR, hm_n_g] at *; omega)) (hM 7) dX5_dial_28 ?_
        refine hm_iload_n dX5_dial_31 rfl ?_
        refine hm_iald _ rfl (by first | exact Nat.lt_of_lt_of_le (by decide) hN | assumption | (simp only [hm_n_wI, hm_n_wL, hm_n_wR, hm_n_g] at *; omega)) rfl (by omega) (by decide) dX5_dial_32 ?_
        rw [show hm_I σ 33 a = aI α 1 a from h.i 1 a (by show _ < 8; omega)]
        refine hm_if_eq 43 dX5_dial_33 (by decide) (fun h33 => ?_) (fun h33 => ?_)
        · skip
          rw [if_neg (by simp [h33])] at hcc
          refine hm_aload_n dX5_dial_43 rfl ?_
          refine hm_getR lf_RX5_20 rfl rfl (by first | exact Nat.lt_of_lt_of_le (by decide) hN | assumption | (simp only [hm_n_wI, hm_n_wL, hm_n_wR, hm_n_g] at *; omega)) (hM 5) dX5_dial_44 ?_
          refine hm_iload_n dX5_dial_47 rfl ?_
          refine hm_zald _ rfl (by first | exact Nat.lt_of_lt_of_le (by decide) hN | assumption | (simp only [hm_n_wI, hm_n_wL, hm_n_wR, hm_n_g] at *; omega)) rfl (by omega) (by decide) dX5_dial_48 ?_
          rw [show hm_I σ 31 a = aI α 0 a from h.i 0 a (by show _ < 8; omega)]
          refine hm_if_eq 61 dX5_dial_49 (by decide) (fun h49 => ?_) (fun h49 => ?_)
          · skip
            rw [if_pos (Or.inl h49)] at hcc
            have hc := hcc
            refine hm_aload_n dX5_dial_61 rfl ?_
            refine hm_bipush dX5_dial_62 (v := -3) (by decide) ?_
            refine hm_callV lm_RX5_95 (r5_refuse l h 3 (by decide)) rfl rfl rfl rfl (by first | exact Nat.lt_of_lt_of_le (by decide) hN | assumption | (simp only [hm_n_wI, hm_n_wL, hm_n_wR, hm_n_g] at *; omega)) (by decide) (by decide) (Nat.le_of_ble_eq_true rfl) dX5_dial_64 ?_
            rintro _ ρ ⟨rfl, hρ, hf⟩
            refine hm_iret dX5_dial_67 rfl (by decide) (by decide) ?_
            exact hQ _ _ ⟨by rw [hc], by rw [hc]; exact hρ, hf⟩
          · skip
            refine hm_aload_n dX5_dial_52 rfl ?_
            refine hm_getR lf_RX5_20 rfl rfl (by first | exact Nat.lt_of_lt_of_le (by decide) hN | assumption | (simp only [hm_n_wI, hm_n_wL, hm_n_wR, hm_n_g] at *; omega)) (hM 5) dX5_dial_53 ?_
            refine hm_iload_n dX5_dial_56 rfl ?_
            refine hm_zald _ rfl (by first | exact Nat.lt_of_lt_of_le (by decide) hN | assumption | (simp only [hm_n_wI, hm_n_wL, hm_n_wR, hm_n_g] at *; omega)) rfl (by omega) (by decide) dX5_dial_57 ?_
            rw [show hm_I σ 31 b = aI α 0 b from h.i 0 b (by show _ < 8; omega)]
            refine hm_if_ne 68 dX5_dial_58 (by decide) (fun h58 => ?_) (fun h58 => ?_)
            · skip
              rw [if_neg (by rintro (q | q); exact h49 q; exact h58 q)] at hcc
              have hc := hcc
              refine hm_aload_n dX5_dial_68 rfl ?_
              refine hm_getR lf_RX5_27 rfl rfl (by first | exact Nat.lt_of_lt_of_le (by decide) hN | assumption | (simp only [hm_n_wI, hm_n_wL, hm_n_wR, hm_n_g] at *; omega)) (hM 7) dX5_dial_69 ?_
              refine hm_iload_n dX5_dial_72 rfl ?_
              refine hm_iconst dX5_dial_73 (v := 1) (by decide) ?_
              refine hm_iast _ rfl (by first | exact Nat.lt_of_lt_of_le (by decide) hN | assumption | (simp only [hm_n_wI, hm_n_wL, hm_n_wR, hm_n_g] at *; omega)) rfl (by omega) (by decide) dX5_dial_74 ?_
              refine hm_aload_n dX5_dial_75 rfl ?_
              refine hm_getR lf_RX5_30 rfl rfl (by first | exact Nat.lt_of_lt_of_le (by decide) hN | assumption | (simp only [hm_n_wI, hm_n_wL, hm_n_wR, hm_n_g] at *; omega)) (hM 8) dX5_dial_76 ?_
              refine hm_iload_n dX5_dial_79 rfl ?_
              refine hm_iload_n dX5_dial_80 rfl ?_
              refine hm_iast _ rfl (by first | exact Nat.lt_of_lt_of_le (by decide) hN | assumption | (simp only [hm_n_wI, hm_n_wL, hm_n_wR, hm_n_g] at *; omega)) rfl (by omega) (by decide) dX5_dial_81 ?_
              refine hm_aload_n dX5_dial_82 rfl ?_
              refine hm_getR lf_RX5_33 rfl rfl (by first | exact Nat.lt_of_lt_of_le (by decide) hN | assumption | (simp only [hm_n_wI, hm_n_wL, hm_n_wR, hm_n_g] at *; omega)) (hM 9) dX5_dial_83 ?_
              refine hm_iload_n dX5_dial_86 rfl ?_
              refine hm_aload_n dX5_dial_87 rfl ?_
              refine hm_getI lf_RX5_103 rfl rfl (by first | exact Nat.lt_of_lt_of_le (by decide) hN | assumption | (simp only [hm_n_wI, hm_n_wL, hm_n_wR, hm_n_g] at *; omega)) dX5_dial_88 ?_
              simp only [hm_I_wI, show hm_I σ 27 26 = nI (aN α 6 0) from h.n 6 0 (by decide), Nat.reduceEqDiff, false_and, reduceIte]
              refine hm_iast _ rfl (by first | exact Nat.lt_of_lt_of_le (by decide) hN | assumption | (simp only [hm_n_wI, hm_n_wL, hm_n_wR, hm_n_g] at *; omega)) rfl (by omega) (by decide) dX5_dial_91 ?_
              refine hm_iconst dX5_dial_92 (v := 1) (by decide) ?_
              refine hm_iret dX5_dial_93 rfl (by decide) (by decide) ?_
              exact hQ _ _ ⟨by rw [hc], by rw [hc]; exact ((h.upI 1 a 1 (by show _ < 8; omega)).upI 2 a (nI b) (by show _ < 8; omega)).upI 3 a (nI (aN α 6 0)) (by show _ < 8; omega), ((((md_fo.rf σ).wI 33 _ _ (by decide)).wI 34 _ _ (by decide)).wI 35 _ _ (by decide))⟩
            · skip
              rw [if_pos (Or.inr h58)] at hcc
              have hc := hcc
              refine hm_aload_n dX5_dial_61 rfl ?_
              refine hm_bipush dX5_dial_62 (v := -3) (by decide) ?_
              refine hm_callV lm_RX5_95 (r5_refuse l h 3 (by decide)) rfl rfl rfl rfl (by first | exact Nat.lt_of_lt_of_le (by decide) hN | assumption | (simp only [hm_n_wI, hm_n_wL, hm_n_wR, hm_n_g] at *; omega)) (by decide) (by decide) (Nat.le_of_ble_eq_true rfl) dX5_dial_64 ?_
              rintro _ ρ ⟨rfl, hρ, hf⟩
              refine hm_iret dX5_dial_67 rfl (by decide) (by decide) ?_
              exact hQ _ _ ⟨by rw [hc], by rw [hc]; exact hρ, hf⟩
        · skip
          rw [if_pos h33] at hcc
          have hc := hcc
          refine hm_aload_n dX5_dial_36 rfl ?_
          refine hm_bipush dX5_dial_37 (v := -2) (by decide) ?_
          refine hm_callV lm_RX5_95 (r5_refuse l h 2 (by decide)) rfl rfl rfl rfl (by first | exact Nat.lt_of_lt_of_le (by decide) hN | assumption | (simp only [hm_n_wI, hm_n_wL, hm_n_wR, hm_n_g] at *; omega)) (by decide) (by decide) (Nat.le_of_ble_eq_true rfl) dX5_dial_39 ?_
          rintro _ ρ ⟨rfl, hρ, hf⟩
          refine hm_iret dX5_dial_42 rfl (by decide) (by decide) ?_
          exact hQ _ _ ⟨by rw [hc], by rw [hc]; exact hρ, hf⟩
      · skip
        have hc : oDial α (nI a) (nI b) = pRef α 1 := by unfold oDial; rw [h5, h13, h18]; simp
        refine hm_aload_n dX5_dial_21 rfl ?_
        refine hm_iconst dX5_dial_22 (v := -1) (by decide) ?_
        refine hm_callV lm_RX5_95 (r5_refuse l h 1 (by decide)) rfl rfl rfl rfl (by first | exact Nat.lt_of_lt_of_le (by decide) hN | assumption | (simp only [hm_n_wI, hm_n_wL, hm_n_wR, hm_n_g] at *; omega)) (by decide) (by decide) (Nat.le_of_ble_eq_true rfl) dX5_dial_23 ?_
        rintro _ ρ ⟨rfl, hρ, hf⟩
        refine hm_iret dX5_dial_26 rfl (by decide) (by decide) ?_
        exact hQ _ _ ⟨by rw [hc], by rw [hc]; exact hρ, hf⟩
set_option maxRecDepth 100000 in
theorem r5_answer (h : rM α σ) (w : sW α) (p : Int32) : hm_Ct l yX5_answer cX5_answer 2 (some .int) 2 0 0 [.ref 27, .int p] σ (fun r τ => r = some (.int (oAnswer α p).1) ∧ rM (oAnswer α p).2 τ ∧ md_fo σ τ) := by
  obtain ⟨hN, hM⟩ := h.m
  have h8 := w.p8
  refine hm_startQ (ini := false) [.ref 27, .int p] (by decide) (by decide) rfl (Nat.le_of_ble_eq_true rfl) (fun Q hQ => ?_)
  refine hm_aload_n dX5_answer_0 rfl ?_
  refine hm_iload_n dX5_answer_1 rfl ?_
  refine hm_callV lm_RX5_99 (r5_isPortable l h w p) rfl rfl rfl rfl (by first | exact Nat.lt_of_lt_of_le (by decide) hN | assumption | (simp only [hm_n_wI, hm_n_wL, hm_n_wR, hm_n_g] at *; omega)) (by decide) (by decide) (Nat.le_of_ble_eq_true rfl) dX5_answer_2 ?_
  rintro _ t9 ⟨rfl, hh9⟩
  rw [hh9]
  clear hh9 t9
  refine hm_if_ne 14 dX5_answer_5 (by decide) (fun h5 => ?_) (fun h5 => ?_)
  · skip
    rw [bI_0] at h5
    have h5 := b_nf h5
    obtain ⟨a, ha, rfl⟩ := pIn_some (by omega) h5
    refine hm_aload_n dX5_answer_14 rfl ?_
    refine hm_getR lf_RX5_27 rfl rfl (by first | exact Nat.lt_of_lt_of_le (by decide) hN | assumption | (simp only [hm_n_wI, hm_n_wL, hm_n_wR, hm_n_g] at *; omega)) (hM 7) dX5_answer_15 ?_
    refine hm_iload_n dX5_answer_18 rfl ?_
    refine hm_iald _ rfl (by first | exact Nat.lt_of_lt_of_le (by decide) hN | assumption | (simp only [hm_n_wI, hm_n_wL, hm_n_wR, hm_n_g] at *; omega)) rfl (by omega) (by decide) dX5_answer_19 ?_
    rw [show hm_I σ 33 a = aI α 1 a from h.i 1 a (by show _ < 8; omega)]
    refine hm_bipush dX5_answer_20 (v := 6) (by decide) ?_
    refine hm_icmp_eq 32 dX5_answer_22 (by decide) (fun h22 => ?_) (fun h22 => ?_)
    · skip
      have hc : oAnswer α (nI a) = (1, sI (sI (sI α 1 a 7) 1 (pPar α a) 7) 4 1 (aI α 4 1 + 1)) := by unfold oAnswer; rw [h5, nI_clamp (by omega), if_neg (by decide), if_neg (by simp [h22])]
      obtain ⟨hq, hne, hpar, -, -⟩ := w.par ha (by rw [h22]; decide)
      refine hm_aload_n dX5_answer_32 rfl ?_
      refine hm_getR lf_RX5_27 rfl rfl (by first | exact Nat.lt_of_lt_of_le (by decide) hN | assumption | (simp only [hm_n_wI, hm_n_wL, hm_n_wR, hm_n_g] at *; omega)) (hM 7) dX5_answer_33 ?_
      refine hm_iload_n dX5_answer_36 rfl ?_
      refine hm_bipush dX5_answer_37 (v := 7) (by decide) ?_
      refine hm_iast _ rfl (by first | exact Nat.lt_of_lt_of_le (by decide) hN | assumption | (simp only [hm_n_wI, hm_n_wL, hm_n_wR, hm_n_g] at *; omega)) rfl (by omega) (by decide) dX5_answer_39 ?_
      refine hm_aload_n dX5_answer_40 rfl ?_
      refine hm_getR lf_RX5_27 rfl rfl (by first | exact Nat.lt_of_lt_of_le (by decide) hN | assumption | (simp only [hm_n_wI, hm_n_wL, hm_n_wR, hm_n_g] at *; omega)) (hM 7) dX5_answer_41 ?_
      refine hm_aload_n dX5_answer_44 rfl ?_
      refine hm_getR lf_RX5_30 rfl rfl (by first | exact Nat.lt_of_lt_of_le (by decide) hN | assumption | (simp only [hm_n_wI, hm_n_wL, hm_n_wR, hm_n_g] at *; omega)) (hM 8) dX5_answer_45 ?_
      refine hm_iload_n dX5_answer_48 rfl ?_
      refine hm_iald _ rfl (by first | exact Nat.lt_of_lt_of_le (by decide) hN | assumption | (simp only [hm_n_wI, hm_n_wL, hm_n_wR, hm_n_g] at *; omega)) rfl (by omega) (by decide) dX5_answer_49 ?_
      rw [show hm_I (hm_wI σ 33 a 7) 34 a = nI (pPar α a) from (h.i 2 a (by show _ < 8; omega)).trans hpar]
      refine hm_bipush dX5_answer_50 (v := 7) (by decide) ?_
      refine hm_iast _ rfl (by first | exact Nat.lt_of_lt_of_le (by decide) hN | assumption | (simp only [hm_n_wI, hm_n_wL, hm_n_wR, hm_n_g] at *; omega)) rfl (by omega) (by decide) dX5_answer_52 ?_
      refine hm_aload_n dX5_answer_53 rfl ?_
      refine hm_dup dX5_answer_54 rfl ?_
      refine hm_getI lf_RX5_106 rfl rfl (by first | exact Nat.lt_of_lt_of_le (by decide) hN | assumption | (simp only [hm_n_wI, hm_n_wL, hm_n_wR, hm_n_g] at *; omega)) dX5_answer_55 ?_
      simp only [hm_I_wI, show hm_I σ 27 28 = aI α 4 1 from h.i 4 1 (by decide), Nat.reduceEqDiff, false_and, reduceIte]
      refine hm_iconst dX5_answer_58 (v := 1) (by decide) ?_
      refine hm_iadd dX5_answer_59 ?_
      refine hm_putI lf_RX5_106 rfl rfl rfl (by first | exact Nat.lt_of_lt_of_le (by decide) hN | assumption | (simp only [hm_n_wI, hm_n_wL, hm_n_wR, hm_n_g] at *; omega)) dX5_answer_60 ?_
      refine hm_iconst dX5_answer_63 (v := 1) (by decide) ?_
      refine hm_iret dX5_answer_64 rfl (by decide) (by decide) ?_
      exact hQ _ _ ⟨by rw [hc], by rw [hc]; exact ((h.upI 1 a 7 (by show _ < 8; omega)).upI 1 (pPar α a) 7 (by show pPar α a < 8; omega)).upI 4 1 _ (by decide), ((((md_fo.rf σ).wI 33 _ _ (by decide)).wI 33 _ _ (by decide)).wI 27 28 _ (by decide))⟩
    · skip
      have hc : oAnswer α (nI a) = pRef α 2 := by unfold oAnswer; rw [h5, nI_clamp (by omega), if_neg (by decide), if_pos h22]
      refine hm_aload_n dX5_answer_25 rfl ?_
      refine hm_bipush dX5_answer_26 (v := -2) (by decide) ?_
      refine hm_callV lm_RX5_95 (r5_refuse l h 2 (by decide)) rfl rfl rfl rfl (by first | exact Nat.lt_of_lt_of_le (by decide) hN | assumption | (simp only [hm_n_wI, hm_n_wL, hm_n_wR, hm_n_g] at *; omega)) (by decide) (by decide) (Nat.le_of_ble_eq_true rfl) dX5_answer_28 ?_
      rintro _ ρ ⟨rfl, hρ, hf⟩
      refine hm_iret dX5_answer_31 rfl (by decide) (by decide) ?_
      exact hQ _ _ ⟨by rw [hc], by rw [hc]; exact hρ, hf⟩
  · skip
    rw [bI_0] at h5
    have hc : oAnswer α p = pRef α 1 := by unfold oAnswer; rw [h5]; rfl
    refine hm_aload_n dX5_answer_8 rfl ?_
    refine hm_iconst dX5_answer_9 (v := -1) (by decide) ?_
    refine hm_callV lm_RX5_95 (r5_refuse l h 1 (by decide)) rfl rfl rfl rfl (by first | exact Nat.lt_of_lt_of_le (by decide) hN | assumption | (simp only [hm_n_wI, hm_n_wL, hm_n_wR, hm_n_g] at *; omega)) (by decide) (by decide) (Nat.le_of_ble_eq_true rfl) dX5_answer_10 ?_
    rintro _ ρ ⟨rfl, hρ, hf⟩
    refine hm_iret dX5_answer_13 rfl (by decide) (by decide) ?_
    exact hQ _ _ ⟨by rw [hc], by rw [hc]; exact hρ, hf⟩
set_option maxRecDepth 100000 in
theorem r5_hang (h : rM α σ) (w : sW α) (p : Int32) : hm_Ct l yX5_hang cX5_hang 2 (some .int) 3 0 0 [.ref 27, .int p] σ (fun r τ => r = some (.int (oHang α p).1) ∧ rM (oHang α p).2 τ ∧ md_fo σ τ) := by
  obtain ⟨hN, hM⟩ := h.m
  have h8 := w.p8
  refine hm_startQ (ini := false) [.ref 27, .int p] (by decide) (by decide) rfl (Nat.le_of_ble_eq_true rfl) (fun Q hQ => ?_)
  refine hm_aload_n dX5_hang_0 rfl ?_
  refine hm_iload_n dX5_hang_1 rfl ?_
  refine hm_callV lm_RX5_99 (r5_isPortable l h w p) rfl rfl rfl rfl (by first | exact Nat.lt_of_lt_of_le (by decide) hN | assumption | (simp only [hm_n_wI, hm_n_wL, hm_n_wR, hm_n_g] at *; omega)) (by decide) (by decide) (Nat.le_of_ble_eq_true rfl) dX5_hang_2 ?_
  rintro _ t9 ⟨rfl, hh9⟩
  rw [hh9]
  clear hh9 t9
  refine hm_if_ne 14 dX5_hang_5 (by decide) (fun h5 => ?_) (fun h5 => ?_)
  · skip
    rw [bI_0] at h5
    have h5 := b_nf h5
    obtain ⟨a, ha, rfl⟩ := pIn_some (by omega) h5
    refine hm_aload_n dX5_hang_14 rfl ?_
    refine hm_getR lf_RX5_27 rfl rfl (by first | exact Nat.lt_of_lt_of_le (by decide) hN | assumption | (simp only [hm_n_wI, hm_n_wL, hm_n_wR, hm_n_g] at *; omega)) (hM 7) dX5_hang_15 ?_
    refine hm_iload_n dX5_hang_18 rfl ?_
    refine hm_iald _ rfl (by first | exact Nat.lt_of_lt_of_le (by decide) hN | assumption | (simp only [hm_n_wI, hm_n_wL, hm_n_wR, hm_n_g] at *; omega)) rfl (by omega) (by decide) dX5_hang_19 ?_
    rw [show hm_I σ 33 a = aI α 1 a from h.i 1 a (by show _ < 8; omega)]
    refine hm_if_ne 30 dX5_hang_20 (by decide) (fun h20 => ?_) (fun h20 => ?_)
    · skip
      have hc : oHang α (nI a) = (1, pEnds α a) := by unfold oHang; rw [h5, nI_clamp (by omega), if_neg (by decide), if_neg h20]
      refine hm_aload_n dX5_hang_30 rfl ?_
      refine hm_iload_n dX5_hang_31 rfl ?_
      refine hm_callV lm_RX5_125 (r5_ends l h w ha h20) rfl rfl rfl rfl (by first | exact Nat.lt_of_lt_of_le (by decide) hN | assumption | (simp only [hm_n_wI, hm_n_wL, hm_n_wR, hm_n_g] at *; omega)) (by decide) (by decide) (Nat.le_of_ble_eq_true rfl) dX5_hang_32 ?_
      rintro _ ρ ⟨rfl, hρ, hf⟩
      refine hm_iconst dX5_hang_35 (v := 1) (by decide) ?_
      refine hm_iret dX5_hang_36 rfl (by decide) (by decide) ?_
      exact hQ _ _ ⟨by rw [hc], by rw [hc]; exact hρ, hf.fo⟩
    · skip
      have hc : oHang α (nI a) = pRef α 2 := by unfold oHang; rw [h5, nI_clamp (by omega), if_neg (by decide), if_pos h20]
      refine hm_aload_n dX5_hang_23 rfl ?_
      refine hm_bipush dX5_hang_24 (v := -2) (by decide) ?_
      refine hm_callV lm_RX5_95 (r5_refuse l h 2 (by decide)) rfl rfl rfl rfl (by first | exact Nat.lt_of_lt_of_le (by decide) hN | assumption | (simp only [hm_n_wI, hm_n_wL, hm_n_wR, hm_n_g] at *; omega)) (by decide) (by decide) (Nat.le_of_ble_eq_true rfl) dX5_hang_26 ?_
      rintro _ ρ ⟨rfl, hρ, hf⟩
      refine hm_iret dX5_hang_29 rfl (by decide) (by decide) ?_
      exact hQ _ _ ⟨by rw [hc], by rw [hc]; exact hρ, hf⟩
  · skip
    rw [bI_0] at h5
    have hc : oHang α p = pRef α 1 := by unfold oHang; rw [h5]; rfl
    refine hm_aload_n dX5_hang_8 rfl ?_
    refine hm_iconst dX5_hang_9 (v := -1) (by decide) ?_
    refine hm_callV lm_RX5_95 (r5_refuse l h 1 (by decide)) rfl rfl rfl rfl (by first | exact Nat.lt_of_lt_of_le (by decide) hN | assumption | (simp only [hm_n_wI, hm_n_wL, hm_n_wR, hm_n_g] at *; omega)) (by decide) (by decide) (Nat.le_of_ble_eq_true rfl) dX5_hang_10 ?_
    rintro _ ρ ⟨rfl, hρ, hf⟩
    refine hm_iret dX5_hang_13 rfl (by decide) (by decide) ?_
    exact hQ _ _ ⟨by rw [hc], by rw [hc]; exact hρ, hf⟩
set_option maxRecDepth 100000 in
theorem r5_say (h : rM α σ) (w : sW α) (p : Int32) (v : Int64) : hm_Ct l yX5_say cX5_say 4 (some .int) 2 0 0 [.ref 27, .int p, .long v] σ (fun r τ => r = some (.int (oSay α p v).1) ∧ rM (oSay α p v).2 τ ∧ md_fo σ τ) := by
  obtain ⟨hN, hM⟩ := h.m
  have h8 := w.p8
  refine hm_startQ (ini := false) [.ref 27, .int p, .long v, hm_u] (by decide) (by decide) rfl (Nat.le_of_ble_eq_true rfl) (fun Q hQ => ?_)
  refine hm_aload_n dX5_say_0 rfl ?_
  refine hm_iload_n dX5_say_1 rfl ?_
  refine hm_callV lm_RX5_99 (r5_isPortable l h w p) rfl rfl rfl rfl (by first | exact Nat.lt_of_lt_of_le (by decide) hN | assumption | (simp only [hm_n_wI, hm_n_wL, hm_n_wR, hm_n_g] at *; omega)) (by decide) (by decide) (Nat.le_of_ble_eq_true rfl) dX5_say_2 ?_
  rintro _ t9 ⟨rfl, hh9⟩
  rw [hh9]
  clear hh9 t9
  refine hm_if_ne 14 dX5_say_5 (by decide) (fun h5 => ?_) (fun h5 => ?_)
  · skip
    rw [bI_0] at h5
    have h5 := b_nf h5
    obtain ⟨a, ha, rfl⟩ := pIn_some (by omega) h5
    have hl8 := (w.q a).1
    obtain ⟨c1, c2, c3, c4, c5⟩ := h.q a (by omega)
    have q8 : nI (aQ α 0 a).length = 8 ↔ (aQ α 0 a).length = 8 := nI_eq (b := 8) (by omega) (by decide)
    refine hm_aload_n dX5_say_14 rfl ?_
    refine hm_getR lf_RX5_27 rfl rfl (by first | exact Nat.lt_of_lt_of_le (by decide) hN | assumption | (simp only [hm_n_wI, hm_n_wL, hm_n_wR, hm_n_g] at *; omega)) (hM 7) dX5_say_15 ?_
    refine hm_iload_n dX5_say_18 rfl ?_
    refine hm_iald _ rfl (by first | exact Nat.lt_of_lt_of_le (by decide) hN | assumption | (simp only [hm_n_wI, hm_n_wL, hm_n_wR, hm_n_g] at *; omega)) rfl (by omega) (by decide) dX5_say_19 ?_
    rw [show hm_I σ 33 a = aI α 1 a from h.i 1 a (by show _ < 8; omega)]
    refine hm_bipush dX5_say_20 (v := 7) (by decide) ?_
    refine hm_icmp_eq 32 dX5_say_22 (by decide) (fun h22 => ?_) (fun h22 => ?_)
    · skip
      have hcc : oSay α (nI a) v = if (aQ α 0 a).length = 8 then pRef α 6 else (nI ((aQ α 0 a).length + 1), sQ α 0 a (aQ α 0 a ++ [v])) := by unfold oSay; rw [h5, nI_clamp (by omega), if_neg (by decide), if_neg (by simp [h22])]
      refine hm_aload_n dX5_say_32 rfl ?_
      refine hm_getR lf_RX5_57 rfl rfl (by first | exact Nat.lt_of_lt_of_le (by decide) hN | assumption | (simp only [hm_n_wI, hm_n_wL, hm_n_wR, hm_n_g] at *; omega)) (hM 18) dX5_say_33 ?_
      refine hm_iload_n dX5_say_36 rfl ?_
      refine hm_iald _ rfl (by first | exact Nat.lt_of_lt_of_le (by decide) hN | assumption | (simp only [hm_n_wI, hm_n_wL, hm_n_wR, hm_n_g] at *; omega)) rfl (by omega) (by decide) dX5_say_37 ?_
      rw [c1]
      refine hm_bipush dX5_say_38 (v := 8) (by decide) ?_
      refine hm_icmp_ne 50 dX5_say_40 (by decide) (fun h40 => ?_) (fun h40 => ?_)
      · skip
        rw [q8] at h40
        rw [if_neg h40] at hcc
        refine hm_aload_n dX5_say_50 rfl ?_
        refine hm_getR lf_RX5_60 rfl rfl (by first | exact Nat.lt_of_lt_of_le (by decide) hN | assumption | (simp only [hm_n_wI, hm_n_wL, hm_n_wR, hm_n_g] at *; omega)) (hM 19) dX5_say_51 ?_
        refine hm_bipush dX5_say_54 (v := 8) (by decide) ?_
        refine hm_iload_n dX5_say_56 rfl ?_
        refine hm_imul dX5_say_57 ?_
        refine hm_aload_n dX5_say_58 rfl ?_
        refine hm_getR lf_RX5_57 rfl rfl (by first | exact Nat.lt_of_lt_of_le (by decide) hN | assumption | (simp only [hm_n_wI, hm_n_wL, hm_n_wR, hm_n_g] at *; omega)) (hM 18) dX5_say_59 ?_
        refine hm_iload_n dX5_say_62 rfl ?_
        refine hm_iald _ rfl (by first | exact Nat.lt_of_lt_of_le (by decide) hN | assumption | (simp only [hm_n_wI, hm_n_wL, hm_n_wR, hm_n_g] at *; omega)) rfl (by omega) (by decide) dX5_say_63 ?_
        rw [c1]
        refine hm_iadd dX5_say_64 ?_
        refine hm_lload_n dX5_say_65 rfl ?_
        refine hm_last (8 * a + (aQ α 0 a).length) rfl (by first | exact Nat.lt_of_lt_of_le (by decide) hN | assumption | (simp only [hm_n_wI, hm_n_wL, hm_n_wR, hm_n_g] at *; omega)) (ix8 _ _) (by omega) (by decide) dX5_say_66 ?_
        refine hm_aload_n dX5_say_67 rfl ?_
        refine hm_getR lf_RX5_57 rfl rfl (by first | exact Nat.lt_of_lt_of_le (by decide) hN | assumption | (simp only [hm_n_wI, hm_n_wL, hm_n_wR, hm_n_g] at *; omega)) (hM 18) dX5_say_68 ?_
        refine hm_iload_n dX5_say_71 rfl ?_
        refine hm_dup2 dX5_say_72 rfl rfl ?_
        refine hm_iald _ rfl (by first | exact Nat.lt_of_lt_of_le (by decide) hN | assumption | (simp only [hm_n_wI, hm_n_wL, hm_n_wR, hm_n_g] at *; omega)) rfl (by omega) (by decide) dX5_say_73 ?_
        rw [show hm_I (hm_wL σ 44 (8 * a + (aQ α 0 a).length) v) 43 a = nI (aQ α 0 a).length from c1]
        refine hm_iconst dX5_say_74 (v := 1) (by decide) ?_
        refine hm_iadd dX5_say_75 ?_
        refine hm_iast _ rfl (by first | exact Nat.lt_of_lt_of_le (by decide) hN | assumption | (simp only [hm_n_wI, hm_n_wL, hm_n_wR, hm_n_g] at *; omega)) rfl (by omega) (by decide) dX5_say_76 ?_
        refine hm_aload_n dX5_say_77 rfl ?_
        refine hm_getR lf_RX5_57 rfl rfl (by first | exact Nat.lt_of_lt_of_le (by decide) hN | assumption | (simp only [hm_n_wI, hm_n_wL, hm_n_wR, hm_n_g] at *; omega)) (hM 18) dX5_say_78 ?_
        refine hm_iload_n dX5_say_81 rfl ?_
        refine hm_iald _ rfl (by first | exact Nat.lt_of_lt_of_le (by decide) hN | assumption | (simp only [hm_n_wI, hm_n_wL, hm_n_wR, hm_n_g] at *; omega)) rfl (by omega) (by decide) dX5_say_82 ?_
        simp only [hm_I_wI, and_self, reduceIte]
        refine hm_iret dX5_say_83 rfl (by decide) (by decide) ?_
        rw [nI_1]
        refine hQ _ _ ⟨by rw [hcc], ?_, ?_⟩
        rw [hcc]
        refine h.popQ w (fun b k g => by rw [hm_I_wI, if_neg g]; rfl) (fun b k g => by show hm_L (hm_wL _ _ _ _) b k = _; rw [hm_L_wL, if_neg (by omega)]) rfl rfl (by rw [hm_I_wI, if_pos ⟨rfl, rfl⟩, List.length_append]; rfl) (fun k x hk => ?_)
        show hm_L (hm_wL _ _ _ _) 44 _ = x
        rw [hm_L_wL]
        (by_cases e : k < (aQ α 0 a).length)
        rw [List.getElem?_append_left e] at hk
        rw [if_neg (by omega)]
        exact c3 k x hk
        rw [List.getElem?_append_right (by omega)] at hk
        have hz := (List.getElem?_eq_some_iff.mp hk).1
        rw [List.length_singleton] at hz
        (have ek : k = (aQ α 0 a).length := by omega)
        rw [ek, Nat.sub_self] at hk
        cases hk
        rw [ek, if_pos ⟨rfl, rfl⟩]
        exact (((md_fr.rf σ).wL 44 _ _ (by decide)).wI 43 _ _ (by decide)).fo
      · skip
        rw [q8] at h40
        rw [if_pos h40] at hcc
        have hc := hcc
        refine hm_aload_n dX5_say_43 rfl ?_
        refine hm_bipush dX5_say_44 (v := -6) (by decide) ?_
        refine hm_callV lm_RX5_95 (r5_refuse l h 6 (by decide)) rfl rfl rfl rfl (by first | exact Nat.lt_of_lt_of_le (by decide) hN | assumption | (simp only [hm_n_wI, hm_n_wL, hm_n_wR, hm_n_g] at *; omega)) (by decide) (by decide) (Nat.le_of_ble_eq_true rfl) dX5_say_46 ?_
        rintro _ ρ ⟨rfl, hρ, hf⟩
        refine hm_iret dX5_say_49 rfl (by decide) (by decide) ?_
        exact hQ _ _ ⟨by rw [hc], by rw [hc]; exact hρ, hf⟩
    · skip
      have hc : oSay α (nI a) v = pRef α 2 := by unfold oSay; rw [h5, nI_clamp (by omega), if_neg (by decide), if_pos h22]
      refine hm_aload_n dX5_say_25 rfl ?_
      refine hm_bipush dX5_say_26 (v := -2) (by decide) ?_
      refine hm_callV lm_RX5_95 (r5_refuse l h 2 (by decide)) rfl rfl rfl rfl (by first | exact Nat.lt_of_lt_of_le (by decide) hN | assumption | (simp only [hm_n_wI, hm_n_wL, hm_n_wR, hm_n_g] at *; omega)) (by decide) (by decide) (Nat.le_of_ble_eq_true rfl) dX5_say_28 ?_
      rintro _ ρ ⟨rfl, hρ, hf⟩
      refine hm_iret dX5_say_31 rfl (by decide) (by decide) ?_
      exact hQ _ _ ⟨by rw [hc], by rw [hc]; exact hρ, hf⟩
  · skip
    rw [bI_0] at h5
    have hc : oSay α p v = pRef α 1 := by unfold oSay; rw [h5]; rfl
    refine hm_aload_n dX5_say_8 rfl ?_
    refine hm_iconst dX5_say_9 (v := -1) (by decide) ?_
    refine hm_callV lm_RX5_95 (r5_refuse l h 1 (by decide)) rfl rfl rfl rfl (by first | exact Nat.lt_of_lt_of_le (by decide) hN | assumption | (simp only [hm_n_wI, hm_n_wL, hm_n_wR, hm_n_g] at *; omega)) (by decide) (by decide) (Nat.le_of_ble_eq_true rfl) dX5_say_10 ?_
    rintro _ ρ ⟨rfl, hρ, hf⟩
    refine hm_iret dX5_say_13 rfl (by decide) (by decide) ?_
    exact hQ _ _ ⟨by rw [hc], by rw [hc]; exact hρ, hf⟩
end M16
