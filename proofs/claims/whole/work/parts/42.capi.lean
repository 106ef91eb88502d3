/-! the class's public calls -/
theorem sub16 {x : Int32} (h : 16 ≤ x) : (x - 16).toInt = x.toInt - 16 := by
  rw [Int32.le_iff_toInt_le] at h
  have e : (16 : Int32).toInt = 16 := by decide
  rw [e] at h
  rw [Int32.toInt_sub, e]
  have := Int32.toInt_lt x
  rw [Int.bmod_eq_of_le (by omega) (by omega)]
section C10
variable (l : Launch) {α : sA} {σ : hm_M}
set_option maxRecDepth 100000 in
theorem k4_cell (h : rC α σ) (w : sW α) (ch : Int32) : hm_Ct l yX4_cell cX4_cell 2 (some .int) 1 0 0 [.ref 0, .int ch] σ (fun r τ => r = some (.int (oCell α ch).1) ∧ rC (oCell α ch).2 τ ∧ cs_fr σ τ) := by
  have hN := h.N
  have hH := h.r.2.1
  have e0 : hm_I σ 1 0 = nI (nCell α) := h.n 0 0 (by show 0 < 1; decide)
  have h4 := w.c4
  have q4 : nI (nCell α) < 4 ↔ nCell α < 4 := nI_ltI (b := 4) (by omega) (by decide)
  refine hm_startQ (ini := false) [.ref 0, .int ch] (by decide) (by decide) rfl (Nat.le_of_ble_eq_true rfl) (fun Q hQ => ?_)
  refine hm_iload_n dX4_cell_0 rfl ?_
  refine hm_callS lm_RX4_26 (k4_isChannel l _ _) rfl rfl (by decide) (by decide) (Nat.le_of_ble_eq_true rfl) dX4_cell_1 ?_
  rintro _ t9 ⟨rfl, hh9⟩
  rw [hh9]
  clear hh9 t9
  refine hm_if_ne 13 dX4_cell_4 (by decide) (fun h4 => ?_) (fun h4 => ?_)
  · skip
    rw [bI_0] at h4
    have h4 := b_nf h4
    obtain ⟨j, hj, rfl⟩ := pIn_some (by decide) h4
    refine hm_aload_n dX4_cell_13 rfl ?_
    refine hm_getR lf_RX4_12 rfl rfl (by first | exact Nat.lt_of_lt_of_le (by decide) hN | assumption | (simp only [hm_n_wI, hm_n_wL, hm_n_wR, hm_n_g] at *; omega)) (hH 0) dX4_cell_14 ?_
    refine hm_getI lf_RX4_34 rfl rfl (by first | exact Nat.lt_of_lt_of_le (by decide) hN | assumption | (simp only [hm_n_wI, hm_n_wL, hm_n_wR, hm_n_g] at *; omega)) dX4_cell_17 ?_
    rw [e0]
    refine hm_iconst dX4_cell_20 (v := 4) (by decide) ?_
    refine hm_icmp_lt 31 dX4_cell_21 (by decide) (fun h21 => ?_) (fun h21 => ?_)
    · skip
      rw [q4] at h21
      have hc : oCell α (nI j) = (nI (nCell α), sN (sN α 2 (nCell α) j) 0 0 (nCell α + 1)) := by unfold oCell; rw [h4, if_neg (by decide), if_neg (by omega), nI_clamp (by omega)]
      refine hm_aload_n dX4_cell_31 rfl ?_
      refine hm_getR lf_RX4_12 rfl rfl (by first | exact Nat.lt_of_lt_of_le (by decide) hN | assumption | (simp only [hm_n_wI, hm_n_wL, hm_n_wR, hm_n_g] at *; omega)) (hH 0) dX4_cell_32 ?_
      refine hm_iload_n dX4_cell_35 rfl ?_
      refine hm_callV lm_RX4_38 (k3_addCell l h w h21 hj) rfl rfl rfl rfl (by first | exact Nat.lt_of_lt_of_le (by decide) hN | assumption | (simp only [hm_n_wI, hm_n_wL, hm_n_wR, hm_n_g] at *; omega)) (by decide) (by decide) (Nat.le_of_ble_eq_true rfl) dX4_cell_36 ?_
      rintro _ ρ ⟨rfl, hρ, hf⟩
      refine hm_iret dX4_cell_39 rfl (by decide) (by decide) ?_
      exact hQ _ _ ⟨by rw [hc], by rw [hc]; exact hρ, hf⟩
    · skip
      rw [q4] at h21
      have hc : oCell α (nI j) = pRef α 6 := by unfold oCell; rw [h4, if_neg (by decide), if_pos (by omega)]
      refine hm_aload_n dX4_cell_24 rfl ?_
      refine hm_bipush dX4_cell_25 (v := -6) (by decide) ?_
      refine hm_callV lm_RX4_30 (k4_refuse l h (w := 6) (by decide)) rfl rfl rfl rfl (by first | exact Nat.lt_of_lt_of_le (by decide) hN | assumption | (simp only [hm_n_wI, hm_n_wL, hm_n_wR, hm_n_g] at *; omega)) (by decide) (by decide) (Nat.le_of_ble_eq_true rfl) dX4_cell_27 ?_
      rintro _ ρ ⟨rfl, hρ, hf⟩
      refine hm_iret dX4_cell_30 rfl (by decide) (by decide) ?_
      exact hQ _ _ ⟨by rw [hc], by rw [hc]; exact hρ, hf⟩
  · skip
    rw [bI_0] at h4
    have hc : oCell α ch = pRef α 1 := by unfold oCell; rw [h4]; rfl
    refine hm_aload_n dX4_cell_7 rfl ?_
    refine hm_iconst dX4_cell_8 (v := -1) (by decide) ?_
    refine hm_callV lm_RX4_30 (k4_refuse l h (w := 1) (by decide)) rfl rfl rfl rfl (by first | exact Nat.lt_of_lt_of_le (by decide) hN | assumption | (simp only [hm_n_wI, hm_n_wL, hm_n_wR, hm_n_g] at *; omega)) (by decide) (by decide) (Nat.le_of_ble_eq_true rfl) dX4_cell_9 ?_
    rintro _ ρ ⟨rfl, hρ, hf⟩
    refine hm_iret dX4_cell_12 rfl (by decide) (by decide) ?_
    exact hQ _ _ ⟨by rw [hc], by rw [hc]; exact hρ, hf⟩
set_option maxRecDepth 100000 in
theorem k4_reach (h : rC α σ) (w : sW α) (pl bits : Int32) : hm_Ct l yX4_reach cX4_reach 4 (some .int) 1 0 0 [.ref 0, .int pl, .int bits] σ (fun r τ => r = some (.int (oReach α pl bits).1) ∧ rC (oReach α pl bits).2 τ ∧ cs_fr σ τ) := by
  have hN := h.N
  have hH := h.r.2.1
  have hA := h.r.2.2
  refine hm_startQ (ini := false) [.ref 0, .int pl, .int bits, hm_u] (by decide) (by decide) rfl (Nat.le_of_ble_eq_true rfl) (fun Q hQ => ?_)
  refine hm_iload_n dX4_reach_0 rfl ?_
  refine hm_callS lm_RX4_41 (k4_isPlace l _ _) rfl rfl (by decide) (by decide) (Nat.le_of_ble_eq_true rfl) dX4_reach_1 ?_
  rintro _ t9 ⟨rfl, hh9⟩
  rw [hh9]
  clear hh9 t9
  refine hm_if_ne 13 dX4_reach_4 (by decide) (fun h4 => ?_) (fun h4 => ?_)
  · skip
    rw [bI_0] at h4
    have h4 := b_nf h4
    obtain ⟨j, hj, rfl⟩ := pIn_some (by decide) h4
    refine hm_iload_n dX4_reach_13 rfl ?_
    refine hm_if_ge 24 dX4_reach_14 (by decide) (fun h14 => ?_) (fun h14 => ?_)
    · skip
      refine hm_iload_n dX4_reach_24 rfl ?_
      refine hm_bipush dX4_reach_25 (v := 15) (by decide) ?_
      refine hm_icmp_le 37 dX4_reach_27 (by decide) (fun h27 => ?_) (fun h27 => ?_)
      · skip
        obtain ⟨b, hb, rfl⟩ := nI_of2 (M := 15) (n := 15) (by decide) (Int32.not_lt.mpr h14) h27
        have hc : oReach α (nI j) (nI b) = (nI (aN α 4 j), sN α 4 j b) := by unfold oReach; rw [h4, if_neg (by decide), if_neg (Int32.not_lt.mpr h14), if_neg (Int32.not_lt.mpr h27), nI_clamp (by omega), nI_clamp (by omega)]
        refine hm_aload_n dX4_reach_37 rfl ?_
        refine hm_getR lf_RX4_12 rfl rfl (by first | exact Nat.lt_of_lt_of_le (by decide) hN | assumption | (simp only [hm_n_wI, hm_n_wL, hm_n_wR, hm_n_g] at *; omega)) (hH 0) dX4_reach_38 ?_
        refine hm_getR lf_RX4_53 rfl rfl (by first | exact Nat.lt_of_lt_of_le (by decide) hN | assumption | (simp only [hm_n_wI, hm_n_wL, hm_n_wR, hm_n_g] at *; omega)) (hA 6) dX4_reach_41 ?_
        refine hm_iload_n dX4_reach_44 rfl ?_
        refine hm_iald _ rfl (by first | exact Nat.lt_of_lt_of_le (by decide) hN | assumption | (simp only [hm_n_wI, hm_n_wL, hm_n_wR, hm_n_g] at *; omega)) rfl (by omega) (by decide) dX4_reach_45 ?_
        rw [show hm_I σ 4 j = nI (aN α 4 j) from h.n 4 j hj]
        refine hm_istore_n dX4_reach_46 (by decide) rfl ?_
        refine hm_aload_n dX4_reach_47 rfl ?_
        refine hm_getR lf_RX4_12 rfl rfl (by first | exact Nat.lt_of_lt_of_le (by decide) hN | assumption | (simp only [hm_n_wI, hm_n_wL, hm_n_wR, hm_n_g] at *; omega)) (hH 0) dX4_reach_48 ?_
        refine hm_getR lf_RX4_53 rfl rfl (by first | exact Nat.lt_of_lt_of_le (by decide) hN | assumption | (simp only [hm_n_wI, hm_n_wL, hm_n_wR, hm_n_g] at *; omega)) (hA 6) dX4_reach_51 ?_
        refine hm_iload_n dX4_reach_54 rfl ?_
        refine hm_iload_n dX4_reach_55 rfl ?_
        refine hm_iast _ rfl (by first | exact Nat.lt_of_lt_of_le (by decide) hN | assumption | (simp only [hm_n_wI, hm_n_wL, hm_n_wR, hm_n_g] at *; omega)) rfl (by omega) (by decide) dX4_reach_56 ?_
        refine hm_iload_n dX4_reach_57 rfl ?_
        refine hm_iret dX4_reach_58 rfl (by decide) (by decide) ?_
        exact hQ _ _ ⟨by rw [hc], by rw [hc]; exact h.upN 4 j b (by omega) hj, (cs_fr.rf σ).wI 4 _ _ (by omega)⟩
      · skip
        have hc : oReach α (nI j) bits = pRef α 6 := by unfold oReach; rw [h4, if_neg (by decide), if_neg (Int32.not_lt.mpr h14), if_pos (Int32.not_le.mp h27)]
        refine hm_aload_n dX4_reach_30 rfl ?_
        refine hm_bipush dX4_reach_31 (v := -6) (by decide) ?_
        refine hm_callV lm_RX4_30 (k4_refuse l h (w := 6) (by decide)) rfl rfl rfl rfl (by first | exact Nat.lt_of_lt_of_le (by decide) hN | assumption | (simp only [hm_n_wI, hm_n_wL, hm_n_wR, hm_n_g] at *; omega)) (by decide) (by decide) (Nat.le_of_ble_eq_true rfl) dX4_reach_33 ?_
        rintro _ ρ ⟨rfl, hρ, hf⟩
        refine hm_iret dX4_reach_36 rfl (by decide) (by decide) ?_
        exact hQ _ _ ⟨by rw [hc], by rw [hc]; exact hρ, hf⟩
    · skip
      have hc : oReach α (nI j) bits = pRef α 4 := by unfold oReach; rw [h4, if_neg (by decide), if_pos (Int32.not_le.mp h14)]
      refine hm_aload_n dX4_reach_17 rfl ?_
      refine hm_bipush dX4_reach_18 (v := -4) (by decide) ?_
      refine hm_callV lm_RX4_30 (k4_refuse l h (w := 4) (by decide)) rfl rfl rfl rfl (by first | exact Nat.lt_of_lt_of_le (by decide) hN | assumption | (simp only [hm_n_wI, hm_n_wL, hm_n_wR, hm_n_g] at *; omega)) (by decide) (by decide) (Nat.le_of_ble_eq_true rfl) dX4_reach_20 ?_
      rintro _ ρ ⟨rfl, hρ, hf⟩
      refine hm_iret dX4_reach_23 rfl (by decide) (by decide) ?_
      exact hQ _ _ ⟨by rw [hc], by rw [hc]; exact hρ, hf⟩
  · skip
    rw [bI_0] at h4
    have hc : oReach α pl bits = pRef α 1 := by unfold oReach; rw [h4]; rfl
    refine hm_aload_n dX4_reach_7 rfl ?_
    refine hm_iconst dX4_reach_8 (v := -1) (by decide) ?_
    refine hm_callV lm_RX4_30 (k4_refuse l h (w := 1) (by decide)) rfl rfl rfl rfl (by first | exact Nat.lt_of_lt_of_le (by decide) hN | assumption | (simp only [hm_n_wI, hm_n_wL, hm_n_wR, hm_n_g] at *; omega)) (by decide) (by decide) (Nat.le_of_ble_eq_true rfl) dX4_reach_9 ?_
    rintro _ ρ ⟨rfl, hρ, hf⟩
    refine hm_iret dX4_reach_12 rfl (by decide) (by decide) ?_
    exact hQ _ _ ⟨by rw [hc], by rw [hc]; exact hρ, hf⟩
set_option maxRecDepth 100000 in
theorem k4_noise (h : rC α σ) (w : sW α) (wh ch on : Int32) (ho : on = 0 ∨ on = 1) : hm_Ct l yX4_noise cX4_noise 5 (some .boolean) 1 0 0 [.ref 0, .int wh, .int ch, .int on] σ (fun r τ => r = some (.int (oNoise α wh ch on).1) ∧ rC (oNoise α wh ch on).2 τ ∧ cs_fr σ τ) := by
  have hN := h.N
  have hH := h.r.2.1
  have h4 := w.c4
  refine hm_startQ (ini := false) [.ref 0, .int wh, .int ch, .int on, hm_u] (by decide) (by decide) rfl (Nat.le_of_ble_eq_true rfl) (fun Q hQ => ?_)
  cases hw : pIn wh (16 + nCell α) with
  | false =>
    have hc : oNoise α wh ch on = (0, α) := by unfold oNoise; rw [hw]; rfl
    have hi1 : pIn wh 16 = false := by
      cases hx : pIn wh 16
      · rfl
      · rw [pIn_iff (by decide)] at hx
        have : pIn wh (16 + nCell α) = true := (pIn_iff (by omega)).mpr (by omega)
        rw [this] at hw; cases hw
    have hi2 : 16 ≤ wh → pIn (wh - 16) (nCell α) = false := fun hge => by
      cases hx : pIn (wh - 16) (nCell α)
      · rfl
      · rw [pIn_iff (by omega), sub16 hge] at hx
        have : pIn wh (16 + nCell α) = true := (pIn_iff (by omega)).mpr (by omega)
        rw [this] at hw; cases hw
    refine hm_iload_n dX4_noise_0 rfl ?_
    refine hm_callS lm_RX4_41 (k4_isPlace l _ _) rfl rfl (by decide) (by decide) (Nat.le_of_ble_eq_true rfl) dX4_noise_1 ?_
    rintro _ t9 ⟨rfl, hh9⟩
    rw [hh9]
    clear hh9 t9
    rw [hi1]
    refine hm_if_ne 27 dX4_noise_4 (by decide) (fun h4 => absurd (by rfl) h4) (fun _ => ?_)
    refine hm_iload_n dX4_noise_7 rfl ?_
    refine hm_bipush dX4_noise_8 (v := 16) (by decide) ?_
    refine hm_icmp_lt 31 dX4_noise_10 (by decide) (fun h10 => ?_) (fun h10 => ?_)
    · skip
      refine hm_iconst dX4_noise_31 (v := 0) (by decide) ?_
      refine hm_istore dX4_noise_32 (by decide) rfl ?_
      refine hm_iload dX4_noise_34 rfl ?_
      refine hm_if_eq 63 dX4_noise_36 (by decide) (fun _ => ?_) (fun h36 => absurd (by rfl) h36)
      refine hm_iconst dX4_noise_63 (v := 0) (by decide) ?_
      refine hm_zret dX4_noise_64 rfl (by decide) (by decide) (by first | exact Or.inl rfl | exact Or.inr rfl | assumption) ?_
      exact hQ _ _ ⟨by rw [hc], by rw [hc]; exact h, cs_fr.rf σ⟩
    · skip
      have hge : 16 ≤ wh := Int32.not_lt.mp h10
      refine hm_aload_n dX4_noise_13 rfl ?_
      refine hm_getR lf_RX4_12 rfl rfl (by first | exact Nat.lt_of_lt_of_le (by decide) hN | assumption | (simp only [hm_n_wI, hm_n_wL, hm_n_wR, hm_n_g] at *; omega)) (hH 0) dX4_noise_14 ?_
      refine hm_iload_n dX4_noise_17 rfl ?_
      refine hm_bipush dX4_noise_18 (v := 16) (by decide) ?_
      refine hm_isub dX4_noise_20 ?_
      refine hm_callV lm_RX4_56 (k3_hasCell l h _) rfl rfl rfl rfl (by first | exact Nat.lt_of_lt_of_le (by decide) hN | assumption | (simp only [hm_n_wI, hm_n_wL, hm_n_wR, hm_n_g] at *; omega)) (by decide) (by decide) (Nat.le_of_ble_eq_true rfl) dX4_noise_21 ?_
      rintro _ t9 ⟨rfl, hh9⟩
      rw [hh9]
      clear hh9 t9
      rw [hi2 hge]
      refine hm_if_eq 31 dX4_noise_24 (by decide) (fun _ => ?_) (fun h24 => absurd (by rfl) h24)
      refine hm_iconst dX4_noise_31 (v := 0) (by decide) ?_
      refine hm_istore dX4_noise_32 (by decide) rfl ?_
      refine hm_iload dX4_noise_34 rfl ?_
      refine hm_if_eq 63 dX4_noise_36 (by decide) (fun _ => ?_) (fun h36 => absurd (by rfl) h36)
      refine hm_iconst dX4_noise_63 (v := 0) (by decide) ?_
      refine hm_zret dX4_noise_64 rfl (by decide) (by decide) (by first | exact Or.inl rfl | exact Or.inr rfl | assumption) ?_
      exact hQ _ _ ⟨by rw [hc], by rw [hc]; exact h, cs_fr.rf σ⟩
  | true =>
    obtain ⟨a, ha, rfl⟩ := pIn_some (by omega) hw
    have j1 : hm_V l RX4 cX4_noise 5 (some .boolean) false (hm_rm 1 0 0) 0 0 Q 0 0 27 [.ref 0, .int (nI a), .int ch, .int on, hm_u] [] σ := by
      refine hm_iconst dX4_noise_27 (v := 1) (by decide) ?_
      refine hm_goto 32 dX4_noise_28 (by decide) ?_
      refine hm_istore dX4_noise_32 (by decide) rfl ?_
      refine hm_iload dX4_noise_34 rfl ?_
      refine hm_if_eq 63 dX4_noise_36 (by decide) (fun h36 => absurd h36 (by decide)) (fun _ => ?_)
      refine hm_iload_n dX4_noise_39 rfl ?_
      refine hm_callS lm_RX4_26 (k4_isChannel l _ _) rfl rfl (by decide) (by decide) (Nat.le_of_ble_eq_true rfl) dX4_noise_40 ?_
      rintro _ t9 ⟨rfl, hh9⟩
      rw [hh9]
      clear hh9 t9
      refine hm_if_eq 63 dX4_noise_43 (by decide) (fun h43 => ?_) (fun h43 => ?_)
      · skip
        rw [bI_0] at h43
        have hc : oNoise α (nI a) ch on = (0, α) := by unfold oNoise; rw [hw, h43]; rfl
        refine hm_iconst dX4_noise_63 (v := 0) (by decide) ?_
        refine hm_zret dX4_noise_64 rfl (by decide) (by decide) (by first | exact Or.inl rfl | exact Or.inr rfl | assumption) ?_
        first | exact hQ _ _ ⟨by rw [hcc]; rfl, by rw [hcc]; exact hρ, hf⟩ | exact hQ _ _ ⟨by rw [hc], by rw [hc]; exact h, cs_fr.rf σ⟩
      · skip
        rw [bI_0] at h43
        have h43 := b_nf h43
        obtain ⟨b, hb, rfl⟩ := pIn_some (by decide) h43
        have hcc : oNoise α (nI a) (nI b) on = if decide (nI (aN α 5 (120 * a + b)) ≠ on) = true then (1, sN α 5 (120 * a + b) on.toNatClampNeg) else (0, α) := by unfold oNoise; rw [hw, h43, nI_clamp (by omega), nI_clamp (by omega)]; rfl
        refine hm_aload_n dX4_noise_46 rfl ?_
        refine hm_getR lf_RX4_12 rfl rfl (by first | exact Nat.lt_of_lt_of_le (by decide) hN | assumption | (simp only [hm_n_wI, hm_n_wL, hm_n_wR, hm_n_g] at *; omega)) (hH 0) dX4_noise_47 ?_
        refine hm_iload_n dX4_noise_50 rfl ?_
        refine hm_iload_n dX4_noise_51 rfl ?_
        refine hm_iload_n dX4_noise_52 rfl ?_
        refine hm_callV lm_RX4_59 (k3_changeNoise l h w (by omega) hb ho) rfl rfl rfl rfl (by first | exact Nat.lt_of_lt_of_le (by decide) hN | assumption | (simp only [hm_n_wI, hm_n_wL, hm_n_wR, hm_n_g] at *; omega)) (by decide) (by decide) (Nat.le_of_ble_eq_true rfl) dX4_noise_53 ?_
        rintro _ ρ ⟨rfl, hρ, hf⟩
        have hN := hρ.N
        refine hm_if_eq 63 dX4_noise_56 (by decide) (fun h56 => ?_) (fun h56 => ?_)
        · skip
          rw [bI_0] at h56
          rw [h56] at hcc
          rw [if_neg (of_decide_eq_false h56)] at hρ
          refine hm_iconst dX4_noise_63 (v := 0) (by decide) ?_
          refine hm_zret dX4_noise_64 rfl (by decide) (by decide) (by first | exact Or.inl rfl | exact Or.inr rfl | assumption) ?_
          first | exact hQ _ _ ⟨by rw [hcc]; rfl, by rw [hcc]; exact hρ, hf⟩ | exact hQ _ _ ⟨by rw [hc], by rw [hc]; exact h, cs_fr.rf σ⟩
        · skip
          rw [bI_0] at h56
          have h56 := b_nf h56
          rw [h56] at hcc
          rw [if_pos (of_decide_eq_true h56)] at hρ
          refine hm_iconst dX4_noise_59 (v := 1) (by decide) ?_
          refine hm_goto 64 dX4_noise_60 (by decide) ?_
          refine hm_zret dX4_noise_64 rfl (by decide) (by decide) (by first | exact Or.inl rfl | exact Or.inr rfl | assumption) ?_
          first | exact hQ _ _ ⟨by rw [hcc]; rfl, by rw [hcc]; exact hρ, hf⟩ | exact hQ _ _ ⟨by rw [hc], by rw [hc]; exact h, cs_fr.rf σ⟩
    by_cases ha16 : a < 16
    · skip
      refine hm_iload_n dX4_noise_0 rfl ?_
      refine hm_callS lm_RX4_41 (k4_isPlace l _ _) rfl rfl (by decide) (by decide) (Nat.le_of_ble_eq_true rfl) dX4_noise_1 ?_
      rintro _ t9 ⟨rfl, hh9⟩
      rw [hh9]
      clear hh9 t9
      rw [pIn_nI ha16 (by decide)]
      refine hm_if_ne 27 dX4_noise_4 (by decide) (fun _ => ?_) (fun h4 => absurd h4 (by decide))
      exact j1
    · skip
      have hi1 : pIn (nI a) 16 = false := by
        cases hx : pIn (nI a) 16
        · rfl
        · rw [pIn_iff (by decide), nI_toInt (by omega)] at hx; omega
      have e16 : nI a - 16 = nI (a - 16) := pk_sub (b := 16) (by omega)
      refine hm_iload_n dX4_noise_0 rfl ?_
      refine hm_callS lm_RX4_41 (k4_isPlace l _ _) rfl rfl (by decide) (by decide) (Nat.le_of_ble_eq_true rfl) dX4_noise_1 ?_
      rintro _ t9 ⟨rfl, hh9⟩
      rw [hh9]
      clear hh9 t9
      rw [hi1]
      refine hm_if_ne 27 dX4_noise_4 (by decide) (fun h4 => absurd (by rfl) h4) (fun _ => ?_)
      refine hm_iload_n dX4_noise_7 rfl ?_
      refine hm_bipush dX4_noise_8 (v := 16) (by decide) ?_
      refine hm_icmp_lt 31 dX4_noise_10 (by decide) (fun h10 => absurd h10 (Int32.not_lt.mpr (nI_le (a := 16) (by omega) (by omega)))) (fun _ => ?_)
      refine hm_aload_n dX4_noise_13 rfl ?_
      refine hm_getR lf_RX4_12 rfl rfl (by first | exact Nat.lt_of_lt_of_le (by decide) hN | assumption | (simp only [hm_n_wI, hm_n_wL, hm_n_wR, hm_n_g] at *; omega)) (hH 0) dX4_noise_14 ?_
      refine hm_iload_n dX4_noise_17 rfl ?_
      refine hm_bipush dX4_noise_18 (v := 16) (by decide) ?_
      refine hm_isub dX4_noise_20 ?_
      rw [e16]
      refine hm_callV lm_RX4_56 (k3_hasCell l h _) rfl rfl rfl rfl (by first | exact Nat.lt_of_lt_of_le (by decide) hN | assumption | (simp only [hm_n_wI, hm_n_wL, hm_n_wR, hm_n_g] at *; omega)) (by decide) (by decide) (Nat.le_of_ble_eq_true rfl) dX4_noise_21 ?_
      rintro _ t9 ⟨rfl, hh9⟩
      rw [hh9]
      clear hh9 t9
      rw [pIn_nI (by omega) (by omega)]
      refine hm_if_eq 31 dX4_noise_24 (by decide) (fun h24 => absurd h24 (by decide)) (fun _ => ?_)
      exact j1
set_option maxRecDepth 100000 in
theorem k4_go (h : rC α σ) (w : sW α) (p pl : Int32) : hm_Ct l yX4_go cX4_go 4 (some .int) 1 0 0 [.ref 0, .int p, .int pl] σ (fun r τ => r = some (.int (oGo α p pl).1) ∧ rC (oGo α p pl).2 τ ∧ cs_fr σ τ) := by
  have hN := h.N
  have hH := h.r.2.1
  have hA := h.r.2.2
  have h8 := w.p8
  refine hm_startQ (ini := false) [.ref 0, .int p, .int pl, hm_u] (by decide) (by decide) rfl (Nat.le_of_ble_eq_true rfl) (fun Q hQ => ?_)
  refine hm_aload_n dX4_go_0 rfl ?_
  refine hm_getR lf_RX4_12 rfl rfl (by first | exact Nat.lt_of_lt_of_le (by decide) hN | assumption | (simp only [hm_n_wI, hm_n_wL, hm_n_wR, hm_n_g] at *; omega)) (hH 0) dX4_go_1 ?_
  refine hm_iload_n dX4_go_4 rfl ?_
  refine hm_callV lm_RX4_63 (k3_hasPortable l h _) rfl rfl rfl rfl (by first | exact Nat.lt_of_lt_of_le (by decide) hN | assumption | (simp only [hm_n_wI, hm_n_wL, hm_n_wR, hm_n_g] at *; omega)) (by decide) (by decide) (Nat.le_of_ble_eq_true rfl) dX4_go_5 ?_
  rintro _ t9 ⟨rfl, hh9⟩
  rw [hh9]
  clear hh9 t9
  refine hm_if_eq 18 dX4_go_8 (by decide) (fun g8 => ?_) (fun g8 => ?_)
  · skip
    rw [bI_0] at g8
    have hc : oGo α p pl = pRef α 1 := by unfold oGo; rw [g8]; rfl
    refine hm_aload_n dX4_go_18 rfl ?_
    refine hm_iconst dX4_go_19 (v := -1) (by decide) ?_
    refine hm_callV lm_RX4_30 (k4_refuse l h (w := 1) (by decide)) rfl rfl rfl rfl (by first | exact Nat.lt_of_lt_of_le (by decide) hN | assumption | (simp only [hm_n_wI, hm_n_wL, hm_n_wR, hm_n_g] at *; omega)) (by decide) (by decide) (Nat.le_of_ble_eq_true rfl) dX4_go_20 ?_
    rintro _ ρ ⟨rfl, hρ, hf⟩
    refine hm_iret dX4_go_23 rfl (by decide) (by decide) ?_
    exact hQ _ _ ⟨by rw [hc], by rw [hc]; exact hρ, hf⟩
  · skip
    rw [bI_0] at g8
    have g8 := b_nf g8
    obtain ⟨a, ha, rfl⟩ := pIn_some (by omega) g8
    refine hm_iload_n dX4_go_11 rfl ?_
    refine hm_callS lm_RX4_41 (k4_isPlace l _ _) rfl rfl (by decide) (by decide) (Nat.le_of_ble_eq_true rfl) dX4_go_12 ?_
    rintro _ t9 ⟨rfl, hh9⟩
    rw [hh9]
    clear hh9 t9
    refine hm_if_ne 24 dX4_go_15 (by decide) (fun h15 => ?_) (fun h15 => ?_)
    · skip
      rw [bI_0] at h15
      have h15 := b_nf h15
      obtain ⟨b, hb, rfl⟩ := pIn_some (by decide) h15
      have hc : oGo α (nI a) (nI b) = (nI (aN α 3 a), sN α 3 a b) := by unfold oGo; rw [g8, h15, nI_clamp (by omega), nI_clamp (by omega)]; rfl
      refine hm_aload_n dX4_go_24 rfl ?_
      refine hm_getR lf_RX4_12 rfl rfl (by first | exact Nat.lt_of_lt_of_le (by decide) hN | assumption | (simp only [hm_n_wI, hm_n_wL, hm_n_wR, hm_n_g] at *; omega)) (hH 0) dX4_go_25 ?_
      refine hm_getR lf_RX4_66 rfl rfl (by first | exact Nat.lt_of_lt_of_le (by decide) hN | assumption | (simp only [hm_n_wI, hm_n_wL, hm_n_wR, hm_n_g] at *; omega)) (hA 5) dX4_go_28 ?_
      refine hm_iload_n dX4_go_31 rfl ?_
      refine hm_iald _ rfl (by first | exact Nat.lt_of_lt_of_le (by decide) hN | assumption | (simp only [hm_n_wI, hm_n_wL, hm_n_wR, hm_n_g] at *; omega)) rfl (by omega) (by decide) dX4_go_32 ?_
      rw [show hm_I σ 3 a = nI (aN α 3 a) from h.n 3 a (by show _ < 8; omega)]
      refine hm_istore_n dX4_go_33 (by decide) rfl ?_
      refine hm_aload_n dX4_go_34 rfl ?_
      refine hm_getR lf_RX4_12 rfl rfl (by first | exact Nat.lt_of_lt_of_le (by decide) hN | assumption | (simp only [hm_n_wI, hm_n_wL, hm_n_wR, hm_n_g] at *; omega)) (hH 0) dX4_go_35 ?_
      refine hm_getR lf_RX4_66 rfl rfl (by first | exact Nat.lt_of_lt_of_le (by decide) hN | assumption | (simp only [hm_n_wI, hm_n_wL, hm_n_wR, hm_n_g] at *; omega)) (hA 5) dX4_go_38 ?_
      refine hm_iload_n dX4_go_41 rfl ?_
      refine hm_iload_n dX4_go_42 rfl ?_
      refine hm_iast _ rfl (by first | exact Nat.lt_of_lt_of_le (by decide) hN | assumption | (simp only [hm_n_wI, hm_n_wL, hm_n_wR, hm_n_g] at *; omega)) rfl (by omega) (by decide) dX4_go_43 ?_
      refine hm_iload_n dX4_go_44 rfl ?_
      refine hm_iret dX4_go_45 rfl (by decide) (by decide) ?_
      exact hQ _ _ ⟨by rw [hc], by rw [hc]; exact h.upN 3 a b (by omega) (by show _ < 8; omega), (cs_fr.rf σ).wI 3 _ _ (by omega)⟩
    · skip
      rw [bI_0] at h15
      have hc : oGo α (nI a) pl = pRef α 1 := by unfold oGo; rw [g8, h15]; rfl
      refine hm_aload_n dX4_go_18 rfl ?_
      refine hm_iconst dX4_go_19 (v := -1) (by decide) ?_
      refine hm_callV lm_RX4_30 (k4_refuse l h (w := 1) (by decide)) rfl rfl rfl rfl (by first | exact Nat.lt_of_lt_of_le (by decide) hN | assumption | (simp only [hm_n_wI, hm_n_wL, hm_n_wR, hm_n_g] at *; omega)) (by decide) (by decide) (Nat.le_of_ble_eq_true rfl) dX4_go_20 ?_
      rintro _ ρ ⟨rfl, hρ, hf⟩
      refine hm_iret dX4_go_23 rfl (by decide) (by decide) ?_
      exact hQ _ _ ⟨by rw [hc], by rw [hc]; exact hρ, hf⟩
set_option maxRecDepth 100000 in
theorem k4_enter (h : rC α σ) (w : sW α) (p : Int32) (key : Int64) : hm_Ct l yX4_enter cX4_enter 5 (some .int) 2 0 0 [.ref 0, .int p, .long key] σ (fun r τ => r = some (.int (oEnter α p key).1) ∧ rC (oEnter α p key).2 τ ∧ cs_fr σ τ) := by
  have hN := h.N
  have hH := h.r.2.1
  have h8 := w.p8
  refine hm_startQ (ini := false) [.ref 0, .int p, .long key, hm_u, hm_u] (by decide) (by decide) rfl (Nat.le_of_ble_eq_true rfl) (fun Q hQ => ?_)
  cases hin : pIn p (nPort α) with
  | false =>
    have hc : oEnter α p key = pRef α 1 := by unfold oEnter; rw [hin]; rfl
    refine hm_aload_n dX4_enter_0 rfl ?_
    refine hm_iload_n dX4_enter_1 rfl ?_
    refine hm_callV lm_RX4_69 (k4_findN l h hin) rfl rfl rfl rfl (by first | exact Nat.lt_of_lt_of_le (by decide) hN | assumption | (simp only [hm_n_wI, hm_n_wL, hm_n_wR, hm_n_g] at *; omega)) (by decide) (by decide) (Nat.le_of_ble_eq_true rfl) dX4_enter_2 ?_
    rintro _ t9 ⟨rfl, hh9⟩
    rw [hh9]
    clear hh9 t9
    refine hm_astoreN dX4_enter_5 (by decide) rfl ?_
    refine hm_aloadN dX4_enter_7 rfl ?_
    refine hm_ifnonnullN dX4_enter_9 ?_
    refine hm_aload_n dX4_enter_12 rfl ?_
    refine hm_iconst dX4_enter_13 (v := -1) (by decide) ?_
    refine hm_callV lm_RX4_30 (k4_refuse l h (w := 1) (by decide)) rfl rfl rfl rfl (by first | exact Nat.lt_of_lt_of_le (by decide) hN | assumption | (simp only [hm_n_wI, hm_n_wL, hm_n_wR, hm_n_g] at *; omega)) (by decide) (by decide) (Nat.le_of_ble_eq_true rfl) dX4_enter_14 ?_
    rintro _ ρ ⟨rfl, hρ, hf⟩
    refine hm_iret dX4_enter_17 rfl (by decide) (by decide) ?_
    exact hQ _ _ ⟨by rw [hc], by rw [hc]; exact hρ, hf⟩
  | true =>
    obtain ⟨a, ha, rfl⟩ := pIn_some (by omega) hin
    have hn := h.pn ha
    have hg := pA_ge a
    have hs := S_pA0 a
    have e1 : hm_I σ (pA a) 4 = aI α 1 a := h.i 1 a ha
    refine hm_aload_n dX4_enter_0 rfl ?_
    refine hm_iload_n dX4_enter_1 rfl ?_
    refine hm_callV lm_RX4_69 (k4_find l h w ha) rfl rfl rfl rfl (by first | exact Nat.lt_of_lt_of_le (by decide) hN | assumption | (simp only [hm_n_wI, hm_n_wL, hm_n_wR, hm_n_g] at *; omega)) (by decide) (by decide) (Nat.le_of_ble_eq_true rfl) dX4_enter_2 ?_
    rintro _ t9 ⟨rfl, hh9⟩
    rw [hh9]
    clear hh9 t9
    refine hm_astore dX4_enter_5 (by decide) rfl ?_
    refine hm_aload dX4_enter_7 rfl ?_
    refine hm_ifnonnull 18 dX4_enter_9 (by decide) ?_
    refine hm_aload dX4_enter_18 rfl ?_
    refine hm_getI lf_RX4_73 rfl hs (by show pA a < hm_n σ; omega) dX4_enter_20 ?_
    rw [e1]
    refine hm_if_eq 33 dX4_enter_23 (by decide) (fun h23 => ?_) (fun h23 => ?_)
    · skip
      have hc : oEnter α (nI a) key = (1, sL (sI α 0 a 1) 1 a key) := by unfold oEnter; rw [hin, nI_clamp (by omega), if_neg (by decide), if_neg (by simp [h23])]
      refine hm_aload dX4_enter_33 rfl ?_
      refine hm_lload_n dX4_enter_35 rfl ?_
      refine hm_putL lf_RX4_76 rfl rfl hs (by show pA a < hm_n σ; omega) dX4_enter_36 ?_
      refine hm_aload dX4_enter_39 rfl ?_
      refine hm_iconst dX4_enter_41 (v := 1) (by decide) ?_
      refine hm_putZ lf_RX4_80 rfl (by first | exact Or.inl rfl | exact Or.inr rfl | assumption) rfl hs (by show pA a < hm_n σ; omega) dX4_enter_42 ?_
      refine hm_iconst dX4_enter_45 (v := 1) (by decide) ?_
      refine hm_iret dX4_enter_46 rfl (by decide) (by decide) ?_
      exact hQ _ _ ⟨by rw [hc], by rw [hc]; exact (h.upI 0 a 1 ha).upL 1 a key ha, ((cs_fr.rf σ).wI (pA a) 3 1 (by omega)).wL (pA a) 2 key (by omega)⟩
    · skip
      have hc : oEnter α (nI a) key = pRef α 2 := by unfold oEnter; rw [hin, nI_clamp (by omega), if_neg (by decide), if_pos h23]
      refine hm_aload_n dX4_enter_26 rfl ?_
      refine hm_bipush dX4_enter_27 (v := -2) (by decide) ?_
      refine hm_callV lm_RX4_30 (k4_refuse l h (w := 2) (by decide)) rfl rfl rfl rfl (by first | exact Nat.lt_of_lt_of_le (by decide) hN | assumption | (simp only [hm_n_wI, hm_n_wL, hm_n_wR, hm_n_g] at *; omega)) (by decide) (by decide) (Nat.le_of_ble_eq_true rfl) dX4_enter_29 ?_
      rintro _ ρ ⟨rfl, hρ, hf⟩
      refine hm_iret dX4_enter_32 rfl (by decide) (by decide) ?_
      exact hQ _ _ ⟨by rw [hc], by rw [hc]; exact hρ, hf⟩
set_option maxRecDepth 100000 in
theorem k4_dial (h : rC α σ) (w : sW α) (p q : Int32) : hm_Ct l yX4_dial cX4_dial 5 (some .int) 2 0 0 [.ref 0, .int p, .int q] σ (fun r τ => r = some (.int (oDial α p q).1) ∧ rC (oDial α p q).2 τ ∧ cs_fr σ τ) := by
  have hN := h.N
  have hH := h.r.2.1
  have h8 := w.p8
  have et := h.tm
  refine hm_startQ (ini := false) [.ref 0, .int p, .int q, hm_u, hm_u] (by decide) (by decide) rfl (Nat.le_of_ble_eq_true rfl) (fun Q hQ => ?_)
  cases hin : pIn p (nPort α) with
  | false =>
    have hc : oDial α p q = pRef α 1 := by unfold oDial; rw [hin]; rfl
    cases hin2 : pIn q (nPort α) with
    | false =>
      refine hm_aload_n dX4_dial_0 rfl ?_
      refine hm_iload_n dX4_dial_1 rfl ?_
      refine hm_callV lm_RX4_69 (k4_findN l h (by assumption)) rfl rfl rfl rfl (by first | exact Nat.lt_of_lt_of_le (by decide) hN | assumption | (simp only [hm_n_wI, hm_n_wL, hm_n_wR, hm_n_g] at *; omega)) (by decide) (by decide) (Nat.le_of_ble_eq_true rfl) dX4_dial_2 ?_
      rintro _ t9 ⟨rfl, hh9⟩
      rw [hh9]
      clear hh9 t9
      refine hm_astoreN_n dX4_dial_5 (by decide) rfl ?_
      refine hm_aload_n dX4_dial_6 rfl ?_
      refine hm_iload_n dX4_dial_7 rfl ?_
      refine hm_callV lm_RX4_69 (k4_findN l h (by assumption)) rfl rfl rfl rfl (by first | exact Nat.lt_of_lt_of_le (by decide) hN | assumption | (simp only [hm_n_wI, hm_n_wL, hm_n_wR, hm_n_g] at *; omega)) (by decide) (by decide) (Nat.le_of_ble_eq_true rfl) dX4_dial_8 ?_
      rintro _ t9 ⟨rfl, hh9⟩
      rw [hh9]
      clear hh9 t9
      refine hm_astoreN dX4_dial_11 (by decide) rfl ?_
      refine hm_aloadN_n dX4_dial_13 rfl ?_
      refine hm_ifnullN 27 dX4_dial_14 (by decide) ?_
      refine hm_aload_n dX4_dial_27 rfl ?_
      refine hm_iconst dX4_dial_28 (v := -1) (by decide) ?_
      refine hm_callV lm_RX4_30 (k4_refuse l h (w := 1) (by decide)) rfl rfl rfl rfl (by first | exact Nat.lt_of_lt_of_le (by decide) hN | assumption | (simp only [hm_n_wI, hm_n_wL, hm_n_wR, hm_n_g] at *; omega)) (by decide) (by decide) (Nat.le_of_ble_eq_true rfl) dX4_dial_29 ?_
      rintro _ ρ ⟨rfl, hρ, hf⟩
      refine hm_iret dX4_dial_32 rfl (by decide) (by decide) ?_
      exact hQ _ _ ⟨by rw [hc], by rw [hc]; exact hρ, hf⟩
    | true =>
      obtain ⟨b, hb, rfl⟩ := pIn_some (by omega) hin2
      refine hm_aload_n dX4_dial_0 rfl ?_
      refine hm_iload_n dX4_dial_1 rfl ?_
      refine hm_callV lm_RX4_69 (k4_findN l h (by assumption)) rfl rfl rfl rfl (by first | exact Nat.lt_of_lt_of_le (by decide) hN | assumption | (simp only [hm_n_wI, hm_n_wL, hm_n_wR, hm_n_g] at *; omega)) (by decide) (by decide) (Nat.le_of_ble_eq_true rfl) dX4_dial_2 ?_
      rintro _ t9 ⟨rfl, hh9⟩
      rw [hh9]
      clear hh9 t9
      refine hm_astoreN_n dX4_dial_5 (by decide) rfl ?_
      refine hm_aload_n dX4_dial_6 rfl ?_
      refine hm_iload_n dX4_dial_7 rfl ?_
      refine hm_callV lm_RX4_69 (k4_find l h w hb) rfl rfl rfl rfl (by first | exact Nat.lt_of_lt_of_le (by decide) hN | assumption | (simp only [hm_n_wI, hm_n_wL, hm_n_wR, hm_n_g] at *; omega)) (by decide) (by decide) (Nat.le_of_ble_eq_true rfl) dX4_dial_8 ?_
      rintro _ t9 ⟨rfl, hh9⟩
      rw [hh9]
      clear hh9 t9
      refine hm_astore dX4_dial_11 (by decide) rfl ?_
      refine hm_aloadN_n dX4_dial_13 rfl ?_
      refine hm_ifnullN 27 dX4_dial_14 (by decide) ?_
      refine hm_aload_n dX4_dial_27 rfl ?_
      refine hm_iconst dX4_dial_28 (v := -1) (by decide) ?_
      refine hm_callV lm_RX4_30 (k4_refuse l h (w := 1) (by decide)) rfl rfl rfl rfl (by first | exact Nat.lt_of_lt_of_le (by decide) hN | assumption | (simp only [hm_n_wI, hm_n_wL, hm_n_wR, hm_n_g] at *; omega)) (by decide) (by decide) (Nat.le_of_ble_eq_true rfl) dX4_dial_29 ?_
      rintro _ ρ ⟨rfl, hρ, hf⟩
      refine hm_iret dX4_dial_32 rfl (by decide) (by decide) ?_
      exact hQ _ _ ⟨by rw [hc], by rw [hc]; exact hρ, hf⟩
  | true =>
    obtain ⟨a, ha, rfl⟩ := pIn_some (by omega) hin
    cases hin2 : pIn q (nPort α) with
    | false =>
      have hc : oDial α (nI a) q = pRef α 1 := by unfold oDial; rw [hin, hin2]; rfl
      refine hm_aload_n dX4_dial_0 rfl ?_
      refine hm_iload_n dX4_dial_1 rfl ?_
      refine hm_callV lm_RX4_69 (k4_find l h w ha) rfl rfl rfl rfl (by first | exact Nat.lt_of_lt_of_le (by decide) hN | assumption | (simp only [hm_n_wI, hm_n_wL, hm_n_wR, hm_n_g] at *; omega)) (by decide) (by decide) (Nat.le_of_ble_eq_true rfl) dX4_dial_2 ?_
      rintro _ t9 ⟨rfl, hh9⟩
      rw [hh9]
      clear hh9 t9
      refine hm_astore_n dX4_dial_5 (by decide) rfl ?_
      refine hm_aload_n dX4_dial_6 rfl ?_
      refine hm_iload_n dX4_dial_7 rfl ?_
      refine hm_callV lm_RX4_69 (k4_findN l h (by assumption)) rfl rfl rfl rfl (by first | exact Nat.lt_of_lt_of_le (by decide) hN | assumption | (simp only [hm_n_wI, hm_n_wL, hm_n_wR, hm_n_g] at *; omega)) (by decide) (by decide) (Nat.le_of_ble_eq_true rfl) dX4_dial_8 ?_
      rintro _ t9 ⟨rfl, hh9⟩
      rw [hh9]
      clear hh9 t9
      refine hm_astoreN dX4_dial_11 (by decide) rfl ?_
      refine hm_aload_n dX4_dial_13 rfl ?_
      refine hm_ifnull dX4_dial_14 ?_
      refine hm_aloadN dX4_dial_17 rfl ?_
      refine hm_ifnullN 27 dX4_dial_19 (by decide) ?_
      refine hm_aload_n dX4_dial_27 rfl ?_
      refine hm_iconst dX4_dial_28 (v := -1) (by decide) ?_
      refine hm_callV lm_RX4_30 (k4_refuse l h (w := 1) (by decide)) rfl rfl rfl rfl (by first | exact Nat.lt_of_lt_of_le (by decide) hN | assumption | (simp only [hm_n_wI, hm_n_wL, hm_n_wR, hm_n_g] at *; omega)) (by decide) (by decide) (Nat.le_of_ble_eq_true rfl) dX4_dial_29 ?_
      rintro _ ρ ⟨rfl, hρ, hf⟩
      refine hm_iret dX4_dial_32 rfl (by decide) (by decide) ?_
      exact hQ _ _ ⟨by rw [hc], by rw [hc]; exact hρ, hf⟩
    | true =>
      obtain ⟨b, hb, rfl⟩ := pIn_some (by omega) hin2
      have hn := h.pn ha
      have hg := pA_ge a
      have hs := S_pA0 a
      have hnb := h.pn hb
      have hsb := S_pA0 b
      have e1 : hm_I σ (pA a) 4 = aI α 1 a := h.i 1 a ha
      have e2 : hm_I σ (pA a) 3 = aI α 0 a := h.i 0 a ha
      have e3 : hm_I σ (pA b) 3 = aI α 0 b := h.i 0 b hb
      refine hm_aload_n dX4_dial_0 rfl ?_
      refine hm_iload_n dX4_dial_1 rfl ?_
      refine hm_callV lm_RX4_69 (k4_find l h w ha) rfl rfl rfl rfl (by first | exact Nat.lt_of_lt_of_le (by decide) hN | assumption | (simp only [hm_n_wI, hm_n_wL, hm_n_wR, hm_n_g] at *; omega)) (by decide) (by decide) (Nat.le_of_ble_eq_true rfl) dX4_dial_2 ?_
      rintro _ t9 ⟨rfl, hh9⟩
      rw [hh9]
      clear hh9 t9
      refine hm_astore_n dX4_dial_5 (by decide) rfl ?_
      refine hm_aload_n dX4_dial_6 rfl ?_
      refine hm_iload_n dX4_dial_7 rfl ?_
      refine hm_callV lm_RX4_69 (k4_find l h w hb) rfl rfl rfl rfl (by first | exact Nat.lt_of_lt_of_le (by decide) hN | assumption | (simp only [hm_n_wI, hm_n_wL, hm_n_wR, hm_n_g] at *; omega)) (by decide) (by decide) (Nat.le_of_ble_eq_true rfl) dX4_dial_8 ?_
      rintro _ t9 ⟨rfl, hh9⟩
      rw [hh9]
      clear hh9 t9
      refine hm_astore dX4_dial_11 (by decide) rfl ?_
      refine hm_aload_n dX4_dial_13 rfl ?_
      refine hm_ifnull dX4_dial_14 ?_
      refine hm_aload dX4_dial_17 rfl ?_
      refine hm_ifnull dX4_dial_19 ?_
      refine hm_iload_n dX4_dial_22 rfl ?_
      refine hm_iload_n dX4_dial_23 rfl ?_
      refine hm_icmp_ne 33 dX4_dial_24 (by decide) (fun h24 => ?_) (fun h24 => ?_)
      · skip
        have hcc : oDial α (nI a) (nI b) = if aI α 1 a ≠ 0 then pRef α 2 else if aI α 0 a = 0 ∨ aI α 0 b = 0 then pRef α 3 else (1, sI (sI (sI α 1 a 1) 2 a (nI b)) 3 a (nI (aN α 6 0))) := by unfold oDial; rw [hin, hin2, nI_clamp (by omega), nI_clamp (by omega)]; simp [h24]
        refine hm_aload_n dX4_dial_33 rfl ?_
        refine hm_getI lf_RX4_73 rfl hs (by omega) dX4_dial_34 ?_
        rw [e1]
        refine hm_if_eq 47 dX4_dial_37 (by decide) (fun h37 => ?_) (fun h37 => ?_)
        · skip
          rw [if_neg (by simp [h37])] at hcc
          refine hm_aload_n dX4_dial_47 rfl ?_
          refine hm_getI lf_RX4_80 rfl hs (by omega) dX4_dial_48 ?_
          rw [e2]
          refine hm_if_eq 62 dX4_dial_51 (by decide) (fun h51 => ?_) (fun h51 => ?_)
          · skip
            rw [if_pos (Or.inl h51)] at hcc
            have hc := hcc
            refine hm_aload_n dX4_dial_62 rfl ?_
            refine hm_bipush dX4_dial_63 (v := -3) (by decide) ?_
            refine hm_callV lm_RX4_30 (k4_refuse l h (w := 3) (by decide)) rfl rfl rfl rfl (by first | exact Nat.lt_of_lt_of_le (by decide) hN | assumption | (simp only [hm_n_wI, hm_n_wL, hm_n_wR, hm_n_g] at *; omega)) (by decide) (by decide) (Nat.le_of_ble_eq_true rfl) dX4_dial_65 ?_
            rintro _ ρ ⟨rfl, hρ, hf⟩
            refine hm_iret dX4_dial_68 rfl (by decide) (by decide) ?_
            exact hQ _ _ ⟨by rw [hc], by rw [hc]; exact hρ, hf⟩
          · skip
            refine hm_aload dX4_dial_54 rfl ?_
            refine hm_getI lf_RX4_80 rfl hsb (by omega) dX4_dial_56 ?_
            rw [e3]
            refine hm_if_ne 69 dX4_dial_59 (by decide) (fun h59 => ?_) (fun h59 => ?_)
            · skip
              rw [if_neg (by rintro (q | q); exact h51 q; exact h59 q)] at hcc
              have hc := hcc
              refine hm_aload_n dX4_dial_69 rfl ?_
              refine hm_iconst dX4_dial_70 (v := 1) (by decide) ?_
              refine hm_iload_n dX4_dial_71 rfl ?_
              refine hm_aload_n dX4_dial_72 rfl ?_
              refine hm_getI lf_RX4_84 rfl rfl (by first | exact Nat.lt_of_lt_of_le (by decide) hN | assumption | (simp only [hm_n_wI, hm_n_wL, hm_n_wR, hm_n_g] at *; omega)) dX4_dial_73 ?_
              rw [et]
              refine hm_callV lm_RX4_87 (k2_begin l h ha _ _ _) rfl rfl hs rfl (by omega) (by decide) (by decide) (Nat.le_of_ble_eq_true rfl) dX4_dial_76 ?_
              rintro _ ρ ⟨rfl, hρ, hf⟩
              refine hm_iconst dX4_dial_79 (v := 1) (by decide) ?_
              refine hm_iret dX4_dial_80 rfl (by decide) (by decide) ?_
              exact hQ _ _ ⟨by rw [hc], by rw [hc]; exact hρ, hf⟩
            · skip
              rw [if_pos (Or.inr h59)] at hcc
              have hc := hcc
              refine hm_aload_n dX4_dial_62 rfl ?_
              refine hm_bipush dX4_dial_63 (v := -3) (by decide) ?_
              refine hm_callV lm_RX4_30 (k4_refuse l h (w := 3) (by decide)) rfl rfl rfl rfl (by first | exact Nat.lt_of_lt_of_le (by decide) hN | assumption | (simp only [hm_n_wI, hm_n_wL, hm_n_wR, hm_n_g] at *; omega)) (by decide) (by decide) (Nat.le_of_ble_eq_true rfl) dX4_dial_65 ?_
              rintro _ ρ ⟨rfl, hρ, hf⟩
              refine hm_iret dX4_dial_68 rfl (by decide) (by decide) ?_
              exact hQ _ _ ⟨by rw [hc], by rw [hc]; exact hρ, hf⟩
        · skip
          rw [if_pos h37] at hcc
          have hc := hcc
          refine hm_aload_n dX4_dial_40 rfl ?_
          refine hm_bipush dX4_dial_41 (v := -2) (by decide) ?_
          refine hm_callV lm_RX4_30 (k4_refuse l h (w := 2) (by decide)) rfl rfl rfl rfl (by first | exact Nat.lt_of_lt_of_le (by decide) hN | assumption | (simp only [hm_n_wI, hm_n_wL, hm_n_wR, hm_n_g] at *; omega)) (by decide) (by decide) (Nat.le_of_ble_eq_true rfl) dX4_dial_43 ?_
          rintro _ ρ ⟨rfl, hρ, hf⟩
          refine hm_iret dX4_dial_46 rfl (by decide) (by decide) ?_
          exact hQ _ _ ⟨by rw [hc], by rw [hc]; exact hρ, hf⟩
      · skip
        have hc : oDial α (nI a) (nI b) = pRef α 1 := by unfold oDial; rw [hin, hin2, h24]; simp
        refine hm_aload_n dX4_dial_27 rfl ?_
        refine hm_iconst dX4_dial_28 (v := -1) (by decide) ?_
        refine hm_callV lm_RX4_30 (k4_refuse l h (w := 1) (by decide)) rfl rfl rfl rfl (by first | exact Nat.lt_of_lt_of_le (by decide) hN | assumption | (simp only [hm_n_wI, hm_n_wL, hm_n_wR, hm_n_g] at *; omega)) (by decide) (by decide) (Nat.le_of_ble_eq_true rfl) dX4_dial_29 ?_
        rintro _ ρ ⟨rfl, hρ, hf⟩
        refine hm_iret dX4_dial_32 rfl (by decide) (by decide) ?_
        exact hQ _ _ ⟨by rw [hc], by rw [hc]; exact hρ, hf⟩
set_option maxRecDepth 100000 in
theorem k4_answer (h : rC α σ) (w : sW α) (p : Int32) : hm_Ct l yX4_answer cX4_answer 4 (some .int) 2 0 0 [.ref 0, .int p] σ (fun r τ => r = some (.int (oAnswer α p).1) ∧ rC (oAnswer α p).2 τ ∧ cs_fr σ τ) := by
  have hN := h.N
  have hH := h.r.2.1
  have h8 := w.p8
  refine hm_startQ (ini := false) [.ref 0, .int p, hm_u, hm_u] (by decide) (by decide) rfl (Nat.le_of_ble_eq_true rfl) (fun Q hQ => ?_)
  cases hin : pIn p (nPort α) with
  | false =>
    have hc : oAnswer α p = pRef α 1 := by unfold oAnswer; rw [hin]; rfl
    refine hm_aload_n dX4_answer_0 rfl ?_
    refine hm_iload_n dX4_answer_1 rfl ?_
    refine hm_callV lm_RX4_69 (k4_findN l h hin) rfl rfl rfl rfl (by first | exact Nat.lt_of_lt_of_le (by decide) hN | assumption | (simp only [hm_n_wI, hm_n_wL, hm_n_wR, hm_n_g] at *; omega)) (by decide) (by decide) (Nat.le_of_ble_eq_true rfl) dX4_answer_2 ?_
    rintro _ t9 ⟨rfl, hh9⟩
    rw [hh9]
    clear hh9 t9
    refine hm_astoreN_n dX4_answer_5 (by decide) rfl ?_
    refine hm_aloadN_n dX4_answer_6 rfl ?_
    refine hm_ifnonnullN dX4_answer_7 ?_
    refine hm_aload_n dX4_answer_10 rfl ?_
    refine hm_iconst dX4_answer_11 (v := -1) (by decide) ?_
    refine hm_callV lm_RX4_30 (k4_refuse l h (w := 1) (by decide)) rfl rfl rfl rfl (by first | exact Nat.lt_of_lt_of_le (by decide) hN | assumption | (simp only [hm_n_wI, hm_n_wL, hm_n_wR, hm_n_g] at *; omega)) (by decide) (by decide) (Nat.le_of_ble_eq_true rfl) dX4_answer_12 ?_
    rintro _ ρ ⟨rfl, hρ, hf⟩
    refine hm_iret dX4_answer_15 rfl (by decide) (by decide) ?_
    exact hQ _ _ ⟨by rw [hc], by rw [hc]; exact hρ, hf⟩
  | true =>
    obtain ⟨a, ha, rfl⟩ := pIn_some (by omega) hin
    have hn := h.pn ha
    have hg := pA_ge a
    have hs := S_pA0 a
    have e1 : hm_I σ (pA a) 4 = aI α 1 a := h.i 1 a ha
    by_cases h0 : aI α 1 a = 0
    · skip
      have e5 : hm_I σ (pA a) 5 = -9 := by
        rcases w.st ha with q | ⟨q, -⟩
        · exact (h.i 2 a ha).trans q.2
        · rw [h0] at q; exact absurd q.1 (by decide)
      have h9 : pIn (-9) (nPort α) = false := by unfold pIn; rfl
      have hc : oAnswer α (nI a) = pRef α 2 := by unfold oAnswer; rw [hin, nI_clamp (by omega), if_neg (by decide), if_pos (by rw [h0]; decide)]
      refine hm_aload_n dX4_answer_0 rfl ?_
      refine hm_iload_n dX4_answer_1 rfl ?_
      refine hm_callV lm_RX4_69 (k4_find l h w ha) rfl rfl rfl rfl (by first | exact Nat.lt_of_lt_of_le (by decide) hN | assumption | (simp only [hm_n_wI, hm_n_wL, hm_n_wR, hm_n_g] at *; omega)) (by decide) (by decide) (Nat.le_of_ble_eq_true rfl) dX4_answer_2 ?_
      rintro _ t9 ⟨rfl, hh9⟩
      rw [hh9]
      clear hh9 t9
      refine hm_astore_n dX4_answer_5 (by decide) rfl ?_
      refine hm_aload_n dX4_answer_6 rfl ?_
      refine hm_ifnonnull 16 dX4_answer_7 (by decide) ?_
      refine hm_aload_n dX4_answer_16 rfl ?_
      refine hm_aload_n dX4_answer_17 rfl ?_
      refine hm_getI lf_RX4_91 rfl hs (by omega) dX4_answer_18 ?_
      rw [e5]
      refine hm_callV lm_RX4_69 (k4_findN l h h9) rfl rfl rfl rfl (by first | exact Nat.lt_of_lt_of_le (by decide) hN | assumption | (simp only [hm_n_wI, hm_n_wL, hm_n_wR, hm_n_g] at *; omega)) (by decide) (by decide) (Nat.le_of_ble_eq_true rfl) dX4_answer_21 ?_
      rintro _ t9 ⟨rfl, hh9⟩
      rw [hh9]
      clear hh9 t9
      refine hm_astoreN_n dX4_answer_24 (by decide) rfl ?_
      refine hm_aload_n dX4_answer_25 rfl ?_
      refine hm_getI lf_RX4_73 rfl hs (by omega) dX4_answer_26 ?_
      rw [e1, h0]
      refine hm_bipush dX4_answer_29 (v := 6) (by decide) ?_
      refine hm_icmp_ne 38 dX4_answer_31 (by decide) (fun _ => ?_) (fun h31 => absurd h31 (by decide))
      refine hm_aload_n dX4_answer_38 rfl ?_
      refine hm_bipush dX4_answer_39 (v := -2) (by decide) ?_
      refine hm_callV lm_RX4_30 (k4_refuse l h (w := 2) (by decide)) rfl rfl rfl rfl (by first | exact Nat.lt_of_lt_of_le (by decide) hN | assumption | (simp only [hm_n_wI, hm_n_wL, hm_n_wR, hm_n_g] at *; omega)) (by decide) (by decide) (Nat.le_of_ble_eq_true rfl) dX4_answer_41 ?_
      rintro _ ρ ⟨rfl, hρ, hf⟩
      refine hm_iret dX4_answer_44 rfl (by decide) (by decide) ?_
      exact hQ _ _ ⟨by rw [hc], by rw [hc]; exact hρ, hf⟩
    · skip
      obtain ⟨hq, hne, hpar, -, -⟩ := w.par ha h0
      have hnq := h.pn hq
      have hgq := pA_ge (pPar α a)
      have hsq := S_pA0 (pPar α a)
      have e5 : hm_I σ (pA a) 5 = nI (pPar α a) := (h.i 2 a ha).trans hpar
      have h7 := (h.upI 1 a 7 ha).upI 1 (pPar α a) 7 hq
      have e4 : hm_I (hm_wI (hm_wI σ (pA a) 4 7) (pA (pPar α a)) 4 7) 0 4 = aI α 4 1 := h7.i 4 1 (by show 1 < 6; decide)
      refine hm_aload_n dX4_answer_0 rfl ?_
      refine hm_iload_n dX4_answer_1 rfl ?_
      refine hm_callV lm_RX4_69 (k4_find l h w ha) rfl rfl rfl rfl (by first | exact Nat.lt_of_lt_of_le (by decide) hN | assumption | (simp only [hm_n_wI, hm_n_wL, hm_n_wR, hm_n_g] at *; omega)) (by decide) (by decide) (Nat.le_of_ble_eq_true rfl) dX4_answer_2 ?_
      rintro _ t9 ⟨rfl, hh9⟩
      rw [hh9]
      clear hh9 t9
      refine hm_astore_n dX4_answer_5 (by decide) rfl ?_
      refine hm_aload_n dX4_answer_6 rfl ?_
      refine hm_ifnonnull 16 dX4_answer_7 (by decide) ?_
      refine hm_aload_n dX4_answer_16 rfl ?_
      refine hm_aload_n dX4_answer_17 rfl ?_
      refine hm_getI lf_RX4_91 rfl hs (by show pA a < hm_n σ; omega) dX4_answer_18 ?_
      rw [e5]
      refine hm_callV lm_RX4_69 (k4_find l h w hq) rfl rfl rfl rfl (by first | exact Nat.lt_of_lt_of_le (by decide) hN | assumption | (simp only [hm_n_wI, hm_n_wL, hm_n_wR, hm_n_g] at *; omega)) (by decide) (by decide) (Nat.le_of_ble_eq_true rfl) dX4_answer_21 ?_
      rintro _ t9 ⟨rfl, hh9⟩
      rw [hh9]
      clear hh9 t9
      refine hm_astore_n dX4_answer_24 (by decide) rfl ?_
      refine hm_aload_n dX4_answer_25 rfl ?_
      refine hm_getI lf_RX4_73 rfl hs (by show pA a < hm_n σ; omega) dX4_answer_26 ?_
      rw [e1]
      refine hm_bipush dX4_answer_29 (v := 6) (by decide) ?_
      refine hm_icmp_ne 38 dX4_answer_31 (by decide) (fun h31 => ?_) (fun h31 => ?_)
      · skip
        have hc : oAnswer α (nI a) = pRef α 2 := by unfold oAnswer; rw [hin, nI_clamp (by omega), if_neg (by decide), if_pos h31]
        refine hm_aload_n dX4_answer_38 rfl ?_
        refine hm_bipush dX4_answer_39 (v := -2) (by decide) ?_
        refine hm_callV lm_RX4_30 (k4_refuse l h (w := 2) (by decide)) rfl rfl rfl rfl (by first | exact Nat.lt_of_lt_of_le (by decide) hN | assumption | (simp only [hm_n_wI, hm_n_wL, hm_n_wR, hm_n_g] at *; omega)) (by decide) (by decide) (Nat.le_of_ble_eq_true rfl) dX4_answer_41 ?_
        rintro _ ρ ⟨rfl, hρ, hf⟩
        refine hm_iret dX4_answer_44 rfl (by decide) (by decide) ?_
        exact hQ _ _ ⟨by rw [hc], by rw [hc]; exact hρ, hf⟩
      · skip
        have hc : oAnswer α (nI a) = (1, sI (sI (sI α 1 a 7) 1 (pPar α a) 7) 4 1 (aI α 4 1 + 1)) := by unfold oAnswer; rw [hin, nI_clamp (by omega), if_neg (by decide), if_neg (by simp [h31])]
        refine hm_aload_n dX4_answer_34 rfl ?_
        refine hm_ifnonnull 45 dX4_answer_35 (by decide) ?_
        refine hm_aload_n dX4_answer_45 rfl ?_
        refine hm_bipush dX4_answer_46 (v := 7) (by decide) ?_
        refine hm_putI lf_RX4_73 rfl rfl hs (by show pA a < hm_n σ; omega) dX4_answer_48 ?_
        refine hm_aload_n dX4_answer_51 rfl ?_
        refine hm_bipush dX4_answer_52 (v := 7) (by decide) ?_
        refine hm_putI lf_RX4_73 rfl rfl hsq (by show pA (pPar α a) < hm_n σ; omega) dX4_answer_54 ?_
        refine hm_aload_n dX4_answer_57 rfl ?_
        refine hm_dup dX4_answer_58 rfl ?_
        refine hm_getI lf_RX4_94 rfl rfl (by first | exact Nat.lt_of_lt_of_le (by decide) hN | assumption | (simp only [hm_n_wI, hm_n_wL, hm_n_wR, hm_n_g] at *; omega)) dX4_answer_59 ?_
        rw [e4]
        refine hm_iconst dX4_answer_62 (v := 1) (by decide) ?_
        refine hm_iadd dX4_answer_63 ?_
        refine hm_putI lf_RX4_94 rfl rfl rfl (by first | exact Nat.lt_of_lt_of_le (by decide) hN | assumption | (simp only [hm_n_wI, hm_n_wL, hm_n_wR, hm_n_g] at *; omega)) dX4_answer_64 ?_
        refine hm_iconst dX4_answer_67 (v := 1) (by decide) ?_
        refine hm_iret dX4_answer_68 rfl (by decide) (by decide) ?_
        exact hQ _ _ ⟨by rw [hc], by rw [hc]; exact h7.upI 4 1 _ (by show 1 < 6; decide), (((cs_fr.rf σ).wI (pA a) 4 _ (by omega)).wI (pA (pPar α a)) 4 _ (by omega)).wI 0 4 _ (by omega)⟩
set_option maxRecDepth 100000 in
theorem k4_hang (h : rC α σ) (w : sW α) (p : Int32) : hm_Ct l yX4_hang cX4_hang 3 (some .int) 4 0 0 [.ref 0, .int p] σ (fun r τ => r = some (.int (oHang α p).1) ∧ rC (oHang α p).2 τ ∧ cs_fr σ τ) := by
  have hN := h.N
  have hH := h.r.2.1
  have h8 := w.p8
  refine hm_startQ (ini := false) [.ref 0, .int p, hm_u] (by decide) (by decide) rfl (Nat.le_of_ble_eq_true rfl) (fun Q hQ => ?_)
  cases hin : pIn p (nPort α) with
  | false =>
    have hc : oHang α p = pRef α 1 := by unfold oHang; rw [hin]; rfl
    refine hm_aload_n dX4_hang_0 rfl ?_
    refine hm_iload_n dX4_hang_1 rfl ?_
    refine hm_callV lm_RX4_69 (k4_findN l h hin) rfl rfl rfl rfl (by first | exact Nat.lt_of_lt_of_le (by decide) hN | assumption | (simp only [hm_n_wI, hm_n_wL, hm_n_wR, hm_n_g] at *; omega)) (by decide) (by decide) (Nat.le_of_ble_eq_true rfl) dX4_hang_2 ?_
    rintro _ t9 ⟨rfl, hh9⟩
    rw [hh9]
    clear hh9 t9
    refine hm_astoreN_n dX4_hang_5 (by decide) rfl ?_
    refine hm_aloadN_n dX4_hang_6 rfl ?_
    refine hm_ifnonnullN dX4_hang_7 ?_
    refine hm_aload_n dX4_hang_10 rfl ?_
    refine hm_iconst dX4_hang_11 (v := -1) (by decide) ?_
    refine hm_callV lm_RX4_30 (k4_refuse l h (w := 1) (by decide)) rfl rfl rfl rfl (by first | exact Nat.lt_of_lt_of_le (by decide) hN | assumption | (simp only [hm_n_wI, hm_n_wL, hm_n_wR, hm_n_g] at *; omega)) (by decide) (by decide) (Nat.le_of_ble_eq_true rfl) dX4_hang_12 ?_
    rintro _ ρ ⟨rfl, hρ, hf⟩
    refine hm_iret dX4_hang_15 rfl (by decide) (by decide) ?_
    exact hQ _ _ ⟨by rw [hc], by rw [hc]; exact hρ, hf⟩
  | true =>
    obtain ⟨a, ha, rfl⟩ := pIn_some (by omega) hin
    have hn := h.pn ha
    have hs := S_pA0 a
    have e1 : hm_I σ (pA a) 4 = aI α 1 a := h.i 1 a ha
    refine hm_aload_n dX4_hang_0 rfl ?_
    refine hm_iload_n dX4_hang_1 rfl ?_
    refine hm_callV lm_RX4_69 (k4_find l h w ha) rfl rfl rfl rfl (by first | exact Nat.lt_of_lt_of_le (by decide) hN | assumption | (simp only [hm_n_wI, hm_n_wL, hm_n_wR, hm_n_g] at *; omega)) (by decide) (by decide) (Nat.le_of_ble_eq_true rfl) dX4_hang_2 ?_
    rintro _ t9 ⟨rfl, hh9⟩
    rw [hh9]
    clear hh9 t9
    refine hm_astore_n dX4_hang_5 (by decide) rfl ?_
    refine hm_aload_n dX4_hang_6 rfl ?_
    refine hm_ifnonnull 16 dX4_hang_7 (by decide) ?_
    refine hm_aload_n dX4_hang_16 rfl ?_
    refine hm_getI lf_RX4_73 rfl hs (by omega) dX4_hang_17 ?_
    rw [e1]
    refine hm_if_ne 30 dX4_hang_20 (by decide) (fun h20 => ?_) (fun h20 => ?_)
    · skip
      have hc : oHang α (nI a) = (1, pEnds α a) := by unfold oHang; rw [hin, nI_clamp (by omega), if_neg (by decide), if_neg h20]
      refine hm_aload_n dX4_hang_30 rfl ?_
      refine hm_aload_n dX4_hang_31 rfl ?_
      refine hm_callV lm_RX4_97 (k4_endCall l h w ha h20) rfl rfl rfl rfl (by first | exact Nat.lt_of_lt_of_le (by decide) hN | assumption | (simp only [hm_n_wI, hm_n_wL, hm_n_wR, hm_n_g] at *; omega)) (by decide) (by decide) (Nat.le_of_ble_eq_true rfl) dX4_hang_32 ?_
      rintro _ ρ ⟨rfl, hρ, hf⟩
      refine hm_iconst dX4_hang_35 (v := 1) (by decide) ?_
      refine hm_iret dX4_hang_36 rfl (by decide) (by decide) ?_
      exact hQ _ _ ⟨by rw [hc], by rw [hc]; exact hρ, hf⟩
    · skip
      have hc : oHang α (nI a) = pRef α 2 := by unfold oHang; rw [hin, nI_clamp (by omega), if_neg (by decide), if_pos h20]
      refine hm_aload_n dX4_hang_23 rfl ?_
      refine hm_bipush dX4_hang_24 (v := -2) (by decide) ?_
      refine hm_callV lm_RX4_30 (k4_refuse l h (w := 2) (by decide)) rfl rfl rfl rfl (by first | exact Nat.lt_of_lt_of_le (by decide) hN | assumption | (simp only [hm_n_wI, hm_n_wL, hm_n_wR, hm_n_g] at *; omega)) (by decide) (by decide) (Nat.le_of_ble_eq_true rfl) dX4_hang_26 ?_
      rintro _ ρ ⟨rfl, hρ, hf⟩
      refine hm_iret dX4_hang_29 rfl (by decide) (by decide) ?_
      exact hQ _ _ ⟨by rw [hc], by rw [hc]; exact hρ, hf⟩
set_option maxRecDepth 100000 in
theorem k4_say (h : rC α σ) (w : sW α) (p : Int32) (v : Int64) : hm_Ct l yX4_say cX4_say 5 (some .int) 2 0 0 [.ref 0, .int p, .long v] σ (fun r τ => r = some (.int (oSay α p v).1) ∧ rC (oSay α p v).2 τ ∧ cs_fr σ τ) := by
  have hN := h.N
  have hH := h.r.2.1
  have h8 := w.p8
  refine hm_startQ (ini := false) [.ref 0, .int p, .long v, hm_u, hm_u] (by decide) (by decide) rfl (Nat.le_of_ble_eq_true rfl) (fun Q hQ => ?_)
  cases hin : pIn p (nPort α) with
  | false =>
    have hc : oSay α p v = pRef α 1 := by unfold oSay; rw [hin]; rfl
    refine hm_aload_n dX4_say_0 rfl ?_
    refine hm_iload_n dX4_say_1 rfl ?_
    refine hm_callV lm_RX4_69 (k4_findN l h hin) rfl rfl rfl rfl (by first | exact Nat.lt_of_lt_of_le (by decide) hN | assumption | (simp only [hm_n_wI, hm_n_wL, hm_n_wR, hm_n_g] at *; omega)) (by decide) (by decide) (Nat.le_of_ble_eq_true rfl) dX4_say_2 ?_
    rintro _ t9 ⟨rfl, hh9⟩
    rw [hh9]
    clear hh9 t9
    refine hm_astoreN dX4_say_5 (by decide) rfl ?_
    refine hm_aloadN dX4_say_7 rfl ?_
    refine hm_ifnonnullN dX4_say_9 ?_
    refine hm_aload_n dX4_say_12 rfl ?_
    refine hm_iconst dX4_say_13 (v := -1) (by decide) ?_
    refine hm_callV lm_RX4_30 (k4_refuse l h (w := 1) (by decide)) rfl rfl rfl rfl (by first | exact Nat.lt_of_lt_of_le (by decide) hN | assumption | (simp only [hm_n_wI, hm_n_wL, hm_n_wR, hm_n_g] at *; omega)) (by decide) (by decide) (Nat.le_of_ble_eq_true rfl) dX4_say_14 ?_
    rintro _ ρ ⟨rfl, hρ, hf⟩
    refine hm_iret dX4_say_17 rfl (by decide) (by decide) ?_
    exact hQ _ _ ⟨by rw [hc], by rw [hc]; exact hρ, hf⟩
  | true =>
    obtain ⟨a, ha, rfl⟩ := pIn_some (by omega) hin
    have hn := h.pn ha
    have hg := pA_ge a
    have hs := S_pA0 a
    have hP := h.p ha
    obtain ⟨f0, hb0⟩ := hP.2.2.2.1
    have hR1 := hP.2.1.1
    have hR2 := hP.2.1.2.2.2.1
    have e1 : hm_I σ (pA a) 4 = aI α 1 a := h.i 1 a ha
    have j35 : aI α 1 a = 7 → hm_V l RX4 cX4_say 5 (some .int) false (hm_rm 2 0 0) 0 0 Q 0 0 35 [.ref 0, .int (nI a), .long v, hm_u, .ref (pA a)] [] σ := by
      intro h25
      have hcc : oSay α (nI a) v = if (aQ α 0 a).length = 8 then pRef α 6 else (nI ((aQ α 0 a).length + 1), sQ α 0 a (aQ α 0 a ++ [v])) := by unfold oSay; rw [hin, nI_clamp (by omega), if_neg (by decide), if_neg (by simp [h25])]
      refine hm_aload dX4_say_35 rfl ?_
      refine hm_getR lf_RX4_101 rfl hs (by omega) hR1 dX4_say_37 ?_
      refine hm_lload_n dX4_say_40 rfl ?_
      refine hm_callV lm_RX4_105 (k1_put l (S_pA1 a) (S_pA2 a) (by omega) hR2 (by decide) hb0 v) rfl rfl (S_pA1 a) rfl (by omega) (by decide) (by decide) (Nat.le_of_ble_eq_true rfl) dX4_say_41 ?_
      rintro _ ρ (⟨q1, rfl, rfl⟩ | ⟨q1, rfl, hb1, hf1⟩)
      · skip
        rw [if_pos q1] at hcc
        refine hm_if_ne 54 dX4_say_44 (by decide) (fun h44 => absurd (by rfl) h44) (fun _ => ?_)
        refine hm_aload_n dX4_say_47 rfl ?_
        refine hm_bipush dX4_say_48 (v := -6) (by decide) ?_
        refine hm_callV lm_RX4_30 (k4_refuse l h (w := 6) (by decide)) rfl rfl rfl rfl (by first | exact Nat.lt_of_lt_of_le (by decide) hN | assumption | (simp only [hm_n_wI, hm_n_wL, hm_n_wR, hm_n_g] at *; omega)) (by decide) (by decide) (Nat.le_of_ble_eq_true rfl) dX4_say_50 ?_
        rintro _ ρ ⟨rfl, hρ, hf⟩
        refine hm_iret dX4_say_53 rfl (by decide) (by decide) ?_
        exact hQ _ _ ⟨by rw [hcc], by rw [hcc]; exact hρ, hf⟩
      · skip
        rw [if_neg (by omega)] at hcc
        have h1 := h.bkf (f := 0) ha (Or.inl ⟨rfl, rfl⟩) hf1 ⟨f0, hb1⟩
        have hn1 : pA a + 6 < hm_n ρ := h1.pn ha
        have hR3 := (h1.p (show a < nPort α from ha)).2.1.1
        have ez : hm_I ρ (pA a + 1) 2 = nI ((aQ α 0 a).length + 1) := by rw [hb1.2.2.1, List.length_append]; rfl
        refine hm_if_ne 54 dX4_say_44 (by decide) (fun _ => ?_) (fun h44 => absurd h44 (by decide))
        refine hm_aload dX4_say_54 rfl ?_
        refine hm_getR lf_RX4_101 rfl hs (by omega) hR3 dX4_say_56 ?_
        refine hm_getI lf_RX4_111 rfl (S_pA1 a) (by omega) dX4_say_59 ?_
        rw [ez]
        refine hm_iret dX4_say_62 rfl (by decide) (by decide) ?_
        exact hQ _ _ ⟨by rw [hcc], by rw [hcc]; exact h1, hf1.cs (by omega)⟩
    refine hm_aload_n dX4_say_0 rfl ?_
    refine hm_iload_n dX4_say_1 rfl ?_
    refine hm_callV lm_RX4_69 (k4_find l h w ha) rfl rfl rfl rfl (by first | exact Nat.lt_of_lt_of_le (by decide) hN | assumption | (simp only [hm_n_wI, hm_n_wL, hm_n_wR, hm_n_g] at *; omega)) (by decide) (by decide) (Nat.le_of_ble_eq_true rfl) dX4_say_2 ?_
    rintro _ t9 ⟨rfl, hh9⟩
    rw [hh9]
    clear hh9 t9
    refine hm_astore dX4_say_5 (by decide) rfl ?_
    refine hm_aload dX4_say_7 rfl ?_
    refine hm_ifnonnull 18 dX4_say_9 (by decide) ?_
    refine hm_aload dX4_say_18 rfl ?_
    refine hm_getI lf_RX4_73 rfl hs (by omega) dX4_say_20 ?_
    rw [e1]
    refine hm_bipush dX4_say_23 (v := 7) (by decide) ?_
    refine hm_icmp_eq 35 dX4_say_25 (by decide) (fun h25 => ?_) (fun h25 => ?_)
    · skip
      exact j35 h25
    · skip
      have hc : oSay α (nI a) v = pRef α 2 := by unfold oSay; rw [hin, nI_clamp (by omega), if_neg (by decide), if_pos h25]
      refine hm_aload_n dX4_say_28 rfl ?_
      refine hm_bipush dX4_say_29 (v := -2) (by decide) ?_
      refine hm_callV lm_RX4_30 (k4_refuse l h (w := 2) (by decide)) rfl rfl rfl rfl (by first | exact Nat.lt_of_lt_of_le (by decide) hN | assumption | (simp only [hm_n_wI, hm_n_wL, hm_n_wR, hm_n_g] at *; omega)) (by decide) (by decide) (Nat.le_of_ble_eq_true rfl) dX4_say_31 ?_
      rintro _ ρ ⟨rfl, hρ, hf⟩
      refine hm_iret dX4_say_34 rfl (by decide) (by decide) ?_
      exact hQ _ _ ⟨by rw [hc], by rw [hc]; exact hρ, hf⟩
end C10
