/-! the class's public calls that only read -/
section C11
variable (l : Launch) {α : sA} {σ : hm_M}
set_option maxRecDepth 100000 in
theorem k4_heard (h : rC α σ) (w : sW α) (p i : Int32) : hm_Ct l yX4_heard cX4_heard 4 (some .long) 2 0 0 [.ref 0, .int p, .int i] σ (fun r τ => r = some (.long (oHeard α p i)) ∧ rC α τ ∧ cs_fr σ τ) := by
  have hN := h.N
  have hH := h.r.2.1
  have h8 := w.p8
  refine hm_startQ (ini := false) [.ref 0, .int p, .int i, hm_u] (by decide) (by decide) rfl (Nat.le_of_ble_eq_true rfl) (fun Q hQ => ?_)
  cases hin : pIn p (nPort α) with
  | false =>
    have hc : oHeard α p i = 0 := by unfold oHeard; rw [hin]; rfl
    refine hm_aload_n dX4_heard_0 rfl ?_
    refine hm_iload_n dX4_heard_1 rfl ?_
    refine hm_callV lm_RX4_69 (k4_findN l h hin) rfl rfl rfl rfl (by first | exact Nat.lt_of_lt_of_le (by decide) hN | assumption | (simp only [hm_n_wI, hm_n_wL, hm_n_wR, hm_n_g] at *; omega)) (by decide) (by decide) (Nat.le_of_ble_eq_true rfl) dX4_heard_2 ?_
    rintro _ t9 ⟨rfl, hh9⟩
    rw [hh9]
    clear hh9 t9
    refine hm_astoreN_n dX4_heard_5 (by decide) rfl ?_
    refine hm_aloadN_n dX4_heard_6 rfl ?_
    refine hm_ifnonnullN dX4_heard_7 ?_
    refine hm_lconst dX4_heard_10 (v := 0) (by decide) ?_
    refine hm_goto 22 dX4_heard_11 (by decide) ?_
    refine hm_lret dX4_heard_22 rfl (by decide) (by decide) ?_
    exact hQ _ _ ⟨by rw [hc], h, cs_fr.rf σ⟩
  | true =>
    obtain ⟨a, ha, rfl⟩ := pIn_some (by omega) hin
    have hn := h.pn ha
    have hs := S_pA0 a
    have hP := h.p ha
    obtain ⟨f0, hb0⟩ := hP.2.2.2.2.2
    have hR5 := hP.2.1.2.2.1
    have hR6 := hP.2.1.2.2.2.2.2
    have hc : oHeard α (nI a) i = if pIn i (aQ α 2 a).length then (aQ α 2 a).getD i.toNatClampNeg 0 else 0 := by unfold oHeard; rw [hin, nI_clamp (by omega), Bool.true_and]
    refine hm_aload_n dX4_heard_0 rfl ?_
    refine hm_iload_n dX4_heard_1 rfl ?_
    refine hm_callV lm_RX4_69 (k4_find l h w ha) rfl rfl rfl rfl (by first | exact Nat.lt_of_lt_of_le (by decide) hN | assumption | (simp only [hm_n_wI, hm_n_wL, hm_n_wR, hm_n_g] at *; omega)) (by decide) (by decide) (Nat.le_of_ble_eq_true rfl) dX4_heard_2 ?_
    rintro _ t9 ⟨rfl, hh9⟩
    rw [hh9]
    clear hh9 t9
    refine hm_astore_n dX4_heard_5 (by decide) rfl ?_
    refine hm_aload_n dX4_heard_6 rfl ?_
    refine hm_ifnonnull 14 dX4_heard_7 (by decide) ?_
    refine hm_aload_n dX4_heard_14 rfl ?_
    refine hm_getR lf_RX4_121 rfl hs (by omega) hR5 dX4_heard_15 ?_
    refine hm_iload_n dX4_heard_18 rfl ?_
    refine hm_callV lm_RX4_124 (k1_at l (S_pA5 a) (S_pA6 a) (by omega) hR6 (by decide) hb0 i) rfl rfl (S_pA5 a) rfl (by omega) (by decide) (by decide) (Nat.le_of_ble_eq_true rfl) dX4_heard_19 ?_
    rintro _ t9 ⟨rfl, hh9⟩
    rw [hh9]
    clear hh9 t9
    refine hm_lret dX4_heard_22 rfl (by decide) (by decide) ?_
    exact hQ _ _ ⟨by rw [hc], h, cs_fr.rf σ⟩
set_option maxRecDepth 100000 in
theorem k4_mix (h : rC α σ) (key n : Int64) : hm_Ct l yX4_mix cX4_mix 5 (some .long) 1 0 0 [.ref 0, .long key, .long n] σ (fun r τ => r = some (.long (pMix key n)) ∧ rC α τ ∧ cs_fr σ τ) := by
  refine hm_startQ (ini := false) [.ref 0, .long key, hm_u, .long n, hm_u] (by decide) (by decide) rfl (Nat.le_of_ble_eq_true rfl) (fun Q hQ => ?_)
  refine hm_lload_n dX4_mix_0 rfl ?_
  refine hm_lload_n dX4_mix_1 rfl ?_
  refine hm_callS lm_RX4_192 (k4_mixOf l _ _ _) rfl rfl (by decide) (by decide) (Nat.le_of_ble_eq_true rfl) dX4_mix_2 ?_
  rintro _ t9 ⟨rfl, hh9⟩
  rw [hh9]
  clear hh9 t9
  refine hm_lret dX4_mix_5 rfl (by decide) (by decide) ?_
  exact hQ _ _ ⟨rfl, h, cs_fr.rf σ⟩
set_option maxRecDepth 100000 in
theorem k4_air (h : rC α σ) (what : Int32) : hm_Ct l yX4_air cX4_air 2 (some .long) 0 0 0 [.ref 0, .int what] σ (fun r τ => r = some (.long (oAir α what)) ∧ rC α τ ∧ cs_fr σ τ) := by
  have hN := h.N
  have e0 : hm_L σ 0 9 = aL α 2 0 := h.l 2 0 (by show 0 < 2; decide)
  have e1 : hm_L σ 0 10 = aL α 2 1 := h.l 2 1 (by show 1 < 2; decide)
  refine hm_startQ (ini := false) [.ref 0, .int what] (by decide) (by decide) rfl (Nat.le_of_ble_eq_true rfl) (fun Q hQ => ?_)
  refine hm_iload_n dX4_air_0 rfl ?_
  skip
  by_cases c0 : what = 0
  · subst c0
    refine hm_lookup 28 dX4_air_1 (by decide) (off := 27) (by decide) (by decide) ?_
    refine hm_aload_n dX4_air_28 rfl ?_
    refine hm_getL lf_RX4_196 rfl rfl (by first | exact Nat.lt_of_lt_of_le (by decide) hN | assumption | (simp only [hm_n_wI, hm_n_wL, hm_n_wR, hm_n_g] at *; omega)) dX4_air_29 ?_
    rw [e0]
    refine hm_lret dX4_air_32 rfl (by decide) (by decide) ?_
    exact hQ _ _ ⟨rfl, h, cs_fr.rf σ⟩
  · by_cases c1 : what = 1
    · subst c1
      refine hm_lookup 33 dX4_air_1 (by decide) (off := 32) (by decide) (by decide) ?_
      refine hm_aload_n dX4_air_33 rfl ?_
      refine hm_getL lf_RX4_199 rfl rfl (by first | exact Nat.lt_of_lt_of_le (by decide) hN | assumption | (simp only [hm_n_wI, hm_n_wL, hm_n_wR, hm_n_g] at *; omega)) dX4_air_34 ?_
      rw [e1]
      refine hm_lret dX4_air_37 rfl (by decide) (by decide) ?_
      exact hQ _ _ ⟨rfl, h, cs_fr.rf σ⟩
    · refine hm_lookup 38 dX4_air_1 (by decide) (off := 37) ?_ (by decide) ?_
      · show (if (0 : Int) = what.toInt then 27 else if (1 : Int) = what.toInt then 32 else 37) = (37 : Int)
        rw [if_neg (fun e => c0 (Int32.toInt_inj.mp e.symm)), if_neg (fun e => c1 (Int32.toInt_inj.mp e.symm))]
      · skip
        have hc : oAir α what = 0 := by unfold oAir; rw [if_neg c0, if_neg c1]
        refine hm_lconst dX4_air_38 (v := 0) (by decide) ?_
        refine hm_lret dX4_air_39 rfl (by decide) (by decide) ?_
        exact hQ _ _ ⟨by rw [hc], h, cs_fr.rf σ⟩
set_option maxRecDepth 100000 in
theorem k4_beacon (h : rC α σ) (w : sW α) (c pl : Int32) : hm_Ct l yX4_beacon cX4_beacon 3 (some .boolean) 2 0 0 [.ref 0, .int c, .int pl] σ (fun r τ => r = some (.int (oBeacon α c pl)) ∧ rC α τ ∧ cs_fr σ τ) := by
  have hN := h.N
  have hH := h.r.2.1
  have hA := h.r.2.2
  have h4 := w.c4
  refine hm_startQ (ini := false) [.ref 0, .int c, .int pl] (by decide) (by decide) rfl (Nat.le_of_ble_eq_true rfl) (fun Q hQ => ?_)
  refine hm_aload_n dX4_beacon_0 rfl ?_
  refine hm_getR lf_RX4_12 rfl rfl (by first | exact Nat.lt_of_lt_of_le (by decide) hN | assumption | (simp only [hm_n_wI, hm_n_wL, hm_n_wR, hm_n_g] at *; omega)) (hH 0) dX4_beacon_1 ?_
  refine hm_iload_n dX4_beacon_4 rfl ?_
  refine hm_callV lm_RX4_56 (k3_hasCell l h _) rfl rfl rfl rfl (by first | exact Nat.lt_of_lt_of_le (by decide) hN | assumption | (simp only [hm_n_wI, hm_n_wL, hm_n_wR, hm_n_g] at *; omega)) (by decide) (by decide) (Nat.le_of_ble_eq_true rfl) dX4_beacon_5 ?_
  rintro _ t9 ⟨rfl, hh9⟩
  rw [hh9]
  clear hh9 t9
  refine hm_if_eq 43 dX4_beacon_8 (by decide) (fun h8 => ?_) (fun h8 => ?_)
  · skip
    rw [bI_0] at h8
    have hc : (0 : Int32) = oBeacon α c pl := by unfold oBeacon; rw [h8]; rfl
    refine hm_iconst dX4_beacon_43 (v := 0) (by decide) ?_
    refine hm_zret dX4_beacon_44 rfl (by decide) (by decide) (by first | exact Or.inl rfl | exact Or.inr rfl | assumption) ?_
    exact hQ _ _ ⟨by rw [← hc], h, cs_fr.rf σ⟩
  · skip
    rw [bI_0] at h8
    have h8 := b_nf h8
    obtain ⟨a, ha, rfl⟩ := pIn_some (by omega) h8
    refine hm_iload_n dX4_beacon_11 rfl ?_
    refine hm_callS lm_RX4_41 (k4_isPlace l _ _) rfl rfl (by decide) (by decide) (Nat.le_of_ble_eq_true rfl) dX4_beacon_12 ?_
    rintro _ t9 ⟨rfl, hh9⟩
    rw [hh9]
    clear hh9 t9
    refine hm_if_eq 43 dX4_beacon_15 (by decide) (fun h15 => ?_) (fun h15 => ?_)
    · skip
      rw [bI_0] at h15
      have hc : (0 : Int32) = oBeacon α (nI a) pl := by unfold oBeacon; rw [h8, h15]; rfl
      refine hm_iconst dX4_beacon_43 (v := 0) (by decide) ?_
      refine hm_zret dX4_beacon_44 rfl (by decide) (by decide) (by first | exact Or.inl rfl | exact Or.inr rfl | assumption) ?_
      exact hQ _ _ ⟨by rw [← hc], h, cs_fr.rf σ⟩
    · skip
      rw [bI_0] at h15
      have h15 := b_nf h15
      obtain ⟨b, hb, rfl⟩ := pIn_some (by decide) h15
      have hcc : oBeacon α (nI a) (nI b) = bI (pHAt α b a (aN α 2 a)) := by unfold oBeacon; rw [h8, h15, nI_clamp (by omega), nI_clamp (by omega)]; rfl
      refine hm_aload_n dX4_beacon_18 rfl ?_
      refine hm_getR lf_RX4_12 rfl rfl (by first | exact Nat.lt_of_lt_of_le (by decide) hN | assumption | (simp only [hm_n_wI, hm_n_wL, hm_n_wR, hm_n_g] at *; omega)) (hH 0) dX4_beacon_19 ?_
      refine hm_iload_n dX4_beacon_22 rfl ?_
      refine hm_iload_n dX4_beacon_23 rfl ?_
      refine hm_aload_n dX4_beacon_24 rfl ?_
      refine hm_getR lf_RX4_12 rfl rfl (by first | exact Nat.lt_of_lt_of_le (by decide) hN | assumption | (simp only [hm_n_wI, hm_n_wL, hm_n_wR, hm_n_g] at *; omega)) (hH 0) dX4_beacon_25 ?_
      refine hm_getR lf_RX4_185 rfl rfl (by first | exact Nat.lt_of_lt_of_le (by decide) hN | assumption | (simp only [hm_n_wI, hm_n_wL, hm_n_wR, hm_n_g] at *; omega)) (hA 4) dX4_beacon_28 ?_
      refine hm_iload_n dX4_beacon_31 rfl ?_
      refine hm_iald _ rfl (by first | exact Nat.lt_of_lt_of_le (by decide) hN | assumption | (simp only [hm_n_wI, hm_n_wL, hm_n_wR, hm_n_g] at *; omega)) rfl (by omega) (by decide) dX4_beacon_32 ?_
      rw [show hm_I σ 2 a = nI (aN α 2 a) from h.n 2 a (by show a < 4; omega)]
      refine hm_callV lm_RX4_188 (k3_comesDown l h w (by omega) hb (w.bc a)) rfl rfl rfl rfl (by first | exact Nat.lt_of_lt_of_le (by decide) hN | assumption | (simp only [hm_n_wI, hm_n_wL, hm_n_wR, hm_n_g] at *; omega)) (by decide) (by decide) (Nat.le_of_ble_eq_true rfl) dX4_beacon_33 ?_
      rintro _ t9 ⟨rfl, hh9⟩
      rw [hh9]
      clear hh9 t9
      refine hm_if_eq 43 dX4_beacon_36 (by decide) (fun h36 => ?_) (fun h36 => ?_)
      · skip
        rw [bI_0] at h36
        have hc : (0 : Int32) = oBeacon α (nI a) (nI b) := by rw [hcc, h36]; rfl
        refine hm_iconst dX4_beacon_43 (v := 0) (by decide) ?_
        refine hm_zret dX4_beacon_44 rfl (by decide) (by decide) (by first | exact Or.inl rfl | exact Or.inr rfl | assumption) ?_
        exact hQ _ _ ⟨by rw [← hc], h, cs_fr.rf σ⟩
      · skip
        rw [bI_0] at h36
        have hc : (1 : Int32) = oBeacon α (nI a) (nI b) := by rw [hcc, b_nf h36]; rfl
        refine hm_iconst dX4_beacon_39 (v := 1) (by decide) ?_
        refine hm_goto 44 dX4_beacon_40 (by decide) ?_
        refine hm_zret dX4_beacon_44 rfl (by decide) (by decide) (by first | exact Or.inl rfl | exact Or.inr rfl | assumption) ?_
        exact hQ _ _ ⟨by rw [← hc], h, cs_fr.rf σ⟩
set_option maxRecDepth 100000 in
theorem k4_level (h : rC α σ) (w : sW α) (p c ch : Int32) : hm_Ct l yX4_level cX4_level 4 (some .int) 2 0 0 [.ref 0, .int p, .int c, .int ch] σ (fun r τ => r = some (.int (oLevel α p c ch).1) ∧ rC (oLevel α p c ch).2 τ ∧ cs_fr σ τ) := by
  have hN := h.N
  have hH := h.r.2.1
  have h4 := w.c4
  have hp8 := w.p8
  refine hm_startQ (ini := false) [.ref 0, .int p, .int c, .int ch] (by decide) (by decide) rfl (Nat.le_of_ble_eq_true rfl) (fun Q hQ => ?_)
  refine hm_aload_n dX4_level_0 rfl ?_
  refine hm_getR lf_RX4_12 rfl rfl (by first | exact Nat.lt_of_lt_of_le (by decide) hN | assumption | (simp only [hm_n_wI, hm_n_wL, hm_n_wR, hm_n_g] at *; omega)) (hH 0) dX4_level_1 ?_
  refine hm_iload_n dX4_level_4 rfl ?_
  refine hm_callV lm_RX4_63 (k3_hasPortable l h _) rfl rfl rfl rfl (by first | exact Nat.lt_of_lt_of_le (by decide) hN | assumption | (simp only [hm_n_wI, hm_n_wL, hm_n_wR, hm_n_g] at *; omega)) (by decide) (by decide) (Nat.le_of_ble_eq_true rfl) dX4_level_5 ?_
  rintro _ t9 ⟨rfl, hh9⟩
  rw [hh9]
  clear hh9 t9
  refine hm_if_eq 29 dX4_level_8 (by decide) (fun h8 => ?_) (fun h8 => ?_)
  · skip
    rw [bI_0] at h8
    have hc : oLevel α p c ch = pRef α 1 := by unfold oLevel; rw [h8]; rfl
    refine hm_aload_n dX4_level_29 rfl ?_
    refine hm_iconst dX4_level_30 (v := -1) (by decide) ?_
    refine hm_callV lm_RX4_30 (k4_refuse l h (w := 1) (by decide)) rfl rfl rfl rfl (by first | exact Nat.lt_of_lt_of_le (by decide) hN | assumption | (simp only [hm_n_wI, hm_n_wL, hm_n_wR, hm_n_g] at *; omega)) (by decide) (by decide) (Nat.le_of_ble_eq_true rfl) dX4_level_31 ?_
    rintro _ ρ ⟨rfl, hρ, hf⟩
    refine hm_iret dX4_level_34 rfl (by decide) (by decide) ?_
    exact hQ _ _ ⟨by rw [hc], by rw [hc]; exact hρ, hf⟩
  · skip
    rw [bI_0] at h8
    have h8 := b_nf h8
    obtain ⟨a, ha, rfl⟩ := pIn_some (by omega) h8
    refine hm_aload_n dX4_level_11 rfl ?_
    refine hm_getR lf_RX4_12 rfl rfl (by first | exact Nat.lt_of_lt_of_le (by decide) hN | assumption | (simp only [hm_n_wI, hm_n_wL, hm_n_wR, hm_n_g] at *; omega)) (hH 0) dX4_level_12 ?_
    refine hm_iload_n dX4_level_15 rfl ?_
    refine hm_callV lm_RX4_56 (k3_hasCell l h _) rfl rfl rfl rfl (by first | exact Nat.lt_of_lt_of_le (by decide) hN | assumption | (simp only [hm_n_wI, hm_n_wL, hm_n_wR, hm_n_g] at *; omega)) (by decide) (by decide) (Nat.le_of_ble_eq_true rfl) dX4_level_16 ?_
    rintro _ t9 ⟨rfl, hh9⟩
    rw [hh9]
    clear hh9 t9
    refine hm_if_eq 29 dX4_level_19 (by decide) (fun h19 => ?_) (fun h19 => ?_)
    · skip
      rw [bI_0] at h19
      have hc : oLevel α (nI a) c ch = pRef α 1 := by unfold oLevel; rw [h8, h19]; rfl
      refine hm_aload_n dX4_level_29 rfl ?_
      refine hm_iconst dX4_level_30 (v := -1) (by decide) ?_
      refine hm_callV lm_RX4_30 (k4_refuse l h (w := 1) (by decide)) rfl rfl rfl rfl (by first | exact Nat.lt_of_lt_of_le (by decide) hN | assumption | (simp only [hm_n_wI, hm_n_wL, hm_n_wR, hm_n_g] at *; omega)) (by decide) (by decide) (Nat.le_of_ble_eq_true rfl) dX4_level_31 ?_
      rintro _ ρ ⟨rfl, hρ, hf⟩
      refine hm_iret dX4_level_34 rfl (by decide) (by decide) ?_
      exact hQ _ _ ⟨by rw [hc], by rw [hc]; exact hρ, hf⟩
    · skip
      rw [bI_0] at h19
      have h19 := b_nf h19
      obtain ⟨b, hb, rfl⟩ := pIn_some (by omega) h19
      refine hm_iload_n dX4_level_22 rfl ?_
      refine hm_callS lm_RX4_26 (k4_isChannel l _ _) rfl rfl (by decide) (by decide) (Nat.le_of_ble_eq_true rfl) dX4_level_23 ?_
      rintro _ t9 ⟨rfl, hh9⟩
      rw [hh9]
      clear hh9 t9
      refine hm_if_ne 35 dX4_level_26 (by decide) (fun h26 => ?_) (fun h26 => ?_)
      · skip
        rw [bI_0] at h26
        have h26 := b_nf h26
        obtain ⟨d, hd, rfl⟩ := pIn_some (by decide) h26
        have hc : oLevel α (nI a) (nI b) (nI d) = (nI (pLev α a b d), α) := by unfold oLevel; rw [h8, h19, h26, nI_clamp (by omega), nI_clamp (by omega), nI_clamp (by omega)]; rfl
        refine hm_aload_n dX4_level_35 rfl ?_
        refine hm_getR lf_RX4_12 rfl rfl (by first | exact Nat.lt_of_lt_of_le (by decide) hN | assumption | (simp only [hm_n_wI, hm_n_wL, hm_n_wR, hm_n_g] at *; omega)) (hH 0) dX4_level_36 ?_
        refine hm_iload_n dX4_level_39 rfl ?_
        refine hm_aload_n dX4_level_40 rfl ?_
        refine hm_getR lf_RX4_12 rfl rfl (by first | exact Nat.lt_of_lt_of_le (by decide) hN | assumption | (simp only [hm_n_wI, hm_n_wL, hm_n_wR, hm_n_g] at *; omega)) (hH 0) dX4_level_41 ?_
        refine hm_iload_n dX4_level_44 rfl ?_
        refine hm_iload_n dX4_level_45 rfl ?_
        refine hm_callV lm_RX4_171 (k3_noiseBits l h (show a < 8 by omega) (show b < 4 by omega)) rfl rfl rfl rfl (by first | exact Nat.lt_of_lt_of_le (by decide) hN | assumption | (simp only [hm_n_wI, hm_n_wL, hm_n_wR, hm_n_g] at *; omega)) (by decide) (by decide) (Nat.le_of_ble_eq_true rfl) dX4_level_46 ?_
        rintro _ t9 ⟨rfl, hh9⟩
        rw [hh9]
        clear hh9 t9
        refine hm_aload_n dX4_level_49 rfl ?_
        refine hm_getR lf_RX4_12 rfl rfl (by first | exact Nat.lt_of_lt_of_le (by decide) hN | assumption | (simp only [hm_n_wI, hm_n_wL, hm_n_wR, hm_n_g] at *; omega)) (hH 0) dX4_level_50 ?_
        refine hm_iload_n dX4_level_53 rfl ?_
        refine hm_iload_n dX4_level_54 rfl ?_
        refine hm_callV lm_RX4_175 (k3_otherCells l h w (show a < 8 by omega) (show b < 4 by omega)) rfl rfl rfl rfl (by first | exact Nat.lt_of_lt_of_le (by decide) hN | assumption | (simp only [hm_n_wI, hm_n_wL, hm_n_wR, hm_n_g] at *; omega)) (by decide) (by decide) (Nat.le_of_ble_eq_true rfl) dX4_level_55 ?_
        rintro _ t9 ⟨rfl, hh9⟩
        rw [hh9]
        clear hh9 t9
        refine hm_aload_n dX4_level_58 rfl ?_
        refine hm_getR lf_RX4_12 rfl rfl (by first | exact Nat.lt_of_lt_of_le (by decide) hN | assumption | (simp only [hm_n_wI, hm_n_wL, hm_n_wR, hm_n_g] at *; omega)) (hH 0) dX4_level_59 ?_
        refine hm_iload_n dX4_level_62 rfl ?_
        refine hm_iload_n dX4_level_63 rfl ?_
        refine hm_callV lm_RX4_178 (k3_otherPortables l h w (show a < 8 by omega) (show b < 4 by omega)) rfl rfl rfl rfl (by first | exact Nat.lt_of_lt_of_le (by decide) hN | assumption | (simp only [hm_n_wI, hm_n_wL, hm_n_wR, hm_n_g] at *; omega)) (by decide) (by decide) (Nat.le_of_ble_eq_true rfl) dX4_level_64 ?_
        rintro _ t9 ⟨op, rfl, hop, hh9⟩
        rw [hh9]
        clear hh9 t9
        refine hm_callV lm_RX4_181 (k3_levelOn l h w (show a < 8 by omega) (show b < 4 by omega) hd hop) rfl rfl rfl rfl (by first | exact Nat.lt_of_lt_of_le (by decide) hN | assumption | (simp only [hm_n_wI, hm_n_wL, hm_n_wR, hm_n_g] at *; omega)) (by decide) (by decide) (Nat.le_of_ble_eq_true rfl) dX4_level_67 ?_
        rintro _ t9 ⟨rfl, hh9⟩
        rw [hh9]
        clear hh9 t9
        refine hm_iret dX4_level_70 rfl (by decide) (by decide) ?_
        exact hQ _ _ ⟨by rw [hc], by rw [hc]; exact h, cs_fr.rf σ⟩
      · skip
        rw [bI_0] at h26
        have hc : oLevel α (nI a) (nI b) ch = pRef α 1 := by unfold oLevel; rw [h8, h19, h26]; rfl
        refine hm_aload_n dX4_level_29 rfl ?_
        refine hm_iconst dX4_level_30 (v := -1) (by decide) ?_
        refine hm_callV lm_RX4_30 (k4_refuse l h (w := 1) (by decide)) rfl rfl rfl rfl (by first | exact Nat.lt_of_lt_of_le (by decide) hN | assumption | (simp only [hm_n_wI, hm_n_wL, hm_n_wR, hm_n_g] at *; omega)) (by decide) (by decide) (Nat.le_of_ble_eq_true rfl) dX4_level_31 ?_
        rintro _ ρ ⟨rfl, hρ, hf⟩
        refine hm_iret dX4_level_34 rfl (by decide) (by decide) ?_
        exact hQ _ _ ⟨by rw [hc], by rw [hc]; exact hρ, hf⟩
set_option maxRecDepth 100000 in
theorem k4_count (h : rC α σ) (what : Int32) : hm_Ct l yX4_count cX4_count 2 (some .int) 0 0 0 [.ref 0, .int what] σ (fun r τ => r = some (.int (oCount α what)) ∧ rC α τ ∧ cs_fr σ τ) := by
  have hN := h.N
  have hH := h.r.2.1
  refine hm_startQ (ini := false) [.ref 0, .int what] (by decide) (by decide) rfl (Nat.le_of_ble_eq_true rfl) (fun Q hQ => ?_)
  refine hm_iload_n dX4_count_0 rfl ?_
  rcases sw_cases what 0 8 with hsw | ⟨kk, hk1, hk2, hsw⟩
  · skip
    refine hm_tableOut 109 dX4_count_1 hsw (by decide) ?_
    have ne : ∀ k, k ≤ 8 → ¬ what = nI k := fun k hk => sw_ne (lo := 0) hsw (by decide) (by omega) hk
    have hcc : oCount α what = if 11 ≤ what ∧ what ≤ 16 then aI α 5 (what - 10).toNatClampNeg else -9 := by unfold oCount; rw [if_neg (show ¬ what = 0 from ne 0 (by decide)), if_neg (show ¬ what = 1 from ne 1 (by decide)), if_neg (show ¬ what = 2 from ne 2 (by decide)), if_neg (show ¬ what = 3 from ne 3 (by decide)), if_neg (show ¬ what = 4 from ne 4 (by decide)), if_neg (show ¬ what = 5 from ne 5 (by decide)), if_neg (show ¬ what = 6 from ne 6 (by decide)), if_neg (show ¬ what = 7 from ne 7 (by decide)), if_neg (show ¬ what = 8 from ne 8 (by decide))]
    refine hm_iload_n dX4_count_109 rfl ?_
    refine hm_bipush dX4_count_110 (v := 11) (by decide) ?_
    refine hm_icmp_lt 133 dX4_count_112 (by decide) (fun h112 => ?_) (fun h112 => ?_)
    · skip
      have hc : oCount α what = -9 := by rw [hcc, if_neg (fun q => absurd h112 (Int32.not_lt.mpr q.1))]
      refine hm_bipush dX4_count_133 (v := -9) (by decide) ?_
      refine hm_iret dX4_count_135 rfl (by decide) (by decide) ?_
      exact hQ _ _ ⟨by rw [hc], h, cs_fr.rf σ⟩
    · skip
      refine hm_iload_n dX4_count_115 rfl ?_
      refine hm_bipush dX4_count_116 (v := 16) (by decide) ?_
      refine hm_icmp_gt 133 dX4_count_118 (by decide) (fun h118 => ?_) (fun h118 => ?_)
      · skip
        have hc : oCount α what = -9 := by rw [hcc, if_neg (fun q => absurd h118 (Int32.not_lt.mpr q.2))]
        refine hm_bipush dX4_count_133 (v := -9) (by decide) ?_
        refine hm_iret dX4_count_135 rfl (by decide) (by decide) ?_
        exact hQ _ _ ⟨by rw [hc], h, cs_fr.rf σ⟩
      · skip
        have hb : 11 ≤ what ∧ what ≤ 16 := ⟨Int32.not_lt.mp h112, Int32.not_lt.mp h118⟩
        obtain ⟨k, hk, rfl⟩ := nI_of2 (M := 16) (n := 16) (by decide) (Int32.not_lt.mpr (Int32.le_trans (by decide) hb.1)) hb.2
        have hk11 : 11 ≤ k := (nI_leI (a := 11) (by decide) (by omega)).mp hb.1
        have hs : nI k - 10 = nI (k - 10) := pk_sub (b := 10) (by omega)
        have hc : oCount α (nI k) = aI α 5 (k - 10) := by rw [hcc, if_pos hb, hs, nI_clamp (by omega)]
        refine hm_aload_n dX4_count_121 rfl ?_
        refine hm_getR lf_RX4_22 rfl rfl (by first | exact Nat.lt_of_lt_of_le (by decide) hN | assumption | (simp only [hm_n_wI, hm_n_wL, hm_n_wR, hm_n_g] at *; omega)) (hH 2) dX4_count_122 ?_
        refine hm_iload_n dX4_count_125 rfl ?_
        refine hm_bipush dX4_count_126 (v := 10) (by decide) ?_
        refine hm_isub dX4_count_128 ?_
        refine hm_iald (k - 10) rfl (by first | exact Nat.lt_of_lt_of_le (by decide) hN | assumption | (simp only [hm_n_wI, hm_n_wL, hm_n_wR, hm_n_g] at *; omega)) hs (by omega) (by decide) dX4_count_129 ?_
        rw [show hm_I σ 26 (k - 10) = aI α 5 (k - 10) from h.i 5 (k - 10) (by show _ < 7; omega)]
        refine hm_goto 135 dX4_count_130 (by decide) ?_
        refine hm_iret dX4_count_135 rfl (by decide) (by decide) ?_
        exact hQ _ _ ⟨by rw [hc], h, cs_fr.rf σ⟩
  · skip
    rcases (show kk = 0 ∨ kk = 1 ∨ kk = 2 ∨ kk = 3 ∨ kk = 4 ∨ kk = 5 ∨ kk = 6 ∨ kk = 7 ∨ kk = 8 by omega) with rfl | rfl | rfl | rfl | rfl | rfl | rfl | rfl | rfl
    · subst hsw
      refine hm_tableIn 52 dX4_count_1 (by decide) (by decide) (by rfl) (by decide) ?_
      refine hm_aload_n dX4_count_52 rfl ?_
      refine hm_getI lf_RX4_84 rfl rfl (by first | exact Nat.lt_of_lt_of_le (by decide) hN | assumption | (simp only [hm_n_wI, hm_n_wL, hm_n_wR, hm_n_g] at *; omega)) dX4_count_53 ?_
      refine hm_iret dX4_count_56 rfl (by decide) (by decide) ?_
      exact hQ _ _ ⟨congrArg (fun z => some (Value.int z)) h.tm, h, cs_fr.rf σ⟩
    · subst hsw
      refine hm_tableIn 57 dX4_count_1 (by decide) (by decide) (by rfl) (by decide) ?_
      refine hm_aload_n dX4_count_57 rfl ?_
      refine hm_getR lf_RX4_12 rfl rfl (by first | exact Nat.lt_of_lt_of_le (by decide) hN | assumption | (simp only [hm_n_wI, hm_n_wL, hm_n_wR, hm_n_g] at *; omega)) (hH 0) dX4_count_58 ?_
      refine hm_getI lf_RX4_34 rfl rfl (by first | exact Nat.lt_of_lt_of_le (by decide) hN | assumption | (simp only [hm_n_wI, hm_n_wL, hm_n_wR, hm_n_g] at *; omega)) dX4_count_61 ?_
      refine hm_iret dX4_count_64 rfl (by decide) (by decide) ?_
      exact hQ _ _ ⟨congrArg (fun z => some (Value.int z)) (h.n 0 0 (by show 0 < 1; decide)), h, cs_fr.rf σ⟩
    · subst hsw
      refine hm_tableIn 65 dX4_count_1 (by decide) (by decide) (by rfl) (by decide) ?_
      refine hm_aload_n dX4_count_65 rfl ?_
      refine hm_getR lf_RX4_12 rfl rfl (by first | exact Nat.lt_of_lt_of_le (by decide) hN | assumption | (simp only [hm_n_wI, hm_n_wL, hm_n_wR, hm_n_g] at *; omega)) (hH 0) dX4_count_66 ?_
      refine hm_getI lf_RX4_44 rfl rfl (by first | exact Nat.lt_of_lt_of_le (by decide) hN | assumption | (simp only [hm_n_wI, hm_n_wL, hm_n_wR, hm_n_g] at *; omega)) dX4_count_69 ?_
      refine hm_iret dX4_count_72 rfl (by decide) (by decide) ?_
      exact hQ _ _ ⟨congrArg (fun z => some (Value.int z)) h.np, h, cs_fr.rf σ⟩
    · subst hsw
      refine hm_tableIn 73 dX4_count_1 (by decide) (by decide) (by rfl) (by decide) ?_
      refine hm_aload_n dX4_count_73 rfl ?_
      refine hm_getR lf_RX4_12 rfl rfl (by first | exact Nat.lt_of_lt_of_le (by decide) hN | assumption | (simp only [hm_n_wI, hm_n_wL, hm_n_wR, hm_n_g] at *; omega)) (hH 0) dX4_count_74 ?_
      refine hm_getI lf_RX4_147 rfl rfl (by first | exact Nat.lt_of_lt_of_le (by decide) hN | assumption | (simp only [hm_n_wI, hm_n_wL, hm_n_wR, hm_n_g] at *; omega)) dX4_count_77 ?_
      refine hm_iret dX4_count_80 rfl (by decide) (by decide) ?_
      exact hQ _ _ ⟨congrArg (fun z => some (Value.int z)) h.bl, h, cs_fr.rf σ⟩
    · subst hsw
      refine hm_tableIn 81 dX4_count_1 (by decide) (by decide) (by rfl) (by decide) ?_
      refine hm_aload_n dX4_count_81 rfl ?_
      refine hm_getR lf_RX4_12 rfl rfl (by first | exact Nat.lt_of_lt_of_le (by decide) hN | assumption | (simp only [hm_n_wI, hm_n_wL, hm_n_wR, hm_n_g] at *; omega)) (hH 0) dX4_count_82 ?_
      refine hm_getI lf_RX4_202 rfl rfl (by first | exact Nat.lt_of_lt_of_le (by decide) hN | assumption | (simp only [hm_n_wI, hm_n_wL, hm_n_wR, hm_n_g] at *; omega)) dX4_count_85 ?_
      refine hm_iret dX4_count_88 rfl (by decide) (by decide) ?_
      exact hQ _ _ ⟨congrArg (fun z => some (Value.int z)) (h.i 4 0 (by show 0 < 6; decide)), h, cs_fr.rf σ⟩
    · subst hsw
      refine hm_tableIn 89 dX4_count_1 (by decide) (by decide) (by rfl) (by decide) ?_
      refine hm_aload_n dX4_count_89 rfl ?_
      refine hm_getI lf_RX4_94 rfl rfl (by first | exact Nat.lt_of_lt_of_le (by decide) hN | assumption | (simp only [hm_n_wI, hm_n_wL, hm_n_wR, hm_n_g] at *; omega)) dX4_count_90 ?_
      refine hm_iret dX4_count_93 rfl (by decide) (by decide) ?_
      exact hQ _ _ ⟨congrArg (fun z => some (Value.int z)) (h.i 4 1 (by show 1 < 6; decide)), h, cs_fr.rf σ⟩
    · subst hsw
      refine hm_tableIn 94 dX4_count_1 (by decide) (by decide) (by rfl) (by decide) ?_
      refine hm_aload_n dX4_count_94 rfl ?_
      refine hm_getI lf_RX4_205 rfl rfl (by first | exact Nat.lt_of_lt_of_le (by decide) hN | assumption | (simp only [hm_n_wI, hm_n_wL, hm_n_wR, hm_n_g] at *; omega)) dX4_count_95 ?_
      refine hm_iret dX4_count_98 rfl (by decide) (by decide) ?_
      exact hQ _ _ ⟨congrArg (fun z => some (Value.int z)) (h.i 4 2 (by show 2 < 6; decide)), h, cs_fr.rf σ⟩
    · subst hsw
      refine hm_tableIn 99 dX4_count_1 (by decide) (by decide) (by rfl) (by decide) ?_
      refine hm_aload_n dX4_count_99 rfl ?_
      refine hm_getI lf_RX4_208 rfl rfl (by first | exact Nat.lt_of_lt_of_le (by decide) hN | assumption | (simp only [hm_n_wI, hm_n_wL, hm_n_wR, hm_n_g] at *; omega)) dX4_count_100 ?_
      refine hm_iret dX4_count_103 rfl (by decide) (by decide) ?_
      exact hQ _ _ ⟨congrArg (fun z => some (Value.int z)) (h.i 4 3 (by show 3 < 6; decide)), h, cs_fr.rf σ⟩
    · subst hsw
      refine hm_tableIn 104 dX4_count_1 (by decide) (by decide) (by rfl) (by decide) ?_
      refine hm_aload_n dX4_count_104 rfl ?_
      refine hm_getI lf_RX4_211 rfl rfl (by first | exact Nat.lt_of_lt_of_le (by decide) hN | assumption | (simp only [hm_n_wI, hm_n_wL, hm_n_wR, hm_n_g] at *; omega)) dX4_count_105 ?_
      refine hm_iret dX4_count_108 rfl (by decide) (by decide) ?_
      exact hQ _ _ ⟨congrArg (fun z => some (Value.int z)) (h.i 4 4 (by show 4 < 6; decide)), h, cs_fr.rf σ⟩
set_option maxRecDepth 100000 in
theorem k4_bearer (h : rC α σ) (w : sW α) (i what : Int32) : hm_Ct l yX4_bearer cX4_bearer 4 (some .int) 0 0 0 [.ref 0, .int i, .int what] σ (fun r τ => r = some (.int (oBearer α i what)) ∧ rC α τ ∧ cs_fr σ τ) := by
  have hN := h.N
  have hH := h.r.2.1
  have hA := h.r.2.2
  have hb1 := h.bl
  have hlen := w.len
  refine hm_startQ (ini := false) [.ref 0, .int i, .int what, hm_u] (by decide) (by decide) rfl (Nat.le_of_ble_eq_true rfl) (fun Q hQ => ?_)
  have jn : pIn i (aB α).length = false → oBearer α i what = -9 := fun hz => by unfold oBearer; rw [hz]; rfl
  refine hm_iload_n dX4_bearer_0 rfl ?_
  refine hm_if_lt 15 dX4_bearer_1 (by decide) (fun h1 => ?_) (fun h1 => ?_)
  · skip
    have hc := jn (by unfold pIn; rw [decide_eq_false (Int32.not_le.mpr h1)]; rfl)
    refine hm_bipush dX4_bearer_15 (v := -9) (by decide) ?_
    refine hm_iret dX4_bearer_17 rfl (by decide) (by decide) ?_
    exact hQ _ _ ⟨by rw [hc], h, cs_fr.rf σ⟩
  · skip
    refine hm_iload_n dX4_bearer_4 rfl ?_
    refine hm_aload_n dX4_bearer_5 rfl ?_
    refine hm_getR lf_RX4_12 rfl rfl (by first | exact Nat.lt_of_lt_of_le (by decide) hN | assumption | (simp only [hm_n_wI, hm_n_wL, hm_n_wR, hm_n_g] at *; omega)) (hH 0) dX4_bearer_6 ?_
    refine hm_getI lf_RX4_147 rfl rfl (by first | exact Nat.lt_of_lt_of_le (by decide) hN | assumption | (simp only [hm_n_wI, hm_n_wL, hm_n_wR, hm_n_g] at *; omega)) dX4_bearer_9 ?_
    rw [hb1]
    refine hm_icmp_lt 18 dX4_bearer_12 (by decide) (fun h12 => ?_) (fun h12 => ?_)
    · skip
      have hin : pIn i (aB α).length = true := by unfold pIn; rw [decide_eq_true (Int32.not_lt.mp h1), decide_eq_true h12]; rfl
      obtain ⟨b, hb, rfl⟩ := pIn_some (by omega) hin
      obtain ⟨x, hx⟩ : ∃ x, (aB α)[b]? = some x := ⟨_, List.getElem?_eq_getElem hb⟩
      obtain ⟨a, hR, ha, hSa, e1, e2, e3, e4, e5⟩ := h.ba hx
      have hcc : ∀ y, oBearer α (nI b) y = (if y = 0 then nI (bOf x) else if y = 1 then nI (bAt x) else if y = 2 then nI (bCh x) else if y = 3 then bFl x else if y = 4 then bI (bGd x) else -9) := fun y => by unfold oBearer; rw [hin, nI_clamp (by omega), hx]; rfl
      refine hm_aload_n dX4_bearer_18 rfl ?_
      refine hm_getR lf_RX4_12 rfl rfl (by first | exact Nat.lt_of_lt_of_le (by decide) hN | assumption | (simp only [hm_n_wI, hm_n_wL, hm_n_wR, hm_n_g] at *; omega)) (hH 0) dX4_bearer_19 ?_
      refine hm_getR lf_RX4_150 rfl rfl (by first | exact Nat.lt_of_lt_of_le (by decide) hN | assumption | (simp only [hm_n_wI, hm_n_wL, hm_n_wR, hm_n_g] at *; omega)) (hA 10) dX4_bearer_22 ?_
      refine hm_iload_n dX4_bearer_25 rfl ?_
      refine hm_aald _ (.ref a) rfl (by decide) (by first | exact Nat.lt_of_lt_of_le (by decide) hN | assumption | (simp only [hm_n_wI, hm_n_wL, hm_n_wR, hm_n_g] at *; omega)) rfl (by omega) (by decide) (Or.inr ⟨a, rfl, hR⟩) dX4_bearer_26 ?_
      refine hm_astore_n dX4_bearer_27 (by decide) rfl ?_
      refine hm_iload_n dX4_bearer_28 rfl ?_
      rcases sw_cases what 0 4 with hsw | ⟨kk, hk1, hk2, hsw⟩
      · skip
        refine hm_tableOut 97 dX4_bearer_29 hsw (by decide) ?_
        have ne : ∀ k, k ≤ 4 → ¬ what = nI k := fun k hk => sw_ne (lo := 0) hsw (by decide) (by omega) hk
        have hc9 : oBearer α (nI b) what = -9 := by rw [hcc, if_neg (show ¬ what = 0 from ne 0 (by decide)), if_neg (show ¬ what = 1 from ne 1 (by decide)), if_neg (show ¬ what = 2 from ne 2 (by decide)), if_neg (show ¬ what = 3 from ne 3 (by decide)), if_neg (show ¬ what = 4 from ne 4 (by decide))]
        refine hm_bipush dX4_bearer_97 (v := -9) (by decide) ?_
        refine hm_iret dX4_bearer_99 rfl (by decide) (by decide) ?_
        exact hQ _ _ ⟨by rw [hc9], h, cs_fr.rf σ⟩
      · skip
        rcases (show kk = 0 ∨ kk = 1 ∨ kk = 2 ∨ kk = 3 ∨ kk = 4 by omega) with rfl | rfl | rfl | rfl | rfl
        · subst hsw
          refine hm_tableIn 64 dX4_bearer_29 (by decide) (by decide) (by rfl) (by decide) ?_
          refine hm_aload_n dX4_bearer_64 rfl ?_
          refine hm_getI lf_RX4_154 rfl hSa (by omega) dX4_bearer_65 ?_
          refine hm_iret dX4_bearer_68 rfl (by decide) (by decide) ?_
          exact hQ _ _ ⟨by rw [hcc, e1] <;> rfl, h, cs_fr.rf σ⟩
        · subst hsw
          refine hm_tableIn 69 dX4_bearer_29 (by decide) (by decide) (by rfl) (by decide) ?_
          refine hm_aload_n dX4_bearer_69 rfl ?_
          refine hm_getI lf_RX4_159 rfl hSa (by omega) dX4_bearer_70 ?_
          refine hm_iret dX4_bearer_73 rfl (by decide) (by decide) ?_
          exact hQ _ _ ⟨by rw [hcc, e2] <;> rfl, h, cs_fr.rf σ⟩
        · subst hsw
          refine hm_tableIn 74 dX4_bearer_29 (by decide) (by decide) (by rfl) (by decide) ?_
          refine hm_aload_n dX4_bearer_74 rfl ?_
          refine hm_getI lf_RX4_162 rfl hSa (by omega) dX4_bearer_75 ?_
          refine hm_iret dX4_bearer_78 rfl (by decide) (by decide) ?_
          exact hQ _ _ ⟨by rw [hcc, e3] <;> rfl, h, cs_fr.rf σ⟩
        · subst hsw
          refine hm_tableIn 79 dX4_bearer_29 (by decide) (by decide) (by rfl) (by decide) ?_
          refine hm_aload_n dX4_bearer_79 rfl ?_
          refine hm_getI lf_RX4_165 rfl hSa (by omega) dX4_bearer_80 ?_
          refine hm_iret dX4_bearer_83 rfl (by decide) (by decide) ?_
          exact hQ _ _ ⟨by rw [hcc, e4] <;> rfl, h, cs_fr.rf σ⟩
        · subst hsw
          refine hm_tableIn 84 dX4_bearer_29 (by decide) (by decide) (by rfl) (by decide) ?_
          refine hm_aload_n dX4_bearer_84 rfl ?_
          refine hm_getI lf_RX4_168 rfl hSa (by omega) dX4_bearer_85 ?_
          rw [e5]
          refine hm_if_eq 95 dX4_bearer_88 (by decide) (fun h88 => ?_) (fun h88 => ?_)
          · skip
            rw [bI_0] at h88
            have hc9 := hcc 4
            rw [h88] at hc9
            refine hm_iconst dX4_bearer_95 (v := 0) (by decide) ?_
            refine hm_iret dX4_bearer_96 rfl (by decide) (by decide) ?_
            exact hQ _ _ ⟨congrArg (fun z => some (Value.int z)) (show _ = oBearer α (nI b) _ from hc9.symm), h, cs_fr.rf σ⟩
          · skip
            rw [bI_0] at h88
            have hc9 := hcc 4
            rw [b_nf h88] at hc9
            refine hm_iconst dX4_bearer_91 (v := 1) (by decide) ?_
            refine hm_goto 96 dX4_bearer_92 (by decide) ?_
            refine hm_iret dX4_bearer_96 rfl (by decide) (by decide) ?_
            exact hQ _ _ ⟨congrArg (fun z => some (Value.int z)) (show _ = oBearer α (nI b) _ from hc9.symm), h, cs_fr.rf σ⟩
    · skip
      have hc := jn (by unfold pIn; rw [decide_eq_false h12, Bool.and_false])
      refine hm_bipush dX4_bearer_15 (v := -9) (by decide) ?_
      refine hm_iret dX4_bearer_17 rfl (by decide) (by decide) ?_
      exact hQ _ _ ⟨by rw [hc], h, cs_fr.rf σ⟩
set_option maxRecDepth 100000 in
theorem k4_portableOf (h : rC α σ) (w : sW α) (p what : Int32) : hm_Ct l yX4_portableOf cX4_portableOf 4 (some .int) 2 0 0 [.ref 0, .int p, .int what] σ (fun r τ => r = some (.int (oPOf α p what)) ∧ rC α τ ∧ cs_fr σ τ) := by
  have hN := h.N
  have hH := h.r.2.1
  have hA := h.r.2.2
  have h8 := w.p8
  have et := h.tm
  refine hm_startQ (ini := false) [.ref 0, .int p, .int what, hm_u] (by decide) (by decide) rfl (Nat.le_of_ble_eq_true rfl) (fun Q hQ => ?_)
  cases hin : pIn p (nPort α) with
  | false =>
    have hc : oPOf α p what = -9 := by unfold oPOf; rw [hin]; rfl
    refine hm_aload_n dX4_portableOf_0 rfl ?_
    refine hm_iload_n dX4_portableOf_1 rfl ?_
    refine hm_callV lm_RX4_69 (k4_findN l h hin) rfl rfl rfl rfl (by first | exact Nat.lt_of_lt_of_le (by decide) hN | assumption | (simp only [hm_n_wI, hm_n_wL, hm_n_wR, hm_n_g] at *; omega)) (by decide) (by decide) (Nat.le_of_ble_eq_true rfl) dX4_portableOf_2 ?_
    rintro _ t9 ⟨rfl, hh9⟩
    rw [hh9]
    clear hh9 t9
    refine hm_astoreN_n dX4_portableOf_5 (by decide) rfl ?_
    refine hm_aloadN_n dX4_portableOf_6 rfl ?_
    refine hm_ifnonnullN dX4_portableOf_7 ?_
    refine hm_bipush dX4_portableOf_10 (v := -9) (by decide) ?_
    refine hm_iret dX4_portableOf_12 rfl (by decide) (by decide) ?_
    exact hQ _ _ ⟨by rw [hc], h, cs_fr.rf σ⟩
  | true =>
    obtain ⟨a, ha, rfl⟩ := pIn_some (by omega) hin
    have ha8 : a < 8 := by omega
    have hn := h.pn ha
    have hs := S_pA0 a
    have hP := h.p ha
    obtain ⟨f0, hb0⟩ := hP.2.2.2.1
    obtain ⟨f1, hb1⟩ := hP.2.2.2.2.1
    have hR1 := hP.2.1.1
    have hR3 := hP.2.1.2.1
    have c1 := hb0.2.2.1
    have c2 := hb1.2.2.1
    have hcc : ∀ y, oPOf α (nI a) y = (if y = 0 then aI α 1 a else if y = 1 then nI (aN α 3 a) else if y = 2 then aI α 2 a else if y = 3 then nI (pNb α a) else if y = 4 then bI (pHo α a) else if y = 5 then nI (aQ α 0 a).length else if y = 6 then nI (aQ α 1 a).length else if y = 7 then nI (aN α 7 a) else if y = 8 then aI α 0 a else if y = 9 then (if pPend (aI α 1 a) then nI (aN α 6 0) - aI α 3 a else 0) else -9) := fun y => by unfold oPOf; rw [hin, nI_clamp (by omega)]; rfl
    refine hm_aload_n dX4_portableOf_0 rfl ?_
    refine hm_iload_n dX4_portableOf_1 rfl ?_
    refine hm_callV lm_RX4_69 (k4_find l h w ha) rfl rfl rfl rfl (by first | exact Nat.lt_of_lt_of_le (by decide) hN | assumption | (simp only [hm_n_wI, hm_n_wL, hm_n_wR, hm_n_g] at *; omega)) (by decide) (by decide) (Nat.le_of_ble_eq_true rfl) dX4_portableOf_2 ?_
    rintro _ t9 ⟨rfl, hh9⟩
    rw [hh9]
    clear hh9 t9
    refine hm_astore_n dX4_portableOf_5 (by decide) rfl ?_
    refine hm_aload_n dX4_portableOf_6 rfl ?_
    refine hm_ifnonnull 13 dX4_portableOf_7 (by decide) ?_
    refine hm_iload_n dX4_portableOf_13 rfl ?_
    rcases sw_cases what 0 9 with hsw | ⟨kk, hk1, hk2, hsw⟩
    · skip
      refine hm_tableOut 169 dX4_portableOf_14 hsw (by decide) ?_
      have ne : ∀ k, k ≤ 9 → ¬ what = nI k := fun k hk => sw_ne (lo := 0) hsw (by decide) (by omega) hk
      have hc9 : oPOf α (nI a) what = -9 := by rw [hcc, if_neg (show ¬ what = 0 from ne 0 (by decide)), if_neg (show ¬ what = 1 from ne 1 (by decide)), if_neg (show ¬ what = 2 from ne 2 (by decide)), if_neg (show ¬ what = 3 from ne 3 (by decide)), if_neg (show ¬ what = 4 from ne 4 (by decide)), if_neg (show ¬ what = 5 from ne 5 (by decide)), if_neg (show ¬ what = 6 from ne 6 (by decide)), if_neg (show ¬ what = 7 from ne 7 (by decide)), if_neg (show ¬ what = 8 from ne 8 (by decide)), if_neg (show ¬ what = 9 from ne 9 (by decide))]
      refine hm_bipush dX4_portableOf_169 (v := -9) (by decide) ?_
      refine hm_iret dX4_portableOf_171 rfl (by decide) (by decide) ?_
      exact hQ _ _ ⟨by rw [hc9], h, cs_fr.rf σ⟩
    · skip
      rcases (show kk = 0 ∨ kk = 1 ∨ kk = 2 ∨ kk = 3 ∨ kk = 4 ∨ kk = 5 ∨ kk = 6 ∨ kk = 7 ∨ kk = 8 ∨ kk = 9 by omega) with rfl | rfl | rfl | rfl | rfl | rfl | rfl | rfl | rfl | rfl
      · subst hsw
        refine hm_tableIn 68 dX4_portableOf_14 (by decide) (by decide) (by rfl) (by decide) ?_
        refine hm_aload_n dX4_portableOf_68 rfl ?_
        refine hm_getI lf_RX4_73 rfl hs (by omega) dX4_portableOf_69 ?_
        refine hm_iret dX4_portableOf_72 rfl (by decide) (by decide) ?_
        exact hQ _ _ ⟨by rw [hcc, show hm_I σ (pA a) 4 = aI α 1 a from h.i 1 a ha] <;> rfl, h, cs_fr.rf σ⟩
      · subst hsw
        refine hm_tableIn 73 dX4_portableOf_14 (by decide) (by decide) (by rfl) (by decide) ?_
        refine hm_aload_n dX4_portableOf_73 rfl ?_
        refine hm_getR lf_RX4_12 rfl rfl (by first | exact Nat.lt_of_lt_of_le (by decide) hN | assumption | (simp only [hm_n_wI, hm_n_wL, hm_n_wR, hm_n_g] at *; omega)) (hH 0) dX4_portableOf_74 ?_
        refine hm_getR lf_RX4_66 rfl rfl (by first | exact Nat.lt_of_lt_of_le (by decide) hN | assumption | (simp only [hm_n_wI, hm_n_wL, hm_n_wR, hm_n_g] at *; omega)) (hA 5) dX4_portableOf_77 ?_
        refine hm_iload_n dX4_portableOf_80 rfl ?_
        refine hm_iald _ rfl (by first | exact Nat.lt_of_lt_of_le (by decide) hN | assumption | (simp only [hm_n_wI, hm_n_wL, hm_n_wR, hm_n_g] at *; omega)) rfl (by omega) (by decide) dX4_portableOf_81 ?_
        refine hm_iret dX4_portableOf_82 rfl (by decide) (by decide) ?_
        exact hQ _ _ ⟨by rw [hcc, show hm_I σ 3 a = nI (aN α 3 a) from h.n 3 a ha8] <;> rfl, h, cs_fr.rf σ⟩
      · subst hsw
        refine hm_tableIn 83 dX4_portableOf_14 (by decide) (by decide) (by rfl) (by decide) ?_
        refine hm_aload_n dX4_portableOf_83 rfl ?_
        refine hm_getI lf_RX4_91 rfl hs (by omega) dX4_portableOf_84 ?_
        refine hm_iret dX4_portableOf_87 rfl (by decide) (by decide) ?_
        exact hQ _ _ ⟨by rw [hcc, show hm_I σ (pA a) 5 = aI α 2 a from h.i 2 a ha] <;> rfl, h, cs_fr.rf σ⟩
      · subst hsw
        refine hm_tableIn 88 dX4_portableOf_14 (by decide) (by decide) (by rfl) (by decide) ?_
        refine hm_aload_n dX4_portableOf_88 rfl ?_
        refine hm_getR lf_RX4_12 rfl rfl (by first | exact Nat.lt_of_lt_of_le (by decide) hN | assumption | (simp only [hm_n_wI, hm_n_wL, hm_n_wR, hm_n_g] at *; omega)) (hH 0) dX4_portableOf_89 ?_
        refine hm_iload_n dX4_portableOf_92 rfl ?_
        refine hm_callV lm_RX4_128 (k3_bearersOf l h w ha8) rfl rfl rfl rfl (by first | exact Nat.lt_of_lt_of_le (by decide) hN | assumption | (simp only [hm_n_wI, hm_n_wL, hm_n_wR, hm_n_g] at *; omega)) (by decide) (by decide) (Nat.le_of_ble_eq_true rfl) dX4_portableOf_93 ?_
        rintro _ t9 ⟨rfl, hh9⟩
        rw [hh9]
        clear hh9 t9
        refine hm_iret dX4_portableOf_96 rfl (by decide) (by decide) ?_
        exact hQ _ _ ⟨by rw [hcc] <;> rfl, h, cs_fr.rf σ⟩
      · subst hsw
        refine hm_tableIn 97 dX4_portableOf_14 (by decide) (by decide) (by rfl) (by decide) ?_
        refine hm_aload_n dX4_portableOf_97 rfl ?_
        refine hm_getR lf_RX4_12 rfl rfl (by first | exact Nat.lt_of_lt_of_le (by decide) hN | assumption | (simp only [hm_n_wI, hm_n_wL, hm_n_wR, hm_n_g] at *; omega)) (hH 0) dX4_portableOf_98 ?_
        refine hm_iload_n dX4_portableOf_101 rfl ?_
        refine hm_callV lm_RX4_131 (k3_handsOver l h w ha8) rfl rfl rfl rfl (by first | exact Nat.lt_of_lt_of_le (by decide) hN | assumption | (simp only [hm_n_wI, hm_n_wL, hm_n_wR, hm_n_g] at *; omega)) (by decide) (by decide) (Nat.le_of_ble_eq_true rfl) dX4_portableOf_102 ?_
        rintro _ t9 ⟨rfl, hh9⟩
        rw [hh9]
        clear hh9 t9
        refine hm_if_eq 112 dX4_portableOf_105 (by decide) (fun h105 => ?_) (fun h105 => ?_)
        · skip
          rw [bI_0] at h105
          have hc9 := hcc 4
          rw [h105] at hc9
          refine hm_iconst dX4_portableOf_112 (v := 0) (by decide) ?_
          refine hm_iret dX4_portableOf_113 rfl (by decide) (by decide) ?_
          exact hQ _ _ ⟨congrArg (fun z => some (Value.int z)) (show _ = oPOf α (nI a) _ from hc9.symm), h, cs_fr.rf σ⟩
        · skip
          rw [bI_0] at h105
          have hc9 := hcc 4
          rw [b_nf h105] at hc9
          refine hm_iconst dX4_portableOf_108 (v := 1) (by decide) ?_
          refine hm_goto 113 dX4_portableOf_109 (by decide) ?_
          refine hm_iret dX4_portableOf_113 rfl (by decide) (by decide) ?_
          exact hQ _ _ ⟨congrArg (fun z => some (Value.int z)) (show _ = oPOf α (nI a) _ from hc9.symm), h, cs_fr.rf σ⟩
      · subst hsw
        refine hm_tableIn 114 dX4_portableOf_14 (by decide) (by decide) (by rfl) (by decide) ?_
        refine hm_aload_n dX4_portableOf_114 rfl ?_
        refine hm_getR lf_RX4_101 rfl hs (by omega) hR1 dX4_portableOf_115 ?_
        refine hm_getI lf_RX4_111 rfl (S_pA1 a) (by omega) dX4_portableOf_118 ?_
        refine hm_iret dX4_portableOf_121 rfl (by decide) (by decide) ?_
        exact hQ _ _ ⟨by rw [hcc, c1] <;> rfl, h, cs_fr.rf σ⟩
      · subst hsw
        refine hm_tableIn 122 dX4_portableOf_14 (by decide) (by decide) (by rfl) (by decide) ?_
        refine hm_aload_n dX4_portableOf_122 rfl ?_
        refine hm_getR lf_RX4_134 rfl hs (by omega) hR3 dX4_portableOf_123 ?_
        refine hm_getI lf_RX4_111 rfl (S_pA3 a) (by omega) dX4_portableOf_126 ?_
        refine hm_iret dX4_portableOf_129 rfl (by decide) (by decide) ?_
        exact hQ _ _ ⟨by rw [hcc, c2] <;> rfl, h, cs_fr.rf σ⟩
      · subst hsw
        refine hm_tableIn 130 dX4_portableOf_14 (by decide) (by decide) (by rfl) (by decide) ?_
        refine hm_aload_n dX4_portableOf_130 rfl ?_
        refine hm_getI lf_RX4_137 rfl hs (by omega) dX4_portableOf_131 ?_
        refine hm_iret dX4_portableOf_134 rfl (by decide) (by decide) ?_
        exact hQ _ _ ⟨by rw [hcc, show hm_I σ (pA a) 8 = nI (aN α 7 a) from h.n 7 a ha] <;> rfl, h, cs_fr.rf σ⟩
      · subst hsw
        refine hm_tableIn 135 dX4_portableOf_14 (by decide) (by decide) (by rfl) (by decide) ?_
        refine hm_aload_n dX4_portableOf_135 rfl ?_
        refine hm_getI lf_RX4_80 rfl hs (by omega) dX4_portableOf_136 ?_
        rw [show hm_I σ (pA a) 3 = aI α 0 a from h.i 0 a ha]
        refine hm_if_eq 146 dX4_portableOf_139 (by decide) (fun h139 => ?_) (fun h139 => ?_)
        · skip
          have hc9 := hcc 8
          have h139 : aI α 0 a = 0 := h139
          rw [h139] at hc9
          refine hm_iconst dX4_portableOf_146 (v := 0) (by decide) ?_
          refine hm_iret dX4_portableOf_147 rfl (by decide) (by decide) ?_
          exact hQ _ _ ⟨congrArg (fun z => some (Value.int z)) (show _ = oPOf α (nI a) _ from hc9.symm), h, cs_fr.rf σ⟩
        · skip
          have hc9 := hcc 8
          have h139 : aI α 0 a = 1 := (w.en a).resolve_left h139
          rw [h139] at hc9
          refine hm_iconst dX4_portableOf_142 (v := 1) (by decide) ?_
          refine hm_goto 147 dX4_portableOf_143 (by decide) ?_
          refine hm_iret dX4_portableOf_147 rfl (by decide) (by decide) ?_
          exact hQ _ _ ⟨congrArg (fun z => some (Value.int z)) (show _ = oPOf α (nI a) _ from hc9.symm), h, cs_fr.rf σ⟩
      · subst hsw
        refine hm_tableIn 148 dX4_portableOf_14 (by decide) (by decide) (by rfl) (by decide) ?_
        refine hm_aload_n dX4_portableOf_148 rfl ?_
        refine hm_callV lm_RX4_140 (k2_isPending l h ha) rfl rfl hs rfl (by omega) (by decide) (by decide) (Nat.le_of_ble_eq_true rfl) dX4_portableOf_149 ?_
        rintro _ t9 ⟨rfl, hh9⟩
        rw [hh9]
        clear hh9 t9
        refine hm_if_eq 167 dX4_portableOf_152 (by decide) (fun h152 => ?_) (fun h152 => ?_)
        · skip
          rw [bI_0] at h152
          have hc9 := hcc 9
          rw [h152] at hc9
          refine hm_iconst dX4_portableOf_167 (v := 0) (by decide) ?_
          refine hm_iret dX4_portableOf_168 rfl (by decide) (by decide) ?_
          exact hQ _ _ ⟨congrArg (fun z => some (Value.int z)) (show _ = oPOf α (nI a) _ from hc9.symm), h, cs_fr.rf σ⟩
        · skip
          rw [bI_0] at h152
          have hc9 := hcc 9
          rw [b_nf h152] at hc9
          refine hm_aload_n dX4_portableOf_155 rfl ?_
          refine hm_getI lf_RX4_84 rfl rfl (by first | exact Nat.lt_of_lt_of_le (by decide) hN | assumption | (simp only [hm_n_wI, hm_n_wL, hm_n_wR, hm_n_g] at *; omega)) dX4_portableOf_156 ?_
          rw [et]
          refine hm_aload_n dX4_portableOf_159 rfl ?_
          refine hm_getI lf_RX4_144 rfl hs (by omega) dX4_portableOf_160 ?_
          rw [show hm_I σ (pA a) 6 = aI α 3 a from h.i 3 a ha]
          refine hm_isub dX4_portableOf_163 ?_
          refine hm_goto 168 dX4_portableOf_164 (by decide) ?_
          refine hm_iret dX4_portableOf_168 rfl (by decide) (by decide) ?_
          exact hQ _ _ ⟨congrArg (fun z => some (Value.int z)) (show _ = oPOf α (nI a) _ from hc9.symm), h, cs_fr.rf σ⟩
end C11
