/-! the reference's public calls that only read -/
section M17
variable (l : Launch) {α : sA} {σ : hm_M}
set_option maxRecDepth 100000 in
theorem r5_heard (h : rM α σ) (w : sW α) (p i : Int32) : hm_Ct l yX5_heard cX5_heard 3 (some .long) 2 0 0 [.ref 27, .int p, .int i] σ (fun r τ => r = some (.long (oHeard α p i)) ∧ rM α τ ∧ md_fo σ τ) := by
  obtain ⟨hN, hM⟩ := h.m
  have h8 := w.p8
  have ht := w.t
  refine hm_startQ (ini := false) [.ref 27, .int p, .int i] (by decide) (by decide) rfl (Nat.le_of_ble_eq_true rfl) (fun Q hQ => ?_)
  have j34 : ∀ (a : Nat) (y : Int32), p = nI a → a < nPort α → pIn (nI a) (nPort α) = true → y.toInt = ((aQ α 2 a).length : Int) - 1 → hm_V l RX5 cX5_heard 3 (some .long) false (hm_rm 2 0 0) 0 0 Q 0 0 34 [.ref 27, .int p, .int i] [.int y, .int 0, .int i] σ := by
    intro a y hpa ha h5 hy
    subst hpa
    obtain ⟨-, -, hlk, -⟩ := w.q a
    refine hm_callS lm_RX5_88 (r5_in l _ _ (n := (aQ α 2 a).length) (by omega) hy) rfl rfl (by decide) (by decide) (Nat.le_of_ble_eq_true rfl) dX5_heard_34 ?_
    rintro _ t9 ⟨rfl, hh9⟩
    rw [hh9]
    clear hh9 t9
    refine hm_if_eq 54 dX5_heard_37 (by decide) (fun h37 => ?_) (fun h37 => ?_)
    · skip
      rw [bI_0] at h37
      have hc : oHeard α (nI a) i = 0 := by unfold oHeard; rw [nI_clamp (by omega), h37]; simp
      refine hm_lconst dX5_heard_54 (v := 0) (by decide) ?_
      refine hm_lret dX5_heard_55 rfl (by decide) (by decide) ?_
      exact hQ _ _ ⟨by rw [hc], h, md_fo.rf σ⟩
    · skip
      rw [bI_0] at h37
      have h37 := b_nf h37
      obtain ⟨k, hk, rfl⟩ := pIn_some (by omega) h37
      have hx : (aQ α 2 a)[k]? = some (aQ α 2 a)[k] := List.getElem?_eq_getElem hk
      have hc : oHeard α (nI a) (nI k) = (aQ α 2 a)[k] := by unfold oHeard; rw [h5, nI_clamp (by omega), h37, nI_clamp (by omega)]; simp [List.getD_eq_getElem?_getD, hx]
      have g := (h.q a (by omega)).2.2.2.2 k _ hx
      refine hm_aload_n dX5_heard_40 rfl ?_
      refine hm_getR lf_RX5_72 rfl rfl (by first | exact Nat.lt_of_lt_of_le (by decide) hN | assumption | (simp only [hm_n_wI, hm_n_wL, hm_n_wR, hm_n_g] at *; omega)) (hM 23) dX5_heard_41 ?_
      refine hm_bipush dX5_heard_44 (v := 20) (by decide) ?_
      refine hm_iload_n dX5_heard_46 rfl ?_
      refine hm_imul dX5_heard_47 ?_
      refine hm_iload_n dX5_heard_48 rfl ?_
      refine hm_iadd dX5_heard_49 ?_
      refine hm_lald (20 * a + k) rfl (by first | exact Nat.lt_of_lt_of_le (by decide) hN | assumption | (simp only [hm_n_wI, hm_n_wL, hm_n_wR, hm_n_g] at *; omega)) (ix20 _ _) (by omega) (by decide) dX5_heard_50 ?_
      rw [g]
      refine hm_goto 55 dX5_heard_51 (by decide) ?_
      refine hm_lret dX5_heard_55 rfl (by decide) (by decide) ?_
      exact hQ _ _ ⟨by rw [hc], h, md_fo.rf σ⟩
  refine hm_aload_n dX5_heard_0 rfl ?_
  refine hm_iload_n dX5_heard_1 rfl ?_
  refine hm_callV lm_RX5_99 (r5_isPortable l h w p) rfl rfl rfl rfl (by first | exact Nat.lt_of_lt_of_le (by decide) hN | assumption | (simp only [hm_n_wI, hm_n_wL, hm_n_wR, hm_n_g] at *; omega)) (by decide) (by decide) (Nat.le_of_ble_eq_true rfl) dX5_heard_2 ?_
  rintro _ t9 ⟨rfl, hh9⟩
  rw [hh9]
  clear hh9 t9
  refine hm_if_eq 54 dX5_heard_5 (by decide) (fun h5 => ?_) (fun h5 => ?_)
  · skip
    rw [bI_0] at h5
    have hc : oHeard α p i = 0 := by unfold oHeard; rw [h5]; simp
    refine hm_lconst dX5_heard_54 (v := 0) (by decide) ?_
    refine hm_lret dX5_heard_55 rfl (by decide) (by decide) ?_
    exact hQ _ _ ⟨by rw [hc], h, md_fo.rf σ⟩
  · skip
    rw [bI_0] at h5
    have h5 := b_nf h5
    obtain ⟨a, ha, rfl⟩ := pIn_some (by omega) h5
    obtain ⟨-, -, hlk, hht⟩ := w.q a
    have g1 : hm_I σ 47 a = nI (aN α 7 a) := h.n 7 a (by show _ < 8; omega)
    have q20 : (20 : Int32) ≤ nI (aN α 7 a) ↔ 20 ≤ aN α 7 a := nI_leI (a := 20) (by decide) (by omega)
    refine hm_iload_n dX5_heard_8 rfl ?_
    refine hm_iconst dX5_heard_9 (v := 0) (by decide) ?_
    refine hm_aload_n dX5_heard_10 rfl ?_
    refine hm_getR lf_RX5_69 rfl rfl (by first | exact Nat.lt_of_lt_of_le (by decide) hN | assumption | (simp only [hm_n_wI, hm_n_wL, hm_n_wR, hm_n_g] at *; omega)) (hM 22) dX5_heard_11 ?_
    refine hm_iload_n dX5_heard_14 rfl ?_
    refine hm_iald _ rfl (by first | exact Nat.lt_of_lt_of_le (by decide) hN | assumption | (simp only [hm_n_wI, hm_n_wL, hm_n_wR, hm_n_g] at *; omega)) rfl (by omega) (by decide) dX5_heard_15 ?_
    rw [g1]
    refine hm_bipush dX5_heard_16 (v := 20) (by decide) ?_
    refine hm_icmp_ge 30 dX5_heard_18 (by decide) (fun h18 => ?_) (fun h18 => ?_)
    · skip
      rw [q20] at h18
      have hy : ((20 : Int32) - 1).toInt = ((aQ α 2 a).length : Int) - 1 := by rw [show ((20 : Int32) - 1).toInt = 19 by decide]; omega
      refine hm_bipush dX5_heard_30 (v := 20) (by decide) ?_
      refine hm_iconst dX5_heard_32 (v := 1) (by decide) ?_
      refine hm_isub dX5_heard_33 ?_
      exact j34 a _ rfl ha h5 hy
    · skip
      rw [q20] at h18
      have hy : (nI (aN α 7 a) - 1).toInt = ((aQ α 2 a).length : Int) - 1 := by rw [show (nI (aN α 7 a) - 1).toInt = (aN α 7 a : Int) - 1 from pk_sub_toInt (b := 1) (by omega) (by decide)]; omega
      refine hm_aload_n dX5_heard_21 rfl ?_
      refine hm_getR lf_RX5_69 rfl rfl (by first | exact Nat.lt_of_lt_of_le (by decide) hN | assumption | (simp only [hm_n_wI, hm_n_wL, hm_n_wR, hm_n_g] at *; omega)) (hM 22) dX5_heard_22 ?_
      refine hm_iload_n dX5_heard_25 rfl ?_
      refine hm_iald _ rfl (by first | exact Nat.lt_of_lt_of_le (by decide) hN | assumption | (simp only [hm_n_wI, hm_n_wL, hm_n_wR, hm_n_g] at *; omega)) rfl (by omega) (by decide) dX5_heard_26 ?_
      rw [g1]
      refine hm_goto 32 dX5_heard_27 (by decide) ?_
      refine hm_iconst dX5_heard_32 (v := 1) (by decide) ?_
      refine hm_isub dX5_heard_33 ?_
      exact j34 a _ rfl ha h5 hy
set_option maxRecDepth 100000 in
theorem r5_level (h : rM α σ) (w : sW α) (p c ch : Int32) : hm_Ct l yX5_level cX5_level 4 (some .int) 3 0 0 [.ref 27, .int p, .int c, .int ch] σ (fun r τ => r = some (.int (oLevel α p c ch).1) ∧ rM (oLevel α p c ch).2 τ ∧ md_fo σ τ) := by
  obtain ⟨hN, hM⟩ := h.m
  have h8 := w.p8
  have h4 := w.c4
  refine hm_startQ (ini := false) [.ref 27, .int p, .int c, .int ch] (by decide) (by decide) rfl (Nat.le_of_ble_eq_true rfl) (fun Q hQ => ?_)
  refine hm_aload_n dX5_level_0 rfl ?_
  refine hm_iload_n dX5_level_1 rfl ?_
  refine hm_callV lm_RX5_99 (r5_isPortable l h w p) rfl rfl rfl rfl (by first | exact Nat.lt_of_lt_of_le (by decide) hN | assumption | (simp only [hm_n_wI, hm_n_wL, hm_n_wR, hm_n_g] at *; omega)) (by decide) (by decide) (Nat.le_of_ble_eq_true rfl) dX5_level_2 ?_
  rintro _ t9 ⟨rfl, hh9⟩
  rw [hh9]
  clear hh9 t9
  refine hm_if_eq 36 dX5_level_5 (by decide) (fun h5 => ?_) (fun h5 => ?_)
  · skip
    rw [bI_0] at h5
    have hc : oLevel α p c ch = pRef α 1 := by unfold oLevel; rw [h5]; rfl
    refine hm_aload_n dX5_level_36 rfl ?_
    refine hm_iconst dX5_level_37 (v := -1) (by decide) ?_
    refine hm_callV lm_RX5_95 (r5_refuse l h 1 (by decide)) rfl rfl rfl rfl (by first | exact Nat.lt_of_lt_of_le (by decide) hN | assumption | (simp only [hm_n_wI, hm_n_wL, hm_n_wR, hm_n_g] at *; omega)) (by decide) (by decide) (Nat.le_of_ble_eq_true rfl) dX5_level_38 ?_
    rintro _ ρ ⟨rfl, hfin, hf⟩
    rw [← hc] at hfin
    refine hm_iret dX5_level_41 rfl (by decide) (by decide) ?_
    exact hQ _ _ ⟨by rw [hc], hfin, hf⟩
  · skip
    rw [bI_0] at h5
    have h5 := b_nf h5
    obtain ⟨a, ha, rfl⟩ := pIn_some (by omega) h5
    refine hm_aload_n dX5_level_8 rfl ?_
    refine hm_iload_n dX5_level_9 rfl ?_
    refine hm_callV lm_RX5_142 (r5_isCell l h w c) rfl rfl rfl rfl (by first | exact Nat.lt_of_lt_of_le (by decide) hN | assumption | (simp only [hm_n_wI, hm_n_wL, hm_n_wR, hm_n_g] at *; omega)) (by decide) (by decide) (Nat.le_of_ble_eq_true rfl) dX5_level_10 ?_
    rintro _ t9 ⟨rfl, hh9⟩
    rw [hh9]
    clear hh9 t9
    refine hm_if_eq 36 dX5_level_13 (by decide) (fun h13 => ?_) (fun h13 => ?_)
    · skip
      rw [bI_0] at h13
      have hc : oLevel α (nI a) c ch = pRef α 1 := by unfold oLevel; rw [h5, h13]; rfl
      refine hm_aload_n dX5_level_36 rfl ?_
      refine hm_iconst dX5_level_37 (v := -1) (by decide) ?_
      refine hm_callV lm_RX5_95 (r5_refuse l h 1 (by decide)) rfl rfl rfl rfl (by first | exact Nat.lt_of_lt_of_le (by decide) hN | assumption | (simp only [hm_n_wI, hm_n_wL, hm_n_wR, hm_n_g] at *; omega)) (by decide) (by decide) (Nat.le_of_ble_eq_true rfl) dX5_level_38 ?_
      rintro _ ρ ⟨rfl, hfin, hf⟩
      rw [← hc] at hfin
      refine hm_iret dX5_level_41 rfl (by decide) (by decide) ?_
      exact hQ _ _ ⟨by rw [hc], hfin, hf⟩
    · skip
      rw [bI_0] at h13
      have h13 := b_nf h13
      obtain ⟨b, hb, rfl⟩ := pIn_some (by omega) h13
      refine hm_iload_n dX5_level_16 rfl ?_
      refine hm_iconst dX5_level_17 (v := 0) (by decide) ?_
      refine hm_bipush dX5_level_18 (v := 119) (by decide) ?_
      refine hm_callS lm_RX5_88 (r5_in l _ _ (n := 120) (by decide) (by decide)) rfl rfl (by decide) (by decide) (Nat.le_of_ble_eq_true rfl) dX5_level_20 ?_
      rintro _ t9 ⟨rfl, hh9⟩
      rw [hh9]
      clear hh9 t9
      refine hm_if_eq 36 dX5_level_23 (by decide) (fun h23 => ?_) (fun h23 => ?_)
      · skip
        rw [bI_0] at h23
        have hc : oLevel α (nI a) (nI b) ch = pRef α 1 := by unfold oLevel; rw [h5, h13, h23]; rfl
        refine hm_aload_n dX5_level_36 rfl ?_
        refine hm_iconst dX5_level_37 (v := -1) (by decide) ?_
        refine hm_callV lm_RX5_95 (r5_refuse l h 1 (by decide)) rfl rfl rfl rfl (by first | exact Nat.lt_of_lt_of_le (by decide) hN | assumption | (simp only [hm_n_wI, hm_n_wL, hm_n_wR, hm_n_g] at *; omega)) (by decide) (by decide) (Nat.le_of_ble_eq_true rfl) dX5_level_38 ?_
        rintro _ ρ ⟨rfl, hfin, hf⟩
        rw [← hc] at hfin
        refine hm_iret dX5_level_41 rfl (by decide) (by decide) ?_
        exact hQ _ _ ⟨by rw [hc], hfin, hf⟩
      · skip
        rw [bI_0] at h23
        have h23 := b_nf h23
        obtain ⟨d, hd, rfl⟩ := pIn_some (by decide) h23
        have hc : oLevel α (nI a) (nI b) (nI d) = (nI (pLev α a b d), α) := by unfold oLevel; rw [h5, h13, h23, nI_clamp (by omega), nI_clamp (by omega), nI_clamp (by omega)]; rfl
        refine hm_aload_n dX5_level_26 rfl ?_
        refine hm_iload_n dX5_level_27 rfl ?_
        refine hm_iload_n dX5_level_28 rfl ?_
        refine hm_iload_n dX5_level_29 rfl ?_
        refine hm_callV lm_RX5_145 (r5_levelOf l h w (by omega) (by omega) hd) rfl rfl rfl rfl (by first | exact Nat.lt_of_lt_of_le (by decide) hN | assumption | (simp only [hm_n_wI, hm_n_wL, hm_n_wR, hm_n_g] at *; omega)) (by decide) (by decide) (Nat.le_of_ble_eq_true rfl) dX5_level_30 ?_
        rintro _ t9 ⟨rfl, hh9⟩
        rw [hh9]
        clear hh9 t9
        have hfin : rM (oLevel α (nI a) (nI b) (nI d)).2 σ := by rw [hc]; exact h
        have hf := md_fo.rf σ
        refine hm_goto 41 dX5_level_33 (by decide) ?_
        refine hm_iret dX5_level_41 rfl (by decide) (by decide) ?_
        exact hQ _ _ ⟨by rw [hc], hfin, hf⟩
set_option maxRecDepth 100000 in
theorem r5_beacon (h : rM α σ) (w : sW α) (c pl : Int32) : hm_Ct l yX5_beacon cX5_beacon 3 (some .boolean) 3 0 0 [.ref 27, .int c, .int pl] σ (fun r τ => r = some (.int (oBeacon α c pl)) ∧ rM α τ ∧ md_fo σ τ) := by
  obtain ⟨hN, hM⟩ := h.m
  have h4 := w.c4
  refine hm_startQ (ini := false) [.ref 27, .int c, .int pl] (by decide) (by decide) rfl (Nat.le_of_ble_eq_true rfl) (fun Q hQ => ?_)
  refine hm_aload_n dX5_beacon_0 rfl ?_
  refine hm_iload_n dX5_beacon_1 rfl ?_
  refine hm_callV lm_RX5_142 (r5_isCell l h w c) rfl rfl rfl rfl (by first | exact Nat.lt_of_lt_of_le (by decide) hN | assumption | (simp only [hm_n_wI, hm_n_wL, hm_n_wR, hm_n_g] at *; omega)) (by decide) (by decide) (Nat.le_of_ble_eq_true rfl) dX5_beacon_2 ?_
  rintro _ t9 ⟨rfl, hh9⟩
  rw [hh9]
  clear hh9 t9
  refine hm_if_eq 37 dX5_beacon_5 (by decide) (fun h5 => ?_) (fun h5 => ?_)
  · skip
    rw [bI_0] at h5
    have hc : oBeacon α c pl = 0 := by unfold oBeacon; rw [h5]; rfl
    refine hm_iconst dX5_beacon_37 (v := 0) (by decide) ?_
    refine hm_zret dX5_beacon_38 rfl (by decide) (by decide) (by first | exact Or.inl rfl | exact Or.inr rfl | assumption) ?_
    exact hQ _ _ ⟨by rw [hc] <;> rfl, h, md_fo.rf σ⟩
  · skip
    rw [bI_0] at h5
    have h5 := b_nf h5
    obtain ⟨b, hb, rfl⟩ := pIn_some (by omega) h5
    refine hm_iload_n dX5_beacon_8 rfl ?_
    refine hm_iconst dX5_beacon_9 (v := 0) (by decide) ?_
    refine hm_bipush dX5_beacon_10 (v := 15) (by decide) ?_
    refine hm_callS lm_RX5_88 (r5_in l _ _ (n := 16) (by decide) (by decide)) rfl rfl (by decide) (by decide) (Nat.le_of_ble_eq_true rfl) dX5_beacon_12 ?_
    rintro _ t9 ⟨rfl, hh9⟩
    rw [hh9]
    clear hh9 t9
    refine hm_if_eq 37 dX5_beacon_15 (by decide) (fun h15 => ?_) (fun h15 => ?_)
    · skip
      rw [bI_0] at h15
      have hc : oBeacon α (nI b) pl = 0 := by unfold oBeacon; rw [h5, h15]; rfl
      refine hm_iconst dX5_beacon_37 (v := 0) (by decide) ?_
      refine hm_zret dX5_beacon_38 rfl (by decide) (by decide) (by first | exact Or.inl rfl | exact Or.inr rfl | assumption) ?_
      exact hQ _ _ ⟨by rw [hc] <;> rfl, h, md_fo.rf σ⟩
    · skip
      rw [bI_0] at h15
      have h15 := b_nf h15
      obtain ⟨a, ha, rfl⟩ := pIn_some (by decide) h15
      have hcc : oBeacon α (nI b) (nI a) = bI (pHAt α a b (aN α 2 b)) := by unfold oBeacon; rw [h5, h15, nI_clamp (by omega), nI_clamp (by omega)]; rfl
      refine hm_aload_n dX5_beacon_18 rfl ?_
      refine hm_iload_n dX5_beacon_19 rfl ?_
      refine hm_iload_n dX5_beacon_20 rfl ?_
      refine hm_aload_n dX5_beacon_21 rfl ?_
      refine hm_getR lf_RX5_7 rfl rfl (by first | exact Nat.lt_of_lt_of_le (by decide) hN | assumption | (simp only [hm_n_wI, hm_n_wL, hm_n_wR, hm_n_g] at *; omega)) (hM 1) dX5_beacon_22 ?_
      refine hm_iload_n dX5_beacon_25 rfl ?_
      refine hm_iald _ rfl (by first | exact Nat.lt_of_lt_of_le (by decide) hN | assumption | (simp only [hm_n_wI, hm_n_wL, hm_n_wR, hm_n_g] at *; omega)) rfl (by omega) (by decide) dX5_beacon_26 ?_
      rw [show hm_I σ 28 b = nI (aN α 2 b) from h.n 2 b (by show _ < 4; omega)]
      refine hm_callV lm_RX5_148 (r5_isHeardAt l h w ha (by omega) (w.bc b)) rfl rfl rfl rfl (by first | exact Nat.lt_of_lt_of_le (by decide) hN | assumption | (simp only [hm_n_wI, hm_n_wL, hm_n_wR, hm_n_g] at *; omega)) (by decide) (by decide) (Nat.le_of_ble_eq_true rfl) dX5_beacon_27 ?_
      rintro _ t9 ⟨rfl, hh9⟩
      rw [hh9]
      clear hh9 t9
      refine hm_if_eq 37 dX5_beacon_30 (by decide) (fun h30 => ?_) (fun h30 => ?_)
      · skip
        rw [bI_0] at h30
        have hc := hcc
        rw [h30] at hc
        refine hm_iconst dX5_beacon_37 (v := 0) (by decide) ?_
        refine hm_zret dX5_beacon_38 rfl (by decide) (by decide) (by first | exact Or.inl rfl | exact Or.inr rfl | assumption) ?_
        exact hQ _ _ ⟨by rw [hc] <;> rfl, h, md_fo.rf σ⟩
      · skip
        rw [bI_0] at h30
        have hc := hcc
        rw [b_nf h30] at hc
        refine hm_iconst dX5_beacon_33 (v := 1) (by decide) ?_
        refine hm_goto 38 dX5_beacon_34 (by decide) ?_
        refine hm_zret dX5_beacon_38 rfl (by decide) (by decide) (by first | exact Or.inl rfl | exact Or.inr rfl | assumption) ?_
        exact hQ _ _ ⟨by rw [hc] <;> rfl, h, md_fo.rf σ⟩
set_option maxRecDepth 100000 in
theorem r5_air (h : rM α σ) (what : Int32) : hm_Ct l yX5_air cX5_air 2 (some .long) 0 0 0 [.ref 27, .int what] σ (fun r τ => r = some (.long (oAir α what)) ∧ rM α τ ∧ md_fo σ τ) := by
  obtain ⟨hN, hM⟩ := h.m
  have e1 : hm_L σ 27 24 = aL α 2 0 := h.l 2 0 (by decide)
  have e2 : hm_L σ 27 25 = aL α 2 1 := h.l 2 1 (by decide)
  refine hm_startQ (ini := false) [.ref 27, .int what] (by decide) (by decide) rfl (Nat.le_of_ble_eq_true rfl) (fun Q hQ => ?_)
  refine hm_iload_n dX5_air_0 rfl ?_
  refine hm_if_ne 11 dX5_air_1 (by decide) (fun h1 => ?_) (fun h1 => ?_)
  · skip
    refine hm_iload_n dX5_air_11 rfl ?_
    refine hm_iconst dX5_air_12 (v := 1) (by decide) ?_
    refine hm_icmp_ne 23 dX5_air_13 (by decide) (fun h13 => ?_) (fun h13 => ?_)
    · skip
      have hc : oAir α what = 0 := by unfold oAir; rw [if_neg h1, if_neg h13]
      refine hm_lconst dX5_air_23 (v := 0) (by decide) ?_
      refine hm_lret dX5_air_24 rfl (by decide) (by decide) ?_
      exact hQ _ _ ⟨by rw [hc], h, md_fo.rf σ⟩
    · skip
      have hc : oAir α what = aL α 2 1 := by unfold oAir; rw [if_neg h1, if_pos h13]
      refine hm_aload_n dX5_air_16 rfl ?_
      refine hm_getL lf_RX5_188 rfl rfl (by first | exact Nat.lt_of_lt_of_le (by decide) hN | assumption | (simp only [hm_n_wI, hm_n_wL, hm_n_wR, hm_n_g] at *; omega)) dX5_air_17 ?_
      rw [e2]
      refine hm_goto 24 dX5_air_20 (by decide) ?_
      refine hm_lret dX5_air_24 rfl (by decide) (by decide) ?_
      exact hQ _ _ ⟨by rw [hc], h, md_fo.rf σ⟩
  · skip
    have hc : oAir α what = aL α 2 0 := by unfold oAir; rw [if_pos h1]
    refine hm_aload_n dX5_air_4 rfl ?_
    refine hm_getL lf_RX5_179 rfl rfl (by first | exact Nat.lt_of_lt_of_le (by decide) hN | assumption | (simp only [hm_n_wI, hm_n_wL, hm_n_wR, hm_n_g] at *; omega)) dX5_air_5 ?_
    rw [e1]
    refine hm_goto 24 dX5_air_8 (by decide) ?_
    refine hm_lret dX5_air_24 rfl (by decide) (by decide) ?_
    exact hQ _ _ ⟨by rw [hc], h, md_fo.rf σ⟩
set_option maxRecDepth 100000 in
theorem r5_count (h : rM α σ) (what : Int32) : hm_Ct l yX5_count cX5_count 2 (some .int) 1 0 0 [.ref 27, .int what] σ (fun r τ => r = some (.int (oCount α what)) ∧ rM α τ ∧ md_fo σ τ) := by
  obtain ⟨hN, hM⟩ := h.m
  refine hm_startQ (ini := false) [.ref 27, .int what] (by decide) (by decide) rfl (Nat.le_of_ble_eq_true rfl) (fun Q hQ => ?_)
  refine hm_iload_n dX5_count_0 rfl ?_
  rcases sw_cases what 0 8 with hsw | ⟨kk, hk1, hk2, hsw⟩
  · skip
    refine hm_tableOut 97 dX5_count_1 hsw (by decide) ?_
    have ne : ∀ k, k ≤ 8 → ¬ what = nI k := fun k hk => sw_ne (lo := 0) hsw (by decide) (by omega) hk
    have hcc : oCount α what = if 11 ≤ what ∧ what ≤ 16 then aI α 5 (what - 10).toNatClampNeg else -9 := by unfold oCount; rw [if_neg (show ¬ what = 0 from ne 0 (by decide)), if_neg (show ¬ what = 1 from ne 1 (by decide)), if_neg (show ¬ what = 2 from ne 2 (by decide)), if_neg (show ¬ what = 3 from ne 3 (by decide)), if_neg (show ¬ what = 4 from ne 4 (by decide)), if_neg (show ¬ what = 5 from ne 5 (by decide)), if_neg (show ¬ what = 6 from ne 6 (by decide)), if_neg (show ¬ what = 7 from ne 7 (by decide)), if_neg (show ¬ what = 8 from ne 8 (by decide))]
    refine hm_iload_n dX5_count_97 rfl ?_
    refine hm_bipush dX5_count_98 (v := 11) (by decide) ?_
    refine hm_bipush dX5_count_100 (v := 16) (by decide) ?_
    refine hm_callS lm_RX5_88 (c5_in l _ _ _ _) rfl rfl (by decide) (by decide) (Nat.le_of_ble_eq_true rfl) dX5_count_102 ?_
    rintro _ t9 ⟨rfl, hh9⟩
    rw [hh9]
    clear hh9 t9
    refine hm_if_eq 120 dX5_count_105 (by decide) (fun h105 => ?_) (fun h105 => ?_)
    · skip
      rw [bI_0] at h105
      have hc : oCount α what = -9 := by rw [hcc, if_neg (by simpa using h105)]
      refine hm_bipush dX5_count_120 (v := -9) (by decide) ?_
      refine hm_iret dX5_count_122 rfl (by decide) (by decide) ?_
      exact hQ _ _ ⟨by rw [hc], h, md_fo.rf σ⟩
    · skip
      rw [bI_0] at h105
      have h105 : 11 ≤ what ∧ what ≤ 16 := by simpa using h105
      obtain ⟨k, hk, rfl⟩ := nI_of2 (M := 16) (n := 16) (by decide) (Int32.not_lt.mpr (Int32.le_trans (by decide) h105.1)) h105.2
      have hk11 : 11 ≤ k := (nI_leI (a := 11) (by decide) (by omega)).mp h105.1
      have hs : nI k - 10 = nI (k - 10) := pk_sub (b := 10) (by omega)
      have hc : oCount α (nI k) = aI α 5 (k - 10) := by rw [hcc, if_pos h105, hs, nI_clamp (by omega)]
      refine hm_aload_n dX5_count_108 rfl ?_
      refine hm_getR lf_RX5_75 rfl rfl (by first | exact Nat.lt_of_lt_of_le (by decide) hN | assumption | (simp only [hm_n_wI, hm_n_wL, hm_n_wR, hm_n_g] at *; omega)) (hM 32) dX5_count_109 ?_
      refine hm_iload_n dX5_count_112 rfl ?_
      refine hm_bipush dX5_count_113 (v := 10) (by decide) ?_
      refine hm_isub dX5_count_115 ?_
      refine hm_iald (k - 10) rfl (by first | exact Nat.lt_of_lt_of_le (by decide) hN | assumption | (simp only [hm_n_wI, hm_n_wL, hm_n_wR, hm_n_g] at *; omega)) hs (by omega) (by decide) dX5_count_116 ?_
      rw [show hm_I σ 49 (k - 10) = aI α 5 (k - 10) from h.i 5 (k - 10) (by show _ < 7; omega)]
      refine hm_goto 122 dX5_count_117 (by decide) ?_
      refine hm_iret dX5_count_122 rfl (by decide) (by decide) ?_
      exact hQ _ _ ⟨by rw [hc], h, md_fo.rf σ⟩
  · skip
    rcases (show kk = 0 ∨ kk = 1 ∨ kk = 2 ∨ kk = 3 ∨ kk = 4 ∨ kk = 5 ∨ kk = 6 ∨ kk = 7 ∨ kk = 8 by omega) with rfl | rfl | rfl | rfl | rfl | rfl | rfl | rfl | rfl
    · subst hsw
      refine hm_tableIn 52 dX5_count_1 (by decide) (by decide) (by rfl) (by decide) ?_
      refine hm_aload_n dX5_count_52 rfl ?_
      refine hm_getI lf_RX5_103 rfl rfl (by first | exact Nat.lt_of_lt_of_le (by decide) hN | assumption | (simp only [hm_n_wI, hm_n_wL, hm_n_wR, hm_n_g] at *; omega)) dX5_count_53 ?_
      refine hm_iret dX5_count_56 rfl (by decide) (by decide) ?_
      exact hQ _ _ ⟨congrArg (fun z => some (Value.int z)) (h.n 6 0 (by decide)), h, md_fo.rf σ⟩
    · subst hsw
      refine hm_tableIn 57 dX5_count_1 (by decide) (by decide) (by rfl) (by decide) ?_
      refine hm_aload_n dX5_count_57 rfl ?_
      refine hm_getI lf_RX5_84 rfl rfl (by first | exact Nat.lt_of_lt_of_le (by decide) hN | assumption | (simp only [hm_n_wI, hm_n_wL, hm_n_wR, hm_n_g] at *; omega)) dX5_count_58 ?_
      refine hm_iret dX5_count_61 rfl (by decide) (by decide) ?_
      exact hQ _ _ ⟨congrArg (fun z => some (Value.int z)) (h.n 0 0 (by decide)), h, md_fo.rf σ⟩
    · subst hsw
      refine hm_tableIn 62 dX5_count_1 (by decide) (by decide) (by rfl) (by decide) ?_
      refine hm_aload_n dX5_count_62 rfl ?_
      refine hm_getI lf_RX5_92 rfl rfl (by first | exact Nat.lt_of_lt_of_le (by decide) hN | assumption | (simp only [hm_n_wI, hm_n_wL, hm_n_wR, hm_n_g] at *; omega)) dX5_count_63 ?_
      refine hm_iret dX5_count_66 rfl (by decide) (by decide) ?_
      exact hQ _ _ ⟨congrArg (fun z => some (Value.int z)) (h.n 1 0 (by decide)), h, md_fo.rf σ⟩
    · subst hsw
      refine hm_tableIn 67 dX5_count_1 (by decide) (by decide) (by rfl) (by decide) ?_
      refine hm_aload_n dX5_count_67 rfl ?_
      refine hm_getI lf_RX5_109 rfl rfl (by first | exact Nat.lt_of_lt_of_le (by decide) hN | assumption | (simp only [hm_n_wI, hm_n_wL, hm_n_wR, hm_n_g] at *; omega)) dX5_count_68 ?_
      refine hm_iret dX5_count_71 rfl (by decide) (by decide) ?_
      exact hQ _ _ ⟨congrArg (fun z => some (Value.int z)) h.b.1, h, md_fo.rf σ⟩
    · subst hsw
      refine hm_tableIn 72 dX5_count_1 (by decide) (by decide) (by rfl) (by decide) ?_
      refine hm_aload_n dX5_count_72 rfl ?_
      refine hm_getI lf_RX5_163 rfl rfl (by first | exact Nat.lt_of_lt_of_le (by decide) hN | assumption | (simp only [hm_n_wI, hm_n_wL, hm_n_wR, hm_n_g] at *; omega)) dX5_count_73 ?_
      refine hm_iret dX5_count_76 rfl (by decide) (by decide) ?_
      exact hQ _ _ ⟨congrArg (fun z => some (Value.int z)) (h.i 4 0 (by decide)), h, md_fo.rf σ⟩
    · subst hsw
      refine hm_tableIn 77 dX5_count_1 (by decide) (by decide) (by rfl) (by decide) ?_
      refine hm_aload_n dX5_count_77 rfl ?_
      refine hm_getI lf_RX5_106 rfl rfl (by first | exact Nat.lt_of_lt_of_le (by decide) hN | assumption | (simp only [hm_n_wI, hm_n_wL, hm_n_wR, hm_n_g] at *; omega)) dX5_count_78 ?_
      refine hm_iret dX5_count_81 rfl (by decide) (by decide) ?_
      exact hQ _ _ ⟨congrArg (fun z => some (Value.int z)) (h.i 4 1 (by decide)), h, md_fo.rf σ⟩
    · subst hsw
      refine hm_tableIn 82 dX5_count_1 (by decide) (by decide) (by rfl) (by decide) ?_
      refine hm_aload_n dX5_count_82 rfl ?_
      refine hm_getI lf_RX5_122 rfl rfl (by first | exact Nat.lt_of_lt_of_le (by decide) hN | assumption | (simp only [hm_n_wI, hm_n_wL, hm_n_wR, hm_n_g] at *; omega)) dX5_count_83 ?_
      refine hm_iret dX5_count_86 rfl (by decide) (by decide) ?_
      exact hQ _ _ ⟨congrArg (fun z => some (Value.int z)) (h.i 4 2 (by decide)), h, md_fo.rf σ⟩
    · subst hsw
      refine hm_tableIn 87 dX5_count_1 (by decide) (by decide) (by rfl) (by decide) ?_
      refine hm_aload_n dX5_count_87 rfl ?_
      refine hm_getI lf_RX5_169 rfl rfl (by first | exact Nat.lt_of_lt_of_le (by decide) hN | assumption | (simp only [hm_n_wI, hm_n_wL, hm_n_wR, hm_n_g] at *; omega)) dX5_count_88 ?_
      refine hm_iret dX5_count_91 rfl (by decide) (by decide) ?_
      exact hQ _ _ ⟨congrArg (fun z => some (Value.int z)) (h.i 4 3 (by decide)), h, md_fo.rf σ⟩
    · subst hsw
      refine hm_tableIn 92 dX5_count_1 (by decide) (by decide) (by rfl) (by decide) ?_
      refine hm_aload_n dX5_count_92 rfl ?_
      refine hm_getI lf_RX5_183 rfl rfl (by first | exact Nat.lt_of_lt_of_le (by decide) hN | assumption | (simp only [hm_n_wI, hm_n_wL, hm_n_wR, hm_n_g] at *; omega)) dX5_count_93 ?_
      refine hm_iret dX5_count_96 rfl (by decide) (by decide) ?_
      exact hQ _ _ ⟨congrArg (fun z => some (Value.int z)) (h.i 4 4 (by decide)), h, md_fo.rf σ⟩
set_option maxRecDepth 100000 in
theorem r5_bearer (h : rM α σ) (w : sW α) (i what : Int32) : hm_Ct l yX5_bearer cX5_bearer 3 (some .int) 1 0 0 [.ref 27, .int i, .int what] σ (fun r τ => r = some (.int (oBearer α i what)) ∧ rM α τ ∧ md_fo σ τ) := by
  obtain ⟨hN, hM⟩ := h.m
  obtain ⟨hb1, hb2⟩ := h.b
  have hlen := w.len
  refine hm_startQ (ini := false) [.ref 27, .int i, .int what] (by decide) (by decide) rfl (Nat.le_of_ble_eq_true rfl) (fun Q hQ => ?_)
  refine hm_iload_n dX5_bearer_0 rfl ?_
  refine hm_iconst dX5_bearer_1 (v := 0) (by decide) ?_
  refine hm_aload_n dX5_bearer_2 rfl ?_
  refine hm_getI lf_RX5_109 rfl rfl (by first | exact Nat.lt_of_lt_of_le (by decide) hN | assumption | (simp only [hm_n_wI, hm_n_wL, hm_n_wR, hm_n_g] at *; omega)) dX5_bearer_3 ?_
  rw [hb1]
  refine hm_iconst dX5_bearer_6 (v := 1) (by decide) ?_
  refine hm_isub dX5_bearer_7 ?_
  refine hm_callS lm_RX5_88 (r5_in l _ _ (n := (aB α).length) (by omega) (pk_sub_toInt (b := 1) (by omega) (by decide))) rfl rfl (by decide) (by decide) (Nat.le_of_ble_eq_true rfl) dX5_bearer_8 ?_
  rintro _ t9 ⟨rfl, hh9⟩
  rw [hh9]
  clear hh9 t9
  refine hm_if_ne 17 dX5_bearer_11 (by decide) (fun h11 => ?_) (fun h11 => ?_)
  · skip
    rw [bI_0] at h11
    have h11 := b_nf h11
    obtain ⟨b, hb, rfl⟩ := pIn_some (by omega) h11
    obtain ⟨x, hx⟩ : ∃ x, (aB α)[b]? = some x := ⟨_, List.getElem?_eq_getElem hb⟩
    obtain ⟨e1, e2, e3, e4, e5⟩ := hb2 b x hx
    have hcc : ∀ y, oBearer α (nI b) y = (if y = 0 then nI (bOf x) else if y = 1 then nI (bAt x) else if y = 2 then nI (bCh x) else if y = 3 then bFl x else if y = 4 then bI (bGd x) else -9) := fun y => by unfold oBearer; rw [h11, nI_clamp (by omega), hx]; rfl
    refine hm_iload_n dX5_bearer_17 rfl ?_
    rcases sw_cases what 0 3 with hsw | ⟨kk, hk1, hk2, hsw⟩
    · skip
      refine hm_tableOut 76 dX5_bearer_18 hsw (by decide) ?_
      have ne : ∀ k, k ≤ 3 → ¬ what = nI k := fun k hk => sw_ne (lo := 0) hsw (by decide) (by omega) hk
      have hc9 : oBearer α (nI b) what = if what = 4 then bI (bGd x) else -9 := by rw [hcc, if_neg (show ¬ what = 0 from ne 0 (by decide)), if_neg (show ¬ what = 1 from ne 1 (by decide)), if_neg (show ¬ what = 2 from ne 2 (by decide)), if_neg (show ¬ what = 3 from ne 3 (by decide))]
      refine hm_iload_n dX5_bearer_76 rfl ?_
      refine hm_iconst dX5_bearer_77 (v := 4) (by decide) ?_
      refine hm_icmp_ne 98 dX5_bearer_78 (by decide) (fun h78 => ?_) (fun h78 => ?_)
      · skip
        rw [if_neg h78] at hc9
        refine hm_bipush dX5_bearer_98 (v := -9) (by decide) ?_
        refine hm_iret dX5_bearer_100 rfl (by decide) (by decide) ?_
        exact hQ _ _ ⟨by rw [hc9] <;> rfl, h, md_fo.rf σ⟩
      · skip
        rw [if_pos h78] at hc9
        refine hm_aload_n dX5_bearer_81 rfl ?_
        refine hm_getR lf_RX5_54 rfl rfl (by first | exact Nat.lt_of_lt_of_le (by decide) hN | assumption | (simp only [hm_n_wI, hm_n_wL, hm_n_wR, hm_n_g] at *; omega)) (hM 17) dX5_bearer_82 ?_
        refine hm_iload_n dX5_bearer_85 rfl ?_
        refine hm_zald _ rfl (by first | exact Nat.lt_of_lt_of_le (by decide) hN | assumption | (simp only [hm_n_wI, hm_n_wL, hm_n_wR, hm_n_g] at *; omega)) rfl (by omega) (by decide) dX5_bearer_86 ?_
        rw [e5]
        refine hm_if_eq 94 dX5_bearer_87 (by decide) (fun h87 => ?_) (fun h87 => ?_)
        · skip
          rw [bI_0] at h87
          rw [h87] at hc9
          refine hm_iconst dX5_bearer_94 (v := 0) (by decide) ?_
          refine hm_goto 100 dX5_bearer_95 (by decide) ?_
          refine hm_iret dX5_bearer_100 rfl (by decide) (by decide) ?_
          exact hQ _ _ ⟨by rw [hc9] <;> rfl, h, md_fo.rf σ⟩
        · skip
          rw [bI_0] at h87
          rw [b_nf h87] at hc9
          refine hm_iconst dX5_bearer_90 (v := 1) (by decide) ?_
          refine hm_goto 100 dX5_bearer_91 (by decide) ?_
          refine hm_iret dX5_bearer_100 rfl (by decide) (by decide) ?_
          exact hQ _ _ ⟨by rw [hc9] <;> rfl, h, md_fo.rf σ⟩
    · skip
      rcases (show kk = 0 ∨ kk = 1 ∨ kk = 2 ∨ kk = 3 by omega) with rfl | rfl | rfl | rfl
      · subst hsw
        refine hm_tableIn 48 dX5_bearer_18 (by decide) (by decide) (by rfl) (by decide) ?_
        refine hm_aload_n dX5_bearer_48 rfl ?_
        refine hm_getR lf_RX5_42 rfl rfl (by first | exact Nat.lt_of_lt_of_le (by decide) hN | assumption | (simp only [hm_n_wI, hm_n_wL, hm_n_wR, hm_n_g] at *; omega)) (hM 13) dX5_bearer_49 ?_
        refine hm_iload_n dX5_bearer_52 rfl ?_
        refine hm_iald _ rfl (by first | exact Nat.lt_of_lt_of_le (by decide) hN | assumption | (simp only [hm_n_wI, hm_n_wL, hm_n_wR, hm_n_g] at *; omega)) rfl (by omega) (by decide) dX5_bearer_53 ?_
        refine hm_iret dX5_bearer_54 rfl (by decide) (by decide) ?_
        exact hQ _ _ ⟨by rw [hcc, e1] <;> rfl, h, md_fo.rf σ⟩
      · subst hsw
        refine hm_tableIn 55 dX5_bearer_18 (by decide) (by decide) (by rfl) (by decide) ?_
        refine hm_aload_n dX5_bearer_55 rfl ?_
        refine hm_getR lf_RX5_45 rfl rfl (by first | exact Nat.lt_of_lt_of_le (by decide) hN | assumption | (simp only [hm_n_wI, hm_n_wL, hm_n_wR, hm_n_g] at *; omega)) (hM 14) dX5_bearer_56 ?_
        refine hm_iload_n dX5_bearer_59 rfl ?_
        refine hm_iald _ rfl (by first | exact Nat.lt_of_lt_of_le (by decide) hN | assumption | (simp only [hm_n_wI, hm_n_wL, hm_n_wR, hm_n_g] at *; omega)) rfl (by omega) (by decide) dX5_bearer_60 ?_
        refine hm_iret dX5_bearer_61 rfl (by decide) (by decide) ?_
        exact hQ _ _ ⟨by rw [hcc, e2] <;> rfl, h, md_fo.rf σ⟩
      · subst hsw
        refine hm_tableIn 62 dX5_bearer_18 (by decide) (by decide) (by rfl) (by decide) ?_
        refine hm_aload_n dX5_bearer_62 rfl ?_
        refine hm_getR lf_RX5_48 rfl rfl (by first | exact Nat.lt_of_lt_of_le (by decide) hN | assumption | (simp only [hm_n_wI, hm_n_wL, hm_n_wR, hm_n_g] at *; omega)) (hM 15) dX5_bearer_63 ?_
        refine hm_iload_n dX5_bearer_66 rfl ?_
        refine hm_iald _ rfl (by first | exact Nat.lt_of_lt_of_le (by decide) hN | assumption | (simp only [hm_n_wI, hm_n_wL, hm_n_wR, hm_n_g] at *; omega)) rfl (by omega) (by decide) dX5_bearer_67 ?_
        refine hm_iret dX5_bearer_68 rfl (by decide) (by decide) ?_
        exact hQ _ _ ⟨by rw [hcc, e3] <;> rfl, h, md_fo.rf σ⟩
      · subst hsw
        refine hm_tableIn 69 dX5_bearer_18 (by decide) (by decide) (by rfl) (by decide) ?_
        refine hm_aload_n dX5_bearer_69 rfl ?_
        refine hm_getR lf_RX5_51 rfl rfl (by first | exact Nat.lt_of_lt_of_le (by decide) hN | assumption | (simp only [hm_n_wI, hm_n_wL, hm_n_wR, hm_n_g] at *; omega)) (hM 16) dX5_bearer_70 ?_
        refine hm_iload_n dX5_bearer_73 rfl ?_
        refine hm_iald _ rfl (by first | exact Nat.lt_of_lt_of_le (by decide) hN | assumption | (simp only [hm_n_wI, hm_n_wL, hm_n_wR, hm_n_g] at *; omega)) rfl (by omega) (by decide) dX5_bearer_74 ?_
        refine hm_iret dX5_bearer_75 rfl (by decide) (by decide) ?_
        exact hQ _ _ ⟨by rw [hcc, e4] <;> rfl, h, md_fo.rf σ⟩
  · skip
    rw [bI_0] at h11
    have hc : oBearer α i what = -9 := by unfold oBearer; rw [h11]; rfl
    refine hm_bipush dX5_bearer_14 (v := -9) (by decide) ?_
    refine hm_iret dX5_bearer_16 rfl (by decide) (by decide) ?_
    exact hQ _ _ ⟨by rw [hc], h, md_fo.rf σ⟩
set_option maxRecDepth 100000 in
theorem r5_portableOf (h : rM α σ) (w : sW α) (p what : Int32) : hm_Ct l yX5_portableOf cX5_portableOf 3 (some .int) 2 0 0 [.ref 27, .int p, .int what] σ (fun r τ => r = some (.int (oPOf α p what)) ∧ rM α τ ∧ md_fo σ τ) := by
  obtain ⟨hN, hM⟩ := h.m
  have h8 := w.p8
  refine hm_startQ (ini := false) [.ref 27, .int p, .int what] (by decide) (by decide) rfl (Nat.le_of_ble_eq_true rfl) (fun Q hQ => ?_)
  refine hm_aload_n dX5_portableOf_0 rfl ?_
  refine hm_iload_n dX5_portableOf_1 rfl ?_
  refine hm_callV lm_RX5_99 (r5_isPortable l h w p) rfl rfl rfl rfl (by first | exact Nat.lt_of_lt_of_le (by decide) hN | assumption | (simp only [hm_n_wI, hm_n_wL, hm_n_wR, hm_n_g] at *; omega)) (by decide) (by decide) (Nat.le_of_ble_eq_true rfl) dX5_portableOf_2 ?_
  rintro _ t9 ⟨rfl, hh9⟩
  rw [hh9]
  clear hh9 t9
  refine hm_if_ne 11 dX5_portableOf_5 (by decide) (fun h5 => ?_) (fun h5 => ?_)
  · skip
    rw [bI_0] at h5
    have h5 := b_nf h5
    obtain ⟨a, ha, rfl⟩ := pIn_some (by omega) h5
    have ha8 : a < 8 := by omega
    obtain ⟨c1, c2, c3, c4, c5⟩ := h.q a ha8
    have hcc : ∀ y, oPOf α (nI a) y = (if y = 0 then aI α 1 a else if y = 1 then nI (aN α 3 a) else if y = 2 then aI α 2 a else if y = 3 then nI (pNb α a) else if y = 4 then bI (pHo α a) else if y = 5 then nI (aQ α 0 a).length else if y = 6 then nI (aQ α 1 a).length else if y = 7 then nI (aN α 7 a) else if y = 8 then aI α 0 a else if y = 9 then (if pPend (aI α 1 a) then nI (aN α 6 0) - aI α 3 a else 0) else -9) := fun y => by unfold oPOf; rw [h5, nI_clamp (by omega)]; rfl
    refine hm_iload_n dX5_portableOf_11 rfl ?_
    rcases sw_cases what 0 9 with hsw | ⟨kk, hk1, hk2, hsw⟩
    · skip
      refine hm_tableOut 176 dX5_portableOf_12 hsw (by decide) ?_
      have ne : ∀ k, k ≤ 9 → ¬ what = nI k := fun k hk => sw_ne (lo := 0) hsw (by decide) (by omega) hk
      have hc9 : oPOf α (nI a) what = -9 := by rw [hcc, if_neg (show ¬ what = 0 from ne 0 (by decide)), if_neg (show ¬ what = 1 from ne 1 (by decide)), if_neg (show ¬ what = 2 from ne 2 (by decide)), if_neg (show ¬ what = 3 from ne 3 (by decide)), if_neg (show ¬ what = 4 from ne 4 (by decide)), if_neg (show ¬ what = 5 from ne 5 (by decide)), if_neg (show ¬ what = 6 from ne 6 (by decide)), if_neg (show ¬ what = 7 from ne 7 (by decide)), if_neg (show ¬ what = 8 from ne 8 (by decide)), if_neg (show ¬ what = 9 from ne 9 (by decide))]
      refine hm_bipush dX5_portableOf_176 (v := -9) (by decide) ?_
      refine hm_iret dX5_portableOf_178 rfl (by decide) (by decide) ?_
      exact hQ _ _ ⟨by rw [hc9], h, md_fo.rf σ⟩
    · skip
      rcases (show kk = 0 ∨ kk = 1 ∨ kk = 2 ∨ kk = 3 ∨ kk = 4 ∨ kk = 5 ∨ kk = 6 ∨ kk = 7 ∨ kk = 8 ∨ kk = 9 by omega) with rfl | rfl | rfl | rfl | rfl | rfl | rfl | rfl | rfl | rfl
      · subst hsw
        refine hm_tableIn 68 dX5_portableOf_12 (by decide) (by decide) (by rfl) (by decide) ?_
        refine hm_aload_n dX5_portableOf_68 rfl ?_
        refine hm_getR lf_RX5_27 rfl rfl (by first | exact Nat.lt_of_lt_of_le (by decide) hN | assumption | (simp only [hm_n_wI, hm_n_wL, hm_n_wR, hm_n_g] at *; omega)) (hM 7) dX5_portableOf_69 ?_
        refine hm_iload_n dX5_portableOf_72 rfl ?_
        refine hm_iald _ rfl (by first | exact Nat.lt_of_lt_of_le (by decide) hN | assumption | (simp only [hm_n_wI, hm_n_wL, hm_n_wR, hm_n_g] at *; omega)) rfl (by omega) (by decide) dX5_portableOf_73 ?_
        refine hm_iret dX5_portableOf_74 rfl (by decide) (by decide) ?_
        exact hQ _ _ ⟨by rw [hcc, show hm_I σ 33 a = aI α 1 a from h.i 1 a ha8] <;> rfl, h, md_fo.rf σ⟩
      · subst hsw
        refine hm_tableIn 75 dX5_portableOf_12 (by decide) (by decide) (by rfl) (by decide) ?_
        refine hm_aload_n dX5_portableOf_75 rfl ?_
        refine hm_getR lf_RX5_13 rfl rfl (by first | exact Nat.lt_of_lt_of_le (by decide) hN | assumption | (simp only [hm_n_wI, hm_n_wL, hm_n_wR, hm_n_g] at *; omega)) (hM 3) dX5_portableOf_76 ?_
        refine hm_iload_n dX5_portableOf_79 rfl ?_
        refine hm_iald _ rfl (by first | exact Nat.lt_of_lt_of_le (by decide) hN | assumption | (simp only [hm_n_wI, hm_n_wL, hm_n_wR, hm_n_g] at *; omega)) rfl (by omega) (by decide) dX5_portableOf_80 ?_
        refine hm_iret dX5_portableOf_81 rfl (by decide) (by decide) ?_
        exact hQ _ _ ⟨by rw [hcc, show hm_I σ 29 a = nI (aN α 3 a) from h.n 3 a ha8] <;> rfl, h, md_fo.rf σ⟩
      · subst hsw
        refine hm_tableIn 82 dX5_portableOf_12 (by decide) (by decide) (by rfl) (by decide) ?_
        refine hm_aload_n dX5_portableOf_82 rfl ?_
        refine hm_getR lf_RX5_30 rfl rfl (by first | exact Nat.lt_of_lt_of_le (by decide) hN | assumption | (simp only [hm_n_wI, hm_n_wL, hm_n_wR, hm_n_g] at *; omega)) (hM 8) dX5_portableOf_83 ?_
        refine hm_iload_n dX5_portableOf_86 rfl ?_
        refine hm_iald _ rfl (by first | exact Nat.lt_of_lt_of_le (by decide) hN | assumption | (simp only [hm_n_wI, hm_n_wL, hm_n_wR, hm_n_g] at *; omega)) rfl (by omega) (by decide) dX5_portableOf_87 ?_
        refine hm_iret dX5_portableOf_88 rfl (by decide) (by decide) ?_
        exact hQ _ _ ⟨by rw [hcc, show hm_I σ 34 a = aI α 2 a from h.i 2 a ha8] <;> rfl, h, md_fo.rf σ⟩
      · subst hsw
        refine hm_tableIn 89 dX5_portableOf_12 (by decide) (by decide) (by rfl) (by decide) ?_
        refine hm_aload_n dX5_portableOf_89 rfl ?_
        refine hm_iload_n dX5_portableOf_90 rfl ?_
        refine hm_callV lm_RX5_151 (r5_bearersOf l h w ha8) rfl rfl rfl rfl (by first | exact Nat.lt_of_lt_of_le (by decide) hN | assumption | (simp only [hm_n_wI, hm_n_wL, hm_n_wR, hm_n_g] at *; omega)) (by decide) (by decide) (Nat.le_of_ble_eq_true rfl) dX5_portableOf_91 ?_
        rintro _ t9 ⟨rfl, hh9⟩
        rw [hh9]
        clear hh9 t9
        refine hm_iret dX5_portableOf_94 rfl (by decide) (by decide) ?_
        exact hQ _ _ ⟨by rw [hcc] <;> rfl, h, md_fo.rf σ⟩
      · subst hsw
        refine hm_tableIn 95 dX5_portableOf_12 (by decide) (by decide) (by rfl) (by decide) ?_
        refine hm_aload_n dX5_portableOf_95 rfl ?_
        refine hm_iload_n dX5_portableOf_96 rfl ?_
        refine hm_callV lm_RX5_157 (r5_handsOver l h w ha8) rfl rfl rfl rfl (by first | exact Nat.lt_of_lt_of_le (by decide) hN | assumption | (simp only [hm_n_wI, hm_n_wL, hm_n_wR, hm_n_g] at *; omega)) (by decide) (by decide) (Nat.le_of_ble_eq_true rfl) dX5_portableOf_97 ?_
        rintro _ t9 ⟨rfl, hh9⟩
        rw [hh9]
        clear hh9 t9
        refine hm_if_eq 107 dX5_portableOf_100 (by decide) (fun h100 => ?_) (fun h100 => ?_)
        · skip
          rw [bI_0] at h100
          have hc9 := hcc 4
          rw [h100] at hc9
          refine hm_iconst dX5_portableOf_107 (v := 0) (by decide) ?_
          refine hm_iret dX5_portableOf_108 rfl (by decide) (by decide) ?_
          exact hQ _ _ ⟨congrArg (fun z => some (Value.int z)) (show _ = oPOf α (nI a) _ from hc9.symm), h, md_fo.rf σ⟩
        · skip
          rw [bI_0] at h100
          have hc9 := hcc 4
          rw [b_nf h100] at hc9
          refine hm_iconst dX5_portableOf_103 (v := 1) (by decide) ?_
          refine hm_goto 108 dX5_portableOf_104 (by decide) ?_
          refine hm_iret dX5_portableOf_108 rfl (by decide) (by decide) ?_
          exact hQ _ _ ⟨congrArg (fun z => some (Value.int z)) (show _ = oPOf α (nI a) _ from hc9.symm), h, md_fo.rf σ⟩
      · subst hsw
        refine hm_tableIn 109 dX5_portableOf_12 (by decide) (by decide) (by rfl) (by decide) ?_
        refine hm_aload_n dX5_portableOf_109 rfl ?_
        refine hm_getR lf_RX5_57 rfl rfl (by first | exact Nat.lt_of_lt_of_le (by decide) hN | assumption | (simp only [hm_n_wI, hm_n_wL, hm_n_wR, hm_n_g] at *; omega)) (hM 18) dX5_portableOf_110 ?_
        refine hm_iload_n dX5_portableOf_113 rfl ?_
        refine hm_iald _ rfl (by first | exact Nat.lt_of_lt_of_le (by decide) hN | assumption | (simp only [hm_n_wI, hm_n_wL, hm_n_wR, hm_n_g] at *; omega)) rfl (by omega) (by decide) dX5_portableOf_114 ?_
        refine hm_iret dX5_portableOf_115 rfl (by decide) (by decide) ?_
        exact hQ _ _ ⟨by rw [hcc, c1] <;> rfl, h, md_fo.rf σ⟩
      · subst hsw
        refine hm_tableIn 116 dX5_portableOf_12 (by decide) (by decide) (by rfl) (by decide) ?_
        refine hm_aload_n dX5_portableOf_116 rfl ?_
        refine hm_getR lf_RX5_63 rfl rfl (by first | exact Nat.lt_of_lt_of_le (by decide) hN | assumption | (simp only [hm_n_wI, hm_n_wL, hm_n_wR, hm_n_g] at *; omega)) (hM 20) dX5_portableOf_117 ?_
        refine hm_iload_n dX5_portableOf_120 rfl ?_
        refine hm_iald _ rfl (by first | exact Nat.lt_of_lt_of_le (by decide) hN | assumption | (simp only [hm_n_wI, hm_n_wL, hm_n_wR, hm_n_g] at *; omega)) rfl (by omega) (by decide) dX5_portableOf_121 ?_
        refine hm_iret dX5_portableOf_122 rfl (by decide) (by decide) ?_
        exact hQ _ _ ⟨by rw [hcc, c2] <;> rfl, h, md_fo.rf σ⟩
      · subst hsw
        refine hm_tableIn 123 dX5_portableOf_12 (by decide) (by decide) (by rfl) (by decide) ?_
        refine hm_aload_n dX5_portableOf_123 rfl ?_
        refine hm_getR lf_RX5_69 rfl rfl (by first | exact Nat.lt_of_lt_of_le (by decide) hN | assumption | (simp only [hm_n_wI, hm_n_wL, hm_n_wR, hm_n_g] at *; omega)) (hM 22) dX5_portableOf_124 ?_
        refine hm_iload_n dX5_portableOf_127 rfl ?_
        refine hm_iald _ rfl (by first | exact Nat.lt_of_lt_of_le (by decide) hN | assumption | (simp only [hm_n_wI, hm_n_wL, hm_n_wR, hm_n_g] at *; omega)) rfl (by omega) (by decide) dX5_portableOf_128 ?_
        refine hm_iret dX5_portableOf_129 rfl (by decide) (by decide) ?_
        exact hQ _ _ ⟨by rw [hcc, show hm_I σ 47 a = nI (aN α 7 a) from h.n 7 a ha8] <;> rfl, h, md_fo.rf σ⟩
      · subst hsw
        refine hm_tableIn 130 dX5_portableOf_12 (by decide) (by decide) (by rfl) (by decide) ?_
        refine hm_aload_n dX5_portableOf_130 rfl ?_
        refine hm_getR lf_RX5_20 rfl rfl (by first | exact Nat.lt_of_lt_of_le (by decide) hN | assumption | (simp only [hm_n_wI, hm_n_wL, hm_n_wR, hm_n_g] at *; omega)) (hM 5) dX5_portableOf_131 ?_
        refine hm_iload_n dX5_portableOf_134 rfl ?_
        refine hm_zald _ rfl (by first | exact Nat.lt_of_lt_of_le (by decide) hN | assumption | (simp only [hm_n_wI, hm_n_wL, hm_n_wR, hm_n_g] at *; omega)) rfl (by omega) (by decide) dX5_portableOf_135 ?_
        rw [show hm_I σ 31 a = aI α 0 a from h.i 0 a ha8]
        refine hm_if_eq 143 dX5_portableOf_136 (by decide) (fun h136 => ?_) (fun h136 => ?_)
        · skip
          have hc9 := hcc 8
          rw [h136] at hc9
          refine hm_iconst dX5_portableOf_143 (v := 0) (by decide) ?_
          refine hm_iret dX5_portableOf_144 rfl (by decide) (by decide) ?_
          exact hQ _ _ ⟨congrArg (fun z => some (Value.int z)) (show _ = oPOf α (nI a) _ from hc9.symm), h, md_fo.rf σ⟩
        · skip
          have hc9 := hcc 8
          rw [(w.en a).resolve_left h136] at hc9
          refine hm_iconst dX5_portableOf_139 (v := 1) (by decide) ?_
          refine hm_goto 144 dX5_portableOf_140 (by decide) ?_
          refine hm_iret dX5_portableOf_144 rfl (by decide) (by decide) ?_
          exact hQ _ _ ⟨congrArg (fun z => some (Value.int z)) (show _ = oPOf α (nI a) _ from hc9.symm), h, md_fo.rf σ⟩
      · subst hsw
        refine hm_tableIn 145 dX5_portableOf_12 (by decide) (by decide) (by rfl) (by decide) ?_
        refine hm_aload_n dX5_portableOf_145 rfl ?_
        refine hm_getR lf_RX5_27 rfl rfl (by first | exact Nat.lt_of_lt_of_le (by decide) hN | assumption | (simp only [hm_n_wI, hm_n_wL, hm_n_wR, hm_n_g] at *; omega)) (hM 7) dX5_portableOf_146 ?_
        refine hm_iload_n dX5_portableOf_149 rfl ?_
        refine hm_iald _ rfl (by first | exact Nat.lt_of_lt_of_le (by decide) hN | assumption | (simp only [hm_n_wI, hm_n_wL, hm_n_wR, hm_n_g] at *; omega)) rfl (by omega) (by decide) dX5_portableOf_150 ?_
        rw [show hm_I σ 33 a = aI α 1 a from h.i 1 a ha8]
        refine hm_iconst dX5_portableOf_151 (v := 1) (by decide) ?_
        refine hm_bipush dX5_portableOf_152 (v := 6) (by decide) ?_
        refine hm_callS lm_RX5_88 (c5_in l _ _ _ _) rfl rfl (by decide) (by decide) (Nat.le_of_ble_eq_true rfl) dX5_portableOf_154 ?_
        rintro _ t9 ⟨rfl, hh9⟩
        rw [hh9]
        clear hh9 t9
        refine hm_if_eq 174 dX5_portableOf_157 (by decide) (fun h157 => ?_) (fun h157 => ?_)
        · skip
          rw [bI_0] at h157
          have h157 : pPend (aI α 1 a) = false := h157
          have hc9 := hcc 9
          rw [h157] at hc9
          refine hm_iconst dX5_portableOf_174 (v := 0) (by decide) ?_
          refine hm_iret dX5_portableOf_175 rfl (by decide) (by decide) ?_
          exact hQ _ _ ⟨congrArg (fun z => some (Value.int z)) (show _ = oPOf α (nI a) _ from hc9.symm), h, md_fo.rf σ⟩
        · skip
          rw [bI_0] at h157
          have h157 : pPend (aI α 1 a) = true := b_nf h157
          have hc9 := hcc 9
          rw [h157] at hc9
          refine hm_aload_n dX5_portableOf_160 rfl ?_
          refine hm_getI lf_RX5_103 rfl rfl (by first | exact Nat.lt_of_lt_of_le (by decide) hN | assumption | (simp only [hm_n_wI, hm_n_wL, hm_n_wR, hm_n_g] at *; omega)) dX5_portableOf_161 ?_
          rw [show hm_I σ 27 26 = nI (aN α 6 0) from h.n 6 0 (by decide)]
          refine hm_aload_n dX5_portableOf_164 rfl ?_
          refine hm_getR lf_RX5_33 rfl rfl (by first | exact Nat.lt_of_lt_of_le (by decide) hN | assumption | (simp only [hm_n_wI, hm_n_wL, hm_n_wR, hm_n_g] at *; omega)) (hM 9) dX5_portableOf_165 ?_
          refine hm_iload_n dX5_portableOf_168 rfl ?_
          refine hm_iald _ rfl (by first | exact Nat.lt_of_lt_of_le (by decide) hN | assumption | (simp only [hm_n_wI, hm_n_wL, hm_n_wR, hm_n_g] at *; omega)) rfl (by omega) (by decide) dX5_portableOf_169 ?_
          rw [show hm_I σ 35 a = aI α 3 a from h.i 3 a ha8]
          refine hm_isub dX5_portableOf_170 ?_
          refine hm_goto 175 dX5_portableOf_171 (by decide) ?_
          refine hm_iret dX5_portableOf_175 rfl (by decide) (by decide) ?_
          exact hQ _ _ ⟨congrArg (fun z => some (Value.int z)) (show _ = oPOf α (nI a) _ from hc9.symm), h, md_fo.rf σ⟩
  · skip
    rw [bI_0] at h5
    have hc : oPOf α p what = -9 := by unfold oPOf; rw [h5]; rfl
    refine hm_bipush dX5_portableOf_8 (v := -9) (by decide) ?_
    refine hm_iret dX5_portableOf_10 rfl (by decide) (by decide) ?_
    exact hQ _ _ ⟨by rw [hc], h, md_fo.rf σ⟩
end M17
