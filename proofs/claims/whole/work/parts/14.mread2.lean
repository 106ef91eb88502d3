/-! the reference's methods that only read, on -/
theorem ix120 (a b : Nat) : (120 : Int32) * nI a + nI b = nI (120 * a + b) := by
  rw [show (120 : Int32) = nI 120 from rfl, pk_mul, nI_add]
theorem ix120c (a b : Nat) : (120 : Int32) * ((16 : Int32) + nI a) + nI b = nI (120 * (16 + a) + b) := by
  rw [show (16 : Int32) = nI 16 from rfl, nI_add, ix120]
theorem div10 {a : Nat} (h : a < 2 ^ 31) : nI a / 10 = nI (a / 10) := pk_div (d := 10) h (by decide) (by decide)
theorem nI_0' {n : Nat} (h : n < 2 ^ 31) : nI n = 0 ↔ n = 0 := nI_eq (b := 0) h (by decide)
theorem pCnt_le (f : Nat → Bool) : ∀ n, pCnt f n ≤ n
  | 0 => Nat.le_refl _
  | n + 1 => by
    have := pCnt_le f n
    simp only [pCnt]
    split <;> omega
theorem pOSend_le {α : sA} (w : sW α) (c pl ch : Nat) : pOSend α c pl ch ≤ 4 := Nat.le_trans (pCnt_le _ _) w.c4
theorem pOTalk_le {α : sA} (w : sW α) (p c ch : Nat) : pOTalk α p c ch ≤ 8 := Nat.le_trans (pCnt_le _ _) w.p8
section M4
variable (l : Launch) {α : sA} {σ : hm_M}
set_option maxRecDepth 100000 in
theorem r5_isHeardAt (h : rM α σ) (w : sW α) {pl c ch : Nat} (hp : pl < 16) (hc : c < 4) (hch : ch < 120) : hm_Ct l yX5_isHeardAt cX5_isHeardAt 4 (some .boolean) 2 0 0 [.ref 27, .int (nI pl), .int (nI c), .int (nI ch)] σ (fun r τ => r = some (.int (bI (pHAt α pl c ch))) ∧ τ = σ) := by
  obtain ⟨hN, hM⟩ := h.m
  have e1 : hm_I σ 37 (120 * pl + ch) = nI (aN α 5 (120 * pl + ch)) := h.n 5 _ (by show _ < 2400; omega)
  have n1 := w.nz (120 * pl + ch)
  have q1 : nI (aN α 5 (120 * pl + ch)) = 0 ↔ aN α 5 (120 * pl + ch) = 0 := nI_0' (by omega)
  have n2 := pOSend_le w c pl ch
  have q2 : nI (pOSend α c pl ch) = 0 ↔ pOSend α c pl ch = 0 := nI_0' (by omega)
  refine hm_startQ (ini := false) [.ref 27, .int (nI pl), .int (nI c), .int (nI ch)] (by decide) (by decide) rfl (Nat.le_of_ble_eq_true rfl) (fun Q hQ => ?_)
  refine hm_aload_n dX5_isHeardAt_0 rfl ?_
  refine hm_iload_n dX5_isHeardAt_1 rfl ?_
  refine hm_iload_n dX5_isHeardAt_2 rfl ?_
  refine hm_callV lm_RX5_128 (r5_reaches l h w hc hp) rfl rfl rfl rfl (by first | exact Nat.lt_of_lt_of_le (by decide) hN | assumption | (simp only [hm_n_wI, hm_n_wL, hm_n_wR, hm_n_g] at *; omega)) (by decide) (by decide) (Nat.le_of_ble_eq_true rfl) dX5_isHeardAt_3 ?_
  rintro _ _ ⟨rfl, rfl⟩
  refine hm_if_eq 37 dX5_isHeardAt_6 (by decide) (fun h6 => ?_) (fun h6 => ?_)
  · skip
    rw [bI_0] at h6
    refine hm_iconst dX5_isHeardAt_37 (v := 0) (by decide) ?_
    refine hm_zret dX5_isHeardAt_38 rfl (by decide) (by decide) (by first | exact Or.inl rfl | exact Or.inr rfl | assumption) ?_
    exact hQ _ _ ⟨by simp_all [pHAt, bI], rfl⟩
  · skip
    rw [bI_0] at h6
    refine hm_aload_n dX5_isHeardAt_9 rfl ?_
    refine hm_getR lf_RX5_39 rfl rfl (by first | exact Nat.lt_of_lt_of_le (by decide) hN | assumption | (simp only [hm_n_wI, hm_n_wL, hm_n_wR, hm_n_g] at *; omega)) (hM 11) dX5_isHeardAt_10 ?_
    refine hm_bipush dX5_isHeardAt_13 (v := 120) (by decide) ?_
    refine hm_iload_n dX5_isHeardAt_15 rfl ?_
    refine hm_imul dX5_isHeardAt_16 ?_
    refine hm_iload_n dX5_isHeardAt_17 rfl ?_
    refine hm_iadd dX5_isHeardAt_18 ?_
    refine hm_zald (120 * pl + ch) rfl (by first | exact Nat.lt_of_lt_of_le (by decide) hN | assumption | (simp only [hm_n_wI, hm_n_wL, hm_n_wR, hm_n_g] at *; omega)) (ix120 _ _) (by omega) (by decide) dX5_isHeardAt_19 ?_
    rw [e1]
    refine hm_if_ne 37 dX5_isHeardAt_20 (by decide) (fun h20 => ?_) (fun h20 => ?_)
    · skip
      rw [q1] at h20
      refine hm_iconst dX5_isHeardAt_37 (v := 0) (by decide) ?_
      refine hm_zret dX5_isHeardAt_38 rfl (by decide) (by decide) (by first | exact Or.inl rfl | exact Or.inr rfl | assumption) ?_
      exact hQ _ _ ⟨by simp_all [pHAt, bI], rfl⟩
    · skip
      rw [q1] at h20
      refine hm_aload_n dX5_isHeardAt_23 rfl ?_
      refine hm_iload_n dX5_isHeardAt_24 rfl ?_
      refine hm_iload_n dX5_isHeardAt_25 rfl ?_
      refine hm_iload_n dX5_isHeardAt_26 rfl ?_
      refine hm_callV lm_RX5_135 (r5_othersSending l h w hc hp hch) rfl rfl rfl rfl (by first | exact Nat.lt_of_lt_of_le (by decide) hN | assumption | (simp only [hm_n_wI, hm_n_wL, hm_n_wR, hm_n_g] at *; omega)) (by decide) (by decide) (Nat.le_of_ble_eq_true rfl) dX5_isHeardAt_27 ?_
      rintro _ _ ⟨rfl, rfl⟩
      refine hm_if_ne 37 dX5_isHeardAt_30 (by decide) (fun h30 => ?_) (fun h30 => ?_)
      · skip
        rw [q2] at h30
        refine hm_iconst dX5_isHeardAt_37 (v := 0) (by decide) ?_
        refine hm_zret dX5_isHeardAt_38 rfl (by decide) (by decide) (by first | exact Or.inl rfl | exact Or.inr rfl | assumption) ?_
        exact hQ _ _ ⟨by simp_all [pHAt, bI], rfl⟩
      · skip
        rw [q2] at h30
        refine hm_iconst dX5_isHeardAt_33 (v := 1) (by decide) ?_
        refine hm_goto 38 dX5_isHeardAt_34 (by decide) ?_
        refine hm_zret dX5_isHeardAt_38 rfl (by decide) (by decide) (by first | exact Or.inl rfl | exact Or.inr rfl | assumption) ?_
        exact hQ _ _ ⟨by simp_all [pHAt, bI], rfl⟩
set_option maxRecDepth 100000 in
theorem r5_isHeardBy (h : rM α σ) (w : sW α) {c p ch : Nat} (hc : c < 4) (hp : p < 8) (hch : ch < 120) : hm_Ct l yX5_isHeardBy cX5_isHeardBy 4 (some .boolean) 2 0 0 [.ref 27, .int (nI c), .int (nI p), .int (nI ch)] σ (fun r τ => r = some (.int (bI (pHBy α c p ch))) ∧ τ = σ) := by
  obtain ⟨hN, hM⟩ := h.m
  have e0 : hm_I σ 29 p = nI (aN α 3 p) := h.n 3 p hp
  have e1 : hm_I σ 37 (120 * (16 + c) + ch) = nI (aN α 5 (120 * (16 + c) + ch)) := h.n 5 _ (by show _ < 2400; omega)
  have n1 := w.nz (120 * (16 + c) + ch)
  have q1 : nI (aN α 5 (120 * (16 + c) + ch)) = 0 ↔ aN α 5 (120 * (16 + c) + ch) = 0 := nI_0' (by omega)
  have n2 := pOTalk_le w p c ch
  have q2 : nI (pOTalk α p c ch) = 0 ↔ pOTalk α p c ch = 0 := nI_0' (by omega)
  refine hm_startQ (ini := false) [.ref 27, .int (nI c), .int (nI p), .int (nI ch)] (by decide) (by decide) rfl (Nat.le_of_ble_eq_true rfl) (fun Q hQ => ?_)
  refine hm_aload_n dX5_isHeardBy_0 rfl ?_
  refine hm_iload_n dX5_isHeardBy_1 rfl ?_
  refine hm_aload_n dX5_isHeardBy_2 rfl ?_
  refine hm_getR lf_RX5_13 rfl rfl (by first | exact Nat.lt_of_lt_of_le (by decide) hN | assumption | (simp only [hm_n_wI, hm_n_wL, hm_n_wR, hm_n_g] at *; omega)) (hM 3) dX5_isHeardBy_3 ?_
  refine hm_iload_n dX5_isHeardBy_6 rfl ?_
  refine hm_iald _ rfl (by first | exact Nat.lt_of_lt_of_le (by decide) hN | assumption | (simp only [hm_n_wI, hm_n_wL, hm_n_wR, hm_n_g] at *; omega)) rfl (by omega) (by decide) dX5_isHeardBy_7 ?_
  rw [e0]
  refine hm_callV lm_RX5_128 (r5_reaches l h w hc (w.pl p)) rfl rfl rfl rfl (by first | exact Nat.lt_of_lt_of_le (by decide) hN | assumption | (simp only [hm_n_wI, hm_n_wL, hm_n_wR, hm_n_g] at *; omega)) (by decide) (by decide) (Nat.le_of_ble_eq_true rfl) dX5_isHeardBy_8 ?_
  rintro _ _ ⟨rfl, rfl⟩
  refine hm_if_eq 45 dX5_isHeardBy_11 (by decide) (fun h11 => ?_) (fun h11 => ?_)
  · skip
    rw [bI_0] at h11
    refine hm_iconst dX5_isHeardBy_45 (v := 0) (by decide) ?_
    refine hm_zret dX5_isHeardBy_46 rfl (by decide) (by decide) (by first | exact Or.inl rfl | exact Or.inr rfl | assumption) ?_
    exact hQ _ _ ⟨by simp_all [pHBy, bI], rfl⟩
  · skip
    rw [bI_0] at h11
    refine hm_aload_n dX5_isHeardBy_14 rfl ?_
    refine hm_getR lf_RX5_39 rfl rfl (by first | exact Nat.lt_of_lt_of_le (by decide) hN | assumption | (simp only [hm_n_wI, hm_n_wL, hm_n_wR, hm_n_g] at *; omega)) (hM 11) dX5_isHeardBy_15 ?_
    refine hm_bipush dX5_isHeardBy_18 (v := 120) (by decide) ?_
    refine hm_bipush dX5_isHeardBy_20 (v := 16) (by decide) ?_
    refine hm_iload_n dX5_isHeardBy_22 rfl ?_
    refine hm_iadd dX5_isHeardBy_23 ?_
    refine hm_imul dX5_isHeardBy_24 ?_
    refine hm_iload_n dX5_isHeardBy_25 rfl ?_
    refine hm_iadd dX5_isHeardBy_26 ?_
    refine hm_zald (120 * (16 + c) + ch) rfl (by first | exact Nat.lt_of_lt_of_le (by decide) hN | assumption | (simp only [hm_n_wI, hm_n_wL, hm_n_wR, hm_n_g] at *; omega)) (ix120c _ _) (by omega) (by decide) dX5_isHeardBy_27 ?_
    rw [e1]
    refine hm_if_ne 45 dX5_isHeardBy_28 (by decide) (fun h28 => ?_) (fun h28 => ?_)
    · skip
      rw [q1] at h28
      refine hm_iconst dX5_isHeardBy_45 (v := 0) (by decide) ?_
      refine hm_zret dX5_isHeardBy_46 rfl (by decide) (by decide) (by first | exact Or.inl rfl | exact Or.inr rfl | assumption) ?_
      exact hQ _ _ ⟨by simp_all [pHBy, bI], rfl⟩
    · skip
      rw [q1] at h28
      refine hm_aload_n dX5_isHeardBy_31 rfl ?_
      refine hm_iload_n dX5_isHeardBy_32 rfl ?_
      refine hm_iload_n dX5_isHeardBy_33 rfl ?_
      refine hm_iload_n dX5_isHeardBy_34 rfl ?_
      refine hm_callV lm_RX5_139 (r5_othersTalking l h w hp hc hch) rfl rfl rfl rfl (by first | exact Nat.lt_of_lt_of_le (by decide) hN | assumption | (simp only [hm_n_wI, hm_n_wL, hm_n_wR, hm_n_g] at *; omega)) (by decide) (by decide) (Nat.le_of_ble_eq_true rfl) dX5_isHeardBy_35 ?_
      rintro _ _ ⟨rfl, rfl⟩
      refine hm_if_ne 45 dX5_isHeardBy_38 (by decide) (fun h38 => ?_) (fun h38 => ?_)
      · skip
        rw [q2] at h38
        refine hm_iconst dX5_isHeardBy_45 (v := 0) (by decide) ?_
        refine hm_zret dX5_isHeardBy_46 rfl (by decide) (by decide) (by first | exact Or.inl rfl | exact Or.inr rfl | assumption) ?_
        exact hQ _ _ ⟨by simp_all [pHBy, bI], rfl⟩
      · skip
        rw [q2] at h38
        refine hm_iconst dX5_isHeardBy_41 (v := 1) (by decide) ?_
        refine hm_goto 46 dX5_isHeardBy_42 (by decide) ?_
        refine hm_zret dX5_isHeardBy_46 rfl (by decide) (by decide) (by first | exact Or.inl rfl | exact Or.inr rfl | assumption) ?_
        exact hQ _ _ ⟨by simp_all [pHBy, bI], rfl⟩
set_option maxRecDepth 100000 in
theorem r5_levelOf (h : rM α σ) (w : sW α) {p c ch : Nat} (hp : p < 8) (hc : c < 4) (hch : ch < 120) : hm_Ct l yX5_levelOf cX5_levelOf 4 (some .int) 2 0 0 [.ref 27, .int (nI p), .int (nI c), .int (nI ch)] σ (fun r τ => r = some (.int (nI (pLev α p c ch))) ∧ τ = σ) := by
  obtain ⟨hN, hM⟩ := h.m
  have hpl := w.pl p
  have e0 : hm_I σ 29 p = nI (aN α 3 p) := h.n 3 p hp
  have e1 : hm_I σ 37 (120 * (16 + c) + ch) = nI (aN α 5 (120 * (16 + c) + ch)) := h.n 5 _ (by show _ < 2400; omega)
  have e2 : hm_I σ 37 (120 * aN α 3 p + ch) = nI (aN α 5 (120 * aN α 3 p + ch)) := h.n 5 _ (by show _ < 2400; omega)
  have n1 := w.nz (120 * (16 + c) + ch)
  have n2 := w.nz (120 * aN α 3 p + ch)
  have q1 : nI (aN α 5 (120 * (16 + c) + ch)) = 0 ↔ aN α 5 (120 * (16 + c) + ch) = 0 := nI_0' (by omega)
  have q2 : nI (aN α 5 (120 * aN α 3 p + ch)) = 0 ↔ aN α 5 (120 * aN α 3 p + ch) = 0 := nI_0' (by omega)
  have f4 : (4 : Int32) = nI 4 := rfl
  have f0 : (0 : Int32) = nI 0 := rfl
  refine hm_startQ (ini := false) [.ref 27, .int (nI p), .int (nI c), .int (nI ch)] (by decide) (by decide) rfl (Nat.le_of_ble_eq_true rfl) (fun Q hQ => ?_)
  refine hm_aload_n dX5_levelOf_0 rfl ?_
  refine hm_getR lf_RX5_39 rfl rfl (by first | exact Nat.lt_of_lt_of_le (by decide) hN | assumption | (simp only [hm_n_wI, hm_n_wL, hm_n_wR, hm_n_g] at *; omega)) (hM 11) dX5_levelOf_1 ?_
  refine hm_bipush dX5_levelOf_4 (v := 120) (by decide) ?_
  refine hm_aload_n dX5_levelOf_6 rfl ?_
  refine hm_getR lf_RX5_13 rfl rfl (by first | exact Nat.lt_of_lt_of_le (by decide) hN | assumption | (simp only [hm_n_wI, hm_n_wL, hm_n_wR, hm_n_g] at *; omega)) (hM 3) dX5_levelOf_7 ?_
  refine hm_iload_n dX5_levelOf_10 rfl ?_
  refine hm_iald _ rfl (by first | exact Nat.lt_of_lt_of_le (by decide) hN | assumption | (simp only [hm_n_wI, hm_n_wL, hm_n_wR, hm_n_g] at *; omega)) rfl (by omega) (by decide) dX5_levelOf_11 ?_
  rw [e0]
  refine hm_imul dX5_levelOf_12 ?_
  refine hm_iload_n dX5_levelOf_13 rfl ?_
  refine hm_iadd dX5_levelOf_14 ?_
  refine hm_zald (120 * aN α 3 p + ch) rfl (by first | exact Nat.lt_of_lt_of_le (by decide) hN | assumption | (simp only [hm_n_wI, hm_n_wL, hm_n_wR, hm_n_g] at *; omega)) (ix120 _ _) (by omega) (by decide) dX5_levelOf_15 ?_
  rw [e2]
  refine hm_if_eq 23 dX5_levelOf_16 (by decide) (fun h16 => ?_) (fun h16 => ?_)
  · skip
    rw [q2] at h16
    refine hm_iconst dX5_levelOf_23 (v := 0) (by decide) ?_
    refine hm_aload_n dX5_levelOf_24 rfl ?_
    refine hm_getR lf_RX5_39 rfl rfl (by first | exact Nat.lt_of_lt_of_le (by decide) hN | assumption | (simp only [hm_n_wI, hm_n_wL, hm_n_wR, hm_n_g] at *; omega)) (hM 11) dX5_levelOf_25 ?_
    refine hm_bipush dX5_levelOf_28 (v := 120) (by decide) ?_
    refine hm_bipush dX5_levelOf_30 (v := 16) (by decide) ?_
    refine hm_iload_n dX5_levelOf_32 rfl ?_
    refine hm_iadd dX5_levelOf_33 ?_
    refine hm_imul dX5_levelOf_34 ?_
    refine hm_iload_n dX5_levelOf_35 rfl ?_
    refine hm_iadd dX5_levelOf_36 ?_
    refine hm_zald (120 * (16 + c) + ch) rfl (by first | exact Nat.lt_of_lt_of_le (by decide) hN | assumption | (simp only [hm_n_wI, hm_n_wL, hm_n_wR, hm_n_g] at *; omega)) (ix120c _ _) (by omega) (by decide) dX5_levelOf_37 ?_
    rw [e1]
    refine hm_if_eq 45 dX5_levelOf_38 (by decide) (fun h38 => ?_) (fun h38 => ?_)
    · skip
      rw [q1] at h38
      refine hm_iconst dX5_levelOf_45 (v := 0) (by decide) ?_
      refine hm_iadd dX5_levelOf_46 ?_
      refine hm_aload_n dX5_levelOf_47 rfl ?_
      refine hm_iload_n dX5_levelOf_48 rfl ?_
      refine hm_aload_n dX5_levelOf_49 rfl ?_
      refine hm_getR lf_RX5_13 rfl rfl (by first | exact Nat.lt_of_lt_of_le (by decide) hN | assumption | (simp only [hm_n_wI, hm_n_wL, hm_n_wR, hm_n_g] at *; omega)) (hM 3) dX5_levelOf_50 ?_
      refine hm_iload_n dX5_levelOf_53 rfl ?_
      refine hm_iald _ rfl (by first | exact Nat.lt_of_lt_of_le (by decide) hN | assumption | (simp only [hm_n_wI, hm_n_wL, hm_n_wR, hm_n_g] at *; omega)) rfl (by omega) (by decide) dX5_levelOf_54 ?_
      rw [e0]
      refine hm_iload_n dX5_levelOf_55 rfl ?_
      refine hm_callV lm_RX5_135 (r5_othersSending l h w hc hpl hch) rfl rfl rfl rfl (by first | exact Nat.lt_of_lt_of_le (by decide) hN | assumption | (simp only [hm_n_wI, hm_n_wL, hm_n_wR, hm_n_g] at *; omega)) (by decide) (by decide) (Nat.le_of_ble_eq_true rfl) dX5_levelOf_56 ?_
      rintro _ _ ⟨rfl, rfl⟩
      refine hm_iadd dX5_levelOf_59 ?_
      refine hm_aload_n dX5_levelOf_60 rfl ?_
      refine hm_iload_n dX5_levelOf_61 rfl ?_
      refine hm_iload_n dX5_levelOf_62 rfl ?_
      refine hm_iload_n dX5_levelOf_63 rfl ?_
      refine hm_callV lm_RX5_139 (r5_othersTalking l h w hp hc hch) rfl rfl rfl rfl (by first | exact Nat.lt_of_lt_of_le (by decide) hN | assumption | (simp only [hm_n_wI, hm_n_wL, hm_n_wR, hm_n_g] at *; omega)) (by decide) (by decide) (Nat.le_of_ble_eq_true rfl) dX5_levelOf_64 ?_
      rintro _ _ ⟨rfl, rfl⟩
      refine hm_iadd dX5_levelOf_67 ?_
      refine hm_iret dX5_levelOf_68 rfl (by decide) (by decide) ?_
      exact hQ _ _ ⟨by simp only [pLev, h16, h38, if_true, if_false, f4, f0, nI_add], rfl⟩
    · skip
      rw [q1] at h38
      refine hm_iconst dX5_levelOf_41 (v := 4) (by decide) ?_
      refine hm_goto 46 dX5_levelOf_42 (by decide) ?_
      refine hm_iadd dX5_levelOf_46 ?_
      refine hm_aload_n dX5_levelOf_47 rfl ?_
      refine hm_iload_n dX5_levelOf_48 rfl ?_
      refine hm_aload_n dX5_levelOf_49 rfl ?_
      refine hm_getR lf_RX5_13 rfl rfl (by first | exact Nat.lt_of_lt_of_le (by decide) hN | assumption | (simp only [hm_n_wI, hm_n_wL, hm_n_wR, hm_n_g] at *; omega)) (hM 3) dX5_levelOf_50 ?_
      refine hm_iload_n dX5_levelOf_53 rfl ?_
      refine hm_iald _ rfl (by first | exact Nat.lt_of_lt_of_le (by decide) hN | assumption | (simp only [hm_n_wI, hm_n_wL, hm_n_wR, hm_n_g] at *; omega)) rfl (by omega) (by decide) dX5_levelOf_54 ?_
      rw [e0]
      refine hm_iload_n dX5_levelOf_55 rfl ?_
      refine hm_callV lm_RX5_135 (r5_othersSending l h w hc hpl hch) rfl rfl rfl rfl (by first | exact Nat.lt_of_lt_of_le (by decide) hN | assumption | (simp only [hm_n_wI, hm_n_wL, hm_n_wR, hm_n_g] at *; omega)) (by decide) (by decide) (Nat.le_of_ble_eq_true rfl) dX5_levelOf_56 ?_
      rintro _ _ ⟨rfl, rfl⟩
      refine hm_iadd dX5_levelOf_59 ?_
      refine hm_aload_n dX5_levelOf_60 rfl ?_
      refine hm_iload_n dX5_levelOf_61 rfl ?_
      refine hm_iload_n dX5_levelOf_62 rfl ?_
      refine hm_iload_n dX5_levelOf_63 rfl ?_
      refine hm_callV lm_RX5_139 (r5_othersTalking l h w hp hc hch) rfl rfl rfl rfl (by first | exact Nat.lt_of_lt_of_le (by decide) hN | assumption | (simp only [hm_n_wI, hm_n_wL, hm_n_wR, hm_n_g] at *; omega)) (by decide) (by decide) (Nat.le_of_ble_eq_true rfl) dX5_levelOf_64 ?_
      rintro _ _ ⟨rfl, rfl⟩
      refine hm_iadd dX5_levelOf_67 ?_
      refine hm_iret dX5_levelOf_68 rfl (by decide) (by decide) ?_
      exact hQ _ _ ⟨by simp only [pLev, h16, h38, if_true, if_false, f4, f0, nI_add], rfl⟩
  · skip
    rw [q2] at h16
    refine hm_iconst dX5_levelOf_19 (v := 4) (by decide) ?_
    refine hm_goto 24 dX5_levelOf_20 (by decide) ?_
    refine hm_aload_n dX5_levelOf_24 rfl ?_
    refine hm_getR lf_RX5_39 rfl rfl (by first | exact Nat.lt_of_lt_of_le (by decide) hN | assumption | (simp only [hm_n_wI, hm_n_wL, hm_n_wR, hm_n_g] at *; omega)) (hM 11) dX5_levelOf_25 ?_
    refine hm_bipush dX5_levelOf_28 (v := 120) (by decide) ?_
    refine hm_bipush dX5_levelOf_30 (v := 16) (by decide) ?_
    refine hm_iload_n dX5_levelOf_32 rfl ?_
    refine hm_iadd dX5_levelOf_33 ?_
    refine hm_imul dX5_levelOf_34 ?_
    refine hm_iload_n dX5_levelOf_35 rfl ?_
    refine hm_iadd dX5_levelOf_36 ?_
    refine hm_zald (120 * (16 + c) + ch) rfl (by first | exact Nat.lt_of_lt_of_le (by decide) hN | assumption | (simp only [hm_n_wI, hm_n_wL, hm_n_wR, hm_n_g] at *; omega)) (ix120c _ _) (by omega) (by decide) dX5_levelOf_37 ?_
    rw [e1]
    refine hm_if_eq 45 dX5_levelOf_38 (by decide) (fun h38 => ?_) (fun h38 => ?_)
    · skip
      rw [q1] at h38
      refine hm_iconst dX5_levelOf_45 (v := 0) (by decide) ?_
      refine hm_iadd dX5_levelOf_46 ?_
      refine hm_aload_n dX5_levelOf_47 rfl ?_
      refine hm_iload_n dX5_levelOf_48 rfl ?_
      refine hm_aload_n dX5_levelOf_49 rfl ?_
      refine hm_getR lf_RX5_13 rfl rfl (by first | exact Nat.lt_of_lt_of_le (by decide) hN | assumption | (simp only [hm_n_wI, hm_n_wL, hm_n_wR, hm_n_g] at *; omega)) (hM 3) dX5_levelOf_50 ?_
      refine hm_iload_n dX5_levelOf_53 rfl ?_
      refine hm_iald _ rfl (by first | exact Nat.lt_of_lt_of_le (by decide) hN | assumption | (simp only [hm_n_wI, hm_n_wL, hm_n_wR, hm_n_g] at *; omega)) rfl (by omega) (by decide) dX5_levelOf_54 ?_
      rw [e0]
      refine hm_iload_n dX5_levelOf_55 rfl ?_
      refine hm_callV lm_RX5_135 (r5_othersSending l h w hc hpl hch) rfl rfl rfl rfl (by first | exact Nat.lt_of_lt_of_le (by decide) hN | assumption | (simp only [hm_n_wI, hm_n_wL, hm_n_wR, hm_n_g] at *; omega)) (by decide) (by decide) (Nat.le_of_ble_eq_true rfl) dX5_levelOf_56 ?_
      rintro _ _ ⟨rfl, rfl⟩
      refine hm_iadd dX5_levelOf_59 ?_
      refine hm_aload_n dX5_levelOf_60 rfl ?_
      refine hm_iload_n dX5_levelOf_61 rfl ?_
      refine hm_iload_n dX5_levelOf_62 rfl ?_
      refine hm_iload_n dX5_levelOf_63 rfl ?_
      refine hm_callV lm_RX5_139 (r5_othersTalking l h w hp hc hch) rfl rfl rfl rfl (by first | exact Nat.lt_of_lt_of_le (by decide) hN | assumption | (simp only [hm_n_wI, hm_n_wL, hm_n_wR, hm_n_g] at *; omega)) (by decide) (by decide) (Nat.le_of_ble_eq_true rfl) dX5_levelOf_64 ?_
      rintro _ _ ⟨rfl, rfl⟩
      refine hm_iadd dX5_levelOf_67 ?_
      refine hm_iret dX5_levelOf_68 rfl (by decide) (by decide) ?_
      exact hQ _ _ ⟨by simp only [pLev, h16, h38, if_true, if_false, f4, f0, nI_add], rfl⟩
    · skip
      rw [q1] at h38
      refine hm_iconst dX5_levelOf_41 (v := 4) (by decide) ?_
      refine hm_goto 46 dX5_levelOf_42 (by decide) ?_
      refine hm_iadd dX5_levelOf_46 ?_
      refine hm_aload_n dX5_levelOf_47 rfl ?_
      refine hm_iload_n dX5_levelOf_48 rfl ?_
      refine hm_aload_n dX5_levelOf_49 rfl ?_
      refine hm_getR lf_RX5_13 rfl rfl (by first | exact Nat.lt_of_lt_of_le (by decide) hN | assumption | (simp only [hm_n_wI, hm_n_wL, hm_n_wR, hm_n_g] at *; omega)) (hM 3) dX5_levelOf_50 ?_
      refine hm_iload_n dX5_levelOf_53 rfl ?_
      refine hm_iald _ rfl (by first | exact Nat.lt_of_lt_of_le (by decide) hN | assumption | (simp only [hm_n_wI, hm_n_wL, hm_n_wR, hm_n_g] at *; omega)) rfl (by omega) (by decide) dX5_levelOf_54 ?_
      rw [e0]
      refine hm_iload_n dX5_levelOf_55 rfl ?_
      refine hm_callV lm_RX5_135 (r5_othersSending l h w hc hpl hch) rfl rfl rfl rfl (by first | exact Nat.lt_of_lt_of_le (by decide) hN | assumption | (simp only [hm_n_wI, hm_n_wL, hm_n_wR, hm_n_g] at *; omega)) (by decide) (by decide) (Nat.le_of_ble_eq_true rfl) dX5_levelOf_56 ?_
      rintro _ _ ⟨rfl, rfl⟩
      refine hm_iadd dX5_levelOf_59 ?_
      refine hm_aload_n dX5_levelOf_60 rfl ?_
      refine hm_iload_n dX5_levelOf_61 rfl ?_
      refine hm_iload_n dX5_levelOf_62 rfl ?_
      refine hm_iload_n dX5_levelOf_63 rfl ?_
      refine hm_callV lm_RX5_139 (r5_othersTalking l h w hp hc hch) rfl rfl rfl rfl (by first | exact Nat.lt_of_lt_of_le (by decide) hN | assumption | (simp only [hm_n_wI, hm_n_wL, hm_n_wR, hm_n_g] at *; omega)) (by decide) (by decide) (Nat.le_of_ble_eq_true rfl) dX5_levelOf_64 ?_
      rintro _ _ ⟨rfl, rfl⟩
      refine hm_iadd dX5_levelOf_67 ?_
      refine hm_iret dX5_levelOf_68 rfl (by decide) (by decide) ?_
      exact hQ _ _ ⟨by simp only [pLev, h16, h38, if_true, if_false, f4, f0, nI_add], rfl⟩
set_option maxRecDepth 100000 in
theorem r5_bearersOf (h : rM α σ) (w : sW α) {p : Nat} (hp : p < 8) : hm_Ct l yX5_bearersOf cX5_bearersOf 4 (some .int) 0 0 0 [.ref 27, .int (nI p)] σ (fun r τ => r = some (.int (nI (pNb α p))) ∧ τ = σ) := by
  obtain ⟨hN, hM⟩ := h.m
  obtain ⟨hb1, hb2⟩ := h.b
  have hlen := w.len
  refine hm_startQ (ini := false) [.ref 27, .int (nI p), hm_u, hm_u] (by decide) (by decide) rfl (Nat.le_of_ble_eq_true rfl) (fun Q hQ => ?_)
  have hl : ∀ (k b : Nat) (v u : Int32), b + k = (aB α).length → v = nI (((aB α).take b).countP (fun x => decide (bOf x = p))) → u = nI b → hm_V l RX5 cX5_bearersOf 4 (some .int) false (hm_rm 0 0 0) 0 0 Q 0 0 4 [.ref 27, .int (nI p), .int v, .int u] [] σ := by
    intro k
    induction k with
    | zero =>
      intro b v u hk hv hu
      subst hu
      have hb : b = (aB α).length := by omega
      subst hb
      rw [List.take_length] at hv
      refine hm_iload_n dX5_bearersOf_4 rfl ?_
      refine hm_aload_n dX5_bearersOf_5 rfl ?_
      refine hm_getI lf_RX5_109 rfl rfl (by first | exact Nat.lt_of_lt_of_le (by decide) hN | assumption | (simp only [hm_n_wI, hm_n_wL, hm_n_wR, hm_n_g] at *; omega)) dX5_bearersOf_6 ?_
      rw [hb1]
      refine hm_icmp_ge 36 dX5_bearersOf_9 (by decide) (fun _ => ?_) (fun h9 => absurd (nI_le (Nat.le_refl _) (by omega)) h9)
      refine hm_iload_n dX5_bearersOf_36 rfl ?_
      refine hm_iret dX5_bearersOf_37 rfl (by decide) (by decide) ?_
      exact hQ _ _ ⟨by rw [hv]; rfl, rfl⟩
    | succ k ih =>
      intro b v u hk hv hu
      subst hu
      obtain ⟨x, hx⟩ : ∃ x, (aB α)[b]? = some x := ⟨_, List.getElem?_eq_getElem (by omega)⟩
      obtain ⟨e1, e2, e3, e4, e5⟩ := hb2 b x hx
      obtain ⟨x1, x2, x3⟩ := w.xb hx
      have q1 : nI (bOf x) = nI p ↔ bOf x = p := nI_eq (by omega) (by omega)
      have ih2 := ih (b + 1)
      rw [countP_take hx] at ih2
      subst hv
      refine hm_iload_n dX5_bearersOf_4 rfl ?_
      refine hm_aload_n dX5_bearersOf_5 rfl ?_
      refine hm_getI lf_RX5_109 rfl rfl (by first | exact Nat.lt_of_lt_of_le (by decide) hN | assumption | (simp only [hm_n_wI, hm_n_wL, hm_n_wR, hm_n_g] at *; omega)) dX5_bearersOf_6 ?_
      rw [hb1]
      refine hm_icmp_ge 36 dX5_bearersOf_9 (by decide) (fun h9 => absurd h9 (nI_ge (by omega) (by omega))) (fun _ => ?_)
      refine hm_iload_n dX5_bearersOf_12 rfl ?_
      refine hm_aload_n dX5_bearersOf_13 rfl ?_
      refine hm_getR lf_RX5_42 rfl rfl (by first | exact Nat.lt_of_lt_of_le (by decide) hN | assumption | (simp only [hm_n_wI, hm_n_wL, hm_n_wR, hm_n_g] at *; omega)) (hM 13) dX5_bearersOf_14 ?_
      refine hm_iload_n dX5_bearersOf_17 rfl ?_
      refine hm_iald _ rfl (by first | exact Nat.lt_of_lt_of_le (by decide) hN | assumption | (simp only [hm_n_wI, hm_n_wL, hm_n_wR, hm_n_g] at *; omega)) rfl (by omega) (by decide) dX5_bearersOf_18 ?_
      rw [e1]
      refine hm_iload_n dX5_bearersOf_19 rfl ?_
      refine hm_icmp_ne 27 dX5_bearersOf_20 (by decide) (fun h20 => ?_) (fun h20 => ?_)
      · skip
        rw [q1] at h20
        refine hm_iconst dX5_bearersOf_27 (v := 0) (by decide) ?_
        refine hm_iadd dX5_bearersOf_28 ?_
        refine hm_istore_n dX5_bearersOf_29 (by decide) rfl ?_
        refine hm_iinc dX5_bearersOf_30 rfl _ rfl (by decide) rfl ?_
        refine hm_goto 4 dX5_bearersOf_33 (by decide) ?_
        exact ih2 _ _ (by omega) (by simp_all [nI_succ]) (hm_inc b)
      · skip
        rw [q1] at h20
        refine hm_iconst dX5_bearersOf_23 (v := 1) (by decide) ?_
        refine hm_goto 28 dX5_bearersOf_24 (by decide) ?_
        refine hm_iadd dX5_bearersOf_28 ?_
        refine hm_istore_n dX5_bearersOf_29 (by decide) rfl ?_
        refine hm_iinc dX5_bearersOf_30 rfl _ rfl (by decide) rfl ?_
        refine hm_goto 4 dX5_bearersOf_33 (by decide) ?_
        exact ih2 _ _ (by omega) (by simp_all [nI_succ]) (hm_inc b)
  refine hm_iconst dX5_bearersOf_0 (v := 0) (by decide) ?_
  refine hm_istore_n dX5_bearersOf_1 (by decide) rfl ?_
  refine hm_iconst dX5_bearersOf_2 (v := 0) (by decide) ?_
  refine hm_istore_n dX5_bearersOf_3 (by decide) rfl ?_
  exact hl _ 0 _ _ (Nat.zero_add _) rfl rfl
set_option maxRecDepth 100000 in
theorem r5_isGood (h : rM α σ) (w : sW α) {p : Nat} (hp : p < 8) : hm_Ct l yX5_isGood cX5_isGood 4 (some .boolean) 0 0 0 [.ref 27, .int (nI p)] σ (fun r τ => r = some (.int (bI (pGood α p))) ∧ τ = σ) := by
  obtain ⟨hN, hM⟩ := h.m
  obtain ⟨hb1, hb2⟩ := h.b
  have hlen := w.len
  refine hm_startQ (ini := false) [.ref 27, .int (nI p), hm_u, hm_u] (by decide) (by decide) rfl (Nat.le_of_ble_eq_true rfl) (fun Q hQ => ?_)
  have hl : ∀ (k b : Nat) (v u : Int32), b + k = (aB α).length → v = bI (((aB α).take b).any (fun x => decide (bOf x = p) && bGd x)) → u = nI b → hm_V l RX5 cX5_isGood 4 (some .boolean) false (hm_rm 0 0 0) 0 0 Q 0 0 4 [.ref 27, .int (nI p), .int v, .int u] [] σ := by
    intro k
    induction k with
    | zero =>
      intro b v u hk hv hu
      subst hu
      have hb : b = (aB α).length := by omega
      subst hb
      rw [List.take_length] at hv
      refine hm_iload_n dX5_isGood_4 rfl ?_
      refine hm_aload_n dX5_isGood_5 rfl ?_
      refine hm_getI lf_RX5_109 rfl rfl (by first | exact Nat.lt_of_lt_of_le (by decide) hN | assumption | (simp only [hm_n_wI, hm_n_wL, hm_n_wR, hm_n_g] at *; omega)) dX5_isGood_6 ?_
      rw [hb1]
      refine hm_icmp_ge 47 dX5_isGood_9 (by decide) (fun _ => ?_) (fun h9 => absurd (nI_le (Nat.le_refl _) (by omega)) h9)
      refine hm_iload_n dX5_isGood_47 rfl ?_
      refine hm_zret dX5_isGood_48 rfl (by decide) (by decide) (by rw [hv]; exact bI_01 _) ?_
      exact hQ _ _ ⟨by rw [hv]; rfl, rfl⟩
    | succ k ih =>
      intro b v u hk hv hu
      subst hu
      obtain ⟨x, hx⟩ : ∃ x, (aB α)[b]? = some x := ⟨_, List.getElem?_eq_getElem (by omega)⟩
      obtain ⟨e1, e2, e3, e4, e5⟩ := hb2 b x hx
      obtain ⟨x1, x2, x3⟩ := w.xb hx
      have q1 : nI (bOf x) = nI p ↔ bOf x = p := nI_eq (by omega) (by omega)
      have ih2 := ih (b + 1)
      rw [any_take hx] at ih2
      generalize (((aB α).take b).any (fun x => decide (bOf x = p) && bGd x)) = A at hv ih2
      subst hv
      refine hm_iload_n dX5_isGood_4 rfl ?_
      refine hm_aload_n dX5_isGood_5 rfl ?_
      refine hm_getI lf_RX5_109 rfl rfl (by first | exact Nat.lt_of_lt_of_le (by decide) hN | assumption | (simp only [hm_n_wI, hm_n_wL, hm_n_wR, hm_n_g] at *; omega)) dX5_isGood_6 ?_
      rw [hb1]
      refine hm_icmp_ge 47 dX5_isGood_9 (by decide) (fun h9 => absurd h9 (nI_ge (by omega) (by omega))) (fun _ => ?_)
      refine hm_iload_n dX5_isGood_12 rfl ?_
      refine hm_if_ne 35 dX5_isGood_13 (by decide) (fun h13 => ?_) (fun h13 => ?_)
      · skip
        refine hm_iconst dX5_isGood_35 (v := 1) (by decide) ?_
        refine hm_goto 40 dX5_isGood_36 (by decide) ?_
        refine hm_istore_n dX5_isGood_40 (by decide) rfl ?_
        refine hm_iinc dX5_isGood_41 rfl _ rfl (by decide) rfl ?_
        refine hm_goto 4 dX5_isGood_44 (by decide) ?_
        exact ih2 _ _ (by omega) (by cases A <;> simp_all [bI]) (hm_inc b)
      · skip
        refine hm_aload_n dX5_isGood_16 rfl ?_
        refine hm_getR lf_RX5_42 rfl rfl (by first | exact Nat.lt_of_lt_of_le (by decide) hN | assumption | (simp only [hm_n_wI, hm_n_wL, hm_n_wR, hm_n_g] at *; omega)) (hM 13) dX5_isGood_17 ?_
        refine hm_iload_n dX5_isGood_20 rfl ?_
        refine hm_iald _ rfl (by first | exact Nat.lt_of_lt_of_le (by decide) hN | assumption | (simp only [hm_n_wI, hm_n_wL, hm_n_wR, hm_n_g] at *; omega)) rfl (by omega) (by decide) dX5_isGood_21 ?_
        rw [e1]
        refine hm_iload_n dX5_isGood_22 rfl ?_
        refine hm_icmp_ne 39 dX5_isGood_23 (by decide) (fun h23 => ?_) (fun h23 => ?_)
        · skip
          rw [q1] at h23
          refine hm_iconst dX5_isGood_39 (v := 0) (by decide) ?_
          refine hm_istore_n dX5_isGood_40 (by decide) rfl ?_
          refine hm_iinc dX5_isGood_41 rfl _ rfl (by decide) rfl ?_
          refine hm_goto 4 dX5_isGood_44 (by decide) ?_
          exact ih2 _ _ (by omega) (by cases A <;> simp_all [bI]) (hm_inc b)
        · skip
          rw [q1] at h23
          refine hm_aload_n dX5_isGood_26 rfl ?_
          refine hm_getR lf_RX5_54 rfl rfl (by first | exact Nat.lt_of_lt_of_le (by decide) hN | assumption | (simp only [hm_n_wI, hm_n_wL, hm_n_wR, hm_n_g] at *; omega)) (hM 17) dX5_isGood_27 ?_
          refine hm_iload_n dX5_isGood_30 rfl ?_
          refine hm_zald _ rfl (by first | exact Nat.lt_of_lt_of_le (by decide) hN | assumption | (simp only [hm_n_wI, hm_n_wL, hm_n_wR, hm_n_g] at *; omega)) rfl (by omega) (by decide) dX5_isGood_31 ?_
          rw [e5]
          refine hm_if_eq 39 dX5_isGood_32 (by decide) (fun h32 => ?_) (fun h32 => ?_)
          · skip
            rw [bI_0] at h32
            refine hm_iconst dX5_isGood_39 (v := 0) (by decide) ?_
            refine hm_istore_n dX5_isGood_40 (by decide) rfl ?_
            refine hm_iinc dX5_isGood_41 rfl _ rfl (by decide) rfl ?_
            refine hm_goto 4 dX5_isGood_44 (by decide) ?_
            exact ih2 _ _ (by omega) (by cases A <;> simp_all [bI]) (hm_inc b)
          · skip
            rw [bI_0] at h32
            refine hm_iconst dX5_isGood_35 (v := 1) (by decide) ?_
            refine hm_goto 40 dX5_isGood_36 (by decide) ?_
            refine hm_istore_n dX5_isGood_40 (by decide) rfl ?_
            refine hm_iinc dX5_isGood_41 rfl _ rfl (by decide) rfl ?_
            refine hm_goto 4 dX5_isGood_44 (by decide) ?_
            exact ih2 _ _ (by omega) (by cases A <;> simp_all [bI]) (hm_inc b)
  refine hm_iconst dX5_isGood_0 (v := 0) (by decide) ?_
  refine hm_istore_n dX5_isGood_1 (by decide) rfl ?_
  refine hm_iconst dX5_isGood_2 (v := 0) (by decide) ?_
  refine hm_istore_n dX5_isGood_3 (by decide) rfl ?_
  exact hl _ 0 _ _ (Nat.zero_add _) rfl rfl
set_option maxRecDepth 100000 in
theorem r5_isSlotTaken (h : rM α σ) (w : sW α) {p c sl : Nat} (hp : p < 8) (hc : c < 4) (hs : sl < 120) : hm_Ct l yX5_isSlotTaken cX5_isSlotTaken 6 (some .boolean) 0 0 0 [.ref 27, .int (nI p), .int (nI c), .int (nI sl)] σ (fun r τ => r = some (.int (bI (pTaken α p c sl))) ∧ τ = σ) := by
  obtain ⟨hN, hM⟩ := h.m
  obtain ⟨hb1, hb2⟩ := h.b
  have hlen := w.len
  have e0 : hm_I σ 28 c = nI (aN α 2 c) := h.n 2 c hc
  have h0 := w.bc c
  have q0 : nI (aN α 2 c / 10) = nI sl ↔ aN α 2 c / 10 = sl := nI_eq (by omega) (by omega)
  refine hm_startQ (ini := false) [.ref 27, .int (nI p), .int (nI c), .int (nI sl), hm_u, hm_u] (by decide) (by decide) rfl (Nat.le_of_ble_eq_true rfl) (fun Q hQ => ?_)
  have hl : ∀ (k b : Nat) (v u : Int32), b + k = (aB α).length → v = bI (decide (aN α 2 c / 10 = sl) || ((aB α).take b).any (fun x => (decide (bAt x = c) || decide (bOf x = p)) && decide (bCh x / 10 = sl))) → u = nI b → hm_V l RX5 cX5_isSlotTaken 6 (some .boolean) false (hm_rm 0 0 0) 0 0 Q 0 0 23 [.ref 27, .int (nI p), .int (nI c), .int (nI sl), .int v, .int u] [] σ := by
    intro k
    induction k with
    | zero =>
      intro b v u hk hv hu
      subst hu
      have hb : b = (aB α).length := by omega
      subst hb
      rw [List.take_length] at hv
      refine hm_iload dX5_isSlotTaken_23 rfl ?_
      refine hm_aload_n dX5_isSlotTaken_25 rfl ?_
      refine hm_getI lf_RX5_109 rfl rfl (by first | exact Nat.lt_of_lt_of_le (by decide) hN | assumption | (simp only [hm_n_wI, hm_n_wL, hm_n_wR, hm_n_g] at *; omega)) dX5_isSlotTaken_26 ?_
      rw [hb1]
      refine hm_icmp_ge 86 dX5_isSlotTaken_29 (by decide) (fun _ => ?_) (fun h29 => absurd (nI_le (Nat.le_refl _) (by omega)) h29)
      refine hm_iload dX5_isSlotTaken_86 rfl ?_
      refine hm_zret dX5_isSlotTaken_88 rfl (by decide) (by decide) (by rw [hv]; exact bI_01 _) ?_
      exact hQ _ _ ⟨by rw [hv]; rfl, rfl⟩
    | succ k ih =>
      intro b v u hk hv hu
      subst hu
      obtain ⟨x, hx⟩ : ∃ x, (aB α)[b]? = some x := ⟨_, List.getElem?_eq_getElem (by omega)⟩
      obtain ⟨e1, e2, e3, e4, e5⟩ := hb2 b x hx
      obtain ⟨x1, x2, x3⟩ := w.xb hx
      have q1 : nI (bOf x) = nI p ↔ bOf x = p := nI_eq (by omega) (by omega)
      have q2 : nI (bAt x) = nI c ↔ bAt x = c := nI_eq (by omega) (by omega)
      have q3 : nI (bCh x / 10) = nI sl ↔ bCh x / 10 = sl := nI_eq (by omega) (by omega)
      have ih2 := ih (b + 1)
      rw [any_take hx, ← Bool.or_assoc] at ih2
      generalize (decide (aN α 2 c / 10 = sl) || ((aB α).take b).any (fun x => (decide (bAt x = c) || decide (bOf x = p)) && decide (bCh x / 10 = sl))) = A at hv ih2
      subst hv
      refine hm_iload dX5_isSlotTaken_23 rfl ?_
      refine hm_aload_n dX5_isSlotTaken_25 rfl ?_
      refine hm_getI lf_RX5_109 rfl rfl (by first | exact Nat.lt_of_lt_of_le (by decide) hN | assumption | (simp only [hm_n_wI, hm_n_wL, hm_n_wR, hm_n_g] at *; omega)) dX5_isSlotTaken_26 ?_
      rw [hb1]
      refine hm_icmp_ge 86 dX5_isSlotTaken_29 (by decide) (fun h29 => absurd h29 (nI_ge (by omega) (by omega))) (fun _ => ?_)
      refine hm_iload dX5_isSlotTaken_32 rfl ?_
      refine hm_if_ne 73 dX5_isSlotTaken_34 (by decide) (fun h34 => ?_) (fun h34 => ?_)
      · skip
        refine hm_iconst dX5_isSlotTaken_73 (v := 1) (by decide) ?_
        refine hm_goto 78 dX5_isSlotTaken_74 (by decide) ?_
        refine hm_istore dX5_isSlotTaken_78 (by decide) rfl ?_
        refine hm_iinc dX5_isSlotTaken_80 rfl _ rfl (by decide) rfl ?_
        refine hm_goto 23 dX5_isSlotTaken_83 (by decide) ?_
        exact ih2 _ _ (by omega) (by cases A <;> simp_all [bI]) (hm_inc b)
      · skip
        refine hm_aload_n dX5_isSlotTaken_37 rfl ?_
        refine hm_getR lf_RX5_45 rfl rfl (by first | exact Nat.lt_of_lt_of_le (by decide) hN | assumption | (simp only [hm_n_wI, hm_n_wL, hm_n_wR, hm_n_g] at *; omega)) (hM 14) dX5_isSlotTaken_38 ?_
        refine hm_iload dX5_isSlotTaken_41 rfl ?_
        refine hm_iald _ rfl (by first | exact Nat.lt_of_lt_of_le (by decide) hN | assumption | (simp only [hm_n_wI, hm_n_wL, hm_n_wR, hm_n_g] at *; omega)) rfl (by omega) (by decide) dX5_isSlotTaken_43 ?_
        rw [e2]
        refine hm_iload_n dX5_isSlotTaken_44 rfl ?_
        refine hm_icmp_eq 59 dX5_isSlotTaken_45 (by decide) (fun h45 => ?_) (fun h45 => ?_)
        · skip
          rw [q2] at h45
          refine hm_aload_n dX5_isSlotTaken_59 rfl ?_
          refine hm_getR lf_RX5_48 rfl rfl (by first | exact Nat.lt_of_lt_of_le (by decide) hN | assumption | (simp only [hm_n_wI, hm_n_wL, hm_n_wR, hm_n_g] at *; omega)) (hM 15) dX5_isSlotTaken_60 ?_
          refine hm_iload dX5_isSlotTaken_63 rfl ?_
          refine hm_iald _ rfl (by first | exact Nat.lt_of_lt_of_le (by decide) hN | assumption | (simp only [hm_n_wI, hm_n_wL, hm_n_wR, hm_n_g] at *; omega)) rfl (by omega) (by decide) dX5_isSlotTaken_65 ?_
          refine hm_bipush dX5_isSlotTaken_66 (v := 10) (by decide) ?_
          refine hm_idiv dX5_isSlotTaken_68 (by decide) ?_
          rw [e3, div10 (by omega)]
          refine hm_iload_n dX5_isSlotTaken_69 rfl ?_
          refine hm_icmp_ne 77 dX5_isSlotTaken_70 (by decide) (fun h70 => ?_) (fun h70 => ?_)
          · skip
            rw [q3] at h70
            refine hm_iconst dX5_isSlotTaken_77 (v := 0) (by decide) ?_
            refine hm_istore dX5_isSlotTaken_78 (by decide) rfl ?_
            refine hm_iinc dX5_isSlotTaken_80 rfl _ rfl (by decide) rfl ?_
            refine hm_goto 23 dX5_isSlotTaken_83 (by decide) ?_
            exact ih2 _ _ (by omega) (by cases A <;> simp_all [bI]) (hm_inc b)
          · skip
            rw [q3] at h70
            refine hm_iconst dX5_isSlotTaken_73 (v := 1) (by decide) ?_
            refine hm_goto 78 dX5_isSlotTaken_74 (by decide) ?_
            refine hm_istore dX5_isSlotTaken_78 (by decide) rfl ?_
            refine hm_iinc dX5_isSlotTaken_80 rfl _ rfl (by decide) rfl ?_
            refine hm_goto 23 dX5_isSlotTaken_83 (by decide) ?_
            exact ih2 _ _ (by omega) (by cases A <;> simp_all [bI]) (hm_inc b)
        · skip
          rw [q2] at h45
          refine hm_aload_n dX5_isSlotTaken_48 rfl ?_
          refine hm_getR lf_RX5_42 rfl rfl (by first | exact Nat.lt_of_lt_of_le (by decide) hN | assumption | (simp only [hm_n_wI, hm_n_wL, hm_n_wR, hm_n_g] at *; omega)) (hM 13) dX5_isSlotTaken_49 ?_
          refine hm_iload dX5_isSlotTaken_52 rfl ?_
          refine hm_iald _ rfl (by first | exact Nat.lt_of_lt_of_le (by decide) hN | assumption | (simp only [hm_n_wI, hm_n_wL, hm_n_wR, hm_n_g] at *; omega)) rfl (by omega) (by decide) dX5_isSlotTaken_54 ?_
          rw [e1]
          refine hm_iload_n dX5_isSlotTaken_55 rfl ?_
          refine hm_icmp_ne 77 dX5_isSlotTaken_56 (by decide) (fun h56 => ?_) (fun h56 => ?_)
          · skip
            rw [q1] at h56
            refine hm_iconst dX5_isSlotTaken_77 (v := 0) (by decide) ?_
            refine hm_istore dX5_isSlotTaken_78 (by decide) rfl ?_
            refine hm_iinc dX5_isSlotTaken_80 rfl _ rfl (by decide) rfl ?_
            refine hm_goto 23 dX5_isSlotTaken_83 (by decide) ?_
            exact ih2 _ _ (by omega) (by cases A <;> simp_all [bI]) (hm_inc b)
          · skip
            rw [q1] at h56
            refine hm_aload_n dX5_isSlotTaken_59 rfl ?_
            refine hm_getR lf_RX5_48 rfl rfl (by first | exact Nat.lt_of_lt_of_le (by decide) hN | assumption | (simp only [hm_n_wI, hm_n_wL, hm_n_wR, hm_n_g] at *; omega)) (hM 15) dX5_isSlotTaken_60 ?_
            refine hm_iload dX5_isSlotTaken_63 rfl ?_
            refine hm_iald _ rfl (by first | exact Nat.lt_of_lt_of_le (by decide) hN | assumption | (simp only [hm_n_wI, hm_n_wL, hm_n_wR, hm_n_g] at *; omega)) rfl (by omega) (by decide) dX5_isSlotTaken_65 ?_
            refine hm_bipush dX5_isSlotTaken_66 (v := 10) (by decide) ?_
            refine hm_idiv dX5_isSlotTaken_68 (by decide) ?_
            rw [e3, div10 (by omega)]
            refine hm_iload_n dX5_isSlotTaken_69 rfl ?_
            refine hm_icmp_ne 77 dX5_isSlotTaken_70 (by decide) (fun h70 => ?_) (fun h70 => ?_)
            · skip
              rw [q3] at h70
              refine hm_iconst dX5_isSlotTaken_77 (v := 0) (by decide) ?_
              refine hm_istore dX5_isSlotTaken_78 (by decide) rfl ?_
              refine hm_iinc dX5_isSlotTaken_80 rfl _ rfl (by decide) rfl ?_
              refine hm_goto 23 dX5_isSlotTaken_83 (by decide) ?_
              exact ih2 _ _ (by omega) (by cases A <;> simp_all [bI]) (hm_inc b)
            · skip
              rw [q3] at h70
              refine hm_iconst dX5_isSlotTaken_73 (v := 1) (by decide) ?_
              refine hm_goto 78 dX5_isSlotTaken_74 (by decide) ?_
              refine hm_istore dX5_isSlotTaken_78 (by decide) rfl ?_
              refine hm_iinc dX5_isSlotTaken_80 rfl _ rfl (by decide) rfl ?_
              refine hm_goto 23 dX5_isSlotTaken_83 (by decide) ?_
              exact ih2 _ _ (by omega) (by cases A <;> simp_all [bI]) (hm_inc b)
  refine hm_aload_n dX5_isSlotTaken_0 rfl ?_
  refine hm_getR lf_RX5_7 rfl rfl (by first | exact Nat.lt_of_lt_of_le (by decide) hN | assumption | (simp only [hm_n_wI, hm_n_wL, hm_n_wR, hm_n_g] at *; omega)) (hM 1) dX5_isSlotTaken_1 ?_
  refine hm_iload_n dX5_isSlotTaken_4 rfl ?_
  refine hm_iald _ rfl (by first | exact Nat.lt_of_lt_of_le (by decide) hN | assumption | (simp only [hm_n_wI, hm_n_wL, hm_n_wR, hm_n_g] at *; omega)) rfl (by omega) (by decide) dX5_isSlotTaken_5 ?_
  refine hm_bipush dX5_isSlotTaken_6 (v := 10) (by decide) ?_
  refine hm_idiv dX5_isSlotTaken_8 (by decide) ?_
  rw [e0, div10 (by omega)]
  refine hm_iload_n dX5_isSlotTaken_9 rfl ?_
  refine hm_icmp_ne 17 dX5_isSlotTaken_10 (by decide) (fun h10 => ?_) (fun h10 => ?_)
  · skip
    rw [q0] at h10
    refine hm_iconst dX5_isSlotTaken_17 (v := 0) (by decide) ?_
    refine hm_istore dX5_isSlotTaken_18 (by decide) rfl ?_
    refine hm_iconst dX5_isSlotTaken_20 (v := 0) (by decide) ?_
    refine hm_istore dX5_isSlotTaken_21 (by decide) rfl ?_
    exact hl _ 0 _ _ (Nat.zero_add _) (by simp [bI, h10]) rfl
  · skip
    rw [q0] at h10
    refine hm_iconst dX5_isSlotTaken_13 (v := 1) (by decide) ?_
    refine hm_goto 18 dX5_isSlotTaken_14 (by decide) ?_
    refine hm_istore dX5_isSlotTaken_18 (by decide) rfl ?_
    refine hm_iconst dX5_isSlotTaken_20 (v := 0) (by decide) ?_
    refine hm_istore dX5_isSlotTaken_21 (by decide) rfl ?_
    exact hl _ 0 _ _ (Nat.zero_add _) (by simp [bI, h10]) rfl
end M4
