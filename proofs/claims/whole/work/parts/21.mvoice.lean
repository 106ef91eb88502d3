/-! the reference: a call goes on; voice -/
theorem cmp_0 (x y : Int64) : lg_cmp x y = 0 ↔ x = y := by
  unfold lg_cmp
  by_cases h1 : y < x
  · simp [h1]
    rintro rfl
    exact absurd h1 (Int64.lt_irrefl)
  · by_cases h2 : x = y
    · simp [h2, Int64.lt_irrefl]
    · simp [h1, h2]
theorem ixm (m a : Nat) : nI m * nI a = nI (m * a) := pk_mul m a
theorem ix8 (a b : Nat) : (8 : Int32) * nI a + nI b = nI (8 * a + b) := by rw [show (8 : Int32) = nI 8 from rfl, pk_mul, nI_add]
theorem ix16 (a b : Nat) : (16 : Int32) * nI a + nI b = nI (16 * a + b) := by rw [show (16 : Int32) = nI 16 from rfl, pk_mul, nI_add]
theorem ix20 (a b : Nat) : (20 : Int32) * nI a + nI b = nI (20 * a + b) := by rw [show (20 : Int32) = nI 20 from rfl, pk_mul, nI_add]
theorem rM.newQ {α β : sA} {σ τ : hm_M} (h : rM α σ) (hN : aN β = aN α) (hI : aI β = aI α) (hL : aL β = aL α) (hB : aB β = aB α) (h1 : ∀ a k, a ≠ 43 → a ≠ 45 → hm_I τ a k = hm_I σ a k) (h2 : ∀ a k, a ≠ 44 → a ≠ 46 → a ≠ 48 → hm_L τ a k = hm_L σ a k) (h3 : hm_R τ = hm_R σ) (h4 : hm_n τ = hm_n σ) (h5 : md_Q β τ) : rM β τ := by
  refine ⟨⟨by rw [h4]; exact h.m.1, fun k => by rw [h3]; exact h.m.2 k⟩, fun f i hi => ?_, fun f i hi => ?_, fun f i hi => ?_, ⟨?_, fun b x hb => ?_⟩, h5⟩
  · obtain ⟨-, -, -, -, -, s6, s7, -⟩ := md_lN_sc hi
    rw [h1 _ _ s6 s7, hN]; exact h.n f i hi
  · obtain ⟨-, -, -, -, -, s6, s7, -⟩ := md_lI_sc hi
    rw [h1 _ _ s6 s7, hI]; exact h.i f i hi
  · obtain ⟨-, -, -, -, -, -, -, s8, s9, s10, -⟩ := md_lL_sc hi
    rw [h2 _ _ s8 s9 s10, hL]; exact h.l f i hi
  · rw [h1 _ _ (by omega) (by omega), hB]; exact h.b.1
  · rw [hB] at hb
    obtain ⟨e1, e2, e3, e4, e5⟩ := h.b.2 b x hb
    rw [h1 _ _ (by omega) (by omega), h1 _ _ (by omega) (by omega), h1 _ _ (by omega) (by omega), h1 _ _ (by omega) (by omega), h1 _ _ (by omega) (by omega)]
    exact ⟨e1, e2, e3, e4, e5⟩
section M11
variable (l : Launch) {α : sA} {σ : hm_M}
set_option maxRecDepth 100000 in
set_option maxHeartbeats 4000000 in
theorem r5_callOf (h : rM α σ) (w : sW α) {p : Nat} (hp : p < nPort α) (hbg : aI α 1 p = 2 ∨ aI α 1 p = 5 → hm_I σ 50 p = aI α 1 p) : hm_Ct l yX5_callOf cX5_callOf 4 none 3 0 0 [.ref 27, .int (nI p)] σ (fun r τ => r = none ∧ rM (pCall α p) τ ∧ md_fr σ τ) := by
  obtain ⟨hN, hM⟩ := h.m
  have h8 := w.p8
  have hp8 : p < 8 := by omega
  have e1 : hm_I σ 33 p = aI α 1 p := h.i 1 p hp8
  have e2 : hm_L σ 30 p = aL α 0 p := h.l 0 p hp8
  have e3 : hm_L σ 32 p = aL α 1 p := h.l 1 p hp8
  have e4 : hm_I σ 27 26 = nI (aN α 6 0) := h.n 6 0 (by decide)
  refine hm_startQ (ini := false) [.ref 27, .int (nI p), hm_u, hm_u] (by decide) (by decide) rfl (Nat.le_of_ble_eq_true rfl) (fun Q hQ => ?_)
  have j57 : pGood α p = true → (aI α 1 p = 2 ∨ aI α 1 p = 5) → hm_V l RX5 cX5_callOf 4 none false (hm_rm 3 0 0) 0 0 Q 0 0 57 [.ref 27, .int (nI p), .int (aI α 1 p), hm_u] [] σ := by
    intro hg hs
    have hs0 : aI α 1 p ≠ 0 := by rcases hs with e | e <;> rw [e] <;> decide
    obtain ⟨hq, hne, hpar, hen, -⟩ := w.par hp hs0
    have hr3 := h.upI 1 p 3 hp8
    have w3 := w.mv hp hs0 (v := 3) (by decide)
    have e5 : hm_I σ 34 p = nI (pPar α p) := (h.i 2 p hp8).trans hpar
    have e6 : hm_I (hm_wI σ 33 p 3) 33 (pPar α p) = aI α 1 (pPar α p) := (hr3.i 1 (pPar α p) (by show pPar α p < 8; omega)).trans (by rw [aI_sI, if_neg (fun q => hne q.2)])
    have e7 : hm_I (hm_wI σ 33 p 3) 31 (pPar α p) = aI α 0 (pPar α p) := hr3.i 0 (pPar α p) (by show pPar α p < 8; omega)
    have n51 : ¬ aI α 1 p = 1 := by rcases hs with e | e <;> rw [e] <;> decide
    have n54 : ¬ aI α 1 p = 4 := by rcases hs with e | e <;> rw [e] <;> decide
    refine hm_aload_n dX5_callOf_57 rfl ?_
    refine hm_aload_n dX5_callOf_58 rfl ?_
    refine hm_getR lf_RX5_16 rfl rfl (by first | exact Nat.lt_of_lt_of_le (by decide) hN | assumption | (simp only [hm_n_wI, hm_n_wL, hm_n_wR, hm_n_g] at *; omega)) (hM 4) dX5_callOf_59 ?_
    refine hm_iload_n dX5_callOf_62 rfl ?_
    refine hm_lald _ rfl (by first | exact Nat.lt_of_lt_of_le (by decide) hN | assumption | (simp only [hm_n_wI, hm_n_wL, hm_n_wR, hm_n_g] at *; omega)) rfl (by omega) (by decide) dX5_callOf_63 ?_
    rw [e2]
    refine hm_aload_n dX5_callOf_64 rfl ?_
    refine hm_getI lf_RX5_103 rfl rfl (by first | exact Nat.lt_of_lt_of_le (by decide) hN | assumption | (simp only [hm_n_wI, hm_n_wL, hm_n_wR, hm_n_g] at *; omega)) dX5_callOf_65 ?_
    rw [e4]
    refine hm_i2l dX5_callOf_68 ?_
    refine hm_callV lm_RX5_175 (r5_mix l _ _ _) rfl rfl rfl rfl (by first | exact Nat.lt_of_lt_of_le (by decide) hN | assumption | (simp only [hm_n_wI, hm_n_wL, hm_n_wR, hm_n_g] at *; omega)) (by decide) (by decide) (Nat.le_of_ble_eq_true rfl) dX5_callOf_69 ?_
    rintro _ t9 ⟨rfl, hh9⟩
    rw [hh9]
    clear hh9 t9
    refine hm_aload_n dX5_callOf_72 rfl ?_
    refine hm_aload_n dX5_callOf_73 rfl ?_
    refine hm_getR lf_RX5_24 rfl rfl (by first | exact Nat.lt_of_lt_of_le (by decide) hN | assumption | (simp only [hm_n_wI, hm_n_wL, hm_n_wR, hm_n_g] at *; omega)) (hM 6) dX5_callOf_74 ?_
    refine hm_iload_n dX5_callOf_77 rfl ?_
    refine hm_lald _ rfl (by first | exact Nat.lt_of_lt_of_le (by decide) hN | assumption | (simp only [hm_n_wI, hm_n_wL, hm_n_wR, hm_n_g] at *; omega)) rfl (by omega) (by decide) dX5_callOf_78 ?_
    rw [e3]
    refine hm_aload_n dX5_callOf_79 rfl ?_
    refine hm_getI lf_RX5_103 rfl rfl (by first | exact Nat.lt_of_lt_of_le (by decide) hN | assumption | (simp only [hm_n_wI, hm_n_wL, hm_n_wR, hm_n_g] at *; omega)) dX5_callOf_80 ?_
    rw [e4]
    refine hm_i2l dX5_callOf_83 ?_
    refine hm_callV lm_RX5_175 (r5_mix l _ _ _) rfl rfl rfl rfl (by first | exact Nat.lt_of_lt_of_le (by decide) hN | assumption | (simp only [hm_n_wI, hm_n_wL, hm_n_wR, hm_n_g] at *; omega)) (by decide) (by decide) (Nat.le_of_ble_eq_true rfl) dX5_callOf_84 ?_
    rintro _ t9 ⟨rfl, hh9⟩
    rw [hh9]
    clear hh9 t9
    refine hm_lcmp dX5_callOf_87 ?_
    refine hm_if_eq 99 dX5_callOf_88 (by decide) (fun h88 => ?_) (fun h88 => ?_)
    · skip
      rw [cmp_0] at h88
      have hpv : pProven α p = true := by unfold pProven; rw [h88]; simp
      refine hm_iload_n dX5_callOf_99 rfl ?_
      refine hm_iconst dX5_callOf_100 (v := 5) (by decide) ?_
      refine hm_icmp_ne 115 dX5_callOf_101 (by decide) (fun h101 => ?_) (fun h101 => ?_)
      · skip
        have h2 : aI α 1 p = 2 := hs.resolve_right h101
        have hpc : pCall α p = pPage α p := by simp [pCall, hg, h2, hpv]
        rw [pPage] at hpc
        refine hm_aload_n dX5_callOf_115 rfl ?_
        refine hm_getR lf_RX5_30 rfl rfl (by first | exact Nat.lt_of_lt_of_le (by decide) hN | assumption | (simp only [hm_n_wI, hm_n_wL, hm_n_wR, hm_n_g] at *; omega)) (hM 8) dX5_callOf_116 ?_
        refine hm_iload_n dX5_callOf_119 rfl ?_
        refine hm_iald _ rfl (by first | exact Nat.lt_of_lt_of_le (by decide) hN | assumption | (simp only [hm_n_wI, hm_n_wL, hm_n_wR, hm_n_g] at *; omega)) rfl (by omega) (by decide) dX5_callOf_120 ?_
        rw [e5]
        refine hm_istore_n dX5_callOf_121 (by decide) rfl ?_
        refine hm_aload_n dX5_callOf_122 rfl ?_
        refine hm_getR lf_RX5_27 rfl rfl (by first | exact Nat.lt_of_lt_of_le (by decide) hN | assumption | (simp only [hm_n_wI, hm_n_wL, hm_n_wR, hm_n_g] at *; omega)) (hM 7) dX5_callOf_123 ?_
        refine hm_iload_n dX5_callOf_126 rfl ?_
        refine hm_iconst dX5_callOf_127 (v := 3) (by decide) ?_
        refine hm_iast _ rfl (by first | exact Nat.lt_of_lt_of_le (by decide) hN | assumption | (simp only [hm_n_wI, hm_n_wL, hm_n_wR, hm_n_g] at *; omega)) rfl (by omega) (by decide) dX5_callOf_128 ?_
        refine hm_aload_n dX5_callOf_129 rfl ?_
        refine hm_getR lf_RX5_27 rfl rfl (by first | exact Nat.lt_of_lt_of_le (by decide) hN | assumption | (simp only [hm_n_wI, hm_n_wL, hm_n_wR, hm_n_g] at *; omega)) (hM 7) dX5_callOf_130 ?_
        refine hm_iload_n dX5_callOf_133 rfl ?_
        refine hm_iald _ rfl (by first | exact Nat.lt_of_lt_of_le (by decide) hN | assumption | (simp only [hm_n_wI, hm_n_wL, hm_n_wR, hm_n_g] at *; omega)) rfl (by omega) (by decide) dX5_callOf_134 ?_
        rw [e6]
        refine hm_if_ne 174 dX5_callOf_135 (by decide) (fun h135 => ?_) (fun h135 => ?_)
        · skip
          rw [if_neg (by simp [h135])] at hpc
          refine hm_aload_n dX5_callOf_174 rfl ?_
          refine hm_iload_n dX5_callOf_175 rfl ?_
          refine hm_callV lm_RX5_125 (r5_ends l hr3 w3 hp (by rw [aI_sI, if_pos ⟨rfl, rfl⟩]; decide)) rfl rfl rfl rfl (by first | exact Nat.lt_of_lt_of_le (by decide) hN | assumption | (simp only [hm_n_wI, hm_n_wL, hm_n_wR, hm_n_g] at *; omega)) (by decide) (by decide) (Nat.le_of_ble_eq_true rfl) dX5_callOf_176 ?_
          rintro _ ρ ⟨rfl, hρ, hf⟩
          obtain ⟨hN, hM⟩ := hρ.m
          have hfin1 : rM (pCall α p) ρ := by rw [hpc]; exact hρ
          have hfin2 := ((md_fr.rf σ).wI 33 p 3 (by decide)).tr hf
          refine hm_vret dX5_callOf_179 rfl (by decide) (by decide) ?_
          exact hQ _ _ ⟨rfl, hfin1, hfin2⟩
        · skip
          refine hm_aload_n dX5_callOf_138 rfl ?_
          refine hm_getR lf_RX5_20 rfl rfl (by first | exact Nat.lt_of_lt_of_le (by decide) hN | assumption | (simp only [hm_n_wI, hm_n_wL, hm_n_wR, hm_n_g] at *; omega)) (hM 5) dX5_callOf_139 ?_
          refine hm_iload_n dX5_callOf_142 rfl ?_
          refine hm_zald _ rfl (by first | exact Nat.lt_of_lt_of_le (by decide) hN | assumption | (simp only [hm_n_wI, hm_n_wL, hm_n_wR, hm_n_g] at *; omega)) rfl (by omega) (by decide) dX5_callOf_143 ?_
          rw [e7]
          refine hm_if_eq 174 dX5_callOf_144 (by decide) (fun h144 => ?_) (fun h144 => ?_)
          · skip
            rw [if_neg (by simp [h144])] at hpc
            refine hm_aload_n dX5_callOf_174 rfl ?_
            refine hm_iload_n dX5_callOf_175 rfl ?_
            refine hm_callV lm_RX5_125 (r5_ends l hr3 w3 hp (by rw [aI_sI, if_pos ⟨rfl, rfl⟩]; decide)) rfl rfl rfl rfl (by first | exact Nat.lt_of_lt_of_le (by decide) hN | assumption | (simp only [hm_n_wI, hm_n_wL, hm_n_wR, hm_n_g] at *; omega)) (by decide) (by decide) (Nat.le_of_ble_eq_true rfl) dX5_callOf_176 ?_
            rintro _ ρ ⟨rfl, hρ, hf⟩
            obtain ⟨hN, hM⟩ := hρ.m
            have hfin1 : rM (pCall α p) ρ := by rw [hpc]; exact hρ
            have hfin2 := ((md_fr.rf σ).wI 33 p 3 (by decide)).tr hf
            refine hm_vret dX5_callOf_179 rfl (by decide) (by decide) ?_
            exact hQ _ _ ⟨rfl, hfin1, hfin2⟩
          · skip
            rw [if_pos (by simp [h135, h144])] at hpc
            refine hm_aload_n dX5_callOf_147 rfl ?_
            refine hm_getR lf_RX5_27 rfl rfl (by first | exact Nat.lt_of_lt_of_le (by decide) hN | assumption | (simp only [hm_n_wI, hm_n_wL, hm_n_wR, hm_n_g] at *; omega)) (hM 7) dX5_callOf_148 ?_
            refine hm_iload_n dX5_callOf_151 rfl ?_
            refine hm_iconst dX5_callOf_152 (v := 4) (by decide) ?_
            refine hm_iast _ rfl (by first | exact Nat.lt_of_lt_of_le (by decide) hN | assumption | (simp only [hm_n_wI, hm_n_wL, hm_n_wR, hm_n_g] at *; omega)) rfl (by omega) (by decide) dX5_callOf_153 ?_
            refine hm_aload_n dX5_callOf_154 rfl ?_
            refine hm_getR lf_RX5_30 rfl rfl (by first | exact Nat.lt_of_lt_of_le (by decide) hN | assumption | (simp only [hm_n_wI, hm_n_wL, hm_n_wR, hm_n_g] at *; omega)) (hM 8) dX5_callOf_155 ?_
            refine hm_iload_n dX5_callOf_158 rfl ?_
            refine hm_iload_n dX5_callOf_159 rfl ?_
            refine hm_iast _ rfl (by first | exact Nat.lt_of_lt_of_le (by decide) hN | assumption | (simp only [hm_n_wI, hm_n_wL, hm_n_wR, hm_n_g] at *; omega)) rfl (by omega) (by decide) dX5_callOf_160 ?_
            refine hm_aload_n dX5_callOf_161 rfl ?_
            refine hm_getR lf_RX5_33 rfl rfl (by first | exact Nat.lt_of_lt_of_le (by decide) hN | assumption | (simp only [hm_n_wI, hm_n_wL, hm_n_wR, hm_n_g] at *; omega)) (hM 9) dX5_callOf_162 ?_
            refine hm_iload_n dX5_callOf_165 rfl ?_
            refine hm_aload_n dX5_callOf_166 rfl ?_
            refine hm_getI lf_RX5_103 rfl rfl (by first | exact Nat.lt_of_lt_of_le (by decide) hN | assumption | (simp only [hm_n_wI, hm_n_wL, hm_n_wR, hm_n_g] at *; omega)) dX5_callOf_167 ?_
            simp only [hm_I_wI, e4, Nat.reduceEqDiff, false_and, reduceIte]
            refine hm_iast _ rfl (by first | exact Nat.lt_of_lt_of_le (by decide) hN | assumption | (simp only [hm_n_wI, hm_n_wL, hm_n_wR, hm_n_g] at *; omega)) rfl (by omega) (by decide) dX5_callOf_170 ?_
            have hfin1 := ((hr3.upI 1 (pPar α p) 4 (by show pPar α p < 8; omega)).upI 2 (pPar α p) (nI p) (by show pPar α p < 8; omega)).upI 3 (pPar α p) (nI (aN α 6 0)) (by show pPar α p < 8; omega)
            rw [← hpc] at hfin1
            have hfin2 := ((((md_fr.rf σ).wI 33 p 3 (by decide)).wI 33 (pPar α p) 4 (by decide)).wI 34 (pPar α p) (nI p) (by decide)).wI 35 (pPar α p) (nI (aN α 6 0)) (by decide)
            refine hm_goto 179 dX5_callOf_171 (by decide) ?_
            refine hm_vret dX5_callOf_179 rfl (by decide) (by decide) ?_
            exact hQ _ _ ⟨rfl, hfin1, hfin2⟩
      · skip
        refine hm_aload_n dX5_callOf_104 rfl ?_
        refine hm_getR lf_RX5_27 rfl rfl (by first | exact Nat.lt_of_lt_of_le (by decide) hN | assumption | (simp only [hm_n_wI, hm_n_wL, hm_n_wR, hm_n_g] at *; omega)) (hM 7) dX5_callOf_105 ?_
        refine hm_iload_n dX5_callOf_108 rfl ?_
        refine hm_bipush dX5_callOf_109 (v := 6) (by decide) ?_
        refine hm_iast _ rfl (by first | exact Nat.lt_of_lt_of_le (by decide) hN | assumption | (simp only [hm_n_wI, hm_n_wL, hm_n_wR, hm_n_g] at *; omega)) rfl (by omega) (by decide) dX5_callOf_111 ?_
        have hfin1 : rM (pCall α p) (hm_wI σ 33 p 6) := by rw [show pCall α p = sI α 1 p 6 by simp [pCall, hg, h101, hpv]]; exact h.upI 1 p 6 hp8
        have hfin2 : md_fr σ (hm_wI σ 33 p 6) := (md_fr.rf σ).wI 33 p 6 (by decide)
        refine hm_goto 179 dX5_callOf_112 (by decide) ?_
        refine hm_vret dX5_callOf_179 rfl (by decide) (by decide) ?_
        exact hQ _ _ ⟨rfl, hfin1, hfin2⟩
    · skip
      rw [cmp_0] at h88
      have hpv : pProven α p = false := by unfold pProven; simpa using h88
      refine hm_aload_n dX5_callOf_91 rfl ?_
      refine hm_iload_n dX5_callOf_92 rfl ?_
      refine hm_callV lm_RX5_125 (r5_ends l h w hp hs0) rfl rfl rfl rfl (by first | exact Nat.lt_of_lt_of_le (by decide) hN | assumption | (simp only [hm_n_wI, hm_n_wL, hm_n_wR, hm_n_g] at *; omega)) (by decide) (by decide) (Nat.le_of_ble_eq_true rfl) dX5_callOf_93 ?_
      rintro _ ρ ⟨rfl, hρ, hf⟩
      obtain ⟨hN, hM⟩ := hρ.m
      have hc : pCall α p = pEnds α p := by rcases hs with e | e <;> simp [pCall, hg, e, hpv]
      have hfin1 : rM (pCall α p) ρ := by rw [hc]; exact hρ
      have hfin2 := hf
      refine hm_goto 179 dX5_callOf_96 (by decide) ?_
      refine hm_vret dX5_callOf_179 rfl (by decide) (by decide) ?_
      exact hQ _ _ ⟨rfl, hfin1, hfin2⟩
  refine hm_aload_n dX5_callOf_0 rfl ?_
  refine hm_iload_n dX5_callOf_1 rfl ?_
  refine hm_callV lm_RX5_172 (r5_isGood l h w hp8) rfl rfl rfl rfl (by first | exact Nat.lt_of_lt_of_le (by decide) hN | assumption | (simp only [hm_n_wI, hm_n_wL, hm_n_wR, hm_n_g] at *; omega)) (by decide) (by decide) (Nat.le_of_ble_eq_true rfl) dX5_callOf_2 ?_
  rintro _ t9 ⟨rfl, hh9⟩
  rw [hh9]
  clear hh9 t9
  refine hm_if_ne 9 dX5_callOf_5 (by decide) (fun h5 => ?_) (fun h5 => ?_)
  · skip
    rw [bI_0] at h5
    have hg : pGood α p = true := b_nf h5
    refine hm_aload_n dX5_callOf_9 rfl ?_
    refine hm_getR lf_RX5_27 rfl rfl (by first | exact Nat.lt_of_lt_of_le (by decide) hN | assumption | (simp only [hm_n_wI, hm_n_wL, hm_n_wR, hm_n_g] at *; omega)) (hM 7) dX5_callOf_10 ?_
    refine hm_iload_n dX5_callOf_13 rfl ?_
    refine hm_iald _ rfl (by first | exact Nat.lt_of_lt_of_le (by decide) hN | assumption | (simp only [hm_n_wI, hm_n_wL, hm_n_wR, hm_n_g] at *; omega)) rfl (by omega) (by decide) dX5_callOf_14 ?_
    rw [e1]
    refine hm_istore_n dX5_callOf_15 (by decide) rfl ?_
    refine hm_iload_n dX5_callOf_16 rfl ?_
    refine hm_iconst dX5_callOf_17 (v := 1) (by decide) ?_
    refine hm_icmp_eq 26 dX5_callOf_18 (by decide) (fun h18 => ?_) (fun h18 => ?_)
    · skip
      have hc : pCall α p = sI α 1 p (aI α 1 p + 1) := by simp [pCall, hg, h18]
      refine hm_aload_n dX5_callOf_26 rfl ?_
      refine hm_getR lf_RX5_27 rfl rfl (by first | exact Nat.lt_of_lt_of_le (by decide) hN | assumption | (simp only [hm_n_wI, hm_n_wL, hm_n_wR, hm_n_g] at *; omega)) (hM 7) dX5_callOf_27 ?_
      refine hm_iload_n dX5_callOf_30 rfl ?_
      refine hm_iload_n dX5_callOf_31 rfl ?_
      refine hm_iconst dX5_callOf_32 (v := 1) (by decide) ?_
      refine hm_iadd dX5_callOf_33 ?_
      refine hm_iast _ rfl (by first | exact Nat.lt_of_lt_of_le (by decide) hN | assumption | (simp only [hm_n_wI, hm_n_wL, hm_n_wR, hm_n_g] at *; omega)) rfl (by omega) (by decide) dX5_callOf_34 ?_
      refine hm_vret dX5_callOf_35 rfl (by decide) (by decide) ?_
      exact hQ _ _ ⟨rfl, by rw [hc]; exact h.upI 1 p _ hp8, (md_fr.rf σ).wI 33 p _ (by decide)⟩
    · skip
      refine hm_iload_n dX5_callOf_21 rfl ?_
      refine hm_iconst dX5_callOf_22 (v := 4) (by decide) ?_
      refine hm_icmp_ne 36 dX5_callOf_23 (by decide) (fun h23 => ?_) (fun h23 => ?_)
      · skip
        refine hm_iload_n dX5_callOf_36 rfl ?_
        refine hm_iconst dX5_callOf_37 (v := 2) (by decide) ?_
        refine hm_icmp_eq 46 dX5_callOf_38 (by decide) (fun h38 => ?_) (fun h38 => ?_)
        · skip
          refine hm_aload_n dX5_callOf_46 rfl ?_
          refine hm_getR lf_RX5_78 rfl rfl (by first | exact Nat.lt_of_lt_of_le (by decide) hN | assumption | (simp only [hm_n_wI, hm_n_wL, hm_n_wR, hm_n_g] at *; omega)) (hM 33) dX5_callOf_47 ?_
          refine hm_iload_n dX5_callOf_50 rfl ?_
          have hb := hbg (by first | exact Or.inl h38 | exact Or.inr h43)
          refine hm_iald _ rfl (by first | exact Nat.lt_of_lt_of_le (by decide) hN | assumption | (simp only [hm_n_wI, hm_n_wL, hm_n_wR, hm_n_g] at *; omega)) rfl (by omega) (by decide) dX5_callOf_51 ?_
          rw [hb]
          refine hm_iload_n dX5_callOf_52 rfl ?_
          refine hm_icmp_eq 57 dX5_callOf_53 (by decide) (fun _ => ?_) (fun h53 => absurd (rfl) h53)
          exact j57 hg (by first | exact Or.inl h38 | exact Or.inr h43)
        · skip
          refine hm_iload_n dX5_callOf_41 rfl ?_
          refine hm_iconst dX5_callOf_42 (v := 5) (by decide) ?_
          refine hm_icmp_ne 56 dX5_callOf_43 (by decide) (fun h43 => ?_) (fun h43 => ?_)
          · skip
            refine hm_vret dX5_callOf_56 rfl (by decide) (by decide) ?_
            exact hQ _ _ ⟨rfl, by rw [show pCall α p = α by simp [pCall, h18, h23, h38, h43]]; exact h, md_fr.rf σ⟩
          · skip
            refine hm_aload_n dX5_callOf_46 rfl ?_
            refine hm_getR lf_RX5_78 rfl rfl (by first | exact Nat.lt_of_lt_of_le (by decide) hN | assumption | (simp only [hm_n_wI, hm_n_wL, hm_n_wR, hm_n_g] at *; omega)) (hM 33) dX5_callOf_47 ?_
            refine hm_iload_n dX5_callOf_50 rfl ?_
            have hb := hbg (by first | exact Or.inl h38 | exact Or.inr h43)
            refine hm_iald _ rfl (by first | exact Nat.lt_of_lt_of_le (by decide) hN | assumption | (simp only [hm_n_wI, hm_n_wL, hm_n_wR, hm_n_g] at *; omega)) rfl (by omega) (by decide) dX5_callOf_51 ?_
            rw [hb]
            refine hm_iload_n dX5_callOf_52 rfl ?_
            refine hm_icmp_eq 57 dX5_callOf_53 (by decide) (fun _ => ?_) (fun h53 => absurd (rfl) h53)
            exact j57 hg (by first | exact Or.inl h38 | exact Or.inr h43)
      · skip
        have hc : pCall α p = sI α 1 p (aI α 1 p + 1) := by simp [pCall, hg, h23]
        refine hm_aload_n dX5_callOf_26 rfl ?_
        refine hm_getR lf_RX5_27 rfl rfl (by first | exact Nat.lt_of_lt_of_le (by decide) hN | assumption | (simp only [hm_n_wI, hm_n_wL, hm_n_wR, hm_n_g] at *; omega)) (hM 7) dX5_callOf_27 ?_
        refine hm_iload_n dX5_callOf_30 rfl ?_
        refine hm_iload_n dX5_callOf_31 rfl ?_
        refine hm_iconst dX5_callOf_32 (v := 1) (by decide) ?_
        refine hm_iadd dX5_callOf_33 ?_
        refine hm_iast _ rfl (by first | exact Nat.lt_of_lt_of_le (by decide) hN | assumption | (simp only [hm_n_wI, hm_n_wL, hm_n_wR, hm_n_g] at *; omega)) rfl (by omega) (by decide) dX5_callOf_34 ?_
        refine hm_vret dX5_callOf_35 rfl (by decide) (by decide) ?_
        exact hQ _ _ ⟨rfl, by rw [hc]; exact h.upI 1 p _ hp8, (md_fr.rf σ).wI 33 p _ (by decide)⟩
  · skip
    rw [bI_0] at h5
    refine hm_vret dX5_callOf_8 rfl (by decide) (by decide) ?_
    exact hQ _ _ ⟨rfl, by rw [show pCall α p = α by simp [pCall, h5]]; exact h, md_fr.rf σ⟩
theorem rM.popQ {α : sA} {σ τ : hm_M} (h : rM α σ) (w : sW α) {p : Nat} {t : List Int64} (h1 : ∀ a k, ¬ (a = 43 ∧ k = p) → hm_I τ a k = hm_I σ a k) (h2 : ∀ a k, ¬ (a = 44 ∧ 8 * p ≤ k ∧ k < 8 * p + 8) → hm_L τ a k = hm_L σ a k) (h3 : hm_R τ = hm_R σ) (h4 : hm_n τ = hm_n σ) (e1 : hm_I τ 43 p = nI t.length) (e2 : ∀ k v, t[k]? = some v → hm_L τ 44 (8 * p + k) = v) : rM (sQ α 0 p t) τ := by
  refine h.newQ rfl rfl rfl rfl (fun a k g1 _ => h1 a k (fun q => g1 q.1)) (fun a k g1 _ _ => h2 a k (fun q => g1 q.1)) h3 h4 (fun q hq => ?_)
  obtain ⟨c1, c2, c3, c4, c5⟩ := h.q q hq
  have hl8 := (w.q q).1
  rw [aQ_sQ, aQ_sQ, aQ_sQ, if_neg (by omega : ¬ (1 = 0 ∧ q = p)), if_neg (by omega : ¬ (2 = 0 ∧ q = p))]
  by_cases e : q = p
  · subst e
    rw [if_pos ⟨rfl, rfl⟩, h1 45 q (by omega)]
    exact ⟨e1, c2, e2, fun k v hv => by rw [h2 _ _ (by omega)]; exact c4 k v hv, fun k v hv => by rw [h2 _ _ (by omega)]; exact c5 k v hv⟩
  · rw [if_neg (fun q' => e q'.2), h1 43 q (by omega), h1 45 q (by omega)]
    refine ⟨c1, c2, fun k v hv => ?_, fun k v hv => by rw [h2 _ _ (by omega)]; exact c4 k v hv, fun k v hv => by rw [h2 _ _ (by omega)]; exact c5 k v hv⟩
    have := (List.getElem?_eq_some_iff.mp hv).1
    rw [h2 _ _ (by omega)]
    exact c3 k v hv
theorem rM.newW {α : sA} {σ τ : hm_M} (h : rM α σ) (w : sW α) {p : Nat} {t : List Int64} (h1 : ∀ a k, ¬ (a = 45 ∧ k = p) → hm_I τ a k = hm_I σ a k) (h2 : ∀ a k, ¬ (a = 46 ∧ 16 * p ≤ k ∧ k < 16 * p + 16) → hm_L τ a k = hm_L σ a k) (h3 : hm_R τ = hm_R σ) (h4 : hm_n τ = hm_n σ) (e1 : hm_I τ 45 p = nI t.length) (e2 : ∀ k v, t[k]? = some v → hm_L τ 46 (16 * p + k) = v) : rM (sQ α 1 p t) τ := by
  refine h.newQ rfl rfl rfl rfl (fun a k _ g1 => h1 a k (fun q => g1 q.1)) (fun a k _ g1 _ => h2 a k (fun q => g1 q.1)) h3 h4 (fun q hq => ?_)
  obtain ⟨c1, c2, c3, c4, c5⟩ := h.q q hq
  have hl8 := (w.q q).2.1
  rw [aQ_sQ, aQ_sQ, aQ_sQ, if_neg (by omega : ¬ (0 = 1 ∧ q = p)), if_neg (by omega : ¬ (2 = 1 ∧ q = p))]
  by_cases e : q = p
  · subst e
    rw [if_pos ⟨rfl, rfl⟩, h1 43 q (by omega)]
    exact ⟨c1, e1, fun k v hv => by rw [h2 _ _ (by omega)]; exact c3 k v hv, e2, fun k v hv => by rw [h2 _ _ (by omega)]; exact c5 k v hv⟩
  · rw [if_neg (fun q' => e q'.2), h1 43 q (by omega), h1 45 q (by omega)]
    refine ⟨c1, c2, fun k v hv => by rw [h2 _ _ (by omega)]; exact c3 k v hv, fun k v hv => ?_, fun k v hv => by rw [h2 _ _ (by omega)]; exact c5 k v hv⟩
    have := (List.getElem?_eq_some_iff.mp hv).1
    rw [h2 _ _ (by omega)]
    exact c4 k v hv
/-- the latest blocks, and how many -/
theorem rM.newK {α : sA} {σ τ : hm_M} (h : rM α σ) (w : sW α) {p : Nat} {t : List Int64} {n : Nat} (hp : p < 8) (h1 : ∀ a k, ¬ (a = 47 ∧ k = p) → hm_I τ a k = hm_I σ a k) (h2 : ∀ a k, ¬ (a = 48 ∧ 20 * p ≤ k ∧ k < 20 * p + 20) → hm_L τ a k = hm_L σ a k) (h3 : hm_R τ = hm_R σ) (h4 : hm_n τ = hm_n σ) (e1 : hm_I τ 47 p = nI n) (e2 : ∀ k v, t[k]? = some v → hm_L τ 48 (20 * p + k) = v) : rM (sN (sQ α 2 p t) 7 p n) τ := by
  have hr : rM (sQ α 2 p t) (hm_wI τ 47 p (hm_I σ 47 p)) := by
    refine h.newQ rfl rfl rfl rfl (fun a k _ _ => ?_) (fun a k _ _ g1 => h2 a k (fun q => g1 q.1)) h3 h4 (fun q hq => ?_)
    · rw [hm_I_wI]
      split
      · rename_i q; rw [q.1, q.2]
      · rename_i q; exact h1 a k q
    · obtain ⟨c1, c2, c3, c4, c5⟩ := h.q q hq
      have hl8 := (w.q q).2.2.1
      rw [aQ_sQ, aQ_sQ, aQ_sQ, if_neg (by omega : ¬ (0 = 2 ∧ q = p)), if_neg (by omega : ¬ (1 = 2 ∧ q = p)), hm_I_wI, if_neg (by omega), hm_I_wI, if_neg (by omega), h1 43 q (by omega), h1 45 q (by omega)]
      refine ⟨c1, c2, fun k v hv => by show hm_L τ _ _ = _; rw [h2 _ _ (by omega)]; exact c3 k v hv, fun k v hv => by show hm_L τ _ _ = _; rw [h2 _ _ (by omega)]; exact c4 k v hv, fun k v hv => ?_⟩
      show hm_L τ _ _ = _
      by_cases e : q = p
      · subst e
        rw [if_pos ⟨rfl, rfl⟩] at hv
        exact e2 k v hv
      · rw [if_neg (fun q' => e q'.2)] at hv
        have := (List.getElem?_eq_some_iff.mp hv).1
        rw [h2 _ _ (by omega)]
        exact c5 k v hv
  have h9 := hr.upN 7 p n hp
  have e : hm_wI (hm_wI τ 47 p (hm_I σ 47 p)) (md_lN 7 p).1 (md_lN 7 p).2 (nI n) = τ := by
    show hm_wI (hm_wI τ 47 p (hm_I σ 47 p)) 47 p (nI n) = τ
    obtain ⟨τ1, τ2⟩ := τ
    unfold hm_wI
    refine Prod.ext (funext fun a => funext fun k => ?_) rfl
    show (if a = 47 ∧ k = p then nI n else if a = 47 ∧ k = p then _ else τ1 a k) = τ1 a k
    by_cases q : a = 47 ∧ k = p
    · rw [if_pos q, q.1, q.2]; exact e1.symm
    · rw [if_neg q, if_neg q]
  rw [e] at h9
  exact h9
end M11
