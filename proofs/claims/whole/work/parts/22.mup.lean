/-! the reference: a block goes up, a block goes down -/
section M12
variable (l : Launch) {α : sA} {σ : hm_M}
set_option maxRecDepth 100000 in
set_option maxHeartbeats 4000000 in
theorem r5_up (h : rM α σ) (w : sW α) {p : Nat} (hp : p < nPort α) : hm_Ct l yX5_up cX5_up 4 none 1 0 0 [.ref 27, .int (nI p)] σ (fun r τ => r = none ∧ rM (pUp α p) τ ∧ md_fr σ τ) := by
  obtain ⟨hN, hM⟩ := h.m
  have h8 := w.p8
  have hp8 : p < 8 := by omega
  have e1 : hm_I σ 33 p = aI α 1 p := h.i 1 p hp8
  obtain ⟨c1, c2, c3, c4, c5⟩ := h.q p hp8
  have hl8 := (w.q p).1
  have q0 : nI (aQ α 0 p).length = 0 ↔ (aQ α 0 p).length = 0 := nI_0' (by omega)
  have e2 : hm_L σ 30 p = aL α 0 p := h.l 0 p hp8
  have e4 : hm_I σ 27 26 = nI (aN α 6 0) := h.n 6 0 (by decide)
  refine hm_startQ (ini := false) [.ref 27, .int (nI p), hm_u, hm_u] (by decide) (by decide) rfl (Nat.le_of_ble_eq_true rfl) (fun Q hQ => ?_)
  have j29 : aI α 1 p = 7 → pGood α p = true → ∀ v t, aQ α 0 p = v :: t → hm_V l RX5 cX5_up 4 none false (hm_rm 1 0 0) 0 0 Q 0 0 29 [.ref 27, .int (nI p), hm_u, hm_u] [] σ := by
    intro hs hg v t hq
    obtain ⟨hq8, hne, hpar, hen, -⟩ := w.par hp (by rw [hs]; decide)
    rw [hq, List.length_cons] at hl8
    have e5 : hm_I σ 34 p = nI (pPar α p) := (h.i 2 p hp8).trans hpar
    have e6 : hm_L σ 44 (8 * p) = v := c3 0 v (by rw [hq]; rfl)
    have e7 : hm_I σ 43 p = nI (t.length + 1) := by rw [c1, hq]; rfl
    have hr1 : rM (sL α 2 0 (pUpB α p v)) (hm_wL σ 27 24 (pUpB α p v)) := h.upL 2 0 _ (by decide)
    have w1 := w.L 2 0 (pUpB α p v) (by omega)
    have w2 : sW (sI (sQ (sL α 2 0 (pUpB α p v)) 0 p t) 4 4 (aI α 4 4 + 1)) := (w1.Q 0 p t (Or.inl ⟨rfl, by omega⟩) hp).cnt 4 4 (by omega) _
    have hfin : ∀ τ, rM (sI (sQ (sL α 2 0 (pUpB α p v)) 0 p t) 4 4 (aI α 4 4 + 1)) τ → md_fr σ τ → ¬ (aQ α 1 (pPar α p)).length < 16 → Q none τ := fun τ hτ hf hn => by
      refine hQ _ _ ⟨rfl, ?_, hf⟩
      unfold pUp
      rw [if_pos (by simp [hs, hg]), hq]
      dsimp only
      rw [if_neg hn]
      exact hτ
    have hfin2 : ∀ τ, rM (sQ (sI (sQ (sL α 2 0 (pUpB α p v)) 0 p t) 4 4 (aI α 4 4 + 1)) 1 (pPar α p) (aQ α 1 (pPar α p) ++ [pUpB α p v ^^^ pMix (aL α 1 p) ((nI (aN α 6 0)).toInt64)])) τ → md_fr σ τ → (aQ α 1 (pPar α p)).length < 16 → Q none τ := fun τ hτ hf hn => by
      refine hQ _ _ ⟨rfl, ?_, hf⟩
      unfold pUp
      rw [if_pos (by simp [hs, hg]), hq]
      dsimp only
      rw [if_pos hn]
      exact hτ
    have hl : ∀ (m k : Nat) (τ : hm_M) (u : Int32), k + m = t.length → u = nI k → (∀ a j, ¬ (a = 43 ∧ j = p) → hm_I τ a j = hm_I σ a j) → (∀ a j, ¬ (a = 44 ∧ 8 * p ≤ j ∧ j < 8 * p + 8) → hm_L τ a j = hm_L (hm_wL σ 27 24 (pUpB α p v)) a j) → hm_R τ = hm_R σ → hm_n τ = hm_n σ → hm_I τ 43 p = nI t.length → (∀ j x, j < k → t[j]? = some x → hm_L τ 44 (8 * p + j) = x) → (∀ j x, k ≤ j → (v :: t)[j]? = some x → hm_L τ 44 (8 * p + j) = x) → hm_V l RX5 cX5_up 4 none false (hm_rm 1 0 0) 0 0 Q 0 0 77 [.ref 27, .int (nI p), .int (nI (pPar α p)), .int u] [] τ := by
      intro m
      induction m with
      | zero =>
        intro k τ u hk hu i1 i2 i3 i4 i5 i6 i7
        subst hu
        have hN : 52 ≤ hm_n τ := by rw [i4]; exact hN
        have hM : ∀ k, hm_R τ 27 k = md_tab k := fun k => by rw [i3]; exact hM k
        have hr2 : rM (sQ (sL α 2 0 (pUpB α p v)) 0 p t) τ := hr1.popQ w1 i1 i2 i3 i4 i5 (fun j x hj => i6 j x (by have := (List.getElem?_eq_some_iff.mp hj).1; omega) hj)
        have f1 : md_fr σ τ := ⟨i4, i3, fun a j ha => ⟨i1 a j (by omega), (i2 a j (by omega)).trans (by rw [hm_L_wL, if_neg (by omega)])⟩⟩
        have e8 : hm_I τ 27 31 = aI α 4 4 := hr2.i 4 4 (by decide)
        have hr3 : rM (sI (sQ (sL α 2 0 (pUpB α p v)) 0 p t) 4 4 (aI α 4 4 + 1)) (hm_wI τ 27 31 (aI α 4 4 + 1)) := hr2.upI 4 4 _ (by decide)
        have f2 := f1.wI 27 31 (aI α 4 4 + 1) (by decide)
        obtain ⟨d1, d2, d3, d4, d5⟩ := hr3.q (pPar α p) (by omega)
        have d2 : hm_I (hm_wI τ 27 31 (aI α 4 4 + 1)) 45 (pPar α p) = nI (aQ α 1 (pPar α p)).length := d2.trans (by simp [aN_sN, aN_sI, aN_sL, aN_sB, aN_sQ, aI_sN, aI_sI, aI_sL, aI_sB, aI_sQ, aL_sN, aL_sI, aL_sL, aL_sB, aL_sQ, aB_sN, aB_sI, aB_sL, aB_sB, aB_sQ, aQ_sN, aQ_sI, aQ_sL, aQ_sB, aQ_sQ])
        have d6 : hm_L (hm_wI τ 27 31 (aI α 4 4 + 1)) 27 24 = pUpB α p v := (hr3.l 2 0 (by decide)).trans (by simp [aN_sN, aN_sI, aN_sL, aN_sB, aN_sQ, aI_sN, aI_sI, aI_sL, aI_sB, aI_sQ, aL_sN, aL_sI, aL_sL, aL_sB, aL_sQ, aB_sN, aB_sI, aB_sL, aB_sB, aB_sQ, aQ_sN, aQ_sI, aQ_sL, aQ_sB, aQ_sQ])
        have d7 : hm_L (hm_wI τ 27 31 (aI α 4 4 + 1)) 32 p = aL α 1 p := hr3.l 1 p hp8
        have d8 : hm_I (hm_wI τ 27 31 (aI α 4 4 + 1)) 27 26 = nI (aN α 6 0) := hr3.n 6 0 (by decide)
        have hlq := (w.q (pPar α p)).2.1
        have q9 : (16 : Int32) ≤ nI (aQ α 1 (pPar α p)).length ↔ 16 ≤ (aQ α 1 (pPar α p)).length := nI_leI (a := 16) (by decide) (by omega)
        have hlast : (aQ α 1 (pPar α p)).length < 16 → rM (sQ (sI (sQ (sL α 2 0 (pUpB α p v)) 0 p t) 4 4 (aI α 4 4 + 1)) 1 (pPar α p) (aQ α 1 (pPar α p) ++ [pUpB α p v ^^^ pMix (aL α 1 p) ((nI (aN α 6 0)).toInt64)])) (hm_wI (hm_wL (hm_wI τ 27 31 (aI α 4 4 + 1)) 46 (16 * pPar α p + (aQ α 1 (pPar α p)).length) (pUpB α p v ^^^ pMix (aL α 1 p) ((nI (aN α 6 0)).toInt64))) 45 (pPar α p) (nI (aQ α 1 (pPar α p)).length + 1)) := by
          intro hlt
          refine hr3.newW w2 (fun a k g => by rw [hm_I_wI, if_neg g]; rfl) (fun a k g => by show hm_L (hm_wL _ _ _ _) a k = _; rw [hm_L_wL, if_neg (by omega)]) rfl rfl (by rw [hm_I_wI, if_pos ⟨rfl, rfl⟩, List.length_append]; exact nI_1 _) (fun k x hk => ?_)
          show hm_L (hm_wL _ _ _ _) 46 _ = x
          rw [hm_L_wL]
          by_cases e : k < (aQ α 1 (pPar α p)).length
          · rw [List.getElem?_append_left e] at hk
            rw [if_neg (by omega)]
            exact d4 k x (by simpa [aN_sN, aN_sI, aN_sL, aN_sB, aN_sQ, aI_sN, aI_sI, aI_sL, aI_sB, aI_sQ, aL_sN, aL_sI, aL_sL, aL_sB, aL_sQ, aB_sN, aB_sI, aB_sL, aB_sB, aB_sQ, aQ_sN, aQ_sI, aQ_sL, aQ_sB, aQ_sQ] using hk)
          · rw [List.getElem?_append_right (by omega)] at hk
            have hz := (List.getElem?_eq_some_iff.mp hk).1
            have ek : k = (aQ α 1 (pPar α p)).length := by simp at hz; omega
            subst ek
            rw [Nat.sub_self] at hk
            cases hk
            rw [if_pos ⟨rfl, rfl⟩]
        refine hm_iload_n dX5_up_77 rfl ?_
        refine hm_aload_n dX5_up_78 rfl ?_
        refine hm_getR lf_RX5_57 rfl rfl (by first | exact Nat.lt_of_lt_of_le (by decide) hN | assumption | (simp only [hm_n_wI, hm_n_wL, hm_n_wR, hm_n_g] at *; omega)) (hM 18) dX5_up_79 ?_
        refine hm_iload_n dX5_up_82 rfl ?_
        refine hm_iald _ rfl (by first | exact Nat.lt_of_lt_of_le (by decide) hN | assumption | (simp only [hm_n_wI, hm_n_wL, hm_n_wR, hm_n_g] at *; omega)) rfl (by omega) (by decide) dX5_up_83 ?_
        rw [i5]
        refine hm_icmp_ge 117 dX5_up_84 (by decide) (fun _ => ?_) (fun h84 => absurd (nI_le (by omega) (by omega)) h84)
        refine hm_aload_n dX5_up_117 rfl ?_
        refine hm_dup dX5_up_118 rfl ?_
        refine hm_getI lf_RX5_183 rfl rfl (by first | exact Nat.lt_of_lt_of_le (by decide) hN | assumption | (simp only [hm_n_wI, hm_n_wL, hm_n_wR, hm_n_g] at *; omega)) dX5_up_119 ?_
        rw [e8]
        refine hm_iconst dX5_up_122 (v := 1) (by decide) ?_
        refine hm_iadd dX5_up_123 ?_
        refine hm_putI lf_RX5_183 rfl rfl rfl (by first | exact Nat.lt_of_lt_of_le (by decide) hN | assumption | (simp only [hm_n_wI, hm_n_wL, hm_n_wR, hm_n_g] at *; omega)) dX5_up_124 ?_
        refine hm_aload_n dX5_up_127 rfl ?_
        refine hm_getR lf_RX5_63 rfl rfl (by first | exact Nat.lt_of_lt_of_le (by decide) hN | assumption | (simp only [hm_n_wI, hm_n_wL, hm_n_wR, hm_n_g] at *; omega)) (hM 20) dX5_up_128 ?_
        refine hm_iload_n dX5_up_131 rfl ?_
        refine hm_iald _ rfl (by first | exact Nat.lt_of_lt_of_le (by decide) hN | assumption | (simp only [hm_n_wI, hm_n_wL, hm_n_wR, hm_n_g] at *; omega)) rfl (by omega) (by decide) dX5_up_132 ?_
        rw [d2]
        refine hm_bipush dX5_up_133 (v := 16) (by decide) ?_
        refine hm_icmp_ge 184 dX5_up_135 (by decide) (fun h135 => ?_) (fun h135 => ?_)
        · skip
          rw [q9] at h135
          exact hm_vret dX5_up_184 rfl (by decide) (by decide) (hfin _ hr3 f2 (by omega))
        · skip
          rw [q9] at h135
          refine hm_aload_n dX5_up_138 rfl ?_
          refine hm_getR lf_RX5_66 rfl rfl (by first | exact Nat.lt_of_lt_of_le (by decide) hN | assumption | (simp only [hm_n_wI, hm_n_wL, hm_n_wR, hm_n_g] at *; omega)) (hM 21) dX5_up_139 ?_
          refine hm_bipush dX5_up_142 (v := 16) (by decide) ?_
          refine hm_iload_n dX5_up_144 rfl ?_
          refine hm_imul dX5_up_145 ?_
          refine hm_aload_n dX5_up_146 rfl ?_
          refine hm_getR lf_RX5_63 rfl rfl (by first | exact Nat.lt_of_lt_of_le (by decide) hN | assumption | (simp only [hm_n_wI, hm_n_wL, hm_n_wR, hm_n_g] at *; omega)) (hM 20) dX5_up_147 ?_
          refine hm_iload_n dX5_up_150 rfl ?_
          refine hm_iald _ rfl (by first | exact Nat.lt_of_lt_of_le (by decide) hN | assumption | (simp only [hm_n_wI, hm_n_wL, hm_n_wR, hm_n_g] at *; omega)) rfl (by omega) (by decide) dX5_up_151 ?_
          rw [d2]
          refine hm_iadd dX5_up_152 ?_
          refine hm_aload_n dX5_up_153 rfl ?_
          refine hm_getL lf_RX5_179 rfl rfl (by first | exact Nat.lt_of_lt_of_le (by decide) hN | assumption | (simp only [hm_n_wI, hm_n_wL, hm_n_wR, hm_n_g] at *; omega)) dX5_up_154 ?_
          rw [d6]
          refine hm_aload_n dX5_up_157 rfl ?_
          refine hm_aload_n dX5_up_158 rfl ?_
          refine hm_getR lf_RX5_24 rfl rfl (by first | exact Nat.lt_of_lt_of_le (by decide) hN | assumption | (simp only [hm_n_wI, hm_n_wL, hm_n_wR, hm_n_g] at *; omega)) (hM 6) dX5_up_159 ?_
          refine hm_iload_n dX5_up_162 rfl ?_
          refine hm_lald _ rfl (by first | exact Nat.lt_of_lt_of_le (by decide) hN | assumption | (simp only [hm_n_wI, hm_n_wL, hm_n_wR, hm_n_g] at *; omega)) rfl (by omega) (by decide) dX5_up_163 ?_
          rw [d7]
          refine hm_aload_n dX5_up_164 rfl ?_
          refine hm_getI lf_RX5_103 rfl rfl (by first | exact Nat.lt_of_lt_of_le (by decide) hN | assumption | (simp only [hm_n_wI, hm_n_wL, hm_n_wR, hm_n_g] at *; omega)) dX5_up_165 ?_
          rw [d8]
          refine hm_i2l dX5_up_168 ?_
          refine hm_callV lm_RX5_175 (r5_mix l _ _ _) rfl rfl rfl rfl (by first | exact Nat.lt_of_lt_of_le (by decide) hN | assumption | (simp only [hm_n_wI, hm_n_wL, hm_n_wR, hm_n_g] at *; omega)) (by decide) (by decide) (Nat.le_of_ble_eq_true rfl) dX5_up_169 ?_
          rintro _ t9 ⟨rfl, hh9⟩
          rw [hh9]
          clear hh9 t9
          refine hm_lxor dX5_up_172 ?_
          refine hm_last (16 * pPar α p + (aQ α 1 (pPar α p)).length) rfl (by first | exact Nat.lt_of_lt_of_le (by decide) hN | assumption | (simp only [hm_n_wI, hm_n_wL, hm_n_wR, hm_n_g] at *; omega)) (ix16 _ _) (by omega) (by decide) dX5_up_173 ?_
          refine hm_aload_n dX5_up_174 rfl ?_
          refine hm_getR lf_RX5_63 rfl rfl (by first | exact Nat.lt_of_lt_of_le (by decide) hN | assumption | (simp only [hm_n_wI, hm_n_wL, hm_n_wR, hm_n_g] at *; omega)) (hM 20) dX5_up_175 ?_
          refine hm_iload_n dX5_up_178 rfl ?_
          refine hm_dup2 dX5_up_179 rfl rfl ?_
          refine hm_iald _ rfl (by first | exact Nat.lt_of_lt_of_le (by decide) hN | assumption | (simp only [hm_n_wI, hm_n_wL, hm_n_wR, hm_n_g] at *; omega)) rfl (by omega) (by decide) dX5_up_180 ?_
          rw [show hm_I (hm_wL (hm_wI τ 27 31 (aI α 4 4 + 1)) 46 (16 * pPar α p + (aQ α 1 (pPar α p)).length) (pUpB α p v ^^^ pMix (aL α 1 p) ((nI (aN α 6 0)).toInt64))) 45 (pPar α p) = nI (aQ α 1 (pPar α p)).length from d2]
          refine hm_iconst dX5_up_181 (v := 1) (by decide) ?_
          refine hm_iadd dX5_up_182 ?_
          refine hm_iast _ rfl (by first | exact Nat.lt_of_lt_of_le (by decide) hN | assumption | (simp only [hm_n_wI, hm_n_wL, hm_n_wR, hm_n_g] at *; omega)) rfl (by omega) (by decide) dX5_up_183 ?_
          refine hm_vret dX5_up_184 rfl (by decide) (by decide) ?_
          exact hfin2 _ (hlast (by omega)) ((f2.wL 46 _ _ (by decide)).wI 45 _ _ (by decide)) (by omega)
      | succ m ih =>
        intro k τ u hk hu i1 i2 i3 i4 i5 i6 i7
        subst hu
        have hN : 52 ≤ hm_n τ := by rw [i4]; exact hN
        have hM : ∀ k, hm_R τ 27 k = md_tab k := fun k => by rw [i3]; exact hM k
        obtain ⟨x, hx⟩ : ∃ x, t[k]? = some x := ⟨_, List.getElem?_eq_getElem (by omega)⟩
        have g1 : hm_L τ 44 (8 * p + (k + 1)) = x := i7 (k + 1) x (by omega) (by simpa using hx)
        refine hm_iload_n dX5_up_77 rfl ?_
        refine hm_aload_n dX5_up_78 rfl ?_
        refine hm_getR lf_RX5_57 rfl rfl (by first | exact Nat.lt_of_lt_of_le (by decide) hN | assumption | (simp only [hm_n_wI, hm_n_wL, hm_n_wR, hm_n_g] at *; omega)) (hM 18) dX5_up_79 ?_
        refine hm_iload_n dX5_up_82 rfl ?_
        refine hm_iald _ rfl (by first | exact Nat.lt_of_lt_of_le (by decide) hN | assumption | (simp only [hm_n_wI, hm_n_wL, hm_n_wR, hm_n_g] at *; omega)) rfl (by omega) (by decide) dX5_up_83 ?_
        rw [i5]
        refine hm_icmp_ge 117 dX5_up_84 (by decide) (fun h84 => absurd h84 (nI_ge (by omega) (by omega))) (fun _ => ?_)
        refine hm_aload_n dX5_up_87 rfl ?_
        refine hm_getR lf_RX5_60 rfl rfl (by first | exact Nat.lt_of_lt_of_le (by decide) hN | assumption | (simp only [hm_n_wI, hm_n_wL, hm_n_wR, hm_n_g] at *; omega)) (hM 19) dX5_up_88 ?_
        refine hm_bipush dX5_up_91 (v := 8) (by decide) ?_
        refine hm_iload_n dX5_up_93 rfl ?_
        refine hm_imul dX5_up_94 ?_
        refine hm_iload_n dX5_up_95 rfl ?_
        refine hm_iadd dX5_up_96 ?_
        refine hm_aload_n dX5_up_97 rfl ?_
        refine hm_getR lf_RX5_60 rfl rfl (by first | exact Nat.lt_of_lt_of_le (by decide) hN | assumption | (simp only [hm_n_wI, hm_n_wL, hm_n_wR, hm_n_g] at *; omega)) (hM 19) dX5_up_98 ?_
        refine hm_bipush dX5_up_101 (v := 8) (by decide) ?_
        refine hm_iload_n dX5_up_103 rfl ?_
        refine hm_imul dX5_up_104 ?_
        refine hm_iload_n dX5_up_105 rfl ?_
        refine hm_iadd dX5_up_106 ?_
        refine hm_iconst dX5_up_107 (v := 1) (by decide) ?_
        refine hm_iadd dX5_up_108 ?_
        refine hm_lald (8 * p + (k + 1)) rfl (by first | exact Nat.lt_of_lt_of_le (by decide) hN | assumption | (simp only [hm_n_wI, hm_n_wL, hm_n_wR, hm_n_g] at *; omega)) (by rw [ix8]; exact nI_1 _) (by omega) (by decide) dX5_up_109 ?_
        rw [g1]
        refine hm_last (8 * p + k) rfl (by first | exact Nat.lt_of_lt_of_le (by decide) hN | assumption | (simp only [hm_n_wI, hm_n_wL, hm_n_wR, hm_n_g] at *; omega)) (ix8 _ _) (by omega) (by decide) dX5_up_110 ?_
        refine hm_iinc dX5_up_111 rfl _ rfl (by decide) rfl ?_
        refine hm_goto 77 dX5_up_114 (by decide) ?_
        refine ih (k + 1) _ _ (by omega) (hm_inc k) i1 (fun a j g => ?_) i3 i4 i5 (fun j y hj hy => ?_) (fun j y hj hy => ?_)
        rw [hm_L_wL, if_neg (by omega)]; exact i2 a j g
        rw [hm_L_wL]
        (by_cases e : j = k)
        subst e; rw [if_pos ⟨rfl, rfl⟩]; rw [hx] at hy; exact Option.some.inj hy
        rw [if_neg (by omega)]; exact i6 j y (by omega) hy
        rw [hm_L_wL, if_neg (by omega)]; exact i7 j y (by omega) hy
    refine hm_aload_n dX5_up_29 rfl ?_
    refine hm_getR lf_RX5_30 rfl rfl (by first | exact Nat.lt_of_lt_of_le (by decide) hN | assumption | (simp only [hm_n_wI, hm_n_wL, hm_n_wR, hm_n_g] at *; omega)) (hM 8) dX5_up_30 ?_
    refine hm_iload_n dX5_up_33 rfl ?_
    refine hm_iald _ rfl (by first | exact Nat.lt_of_lt_of_le (by decide) hN | assumption | (simp only [hm_n_wI, hm_n_wL, hm_n_wR, hm_n_g] at *; omega)) rfl (by omega) (by decide) dX5_up_34 ?_
    rw [e5]
    refine hm_istore_n dX5_up_35 (by decide) rfl ?_
    refine hm_aload_n dX5_up_36 rfl ?_
    refine hm_aload_n dX5_up_37 rfl ?_
    refine hm_getR lf_RX5_60 rfl rfl (by first | exact Nat.lt_of_lt_of_le (by decide) hN | assumption | (simp only [hm_n_wI, hm_n_wL, hm_n_wR, hm_n_g] at *; omega)) (hM 19) dX5_up_38 ?_
    refine hm_bipush dX5_up_41 (v := 8) (by decide) ?_
    refine hm_iload_n dX5_up_43 rfl ?_
    refine hm_imul dX5_up_44 ?_
    refine hm_lald (8 * p) rfl (by first | exact Nat.lt_of_lt_of_le (by decide) hN | assumption | (simp only [hm_n_wI, hm_n_wL, hm_n_wR, hm_n_g] at *; omega)) (ixm 8 p) (by omega) (by decide) dX5_up_45 ?_
    rw [e6]
    refine hm_aload_n dX5_up_46 rfl ?_
    refine hm_aload_n dX5_up_47 rfl ?_
    refine hm_getR lf_RX5_16 rfl rfl (by first | exact Nat.lt_of_lt_of_le (by decide) hN | assumption | (simp only [hm_n_wI, hm_n_wL, hm_n_wR, hm_n_g] at *; omega)) (hM 4) dX5_up_48 ?_
    refine hm_iload_n dX5_up_51 rfl ?_
    refine hm_lald _ rfl (by first | exact Nat.lt_of_lt_of_le (by decide) hN | assumption | (simp only [hm_n_wI, hm_n_wL, hm_n_wR, hm_n_g] at *; omega)) rfl (by omega) (by decide) dX5_up_52 ?_
    rw [e2]
    refine hm_aload_n dX5_up_53 rfl ?_
    refine hm_getI lf_RX5_103 rfl rfl (by first | exact Nat.lt_of_lt_of_le (by decide) hN | assumption | (simp only [hm_n_wI, hm_n_wL, hm_n_wR, hm_n_g] at *; omega)) dX5_up_54 ?_
    rw [e4]
    refine hm_i2l dX5_up_57 ?_
    refine hm_callV lm_RX5_175 (r5_mix l _ _ _) rfl rfl rfl rfl (by first | exact Nat.lt_of_lt_of_le (by decide) hN | assumption | (simp only [hm_n_wI, hm_n_wL, hm_n_wR, hm_n_g] at *; omega)) (by decide) (by decide) (Nat.le_of_ble_eq_true rfl) dX5_up_58 ?_
    rintro _ t9 ⟨rfl, hh9⟩
    rw [hh9]
    clear hh9 t9
    refine hm_lxor dX5_up_61 ?_
    refine hm_putL lf_RX5_179 rfl rfl rfl (by first | exact Nat.lt_of_lt_of_le (by decide) hN | assumption | (simp only [hm_n_wI, hm_n_wL, hm_n_wR, hm_n_g] at *; omega)) dX5_up_62 ?_
    refine hm_aload_n dX5_up_65 rfl ?_
    refine hm_getR lf_RX5_57 rfl rfl (by first | exact Nat.lt_of_lt_of_le (by decide) hN | assumption | (simp only [hm_n_wI, hm_n_wL, hm_n_wR, hm_n_g] at *; omega)) (hM 18) dX5_up_66 ?_
    refine hm_iload_n dX5_up_69 rfl ?_
    refine hm_dup2 dX5_up_70 rfl rfl ?_
    refine hm_iald _ rfl (by first | exact Nat.lt_of_lt_of_le (by decide) hN | assumption | (simp only [hm_n_wI, hm_n_wL, hm_n_wR, hm_n_g] at *; omega)) rfl (by omega) (by decide) dX5_up_71 ?_
    rw [show hm_I (hm_wL σ 27 24 _) 43 p = nI (t.length + 1) from e7]
    refine hm_iconst dX5_up_72 (v := 1) (by decide) ?_
    refine hm_isub dX5_up_73 ?_
    refine hm_iast _ rfl (by first | exact Nat.lt_of_lt_of_le (by decide) hN | assumption | (simp only [hm_n_wI, hm_n_wL, hm_n_wR, hm_n_g] at *; omega)) rfl (by omega) (by decide) dX5_up_74 ?_
    refine hm_iconst dX5_up_75 (v := 0) (by decide) ?_
    refine hm_istore_n dX5_up_76 (by decide) rfl ?_
    refine hl t.length 0 _ _ (Nat.zero_add _) rfl (fun a j g => by rw [hm_I_wI, if_neg g]; rfl) (fun a j g => rfl) rfl rfl (by rw [hm_I_wI, if_pos ⟨rfl, rfl⟩]; exact nI_pred _) (fun j x hj => absurd hj (by omega)) (fun j x _ hj => ?_)
    show hm_L (hm_wL σ 27 24 _) 44 (8 * p + j) = x
    rw [hm_L_wL, if_neg (by omega)]
    exact c3 j x (by rw [hq]; exact hj)
  refine hm_aload_n dX5_up_0 rfl ?_
  refine hm_getR lf_RX5_27 rfl rfl (by first | exact Nat.lt_of_lt_of_le (by decide) hN | assumption | (simp only [hm_n_wI, hm_n_wL, hm_n_wR, hm_n_g] at *; omega)) (hM 7) dX5_up_1 ?_
  refine hm_iload_n dX5_up_4 rfl ?_
  refine hm_iald _ rfl (by first | exact Nat.lt_of_lt_of_le (by decide) hN | assumption | (simp only [hm_n_wI, hm_n_wL, hm_n_wR, hm_n_g] at *; omega)) rfl (by omega) (by decide) dX5_up_5 ?_
  rw [e1]
  refine hm_bipush dX5_up_6 (v := 7) (by decide) ?_
  refine hm_icmp_ne 28 dX5_up_8 (by decide) (fun h8 => ?_) (fun h8 => ?_)
  · skip
    exact hm_vret dX5_up_28 rfl (by decide) (by decide) (hQ _ _ ⟨rfl, by rw [show pUp α p = α by simp [pUp, h8]]; exact h, md_fr.rf σ⟩)
  · skip
    refine hm_aload_n dX5_up_11 rfl ?_
    refine hm_iload_n dX5_up_12 rfl ?_
    refine hm_callV lm_RX5_172 (r5_isGood l h w hp8) rfl rfl rfl rfl (by first | exact Nat.lt_of_lt_of_le (by decide) hN | assumption | (simp only [hm_n_wI, hm_n_wL, hm_n_wR, hm_n_g] at *; omega)) (by decide) (by decide) (Nat.le_of_ble_eq_true rfl) dX5_up_13 ?_
    rintro _ t9 ⟨rfl, hh9⟩
    rw [hh9]
    clear hh9 t9
    refine hm_if_eq 28 dX5_up_16 (by decide) (fun h16 => ?_) (fun h16 => ?_)
    · skip
      rw [bI_0] at h16
      exact hm_vret dX5_up_28 rfl (by decide) (by decide) (hQ _ _ ⟨rfl, by rw [show pUp α p = α by simp [pUp, h16]]; exact h, md_fr.rf σ⟩)
    · skip
      rw [bI_0] at h16
      refine hm_aload_n dX5_up_19 rfl ?_
      refine hm_getR lf_RX5_57 rfl rfl (by first | exact Nat.lt_of_lt_of_le (by decide) hN | assumption | (simp only [hm_n_wI, hm_n_wL, hm_n_wR, hm_n_g] at *; omega)) (hM 18) dX5_up_20 ?_
      refine hm_iload_n dX5_up_23 rfl ?_
      refine hm_iald _ rfl (by first | exact Nat.lt_of_lt_of_le (by decide) hN | assumption | (simp only [hm_n_wI, hm_n_wL, hm_n_wR, hm_n_g] at *; omega)) rfl (by omega) (by decide) dX5_up_24 ?_
      rw [c1]
      refine hm_if_ne 29 dX5_up_25 (by decide) (fun h25 => ?_) (fun h25 => ?_)
      · skip
        rw [q0] at h25
        (obtain ⟨v, t, hvt⟩ : ∃ v t, aQ α 0 p = v :: t := by cases hz : aQ α 0 p with | nil => rw [hz] at h25; exact absurd rfl h25 | cons v t => exact ⟨v, t, rfl⟩)
        exact j29 h8 (b_nf h16) v t hvt
      · skip
        rw [q0] at h25
        refine hm_vret dX5_up_28 rfl (by decide) (by decide) ?_
        exact hQ _ _ ⟨rfl, by rw [show pUp α p = α by unfold pUp; rw [List.eq_nil_of_length_eq_zero h25]; split <;> rfl]; exact h, md_fr.rf σ⟩
end M12
