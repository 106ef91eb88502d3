/-! the reference: a block goes down -/
section M13
variable (l : Launch) {α : sA} {σ : hm_M}
set_option maxRecDepth 100000 in
set_option maxHeartbeats 4000000 in
theorem r5_down (h : rM α σ) (w : sW α) {p : Nat} (hp : p < nPort α) (rd : Nat → Nat) (hrd : hm_I σ 51 p = nI (rd p)) (hrb : rd p ≤ 16) (hne : aI α 1 p = 7 → rd p ≠ 0 → aQ α 1 p ≠ []) : hm_Ct l yX5_down cX5_down 4 (some .int) 1 0 0 [.ref 27, .int (nI p)] σ (fun r τ => ∃ n, r = some (.int n) ∧ rM (pDown rd α p) τ ∧ md_fr σ τ ∧ aI (pDown rd α p) 4 5 = aI α 4 5 + n) := by
  obtain ⟨hN, hM⟩ := h.m
  have h8 := w.p8
  have hp8 : p < 8 := by omega
  have e1 : hm_I σ 33 p = aI α 1 p := h.i 1 p hp8
  obtain ⟨c1, c2, c3, c4, c5⟩ := h.q p hp8
  obtain ⟨-, hl16, hlk, hht⟩ := w.q p
  have htime := w.t
  have q0 : nI (rd p) = 0 ↔ rd p = 0 := nI_0' (by omega)
  have e2 : hm_L σ 30 p = aL α 0 p := h.l 0 p hp8
  have e3 : hm_L σ 32 p = aL α 1 p := h.l 1 p hp8
  have e4 : hm_I σ 27 26 = nI (aN α 6 0) := h.n 6 0 (by decide)
  have eh : hm_I σ 47 p = nI (aN α 7 p) := h.n 7 p hp8
  have hno : pDown rd α p = α → ∃ n, some (Value.int 0) = some (.int n) ∧ rM (pDown rd α p) σ ∧ md_fr σ σ ∧ aI (pDown rd α p) 4 5 = aI α 4 5 + n := fun e => ⟨0, rfl, by rw [e]; exact h, md_fr.rf σ, by rw [e, Int32.add_zero]⟩
  refine hm_startQ (ini := false) [.ref 27, .int (nI p), hm_u, hm_u] (by decide) (by decide) rfl (Nat.le_of_ble_eq_true rfl) (fun Q hQ => ?_)
  have j30 : aI α 1 p = 7 → pGood α p = true → rd p ≠ 0 → ∀ v t, aQ α 1 p = v :: t → hm_V l RX5 cX5_down 4 (some .int) false (hm_rm 1 0 0) 0 0 Q 0 0 30 [.ref 27, .int (nI p), hm_u, hm_u] [] σ := by
    intro hs hg hr0 v t hq
    rw [hq, List.length_cons] at hl16
    have e6 : hm_L σ 46 (16 * p) = v := c4 0 v (by rw [hq]; rfl)
    have e7 : hm_I σ 45 p = nI (t.length + 1) := by rw [c2, hq]; rfl
    have hr1 : rM (sL α 2 1 (pDnB α p v)) (hm_wL σ 27 25 (pDnB α p v)) := h.upL 2 1 _ (by decide)
    have w1 := w.L 2 1 (pDnB α p v) (by omega)
    have w2 : sW (sQ (sL α 2 1 (pDnB α p v)) 1 p t) := w1.Q 1 p t (Or.inr ⟨rfl, by omega⟩) hp
    have hpd : pDown rd α p = sI (sN (sQ (sQ (sL α 2 1 (pDnB α p v)) 1 p t) 2 p (pKeep (aQ α 2 p) (pDnB α p v ^^^ pMix (aL α 0 p) ((nI (aN α 6 0)).toInt64 + 1000000)))) 7 p (aN α 7 p + 1)) 4 5 (aI α 4 5 + 1) := by
      unfold pDown
      rw [if_pos (by simp [hs, hg, hr0]), hq]
    have hfin : ∀ τ, rM (sN (sQ (sQ (sL α 2 1 (pDnB α p v)) 1 p t) 2 p (pKeep (aQ α 2 p) (pDnB α p v ^^^ pMix (aL α 0 p) ((nI (aN α 6 0)).toInt64 + 1000000)))) 7 p (aN α 7 p + 1)) τ → md_fr σ τ → Q (some (.int 1)) τ := fun τ hτ hf => by
      refine hQ _ _ ⟨1, rfl, ?_, hf, ?_⟩
      · rw [hpd]; exact hτ.upH _
      · rw [hpd, aI_sI, if_pos ⟨rfl, rfl⟩]
    -- behind the first loop: ρ holds the state with the block taken
    have j187 : ∀ (ρ τ : hm_M) (n : Nat) (y : Int32), rM (sQ (sL α 2 1 (pDnB α p v)) 1 p t) ρ → md_fr σ ρ → hm_I τ = hm_I ρ → (∀ a j, ¬ (a = 48 ∧ 20 * p ≤ j ∧ j < 20 * p + 20) → hm_L τ a j = hm_L ρ a j) → hm_R τ = hm_R ρ → hm_n τ = hm_n ρ → n < 20 → (∀ z k x, (pKeep (aQ α 2 p) z)[k]? = some x → (k = n ∧ x = z) ∨ (k ≠ n ∧ hm_L τ 48 (20 * p + k) = x)) → hm_V l RX5 cX5_down 4 (some .int) false (hm_rm 1 0 0) 0 0 Q 0 0 187 [.ref 27, .int (nI p), .int (nI n), .int y] [] τ := by
      intro ρ τ n y hρ hf i1 i2 i3 i4 hn i5
      have hN : 52 ≤ hm_n τ := by rw [i4]; exact hρ.m.1
      have hM : ∀ k, hm_R τ 27 k = md_tab k := fun k => by rw [i3]; exact hρ.m.2 k
      have g1 : hm_L τ 27 25 = pDnB α p v := (i2 27 25 (by omega)).trans ((hρ.l 2 1 (by decide)).trans (by simp [aN_sN, aN_sI, aN_sL, aN_sB, aN_sQ, aI_sN, aI_sI, aI_sL, aI_sB, aI_sQ, aL_sN, aL_sI, aL_sL, aL_sB, aL_sQ, aB_sN, aB_sI, aB_sL, aB_sB, aB_sQ, aQ_sN, aQ_sI, aQ_sL, aQ_sB, aQ_sQ]))
      have g2 : hm_L τ 30 p = aL α 0 p := (i2 30 p (by omega)).trans (hρ.l 0 p hp8)
      have g3 : hm_I τ 27 26 = nI (aN α 6 0) := by rw [i1]; exact hρ.n 6 0 (by decide)
      have g4 : hm_I τ 47 p = nI (aN α 7 p) := by rw [i1]; exact hρ.n 7 p hp8
      refine hm_aload_n dX5_down_187 rfl ?_
      refine hm_getR lf_RX5_72 rfl rfl (by first | exact Nat.lt_of_lt_of_le (by decide) hN | assumption | (simp only [hm_n_wI, hm_n_wL, hm_n_wR, hm_n_g] at *; omega)) (hM 23) dX5_down_188 ?_
      refine hm_bipush dX5_down_191 (v := 20) (by decide) ?_
      refine hm_iload_n dX5_down_193 rfl ?_
      refine hm_imul dX5_down_194 ?_
      refine hm_iload_n dX5_down_195 rfl ?_
      refine hm_iadd dX5_down_196 ?_
      refine hm_aload_n dX5_down_197 rfl ?_
      refine hm_getL lf_RX5_188 rfl rfl (by first | exact Nat.lt_of_lt_of_le (by decide) hN | assumption | (simp only [hm_n_wI, hm_n_wL, hm_n_wR, hm_n_g] at *; omega)) dX5_down_198 ?_
      rw [g1]
      refine hm_aload_n dX5_down_201 rfl ?_
      refine hm_aload_n dX5_down_202 rfl ?_
      refine hm_getR lf_RX5_16 rfl rfl (by first | exact Nat.lt_of_lt_of_le (by decide) hN | assumption | (simp only [hm_n_wI, hm_n_wL, hm_n_wR, hm_n_g] at *; omega)) (hM 4) dX5_down_203 ?_
      refine hm_iload_n dX5_down_206 rfl ?_
      refine hm_lald _ rfl (by first | exact Nat.lt_of_lt_of_le (by decide) hN | assumption | (simp only [hm_n_wI, hm_n_wL, hm_n_wR, hm_n_g] at *; omega)) rfl (by omega) (by decide) dX5_down_207 ?_
      rw [g2]
      refine hm_aload_n dX5_down_208 rfl ?_
      refine hm_getI lf_RX5_103 rfl rfl (by first | exact Nat.lt_of_lt_of_le (by decide) hN | assumption | (simp only [hm_n_wI, hm_n_wL, hm_n_wR, hm_n_g] at *; omega)) dX5_down_209 ?_
      rw [g3]
      refine hm_i2l dX5_down_212 ?_
      refine hm_ldc2 dX5_down_213 lk_RX5_186 ?_
      refine hm_ladd dX5_down_216 ?_
      refine hm_callV lm_RX5_175 (r5_mix l _ _ _) rfl rfl rfl rfl (by first | exact Nat.lt_of_lt_of_le (by decide) hN | assumption | (simp only [hm_n_wI, hm_n_wL, hm_n_wR, hm_n_g] at *; omega)) (by decide) (by decide) (Nat.le_of_ble_eq_true rfl) dX5_down_217 ?_
      rintro _ t9 ⟨rfl, hh9⟩
      rw [hh9]
      clear hh9 t9
      refine hm_lxor dX5_down_220 ?_
      refine hm_last (20 * p + n) rfl (by first | exact Nat.lt_of_lt_of_le (by decide) hN | assumption | (simp only [hm_n_wI, hm_n_wL, hm_n_wR, hm_n_g] at *; omega)) (ix20 _ _) (by omega) (by decide) dX5_down_221 ?_
      refine hm_aload_n dX5_down_222 rfl ?_
      refine hm_getR lf_RX5_69 rfl rfl (by first | exact Nat.lt_of_lt_of_le (by decide) hN | assumption | (simp only [hm_n_wI, hm_n_wL, hm_n_wR, hm_n_g] at *; omega)) (hM 22) dX5_down_223 ?_
      refine hm_iload_n dX5_down_226 rfl ?_
      refine hm_dup2 dX5_down_227 rfl rfl ?_
      refine hm_iald _ rfl (by first | exact Nat.lt_of_lt_of_le (by decide) hN | assumption | (simp only [hm_n_wI, hm_n_wL, hm_n_wR, hm_n_g] at *; omega)) rfl (by omega) (by decide) dX5_down_228 ?_
      rw [show hm_I (hm_wL τ 48 (20 * p + n) _) 47 p = nI (aN α 7 p) from g4]
      refine hm_iconst dX5_down_229 (v := 1) (by decide) ?_
      refine hm_iadd dX5_down_230 ?_
      refine hm_iast _ rfl (by first | exact Nat.lt_of_lt_of_le (by decide) hN | assumption | (simp only [hm_n_wI, hm_n_wL, hm_n_wR, hm_n_g] at *; omega)) rfl (by omega) (by decide) dX5_down_231 ?_
      refine hm_iconst dX5_down_232 (v := 1) (by decide) ?_
      refine hm_iret dX5_down_233 rfl (by decide) (by decide) ?_
      refine hfin _ (hρ.newK w2 hp8 (fun a k g => ?_) (fun a k g => ?_) i3 i4 ?_ (fun k x hk => ?_)) ?_
      rw [hm_I_wI, if_neg g]; show hm_I τ a k = _; rw [i1]
      show hm_L (hm_wL _ _ _ _) a k = _; rw [hm_L_wL, if_neg (by omega)]; exact i2 a k g
      rw [hm_I_wI, if_pos ⟨rfl, rfl⟩]; exact nI_1 _
      show hm_L (hm_wL _ _ _ _) 48 _ = x
      rw [hm_L_wL]
      rcases i5 _ k x hk with ⟨e, e'⟩ | ⟨e, e'⟩
      rw [if_pos ⟨rfl, by rw [e]⟩]; exact e'.symm
      rw [if_neg (by omega)]; exact e'
      refine hf.tr (md_fr.wI (md_fr.wL ?_ 48 _ _ (by decide)) 47 _ _ (by decide))
      exact ⟨i4, i3, fun a j ha => ⟨by rw [i1], i2 a j (by omega)⟩⟩
    have j115 : ∀ (ρ : hm_M) (y2 : Int32), rM (sQ (sL α 2 1 (pDnB α p v)) 1 p t) ρ → md_fr σ ρ → hm_V l RX5 cX5_down 4 (some .int) false (hm_rm 1 0 0) 0 0 Q 0 0 115 [.ref 27, .int (nI p), .int y2, hm_u] [] ρ := by
      intro ρ y2 hρ hf
      obtain ⟨hN, hM⟩ := hρ.m
      have g4 : hm_I ρ 47 p = nI (aN α 7 p) := hρ.n 7 p hp8
      have q20 : (20 : Int32) ≤ nI (aN α 7 p) ↔ 20 ≤ aN α 7 p := nI_leI (a := 20) (by decide) (by omega)
      have q20' : nI (aN α 7 p) < 20 ↔ aN α 7 p < 20 := nI_ltI (b := 20) (by omega) (by decide)
      have d5 := (hρ.q p hp8).2.2.2.2
      have d5 : ∀ (k : Nat) (x : Int64), (aQ α 2 p)[k]? = some x → hm_L ρ 48 (20 * p + k) = x := fun k x hk => d5 k x (by simpa [aN_sN, aN_sI, aN_sL, aN_sB, aN_sQ, aI_sN, aI_sI, aI_sL, aI_sB, aI_sQ, aL_sN, aL_sI, aL_sL, aL_sB, aL_sQ, aB_sN, aB_sI, aB_sL, aB_sB, aB_sQ, aQ_sN, aQ_sI, aQ_sL, aQ_sB, aQ_sQ] using hk)
      by_cases h20 : aN α 7 p < 20
      · have hkl : (aQ α 2 p).length = aN α 7 p := by omega
        refine hm_aload_n dX5_down_115 rfl ?_
        refine hm_getR lf_RX5_69 rfl rfl (by first | exact Nat.lt_of_lt_of_le (by decide) hN | assumption | (simp only [hm_n_wI, hm_n_wL, hm_n_wR, hm_n_g] at *; omega)) (hM 22) dX5_down_116 ?_
        refine hm_iload_n dX5_down_119 rfl ?_
        refine hm_iald _ rfl (by first | exact Nat.lt_of_lt_of_le (by decide) hN | assumption | (simp only [hm_n_wI, hm_n_wL, hm_n_wR, hm_n_g] at *; omega)) rfl (by omega) (by decide) dX5_down_120 ?_
        rw [g4]
        refine hm_bipush dX5_down_121 (v := 20) (by decide) ?_
        refine hm_icmp_ge 135 dX5_down_123 (by decide) (fun h123 => absurd h123 (by rw [q20]; omega)) (fun _ => ?_)
        refine hm_aload_n dX5_down_126 rfl ?_
        refine hm_getR lf_RX5_69 rfl rfl (by first | exact Nat.lt_of_lt_of_le (by decide) hN | assumption | (simp only [hm_n_wI, hm_n_wL, hm_n_wR, hm_n_g] at *; omega)) (hM 22) dX5_down_127 ?_
        refine hm_iload_n dX5_down_130 rfl ?_
        refine hm_iald _ rfl (by first | exact Nat.lt_of_lt_of_le (by decide) hN | assumption | (simp only [hm_n_wI, hm_n_wL, hm_n_wR, hm_n_g] at *; omega)) rfl (by omega) (by decide) dX5_down_131 ?_
        rw [g4]
        refine hm_goto 137 dX5_down_132 (by decide) ?_
        refine hm_istore_n dX5_down_137 (by decide) rfl ?_
        refine hm_iconst dX5_down_138 (v := 0) (by decide) ?_
        refine hm_istore_n dX5_down_139 (by decide) rfl ?_
        refine hm_iload_n dX5_down_140 rfl ?_
        refine hm_bipush dX5_down_141 (v := 19) (by decide) ?_
        refine hm_icmp_ge 187 dX5_down_143 (by decide) (fun h143 => absurd h143 (by decide)) (fun _ => ?_)
        refine hm_aload_n dX5_down_146 rfl ?_
        refine hm_getR lf_RX5_69 rfl rfl (by first | exact Nat.lt_of_lt_of_le (by decide) hN | assumption | (simp only [hm_n_wI, hm_n_wL, hm_n_wR, hm_n_g] at *; omega)) (hM 22) dX5_down_147 ?_
        refine hm_iload_n dX5_down_150 rfl ?_
        refine hm_iald _ rfl (by first | exact Nat.lt_of_lt_of_le (by decide) hN | assumption | (simp only [hm_n_wI, hm_n_wL, hm_n_wR, hm_n_g] at *; omega)) rfl (by omega) (by decide) dX5_down_151 ?_
        rw [g4]
        refine hm_bipush dX5_down_152 (v := 20) (by decide) ?_
        refine hm_icmp_lt 187 dX5_down_154 (by decide) (fun _ => ?_) (fun h154 => absurd (q20'.mpr h20) h154)
        refine j187 ρ ρ _ _ hρ hf rfl (fun _ _ _ => rfl) rfl rfl h20 (fun z k x hk => ?_)
        unfold pKeep at hk
        rw [if_pos (by omega)] at hk
        (by_cases e : k < (aQ α 2 p).length)
        rw [List.getElem?_append_left e] at hk
        exact Or.inr ⟨by omega, d5 k x hk⟩
        rw [List.getElem?_append_right (by omega)] at hk
        have hz := (List.getElem?_eq_some_iff.mp hk).1
        simp at hz
        (have ek : k = (aQ α 2 p).length := by omega)
        rw [ek, Nat.sub_self] at hk
        cases hk
        exact Or.inl ⟨by omega, rfl⟩
      · have hkl : (aQ α 2 p).length = 20 := by omega
        have hl2 : ∀ (m k : Nat) (τ : hm_M) (u : Int32), k + m = 19 → u = nI k → hm_I τ = hm_I ρ → (∀ a j, ¬ (a = 48 ∧ 20 * p ≤ j ∧ j < 20 * p + 20) → hm_L τ a j = hm_L ρ a j) → hm_R τ = hm_R ρ → hm_n τ = hm_n ρ → (∀ (j : Nat) (x : Int64), j < k → (aQ α 2 p)[j + 1]? = some x → hm_L τ 48 (20 * p + j) = x) → (∀ (j : Nat) (x : Int64), k ≤ j → (aQ α 2 p)[j]? = some x → hm_L τ 48 (20 * p + j) = x) → hm_V l RX5 cX5_down 4 (some .int) false (hm_rm 1 0 0) 0 0 Q 0 0 140 [.ref 27, .int (nI p), .int 19, .int u] [] τ := by
          intro m
          induction m with
          | zero =>
            intro k τ u hk hu i1 i2 i3 i4 i5 i6
            subst hu
            have hN : 52 ≤ hm_n τ := by rw [i4]; exact hN
            have hM : ∀ k, hm_R τ 27 k = md_tab k := fun k => by rw [i3]; exact hM k
            refine hm_iload_n dX5_down_140 rfl ?_
            refine hm_bipush dX5_down_141 (v := 19) (by decide) ?_
            refine hm_icmp_ge 187 dX5_down_143 (by decide) (fun _ => ?_) (fun h143 => absurd (nI_le (a := 19) (by omega) (by omega)) h143)
            refine j187 ρ τ 19 _ hρ hf i1 i2 i3 i4 (by decide) (fun z k' x hk' => ?_)
            unfold pKeep at hk'
            rw [if_neg (by omega)] at hk'
            (have htl : (aQ α 2 p).tail.length = 19 := by rw [List.length_tail]; omega)
            (by_cases e : k' < 19)
            rw [List.getElem?_append_left (by omega), List.getElem?_tail] at hk'
            exact Or.inr ⟨by omega, i5 k' x (by omega) hk'⟩
            rw [List.getElem?_append_right (by omega)] at hk'
            have hz := (List.getElem?_eq_some_iff.mp hk').1
            rw [List.length_singleton] at hz
            (have ek : k' = 19 := by omega)
            rw [ek, htl, Nat.sub_self] at hk'
            cases hk'
            exact Or.inl ⟨ek, rfl⟩
          | succ m ih =>
            intro k τ u hk hu i1 i2 i3 i4 i5 i6
            subst hu
            have hN : 52 ≤ hm_n τ := by rw [i4]; exact hN
            have hM : ∀ k, hm_R τ 27 k = md_tab k := fun k => by rw [i3]; exact hM k
            have g5 : hm_I τ 47 p = nI (aN α 7 p) := by rw [i1]; exact g4
            obtain ⟨x, hx⟩ : ∃ x, (aQ α 2 p)[k + 1]? = some x := ⟨_, List.getElem?_eq_getElem (by omega)⟩
            have g6 : hm_L τ 48 (20 * p + (k + 1)) = x := i6 (k + 1) x (by omega) hx
            refine hm_iload_n dX5_down_140 rfl ?_
            refine hm_bipush dX5_down_141 (v := 19) (by decide) ?_
            refine hm_icmp_ge 187 dX5_down_143 (by decide) (fun h143 => absurd h143 (nI_ge (b := 19) (by omega) (by decide))) (fun _ => ?_)
            refine hm_aload_n dX5_down_146 rfl ?_
            refine hm_getR lf_RX5_69 rfl rfl (by first | exact Nat.lt_of_lt_of_le (by decide) hN | assumption | (simp only [hm_n_wI, hm_n_wL, hm_n_wR, hm_n_g] at *; omega)) (hM 22) dX5_down_147 ?_
            refine hm_iload_n dX5_down_150 rfl ?_
            refine hm_iald _ rfl (by first | exact Nat.lt_of_lt_of_le (by decide) hN | assumption | (simp only [hm_n_wI, hm_n_wL, hm_n_wR, hm_n_g] at *; omega)) rfl (by omega) (by decide) dX5_down_151 ?_
            rw [g5]
            refine hm_bipush dX5_down_152 (v := 20) (by decide) ?_
            refine hm_icmp_lt 187 dX5_down_154 (by decide) (fun h154 => absurd h154 (by rw [q20']; omega)) (fun _ => ?_)
            refine hm_aload_n dX5_down_157 rfl ?_
            refine hm_getR lf_RX5_72 rfl rfl (by first | exact Nat.lt_of_lt_of_le (by decide) hN | assumption | (simp only [hm_n_wI, hm_n_wL, hm_n_wR, hm_n_g] at *; omega)) (hM 23) dX5_down_158 ?_
            refine hm_bipush dX5_down_161 (v := 20) (by decide) ?_
            refine hm_iload_n dX5_down_163 rfl ?_
            refine hm_imul dX5_down_164 ?_
            refine hm_iload_n dX5_down_165 rfl ?_
            refine hm_iadd dX5_down_166 ?_
            refine hm_aload_n dX5_down_167 rfl ?_
            refine hm_getR lf_RX5_72 rfl rfl (by first | exact Nat.lt_of_lt_of_le (by decide) hN | assumption | (simp only [hm_n_wI, hm_n_wL, hm_n_wR, hm_n_g] at *; omega)) (hM 23) dX5_down_168 ?_
            refine hm_bipush dX5_down_171 (v := 20) (by decide) ?_
            refine hm_iload_n dX5_down_173 rfl ?_
            refine hm_imul dX5_down_174 ?_
            refine hm_iload_n dX5_down_175 rfl ?_
            refine hm_iadd dX5_down_176 ?_
            refine hm_iconst dX5_down_177 (v := 1) (by decide) ?_
            refine hm_iadd dX5_down_178 ?_
            refine hm_lald (20 * p + (k + 1)) rfl (by first | exact Nat.lt_of_lt_of_le (by decide) hN | assumption | (simp only [hm_n_wI, hm_n_wL, hm_n_wR, hm_n_g] at *; omega)) (by rw [ix20]; exact nI_1 _) (by omega) (by decide) dX5_down_179 ?_
            rw [g6]
            refine hm_last (20 * p + k) rfl (by first | exact Nat.lt_of_lt_of_le (by decide) hN | assumption | (simp only [hm_n_wI, hm_n_wL, hm_n_wR, hm_n_g] at *; omega)) (ix20 _ _) (by omega) (by decide) dX5_down_180 ?_
            refine hm_iinc dX5_down_181 rfl _ rfl (by decide) rfl ?_
            refine hm_goto 140 dX5_down_184 (by decide) ?_
            refine ih (k + 1) _ _ (by omega) (hm_inc k) i1 (fun a j g => ?_) i3 i4 (fun j y hj hy => ?_) (fun j y hj hy => ?_)
            rw [hm_L_wL, if_neg (by omega)]; exact i2 a j g
            rw [hm_L_wL]
            (by_cases e : j = k)
            subst e; rw [if_pos ⟨rfl, rfl⟩]; rw [hx] at hy; exact Option.some.inj hy
            rw [if_neg (by omega)]; exact i5 j y (by omega) hy
            rw [hm_L_wL, if_neg (by omega)]; exact i6 j y (by omega) hy
        refine hm_aload_n dX5_down_115 rfl ?_
        refine hm_getR lf_RX5_69 rfl rfl (by first | exact Nat.lt_of_lt_of_le (by decide) hN | assumption | (simp only [hm_n_wI, hm_n_wL, hm_n_wR, hm_n_g] at *; omega)) (hM 22) dX5_down_116 ?_
        refine hm_iload_n dX5_down_119 rfl ?_
        refine hm_iald _ rfl (by first | exact Nat.lt_of_lt_of_le (by decide) hN | assumption | (simp only [hm_n_wI, hm_n_wL, hm_n_wR, hm_n_g] at *; omega)) rfl (by omega) (by decide) dX5_down_120 ?_
        rw [g4]
        refine hm_bipush dX5_down_121 (v := 20) (by decide) ?_
        refine hm_icmp_ge 135 dX5_down_123 (by decide) (fun _ => ?_) (fun h123 => absurd (by rw [q20]; omega) h123)
        refine hm_bipush dX5_down_135 (v := 19) (by decide) ?_
        refine hm_istore_n dX5_down_137 (by decide) rfl ?_
        refine hm_iconst dX5_down_138 (v := 0) (by decide) ?_
        refine hm_istore_n dX5_down_139 (by decide) rfl ?_
        exact hl2 19 0 _ _ rfl rfl rfl (fun _ _ _ => rfl) rfl rfl (fun j x hj => absurd hj (by omega)) (fun j x _ hj => d5 j x hj)
    have hl : ∀ (m k : Nat) (τ : hm_M) (u : Int32), k + m = t.length → u = nI k → (∀ a j, ¬ (a = 45 ∧ j = p) → hm_I τ a j = hm_I σ a j) → (∀ a j, ¬ (a = 46 ∧ 16 * p ≤ j ∧ j < 16 * p + 16) → hm_L τ a j = hm_L (hm_wL σ 27 25 (pDnB α p v)) a j) → hm_R τ = hm_R σ → hm_n τ = hm_n σ → hm_I τ 45 p = nI t.length → (∀ j x, j < k → t[j]? = some x → hm_L τ 46 (16 * p + j) = x) → (∀ j x, k ≤ j → (v :: t)[j]? = some x → hm_L τ 46 (16 * p + j) = x) → hm_V l RX5 cX5_down 4 (some .int) false (hm_rm 1 0 0) 0 0 Q 0 0 75 [.ref 27, .int (nI p), .int u, hm_u] [] τ := by
      intro m
      induction m with
      | zero =>
        intro k τ u hk hu i1 i2 i3 i4 i5 i6 i7
        subst hu
        have hN : 52 ≤ hm_n τ := by rw [i4]; exact hN
        have hM : ∀ k, hm_R τ 27 k = md_tab k := fun k => by rw [i3]; exact hM k
        have hr2 : rM (sQ (sL α 2 1 (pDnB α p v)) 1 p t) τ := hr1.newW w1 i1 i2 i3 i4 i5 (fun j x hj => i6 j x (by have := (List.getElem?_eq_some_iff.mp hj).1; omega) hj)
        have f1 : md_fr σ τ := ⟨i4, i3, fun a j ha => ⟨i1 a j (by omega), (i2 a j (by omega)).trans (by rw [hm_L_wL, if_neg (by omega)])⟩⟩
        refine hm_iload_n dX5_down_75 rfl ?_
        refine hm_aload_n dX5_down_76 rfl ?_
        refine hm_getR lf_RX5_63 rfl rfl (by first | exact Nat.lt_of_lt_of_le (by decide) hN | assumption | (simp only [hm_n_wI, hm_n_wL, hm_n_wR, hm_n_g] at *; omega)) (hM 20) dX5_down_77 ?_
        refine hm_iload_n dX5_down_80 rfl ?_
        refine hm_iald _ rfl (by first | exact Nat.lt_of_lt_of_le (by decide) hN | assumption | (simp only [hm_n_wI, hm_n_wL, hm_n_wR, hm_n_g] at *; omega)) rfl (by omega) (by decide) dX5_down_81 ?_
        rw [i5]
        refine hm_icmp_ge 115 dX5_down_82 (by decide) (fun _ => ?_) (fun h82 => absurd (nI_le (by omega) (by omega)) h82)
        exact j115 τ _ hr2 f1
      | succ m ih =>
        intro k τ u hk hu i1 i2 i3 i4 i5 i6 i7
        subst hu
        have hN : 52 ≤ hm_n τ := by rw [i4]; exact hN
        have hM : ∀ k, hm_R τ 27 k = md_tab k := fun k => by rw [i3]; exact hM k
        obtain ⟨x, hx⟩ : ∃ x, t[k]? = some x := ⟨_, List.getElem?_eq_getElem (by omega)⟩
        have g1 : hm_L τ 46 (16 * p + (k + 1)) = x := i7 (k + 1) x (by omega) (by simpa using hx)
        refine hm_iload_n dX5_down_75 rfl ?_
        refine hm_aload_n dX5_down_76 rfl ?_
        refine hm_getR lf_RX5_63 rfl rfl (by first | exact Nat.lt_of_lt_of_le (by decide) hN | assumption | (simp only [hm_n_wI, hm_n_wL, hm_n_wR, hm_n_g] at *; omega)) (hM 20) dX5_down_77 ?_
        refine hm_iload_n dX5_down_80 rfl ?_
        refine hm_iald _ rfl (by first | exact Nat.lt_of_lt_of_le (by decide) hN | assumption | (simp only [hm_n_wI, hm_n_wL, hm_n_wR, hm_n_g] at *; omega)) rfl (by omega) (by decide) dX5_down_81 ?_
        rw [i5]
        refine hm_icmp_ge 115 dX5_down_82 (by decide) (fun h82 => absurd h82 (nI_ge (by omega) (by omega))) (fun _ => ?_)
        refine hm_aload_n dX5_down_85 rfl ?_
        refine hm_getR lf_RX5_66 rfl rfl (by first | exact Nat.lt_of_lt_of_le (by decide) hN | assumption | (simp only [hm_n_wI, hm_n_wL, hm_n_wR, hm_n_g] at *; omega)) (hM 21) dX5_down_86 ?_
        refine hm_bipush dX5_down_89 (v := 16) (by decide) ?_
        refine hm_iload_n dX5_down_91 rfl ?_
        refine hm_imul dX5_down_92 ?_
        refine hm_iload_n dX5_down_93 rfl ?_
        refine hm_iadd dX5_down_94 ?_
        refine hm_aload_n dX5_down_95 rfl ?_
        refine hm_getR lf_RX5_66 rfl rfl (by first | exact Nat.lt_of_lt_of_le (by decide) hN | assumption | (simp only [hm_n_wI, hm_n_wL, hm_n_wR, hm_n_g] at *; omega)) (hM 21) dX5_down_96 ?_
        refine hm_bipush dX5_down_99 (v := 16) (by decide) ?_
        refine hm_iload_n dX5_down_101 rfl ?_
        refine hm_imul dX5_down_102 ?_
        refine hm_iload_n dX5_down_103 rfl ?_
        refine hm_iadd dX5_down_104 ?_
        refine hm_iconst dX5_down_105 (v := 1) (by decide) ?_
        refine hm_iadd dX5_down_106 ?_
        refine hm_lald (16 * p + (k + 1)) rfl (by first | exact Nat.lt_of_lt_of_le (by decide) hN | assumption | (simp only [hm_n_wI, hm_n_wL, hm_n_wR, hm_n_g] at *; omega)) (by rw [ix16]; exact nI_1 _) (by omega) (by decide) dX5_down_107 ?_
        rw [g1]
        refine hm_last (16 * p + k) rfl (by first | exact Nat.lt_of_lt_of_le (by decide) hN | assumption | (simp only [hm_n_wI, hm_n_wL, hm_n_wR, hm_n_g] at *; omega)) (ix16 _ _) (by omega) (by decide) dX5_down_108 ?_
        refine hm_iinc dX5_down_109 rfl _ rfl (by decide) rfl ?_
        refine hm_goto 75 dX5_down_112 (by decide) ?_
        refine ih (k + 1) _ _ (by omega) (hm_inc k) i1 (fun a j g => ?_) i3 i4 i5 (fun j y hj hy => ?_) (fun j y hj hy => ?_)
        rw [hm_L_wL, if_neg (by omega)]; exact i2 a j g
        rw [hm_L_wL]
        (by_cases e : j = k)
        subst e; rw [if_pos ⟨rfl, rfl⟩]; rw [hx] at hy; exact Option.some.inj hy
        rw [if_neg (by omega)]; exact i6 j y (by omega) hy
        rw [hm_L_wL, if_neg (by omega)]; exact i7 j y (by omega) hy
    refine hm_aload_n dX5_down_30 rfl ?_
    refine hm_aload_n dX5_down_31 rfl ?_
    refine hm_getR lf_RX5_66 rfl rfl (by first | exact Nat.lt_of_lt_of_le (by decide) hN | assumption | (simp only [hm_n_wI, hm_n_wL, hm_n_wR, hm_n_g] at *; omega)) (hM 21) dX5_down_32 ?_
    refine hm_bipush dX5_down_35 (v := 16) (by decide) ?_
    refine hm_iload_n dX5_down_37 rfl ?_
    refine hm_imul dX5_down_38 ?_
    refine hm_lald (16 * p) rfl (by first | exact Nat.lt_of_lt_of_le (by decide) hN | assumption | (simp only [hm_n_wI, hm_n_wL, hm_n_wR, hm_n_g] at *; omega)) (ixm 16 p) (by omega) (by decide) dX5_down_39 ?_
    rw [e6]
    refine hm_aload_n dX5_down_40 rfl ?_
    refine hm_aload_n dX5_down_41 rfl ?_
    refine hm_getR lf_RX5_24 rfl rfl (by first | exact Nat.lt_of_lt_of_le (by decide) hN | assumption | (simp only [hm_n_wI, hm_n_wL, hm_n_wR, hm_n_g] at *; omega)) (hM 6) dX5_down_42 ?_
    refine hm_iload_n dX5_down_45 rfl ?_
    refine hm_lald _ rfl (by first | exact Nat.lt_of_lt_of_le (by decide) hN | assumption | (simp only [hm_n_wI, hm_n_wL, hm_n_wR, hm_n_g] at *; omega)) rfl (by omega) (by decide) dX5_down_46 ?_
    rw [e3]
    refine hm_aload_n dX5_down_47 rfl ?_
    refine hm_getI lf_RX5_103 rfl rfl (by first | exact Nat.lt_of_lt_of_le (by decide) hN | assumption | (simp only [hm_n_wI, hm_n_wL, hm_n_wR, hm_n_g] at *; omega)) dX5_down_48 ?_
    rw [e4]
    refine hm_i2l dX5_down_51 ?_
    refine hm_ldc2 dX5_down_52 lk_RX5_186 ?_
    refine hm_ladd dX5_down_55 ?_
    refine hm_callV lm_RX5_175 (r5_mix l _ _ _) rfl rfl rfl rfl (by first | exact Nat.lt_of_lt_of_le (by decide) hN | assumption | (simp only [hm_n_wI, hm_n_wL, hm_n_wR, hm_n_g] at *; omega)) (by decide) (by decide) (Nat.le_of_ble_eq_true rfl) dX5_down_56 ?_
    rintro _ t9 ⟨rfl, hh9⟩
    rw [hh9]
    clear hh9 t9
    refine hm_lxor dX5_down_59 ?_
    refine hm_putL lf_RX5_188 rfl rfl rfl (by first | exact Nat.lt_of_lt_of_le (by decide) hN | assumption | (simp only [hm_n_wI, hm_n_wL, hm_n_wR, hm_n_g] at *; omega)) dX5_down_60 ?_
    refine hm_aload_n dX5_down_63 rfl ?_
    refine hm_getR lf_RX5_63 rfl rfl (by first | exact Nat.lt_of_lt_of_le (by decide) hN | assumption | (simp only [hm_n_wI, hm_n_wL, hm_n_wR, hm_n_g] at *; omega)) (hM 20) dX5_down_64 ?_
    refine hm_iload_n dX5_down_67 rfl ?_
    refine hm_dup2 dX5_down_68 rfl rfl ?_
    refine hm_iald _ rfl (by first | exact Nat.lt_of_lt_of_le (by decide) hN | assumption | (simp only [hm_n_wI, hm_n_wL, hm_n_wR, hm_n_g] at *; omega)) rfl (by omega) (by decide) dX5_down_69 ?_
    rw [show hm_I (hm_wL σ 27 25 _) 45 p = nI (t.length + 1) from e7]
    refine hm_iconst dX5_down_70 (v := 1) (by decide) ?_
    refine hm_isub dX5_down_71 ?_
    refine hm_iast _ rfl (by first | exact Nat.lt_of_lt_of_le (by decide) hN | assumption | (simp only [hm_n_wI, hm_n_wL, hm_n_wR, hm_n_g] at *; omega)) rfl (by omega) (by decide) dX5_down_72 ?_
    refine hm_iconst dX5_down_73 (v := 0) (by decide) ?_
    refine hm_istore_n dX5_down_74 (by decide) rfl ?_
    refine hl t.length 0 _ _ (Nat.zero_add _) rfl (fun a j g => by rw [hm_I_wI, if_neg g]; rfl) (fun a j g => rfl) rfl rfl (by rw [hm_I_wI, if_pos ⟨rfl, rfl⟩]; exact nI_pred _) (fun j x hj => absurd hj (by omega)) (fun j x _ hj => ?_)
    show hm_L (hm_wL σ 27 25 _) 46 (16 * p + j) = x
    rw [hm_L_wL, if_neg (by omega)]
    exact c4 j x (by rw [hq]; exact hj)
  refine hm_aload_n dX5_down_0 rfl ?_
  refine hm_getR lf_RX5_27 rfl rfl (by first | exact Nat.lt_of_lt_of_le (by decide) hN | assumption | (simp only [hm_n_wI, hm_n_wL, hm_n_wR, hm_n_g] at *; omega)) (hM 7) dX5_down_1 ?_
  refine hm_iload_n dX5_down_4 rfl ?_
  refine hm_iald _ rfl (by first | exact Nat.lt_of_lt_of_le (by decide) hN | assumption | (simp only [hm_n_wI, hm_n_wL, hm_n_wR, hm_n_g] at *; omega)) rfl (by omega) (by decide) dX5_down_5 ?_
  rw [e1]
  refine hm_bipush dX5_down_6 (v := 7) (by decide) ?_
  refine hm_icmp_ne 28 dX5_down_8 (by decide) (fun h8 => ?_) (fun h8 => ?_)
  · skip
    have hno2 := hno (by simp [pDown, h8])
    refine hm_iconst dX5_down_28 (v := 0) (by decide) ?_
    refine hm_iret dX5_down_29 rfl (by decide) (by decide) ?_
    exact hQ _ _ hno2
  · skip
    refine hm_aload_n dX5_down_11 rfl ?_
    refine hm_iload_n dX5_down_12 rfl ?_
    refine hm_callV lm_RX5_172 (r5_isGood l h w hp8) rfl rfl rfl rfl (by first | exact Nat.lt_of_lt_of_le (by decide) hN | assumption | (simp only [hm_n_wI, hm_n_wL, hm_n_wR, hm_n_g] at *; omega)) (by decide) (by decide) (Nat.le_of_ble_eq_true rfl) dX5_down_13 ?_
    rintro _ t9 ⟨rfl, hh9⟩
    rw [hh9]
    clear hh9 t9
    refine hm_if_eq 28 dX5_down_16 (by decide) (fun h16 => ?_) (fun h16 => ?_)
    · skip
      rw [bI_0] at h16
      have hno2 := hno (by simp [pDown, h16])
      refine hm_iconst dX5_down_28 (v := 0) (by decide) ?_
      refine hm_iret dX5_down_29 rfl (by decide) (by decide) ?_
      exact hQ _ _ hno2
    · skip
      rw [bI_0] at h16
      refine hm_aload_n dX5_down_19 rfl ?_
      refine hm_getR lf_RX5_81 rfl rfl (by first | exact Nat.lt_of_lt_of_le (by decide) hN | assumption | (simp only [hm_n_wI, hm_n_wL, hm_n_wR, hm_n_g] at *; omega)) (hM 34) dX5_down_20 ?_
      refine hm_iload_n dX5_down_23 rfl ?_
      refine hm_iald _ rfl (by first | exact Nat.lt_of_lt_of_le (by decide) hN | assumption | (simp only [hm_n_wI, hm_n_wL, hm_n_wR, hm_n_g] at *; omega)) rfl (by omega) (by decide) dX5_down_24 ?_
      rw [hrd]
      refine hm_if_ne 30 dX5_down_25 (by decide) (fun h25 => ?_) (fun h25 => ?_)
      · skip
        rw [q0] at h25
        (obtain ⟨v, t, hvt⟩ : ∃ v t, aQ α 1 p = v :: t := by cases hz : aQ α 1 p with | nil => exact absurd hz (hne h8 h25) | cons v t => exact ⟨v, t, rfl⟩)
        exact j30 h8 (b_nf h16) h25 v t hvt
      · skip
        rw [q0] at h25
        have hno2 := hno (by simp [pDown, h25])
        refine hm_iconst dX5_down_28 (v := 0) (by decide) ?_
        refine hm_iret dX5_down_29 rfl (by decide) (by decide) ?_
        exact hQ _ _ hno2
end M13
