/-! the reference: a frame, and frames -/
theorem rM.scr {α : sA} {σ : hm_M} (h : rM α σ) (a k : Nat) (v : Int32) (ha : a = 50 ∨ a = 51) : rM α (hm_wI σ a k v) := by
  refine ⟨h.1, fun f i hi => ?_, fun f i hi => ?_, h.2.2.2.1, ⟨?_, fun b x hb => ?_⟩, fun p hp => ?_⟩
  · obtain ⟨-, -, -, -, -, -, -, -, -, -, s1, s2, -⟩ := md_lN_sc hi
    rw [hm_I_wI, if_neg (by omega)]; exact h.n f i hi
  · obtain ⟨-, -, -, -, -, -, -, -, -, -, s1, s2, -⟩ := md_lI_sc hi
    rw [hm_I_wI, if_neg (by omega)]; exact h.i f i hi
  · rw [hm_I_wI, if_neg (by omega)]; exact h.b.1
  · obtain ⟨e1, e2, e3, e4, e5⟩ := h.b.2 b x hb
    rw [hm_I_wI, if_neg (by omega), hm_I_wI, if_neg (by omega), hm_I_wI, if_neg (by omega), hm_I_wI, if_neg (by omega), hm_I_wI, if_neg (by omega)]
    exact ⟨e1, e2, e3, e4, e5⟩
  · obtain ⟨e1, e2, e3, e4, e5⟩ := h.q p hp
    rw [hm_I_wI, if_neg (by omega), hm_I_wI, if_neg (by omega)]
    exact ⟨e1, e2, e3, e4, e5⟩
/-- all that isn't the reference's own is left -/
def md_fo (σ τ : hm_M) : Prop := hm_n τ = hm_n σ ∧ hm_R τ = hm_R σ ∧ ∀ a k, (a < 27 ∨ 52 ≤ a) → hm_I τ a k = hm_I σ a k ∧ hm_L τ a k = hm_L σ a k
theorem md_fo.rf (σ : hm_M) : md_fo σ σ := ⟨rfl, rfl, fun _ _ _ => ⟨rfl, rfl⟩⟩
theorem md_fo.tr {σ τ ρ : hm_M} (h : md_fo σ τ) (h' : md_fo τ ρ) : md_fo σ ρ := ⟨h'.1.trans h.1, h'.2.1.trans h.2.1, fun a k ha => ⟨(h'.2.2 a k ha).1.trans (h.2.2 a k ha).1, (h'.2.2 a k ha).2.trans (h.2.2 a k ha).2⟩⟩
theorem md_fr.fo {σ τ : hm_M} (h : md_fr σ τ) : md_fo σ τ := ⟨h.1, h.2.1, fun a k ha => h.2.2 a k (by omega)⟩
theorem md_fo.wI {σ τ : hm_M} (h : md_fo σ τ) (a k : Nat) (v : Int32) (ha : 27 ≤ a ∧ a < 52) : md_fo σ (hm_wI τ a k v) := ⟨h.1, h.2.1, fun b j hb => ⟨by rw [hm_I_wI, if_neg (fun q => by omega)]; exact (h.2.2 b j hb).1, (h.2.2 b j hb).2⟩⟩
section M14
variable (l : Launch) {α : sA} {σ : hm_M}
set_option maxRecDepth 100000 in
set_option maxHeartbeats 4000000 in
theorem r5_frame (h : rM α σ) (w : sW α) (ht : aN α 6 0 < 100000) : hm_Ct l yX5_frame cX5_frame 3 (some .int) 4 0 0 [.ref 27] σ (fun r τ => r = some (.int (aI (pFrame α) 4 5 - aI α 4 5)) ∧ rM (pFrame α) τ ∧ md_fo σ τ) := by
  obtain ⟨hN, hM⟩ := h.m
  have h8 := w.p8
  have w0 := w.tick ht
  have e1 : hm_I σ 27 26 = nI (aN α 6 0) := h.n 6 0 (by decide)
  have hr0 : rM (pTick α) (hm_wI σ 27 26 (nI (aN α 6 0) + 1)) := by rw [nI_1]; exact h.upN 6 0 _ (by decide)
  have nT : nPort (pTick α) = nPort α := by simp [nPort, pTick, aN_sN]
  have w1 : sW (pAllP pSetUp (pTick α)) := pAll_sW (fun β p => nP_of (setUp_N β p)) (fun β p wb hp => wb.setUp hp) w0 _ (Nat.le_refl _)
  obtain ⟨w6, n6, k4⟩ := w.calls ht
  have w4 : sW (pAllP pNoB (pAllP pHand (pDropF (pSend (pAllP pSetUp (pTick α)))))) := pAll_sW nP_noB (fun β p wb hp => wb.noB hp) (pAll_sW nP_hand (fun β p wb _ => wb.hand p) w1.send.dropF _ (Nat.le_refl _)) _ (Nat.le_refl _)
  have nc : nPort (pCalls α) = nPort α := (nP_of n6).trans nT
  have w7 : sW (pAllP pUp (pCalls α)) := pAll_sW (fun β p => nP_of (up_N β p)) (fun β p wb hp => wb.up hp) w6 _ (Nat.le_refl _)
  have n7 : aN (pAllP pUp (pCalls α)) = aN (pTick α) := (ups_N _ _).trans n6
  have hh7 : ∀ q, q < nPort (pAllP pUp (pCalls α)) → aN (pAllP pUp (pCalls α)) 7 q + 1 ≤ aN (pAllP pUp (pCalls α)) 6 0 := fun q _ => by rw [n7]; exact tick_h w q
  have w8 : sW (pVoice (pCalls α)) := downs_sW _ w7 hh7 _ (Nat.le_refl _)
  have k6 : kyc (nPort α) (pTick α) (pCalls α) := by
    have := kyc.calls k4 (nPort (pAllP pNoB (pAllP pHand (pDropF (pSend (pAllP pSetUp (pTick α)))))))
    rw [show nPort (pAllP pNoB (pAllP pHand (pDropF (pSend (pAllP pSetUp (pTick α)))))) = nPort α from (nP_of k4.1).trans nT] at this
    unfold pCalls pAllP at *
    rw [show nPort (pAll pNoB (pAll pHand (pDropF (pSend (pAll pSetUp (pTick α) (nPort (pTick α))))) (nPort (pDropF (pSend (pAll pSetUp (pTick α) (nPort (pTick α))))))) (nPort (pAll pHand (pDropF (pSend (pAll pSetUp (pTick α) (nPort (pTick α))))) (nPort (pDropF (pSend (pAll pSetUp (pTick α) (nPort (pTick α))))))))) = nPort α from (nP_of k4.1).trans nT]
    exact this
  refine hm_startQ (ini := false) [.ref 27, hm_u, hm_u] (by decide) (by decide) rfl (Nat.le_of_ble_eq_true rfl) (fun Q hQ => ?_)
  -- what was noted as the frame began
  have no : ∀ τ : hm_M, hm_I τ 27 2 = hm_I τ 27 2 := fun _ => rfl
  have hl6 : ∀ (k p : Nat) (τ : hm_M) (u n : Int32), p + k = nPort α → rM (pAll pOld (pVoice (pCalls α)) p) τ → md_fo σ τ → u = nI p → n = aI (pVoice (pCalls α)) 4 5 - aI α 4 5 → hm_V l RX5 cX5_frame 3 (some .int) false (hm_rm 4 0 0) 0 0 Q 0 0 149 [.ref 27, .int n, .int u] [] τ := by
    intro k
    have nO : ∀ n, aN (pAll pOld (pVoice (pCalls α)) n) = aN (pVoice (pCalls α)) := by
      intro n
      induction n with
      | zero => rfl
      | succ n ih => exact (old_N _ _).trans ih
    have pV : nPort (pVoice (pCalls α)) = nPort α := (pAll_nP (down_nP _) _ _).trans ((nP_of n7).trans nT)
    have hO : ∀ n, aI (pAll pOld (pVoice (pCalls α)) n) 4 5 = aI (pVoice (pCalls α)) 4 5 := by
      intro n
      induction n with
      | zero => rfl
      | succ n ih => exact (old_H _ _).trans ih
    induction k with
    | zero =>
      intro p τ u n hk hτ hf hu hn
      subst hu
      obtain ⟨hN, hM⟩ := hτ.m
      have hpn : p = nPort α := by omega
      have e0 : hm_I τ 27 2 = nI (nPort α) := (hτ.n 1 0 (by decide)).trans (congrArg nI ((nP_of (nO p)).trans pV))
      have hfr : pFrame α = pAll pOld (pVoice (pCalls α)) p := by unfold pFrame pAllP; rw [pV, hpn]
      refine hm_iload_n dX5_frame_149 rfl ?_
      refine hm_aload_n dX5_frame_150 rfl ?_
      refine hm_getI lf_RX5_92 rfl rfl (by first | exact Nat.lt_of_lt_of_le (by decide) hN | assumption | (simp only [hm_n_wI, hm_n_wL, hm_n_wR, hm_n_g] at *; omega)) dX5_frame_151 ?_
      rw [e0]
      refine hm_icmp_ge 200 dX5_frame_154 (by decide) (fun _ => ?_) (fun h154 => absurd (nI_le (by omega) (by omega)) h154)
      refine hm_iload_n dX5_frame_200 rfl ?_
      refine hm_iret dX5_frame_201 rfl (by decide) (by decide) ?_
      exact hQ _ _ ⟨by rw [hn, hfr, hO], by rw [hfr]; exact hτ, hf⟩
    | succ k ih =>
      intro p τ u n hk hτ hf hu hn
      subst hu
      obtain ⟨hN, hM⟩ := hτ.m
      have wτ : sW (pAll pOld (pVoice (pCalls α)) p) := pAll_sW (fun β p => nP_of (old_N β p)) (fun β p wb hp => wb.old hp) w8 p (by omega)
      have nτ : nPort (pAll pOld (pVoice (pCalls α)) p) = nPort α := (nP_of (nO p)).trans pV
      have e0 : hm_I τ 27 2 = nI (nPort α) := (hτ.n 1 0 (by decide)).trans (congrArg nI nτ)
      have ih2 := ih (p + 1)
      rw [show pAll pOld (pVoice (pCalls α)) (p + 1) = pOld (pAll pOld (pVoice (pCalls α)) p) p from rfl] at ih2
      generalize pAll pOld (pVoice (pCalls α)) p = β at hτ wτ nτ ih2
      have g1 : hm_I τ 33 p = aI β 1 p := hτ.i 1 p (by show p < 8; omega)
      have g2 : hm_I τ 35 p = aI β 3 p := hτ.i 3 p (by show p < 8; omega)
      have g3 : hm_I τ 27 26 = nI (aN β 6 0) := hτ.n 6 0 (by decide)
      refine hm_iload_n dX5_frame_149 rfl ?_
      refine hm_aload_n dX5_frame_150 rfl ?_
      refine hm_getI lf_RX5_92 rfl rfl (by first | exact Nat.lt_of_lt_of_le (by decide) hN | assumption | (simp only [hm_n_wI, hm_n_wL, hm_n_wR, hm_n_g] at *; omega)) dX5_frame_151 ?_
      rw [e0]
      refine hm_icmp_ge 200 dX5_frame_154 (by decide) (fun h154 => absurd h154 (nI_ge (by omega) (by omega))) (fun _ => ?_)
      refine hm_aload_n dX5_frame_157 rfl ?_
      refine hm_getR lf_RX5_27 rfl rfl (by first | exact Nat.lt_of_lt_of_le (by decide) hN | assumption | (simp only [hm_n_wI, hm_n_wL, hm_n_wR, hm_n_g] at *; omega)) (hM 7) dX5_frame_158 ?_
      refine hm_iload_n dX5_frame_161 rfl ?_
      refine hm_iald _ rfl (by first | exact Nat.lt_of_lt_of_le (by decide) hN | assumption | (simp only [hm_n_wI, hm_n_wL, hm_n_wR, hm_n_g] at *; omega)) rfl (by omega) (by decide) dX5_frame_162 ?_
      rw [g1]
      refine hm_iconst dX5_frame_163 (v := 1) (by decide) ?_
      refine hm_bipush dX5_frame_164 (v := 6) (by decide) ?_
      refine hm_callS lm_RX5_88 (c5_in l _ _ _ _) rfl rfl (by decide) (by decide) (Nat.le_of_ble_eq_true rfl) dX5_frame_166 ?_
      rintro _ t9 ⟨rfl, hh9⟩
      rw [hh9]
      clear hh9 t9
      refine hm_if_eq 194 dX5_frame_169 (by decide) (fun h169 => ?_) (fun h169 => ?_)
      · skip
        rw [bI_0] at h169
        refine hm_iinc dX5_frame_194 rfl _ rfl (by decide) rfl ?_
        refine hm_goto 149 dX5_frame_197 (by decide) ?_
        exact ih2 _ _ _ (by omega) (by unfold pOld; rw [if_neg (by have h9 : pPend (aI β 1 p) = false := h169; simp [h9])]; exact hτ) hf (hm_inc p) hn
      · skip
        rw [bI_0] at h169
        have h169 : pPend (aI β 1 p) = true := b_nf h169
        refine hm_aload_n dX5_frame_172 rfl ?_
        refine hm_getI lf_RX5_103 rfl rfl (by first | exact Nat.lt_of_lt_of_le (by decide) hN | assumption | (simp only [hm_n_wI, hm_n_wL, hm_n_wR, hm_n_g] at *; omega)) dX5_frame_173 ?_
        rw [g3]
        refine hm_aload_n dX5_frame_176 rfl ?_
        refine hm_getR lf_RX5_33 rfl rfl (by first | exact Nat.lt_of_lt_of_le (by decide) hN | assumption | (simp only [hm_n_wI, hm_n_wL, hm_n_wR, hm_n_g] at *; omega)) (hM 9) dX5_frame_177 ?_
        refine hm_iload_n dX5_frame_180 rfl ?_
        refine hm_iald _ rfl (by first | exact Nat.lt_of_lt_of_le (by decide) hN | assumption | (simp only [hm_n_wI, hm_n_wL, hm_n_wR, hm_n_g] at *; omega)) rfl (by omega) (by decide) dX5_frame_181 ?_
        rw [g2]
        refine hm_isub dX5_frame_182 ?_
        refine hm_sipush dX5_frame_183 (v := 200) (by decide) ?_
        refine hm_icmp_le 194 dX5_frame_186 (by decide) (fun h186 => ?_) (fun h186 => ?_)
        · skip
          refine hm_iinc dX5_frame_194 rfl _ rfl (by decide) rfl ?_
          refine hm_goto 149 dX5_frame_197 (by decide) ?_
          exact ih2 _ _ _ (by omega) (by unfold pOld; rw [if_neg (by simp [← Int32.not_le, h186])]; exact hτ) hf (hm_inc p) hn
        · skip
          refine hm_aload_n dX5_frame_189 rfl ?_
          refine hm_iload_n dX5_frame_190 rfl ?_
          refine hm_callV lm_RX5_125 (r5_ends l hτ wτ (by omega) (fun e => by rw [e] at h169; simp [pPend] at h169)) rfl rfl rfl rfl (by first | exact Nat.lt_of_lt_of_le (by decide) hN | assumption | (simp only [hm_n_wI, hm_n_wL, hm_n_wR, hm_n_g] at *; omega)) (by decide) (by decide) (Nat.le_of_ble_eq_true rfl) dX5_frame_191 ?_
          rintro _ ρ ⟨rfl, hρ, hf2⟩
          obtain ⟨hN, hM⟩ := hρ.m
          refine hm_iinc dX5_frame_194 rfl _ rfl (by decide) rfl ?_
          refine hm_goto 149 dX5_frame_197 (by decide) ?_
          exact ih2 _ _ _ (by omega) (by unfold pOld; rw [if_pos (by simp [h169, ← Int32.not_le, h186])]; exact hρ) (hf.tr hf2.fo) (hm_inc p) hn
  have hl5 : ∀ (k p : Nat) (τ : hm_M) (u n : Int32), p + k = nPort α → rM (pAll (pDown (fun p => (aQ (pTick α) 1 p).length)) (pAllP pUp (pCalls α)) p) τ → md_fo σ τ → (∀ q, q < nPort α → hm_I τ 51 q = nI (aQ (pTick α) 1 q).length) → u = nI p → n = aI (pAll (pDown (fun p => (aQ (pTick α) 1 p).length)) (pAllP pUp (pCalls α)) p) 4 5 - aI α 4 5 → hm_V l RX5 cX5_frame 3 (some .int) false (hm_rm 4 0 0) 0 0 Q 0 0 125 [.ref 27, .int n, .int u] [] τ := by
    intro k
    have nU : nPort (pAllP pUp (pCalls α)) = nPort α := (nP_of n7).trans nT
    have heq : ∀ n, pAll (pDown (fun p => (aQ (pTick α) 1 p).length)) (pAllP pUp (pCalls α)) n = pAll (pDown (fun p => (aQ (pCalls α) 1 p).length)) (pAllP pUp (pCalls α)) n := fun n => downs_rd (fun p hp => by
      rw [show aI (pAllP pUp (pCalls α)) 1 = aI (pCalls α) 1 from ups_I _ _] at hp
      exact congrArg List.length (k6.2.2 p hp).1.symm) n
    induction k with
    | zero =>
      intro p τ u n hk hτ hf hwt hu hn
      subst hu
      obtain ⟨hN, hM⟩ := hτ.m
      have hpn : p = nPort α := by omega
      have e0 : hm_I τ 27 2 = nI (nPort α) := (hτ.n 1 0 (by decide)).trans (congrArg nI ((pAll_nP (down_nP _) _ p).trans nU))
      have hv : pVoice (pCalls α) = pAll (pDown (fun p => (aQ (pTick α) 1 p).length)) (pAllP pUp (pCalls α)) p := by rw [heq p]; unfold pVoice; rw [show pAllP (pDown fun p => (aQ (pCalls α) 1 p).length) (pAllP pUp (pCalls α)) = pAll (pDown fun p => (aQ (pCalls α) 1 p).length) (pAllP pUp (pCalls α)) (nPort (pAllP pUp (pCalls α))) from rfl, nU, hpn]
      refine hm_iload_n dX5_frame_125 rfl ?_
      refine hm_aload_n dX5_frame_126 rfl ?_
      refine hm_getI lf_RX5_92 rfl rfl (by first | exact Nat.lt_of_lt_of_le (by decide) hN | assumption | (simp only [hm_n_wI, hm_n_wL, hm_n_wR, hm_n_g] at *; omega)) dX5_frame_127 ?_
      rw [e0]
      refine hm_icmp_ge 147 dX5_frame_130 (by decide) (fun _ => ?_) (fun h130 => absurd (nI_le (by omega) (by omega)) h130)
      refine hm_iconst dX5_frame_147 (v := 0) (by decide) ?_
      refine hm_istore_n dX5_frame_148 (by decide) rfl ?_
      exact hl6 _ 0 _ _ _ (Nat.zero_add _) (by show rM (pVoice (pCalls α)) τ; rw [hv]; exact hτ) hf rfl (by rw [hn, hv])
    | succ k ih =>
      intro p τ u n hk hτ hf hwt hu hn
      subst hu
      obtain ⟨hN, hM⟩ := hτ.m
      have wτ : sW (pAll (pDown (fun p => (aQ (pTick α) 1 p).length)) (pAllP pUp (pCalls α)) p) := downs_sW _ w7 hh7 p (by omega)
      have nτ : nPort (pAll (pDown (fun p => (aQ (pTick α) 1 p).length)) (pAllP pUp (pCalls α)) p) = nPort α := (pAll_nP (down_nP _) _ p).trans nU
      have e0 : hm_I τ 27 2 = nI (nPort α) := (hτ.n 1 0 (by decide)).trans (congrArg nI nτ)
      have hne : aI (pAll (pDown (fun p => (aQ (pTick α) 1 p).length)) (pAllP pUp (pCalls α)) p) 1 p = 7 → (aQ (pTick α) 1 p).length ≠ 0 → aQ (pAll (pDown (fun p => (aQ (pTick α) 1 p).length)) (pAllP pUp (pCalls α)) p) 1 p ≠ [] := by
        intro h7 h0 hnil
        rw [downs_I, show aI (pAllP pUp (pCalls α)) 1 = aI (pCalls α) 1 from ups_I _ _] at h7
        have g1 := (k6.2.2 p h7).1
        rw [(downs_later _ _ p p (Nat.le_refl _)).1] at hnil
        have g2 : (aQ (pCalls α) 1 p).length ≤ (aQ (pAllP pUp (pCalls α)) 1 p).length := ups_Q _ p _
        rw [hnil, g1] at g2
        simp at g2
        exact h0 (by rw [g2]; rfl)
      have ih2 := ih (p + 1)
      rw [show pAll (pDown (fun p => (aQ (pTick α) 1 p).length)) (pAllP pUp (pCalls α)) (p + 1) = pDown (fun p => (aQ (pTick α) 1 p).length) (pAll (pDown (fun p => (aQ (pTick α) 1 p).length)) (pAllP pUp (pCalls α)) p) p from rfl] at ih2
      generalize pAll (pDown (fun p => (aQ (pTick α) 1 p).length)) (pAllP pUp (pCalls α)) p = β at hτ wτ nτ ih2 hne hn
      refine hm_iload_n dX5_frame_125 rfl ?_
      refine hm_aload_n dX5_frame_126 rfl ?_
      refine hm_getI lf_RX5_92 rfl rfl (by first | exact Nat.lt_of_lt_of_le (by decide) hN | assumption | (simp only [hm_n_wI, hm_n_wL, hm_n_wR, hm_n_g] at *; omega)) dX5_frame_127 ?_
      rw [e0]
      refine hm_icmp_ge 147 dX5_frame_130 (by decide) (fun h130 => absurd h130 (nI_ge (by omega) (by omega))) (fun _ => ?_)
      refine hm_iload_n dX5_frame_133 rfl ?_
      refine hm_aload_n dX5_frame_134 rfl ?_
      refine hm_iload_n dX5_frame_135 rfl ?_
      refine hm_callV lm_RX5_206 (r5_down l hτ wτ (by omega) (fun p => (aQ (pTick α) 1 p).length) (hwt p (by omega)) ((w0.q p).2.1) hne) rfl rfl rfl rfl (by first | exact Nat.lt_of_lt_of_le (by decide) hN | assumption | (simp only [hm_n_wI, hm_n_wL, hm_n_wR, hm_n_g] at *; omega)) (by decide) (by decide) (Nat.le_of_ble_eq_true rfl) dX5_frame_136 ?_
      rintro _ ρ ⟨n2, rfl, hρ, hf2, hn2⟩
      obtain ⟨hN, hM⟩ := hρ.m
      refine hm_iadd dX5_frame_139 ?_
      refine hm_istore_n dX5_frame_140 (by decide) rfl ?_
      refine hm_iinc dX5_frame_141 rfl _ rfl (by decide) rfl ?_
      refine hm_goto 125 dX5_frame_144 (by decide) ?_
      exact ih2 _ _ _ (by omega) hρ (hf.tr hf2.fo) (fun q hq => by rw [(hf2.2.2 51 q (by omega)).1]; exact hwt q hq) (hm_inc p) (by rw [hn2, hn]; exact sub_add3 _ _ _)
  have hl4 : ∀ (k p : Nat) (τ : hm_M) (u : Int32) (y : Value), p + k = nPort α → rM (pAll pUp (pCalls α) p) τ → md_fo σ τ → (∀ q, q < nPort α → hm_I τ 51 q = nI (aQ (pTick α) 1 q).length) → u = nI p → hm_V l RX5 cX5_frame 3 (some .int) false (hm_rm 4 0 0) 0 0 Q 0 0 102 [.ref 27, .int u, y] [] τ := by
    intro k
    induction k with
    | zero =>
      intro p τ u y hk hτ hf hwt hu
      subst hu
      obtain ⟨hN, hM⟩ := hτ.m
      have hpn : p = nPort α := by omega
      have e0 : hm_I τ 27 2 = nI (nPort α) := (hτ.n 1 0 (by decide)).trans (congrArg nI ((nP_of (ups_N _ p)).trans nc))
      have hv : pAllP pUp (pCalls α) = pAll pUp (pCalls α) p := by unfold pAllP; rw [nc, hpn]
      have hI : aI (pAllP pUp (pCalls α)) 4 5 = aI α 4 5 := heard_same α
      refine hm_iload_n dX5_frame_102 rfl ?_
      refine hm_aload_n dX5_frame_103 rfl ?_
      refine hm_getI lf_RX5_92 rfl rfl (by first | exact Nat.lt_of_lt_of_le (by decide) hN | assumption | (simp only [hm_n_wI, hm_n_wL, hm_n_wR, hm_n_g] at *; omega)) dX5_frame_104 ?_
      rw [e0]
      refine hm_icmp_ge 121 dX5_frame_107 (by decide) (fun _ => ?_) (fun h107 => absurd (nI_le (by omega) (by omega)) h107)
      refine hm_iconst dX5_frame_121 (v := 0) (by decide) ?_
      refine hm_istore_n dX5_frame_122 (by decide) rfl ?_
      refine hm_iconst dX5_frame_123 (v := 0) (by decide) ?_
      refine hm_istore_n dX5_frame_124 (by decide) rfl ?_
      exact hl5 _ 0 _ _ _ (Nat.zero_add _) (by show rM (pAllP pUp (pCalls α)) τ; rw [hv]; exact hτ) hf hwt rfl (by show (0 : Int32) = aI (pAllP pUp (pCalls α)) 4 5 - aI α 4 5; rw [hI, Int32.sub_self])
    | succ k ih =>
      intro p τ u y hk hτ hf hwt hu
      subst hu
      obtain ⟨hN, hM⟩ := hτ.m
      have wτ : sW (pAll pUp (pCalls α) p) := pAll_sW (fun β p => nP_of (up_N β p)) (fun β p wb hp => wb.up hp) w6 p (by omega)
      have nτ : nPort (pAll pUp (pCalls α) p) = nPort α := (nP_of (ups_N _ p)).trans nc
      have e0 : hm_I τ 27 2 = nI (nPort α) := (hτ.n 1 0 (by decide)).trans (congrArg nI nτ)
      refine hm_iload_n dX5_frame_102 rfl ?_
      refine hm_aload_n dX5_frame_103 rfl ?_
      refine hm_getI lf_RX5_92 rfl rfl (by first | exact Nat.lt_of_lt_of_le (by decide) hN | assumption | (simp only [hm_n_wI, hm_n_wL, hm_n_wR, hm_n_g] at *; omega)) dX5_frame_104 ?_
      rw [e0]
      refine hm_icmp_ge 121 dX5_frame_107 (by decide) (fun h107 => absurd h107 (nI_ge (by omega) (by omega))) (fun _ => ?_)
      refine hm_aload_n dX5_frame_110 rfl ?_
      refine hm_iload_n dX5_frame_111 rfl ?_
      refine hm_callV lm_RX5_203 (r5_up l hτ wτ (by omega)) rfl rfl rfl rfl (by first | exact Nat.lt_of_lt_of_le (by decide) hN | assumption | (simp only [hm_n_wI, hm_n_wL, hm_n_wR, hm_n_g] at *; omega)) (by decide) (by decide) (Nat.le_of_ble_eq_true rfl) dX5_frame_112 ?_
      rintro _ ρ ⟨rfl, hρ, hf2⟩
      obtain ⟨hN, hM⟩ := hρ.m
      refine hm_iinc dX5_frame_115 rfl _ rfl (by decide) rfl ?_
      refine hm_goto 102 dX5_frame_118 (by decide) ?_
      exact ih (p + 1) _ _ _ (by omega) hρ (hf.tr hf2.fo) (fun q hq => by rw [(hf2.2.2 51 q (by omega)).1]; exact hwt q hq) (hm_inc p)
  have hl3 : ∀ (k p : Nat) (τ : hm_M) (u : Int32) (y : Value), p + k = nPort α → rM (pAll pCall (pAllP pNoB (pAllP pHand (pDropF (pSend (pAllP pSetUp (pTick α)))))) p) τ → md_fo σ τ → (∀ q, q < nPort α → hm_I τ 51 q = nI (aQ (pTick α) 1 q).length) → (∀ q, q < nPort α → hm_I τ 50 q = aI (pTick α) 1 q) → u = nI p → hm_V l RX5 cX5_frame 3 (some .int) false (hm_rm 4 0 0) 0 0 Q 0 0 81 [.ref 27, .int u, y] [] τ := by
    intro k
    have n4 : nPort (pAllP pNoB (pAllP pHand (pDropF (pSend (pAllP pSetUp (pTick α)))))) = nPort α := (nP_of k4.1).trans nT
    induction k with
    | zero =>
      intro p τ u y hk hτ hf hwt hbg hu
      subst hu
      obtain ⟨hN, hM⟩ := hτ.m
      have hpn : p = nPort α := by omega
      have e0 : hm_I τ 27 2 = nI (nPort α) := (hτ.n 1 0 (by decide)).trans (congrArg nI ((nP_of (kyc.calls k4 p).1).trans nT))
      have hv : pCalls α = pAll pCall (pAllP pNoB (pAllP pHand (pDropF (pSend (pAllP pSetUp (pTick α)))))) p := by rw [hpn, ← n4]; rfl
      refine hm_iload_n dX5_frame_81 rfl ?_
      refine hm_aload_n dX5_frame_82 rfl ?_
      refine hm_getI lf_RX5_92 rfl rfl (by first | exact Nat.lt_of_lt_of_le (by decide) hN | assumption | (simp only [hm_n_wI, hm_n_wL, hm_n_wR, hm_n_g] at *; omega)) dX5_frame_83 ?_
      rw [e0]
      refine hm_icmp_ge 100 dX5_frame_86 (by decide) (fun _ => ?_) (fun h86 => absurd (nI_le (by omega) (by omega)) h86)
      refine hm_iconst dX5_frame_100 (v := 0) (by decide) ?_
      refine hm_istore_n dX5_frame_101 (by decide) rfl ?_
      exact hl4 _ 0 _ _ _ (Nat.zero_add _) (by show rM (pCalls α) τ; rw [hv]; exact hτ) hf hwt rfl
    | succ k ih =>
      intro p τ u y hk hτ hf hwt hbg hu
      subst hu
      obtain ⟨hN, hM⟩ := hτ.m
      have wτ : sW (pAll pCall (pAllP pNoB (pAllP pHand (pDropF (pSend (pAllP pSetUp (pTick α)))))) p) := pAll_sW (fun β p => nP_of (call_N β p)) (fun β p wb hp => wb.call hp) w4 p (by omega)
      have kτ := kyc.calls k4 p
      have nτ := (nP_of kτ.1).trans nT
      have e0 : hm_I τ 27 2 = nI (nPort α) := (hτ.n 1 0 (by decide)).trans (congrArg nI nτ)
      have hb : aI (pAll pCall (pAllP pNoB (pAllP pHand (pDropF (pSend (pAllP pSetUp (pTick α)))))) p) 1 p = 2 ∨ aI (pAll pCall (pAllP pNoB (pAllP pHand (pDropF (pSend (pAllP pSetUp (pTick α)))))) p) 1 p = 5 → hm_I τ 50 p = aI (pAll pCall (pAllP pNoB (pAllP pHand (pDropF (pSend (pAllP pSetUp (pTick α)))))) p) 1 p := by
        intro h25
        rw [hbg p (by omega)]
        rcases kτ.2.1 p (Nat.le_refl _) with e | e | e
        · exact e.symm
        · rw [e] at h25; exact absurd h25 (by decide)
        · rw [e] at h25; exact absurd h25 (by decide)
      refine hm_iload_n dX5_frame_81 rfl ?_
      refine hm_aload_n dX5_frame_82 rfl ?_
      refine hm_getI lf_RX5_92 rfl rfl (by first | exact Nat.lt_of_lt_of_le (by decide) hN | assumption | (simp only [hm_n_wI, hm_n_wL, hm_n_wR, hm_n_g] at *; omega)) dX5_frame_83 ?_
      rw [e0]
      refine hm_icmp_ge 100 dX5_frame_86 (by decide) (fun h86 => absurd h86 (nI_ge (by omega) (by omega))) (fun _ => ?_)
      refine hm_aload_n dX5_frame_89 rfl ?_
      refine hm_iload_n dX5_frame_90 rfl ?_
      refine hm_callV lm_RX5_200 (r5_callOf l hτ wτ (by omega) hb) rfl rfl rfl rfl (by first | exact Nat.lt_of_lt_of_le (by decide) hN | assumption | (simp only [hm_n_wI, hm_n_wL, hm_n_wR, hm_n_g] at *; omega)) (by decide) (by decide) (Nat.le_of_ble_eq_true rfl) dX5_frame_91 ?_
      rintro _ ρ ⟨rfl, hρ, hf2⟩
      obtain ⟨hN, hM⟩ := hρ.m
      refine hm_iinc dX5_frame_94 rfl _ rfl (by decide) rfl ?_
      refine hm_goto 81 dX5_frame_97 (by decide) ?_
      exact ih (p + 1) _ _ _ (by omega) hρ (hf.tr hf2.fo) (fun q hq => by rw [(hf2.2.2 51 q (by omega)).1]; exact hwt q hq) (fun q hq => by rw [(hf2.2.2 50 q (by omega)).1]; exact hbg q hq) (hm_inc p)
  have hl2 : ∀ (k p : Nat) (τ : hm_M) (u : Int32) (y : Value), p + k = nPort α → rM (pAll pSetUp (pTick α) p) τ → md_fo σ τ → (∀ q, q < nPort α → hm_I τ 51 q = nI (aQ (pTick α) 1 q).length) → (∀ q, q < nPort α → hm_I τ 50 q = aI (pTick α) 1 q) → u = nI p → hm_V l RX5 cX5_frame 3 (some .int) false (hm_rm 4 0 0) 0 0 Q 0 0 52 [.ref 27, .int u, y] [] τ := by
    intro k
    have nS : ∀ p, aN (pAll pSetUp (pTick α) p) = aN (pTick α) := fun p => (kyc.all (fun h p => h.setUp p) (kyc.rf 0 (pTick α)) p).1
    induction k with
    | zero =>
      intro p τ u y hk hτ hf hwt hbg hu
      subst hu
      obtain ⟨hN, hM⟩ := hτ.m
      have hpn : p = nPort α := by omega
      have e0 : hm_I τ 27 2 = nI (nPort α) := (hτ.n 1 0 (by decide)).trans (congrArg nI ((nP_of (nS p)).trans nT))
      have hv : pAllP pSetUp (pTick α) = pAll pSetUp (pTick α) p := by unfold pAllP; rw [nT, hpn]
      rw [← hv] at hτ
      refine hm_iload_n dX5_frame_52 rfl ?_
      refine hm_aload_n dX5_frame_53 rfl ?_
      refine hm_getI lf_RX5_92 rfl rfl (by first | exact Nat.lt_of_lt_of_le (by decide) hN | assumption | (simp only [hm_n_wI, hm_n_wL, hm_n_wR, hm_n_g] at *; omega)) dX5_frame_54 ?_
      rw [e0]
      refine hm_icmp_ge 71 dX5_frame_57 (by decide) (fun _ => ?_) (fun h57 => absurd (nI_le (by omega) (by omega)) h57)
      refine hm_aload_n dX5_frame_71 rfl ?_
      refine hm_callV lm_RX5_194 (r5_send l hτ w1) rfl rfl rfl rfl (by first | exact Nat.lt_of_lt_of_le (by decide) hN | assumption | (simp only [hm_n_wI, hm_n_wL, hm_n_wR, hm_n_g] at *; omega)) (by decide) (by decide) (Nat.le_of_ble_eq_true rfl) dX5_frame_72 ?_
      rintro _ ρ ⟨rfl, hρ, hf2⟩
      obtain ⟨hN, hM⟩ := hρ.m
      refine hm_aload_n dX5_frame_75 rfl ?_
      refine hm_callV lm_RX5_197 (r5_goOrStay l hρ w1.send) rfl rfl rfl rfl (by first | exact Nat.lt_of_lt_of_le (by decide) hN | assumption | (simp only [hm_n_wI, hm_n_wL, hm_n_wR, hm_n_g] at *; omega)) (by decide) (by decide) (Nat.le_of_ble_eq_true rfl) dX5_frame_76 ?_
      rintro _ π ⟨rfl, hπ, hf3⟩
      obtain ⟨hN, hM⟩ := hπ.m
      refine hm_iconst dX5_frame_79 (v := 0) (by decide) ?_
      refine hm_istore_n dX5_frame_80 (by decide) rfl ?_
      exact hl3 _ 0 _ _ _ (Nat.zero_add _) hπ ((hf.tr hf2.fo).tr hf3.fo) (fun q hq => by rw [(hf3.2.2 51 q (by omega)).1, (hf2.2.2 51 q (by omega)).1]; exact hwt q hq) (fun q hq => by rw [(hf3.2.2 50 q (by omega)).1, (hf2.2.2 50 q (by omega)).1]; exact hbg q hq) rfl
    | succ k ih =>
      intro p τ u y hk hτ hf hwt hbg hu
      subst hu
      obtain ⟨hN, hM⟩ := hτ.m
      have wτ : sW (pAll pSetUp (pTick α) p) := pAll_sW (fun β p => nP_of (setUp_N β p)) (fun β p wb hp => wb.setUp hp) w0 p (by omega)
      have nτ : nPort (pAll pSetUp (pTick α) p) = nPort α := (nP_of (nS p)).trans nT
      have e0 : hm_I τ 27 2 = nI (nPort α) := (hτ.n 1 0 (by decide)).trans (congrArg nI nτ)
      refine hm_iload_n dX5_frame_52 rfl ?_
      refine hm_aload_n dX5_frame_53 rfl ?_
      refine hm_getI lf_RX5_92 rfl rfl (by first | exact Nat.lt_of_lt_of_le (by decide) hN | assumption | (simp only [hm_n_wI, hm_n_wL, hm_n_wR, hm_n_g] at *; omega)) dX5_frame_54 ?_
      rw [e0]
      refine hm_icmp_ge 71 dX5_frame_57 (by decide) (fun h57 => absurd h57 (nI_ge (by omega) (by omega))) (fun _ => ?_)
      refine hm_aload_n dX5_frame_60 rfl ?_
      refine hm_iload_n dX5_frame_61 rfl ?_
      refine hm_callV lm_RX5_191 (r5_setUp l hτ wτ (by omega)) rfl rfl rfl rfl (by first | exact Nat.lt_of_lt_of_le (by decide) hN | assumption | (simp only [hm_n_wI, hm_n_wL, hm_n_wR, hm_n_g] at *; omega)) (by decide) (by decide) (Nat.le_of_ble_eq_true rfl) dX5_frame_62 ?_
      rintro _ ρ ⟨rfl, hρ, hf2⟩
      obtain ⟨hN, hM⟩ := hρ.m
      refine hm_iinc dX5_frame_65 rfl _ rfl (by decide) rfl ?_
      refine hm_goto 52 dX5_frame_68 (by decide) ?_
      exact ih (p + 1) _ _ _ (by omega) hρ (hf.tr hf2.fo) (fun q hq => by rw [(hf2.2.2 51 q (by omega)).1]; exact hwt q hq) (fun q hq => by rw [(hf2.2.2 50 q (by omega)).1]; exact hbg q hq) (hm_inc p)
  have hl1 : ∀ (k p : Nat) (τ : hm_M) (u : Int32) (y : Value), p + k = nPort α → rM (pTick α) τ → md_fo σ τ → (∀ q, q < p → hm_I τ 51 q = nI (aQ (pTick α) 1 q).length) → (∀ q, q < p → hm_I τ 50 q = aI (pTick α) 1 q) → u = nI p → hm_V l RX5 cX5_frame 3 (some .int) false (hm_rm 4 0 0) 0 0 Q 0 0 12 [.ref 27, .int u, y] [] τ := by
    intro k
    induction k with
    | zero =>
      intro p τ u y hk hτ hf hwt hbg hu
      subst hu
      obtain ⟨hN, hM⟩ := hτ.m
      have hpn : p = nPort α := by omega
      have e0 : hm_I τ 27 2 = nI (nPort α) := (hτ.n 1 0 (by decide)).trans (congrArg nI nT)
      refine hm_iload_n dX5_frame_12 rfl ?_
      refine hm_aload_n dX5_frame_13 rfl ?_
      refine hm_getI lf_RX5_92 rfl rfl (by first | exact Nat.lt_of_lt_of_le (by decide) hN | assumption | (simp only [hm_n_wI, hm_n_wL, hm_n_wR, hm_n_g] at *; omega)) dX5_frame_14 ?_
      rw [e0]
      refine hm_icmp_ge 50 dX5_frame_17 (by decide) (fun _ => ?_) (fun h17 => absurd (nI_le (by omega) (by omega)) h17)
      refine hm_iconst dX5_frame_50 (v := 0) (by decide) ?_
      refine hm_istore_n dX5_frame_51 (by decide) rfl ?_
      exact hl2 _ 0 _ _ _ (Nat.zero_add _) hτ hf (fun q hq => hwt q (by omega)) (fun q hq => hbg q (by omega)) rfl
    | succ k ih =>
      intro p τ u y hk hτ hf hwt hbg hu
      subst hu
      obtain ⟨hN, hM⟩ := hτ.m
      have e0 : hm_I τ 27 2 = nI (nPort α) := (hτ.n 1 0 (by decide)).trans (congrArg nI nT)
      have g1 : hm_I τ 33 p = aI (pTick α) 1 p := hτ.i 1 p (by show p < 8; omega)
      have g2 : hm_I (hm_wI τ 50 p (aI (pTick α) 1 p)) 45 p = nI (aQ (pTick α) 1 p).length := (hτ.q p (by omega)).2.1
      refine hm_iload_n dX5_frame_12 rfl ?_
      refine hm_aload_n dX5_frame_13 rfl ?_
      refine hm_getI lf_RX5_92 rfl rfl (by first | exact Nat.lt_of_lt_of_le (by decide) hN | assumption | (simp only [hm_n_wI, hm_n_wL, hm_n_wR, hm_n_g] at *; omega)) dX5_frame_14 ?_
      rw [e0]
      refine hm_icmp_ge 50 dX5_frame_17 (by decide) (fun h17 => absurd h17 (nI_ge (by omega) (by omega))) (fun _ => ?_)
      refine hm_aload_n dX5_frame_20 rfl ?_
      refine hm_getR lf_RX5_78 rfl rfl (by first | exact Nat.lt_of_lt_of_le (by decide) hN | assumption | (simp only [hm_n_wI, hm_n_wL, hm_n_wR, hm_n_g] at *; omega)) (hM 33) dX5_frame_21 ?_
      refine hm_iload_n dX5_frame_24 rfl ?_
      refine hm_aload_n dX5_frame_25 rfl ?_
      refine hm_getR lf_RX5_27 rfl rfl (by first | exact Nat.lt_of_lt_of_le (by decide) hN | assumption | (simp only [hm_n_wI, hm_n_wL, hm_n_wR, hm_n_g] at *; omega)) (hM 7) dX5_frame_26 ?_
      refine hm_iload_n dX5_frame_29 rfl ?_
      refine hm_iald _ rfl (by first | exact Nat.lt_of_lt_of_le (by decide) hN | assumption | (simp only [hm_n_wI, hm_n_wL, hm_n_wR, hm_n_g] at *; omega)) rfl (by omega) (by decide) dX5_frame_30 ?_
      rw [g1]
      refine hm_iast _ rfl (by first | exact Nat.lt_of_lt_of_le (by decide) hN | assumption | (simp only [hm_n_wI, hm_n_wL, hm_n_wR, hm_n_g] at *; omega)) rfl (by omega) (by decide) dX5_frame_31 ?_
      refine hm_aload_n dX5_frame_32 rfl ?_
      refine hm_getR lf_RX5_81 rfl rfl (by first | exact Nat.lt_of_lt_of_le (by decide) hN | assumption | (simp only [hm_n_wI, hm_n_wL, hm_n_wR, hm_n_g] at *; omega)) (hM 34) dX5_frame_33 ?_
      refine hm_iload_n dX5_frame_36 rfl ?_
      refine hm_aload_n dX5_frame_37 rfl ?_
      refine hm_getR lf_RX5_63 rfl rfl (by first | exact Nat.lt_of_lt_of_le (by decide) hN | assumption | (simp only [hm_n_wI, hm_n_wL, hm_n_wR, hm_n_g] at *; omega)) (hM 20) dX5_frame_38 ?_
      refine hm_iload_n dX5_frame_41 rfl ?_
      refine hm_iald _ rfl (by first | exact Nat.lt_of_lt_of_le (by decide) hN | assumption | (simp only [hm_n_wI, hm_n_wL, hm_n_wR, hm_n_g] at *; omega)) rfl (by omega) (by decide) dX5_frame_42 ?_
      rw [g2]
      refine hm_iast _ rfl (by first | exact Nat.lt_of_lt_of_le (by decide) hN | assumption | (simp only [hm_n_wI, hm_n_wL, hm_n_wR, hm_n_g] at *; omega)) rfl (by omega) (by decide) dX5_frame_43 ?_
      refine hm_iinc dX5_frame_44 rfl _ rfl (by decide) rfl ?_
      refine hm_goto 12 dX5_frame_47 (by decide) ?_
      refine ih (p + 1) _ _ _ (by omega) ((hτ.scr 50 p _ (Or.inl rfl)).scr 51 p _ (Or.inr rfl)) ((hf.wI 50 p _ (by decide)).wI 51 p _ (by decide)) (fun q hq => ?_) (fun q hq => ?_) (hm_inc p)
      (rcases Nat.lt_or_ge q p with e | e)
      rw [hm_I_wI, if_neg (by omega), hm_I_wI, if_neg (by omega)]; exact hwt q e
      (obtain rfl : q = p := by omega)
      rw [hm_I_wI, if_pos ⟨rfl, rfl⟩]
      (rcases Nat.lt_or_ge q p with e | e)
      rw [hm_I_wI, if_neg (by omega), hm_I_wI, if_neg (by omega)]; exact hbg q e
      (obtain rfl : q = p := by omega)
      rw [hm_I_wI, if_neg (by omega), hm_I_wI, if_pos ⟨rfl, rfl⟩]
  refine hm_aload_n dX5_frame_0 rfl ?_
  refine hm_dup dX5_frame_1 rfl ?_
  refine hm_getI lf_RX5_103 rfl rfl (by first | exact Nat.lt_of_lt_of_le (by decide) hN | assumption | (simp only [hm_n_wI, hm_n_wL, hm_n_wR, hm_n_g] at *; omega)) dX5_frame_2 ?_
  rw [e1]
  refine hm_iconst dX5_frame_5 (v := 1) (by decide) ?_
  refine hm_iadd dX5_frame_6 ?_
  refine hm_putI lf_RX5_103 rfl rfl rfl (by first | exact Nat.lt_of_lt_of_le (by decide) hN | assumption | (simp only [hm_n_wI, hm_n_wL, hm_n_wR, hm_n_g] at *; omega)) dX5_frame_7 ?_
  refine hm_iconst dX5_frame_10 (v := 0) (by decide) ?_
  refine hm_istore_n dX5_frame_11 (by decide) rfl ?_
  exact hl1 _ 0 _ _ _ (Nat.zero_add _) hr0 ((md_fo.rf σ).wI 27 26 _ (by decide)) (fun q hq => absurd hq (by omega)) (fun q hq => absurd hq (by omega)) rfl
set_option maxRecDepth 100000 in
theorem r5_frames (h : rM α σ) (w : sW α) (n : Int32) : hm_Ct l yX5_frames cX5_frames 4 (some .int) 5 0 0 [.ref 27, .int n] σ (fun r τ => r = some (.int (oFrames α n).1) ∧ rM (oFrames α n).2 τ ∧ md_fo σ τ) := by
  obtain ⟨hN, hM⟩ := h.m
  have ht := w.t
  have e1 : hm_I σ 27 26 = nI (aN α 6 0) := h.n 6 0 (by decide)
  have hrf : ∀ k, k < 7 → rM (pRef α k).2 (hm_wI σ 49 k (hm_I σ 49 k + 1)) := fun k hk => by
    have e : hm_I σ 49 k = aI α 5 k := h.i 5 k hk
    rw [e]; exact h.upI 5 k _ hk
  refine hm_startQ (ini := false) [.ref 27, .int n, hm_u, hm_u] (by decide) (by decide) rfl (Nat.le_of_ble_eq_true rfl) (fun Q hQ => ?_)
  have hl : 1 ≤ n → n ≤ 1000 → nI (aN α 6 0) + n ≤ 100000 → ∀ (m k : Nat) (τ : hm_M) (v u : Int32), k + m = n.toNatClampNeg → rM (pFrames α k) τ → md_fo σ τ → sW (pFrames α k) → aN (pFrames α k) 6 0 = aN α 6 0 + k → v = aI (pFrames α k) 4 5 - aI α 4 5 → u = nI k → hm_V l RX5 cX5_frames 4 (some .int) false (hm_rm 5 0 0) 0 0 Q 0 0 41 [.ref 27, .int n, .int v, .int u] [] τ := by
    intro n1 n2 n3
    obtain ⟨j, hj, rfl⟩ := nI_of2 (M := 1000) (n := 1000) (by decide) (Int32.not_lt.mpr (Int32.le_trans (by decide) n1)) n2
    rw [nI_clamp (by omega)]
    have hT : aN α 6 0 + j ≤ 100000 := by
      rw [nI_add] at n3
      exact (nI_leI (b := 100000) (by omega) (by decide)).mp n3
    have hres : oFrames α (nI j) = (aI (pFrames α j) 4 5 - aI α 4 5, pFrames α j) := by
      unfold oFrames
      rw [if_neg (Int32.not_lt.mpr n1), if_neg (by rintro (q | q); exact absurd n2 (Int32.not_le.mpr q); exact absurd n3 (Int32.not_le.mpr q)), nI_clamp (by omega)]
    intro m
    induction m with
    | zero =>
      intro k τ v u hk hτ hf wτ tτ hv hu
      subst hu
      obtain ⟨hN, hM⟩ := hτ.m
      obtain rfl : k = j := by omega
      refine hm_iload_n dX5_frames_41 rfl ?_
      refine hm_iload_n dX5_frames_42 rfl ?_
      refine hm_icmp_ge 59 dX5_frames_43 (by decide) (fun _ => ?_) (fun h43 => absurd (Int32.le_refl _) h43)
      refine hm_iload_n dX5_frames_59 rfl ?_
      refine hm_iret dX5_frames_60 rfl (by decide) (by decide) ?_
      exact hQ _ _ ⟨by rw [hres, hv], by rw [hres]; exact hτ, hf⟩
    | succ m ih =>
      intro k τ v u hk hτ hf wτ tτ hv hu
      subst hu
      obtain ⟨hN, hM⟩ := hτ.m
      obtain ⟨wf, tf, -⟩ := wτ.frame (by omega)
      refine hm_iload_n dX5_frames_41 rfl ?_
      refine hm_iload_n dX5_frames_42 rfl ?_
      refine hm_icmp_ge 59 dX5_frames_43 (by decide) (fun h43 => absurd h43 (nI_ge (by omega) (by omega))) (fun _ => ?_)
      refine hm_iload_n dX5_frames_46 rfl ?_
      refine hm_aload_n dX5_frames_47 rfl ?_
      refine hm_callV lm_RX5_210 (r5_frame l hτ wτ (by omega)) rfl rfl rfl rfl (by first | exact Nat.lt_of_lt_of_le (by decide) hN | assumption | (simp only [hm_n_wI, hm_n_wL, hm_n_wR, hm_n_g] at *; omega)) (by decide) (by decide) (Nat.le_of_ble_eq_true rfl) dX5_frames_48 ?_
      rintro _ ρ ⟨rfl, hρ, hf2⟩
      obtain ⟨hN, hM⟩ := hρ.m
      refine hm_iadd dX5_frames_51 ?_
      refine hm_istore_n dX5_frames_52 (by decide) rfl ?_
      refine hm_iinc dX5_frames_53 rfl _ rfl (by decide) rfl ?_
      refine hm_goto 41 dX5_frames_56 (by decide) ?_
      exact ih (k + 1) _ _ _ (by omega) hρ (hf.tr hf2) wf (by show aN (pFrame (pFrames α k)) 6 0 = _; rw [tf, tτ]; omega) (by rw [hv]; exact sub_add4 _ _ _) (hm_inc k)
  refine hm_iload_n dX5_frames_0 rfl ?_
  refine hm_iconst dX5_frames_1 (v := 1) (by decide) ?_
  refine hm_icmp_ge 12 dX5_frames_2 (by decide) (fun h2 => ?_) (fun h2 => ?_)
  · skip
    skip
    refine hm_iload_n dX5_frames_12 rfl ?_
    refine hm_sipush dX5_frames_13 (v := 1000) (by decide) ?_
    refine hm_icmp_gt 30 dX5_frames_16 (by decide) (fun h16 => ?_) (fun h16 => ?_)
    · skip
      have h1000 : 1000 < n ∨ 100000 < nI (aN α 6 0) + n := Or.inl h16
      refine hm_aload_n dX5_frames_30 rfl ?_
      refine hm_bipush dX5_frames_31 (v := -6) (by decide) ?_
      refine hm_callV lm_RX5_95 (c5_refuse l σ h.m 6 (by decide)) rfl rfl rfl rfl (by first | exact Nat.lt_of_lt_of_le (by decide) hN | assumption | (simp only [hm_n_wI, hm_n_wL, hm_n_wR, hm_n_g] at *; omega)) (by decide) (by decide) (Nat.le_of_ble_eq_true rfl) dX5_frames_33 ?_
      rintro _ t9 ⟨rfl, rfl⟩
      refine hm_iret dX5_frames_36 rfl (by decide) (by decide) ?_
      refine hQ _ _ ⟨?_, ?_, (md_fo.rf σ).wI 49 6 _ (by decide)⟩
      rw [oFrames, if_neg (Int32.not_lt.mpr h2), if_pos h1000]; rfl
      rw [oFrames, if_neg (Int32.not_lt.mpr h2), if_pos h1000]; exact hrf 6 (by decide)
    · skip
      refine hm_aload_n dX5_frames_19 rfl ?_
      refine hm_getI lf_RX5_103 rfl rfl (by first | exact Nat.lt_of_lt_of_le (by decide) hN | assumption | (simp only [hm_n_wI, hm_n_wL, hm_n_wR, hm_n_g] at *; omega)) dX5_frames_20 ?_
      rw [e1]
      refine hm_iload_n dX5_frames_23 rfl ?_
      refine hm_iadd dX5_frames_24 ?_
      refine hm_ldc dX5_frames_25 lk_RX5_209 ?_
      refine hm_icmp_le 37 dX5_frames_27 (by decide) (fun h27 => ?_) (fun h27 => ?_)
      · skip
        refine hm_iconst dX5_frames_37 (v := 0) (by decide) ?_
        refine hm_istore_n dX5_frames_38 (by decide) rfl ?_
        refine hm_iconst dX5_frames_39 (v := 0) (by decide) ?_
        refine hm_istore_n dX5_frames_40 (by decide) rfl ?_
        exact hl h2 (Int32.not_lt.mp h16) h27 _ 0 _ _ _ (Nat.zero_add _) h (md_fo.rf σ) w rfl (by show (0 : Int32) = aI α 4 5 - aI α 4 5; rw [Int32.sub_self]) rfl
      · skip
        have h1000 : 1000 < n ∨ 100000 < nI (aN α 6 0) + n := Or.inr (Int32.not_le.mp h27)
        refine hm_aload_n dX5_frames_30 rfl ?_
        refine hm_bipush dX5_frames_31 (v := -6) (by decide) ?_
        refine hm_callV lm_RX5_95 (c5_refuse l σ h.m 6 (by decide)) rfl rfl rfl rfl (by first | exact Nat.lt_of_lt_of_le (by decide) hN | assumption | (simp only [hm_n_wI, hm_n_wL, hm_n_wR, hm_n_g] at *; omega)) (by decide) (by decide) (Nat.le_of_ble_eq_true rfl) dX5_frames_33 ?_
        rintro _ t9 ⟨rfl, rfl⟩
        refine hm_iret dX5_frames_36 rfl (by decide) (by decide) ?_
        refine hQ _ _ ⟨?_, ?_, (md_fo.rf σ).wI 49 6 _ (by decide)⟩
        rw [oFrames, if_neg (Int32.not_lt.mpr h2), if_pos h1000]; rfl
        rw [oFrames, if_neg (Int32.not_lt.mpr h2), if_pos h1000]; exact hrf 6 (by decide)
  · skip
    refine hm_aload_n dX5_frames_5 rfl ?_
    refine hm_bipush dX5_frames_6 (v := -4) (by decide) ?_
    refine hm_callV lm_RX5_95 (c5_refuse l σ h.m 4 (by decide)) rfl rfl rfl rfl (by first | exact Nat.lt_of_lt_of_le (by decide) hN | assumption | (simp only [hm_n_wI, hm_n_wL, hm_n_wR, hm_n_g] at *; omega)) (by decide) (by decide) (Nat.le_of_ble_eq_true rfl) dX5_frames_8 ?_
    rintro _ t9 ⟨rfl, rfl⟩
    refine hm_iret dX5_frames_11 rfl (by decide) (by decide) ?_
    refine hQ _ _ ⟨?_, ?_, (md_fo.rf σ).wI 49 4 _ (by decide)⟩
    rw [oFrames, if_pos (Int32.not_le.mp h2)]; rfl
    rw [oFrames, if_pos (Int32.not_le.mp h2)]; exact hrf 4 (by decide)
end M14
