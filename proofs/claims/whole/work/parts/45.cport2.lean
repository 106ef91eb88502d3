/-! the class: a portable comes -/
section C13
variable (l : Launch) {α : sA} {σ : hm_M}
set_option maxHeartbeats 1000000 in
theorem rC.newP (h : rC α σ) (w : sW α) (h8 : nPort α < 8) {pl : Nat} (key : Int64) (hz : ∀ a k, hm_n σ ≤ a → hm_I σ a k = 0 ∧ hm_L σ a k = 0 ∧ hm_R σ a k = none) {τ : hm_M} (hn : hm_n τ = hm_n σ + 7)
    (tI : ∀ b k, hm_I τ b k = if b = pA (nPort α) ∧ k = 0 then nI (nPort α) else if b = pA (nPort α) ∧ k = 5 then -9 else if b = pA (nPort α) ∧ k = 4 then 0 else if b = 1 ∧ k = 1 then nI (nPort α + 1) else if b = 3 ∧ k = nPort α then nI pl else hm_I σ b k)
    (tL : ∀ b k, hm_L τ b k = if b = pA (nPort α) ∧ k = 1 then key else hm_L σ b k)
    (tR : ∀ b k, hm_R τ b k = if b = 25 ∧ k = nPort α then some (pA (nPort α)) else if b = pA (nPort α) ∧ k = 11 then some (pA (nPort α) + 5) else if b = pA (nPort α) + 5 ∧ k = 0 then some (pA (nPort α) + 6) else if b = pA (nPort α) ∧ k = 10 then some (pA (nPort α) + 3) else if b = pA (nPort α) + 3 ∧ k = 0 then some (pA (nPort α) + 4) else if b = pA (nPort α) ∧ k = 9 then some (pA (nPort α) + 1) else if b = pA (nPort α) + 1 ∧ k = 0 then some (pA (nPort α) + 2) else hm_R σ b k) :
    rC (sN (sI (sL (sN α 3 (nPort α) pl) 0 (nPort α) key) 2 (nPort α) (-9)) 1 0 (nPort α + 1)) τ := by
  have hnσ := h.r.1
  generalize hm : nPort α = n at *
  have hpn : pA n = 52 + 7 * n := rfl
  have hg := pA_ge n
  have hzz := w.z (p := n) (by omega)
  have oI : ∀ b k, b < 52 + 7 * n → ¬ (b = 1 ∧ k = 1) → ¬ (b = 3 ∧ k = n) → hm_I τ b k = hm_I σ b k := fun b k h1 h2 h3 => by
    rw [tI, if_neg (by omega), if_neg (by omega), if_neg (by omega), if_neg h2, if_neg h3]
  have oL : ∀ b k, b < 52 + 7 * n → hm_L τ b k = hm_L σ b k := fun b k h1 => by rw [tL, if_neg (by omega)]
  have oR : ∀ b k, b < 52 + 7 * n → ¬ (b = 25 ∧ k = n) → hm_R τ b k = hm_R σ b k := fun b k h1 h2 => by
    rw [tR, if_neg h2, if_neg (by omega), if_neg (by omega), if_neg (by omega), if_neg (by omega), if_neg (by omega), if_neg (by omega)]
  have eP : nPort (sN (sI (sL (sN α 3 n pl) 0 n key) 2 n (-9)) 1 0 (n + 1)) = n + 1 := by simp [nPort, aN_sN]
  have eC : nCell (sN (sI (sL (sN α 3 n pl) 0 n key) 2 n (-9)) 1 0 (n + 1)) = nCell α := by simp [nCell, aN_sN, aN_sI, aN_sL, aN_sB, aN_sQ, aI_sN, aI_sI, aI_sL, aI_sB, aI_sQ, aL_sN, aL_sI, aL_sL, aL_sB, aL_sQ, aB_sN, aB_sI, aB_sL, aB_sB, aB_sQ, aQ_sN, aQ_sI, aQ_sL, aQ_sB, aQ_sQ]
  have eN : ∀ f i, aN (sN (sI (sL (sN α 3 n pl) 0 n key) 2 n (-9)) 1 0 (n + 1)) f i = if f = 1 ∧ i = 0 then n + 1 else if f = 3 ∧ i = n then pl else aN α f i := fun f i => rfl
  have eI : ∀ f i, aI (sN (sI (sL (sN α 3 n pl) 0 n key) 2 n (-9)) 1 0 (n + 1)) f i = if f = 2 ∧ i = n then -9 else aI α f i := fun f i => rfl
  have eL : ∀ f i, aL (sN (sI (sL (sN α 3 n pl) 0 n key) 2 n (-9)) 1 0 (n + 1)) f i = if f = 0 ∧ i = n then key else aL α f i := fun f i => rfl
  have eQ : ∀ f i, aQ (sN (sI (sL (sN α 3 n pl) 0 n key) 2 n (-9)) 1 0 (n + 1)) f i = aQ α f i := fun f i => rfl
  refine ⟨⟨by rw [eP, hn, hnσ]; omega, fun k => by rw [oR _ _ (by omega) (by omega)]; exact h.r.2.1 k, fun k => by rw [oR _ _ (by omega) (by omega)]; exact h.r.2.2 k⟩, fun f i hi => ?_, fun f i hi => ?_, fun f i hi => ?_, ⟨fun z k h1 h2 => ?_, fun d k h1 h2 => ?_, fun d k h1 h2 => ?_⟩, ?_, fun p hp => ?_⟩
  · rw [eP] at hi
    rw [eN]
    have hN := h.n f i
    rw [hm] at hN
    match f with
    | 0 | 2 | 4 | 6 =>
      rw [if_neg (by omega), if_neg (by omega), oI _ _ (by show _ < _; simp [cs_lN]; omega) (by simp [cs_lN]) (by simp [cs_lN])]
      exact hN hi
    | 1 =>
      have hi0 : i = 0 := by have : i < 1 := hi; omega
      rw [if_pos ⟨rfl, hi0⟩]
      show hm_I τ 1 1 = _
      rw [tI, if_neg (by omega), if_neg (by omega), if_neg (by omega), if_pos ⟨rfl, rfl⟩]
    | 3 =>
      rw [if_neg (by omega)]
      show hm_I τ 3 i = _
      by_cases e : i = n
      · rw [tI, if_neg (by omega), if_neg (by omega), if_neg (by omega), if_neg (by omega), if_pos ⟨rfl, e⟩, if_pos ⟨rfl, e⟩]
      · rw [oI _ _ (by omega) (by omega) (by omega), if_neg (by omega)]; exact hN hi
    | 7 =>
      rw [if_neg (by omega), if_neg (by omega)]
      show hm_I τ (pA i) 8 = _
      have hi : i < n + 1 := hi
      by_cases e : i = n
      · rw [e, tI, if_neg (by omega), if_neg (by omega), if_neg (by omega), if_neg (by omega), if_neg (by omega), (hz _ _ (by omega)).1, hzz.2.2.2.2.2.2.2]; rfl
      · rw [oI _ _ (by unfold pA; omega) (by unfold pA; omega) (by unfold pA; omega)]; exact hN (by show i < n; omega)
    | 5 => simp [cs_bN] at hi
    | _ + 8 => simp [cs_bN] at hi
  · rw [eP] at hi
    rw [eI]
    have hI := h.i f i
    rw [hm] at hI
    match f with
    | 0 =>
      rw [if_neg (by omega)]
      show hm_I τ (pA i) 3 = _
      have hi : i < n + 1 := hi
      by_cases e : i = n
      · rw [e, tI, if_neg (by omega), if_neg (by omega), if_neg (by omega), if_neg (by omega), if_neg (by omega), (hz _ _ (by omega)).1, hzz.1]
      · rw [oI _ _ (by unfold pA; omega) (by unfold pA; omega) (by unfold pA; omega)]; exact hI (by show i < n; omega)
    | 1 =>
      rw [if_neg (by omega)]
      show hm_I τ (pA i) 4 = _
      have hi : i < n + 1 := hi
      by_cases e : i = n
      · rw [e, tI, if_neg (by omega), if_neg (by omega), if_pos ⟨rfl, rfl⟩, hzz.2.1]
      · rw [oI _ _ (by unfold pA; omega) (by unfold pA; omega) (by unfold pA; omega)]; exact hI (by show i < n; omega)
    | 2 =>
      show hm_I τ (pA i) 5 = _
      have hi : i < n + 1 := hi
      by_cases e : i = n
      · rw [if_pos ⟨rfl, e⟩, e, tI, if_neg (by omega), if_pos ⟨rfl, rfl⟩]
      · rw [if_neg (by omega), oI _ _ (by unfold pA; omega) (by unfold pA; omega) (by unfold pA; omega)]; exact hI (by show i < n; omega)
    | 3 =>
      rw [if_neg (by omega)]
      show hm_I τ (pA i) 6 = _
      have hi : i < n + 1 := hi
      by_cases e : i = n
      · rw [e, tI, if_neg (by omega), if_neg (by omega), if_neg (by omega), if_neg (by omega), if_neg (by omega), (hz _ _ (by omega)).1, hzz.2.2.1]
      · rw [oI _ _ (by unfold pA; omega) (by unfold pA; omega) (by unfold pA; omega)]; exact hI (by show i < n; omega)
    | 4 =>
      rw [if_neg (by omega)]
      have hs := hI hi
      rw [cs_lI_4] at hs ⊢
      split
      · rename_i e; rw [if_pos e] at hs; rw [oI _ _ (by show 1 < _; omega) (by show ¬ (1 = 1 ∧ 3 = 1); omega) (by show ¬ (1 = 3 ∧ 3 = n); omega)]; exact hs
      · rename_i e; rw [if_neg e] at hs; rw [oI _ _ (by show 0 < _; omega) (by show ¬ (0 = 1 ∧ _); omega) (by show ¬ (0 = 3 ∧ _); omega)]; exact hs
    | 5 =>
      rw [if_neg (by omega), oI _ _ (by show 26 < _; omega) (by show ¬ (26 = 1 ∧ _); omega) (by show ¬ (26 = 3 ∧ _); omega)]
      exact hI hi
    | _ + 6 => simp [cs_bI] at hi
  · rw [eP] at hi
    rw [eL]
    have hL := h.l f i
    rw [hm] at hL
    match f with
    | 0 =>
      show hm_L τ (pA i) 1 = _
      have hi : i < n + 1 := hi
      by_cases e : i = n
      · rw [e, tL, if_pos ⟨rfl, rfl⟩, if_pos ⟨rfl, rfl⟩]
      · rw [if_neg (by omega), oL _ _ (by unfold pA; omega)]; exact hL (by show i < n; omega)
    | 1 =>
      rw [if_neg (by omega)]
      show hm_L τ (pA i) 2 = _
      have hi : i < n + 1 := hi
      by_cases e : i = n
      · rw [e, tL, if_neg (by omega), (hz _ _ (by omega)).2.1, hzz.2.2.2.1]
      · rw [oL _ _ (by unfold pA; omega)]; exact hL (by show i < n; omega)
    | 2 =>
      rw [if_neg (by omega), oL _ _ (by show 0 < _; omega)]
      exact hL hi
    | _ + 3 => simp [cs_bL] at hi
  · rw [eN, if_neg (by omega), if_neg (by omega), oI _ _ (by omega) (by omega) (by omega)]; exact h.z.1 z k h1 h2
  · have e1 : pSends (sN (sI (sL (sN α 3 n pl) 0 n key) 2 n (-9)) 1 0 (n + 1)) d k = pSends α d k := by unfold pSends; rw [eN, if_neg (by omega), if_neg (by omega)]; rfl
    rw [eC, e1, oI _ _ (by omega) (by omega) (by omega)]; exact h.z.2.1 d k h1 h2
  · rw [oI _ _ (by omega) (by omega) (by omega)]; exact h.z.2.2 d k h1 h2
  · have hl := @cs_B.lt _ _ h.b
    obtain ⟨c1, π, c2, c3⟩ := h.b
    refine ⟨⟨by rw [oI _ _ (by omega) (by omega) (by omega)]; exact c1.1, c1.2⟩, π, ⟨fun k hk => ⟨by rw [oR _ _ (by omega) (by omega)]; exact (c2.1 k hk).1, (c2.1 k hk).2⟩, c2.2⟩, fun b x hb => ?_⟩
    obtain ⟨e1, e2, e3, e4, e5⟩ := c3 b x hb
    have hpi := (c2.1 b (hl hb)).2
    refine ⟨?_, ?_, ?_, ?_, ?_⟩ <;> rw [oI _ _ (by omega) (by omega) (by omega)] <;> assumption
  · rw [eP] at hp
    by_cases e : p = n
    · subst e
      have hb0 : ∀ j c, 0 < c → j = 1 ∨ j = 3 ∨ j = 5 → bk τ (pA p + j) c 0 [] := fun j c hc hj => by
        refine ⟨?_, hc, ?_, by simp, fun k v hv => by simp at hv⟩
        · rw [tI, if_neg (by omega), if_neg (by omega), if_neg (by omega), if_neg (by omega), if_neg (by omega), (hz _ _ (by omega)).1]; rfl
        · rw [tI, if_neg (by omega), if_neg (by omega), if_neg (by omega), if_neg (by omega), if_neg (by omega), (hz _ _ (by omega)).1]; rfl
      refine ⟨by rw [tR, if_pos ⟨rfl, rfl⟩], ⟨?_, ?_, ?_, ?_, ?_, ?_⟩, by rw [tI, if_pos ⟨rfl, rfl⟩], ⟨0, ?_⟩, ⟨0, ?_⟩, 0, ?_⟩
      · rw [tR, if_neg (by omega), if_neg (by omega), if_neg (by omega), if_neg (by omega), if_neg (by omega), if_pos ⟨rfl, rfl⟩]
      · rw [tR, if_neg (by omega), if_neg (by omega), if_neg (by omega), if_pos ⟨rfl, rfl⟩]
      · rw [tR, if_neg (by omega), if_pos ⟨rfl, rfl⟩]
      · rw [tR, if_neg (by omega), if_neg (by omega), if_neg (by omega), if_neg (by omega), if_neg (by omega), if_neg (by omega), if_pos ⟨rfl, rfl⟩]
      · rw [tR, if_neg (by omega), if_neg (by omega), if_neg (by omega), if_neg (by omega), if_pos ⟨rfl, rfl⟩]
      · rw [tR, if_neg (by omega), if_neg (by omega), if_pos ⟨rfl, rfl⟩]
      · rw [eQ, hzz.2.2.2.2.1]; exact hb0 1 8 (by decide) (by omega)
      · rw [eQ, hzz.2.2.2.2.2.1]; exact hb0 3 16 (by decide) (by omega)
      · rw [eQ, hzz.2.2.2.2.2.2.1]; exact hb0 5 20 (by decide) (by omega)
    · have hpA : pA p = 52 + 7 * p := rfl
      obtain ⟨c1, c2, c3, ⟨f1, c4⟩, ⟨f2, c5⟩, f3, c6⟩ := h.p (p := p) (by omega)
      have ebk : ∀ (a c g : Nat) (q : List Int64), 52 ≤ a → a + 1 < 52 + 7 * n → bk σ a c g q → bk τ a c g q := fun a c g q ha ha2 hb => by
        obtain ⟨b1, b2, b3, b4, b5⟩ := hb
        exact ⟨by rw [oI _ _ (by omega) (by omega) (by omega)]; exact b1, b2, by rw [oI _ _ (by omega) (by omega) (by omega)]; exact b3, b4, fun k v hv => by rw [oL _ _ (by omega)]; exact b5 k v hv⟩
      refine ⟨by rw [oR _ _ (by omega) (by omega)]; exact c1, ?_, by rw [oI _ _ (by omega) (by omega) (by omega)]; exact c3, ⟨f1, ebk _ _ _ _ (by omega) (by omega) c4⟩, ⟨f2, ebk _ _ _ _ (by omega) (by omega) c5⟩, f3, ebk _ _ _ _ (by omega) (by omega) c6⟩
      rw [oR _ _ (by omega) (by omega), oR _ _ (by omega) (by omega), oR _ _ (by omega) (by omega), oR _ _ (by omega) (by omega), oR _ _ (by omega) (by omega), oR _ _ (by omega) (by omega)]
      exact c2
set_option maxRecDepth 100000 in
theorem k4_portable (h : rC α σ) (w : sW α) (pl : Int32) (key : Int64) : hm_Ct l yX4_portable cX4_portable 5 (some .int) 3 7 81 [.ref 0, .int pl, .long key] σ (fun r τ => r = some (.int (oPortable α pl key).1) ∧ rC (oPortable α pl key).2 τ ∧ cs_fr σ τ) := by
  have hN := h.N
  have hH := h.r.2.1
  have h8 := w.p8
  have e0 := h.np
  have hnn := h.r.1
  have q8 : nI (nPort α) < 8 ↔ nPort α < 8 := nI_ltI (b := 8) (by omega) (by decide)
  have hg := pA_ge (nPort α)
  refine hm_startQ (ini := false) [.ref 0, .int pl, .long key, hm_u, hm_u] (by decide) (by decide) rfl (Nat.le_of_ble_eq_true rfl) (fun Q hQ => ?_)
  refine hm_fresh fun hz => ?_
  have hfin : ∀ (j : Nat), j < 16 → nPort α < 8 → rC (sN (sI (sL (sN α 3 (nPort α) j) 0 (nPort α) key) 2 (nPort α) (-9)) 1 0 (nPort α + 1)) (hm_wR (cs_np (hm_g (hm_wI (hm_wI σ 3 (nPort α) (nI j)) 1 1 (nI (nPort α + 1)))) (pA (nPort α)) (nI (nPort α)) key) 25 (nPort α) (some (pA (nPort α)))) := fun j hj h88 => h.newP w h88 key hz rfl (fun _ _ => rfl) (fun _ _ => rfl) (fun _ _ => rfl)
  have hfr : ∀ (j : Nat), cs_fr σ (hm_wR (cs_np (hm_g (hm_wI (hm_wI σ 3 (nPort α) (nI j)) 1 1 (nI (nPort α + 1)))) (pA (nPort α)) (nI (nPort α)) key) 25 (nPort α) (some (pA (nPort α)))) := fun j => by
    have g1 : cs_fr σ (hm_wI (hm_wI σ 3 (nPort α) (nI j)) 1 1 (nI (nPort α + 1))) := ((cs_fr.rf σ).wI _ _ _ (by omega)).wI _ _ _ (by omega)
    have gg : ∀ ρ, cs_fr σ ρ → cs_fr σ (hm_g ρ) := fun ρ hρ => ⟨Nat.le_trans hρ.1 (Nat.le_succ _), hρ.2⟩
    unfold cs_np
    refine cs_fr.wR ?_ _ _ _ (by omega)
    refine cs_fr.wL ?_ _ _ _ (by omega)
    refine cs_fr.wI ?_ _ _ _ (by omega)
    refine cs_fr.wR ?_ _ _ _ (by omega)
    refine cs_fr.wR ?_ _ _ _ (by omega)
    refine gg _ (gg _ ?_)
    refine cs_fr.wR ?_ _ _ _ (by omega)
    refine cs_fr.wR ?_ _ _ _ (by omega)
    refine gg _ (gg _ ?_)
    refine cs_fr.wR ?_ _ _ _ (by omega)
    refine cs_fr.wR ?_ _ _ _ (by omega)
    refine gg _ (gg _ ?_)
    refine cs_fr.wI ?_ _ _ _ (by omega)
    refine cs_fr.wI ?_ _ _ _ (by omega)
    exact gg _ g1
  have hnA : hm_n σ = pA (nPort α) := hnn
  refine hm_iload_n dX4_portable_0 rfl ?_
  refine hm_callS lm_RX4_41 (k4_isPlace l _ _) rfl rfl (by decide) (by decide) (Nat.le_of_ble_eq_true rfl) dX4_portable_1 ?_
  rintro _ t9 ⟨rfl, hh9⟩
  rw [hh9]
  clear hh9 t9
  refine hm_if_ne 13 dX4_portable_4 (by decide) (fun h4 => ?_) (fun h4 => ?_)
  · skip
    rw [bI_0] at h4
    have h4 := b_nf h4
    obtain ⟨j, hj, rfl⟩ := pIn_some (by decide) h4
    refine hm_aload_n dX4_portable_13 rfl ?_
    refine hm_getR lf_RX4_12 rfl rfl (by first | exact Nat.lt_of_lt_of_le (by decide) hN | assumption | (simp only [hm_n_wI, hm_n_wL, hm_n_wR, hm_n_g] at *; omega)) (hH 0) dX4_portable_14 ?_
    refine hm_getI lf_RX4_44 rfl rfl (by first | exact Nat.lt_of_lt_of_le (by decide) hN | assumption | (simp only [hm_n_wI, hm_n_wL, hm_n_wR, hm_n_g] at *; omega)) dX4_portable_17 ?_
    rw [e0]
    refine hm_bipush dX4_portable_20 (v := 8) (by decide) ?_
    refine hm_icmp_lt 32 dX4_portable_22 (by decide) (fun h22 => ?_) (fun h22 => ?_)
    · skip
      rw [q8] at h22
      have hc : oPortable α (nI j) key = (nI (nPort α), sN (sI (sL (sN α 3 (nPort α) j) 0 (nPort α) key) 2 (nPort α) (-9)) 1 0 (nPort α + 1)) := by unfold oPortable; rw [h4, if_neg (by decide), if_neg (by omega), nI_clamp (by omega)]
      refine hm_aload_n dX4_portable_32 rfl ?_
      refine hm_getR lf_RX4_12 rfl rfl (by first | exact Nat.lt_of_lt_of_le (by decide) hN | assumption | (simp only [hm_n_wI, hm_n_wL, hm_n_wR, hm_n_g] at *; omega)) (hH 0) dX4_portable_33 ?_
      refine hm_iload_n dX4_portable_36 rfl ?_
      refine hm_callV lm_RX4_47 (k3_addPortable l h h22 (nI j)) rfl rfl rfl rfl (by first | exact Nat.lt_of_lt_of_le (by decide) hN | assumption | (simp only [hm_n_wI, hm_n_wL, hm_n_wR, hm_n_g] at *; omega)) (by decide) (by decide) (Nat.le_of_ble_eq_true rfl) dX4_portable_37 ?_
      rintro _ t9 ⟨rfl, hh9⟩
      rw [hh9]
      clear hh9 t9
      refine hm_istore dX4_portable_40 (by decide) rfl ?_
      refine hm_aload_n dX4_portable_42 rfl ?_
      refine hm_getR lf_RX4_18 rfl rfl (by first | exact Nat.lt_of_lt_of_le (by decide) hN | assumption | (simp only [hm_n_wI, hm_n_wL, hm_n_wR, hm_n_g] at *; omega)) (hH 1) dX4_portable_43 ?_
      refine hm_iload dX4_portable_46 rfl ?_
      refine hm_new lc_RX4_16 (ci := 2) rfl (by rw [show hm_n (hm_wI (hm_wI σ 3 (nPort α) (nI j)) 1 1 (nI (nPort α + 1))) = pA (nPort α) from hnA]; exact S_pA0 _) (by decide) (by decide) dX4_portable_48 ?_
      rw [show hm_n (hm_wI (hm_wI σ 3 (nPort α) (nI j)) 1 1 (nI (nPort α + 1))) = pA (nPort α) from hnA]
      refine hm_dup dX4_portable_51 rfl ?_
      refine hm_iload dX4_portable_52 rfl ?_
      refine hm_lload_n dX4_portable_54 rfl ?_
      refine hm_callI lm_RX4_50 (k2_init l _ (p := nPort α) (by show hm_n σ + 1 = _; rw [hnA]) (nI (nPort α)) key) rfl rfl (by decide) (by decide) (Nat.le_of_ble_eq_true rfl) dX4_portable_55 ?_
      rintro _ t9 ⟨rfl, hh9⟩
      rw [hh9]
      clear hh9 t9
      refine hm_aast _ rfl (Or.inr ⟨rfl, rfl⟩) (by show 25 < hm_n σ + 1 + 1 + 1 + 1 + 1 + 1 + 1; omega) (S_pA0 _) (by show pA (nPort α) < hm_n σ + 1 + 1 + 1 + 1 + 1 + 1 + 1; omega) rfl (by omega) (by decide) dX4_portable_58 ?_
      refine hm_iload dX4_portable_59 rfl ?_
      refine hm_iret dX4_portable_61 rfl (by decide) (by decide) ?_
      exact hQ _ _ ⟨by rw [hc], by rw [hc]; exact hfin j hj h22, hfr j⟩
    · skip
      rw [q8] at h22
      have hc : oPortable α (nI j) key = pRef α 6 := by unfold oPortable; rw [h4, if_neg (by decide), if_pos (by omega)]
      refine hm_aload_n dX4_portable_25 rfl ?_
      refine hm_bipush dX4_portable_26 (v := -6) (by decide) ?_
      refine hm_callV lm_RX4_30 (k4_refuse l h (w := 6) (by decide)) rfl rfl rfl rfl (by first | exact Nat.lt_of_lt_of_le (by decide) hN | assumption | (simp only [hm_n_wI, hm_n_wL, hm_n_wR, hm_n_g] at *; omega)) (by decide) (by decide) (Nat.le_of_ble_eq_true rfl) dX4_portable_28 ?_
      rintro _ ρ ⟨rfl, hρ, hf⟩
      refine hm_iret dX4_portable_31 rfl (by decide) (by decide) ?_
      exact hQ _ _ ⟨by rw [hc], by rw [hc]; exact hρ, hf⟩
  · skip
    rw [bI_0] at h4
    have hc : oPortable α pl key = pRef α 1 := by unfold oPortable; rw [h4]; rfl
    refine hm_aload_n dX4_portable_7 rfl ?_
    refine hm_iconst dX4_portable_8 (v := -1) (by decide) ?_
    refine hm_callV lm_RX4_30 (k4_refuse l h (w := 1) (by decide)) rfl rfl rfl rfl (by first | exact Nat.lt_of_lt_of_le (by decide) hN | assumption | (simp only [hm_n_wI, hm_n_wL, hm_n_wR, hm_n_g] at *; omega)) (by decide) (by decide) (Nat.le_of_ble_eq_true rfl) dX4_portable_9 ?_
    rintro _ ρ ⟨rfl, hρ, hf⟩
    refine hm_iret dX4_portable_12 rfl (by decide) (by decide) ?_
    exact hQ _ _ ⟨by rw [hc], by rw [hc]; exact hρ, hf⟩
end C13
