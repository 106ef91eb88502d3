/-! the class: a frame's steps -/
theorem rC.np {α : sA} {σ : hm_M} (h : rC α σ) : hm_I σ 1 1 = nI (nPort α) := h.n 1 0 (by show 0 < 1; decide)
theorem rC.tm {α : sA} {σ : hm_M} (h : rC α σ) : hm_I σ 0 3 = nI (aN α 6 0) := h.n 6 0 (by show 0 < 1; decide)
def pPgd (α : sA) (p : Nat) : sA := sI (sI (sI (sI α 1 p 3) 1 (pPar α p) 4) 2 (pPar α p) (nI p)) 3 (pPar α p) (nI (aN α 6 0))
def pPgo (α : sA) (p : Nat) : Bool := decide (aI α 1 (pPar α p) = 0) && decide (aI α 0 (pPar α p) ≠ 0)
def pAdv (α : sA) (p : Nat) : Bool × sA :=
  if aI α 1 p = 1 then (true, sI α 1 p 2)
  else if aI α 1 p = 4 then (true, sI α 1 p 5)
  else if aI α 1 p = 2 then (if pProven α p && pPgo α p then (true, pPgd α p) else (false, α))
  else if aI α 1 p = 5 then (if pProven α p then (true, sI α 1 p 6) else (false, α))
  else (true, α)
theorem ends_3 {α : sA} (w : sW α) {p : Nat} (hp : p < nPort α) (h2 : aI α 1 p = 2) : pEnds (sI α 1 p 3) p = pEnds α p := by
  obtain ⟨hq, hne, hpar, -, -⟩ := w.par hp (by rw [h2]; decide)
  have e0 : pPar (sI α 1 p 3) p = pPar α p := by unfold pPar; rw [aI_sI, if_neg (by omega)]
  have e1 : pTog (sI α 1 p 3) p = pTog α p := by
    have f1 : aI (sI α 1 p 3) 2 (pPar α p) = aI α 2 (pPar α p) := by rw [aI_sI, if_neg (by omega)]
    have f2 : aI (sI α 1 p 3) 1 p = 3 := by rw [aI_sI, if_pos ⟨rfl, rfl⟩]
    have f3 : aI (sI α 1 p 3) 1 (pPar α p) = aI α 1 (pPar α p) := by rw [aI_sI, if_neg (fun q => hne q.2)]
    unfold pTog
    rw [e0, f1, f2, f3, h2]
    rfl
  have e2 : pIdle (sI α 1 p 3) p = pIdle α p := by
    refine Prod.ext rfl (Prod.ext ?_ rfl)
    funext a j
    show up2 (up2 (up2 (aI α) 1 p 3) 1 p 0) 2 p (-9) a j = up2 (up2 (aI α) 1 p 0) 2 p (-9) a j
    unfold up2
    (repeat' split) <;> first | rfl | omega
  unfold pEnds
  rw [e1, e2, e0]
theorem adv_call {α : sA} (w : sW α) {p : Nat} (hp : p < nPort α) (hg : pGood α p = true) : pCall α p = if (pAdv α p).1 then (pAdv α p).2 else pEnds α p := by
  unfold pCall pAdv
  rw [if_pos hg]
  by_cases h1 : aI α 1 p = 1
  · rw [if_pos h1, if_pos h1]; rfl
  rw [if_neg h1, if_neg h1]
  by_cases h4 : aI α 1 p = 4
  · rw [if_pos h4, if_pos h4]; rfl
  rw [if_neg h4, if_neg h4]
  by_cases h2 : aI α 1 p = 2
  · rw [if_pos h2, if_pos h2]
    cases hv : pProven α p
    · rfl
    · rw [if_pos rfl, Bool.true_and]
      unfold pPage
      change (if pPgo α p = true then pPgd α p else pEnds (sI α 1 p 3) p) = _
      by_cases hc : pPgo α p = true
      · rw [if_pos hc, if_pos hc]; rfl
      · rw [if_neg hc, if_neg hc]; exact ends_3 w hp h2
  rw [if_neg h2, if_neg h2]
  by_cases h5 : aI α 1 p = 5
  · rw [if_pos h5, if_pos h5]
    cases hv : pProven α p <;> rfl
  · rw [if_neg h5, if_neg h5]; rfl
theorem adv_f {α : sA} {p : Nat} (h : (pAdv α p).1 = false) : (pAdv α p).2 = α ∧ aI α 1 p ≠ 0 := by
  unfold pAdv at h ⊢
  by_cases h1 : aI α 1 p = 1
  · rw [if_pos h1] at h; cases h
  rw [if_neg h1] at h ⊢
  by_cases h4 : aI α 1 p = 4
  · rw [if_pos h4] at h; cases h
  rw [if_neg h4] at h ⊢
  by_cases h2 : aI α 1 p = 2
  · rw [if_pos h2] at h ⊢
    split at h
    · cases h
    · rename_i hc; rw [if_neg hc]; exact ⟨rfl, by rw [h2]; decide⟩
  rw [if_neg h2] at h ⊢
  by_cases h5 : aI α 1 p = 5
  · rw [if_pos h5] at h ⊢
    split at h
    · cases h
    · rename_i hc; rw [if_neg hc]; exact ⟨rfl, by rw [h5]; decide⟩
  · rw [if_neg h5] at h; cases h
section C8
variable (l : Launch) {α : sA} {σ : hm_M}
set_option maxRecDepth 100000 in
theorem k4_wantsBearer (h : rC α σ) (w : sW α) {p : Nat} (hp : p < nPort α) : hm_Ct l yX4_wantsBearer cX4_wantsBearer 3 (some .boolean) 2 0 0 [.ref 0, .ref (pA p)] σ (fun r τ => r = some (.int (bI (pWants α p))) ∧ τ = σ) := by
  have hN := h.N
  have hH := h.r.2.1
  have hn := h.pn hp
  have hs := S_pA0 p
  have h8 := w.p8
  have hnb := w.nb p
  have e0 : hm_I σ (pA p) 0 = nI p := (h.p hp).2.2.1
  have e1 : hm_I σ (pA p) 4 = aI α 1 p := h.i 1 p hp
  have q0 : nI (pNb α p) = 0 ↔ pNb α p = 0 := nI_0' (by omega)
  refine hm_startQ (ini := false) [.ref 0, .ref (pA p), hm_u] (by decide) (by decide) rfl (Nat.le_of_ble_eq_true rfl) (fun Q hQ => ?_)
  have j1 : ∀ (b : Bool) (v : Int32), v = bI b → b = (decide (aI α 1 p = 1) || decide (aI α 1 p = 4)) → hm_V l RX4 cX4_wantsBearer 3 (some .boolean) false (hm_rm 2 0 0) 0 0 Q 0 0 21 [.ref 0, .ref (pA p), hm_u] [.int v] σ := by
    intro b v hv hb
    subst hv
    have j2 : ∀ v : Int32, v = bI (pWants α p) → Q (some (.int v)) σ := fun v hv => hQ _ _ ⟨by rw [hv], rfl⟩
    refine hm_istore_n dX4_wantsBearer_21 (by decide) rfl ?_
    refine hm_iload_n dX4_wantsBearer_22 rfl ?_
    refine hm_if_eq 40 dX4_wantsBearer_23 (by decide) (fun h23 => ?_) (fun h23 => ?_)
    · skip
      rw [bI_0] at h23
      refine hm_aload_n dX4_wantsBearer_40 rfl ?_
      refine hm_getR lf_RX4_12 rfl rfl (by first | exact Nat.lt_of_lt_of_le (by decide) hN | assumption | (simp only [hm_n_wI, hm_n_wL, hm_n_wR, hm_n_g] at *; omega)) (hH 0) dX4_wantsBearer_41 ?_
      refine hm_aload_n dX4_wantsBearer_44 rfl ?_
      refine hm_getI lf_RX4_253 rfl hs (by omega) dX4_wantsBearer_45 ?_
      rw [e0]
      refine hm_callV lm_RX4_131 (k3_handsOver l h w (by omega)) rfl rfl rfl rfl (by first | exact Nat.lt_of_lt_of_le (by decide) hN | assumption | (simp only [hm_n_wI, hm_n_wL, hm_n_wR, hm_n_g] at *; omega)) (by decide) (by decide) (Nat.le_of_ble_eq_true rfl) dX4_wantsBearer_48 ?_
      rintro _ t9 ⟨rfl, hh9⟩
      rw [hh9]
      clear hh9 t9
      refine hm_if_eq 58 dX4_wantsBearer_51 (by decide) (fun h51 => ?_) (fun h51 => ?_)
      · skip
        rw [bI_0] at h51
        first | have g : (0 : Int32) = bI (pWants α p) := by rw [g0, h51]; rfl | have g : (0 : Int32) = bI (pWants α p) := by unfold pWants; rw [← hb, h23, h51]; rfl
        refine hm_iconst dX4_wantsBearer_58 (v := 0) (by decide) ?_
        refine hm_zret dX4_wantsBearer_59 rfl (by decide) (by decide) (by first | exact Or.inl rfl | exact Or.inr rfl | assumption) ?_
        exact j2 _ g
      · skip
        rw [bI_0] at h51
        have g : (1 : Int32) = bI (pWants α p) := by unfold pWants; rw [b_nf h51]; rfl
        refine hm_iconst dX4_wantsBearer_54 (v := 1) (by decide) ?_
        refine hm_goto 59 dX4_wantsBearer_55 (by decide) ?_
        refine hm_zret dX4_wantsBearer_59 rfl (by decide) (by decide) (by first | exact Or.inl rfl | exact Or.inr rfl | assumption) ?_
        exact j2 _ g
    · skip
      rw [bI_0] at h23
      refine hm_aload_n dX4_wantsBearer_26 rfl ?_
      refine hm_getR lf_RX4_12 rfl rfl (by first | exact Nat.lt_of_lt_of_le (by decide) hN | assumption | (simp only [hm_n_wI, hm_n_wL, hm_n_wR, hm_n_g] at *; omega)) (hH 0) dX4_wantsBearer_27 ?_
      refine hm_aload_n dX4_wantsBearer_30 rfl ?_
      refine hm_getI lf_RX4_253 rfl hs (by omega) dX4_wantsBearer_31 ?_
      rw [e0]
      refine hm_callV lm_RX4_128 (k3_bearersOf l h w (by omega)) rfl rfl rfl rfl (by first | exact Nat.lt_of_lt_of_le (by decide) hN | assumption | (simp only [hm_n_wI, hm_n_wL, hm_n_wR, hm_n_g] at *; omega)) (by decide) (by decide) (Nat.le_of_ble_eq_true rfl) dX4_wantsBearer_34 ?_
      rintro _ t9 ⟨rfl, hh9⟩
      rw [hh9]
      clear hh9 t9
      refine hm_if_eq 54 dX4_wantsBearer_37 (by decide) (fun h37 => ?_) (fun h37 => ?_)
      · skip
        rw [q0] at h37
        have g : (1 : Int32) = bI (pWants α p) := by unfold pWants; rw [← hb, b_nf h23, h37]; simp [bI]
        refine hm_iconst dX4_wantsBearer_54 (v := 1) (by decide) ?_
        refine hm_goto 59 dX4_wantsBearer_55 (by decide) ?_
        refine hm_zret dX4_wantsBearer_59 rfl (by decide) (by decide) (by first | exact Or.inl rfl | exact Or.inr rfl | assumption) ?_
        exact j2 _ g
      · skip
        rw [q0] at h37
        have g0 : pWants α p = pHo α p := by unfold pWants; rw [decide_eq_false h37]; simp
        refine hm_aload_n dX4_wantsBearer_40 rfl ?_
        refine hm_getR lf_RX4_12 rfl rfl (by first | exact Nat.lt_of_lt_of_le (by decide) hN | assumption | (simp only [hm_n_wI, hm_n_wL, hm_n_wR, hm_n_g] at *; omega)) (hH 0) dX4_wantsBearer_41 ?_
        refine hm_aload_n dX4_wantsBearer_44 rfl ?_
        refine hm_getI lf_RX4_253 rfl hs (by omega) dX4_wantsBearer_45 ?_
        rw [e0]
        refine hm_callV lm_RX4_131 (k3_handsOver l h w (by omega)) rfl rfl rfl rfl (by first | exact Nat.lt_of_lt_of_le (by decide) hN | assumption | (simp only [hm_n_wI, hm_n_wL, hm_n_wR, hm_n_g] at *; omega)) (by decide) (by decide) (Nat.le_of_ble_eq_true rfl) dX4_wantsBearer_48 ?_
        rintro _ t9 ⟨rfl, hh9⟩
        rw [hh9]
        clear hh9 t9
        refine hm_if_eq 58 dX4_wantsBearer_51 (by decide) (fun h51 => ?_) (fun h51 => ?_)
        · skip
          rw [bI_0] at h51
          first | have g : (0 : Int32) = bI (pWants α p) := by rw [g0, h51]; rfl | have g : (0 : Int32) = bI (pWants α p) := by unfold pWants; rw [← hb, h23, h51]; rfl
          refine hm_iconst dX4_wantsBearer_58 (v := 0) (by decide) ?_
          refine hm_zret dX4_wantsBearer_59 rfl (by decide) (by decide) (by first | exact Or.inl rfl | exact Or.inr rfl | assumption) ?_
          exact j2 _ g
        · skip
          rw [bI_0] at h51
          have g : (1 : Int32) = bI (pWants α p) := by unfold pWants; rw [b_nf h51]; rfl
          refine hm_iconst dX4_wantsBearer_54 (v := 1) (by decide) ?_
          refine hm_goto 59 dX4_wantsBearer_55 (by decide) ?_
          refine hm_zret dX4_wantsBearer_59 rfl (by decide) (by decide) (by first | exact Or.inl rfl | exact Or.inr rfl | assumption) ?_
          exact j2 _ g
  refine hm_aload_n dX4_wantsBearer_0 rfl ?_
  refine hm_getI lf_RX4_73 rfl hs (by omega) dX4_wantsBearer_1 ?_
  rw [e1]
  refine hm_iconst dX4_wantsBearer_4 (v := 1) (by decide) ?_
  refine hm_icmp_eq 16 dX4_wantsBearer_5 (by decide) (fun h5 => ?_) (fun h5 => ?_)
  · skip
    have g : true = (decide (aI α 1 p = 1) || decide (aI α 1 p = 4)) := by rw [h5]; rfl
    refine hm_iconst dX4_wantsBearer_16 (v := 1) (by decide) ?_
    refine hm_goto 21 dX4_wantsBearer_17 (by decide) ?_
    exact j1 _ _ (by rfl) g
  · skip
    refine hm_aload_n dX4_wantsBearer_8 rfl ?_
    refine hm_getI lf_RX4_73 rfl hs (by omega) dX4_wantsBearer_9 ?_
    rw [e1]
    refine hm_iconst dX4_wantsBearer_12 (v := 4) (by decide) ?_
    refine hm_icmp_ne 20 dX4_wantsBearer_13 (by decide) (fun h13 => ?_) (fun h13 => ?_)
    · skip
      have g : false = (decide (aI α 1 p = 1) || decide (aI α 1 p = 4)) := by rw [decide_eq_false h5, decide_eq_false h13]; rfl
      refine hm_iconst dX4_wantsBearer_20 (v := 0) (by decide) ?_
      exact j1 _ _ (by rfl) g
    · skip
      have g : true = (decide (aI α 1 p = 1) || decide (aI α 1 p = 4)) := by rw [h13]; rfl
      refine hm_iconst dX4_wantsBearer_16 (v := 1) (by decide) ?_
      refine hm_goto 21 dX4_wantsBearer_17 (by decide) ?_
      exact j1 _ _ (by rfl) g
set_option maxRecDepth 100000 in
theorem k4_setUpBearers (h : rC α σ) (w : sW α) : hm_Ct l yX4_setUpBearers cX4_setUpBearers 2 none 4 0 0 [.ref 0] σ (fun r τ => r = none ∧ rC (pAllP pSetUp α) τ ∧ cs_fr σ τ) := by
  have h8 := w.p8
  refine hm_startQ (ini := false) [.ref 0, hm_u] (by decide) (by decide) rfl (Nat.le_of_ble_eq_true rfl) (fun Q hQ => ?_)
  have hl : ∀ (k p : Nat) (τ : hm_M) (u : Int32), p + k = nPort α → rC (pAll pSetUp α p) τ → cs_fr σ τ → u = nI p → hm_V l RX4 cX4_setUpBearers 2 none false (hm_rm 4 0 0) 0 0 Q 0 0 2 [.ref 0, .int u] [] τ := by
    intro k
    induction k with
    | zero =>
      intro p τ u hk hτ hf hu
      subst hu
      have hN := hτ.N
      have hH := hτ.r.2.1
      have e0 : hm_I τ 1 1 = nI (nPort α) := hτ.np.trans (congrArg nI (pAll_nP (fun β p => nP_of (setUp_N β p)) _ _))
      obtain rfl : p = nPort α := by omega
      refine hm_iload_n dX4_setUpBearers_2 rfl ?_
      refine hm_aload_n dX4_setUpBearers_3 rfl ?_
      refine hm_getR lf_RX4_12 rfl rfl (by first | exact Nat.lt_of_lt_of_le (by decide) hN | assumption | (simp only [hm_n_wI, hm_n_wL, hm_n_wR, hm_n_g] at *; omega)) (hH 0) dX4_setUpBearers_4 ?_
      refine hm_getI lf_RX4_44 rfl rfl (by first | exact Nat.lt_of_lt_of_le (by decide) hN | assumption | (simp only [hm_n_wI, hm_n_wL, hm_n_wR, hm_n_g] at *; omega)) dX4_setUpBearers_7 ?_
      rw [e0]
      refine hm_icmp_ge 51 dX4_setUpBearers_10 (by decide) (fun _ => ?_) (fun h10 => absurd (nI_le (by omega) (by omega)) h10)
      refine hm_vret dX4_setUpBearers_51 rfl (by decide) (by decide) ?_
      exact hQ _ _ ⟨rfl, hτ, hf⟩
    | succ k ih =>
      intro p τ u hk hτ hf hu
      subst hu
      have hN := hτ.N
      have hH := hτ.r.2.1
      have e0 : hm_I τ 1 1 = nI (nPort α) := hτ.np.trans (congrArg nI (pAll_nP (fun β p => nP_of (setUp_N β p)) _ _))
      have wβ : sW (pAll pSetUp α p) := pAll_sW (fun β p => nP_of (setUp_N β p)) (fun β p wb hp => wb.setUp hp) w p (by omega)
      have hp : p < nPort (pAll pSetUp α p) := by rw [pAll_nP (fun β p => nP_of (setUp_N β p))]; omega
      have ih2 := ih (p + 1)
      rw [show pAll pSetUp α (p + 1) = pSetUp (pAll pSetUp α p) p from rfl] at ih2
      generalize pAll pSetUp α p = β at hτ wβ hp ih2
      have et := hτ.tm
      have hR := (hτ.p hp).1
      have hno : (pWants β p && pDue β p) = false → pSetUp β p = β := fun hz => by unfold pSetUp; rw [hz]; rfl
      refine hm_iload_n dX4_setUpBearers_2 rfl ?_
      refine hm_aload_n dX4_setUpBearers_3 rfl ?_
      refine hm_getR lf_RX4_12 rfl rfl (by first | exact Nat.lt_of_lt_of_le (by decide) hN | assumption | (simp only [hm_n_wI, hm_n_wL, hm_n_wR, hm_n_g] at *; omega)) (hH 0) dX4_setUpBearers_4 ?_
      refine hm_getI lf_RX4_44 rfl rfl (by first | exact Nat.lt_of_lt_of_le (by decide) hN | assumption | (simp only [hm_n_wI, hm_n_wL, hm_n_wR, hm_n_g] at *; omega)) dX4_setUpBearers_7 ?_
      rw [e0]
      refine hm_icmp_ge 51 dX4_setUpBearers_10 (by decide) (fun h10 => absurd h10 (nI_ge (by omega) (by omega))) (fun _ => ?_)
      refine hm_aload_n dX4_setUpBearers_13 rfl ?_
      refine hm_getI lf_RX4_84 rfl rfl (by first | exact Nat.lt_of_lt_of_le (by decide) hN | assumption | (simp only [hm_n_wI, hm_n_wL, hm_n_wR, hm_n_g] at *; omega)) dX4_setUpBearers_14 ?_
      rw [et]
      refine hm_iload_n dX4_setUpBearers_17 rfl ?_
      refine hm_isub dX4_setUpBearers_18 ?_
      refine hm_iconst dX4_setUpBearers_19 (v := 4) (by decide) ?_
      refine hm_irem dX4_setUpBearers_20 (by decide) ?_
      refine hm_if_ne 45 dX4_setUpBearers_21 (by decide) (fun h21 => ?_) (fun h21 => ?_)
      · skip
        have hd : pDue β p = false := decide_eq_false h21
        rw [hno (by rw [hd, Bool.and_false])] at ih2
        have hτ2 := hτ
        have hf2 := hf
        refine hm_iinc dX4_setUpBearers_45 rfl _ rfl (by decide) rfl ?_
        refine hm_goto 2 dX4_setUpBearers_48 (by decide) ?_
        exact ih2 _ _ (by omega) hτ2 hf2 (hm_inc p)
      · skip
        have hd : pDue β p = true := decide_eq_true h21
        refine hm_aload_n dX4_setUpBearers_24 rfl ?_
        refine hm_aload_n dX4_setUpBearers_25 rfl ?_
        refine hm_getR lf_RX4_18 rfl rfl (by first | exact Nat.lt_of_lt_of_le (by decide) hN | assumption | (simp only [hm_n_wI, hm_n_wL, hm_n_wR, hm_n_g] at *; omega)) (hH 1) dX4_setUpBearers_26 ?_
        refine hm_iload_n dX4_setUpBearers_29 rfl ?_
        refine hm_aald _ (.ref (pA p)) rfl (by decide) (by first | exact Nat.lt_of_lt_of_le (by decide) hN | assumption | (simp only [hm_n_wI, hm_n_wL, hm_n_wR, hm_n_g] at *; omega)) rfl (by omega) (by decide) (Or.inr ⟨_, rfl, hR⟩) dX4_setUpBearers_30 ?_
        refine hm_callV lm_RX4_245 (k4_wantsBearer l hτ wβ hp) rfl rfl rfl rfl (by first | exact Nat.lt_of_lt_of_le (by decide) hN | assumption | (simp only [hm_n_wI, hm_n_wL, hm_n_wR, hm_n_g] at *; omega)) (by decide) (by decide) (Nat.le_of_ble_eq_true rfl) dX4_setUpBearers_31 ?_
        rintro _ t9 ⟨rfl, hh9⟩
        rw [hh9]
        clear hh9 t9
        refine hm_if_eq 45 dX4_setUpBearers_34 (by decide) (fun h34 => ?_) (fun h34 => ?_)
        · skip
          rw [bI_0] at h34
          rw [hno (by rw [h34, Bool.false_and])] at ih2
          have hτ2 := hτ
          have hf2 := hf
          refine hm_iinc dX4_setUpBearers_45 rfl _ rfl (by decide) rfl ?_
          refine hm_goto 2 dX4_setUpBearers_48 (by decide) ?_
          exact ih2 _ _ (by omega) hτ2 hf2 (hm_inc p)
        · skip
          rw [bI_0] at h34
          refine hm_aload_n dX4_setUpBearers_37 rfl ?_
          refine hm_getR lf_RX4_12 rfl rfl (by first | exact Nat.lt_of_lt_of_le (by decide) hN | assumption | (simp only [hm_n_wI, hm_n_wL, hm_n_wR, hm_n_g] at *; omega)) (hH 0) dX4_setUpBearers_38 ?_
          refine hm_iload_n dX4_setUpBearers_41 rfl ?_
          refine hm_callV lm_RX4_249 (k3_setUp l hτ wβ hp (b_nf h34) hd) rfl rfl rfl rfl (by first | exact Nat.lt_of_lt_of_le (by decide) hN | assumption | (simp only [hm_n_wI, hm_n_wL, hm_n_wR, hm_n_g] at *; omega)) (by decide) (by decide) (Nat.le_of_ble_eq_true rfl) dX4_setUpBearers_42 ?_
          rintro _ ρ ⟨rfl, hτ2, hf2⟩
          replace hf2 := hf.tr hf2
          refine hm_iinc dX4_setUpBearers_45 rfl _ rfl (by decide) rfl ?_
          refine hm_goto 2 dX4_setUpBearers_48 (by decide) ?_
          exact ih2 _ _ (by omega) hτ2 hf2 (hm_inc p)
  refine hm_iconst dX4_setUpBearers_0 (v := 0) (by decide) ?_
  refine hm_istore_n dX4_setUpBearers_1 (by decide) rfl ?_
  exact hl _ 0 _ _ (Nat.zero_add _) h (cs_fr.rf σ) rfl
set_option maxRecDepth 100000 in
theorem k4_dropHandedOver (h : rC α σ) (w : sW α) : hm_Ct l yX4_dropHandedOver cX4_dropHandedOver 2 none 2 0 0 [.ref 0] σ (fun r τ => r = none ∧ rC (pAllP pHand α) τ ∧ cs_fr σ τ) := by
  have h8 := w.p8
  refine hm_startQ (ini := false) [.ref 0, hm_u] (by decide) (by decide) rfl (Nat.le_of_ble_eq_true rfl) (fun Q hQ => ?_)
  have hl : ∀ (k p : Nat) (τ : hm_M) (u : Int32), p + k = nPort α → rC (pAll pHand α p) τ → cs_fr σ τ → u = nI p → hm_V l RX4 cX4_dropHandedOver 2 none false (hm_rm 2 0 0) 0 0 Q 0 0 2 [.ref 0, .int u] [] τ := by
    intro k
    induction k with
    | zero =>
      intro p τ u hk hτ hf hu
      subst hu
      have hN := hτ.N
      have hH := hτ.r.2.1
      have e0 : hm_I τ 1 1 = nI (nPort α) := hτ.np.trans (congrArg nI (pAll_nP nP_hand _ _))
      obtain rfl : p = nPort α := by omega
      refine hm_iload_n dX4_dropHandedOver_2 rfl ?_
      refine hm_aload_n dX4_dropHandedOver_3 rfl ?_
      refine hm_getR lf_RX4_12 rfl rfl (by first | exact Nat.lt_of_lt_of_le (by decide) hN | assumption | (simp only [hm_n_wI, hm_n_wL, hm_n_wR, hm_n_g] at *; omega)) (hH 0) dX4_dropHandedOver_4 ?_
      refine hm_getI lf_RX4_44 rfl rfl (by first | exact Nat.lt_of_lt_of_le (by decide) hN | assumption | (simp only [hm_n_wI, hm_n_wL, hm_n_wR, hm_n_g] at *; omega)) dX4_dropHandedOver_7 ?_
      rw [e0]
      refine hm_icmp_ge 40 dX4_dropHandedOver_10 (by decide) (fun _ => ?_) (fun h10 => absurd (nI_le (by omega) (by omega)) h10)
      refine hm_vret dX4_dropHandedOver_40 rfl (by decide) (by decide) ?_
      exact hQ _ _ ⟨rfl, hτ, hf⟩
    | succ k ih =>
      intro p τ u hk hτ hf hu
      subst hu
      have hN := hτ.N
      have hH := hτ.r.2.1
      have e0 : hm_I τ 1 1 = nI (nPort α) := hτ.np.trans (congrArg nI (pAll_nP nP_hand _ _))
      have wβ : sW (pAll pHand α p) := pAll_sW nP_hand (fun β p wb _ => wb.hand p) w p (by omega)
      have ih2 := ih (p + 1)
      rw [show pAll pHand α (p + 1) = pHand (pAll pHand α p) p from rfl] at ih2
      generalize pAll pHand α p = β at hτ wβ ih2
      unfold pHand at ih2
      refine hm_iload_n dX4_dropHandedOver_2 rfl ?_
      refine hm_aload_n dX4_dropHandedOver_3 rfl ?_
      refine hm_getR lf_RX4_12 rfl rfl (by first | exact Nat.lt_of_lt_of_le (by decide) hN | assumption | (simp only [hm_n_wI, hm_n_wL, hm_n_wR, hm_n_g] at *; omega)) (hH 0) dX4_dropHandedOver_4 ?_
      refine hm_getI lf_RX4_44 rfl rfl (by first | exact Nat.lt_of_lt_of_le (by decide) hN | assumption | (simp only [hm_n_wI, hm_n_wL, hm_n_wR, hm_n_g] at *; omega)) dX4_dropHandedOver_7 ?_
      rw [e0]
      refine hm_icmp_ge 40 dX4_dropHandedOver_10 (by decide) (fun h10 => absurd h10 (nI_ge (by omega) (by omega))) (fun _ => ?_)
      refine hm_aload_n dX4_dropHandedOver_13 rfl ?_
      refine hm_getR lf_RX4_12 rfl rfl (by first | exact Nat.lt_of_lt_of_le (by decide) hN | assumption | (simp only [hm_n_wI, hm_n_wL, hm_n_wR, hm_n_g] at *; omega)) (hH 0) dX4_dropHandedOver_14 ?_
      refine hm_iload_n dX4_dropHandedOver_17 rfl ?_
      refine hm_callV lm_RX4_256 (k3_dropFirstForSecond l hτ wβ (by omega)) rfl rfl rfl rfl (by first | exact Nat.lt_of_lt_of_le (by decide) hN | assumption | (simp only [hm_n_wI, hm_n_wL, hm_n_wR, hm_n_g] at *; omega)) (by decide) (by decide) (Nat.le_of_ble_eq_true rfl) dX4_dropHandedOver_18 ?_
      rintro _ ρ ⟨rfl, hρ, hf2⟩
      have hN := hρ.N
      have hH := hρ.r.2.1
      have e3 : hm_I ρ 0 6 = aI β 4 3 := (hρ.i 4 3 (by show 3 < 6; decide)).trans (by split <;> rfl)
      refine hm_if_eq 34 dX4_dropHandedOver_21 (by decide) (fun h21 => ?_) (fun h21 => ?_)
      · skip
        rw [bI_0] at h21
        rw [h21] at hρ ih2
        have hτ2 : rC β ρ := hρ
        have hf3 := hf.tr hf2
        refine hm_iinc dX4_dropHandedOver_34 rfl _ rfl (by decide) rfl ?_
        refine hm_goto 2 dX4_dropHandedOver_37 (by decide) ?_
        exact ih2 _ _ (by omega) hτ2 hf3 (hm_inc p)
      · skip
        rw [bI_0] at h21
        rw [b_nf h21] at hρ ih2
        have hτ3 : rC (sB β (pRmFst p (aB β))) ρ := hρ
        refine hm_aload_n dX4_dropHandedOver_24 rfl ?_
        refine hm_dup dX4_dropHandedOver_25 rfl ?_
        refine hm_getI lf_RX4_208 rfl rfl (by first | exact Nat.lt_of_lt_of_le (by decide) hN | assumption | (simp only [hm_n_wI, hm_n_wL, hm_n_wR, hm_n_g] at *; omega)) dX4_dropHandedOver_26 ?_
        rw [e3]
        refine hm_iconst dX4_dropHandedOver_29 (v := 1) (by decide) ?_
        refine hm_iadd dX4_dropHandedOver_30 ?_
        have hτ2 := hτ3.upI 4 3 (aI β 4 3 + 1) (by show 3 < 6; decide)
        have hf3 := (hf.tr hf2).wI 0 6 (aI β 4 3 + 1) (by omega)
        refine hm_putI lf_RX4_208 rfl rfl rfl (by first | exact Nat.lt_of_lt_of_le (by decide) hN | assumption | (simp only [hm_n_wI, hm_n_wL, hm_n_wR, hm_n_g] at *; omega)) dX4_dropHandedOver_31 ?_
        refine hm_iinc dX4_dropHandedOver_34 rfl _ rfl (by decide) rfl ?_
        refine hm_goto 2 dX4_dropHandedOver_37 (by decide) ?_
        exact ih2 _ _ (by omega) hτ2 hf3 (hm_inc p)
  refine hm_iconst dX4_dropHandedOver_0 (v := 0) (by decide) ?_
  refine hm_istore_n dX4_dropHandedOver_1 (by decide) rfl ?_
  exact hl _ 0 _ _ (Nat.zero_add _) h (cs_fr.rf σ) rfl
set_option maxRecDepth 100000 in
theorem k4_endCallsWithoutBearer (h : rC α σ) (w : sW α) : hm_Ct l yX4_endCallsWithoutBearer cX4_endCallsWithoutBearer 4 none 4 0 0 [.ref 0] σ (fun r τ => r = none ∧ rC (pAllP pNoB α) τ ∧ cs_fr σ τ) := by
  have h8 := w.p8
  refine hm_startQ (ini := false) [.ref 0, hm_u, hm_u, hm_u] (by decide) (by decide) rfl (Nat.le_of_ble_eq_true rfl) (fun Q hQ => ?_)
  have hl : ∀ (k p : Nat) (τ : hm_M) (u : Int32) (y1 y2 : Value), p + k = nPort α → rC (pAll pNoB α p) τ → cs_fr σ τ → u = nI p → hm_V l RX4 cX4_endCallsWithoutBearer 4 none false (hm_rm 4 0 0) 0 0 Q 0 0 2 [.ref 0, .int u, y1, y2] [] τ := by
    intro k
    induction k with
    | zero =>
      intro p τ u y1 y2 hk hτ hf hu
      subst hu
      have hN := hτ.N
      have hH := hτ.r.2.1
      have e0 : hm_I τ 1 1 = nI (nPort α) := hτ.np.trans (congrArg nI (pAll_nP nP_noB _ _))
      obtain rfl : p = nPort α := by omega
      refine hm_iload_n dX4_endCallsWithoutBearer_2 rfl ?_
      refine hm_aload_n dX4_endCallsWithoutBearer_3 rfl ?_
      refine hm_getR lf_RX4_12 rfl rfl (by first | exact Nat.lt_of_lt_of_le (by decide) hN | assumption | (simp only [hm_n_wI, hm_n_wL, hm_n_wR, hm_n_g] at *; omega)) (hH 0) dX4_endCallsWithoutBearer_4 ?_
      refine hm_getI lf_RX4_44 rfl rfl (by first | exact Nat.lt_of_lt_of_le (by decide) hN | assumption | (simp only [hm_n_wI, hm_n_wL, hm_n_wR, hm_n_g] at *; omega)) dX4_endCallsWithoutBearer_7 ?_
      rw [e0]
      refine hm_icmp_ge 75 dX4_endCallsWithoutBearer_10 (by decide) (fun _ => ?_) (fun h10 => absurd (nI_le (by omega) (by omega)) h10)
      refine hm_vret dX4_endCallsWithoutBearer_75 rfl (by decide) (by decide) ?_
      exact hQ _ _ ⟨rfl, hτ, hf⟩
    | succ k ih =>
      intro p τ u y1 y2 hk hτ hf hu
      subst hu
      have hN := hτ.N
      have hH := hτ.r.2.1
      have e0 : hm_I τ 1 1 = nI (nPort α) := hτ.np.trans (congrArg nI (pAll_nP nP_noB _ _))
      have wβ : sW (pAll pNoB α p) := pAll_sW nP_noB (fun β p wb hp => wb.noB hp) w p (by omega)
      have hp : p < nPort (pAll pNoB α p) := by rw [pAll_nP nP_noB]; omega
      have ih2 := ih (p + 1)
      rw [show pAll pNoB α (p + 1) = pNoB (pAll pNoB α p) p from rfl] at ih2
      generalize pAll pNoB α p = β at hτ wβ hp ih2
      have hR := (hτ.p hp).1
      have hn := hτ.pn hp
      have hs := S_pA0 p
      have hnb := wβ.nb p
      have e1 : hm_I τ (pA p) 4 = aI β 1 p := hτ.i 1 p hp
      have q0 : nI (pNb β p) = 0 ↔ pNb β p = 0 := nI_0' (by omega)
      have hno : ((decide (aI β 1 p ≠ 0) && (decide (aI β 1 p ≠ 1) && decide (aI β 1 p ≠ 4))) && decide (pNb β p = 0)) = false → pNoB β p = β := fun hz => by unfold pNoB; rw [hz]; rfl
      have hyes : ((decide (aI β 1 p ≠ 0) && (decide (aI β 1 p ≠ 1) && decide (aI β 1 p ≠ 4))) && decide (pNb β p = 0)) = true → pNoB β p = pEnds β p := fun hz => by unfold pNoB; rw [hz]; rfl
      have j1 : ∀ b : Bool, b = (decide (aI β 1 p ≠ 0) && (decide (aI β 1 p ≠ 1) && decide (aI β 1 p ≠ 4))) → hm_V l RX4 cX4_endCallsWithoutBearer 4 none false (hm_rm 4 0 0) 0 0 Q 0 0 48 [.ref 0, .int (nI p), .ref (pA p), y2] [.int (bI (!b))] τ := by
        intro b hb
        refine hm_istore_n dX4_endCallsWithoutBearer_48 (by decide) rfl ?_
        refine hm_iload_n dX4_endCallsWithoutBearer_49 rfl ?_
        refine hm_if_ne 69 dX4_endCallsWithoutBearer_50 (by decide) (fun h50 => ?_) (fun h50 => ?_)
        · skip
          rw [bI_0] at h50
          have hb2 : b = false := by simpa using h50
          rw [hno (by rw [← hb, hb2]; rfl)] at ih2
          have hτ2 := hτ
          have hf2 := hf
          refine hm_iinc dX4_endCallsWithoutBearer_69 rfl _ rfl (by decide) rfl ?_
          refine hm_goto 2 dX4_endCallsWithoutBearer_72 (by decide) ?_
          exact ih2 _ _ _ _ (by omega) hτ2 hf2 (hm_inc p)
        · skip
          rw [bI_0] at h50
          have hb2 : b = true := by simpa using h50
          refine hm_aload_n dX4_endCallsWithoutBearer_53 rfl ?_
          refine hm_getR lf_RX4_12 rfl rfl (by first | exact Nat.lt_of_lt_of_le (by decide) hN | assumption | (simp only [hm_n_wI, hm_n_wL, hm_n_wR, hm_n_g] at *; omega)) (hH 0) dX4_endCallsWithoutBearer_54 ?_
          refine hm_iload_n dX4_endCallsWithoutBearer_57 rfl ?_
          refine hm_callV lm_RX4_128 (k3_bearersOf l hτ wβ (by omega)) rfl rfl rfl rfl (by first | exact Nat.lt_of_lt_of_le (by decide) hN | assumption | (simp only [hm_n_wI, hm_n_wL, hm_n_wR, hm_n_g] at *; omega)) (by decide) (by decide) (Nat.le_of_ble_eq_true rfl) dX4_endCallsWithoutBearer_58 ?_
          rintro _ t9 ⟨rfl, hh9⟩
          rw [hh9]
          clear hh9 t9
          refine hm_if_ne 69 dX4_endCallsWithoutBearer_61 (by decide) (fun h61 => ?_) (fun h61 => ?_)
          · skip
            rw [q0] at h61
            rw [hno (by rw [decide_eq_false h61]; simp)] at ih2
            have hτ2 := hτ
            have hf2 := hf
            refine hm_iinc dX4_endCallsWithoutBearer_69 rfl _ rfl (by decide) rfl ?_
            refine hm_goto 2 dX4_endCallsWithoutBearer_72 (by decide) ?_
            exact ih2 _ _ _ _ (by omega) hτ2 hf2 (hm_inc p)
          · skip
            rw [q0] at h61
            rw [hyes (by rw [← hb, hb2, h61]; rfl)] at ih2
            have hs0 : aI β 1 p ≠ 0 := by rw [hb2] at hb; intro q; rw [q] at hb; simp at hb
            refine hm_aload_n dX4_endCallsWithoutBearer_64 rfl ?_
            refine hm_aload_n dX4_endCallsWithoutBearer_65 rfl ?_
            refine hm_callV lm_RX4_97 (k4_endCall l hτ wβ hp hs0) rfl rfl rfl rfl (by first | exact Nat.lt_of_lt_of_le (by decide) hN | assumption | (simp only [hm_n_wI, hm_n_wL, hm_n_wR, hm_n_g] at *; omega)) (by decide) (by decide) (Nat.le_of_ble_eq_true rfl) dX4_endCallsWithoutBearer_66 ?_
            rintro _ ρ ⟨rfl, hτ2, hf2⟩
            replace hf2 := hf.tr hf2
            refine hm_iinc dX4_endCallsWithoutBearer_69 rfl _ rfl (by decide) rfl ?_
            refine hm_goto 2 dX4_endCallsWithoutBearer_72 (by decide) ?_
            exact ih2 _ _ _ _ (by omega) hτ2 hf2 (hm_inc p)
      refine hm_iload_n dX4_endCallsWithoutBearer_2 rfl ?_
      refine hm_aload_n dX4_endCallsWithoutBearer_3 rfl ?_
      refine hm_getR lf_RX4_12 rfl rfl (by first | exact Nat.lt_of_lt_of_le (by decide) hN | assumption | (simp only [hm_n_wI, hm_n_wL, hm_n_wR, hm_n_g] at *; omega)) (hH 0) dX4_endCallsWithoutBearer_4 ?_
      refine hm_getI lf_RX4_44 rfl rfl (by first | exact Nat.lt_of_lt_of_le (by decide) hN | assumption | (simp only [hm_n_wI, hm_n_wL, hm_n_wR, hm_n_g] at *; omega)) dX4_endCallsWithoutBearer_7 ?_
      rw [e0]
      refine hm_icmp_ge 75 dX4_endCallsWithoutBearer_10 (by decide) (fun h10 => absurd h10 (nI_ge (by omega) (by omega))) (fun _ => ?_)
      refine hm_aload_n dX4_endCallsWithoutBearer_13 rfl ?_
      refine hm_getR lf_RX4_18 rfl rfl (by first | exact Nat.lt_of_lt_of_le (by decide) hN | assumption | (simp only [hm_n_wI, hm_n_wL, hm_n_wR, hm_n_g] at *; omega)) (hH 1) dX4_endCallsWithoutBearer_14 ?_
      refine hm_iload_n dX4_endCallsWithoutBearer_17 rfl ?_
      refine hm_aald _ (.ref (pA p)) rfl (by decide) (by first | exact Nat.lt_of_lt_of_le (by decide) hN | assumption | (simp only [hm_n_wI, hm_n_wL, hm_n_wR, hm_n_g] at *; omega)) rfl (by omega) (by decide) (Or.inr ⟨_, rfl, hR⟩) dX4_endCallsWithoutBearer_18 ?_
      refine hm_astore_n dX4_endCallsWithoutBearer_19 (by decide) rfl ?_
      refine hm_aload_n dX4_endCallsWithoutBearer_20 rfl ?_
      refine hm_getI lf_RX4_73 rfl hs (by omega) dX4_endCallsWithoutBearer_21 ?_
      rw [e1]
      refine hm_if_eq 43 dX4_endCallsWithoutBearer_24 (by decide) (fun h24 => ?_) (fun h24 => ?_)
      · skip
        have g : false = (decide (aI β 1 p ≠ 0) && (decide (aI β 1 p ≠ 1) && decide (aI β 1 p ≠ 4))) := by simp [h24]
        refine hm_iconst dX4_endCallsWithoutBearer_43 (v := 1) (by decide) ?_
        refine hm_goto 48 dX4_endCallsWithoutBearer_44 (by decide) ?_
        exact j1 _ g
      · skip
        refine hm_aload_n dX4_endCallsWithoutBearer_27 rfl ?_
        refine hm_getI lf_RX4_73 rfl hs (by omega) dX4_endCallsWithoutBearer_28 ?_
        rw [e1]
        refine hm_iconst dX4_endCallsWithoutBearer_31 (v := 1) (by decide) ?_
        refine hm_icmp_eq 43 dX4_endCallsWithoutBearer_32 (by decide) (fun h32 => ?_) (fun h32 => ?_)
        · skip
          have g : false = (decide (aI β 1 p ≠ 0) && (decide (aI β 1 p ≠ 1) && decide (aI β 1 p ≠ 4))) := by simp [h32]
          refine hm_iconst dX4_endCallsWithoutBearer_43 (v := 1) (by decide) ?_
          refine hm_goto 48 dX4_endCallsWithoutBearer_44 (by decide) ?_
          exact j1 _ g
        · skip
          refine hm_aload_n dX4_endCallsWithoutBearer_35 rfl ?_
          refine hm_getI lf_RX4_73 rfl hs (by omega) dX4_endCallsWithoutBearer_36 ?_
          rw [e1]
          refine hm_iconst dX4_endCallsWithoutBearer_39 (v := 4) (by decide) ?_
          refine hm_icmp_ne 47 dX4_endCallsWithoutBearer_40 (by decide) (fun h40 => ?_) (fun h40 => ?_)
          · skip
            have g : true = (decide (aI β 1 p ≠ 0) && (decide (aI β 1 p ≠ 1) && decide (aI β 1 p ≠ 4))) := by simp [h24, h32, h40]
            refine hm_iconst dX4_endCallsWithoutBearer_47 (v := 0) (by decide) ?_
            exact j1 _ g
          · skip
            have g : false = (decide (aI β 1 p ≠ 0) && (decide (aI β 1 p ≠ 1) && decide (aI β 1 p ≠ 4))) := by simp [h40]
            refine hm_iconst dX4_endCallsWithoutBearer_43 (v := 1) (by decide) ?_
            refine hm_goto 48 dX4_endCallsWithoutBearer_44 (by decide) ?_
            exact j1 _ g
  refine hm_iconst dX4_endCallsWithoutBearer_0 (v := 0) (by decide) ?_
  refine hm_istore_n dX4_endCallsWithoutBearer_1 (by decide) rfl ?_
  exact hl _ 0 _ _ _ _ (Nat.zero_add _) h (cs_fr.rf σ) rfl
set_option maxRecDepth 100000 in
theorem k4_isProven (h : rC α σ) {p : Nat} (hp : p < nPort α) (he : aI α 0 p = 1) : hm_Ct l yX4_isProven cX4_isProven 2 (some .boolean) 1 0 0 [.ref 0, .ref (pA p)] σ (fun r τ => r = some (.int (bI (pProven α p))) ∧ τ = σ) := by
  have hN := h.N
  have hn := h.pn hp
  have hs := S_pA0 p
  have e1 : hm_I σ (pA p) 3 = 1 := (h.i 0 p hp).trans he
  have e2 : hm_L σ (pA p) 1 = aL α 0 p := h.l 0 p hp
  have e3 : hm_L σ (pA p) 2 = aL α 1 p := h.l 1 p hp
  have e4 := h.tm
  refine hm_startQ (ini := false) [.ref 0, .ref (pA p)] (by decide) (by decide) rfl (Nat.le_of_ble_eq_true rfl) (fun Q hQ => ?_)
  refine hm_aload_n dX4_isProven_0 rfl ?_
  refine hm_getI lf_RX4_80 rfl hs (by omega) dX4_isProven_1 ?_
  rw [e1]
  refine hm_if_eq 39 dX4_isProven_4 (by decide) (fun h4 => absurd h4 (by decide)) (fun _ => ?_)
  refine hm_aload_n dX4_isProven_7 rfl ?_
  refine hm_getL lf_RX4_274 rfl hs (by omega) dX4_isProven_8 ?_
  rw [e2]
  refine hm_aload_n dX4_isProven_11 rfl ?_
  refine hm_getI lf_RX4_84 rfl rfl (by first | exact Nat.lt_of_lt_of_le (by decide) hN | assumption | (simp only [hm_n_wI, hm_n_wL, hm_n_wR, hm_n_g] at *; omega)) dX4_isProven_12 ?_
  rw [e4]
  refine hm_i2l dX4_isProven_15 ?_
  refine hm_callS lm_RX4_192 (k4_mixOf l _ _ _) rfl rfl (by decide) (by decide) (Nat.le_of_ble_eq_true rfl) dX4_isProven_16 ?_
  rintro _ t9 ⟨rfl, hh9⟩
  rw [hh9]
  clear hh9 t9
  refine hm_aload_n dX4_isProven_19 rfl ?_
  refine hm_getL lf_RX4_76 rfl hs (by omega) dX4_isProven_20 ?_
  rw [e3]
  refine hm_aload_n dX4_isProven_23 rfl ?_
  refine hm_getI lf_RX4_84 rfl rfl (by first | exact Nat.lt_of_lt_of_le (by decide) hN | assumption | (simp only [hm_n_wI, hm_n_wL, hm_n_wR, hm_n_g] at *; omega)) dX4_isProven_24 ?_
  rw [e4]
  refine hm_i2l dX4_isProven_27 ?_
  refine hm_callS lm_RX4_192 (k4_mixOf l _ _ _) rfl rfl (by decide) (by decide) (Nat.le_of_ble_eq_true rfl) dX4_isProven_28 ?_
  rintro _ t9 ⟨rfl, hh9⟩
  rw [hh9]
  clear hh9 t9
  refine hm_lcmp dX4_isProven_31 ?_
  refine hm_if_ne 39 dX4_isProven_32 (by decide) (fun h32 => ?_) (fun h32 => ?_)
  · skip
    rw [cmp_0] at h32
    have g : (0 : Int32) = bI (pProven α p) := by unfold pProven; rw [decide_eq_false h32]; rfl
    refine hm_iconst dX4_isProven_39 (v := 0) (by decide) ?_
    refine hm_zret dX4_isProven_40 rfl (by decide) (by decide) (by first | exact Or.inl rfl | exact Or.inr rfl | assumption) ?_
    exact hQ _ _ ⟨congrArg (fun z => some (Value.int z)) g, rfl⟩
  · skip
    rw [cmp_0] at h32
    have g : (1 : Int32) = bI (pProven α p) := by unfold pProven; rw [decide_eq_true h32]; rfl
    refine hm_iconst dX4_isProven_35 (v := 1) (by decide) ?_
    refine hm_goto 40 dX4_isProven_36 (by decide) ?_
    refine hm_zret dX4_isProven_40 rfl (by decide) (by decide) (by first | exact Or.inl rfl | exact Or.inr rfl | assumption) ?_
    exact hQ _ _ ⟨congrArg (fun z => some (Value.int z)) g, rfl⟩
set_option maxRecDepth 100000 in
theorem k4_startRinging (h : rC α σ) {p : Nat} (hp : p < nPort α) : hm_Ct l yX4_startRinging cX4_startRinging 1 (some .boolean) 0 0 0 [.ref (pA p)] σ (fun r τ => r = some (.int 1) ∧ rC (sI α 1 p 6) τ ∧ cs_fr σ τ) := by
  have hn := h.pn hp
  have hg := pA_ge p
  have hs := S_pA0 p
  refine hm_startQ (ini := false) [.ref (pA p)] (by decide) (by decide) rfl (Nat.le_of_ble_eq_true rfl) (fun Q hQ => ?_)
  refine hm_aload_n dX4_startRinging_0 rfl ?_
  refine hm_bipush dX4_startRinging_1 (v := 6) (by decide) ?_
  refine hm_putI lf_RX4_73 rfl rfl hs (by omega) dX4_startRinging_3 ?_
  refine hm_iconst dX4_startRinging_6 (v := 1) (by decide) ?_
  refine hm_zret dX4_startRinging_7 rfl (by decide) (by decide) (by first | exact Or.inl rfl | exact Or.inr rfl | assumption) ?_
  exact hQ _ _ ⟨rfl, h.upI 1 p 6 hp, (cs_fr.rf σ).wI _ _ _ (by omega)⟩
set_option maxRecDepth 100000 in
theorem k4_pagePartner (h : rC α σ) (w : sW α) {p : Nat} (hp : p < nPort α) (hst : aI α 1 p ≠ 0) : hm_Ct l yX4_pagePartner cX4_pagePartner 3 (some .boolean) 2 0 0 [.ref 0, .ref (pA p)] σ (fun r τ => r = some (.int (bI (pPgo α p))) ∧ rC (if pPgo α p then pPgd α p else α) τ ∧ cs_fr σ τ) := by
  have hN := h.N
  have hH := h.r.2.1
  have hn := h.pn hp
  have hg := pA_ge p
  have hs := S_pA0 p
  obtain ⟨hq, hne, hpar, -, -⟩ := w.par hp hst
  have hnq := h.pn hq
  have hsq := S_pA0 (pPar α p)
  have e5 : hm_I σ (pA p) 5 = nI (pPar α p) := (h.i 2 p hp).trans hpar
  have e1 : hm_I σ (pA (pPar α p)) 4 = aI α 1 (pPar α p) := h.i 1 _ hq
  have e2 : hm_I σ (pA (pPar α p)) 3 = aI α 0 (pPar α p) := h.i 0 _ hq
  have h3 := h.upI 1 p 3 hp
  have e0 : hm_I (hm_wI σ (pA p) 4 3) (pA p) 0 = nI p := (h3.p (show p < nPort α from hp)).2.2.1
  have et : hm_I (hm_wI σ (pA p) 4 3) 0 3 = nI (aN α 6 0) := h3.tm
  refine hm_startQ (ini := false) [.ref 0, .ref (pA p), hm_u] (by decide) (by decide) rfl (Nat.le_of_ble_eq_true rfl) (fun Q hQ => ?_)
  refine hm_aload_n dX4_pagePartner_0 rfl ?_
  refine hm_aload_n dX4_pagePartner_1 rfl ?_
  refine hm_getI lf_RX4_91 rfl hs (by show pA p < hm_n σ; omega) dX4_pagePartner_2 ?_
  rw [e5]
  refine hm_callV lm_RX4_69 (k4_find l h w hq) rfl rfl rfl rfl (by first | exact Nat.lt_of_lt_of_le (by decide) hN | assumption | (simp only [hm_n_wI, hm_n_wL, hm_n_wR, hm_n_g] at *; omega)) (by decide) (by decide) (Nat.le_of_ble_eq_true rfl) dX4_pagePartner_5 ?_
  rintro _ t9 ⟨rfl, hh9⟩
  rw [hh9]
  clear hh9 t9
  refine hm_astore_n dX4_pagePartner_8 (by decide) rfl ?_
  refine hm_aload_n dX4_pagePartner_9 rfl ?_
  refine hm_ifnull dX4_pagePartner_10 ?_
  refine hm_aload_n dX4_pagePartner_13 rfl ?_
  refine hm_getI lf_RX4_73 rfl hsq (by show pA (pPar α p) < hm_n σ; omega) dX4_pagePartner_14 ?_
  rw [e1]
  refine hm_if_ne 27 dX4_pagePartner_17 (by decide) (fun h17 => ?_) (fun h17 => ?_)
  · skip
    have g : pPgo α p = false := by unfold pPgo; rw [decide_eq_false h17]; rfl
    refine hm_iconst dX4_pagePartner_27 (v := 0) (by decide) ?_
    refine hm_zret dX4_pagePartner_28 rfl (by decide) (by decide) (by first | exact Or.inl rfl | exact Or.inr rfl | assumption) ?_
    rw [g] at hQ
    exact hQ _ _ ⟨rfl, h, cs_fr.rf σ⟩
  · skip
    refine hm_aload_n dX4_pagePartner_20 rfl ?_
    refine hm_getI lf_RX4_80 rfl hsq (by show pA (pPar α p) < hm_n σ; omega) dX4_pagePartner_21 ?_
    rw [e2]
    refine hm_if_ne 29 dX4_pagePartner_24 (by decide) (fun h24 => ?_) (fun h24 => ?_)
    · skip
      have g : pPgo α p = true := by unfold pPgo; rw [decide_eq_true h17, decide_eq_true h24]; rfl
      refine hm_aload_n dX4_pagePartner_29 rfl ?_
      refine hm_iconst dX4_pagePartner_30 (v := 3) (by decide) ?_
      refine hm_putI lf_RX4_73 rfl rfl hs (by show pA p < hm_n σ; omega) dX4_pagePartner_31 ?_
      refine hm_aload_n dX4_pagePartner_34 rfl ?_
      refine hm_iconst dX4_pagePartner_35 (v := 4) (by decide) ?_
      refine hm_aload_n dX4_pagePartner_36 rfl ?_
      refine hm_getI lf_RX4_253 rfl hs (by show pA p < hm_n σ; omega) dX4_pagePartner_37 ?_
      rw [e0]
      refine hm_aload_n dX4_pagePartner_40 rfl ?_
      refine hm_getI lf_RX4_84 rfl rfl (by first | exact Nat.lt_of_lt_of_le (by decide) hN | assumption | (simp only [hm_n_wI, hm_n_wL, hm_n_wR, hm_n_g] at *; omega)) dX4_pagePartner_41 ?_
      rw [et]
      refine hm_callV lm_RX4_87 (k2_begin l h3 (show pPar α p < nPort α from hq) 4 (nI p) (nI (aN α 6 0))) rfl rfl hsq rfl (by show pA (pPar α p) < hm_n σ; omega) (by decide) (by decide) (Nat.le_of_ble_eq_true rfl) dX4_pagePartner_44 ?_
      rintro _ τ ⟨rfl, hτ, hf⟩
      refine hm_iconst dX4_pagePartner_47 (v := 1) (by decide) ?_
      refine hm_zret dX4_pagePartner_48 rfl (by decide) (by decide) (by first | exact Or.inl rfl | exact Or.inr rfl | assumption) ?_
      rw [g] at hQ
      exact hQ _ _ ⟨rfl, hτ, ((cs_fr.rf σ).wI (pA p) 4 3 (by omega)).tr hf⟩
    · skip
      have g : pPgo α p = false := by unfold pPgo; rw [h24]; simp
      refine hm_iconst dX4_pagePartner_27 (v := 0) (by decide) ?_
      refine hm_zret dX4_pagePartner_28 rfl (by decide) (by decide) (by first | exact Or.inl rfl | exact Or.inr rfl | assumption) ?_
      rw [g] at hQ
      exact hQ _ _ ⟨rfl, h, cs_fr.rf σ⟩
set_option maxRecDepth 100000 in
theorem k4_advance (h : rC α σ) (w : sW α) {p : Nat} (hp : p < nPort α) : hm_Ct l yX4_advance cX4_advance 2 (some .boolean) 3 0 0 [.ref 0, .ref (pA p)] σ (fun r τ => r = some (.int (bI (pAdv α p).1)) ∧ rC (pAdv α p).2 τ ∧ cs_fr σ τ) := by
  have hN := h.N
  have hn := h.pn hp
  have hg := pA_ge p
  have hs := S_pA0 p
  have e1 : hm_I σ (pA p) 4 = aI α 1 p := h.i 1 p hp
  refine hm_startQ (ini := false) [.ref 0, .ref (pA p)] (by decide) (by decide) rfl (Nat.le_of_ble_eq_true rfl) (fun Q hQ => ?_)
  unfold pAdv at hQ
  have hen : ∀ x : Int32, aI α 1 p = x → x ≠ 0 → aI α 0 p = 1 := fun x hx h0 => (w.par hp (by rw [hx]; exact h0)).2.2.2.1
  generalize hst : aI α 1 p = s at e1 hQ
  have hen := hen s hst
  refine hm_aload_n dX4_advance_0 rfl ?_
  refine hm_getI lf_RX4_73 rfl hs (by omega) dX4_advance_1 ?_
  rw [e1]
  rcases sw_cases s 1 5 with hsw | ⟨kk, hk1, hk2, hsw⟩
  · skip
    refine hm_tableOut 97 dX4_advance_4 hsw (by decide) ?_
    have ne : ∀ k, 1 ≤ k → k ≤ 5 → ¬ s = nI k := fun k hk1 hk => sw_ne (lo := 1) hsw (by decide) hk1 hk
    rw [if_neg (show ¬ s = 1 from ne 1 (by decide) (by decide)), if_neg (show ¬ s = 4 from ne 4 (by decide) (by decide)), if_neg (show ¬ s = 2 from ne 2 (by decide) (by decide)), if_neg (show ¬ s = 5 from ne 5 (by decide) (by decide))] at hQ
    refine hm_iconst dX4_advance_97 (v := 1) (by decide) ?_
    refine hm_zret dX4_advance_98 rfl (by decide) (by decide) (by first | exact Or.inl rfl | exact Or.inr rfl | assumption) ?_
    exact hQ _ _ ⟨rfl, h, cs_fr.rf σ⟩
  · skip
    rcases (show kk = 1 ∨ kk = 2 ∨ kk = 3 ∨ kk = 4 ∨ kk = 5 by omega) with rfl | rfl | rfl | rfl | rfl
    · subst hsw
      refine hm_tableIn 40 dX4_advance_4 (by decide) (by decide) (by rfl) (by decide) ?_
      rw [if_pos (show nI 1 = 1 from rfl)] at hQ
      refine hm_aload_n dX4_advance_40 rfl ?_
      refine hm_iconst dX4_advance_41 (v := 2) (by decide) ?_
      refine hm_putI lf_RX4_73 rfl rfl hs (by omega) dX4_advance_42 ?_
      refine hm_iconst dX4_advance_45 (v := 1) (by decide) ?_
      refine hm_zret dX4_advance_46 rfl (by decide) (by decide) (by first | exact Or.inl rfl | exact Or.inr rfl | assumption) ?_
      exact hQ _ _ ⟨rfl, h.upI 1 p 2 hp, (cs_fr.rf σ).wI _ _ _ (by omega)⟩
    · subst hsw
      refine hm_tableIn 54 dX4_advance_4 (by decide) (by decide) (by rfl) (by decide) ?_
      rw [if_neg (show ¬ nI 2 = 1 by decide), if_neg (show ¬ nI 2 = 4 by decide), if_pos (show nI 2 = 2 from rfl)] at hQ
      refine hm_aload_n dX4_advance_54 rfl ?_
      refine hm_aload_n dX4_advance_55 rfl ?_
      refine hm_callV lm_RX4_265 (k4_isProven l h hp (hen (by decide))) rfl rfl rfl rfl (by first | exact Nat.lt_of_lt_of_le (by decide) hN | assumption | (simp only [hm_n_wI, hm_n_wL, hm_n_wR, hm_n_g] at *; omega)) (by decide) (by decide) (Nat.le_of_ble_eq_true rfl) dX4_advance_56 ?_
      rintro _ t9 ⟨rfl, hh9⟩
      rw [hh9]
      clear hh9 t9
      refine hm_if_eq 74 dX4_advance_59 (by decide) (fun h59 => ?_) (fun h59 => ?_)
      · skip
        rw [bI_0] at h59
        rw [h59] at hQ
        have hτ : rC α σ := h
        have hf := cs_fr.rf σ
        refine hm_iconst dX4_advance_74 (v := 0) (by decide) ?_
        refine hm_zret dX4_advance_75 rfl (by decide) (by decide) (by first | exact Or.inl rfl | exact Or.inr rfl | assumption) ?_
        exact hQ _ _ ⟨rfl, hτ, hf⟩
      · skip
        rw [bI_0] at h59
        rw [b_nf h59, Bool.true_and] at hQ
        refine hm_aload_n dX4_advance_62 rfl ?_
        refine hm_aload_n dX4_advance_63 rfl ?_
        refine hm_callV lm_RX4_268 (k4_pagePartner l h w hp (by rw [hst]; decide)) rfl rfl rfl rfl (by first | exact Nat.lt_of_lt_of_le (by decide) hN | assumption | (simp only [hm_n_wI, hm_n_wL, hm_n_wR, hm_n_g] at *; omega)) (by decide) (by decide) (Nat.le_of_ble_eq_true rfl) dX4_advance_64 ?_
        rintro _ τ ⟨rfl, hτ, hf⟩
        have hN := hτ.N
        refine hm_if_eq 74 dX4_advance_67 (by decide) (fun h67 => ?_) (fun h67 => ?_)
        · skip
          rw [bI_0] at h67
          rw [h67] at hQ hτ
          refine hm_iconst dX4_advance_74 (v := 0) (by decide) ?_
          refine hm_zret dX4_advance_75 rfl (by decide) (by decide) (by first | exact Or.inl rfl | exact Or.inr rfl | assumption) ?_
          exact hQ _ _ ⟨rfl, hτ, hf⟩
        · skip
          rw [bI_0] at h67
          rw [b_nf h67] at hQ hτ
          refine hm_iconst dX4_advance_70 (v := 1) (by decide) ?_
          refine hm_goto 75 dX4_advance_71 (by decide) ?_
          refine hm_zret dX4_advance_75 rfl (by decide) (by decide) (by first | exact Or.inl rfl | exact Or.inr rfl | assumption) ?_
          exact hQ _ _ ⟨rfl, hτ, hf⟩
    · subst hsw
      refine hm_tableIn 97 dX4_advance_4 (by decide) (by decide) (by rfl) (by decide) ?_
      rw [if_neg (show ¬ nI 3 = 1 by decide), if_neg (show ¬ nI 3 = 4 by decide), if_neg (show ¬ nI 3 = 2 by decide), if_neg (show ¬ nI 3 = 5 by decide)] at hQ
      refine hm_iconst dX4_advance_97 (v := 1) (by decide) ?_
      refine hm_zret dX4_advance_98 rfl (by decide) (by decide) (by first | exact Or.inl rfl | exact Or.inr rfl | assumption) ?_
      exact hQ _ _ ⟨rfl, h, cs_fr.rf σ⟩
    · subst hsw
      refine hm_tableIn 47 dX4_advance_4 (by decide) (by decide) (by rfl) (by decide) ?_
      rw [if_neg (show ¬ nI 4 = 1 by decide), if_pos (show nI 4 = 4 from rfl)] at hQ
      refine hm_aload_n dX4_advance_47 rfl ?_
      refine hm_iconst dX4_advance_48 (v := 5) (by decide) ?_
      refine hm_putI lf_RX4_73 rfl rfl hs (by omega) dX4_advance_49 ?_
      refine hm_iconst dX4_advance_52 (v := 1) (by decide) ?_
      refine hm_zret dX4_advance_53 rfl (by decide) (by decide) (by first | exact Or.inl rfl | exact Or.inr rfl | assumption) ?_
      exact hQ _ _ ⟨rfl, h.upI 1 p 5 hp, (cs_fr.rf σ).wI _ _ _ (by omega)⟩
    · subst hsw
      refine hm_tableIn 76 dX4_advance_4 (by decide) (by decide) (by rfl) (by decide) ?_
      rw [if_neg (show ¬ nI 5 = 1 by decide), if_neg (show ¬ nI 5 = 4 by decide), if_neg (show ¬ nI 5 = 2 by decide), if_pos (show nI 5 = 5 from rfl)] at hQ
      refine hm_aload_n dX4_advance_76 rfl ?_
      refine hm_aload_n dX4_advance_77 rfl ?_
      refine hm_callV lm_RX4_265 (k4_isProven l h hp (hen (by decide))) rfl rfl rfl rfl (by first | exact Nat.lt_of_lt_of_le (by decide) hN | assumption | (simp only [hm_n_wI, hm_n_wL, hm_n_wR, hm_n_g] at *; omega)) (by decide) (by decide) (Nat.le_of_ble_eq_true rfl) dX4_advance_78 ?_
      rintro _ t9 ⟨rfl, hh9⟩
      rw [hh9]
      clear hh9 t9
      refine hm_if_eq 95 dX4_advance_81 (by decide) (fun h81 => ?_) (fun h81 => ?_)
      · skip
        rw [bI_0] at h81
        rw [h81] at hQ
        have hτ : rC α σ := h
        have hf := cs_fr.rf σ
        refine hm_iconst dX4_advance_95 (v := 0) (by decide) ?_
        refine hm_zret dX4_advance_96 rfl (by decide) (by decide) (by first | exact Or.inl rfl | exact Or.inr rfl | assumption) ?_
        exact hQ _ _ ⟨rfl, hτ, hf⟩
      · skip
        rw [bI_0] at h81
        rw [b_nf h81] at hQ
        refine hm_aload_n dX4_advance_84 rfl ?_
        refine hm_callS lm_RX4_271 (k4_startRinging l h hp) rfl rfl (by decide) (by decide) (Nat.le_of_ble_eq_true rfl) dX4_advance_85 ?_
        rintro _ τ ⟨rfl, hτ, hf⟩
        have hN := hτ.N
        refine hm_if_eq 95 dX4_advance_88 (by decide) (fun h88 => absurd h88 (by decide)) (fun _ => ?_)
        refine hm_iconst dX4_advance_91 (v := 1) (by decide) ?_
        refine hm_goto 96 dX4_advance_92 (by decide) ?_
        refine hm_zret dX4_advance_96 rfl (by decide) (by decide) (by first | exact Or.inl rfl | exact Or.inr rfl | assumption) ?_
        exact hQ _ _ ⟨rfl, hτ, hf⟩
set_option maxRecDepth 100000 in
theorem k4_advanceCalls (h : rC α σ) (w : sW α) : hm_Ct l yX4_advanceCalls cX4_advanceCalls 2 none 4 0 0 [.ref 0] σ (fun r τ => r = none ∧ rC (pAllP pCall α) τ ∧ cs_fr σ τ) := by
  have h8 := w.p8
  refine hm_startQ (ini := false) [.ref 0, hm_u] (by decide) (by decide) rfl (Nat.le_of_ble_eq_true rfl) (fun Q hQ => ?_)
  have hl : ∀ (k p : Nat) (τ : hm_M) (u : Int32), p + k = nPort α → rC (pAll pCall α p) τ → cs_fr σ τ → u = nI p → hm_V l RX4 cX4_advanceCalls 2 none false (hm_rm 4 0 0) 0 0 Q 0 0 2 [.ref 0, .int u] [] τ := by
    intro k
    induction k with
    | zero =>
      intro p τ u hk hτ hf hu
      subst hu
      have hN := hτ.N
      have hH := hτ.r.2.1
      have e0 : hm_I τ 1 1 = nI (nPort α) := hτ.np.trans (congrArg nI (pAll_nP (fun β p => nP_of (call_N β p)) _ _))
      obtain rfl : p = nPort α := by omega
      refine hm_iload_n dX4_advanceCalls_2 rfl ?_
      refine hm_aload_n dX4_advanceCalls_3 rfl ?_
      refine hm_getR lf_RX4_12 rfl rfl (by first | exact Nat.lt_of_lt_of_le (by decide) hN | assumption | (simp only [hm_n_wI, hm_n_wL, hm_n_wR, hm_n_g] at *; omega)) (hH 0) dX4_advanceCalls_4 ?_
      refine hm_getI lf_RX4_44 rfl rfl (by first | exact Nat.lt_of_lt_of_le (by decide) hN | assumption | (simp only [hm_n_wI, hm_n_wL, hm_n_wR, hm_n_g] at *; omega)) dX4_advanceCalls_7 ?_
      rw [e0]
      refine hm_icmp_ge 53 dX4_advanceCalls_10 (by decide) (fun _ => ?_) (fun h10 => absurd (nI_le (by omega) (by omega)) h10)
      refine hm_vret dX4_advanceCalls_53 rfl (by decide) (by decide) ?_
      exact hQ _ _ ⟨rfl, hτ, hf⟩
    | succ k ih =>
      intro p τ u hk hτ hf hu
      subst hu
      have hN := hτ.N
      have hH := hτ.r.2.1
      have e0 : hm_I τ 1 1 = nI (nPort α) := hτ.np.trans (congrArg nI (pAll_nP (fun β p => nP_of (call_N β p)) _ _))
      have wβ : sW (pAll pCall α p) := pAll_sW (fun β p => nP_of (call_N β p)) (fun β p wb hp => wb.call hp) w p (by omega)
      have hp : p < nPort (pAll pCall α p) := by rw [pAll_nP (fun β p => nP_of (call_N β p))]; omega
      have ih2 := ih (p + 1)
      rw [show pAll pCall α (p + 1) = pCall (pAll pCall α p) p from rfl] at ih2
      generalize pAll pCall α p = β at hτ wβ hp ih2
      have hR := (hτ.p hp).1
      refine hm_iload_n dX4_advanceCalls_2 rfl ?_
      refine hm_aload_n dX4_advanceCalls_3 rfl ?_
      refine hm_getR lf_RX4_12 rfl rfl (by first | exact Nat.lt_of_lt_of_le (by decide) hN | assumption | (simp only [hm_n_wI, hm_n_wL, hm_n_wR, hm_n_g] at *; omega)) (hH 0) dX4_advanceCalls_4 ?_
      refine hm_getI lf_RX4_44 rfl rfl (by first | exact Nat.lt_of_lt_of_le (by decide) hN | assumption | (simp only [hm_n_wI, hm_n_wL, hm_n_wR, hm_n_g] at *; omega)) dX4_advanceCalls_7 ?_
      rw [e0]
      refine hm_icmp_ge 53 dX4_advanceCalls_10 (by decide) (fun h10 => absurd h10 (nI_ge (by omega) (by omega))) (fun _ => ?_)
      refine hm_aload_n dX4_advanceCalls_13 rfl ?_
      refine hm_getR lf_RX4_12 rfl rfl (by first | exact Nat.lt_of_lt_of_le (by decide) hN | assumption | (simp only [hm_n_wI, hm_n_wL, hm_n_wR, hm_n_g] at *; omega)) (hH 0) dX4_advanceCalls_14 ?_
      refine hm_iload_n dX4_advanceCalls_17 rfl ?_
      refine hm_callV lm_RX4_259 (k3_hasGoodBearer l hτ wβ (by omega)) rfl rfl rfl rfl (by first | exact Nat.lt_of_lt_of_le (by decide) hN | assumption | (simp only [hm_n_wI, hm_n_wL, hm_n_wR, hm_n_g] at *; omega)) (by decide) (by decide) (Nat.le_of_ble_eq_true rfl) dX4_advanceCalls_18 ?_
      rintro _ t9 ⟨rfl, hh9⟩
      rw [hh9]
      clear hh9 t9
      refine hm_if_eq 47 dX4_advanceCalls_21 (by decide) (fun h21 => ?_) (fun h21 => ?_)
      · skip
        rw [bI_0] at h21
        rw [show pCall β p = β by unfold pCall; rw [h21]; rfl] at ih2
        have hτ2 := hτ
        have hf2 := hf
        refine hm_iinc dX4_advanceCalls_47 rfl _ rfl (by decide) rfl ?_
        refine hm_goto 2 dX4_advanceCalls_50 (by decide) ?_
        exact ih2 _ _ (by omega) hτ2 hf2 (hm_inc p)
      · skip
        rw [bI_0] at h21
        rw [adv_call wβ hp (b_nf h21)] at ih2
        refine hm_aload_n dX4_advanceCalls_24 rfl ?_
        refine hm_aload_n dX4_advanceCalls_25 rfl ?_
        refine hm_getR lf_RX4_18 rfl rfl (by first | exact Nat.lt_of_lt_of_le (by decide) hN | assumption | (simp only [hm_n_wI, hm_n_wL, hm_n_wR, hm_n_g] at *; omega)) (hH 1) dX4_advanceCalls_26 ?_
        refine hm_iload_n dX4_advanceCalls_29 rfl ?_
        refine hm_aald _ (.ref (pA p)) rfl (by decide) (by first | exact Nat.lt_of_lt_of_le (by decide) hN | assumption | (simp only [hm_n_wI, hm_n_wL, hm_n_wR, hm_n_g] at *; omega)) rfl (by omega) (by decide) (Or.inr ⟨_, rfl, hR⟩) dX4_advanceCalls_30 ?_
        refine hm_callV lm_RX4_262 (k4_advance l hτ wβ hp) rfl rfl rfl rfl (by first | exact Nat.lt_of_lt_of_le (by decide) hN | assumption | (simp only [hm_n_wI, hm_n_wL, hm_n_wR, hm_n_g] at *; omega)) (by decide) (by decide) (Nat.le_of_ble_eq_true rfl) dX4_advanceCalls_31 ?_
        rintro _ ρ ⟨rfl, hρ, hf2⟩
        replace hf2 := hf.tr hf2
        have hN := hρ.N
        have hH := hρ.r.2.1
        refine hm_if_ne 47 dX4_advanceCalls_34 (by decide) (fun h34 => ?_) (fun h34 => ?_)
        · skip
          rw [bI_0] at h34
          rw [b_nf h34] at ih2
          have hτ2 := hρ
          refine hm_iinc dX4_advanceCalls_47 rfl _ rfl (by decide) rfl ?_
          refine hm_goto 2 dX4_advanceCalls_50 (by decide) ?_
          exact ih2 _ _ (by omega) hτ2 hf2 (hm_inc p)
        · skip
          rw [bI_0] at h34
          rw [h34] at ih2
          obtain ⟨g1, g2⟩ := adv_f h34
          rw [g1] at hρ
          have hR2 := (hρ.p hp).1
          refine hm_aload_n dX4_advanceCalls_37 rfl ?_
          refine hm_aload_n dX4_advanceCalls_38 rfl ?_
          refine hm_getR lf_RX4_18 rfl rfl (by first | exact Nat.lt_of_lt_of_le (by decide) hN | assumption | (simp only [hm_n_wI, hm_n_wL, hm_n_wR, hm_n_g] at *; omega)) (hH 1) dX4_advanceCalls_39 ?_
          refine hm_iload_n dX4_advanceCalls_42 rfl ?_
          refine hm_aald _ (.ref (pA p)) rfl (by decide) (by first | exact Nat.lt_of_lt_of_le (by decide) hN | assumption | (simp only [hm_n_wI, hm_n_wL, hm_n_wR, hm_n_g] at *; omega)) rfl (by omega) (by decide) (Or.inr ⟨_, rfl, hR2⟩) dX4_advanceCalls_43 ?_
          refine hm_callV lm_RX4_97 (k4_endCall l hρ wβ hp g2) rfl rfl rfl rfl (by first | exact Nat.lt_of_lt_of_le (by decide) hN | assumption | (simp only [hm_n_wI, hm_n_wL, hm_n_wR, hm_n_g] at *; omega)) (by decide) (by decide) (Nat.le_of_ble_eq_true rfl) dX4_advanceCalls_44 ?_
          rintro _ μ ⟨rfl, hτ2, hf3⟩
          replace hf2 := hf2.tr hf3
          refine hm_iinc dX4_advanceCalls_47 rfl _ rfl (by decide) rfl ?_
          refine hm_goto 2 dX4_advanceCalls_50 (by decide) ?_
          exact ih2 _ _ (by omega) hτ2 hf2 (hm_inc p)
  refine hm_iconst dX4_advanceCalls_0 (v := 0) (by decide) ?_
  refine hm_istore_n dX4_advanceCalls_1 (by decide) rfl ?_
  exact hl _ 0 _ _ (Nat.zero_add _) h (cs_fr.rf σ) rfl
end C8
