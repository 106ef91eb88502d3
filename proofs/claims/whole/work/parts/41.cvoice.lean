/-! the class: voice, and the whole frame -/
theorem dn_n {t : Nat} (h : t ≤ 100000) : (nI t + 1000000).toInt64 = (nI t).toInt64 + 1000000 := by
  rw [show (1000000 : Int32) = nI 1000000 from rfl, nI_add]
  apply Int64.toInt_inj.mp
  rw [Int64.toInt_add, Int32.toInt_toInt64, Int32.toInt_toInt64, nI_toInt (by omega), nI_toInt (by omega)]
  rw [show (1000000 : Int64).toInt = 1000000 by decide]
  rw [Int.bmod_eq_of_le (by omega) (by omega)]
  omega
section C9
variable (l : Launch) {α : sA} {σ : hm_M}
set_option maxRecDepth 100000 in
theorem k4_canTalk (h : rC α σ) (w : sW α) {p : Nat} (hp : p < nPort α) : hm_Ct l yX4_canTalk cX4_canTalk 2 (some .boolean) 1 0 0 [.ref 0, .ref (pA p)] σ (fun r τ => r = some (.int (bI (decide (aI α 1 p = 7) && pGood α p))) ∧ τ = σ) := by
  have hN := h.N
  have hH := h.r.2.1
  have hn := h.pn hp
  have hs := S_pA0 p
  have h8 := w.p8
  have e0 : hm_I σ (pA p) 0 = nI p := (h.p hp).2.2.1
  have e1 : hm_I σ (pA p) 4 = aI α 1 p := h.i 1 p hp
  refine hm_startQ (ini := false) [.ref 0, .ref (pA p)] (by decide) (by decide) rfl (Nat.le_of_ble_eq_true rfl) (fun Q hQ => ?_)
  refine hm_aload_n dX4_canTalk_0 rfl ?_
  refine hm_getI lf_RX4_73 rfl hs (by omega) dX4_canTalk_1 ?_
  rw [e1]
  refine hm_bipush dX4_canTalk_4 (v := 7) (by decide) ?_
  refine hm_icmp_ne 27 dX4_canTalk_6 (by decide) (fun h6 => ?_) (fun h6 => ?_)
  · skip
    have g : (0 : Int32) = bI (decide (aI α 1 p = 7) && pGood α p) := by rw [decide_eq_false h6]; rfl
    refine hm_iconst dX4_canTalk_27 (v := 0) (by decide) ?_
    refine hm_zret dX4_canTalk_28 rfl (by decide) (by decide) (by first | exact Or.inl rfl | exact Or.inr rfl | assumption) ?_
    exact hQ _ _ ⟨congrArg (fun z => some (Value.int z)) g, rfl⟩
  · skip
    refine hm_aload_n dX4_canTalk_9 rfl ?_
    refine hm_getR lf_RX4_12 rfl rfl (by first | exact Nat.lt_of_lt_of_le (by decide) hN | assumption | (simp only [hm_n_wI, hm_n_wL, hm_n_wR, hm_n_g] at *; omega)) (hH 0) dX4_canTalk_10 ?_
    refine hm_aload_n dX4_canTalk_13 rfl ?_
    refine hm_getI lf_RX4_253 rfl hs (by omega) dX4_canTalk_14 ?_
    rw [e0]
    refine hm_callV lm_RX4_259 (k3_hasGoodBearer l h w (by omega)) rfl rfl rfl rfl (by first | exact Nat.lt_of_lt_of_le (by decide) hN | assumption | (simp only [hm_n_wI, hm_n_wL, hm_n_wR, hm_n_g] at *; omega)) (by decide) (by decide) (Nat.le_of_ble_eq_true rfl) dX4_canTalk_17 ?_
    rintro _ t9 ⟨rfl, hh9⟩
    rw [hh9]
    clear hh9 t9
    refine hm_if_eq 27 dX4_canTalk_20 (by decide) (fun h20 => ?_) (fun h20 => ?_)
    · skip
      rw [bI_0] at h20
      have g : (0 : Int32) = bI (decide (aI α 1 p = 7) && pGood α p) := by rw [h20, Bool.and_false]; rfl
      refine hm_iconst dX4_canTalk_27 (v := 0) (by decide) ?_
      refine hm_zret dX4_canTalk_28 rfl (by decide) (by decide) (by first | exact Or.inl rfl | exact Or.inr rfl | assumption) ?_
      exact hQ _ _ ⟨congrArg (fun z => some (Value.int z)) g, rfl⟩
    · skip
      rw [bI_0] at h20
      have g : (1 : Int32) = bI (decide (aI α 1 p = 7) && pGood α p) := by rw [b_nf h20, decide_eq_true h6]; rfl
      refine hm_iconst dX4_canTalk_23 (v := 1) (by decide) ?_
      refine hm_goto 28 dX4_canTalk_24 (by decide) ?_
      refine hm_zret dX4_canTalk_28 rfl (by decide) (by decide) (by first | exact Or.inl rfl | exact Or.inr rfl | assumption) ?_
      exact hQ _ _ ⟨congrArg (fun z => some (Value.int z)) g, rfl⟩
set_option maxRecDepth 100000 in
theorem k4_sendUp (h : rC α σ) (w : sW α) {p : Nat} (hp : p < nPort α) (hc : (decide (aI α 1 p = 7) && pGood α p) = true) : hm_Ct l yX4_sendUp cX4_sendUp 3 none 2 0 0 [.ref 0, .ref (pA p)] σ (fun r τ => r = none ∧ rC (pUp α p) τ ∧ cs_fr σ τ ∧ rdy σ τ) := by
  have hN := h.N
  have hH := h.r.2.1
  have hn := h.pn hp
  have hg := pA_ge p
  have hs := S_pA0 p
  have hs1 := S_pA1 p
  have h7 : aI α 1 p = 7 := by simp at hc; exact hc.1
  obtain ⟨hq, hne, hpar, -, -⟩ := w.par hp (by rw [h7]; decide)
  have hnq := h.pn hq
  have hgq := pA_ge (pPar α p)
  have hsq := S_pA0 (pPar α p)
  have e5 : hm_I σ (pA p) 5 = nI (pPar α p) := (h.i 2 p hp).trans hpar
  have hP := h.p hp
  obtain ⟨f0, hb0⟩ := hP.2.2.2.1
  have hR1 := hP.2.1.1
  have hR2 := hP.2.1.2.2.2.1
  have hz := hb0.2.2.1
  have hz8 := hb0.2.2.2.1
  unfold pUp
  rw [if_pos hc]
  refine hm_startQ (ini := false) [.ref 0, .ref (pA p), hm_u] (by decide) (by decide) rfl (Nat.le_of_ble_eq_true rfl) (fun Q hQ => ?_)
  cases hq0 : aQ α 0 p with
  | nil =>
    rw [hq0] at hQ hz
    dsimp only at hQ
    refine hm_aload_n dX4_sendUp_0 rfl ?_
    refine hm_aload_n dX4_sendUp_1 rfl ?_
    refine hm_getI lf_RX4_91 rfl hs (by omega) dX4_sendUp_2 ?_
    rw [e5]
    refine hm_callV lm_RX4_69 (k4_find l h w hq) rfl rfl rfl rfl (by first | exact Nat.lt_of_lt_of_le (by decide) hN | assumption | (simp only [hm_n_wI, hm_n_wL, hm_n_wR, hm_n_g] at *; omega)) (by decide) (by decide) (Nat.le_of_ble_eq_true rfl) dX4_sendUp_5 ?_
    rintro _ t9 ⟨rfl, hh9⟩
    rw [hh9]
    clear hh9 t9
    refine hm_astore_n dX4_sendUp_8 (by decide) rfl ?_
    refine hm_aload_n dX4_sendUp_9 rfl ?_
    refine hm_ifnull dX4_sendUp_10 ?_
    refine hm_aload_n dX4_sendUp_13 rfl ?_
    refine hm_getR lf_RX4_101 rfl hs (by omega) hR1 dX4_sendUp_14 ?_
    refine hm_getI lf_RX4_111 rfl hs1 (by omega) dX4_sendUp_17 ?_
    rw [hz]
    refine hm_if_ne 24 dX4_sendUp_20 (by decide) (fun h20 => absurd (by rfl) h20) (fun _ => ?_)
    refine hm_vret dX4_sendUp_23 rfl (by decide) (by decide) ?_
    exact hQ _ _ ⟨rfl, h, cs_fr.rf σ, fun _ => rfl⟩
  | cons v t =>
    rw [hq0] at hQ hz hb0 hz8
    dsimp only at hQ
    have hl0 : (v :: t).length ≤ 8 := hz8
    refine hm_aload_n dX4_sendUp_0 rfl ?_
    refine hm_aload_n dX4_sendUp_1 rfl ?_
    refine hm_getI lf_RX4_91 rfl hs (by omega) dX4_sendUp_2 ?_
    rw [e5]
    refine hm_callV lm_RX4_69 (k4_find l h w hq) rfl rfl rfl rfl (by first | exact Nat.lt_of_lt_of_le (by decide) hN | assumption | (simp only [hm_n_wI, hm_n_wL, hm_n_wR, hm_n_g] at *; omega)) (by decide) (by decide) (Nat.le_of_ble_eq_true rfl) dX4_sendUp_5 ?_
    rintro _ t9 ⟨rfl, hh9⟩
    rw [hh9]
    clear hh9 t9
    refine hm_astore_n dX4_sendUp_8 (by decide) rfl ?_
    refine hm_aload_n dX4_sendUp_9 rfl ?_
    refine hm_ifnull dX4_sendUp_10 ?_
    refine hm_aload_n dX4_sendUp_13 rfl ?_
    refine hm_getR lf_RX4_101 rfl hs (by omega) hR1 dX4_sendUp_14 ?_
    refine hm_getI lf_RX4_111 rfl hs1 (by omega) dX4_sendUp_17 ?_
    rw [hz]
    refine hm_if_ne 24 dX4_sendUp_20 (by decide) (fun _ => ?_) (fun h20 => absurd h20 (nI_ne0 (by simp) (by omega)))
    refine hm_aload_n dX4_sendUp_24 rfl ?_
    refine hm_aload_n dX4_sendUp_25 rfl ?_
    refine hm_getR lf_RX4_101 rfl hs (by omega) hR1 dX4_sendUp_26 ?_
    refine hm_callV lm_RX4_286 (k1_take l hs1 (S_pA2 p) (by omega) hR2 (by decide) hb0) rfl rfl hs1 rfl (by omega) (by decide) (by decide) (Nat.le_of_ble_eq_true rfl) dX4_sendUp_29 ?_
    rintro _ τ ⟨rfl, ⟨g1, hb1⟩, hf1⟩
    have h1 := h.bkf (f := 0) hp (Or.inl ⟨rfl, rfl⟩) hf1 ⟨g1, hb1⟩
    have hN := h1.N
    have hH := h1.r.2.1
    have hn : pA p + 6 < hm_n τ := h1.pn hp
    have hnq : pA (pPar α p) + 6 < hm_n τ := h1.pn hq
    have el : hm_L τ (pA p) 1 = aL α 0 p := h1.l 0 p hp
    have et : hm_I τ 0 3 = nI (aN α 6 0) := h1.tm
    refine hm_aload_n dX4_sendUp_32 rfl ?_
    refine hm_getL lf_RX4_274 rfl hs (by omega) dX4_sendUp_33 ?_
    rw [el]
    refine hm_aload_n dX4_sendUp_36 rfl ?_
    refine hm_getI lf_RX4_84 rfl rfl (by first | exact Nat.lt_of_lt_of_le (by decide) hN | assumption | (simp only [hm_n_wI, hm_n_wL, hm_n_wR, hm_n_g] at *; omega)) dX4_sendUp_37 ?_
    rw [et]
    refine hm_i2l dX4_sendUp_40 ?_
    refine hm_callS lm_RX4_192 (k4_mixOf l _ _ _) rfl rfl (by decide) (by decide) (Nat.le_of_ble_eq_true rfl) dX4_sendUp_41 ?_
    rintro _ t9 ⟨rfl, hh9⟩
    rw [hh9]
    clear hh9 t9
    refine hm_lxor dX4_sendUp_44 ?_
    refine hm_putL lf_RX4_196 rfl rfl rfl (by first | exact Nat.lt_of_lt_of_le (by decide) hN | assumption | (simp only [hm_n_wI, hm_n_wL, hm_n_wR, hm_n_g] at *; omega)) dX4_sendUp_45 ?_
    have h2 := h1.upL 2 0 (pUpB α p v) (by show 0 < 2; decide)
    have eu : hm_I (hm_wL τ 0 9 (pUpB α p v)) 0 7 = aI α 4 4 := h2.i 4 4 (by show 4 < 6; decide)
    refine hm_aload_n dX4_sendUp_48 rfl ?_
    refine hm_dup dX4_sendUp_49 rfl ?_
    refine hm_getI lf_RX4_211 rfl rfl (by first | exact Nat.lt_of_lt_of_le (by decide) hN | assumption | (simp only [hm_n_wI, hm_n_wL, hm_n_wR, hm_n_g] at *; omega)) dX4_sendUp_50 ?_
    rw [show v ^^^ pMix (aL α 0 p) ((nI (aN α 6 0)).toInt64) = pUpB α p v from rfl, eu]
    refine hm_iconst dX4_sendUp_53 (v := 1) (by decide) ?_
    refine hm_iadd dX4_sendUp_54 ?_
    refine hm_putI lf_RX4_211 rfl rfl rfl (by first | exact Nat.lt_of_lt_of_le (by decide) hN | assumption | (simp only [hm_n_wI, hm_n_wL, hm_n_wR, hm_n_g] at *; omega)) dX4_sendUp_55 ?_
    have h3 := h2.upI 4 4 (aI α 4 4 + 1) (by show 4 < 6; decide)
    have hP3 := h3.p (show pPar α p < nPort α from hq)
    obtain ⟨g3, hb3⟩ := hP3.2.2.2.2.1
    have hR3 := hP3.2.1.2.1
    have hR4 := hP3.2.1.2.2.2.2.1
    have el3 : hm_L (hm_wI (hm_wL τ 0 9 (pUpB α p v)) 0 7 (aI α 4 4 + 1)) (pA p) 2 = aL α 1 p := h3.l 1 p hp
    have et3 : hm_I (hm_wI (hm_wL τ 0 9 (pUpB α p v)) 0 7 (aI α 4 4 + 1)) 0 3 = nI (aN α 6 0) := h3.tm
    have ea : hm_L (hm_wI (hm_wL τ 0 9 (pUpB α p v)) 0 7 (aI α 4 4 + 1)) 0 9 = pUpB α p v := h3.l 2 0 (by show 0 < 2; decide)
    have eq1 : aQ (sI (sL (sQ α 0 p t) 2 0 (pUpB α p v)) 4 4 (aI α 4 4 + 1)) 1 (pPar α p) = aQ α 1 (pPar α p) := by rw [aQ_sI, aQ_sL, aQ_sQ, if_neg (by omega)]
    refine hm_aload_n dX4_sendUp_58 rfl ?_
    refine hm_getR lf_RX4_134 rfl hsq (by show pA (pPar α p) < hm_n τ; omega) hR3 dX4_sendUp_59 ?_
    refine hm_aload_n dX4_sendUp_62 rfl ?_
    refine hm_getL lf_RX4_196 rfl rfl (by first | exact Nat.lt_of_lt_of_le (by decide) hN | assumption | (simp only [hm_n_wI, hm_n_wL, hm_n_wR, hm_n_g] at *; omega)) dX4_sendUp_63 ?_
    rw [ea]
    refine hm_aload_n dX4_sendUp_66 rfl ?_
    refine hm_getL lf_RX4_76 rfl hs (by show pA p < hm_n τ; omega) dX4_sendUp_67 ?_
    rw [el3]
    refine hm_aload_n dX4_sendUp_70 rfl ?_
    refine hm_getI lf_RX4_84 rfl rfl (by first | exact Nat.lt_of_lt_of_le (by decide) hN | assumption | (simp only [hm_n_wI, hm_n_wL, hm_n_wR, hm_n_g] at *; omega)) dX4_sendUp_71 ?_
    rw [et3]
    refine hm_i2l dX4_sendUp_74 ?_
    refine hm_callS lm_RX4_192 (k4_mixOf l _ _ _) rfl rfl (by decide) (by decide) (Nat.le_of_ble_eq_true rfl) dX4_sendUp_75 ?_
    rintro _ t9 ⟨rfl, hh9⟩
    rw [hh9]
    clear hh9 t9
    refine hm_lxor dX4_sendUp_78 ?_
    refine hm_callV lm_RX4_105 (k1_put l (S_pA3 _) (S_pA4 _) (by show pA (pPar α p) + 3 + 1 < hm_n τ; omega) hR4 (by decide) hb3 _) rfl rfl (S_pA3 _) rfl (by show pA (pPar α p) + 3 < hm_n τ; omega) (by decide) (by decide) (Nat.le_of_ble_eq_true rfl) dX4_sendUp_79 ?_
    rintro _ ρ (⟨q1, rfl, rfl⟩ | ⟨q1, rfl, hb4, hf4⟩)
    · skip
      rw [eq1] at q1
      rw [if_neg (by omega)] at hQ
      refine hm_pop dX4_sendUp_82 rfl ?_
      refine hm_vret dX4_sendUp_83 rfl (by decide) (by decide) ?_
      exact hQ _ _ ⟨rfl, h3, ((hf1.cs (by omega)).wL 0 9 _ (by omega)).wI 0 7 _ (by omega), ((hf1.rdy (f := 0) (by decide)).wL 0 9 _).wI (a := 0) (k := 7) _ (Or.inr (by decide))⟩
    · skip
      rw [eq1] at q1
      rw [if_pos (by omega)] at hQ
      have h4 := h3.bkf (f := 1) (show pPar α p < nPort α from hq) (Or.inr (Or.inl ⟨rfl, rfl⟩)) hf4 ⟨g3, hb4⟩
      rw [eq1] at h4
      refine hm_pop dX4_sendUp_82 rfl ?_
      refine hm_vret dX4_sendUp_83 rfl (by decide) (by decide) ?_
      exact hQ _ _ ⟨rfl, h4, (((hf1.cs (by omega)).wL 0 9 _ (by omega)).wI 0 7 _ (by omega)).tr (hf4.cs (by omega)), (((hf1.rdy (f := 0) (by decide)).wL 0 9 _).wI (a := 0) (k := 7) _ (Or.inr (by decide))).tr (hf4.rdy (f := 1) (by decide))⟩
set_option maxRecDepth 100000 in
theorem k4_sendDown (h : rC α σ) (w : sW α) {p : Nat} (hp : p < nPort α) (rd : Nat → Nat) (hc : ((decide (aI α 1 p = 7) && pGood α p) && decide (rd p ≠ 0)) = true) (hl : aQ α 1 p ≠ []) : hm_Ct l yX4_sendDown cX4_sendDown 4 none 3 0 0 [.ref 0, .ref (pA p)] σ (fun r τ => r = none ∧ rC (pDown rd α p) τ ∧ cs_fr σ τ ∧ rdy σ τ) := by
  have hN := h.N
  have hH := h.r.2.1
  have hn := h.pn hp
  have hg := pA_ge p
  have hs := S_pA0 p
  have hP := h.p hp
  have et := h.tm
  have ht := w.t
  obtain ⟨f0, hb0⟩ := hP.2.2.2.2.1
  have hR3 := hP.2.1.2.1
  have hR4 := hP.2.1.2.2.2.2.1
  unfold pDown
  rw [if_pos hc]
  refine hm_startQ (ini := false) [.ref 0, .ref (pA p), hm_u, hm_u] (by decide) (by decide) rfl (Nat.le_of_ble_eq_true rfl) (fun Q hQ => ?_)
  cases hq0 : aQ α 1 p with
  | nil => exact absurd hq0 hl
  | cons v t =>
    rw [hq0] at hQ hb0
    dsimp only at hQ
    refine hm_aload_n dX4_sendDown_0 rfl ?_
    refine hm_getI lf_RX4_84 rfl rfl (by first | exact Nat.lt_of_lt_of_le (by decide) hN | assumption | (simp only [hm_n_wI, hm_n_wL, hm_n_wR, hm_n_g] at *; omega)) dX4_sendDown_1 ?_
    rw [et]
    refine hm_ldcw dX4_sendDown_4 lk_RX4_293 ?_
    refine hm_iadd dX4_sendDown_7 ?_
    refine hm_i2l dX4_sendDown_8 ?_
    rw [dn_n ht]
    refine hm_lstore_n dX4_sendDown_9 (by decide) rfl ?_
    refine hm_aload_n dX4_sendDown_10 rfl ?_
    refine hm_aload_n dX4_sendDown_11 rfl ?_
    refine hm_getR lf_RX4_134 rfl hs (by omega) hR3 dX4_sendDown_12 ?_
    refine hm_callV lm_RX4_286 (k1_take l (S_pA3 p) (S_pA4 p) (by omega) hR4 (by decide) hb0) rfl rfl (S_pA3 p) rfl (by omega) (by decide) (by decide) (Nat.le_of_ble_eq_true rfl) dX4_sendDown_15 ?_
    rintro _ τ ⟨rfl, ⟨g1, hb1⟩, hf1⟩
    have h1 := h.bkf (f := 1) hp (Or.inr (Or.inl ⟨rfl, rfl⟩)) hf1 ⟨g1, hb1⟩
    have hN := h1.N
    have hH := h1.r.2.1
    have hn : pA p + 6 < hm_n τ := h1.pn hp
    have el : hm_L τ (pA p) 2 = aL α 1 p := h1.l 1 p hp
    refine hm_aload_n dX4_sendDown_18 rfl ?_
    refine hm_getL lf_RX4_76 rfl hs (by omega) dX4_sendDown_19 ?_
    rw [el]
    refine hm_lload_n dX4_sendDown_22 rfl ?_
    refine hm_callS lm_RX4_192 (k4_mixOf l _ _ _) rfl rfl (by decide) (by decide) (Nat.le_of_ble_eq_true rfl) dX4_sendDown_23 ?_
    rintro _ t9 ⟨rfl, hh9⟩
    rw [hh9]
    clear hh9 t9
    refine hm_lxor dX4_sendDown_26 ?_
    refine hm_putL lf_RX4_199 rfl rfl rfl (by first | exact Nat.lt_of_lt_of_le (by decide) hN | assumption | (simp only [hm_n_wI, hm_n_wL, hm_n_wR, hm_n_g] at *; omega)) dX4_sendDown_27 ?_
    have h2 := h1.upL 2 1 (pDnB α p v) (by show 1 < 2; decide)
    have el2 : hm_L (hm_wL τ 0 10 (pDnB α p v)) (pA p) 1 = aL α 0 p := h2.l 0 p hp
    have ea : hm_L (hm_wL τ 0 10 (pDnB α p v)) 0 10 = pDnB α p v := h2.l 2 1 (by show 1 < 2; decide)
    rw [show v ^^^ pMix (aL α 1 p) ((nI (aN α 6 0)).toInt64 + 1000000) = pDnB α p v from rfl]
    refine hm_aload_n dX4_sendDown_30 rfl ?_
    refine hm_aload_n dX4_sendDown_31 rfl ?_
    refine hm_getL lf_RX4_199 rfl rfl (by first | exact Nat.lt_of_lt_of_le (by decide) hN | assumption | (simp only [hm_n_wI, hm_n_wL, hm_n_wR, hm_n_g] at *; omega)) dX4_sendDown_32 ?_
    rw [ea]
    refine hm_aload_n dX4_sendDown_35 rfl ?_
    refine hm_getL lf_RX4_274 rfl hs (by show pA p < hm_n τ; omega) dX4_sendDown_36 ?_
    rw [el2]
    refine hm_lload_n dX4_sendDown_39 rfl ?_
    refine hm_callS lm_RX4_192 (k4_mixOf l _ _ _) rfl rfl (by decide) (by decide) (Nat.le_of_ble_eq_true rfl) dX4_sendDown_40 ?_
    rintro _ t9 ⟨rfl, hh9⟩
    rw [hh9]
    clear hh9 t9
    refine hm_lxor dX4_sendDown_43 ?_
    refine hm_callV lm_RX4_294 (k2_keep l h2 (show p < nPort α from hp) _) rfl rfl hs rfl (by show pA p < hm_n τ; omega) (by decide) (by decide) (Nat.le_of_ble_eq_true rfl) dX4_sendDown_44 ?_
    rintro _ ρ ⟨rfl, h3, hf3, hy3⟩
    have hN := h3.N
    have hH := h3.r.2.1
    have eu : hm_I ρ 0 8 = aI α 4 5 := h3.i 4 5 (by show 5 < 6; decide)
    have eq1 : aQ (sL (sQ α 1 p t) 2 1 (pDnB α p v)) 2 p = aQ α 2 p := by rw [aQ_sL, aQ_sQ, if_neg (by omega)]
    refine hm_aload_n dX4_sendDown_47 rfl ?_
    refine hm_dup dX4_sendDown_48 rfl ?_
    refine hm_getI lf_RX4_115 rfl rfl (by first | exact Nat.lt_of_lt_of_le (by decide) hN | assumption | (simp only [hm_n_wI, hm_n_wL, hm_n_wR, hm_n_g] at *; omega)) dX4_sendDown_49 ?_
    rw [eu]
    refine hm_iconst dX4_sendDown_52 (v := 1) (by decide) ?_
    refine hm_iadd dX4_sendDown_53 ?_
    refine hm_putI lf_RX4_115 rfl rfl rfl (by first | exact Nat.lt_of_lt_of_le (by decide) hN | assumption | (simp only [hm_n_wI, hm_n_wL, hm_n_wR, hm_n_g] at *; omega)) dX4_sendDown_54 ?_
    rw [eq1] at h3
    have h4 := h3.upI 4 5 (aI α 4 5 + 1) (by show 5 < 6; decide)
    refine hm_vret dX4_sendDown_57 rfl (by decide) (by decide) ?_
    exact hQ _ _ ⟨rfl, h4, (((hf1.cs (by omega)).wL 0 10 _ (by omega)).tr hf3).wI 0 8 _ (by omega), (((hf1.rdy (f := 1) (by decide)).wL 0 10 _).tr hy3).wI _ (by omega)⟩
set_option maxRecDepth 100000 in
theorem k4_carryUp (h : rC α σ) (w : sW α) : hm_Ct l yX4_carryUp cX4_carryUp 2 none 3 0 0 [.ref 0] σ (fun r τ => r = none ∧ rC (pAllP pUp α) τ ∧ cs_fr σ τ ∧ ∀ q, q < nPort α → hm_I τ (pA q) 7 = nI (aQ α 1 q).length) := by
  have h8 := w.p8
  refine hm_startQ (ini := false) [.ref 0, hm_u] (by decide) (by decide) rfl (Nat.le_of_ble_eq_true rfl) (fun Q hQ => ?_)
  have hl2 : ∀ (k p : Nat) (τ : hm_M) (u : Int32), p + k = nPort α → rC (pAll pUp α p) τ → cs_fr σ τ → (∀ q, q < nPort α → hm_I τ (pA q) 7 = nI (aQ α 1 q).length) → u = nI p → hm_V l RX4 cX4_carryUp 2 none false (hm_rm 3 0 0) 0 0 Q 0 0 42 [.ref 0, .int u] [] τ := by
    intro k
    induction k with
    | zero =>
      intro p τ u hk hτ hf hy hu
      subst hu
      have hN := hτ.N
      have hH := hτ.r.2.1
      have e0 : hm_I τ 1 1 = nI (nPort α) := hτ.np.trans (congrArg nI (pAll_nP (fun β p => nP_of (up_N β p)) _ _))
      obtain rfl : p = nPort α := by omega
      refine hm_iload_n dX4_carryUp_42 rfl ?_
      refine hm_aload_n dX4_carryUp_43 rfl ?_
      refine hm_getR lf_RX4_12 rfl rfl (by first | exact Nat.lt_of_lt_of_le (by decide) hN | assumption | (simp only [hm_n_wI, hm_n_wL, hm_n_wR, hm_n_g] at *; omega)) (hH 0) dX4_carryUp_44 ?_
      refine hm_getI lf_RX4_44 rfl rfl (by first | exact Nat.lt_of_lt_of_le (by decide) hN | assumption | (simp only [hm_n_wI, hm_n_wL, hm_n_wR, hm_n_g] at *; omega)) dX4_carryUp_47 ?_
      rw [e0]
      refine hm_icmp_ge 82 dX4_carryUp_50 (by decide) (fun _ => ?_) (fun h50 => absurd (nI_le (by omega) (by omega)) h50)
      refine hm_vret dX4_carryUp_82 rfl (by decide) (by decide) ?_
      exact hQ _ _ ⟨rfl, hτ, hf, hy⟩
    | succ k ih =>
      intro p τ u hk hτ hf hy hu
      subst hu
      have hN := hτ.N
      have hH := hτ.r.2.1
      have e0 : hm_I τ 1 1 = nI (nPort α) := hτ.np.trans (congrArg nI (pAll_nP (fun β p => nP_of (up_N β p)) _ _))
      have wβ : sW (pAll pUp α p) := pAll_sW (fun β p => nP_of (up_N β p)) (fun β p wb hp => wb.up hp) w p (by omega)
      have hp : p < nPort (pAll pUp α p) := by rw [pAll_nP (fun β p => nP_of (up_N β p))]; omega
      have ih2 := ih (p + 1)
      rw [show pAll pUp α (p + 1) = pUp (pAll pUp α p) p from rfl] at ih2
      generalize pAll pUp α p = β at hτ wβ hp ih2
      have hR := (hτ.p hp).1
      refine hm_iload_n dX4_carryUp_42 rfl ?_
      refine hm_aload_n dX4_carryUp_43 rfl ?_
      refine hm_getR lf_RX4_12 rfl rfl (by first | exact Nat.lt_of_lt_of_le (by decide) hN | assumption | (simp only [hm_n_wI, hm_n_wL, hm_n_wR, hm_n_g] at *; omega)) (hH 0) dX4_carryUp_44 ?_
      refine hm_getI lf_RX4_44 rfl rfl (by first | exact Nat.lt_of_lt_of_le (by decide) hN | assumption | (simp only [hm_n_wI, hm_n_wL, hm_n_wR, hm_n_g] at *; omega)) dX4_carryUp_47 ?_
      rw [e0]
      refine hm_icmp_ge 82 dX4_carryUp_50 (by decide) (fun h50 => absurd h50 (nI_ge (by omega) (by omega))) (fun _ => ?_)
      refine hm_aload_n dX4_carryUp_53 rfl ?_
      refine hm_aload_n dX4_carryUp_54 rfl ?_
      refine hm_getR lf_RX4_18 rfl rfl (by first | exact Nat.lt_of_lt_of_le (by decide) hN | assumption | (simp only [hm_n_wI, hm_n_wL, hm_n_wR, hm_n_g] at *; omega)) (hH 1) dX4_carryUp_55 ?_
      refine hm_iload_n dX4_carryUp_58 rfl ?_
      refine hm_aald _ (.ref (pA p)) rfl (by decide) (by first | exact Nat.lt_of_lt_of_le (by decide) hN | assumption | (simp only [hm_n_wI, hm_n_wL, hm_n_wR, hm_n_g] at *; omega)) rfl (by omega) (by decide) (Or.inr ⟨_, rfl, hR⟩) dX4_carryUp_59 ?_
      refine hm_callV lm_RX4_280 (k4_canTalk l hτ wβ hp) rfl rfl rfl rfl (by first | exact Nat.lt_of_lt_of_le (by decide) hN | assumption | (simp only [hm_n_wI, hm_n_wL, hm_n_wR, hm_n_g] at *; omega)) (by decide) (by decide) (Nat.le_of_ble_eq_true rfl) dX4_carryUp_60 ?_
      rintro _ t9 ⟨rfl, hh9⟩
      rw [hh9]
      clear hh9 t9
      refine hm_if_eq 76 dX4_carryUp_63 (by decide) (fun h63 => ?_) (fun h63 => ?_)
      · skip
        rw [bI_0] at h63
        rw [show pUp β p = β by unfold pUp; rw [h63]; rfl] at ih2
        have hτ2 := hτ
        have hf2 := hf
        have hy2 := hy
        refine hm_iinc dX4_carryUp_76 rfl _ rfl (by decide) rfl ?_
        refine hm_goto 42 dX4_carryUp_79 (by decide) ?_
        exact ih2 _ _ (by omega) hτ2 hf2 hy2 (hm_inc p)
      · skip
        rw [bI_0] at h63
        refine hm_aload_n dX4_carryUp_66 rfl ?_
        refine hm_aload_n dX4_carryUp_67 rfl ?_
        refine hm_getR lf_RX4_18 rfl rfl (by first | exact Nat.lt_of_lt_of_le (by decide) hN | assumption | (simp only [hm_n_wI, hm_n_wL, hm_n_wR, hm_n_g] at *; omega)) (hH 1) dX4_carryUp_68 ?_
        refine hm_iload_n dX4_carryUp_71 rfl ?_
        refine hm_aald _ (.ref (pA p)) rfl (by decide) (by first | exact Nat.lt_of_lt_of_le (by decide) hN | assumption | (simp only [hm_n_wI, hm_n_wL, hm_n_wR, hm_n_g] at *; omega)) rfl (by omega) (by decide) (Or.inr ⟨_, rfl, hR⟩) dX4_carryUp_72 ?_
        refine hm_callV lm_RX4_283 (k4_sendUp l hτ wβ hp (b_nf h63)) rfl rfl rfl rfl (by first | exact Nat.lt_of_lt_of_le (by decide) hN | assumption | (simp only [hm_n_wI, hm_n_wL, hm_n_wR, hm_n_g] at *; omega)) (by decide) (by decide) (Nat.le_of_ble_eq_true rfl) dX4_carryUp_73 ?_
        rintro _ ρ ⟨rfl, hτ2, hf2, hy2⟩
        replace hf2 := hf.tr hf2
        replace hy2 : ∀ q, q < nPort α → hm_I ρ (pA q) 7 = nI (aQ α 1 q).length := fun q hq => (hy2 q).trans (hy q hq)
        refine hm_iinc dX4_carryUp_76 rfl _ rfl (by decide) rfl ?_
        refine hm_goto 42 dX4_carryUp_79 (by decide) ?_
        exact ih2 _ _ (by omega) hτ2 hf2 hy2 (hm_inc p)
  have hl1 : ∀ (k p : Nat) (τ : hm_M) (u : Int32), p + k = nPort α → rC α τ → cs_fr σ τ → (∀ q, q < p → hm_I τ (pA q) 7 = nI (aQ α 1 q).length) → u = nI p → hm_V l RX4 cX4_carryUp 2 none false (hm_rm 3 0 0) 0 0 Q 0 0 2 [.ref 0, .int u] [] τ := by
    intro k
    induction k with
    | zero =>
      intro p τ u hk hτ hf hy hu
      subst hu
      have hN := hτ.N
      have hH := hτ.r.2.1
      have e0 := hτ.np
      obtain rfl : p = nPort α := by omega
      refine hm_iload_n dX4_carryUp_2 rfl ?_
      refine hm_aload_n dX4_carryUp_3 rfl ?_
      refine hm_getR lf_RX4_12 rfl rfl (by first | exact Nat.lt_of_lt_of_le (by decide) hN | assumption | (simp only [hm_n_wI, hm_n_wL, hm_n_wR, hm_n_g] at *; omega)) (hH 0) dX4_carryUp_4 ?_
      refine hm_getI lf_RX4_44 rfl rfl (by first | exact Nat.lt_of_lt_of_le (by decide) hN | assumption | (simp only [hm_n_wI, hm_n_wL, hm_n_wR, hm_n_g] at *; omega)) dX4_carryUp_7 ?_
      rw [e0]
      refine hm_icmp_ge 40 dX4_carryUp_10 (by decide) (fun _ => ?_) (fun h10 => absurd (nI_le (by omega) (by omega)) h10)
      refine hm_iconst dX4_carryUp_40 (v := 0) (by decide) ?_
      refine hm_istore_n dX4_carryUp_41 (by decide) rfl ?_
      exact hl2 _ 0 _ _ (Nat.zero_add _) hτ hf hy rfl
    | succ k ih =>
      intro p τ u hk hτ hf hy hu
      subst hu
      have hN := hτ.N
      have hH := hτ.r.2.1
      have e0 := hτ.np
      have hp : p < nPort α := by omega
      have hP := hτ.p hp
      have hR := hP.1
      have hg := pA_ge p
      have hn := hτ.pn hp
      have hs := S_pA0 p
      obtain ⟨g, hb⟩ := hP.2.2.2.2.1
      have e2 := hb.2.2.1
      have hR3 := hP.2.1.2.1
      have h2 : rC α (hm_wI τ (pA p) 7 (nI (aQ α 1 p).length)) := hτ.scr _ ⟨by omega, by omega, by omega, by omega, by omega, Or.inr ⟨p, rfl, by decide⟩⟩ (fun f i hi q => by
        match f with
        | 0 | 1 | 2 | 3 | 4 | 6 | 7 => simp [cs_lN] at q <;> omega
        | 5 => simp [cs_bN] at hi
        | _ + 8 => simp [cs_bN] at hi) (fun f i hi q => by
        match f with
        | 0 | 1 | 2 | 3 => simp [cs_lI] at q
        | 4 => rw [cs_lI_4] at q; split at q <;> simp at q <;> omega
        | 5 => simp [cs_lI] at q <;> omega
        | _ + 6 => simp [cs_bI] at hi)
      refine hm_iload_n dX4_carryUp_2 rfl ?_
      refine hm_aload_n dX4_carryUp_3 rfl ?_
      refine hm_getR lf_RX4_12 rfl rfl (by first | exact Nat.lt_of_lt_of_le (by decide) hN | assumption | (simp only [hm_n_wI, hm_n_wL, hm_n_wR, hm_n_g] at *; omega)) (hH 0) dX4_carryUp_4 ?_
      refine hm_getI lf_RX4_44 rfl rfl (by first | exact Nat.lt_of_lt_of_le (by decide) hN | assumption | (simp only [hm_n_wI, hm_n_wL, hm_n_wR, hm_n_g] at *; omega)) dX4_carryUp_7 ?_
      rw [e0]
      refine hm_icmp_ge 40 dX4_carryUp_10 (by decide) (fun h10 => absurd h10 (nI_ge (by omega) (by omega))) (fun _ => ?_)
      refine hm_aload_n dX4_carryUp_13 rfl ?_
      refine hm_getR lf_RX4_18 rfl rfl (by first | exact Nat.lt_of_lt_of_le (by decide) hN | assumption | (simp only [hm_n_wI, hm_n_wL, hm_n_wR, hm_n_g] at *; omega)) (hH 1) dX4_carryUp_14 ?_
      refine hm_iload_n dX4_carryUp_17 rfl ?_
      refine hm_aald _ (.ref (pA p)) rfl (by decide) (by first | exact Nat.lt_of_lt_of_le (by decide) hN | assumption | (simp only [hm_n_wI, hm_n_wL, hm_n_wR, hm_n_g] at *; omega)) rfl (by omega) (by decide) (Or.inr ⟨_, rfl, hR⟩) dX4_carryUp_18 ?_
      refine hm_aload_n dX4_carryUp_19 rfl ?_
      refine hm_getR lf_RX4_18 rfl rfl (by first | exact Nat.lt_of_lt_of_le (by decide) hN | assumption | (simp only [hm_n_wI, hm_n_wL, hm_n_wR, hm_n_g] at *; omega)) (hH 1) dX4_carryUp_20 ?_
      refine hm_iload_n dX4_carryUp_23 rfl ?_
      refine hm_aald _ (.ref (pA p)) rfl (by decide) (by first | exact Nat.lt_of_lt_of_le (by decide) hN | assumption | (simp only [hm_n_wI, hm_n_wL, hm_n_wR, hm_n_g] at *; omega)) rfl (by omega) (by decide) (Or.inr ⟨_, rfl, hR⟩) dX4_carryUp_24 ?_
      refine hm_getR lf_RX4_134 rfl hs (by omega) hR3 dX4_carryUp_25 ?_
      refine hm_getI lf_RX4_111 rfl (S_pA3 p) (by omega) dX4_carryUp_28 ?_
      rw [e2]
      refine hm_putI lf_RX4_277 rfl rfl hs (by omega) dX4_carryUp_31 ?_
      refine hm_iinc dX4_carryUp_34 rfl _ rfl (by decide) rfl ?_
      refine hm_goto 2 dX4_carryUp_37 (by decide) ?_
      exact ih (p + 1) _ _ (by omega) h2 (hf.wI _ _ _ (by omega)) (fun q hq => by rw [hm_I_wI]; by_cases e : q = p; rw [if_pos ⟨by rw [e], rfl⟩, e]; rw [if_neg (fun z => e (pA_inj.mp z.1))]; exact hy q (by omega)) (hm_inc p)
  refine hm_iconst dX4_carryUp_0 (v := 0) (by decide) ?_
  refine hm_istore_n dX4_carryUp_1 (by decide) rfl ?_
  exact hl1 _ 0 _ _ (Nat.zero_add _) h (cs_fr.rf σ) (fun q hq => absurd hq (by omega)) rfl
set_option maxRecDepth 100000 in
theorem k4_carryDown (h : rC α σ) (w : sW α) (rd : Nat → Nat) (hy0 : ∀ q, q < nPort α → hm_I σ (pA q) 7 = nI (rd q)) (hr : ∀ q, rd q ≤ (aQ α 1 q).length) (hh : ∀ q, q < nPort α → aN α 7 q + 1 ≤ aN α 6 0) : hm_Ct l yX4_carryDown cX4_carryDown 2 none 4 0 0 [.ref 0] σ (fun r τ => r = none ∧ rC (pAllP (pDown rd) α) τ ∧ cs_fr σ τ) := by
  have h8 := w.p8
  refine hm_startQ (ini := false) [.ref 0, hm_u] (by decide) (by decide) rfl (Nat.le_of_ble_eq_true rfl) (fun Q hQ => ?_)
  have hl : ∀ (k p : Nat) (τ : hm_M) (u : Int32), p + k = nPort α → rC (pAll (pDown rd) α p) τ → cs_fr σ τ → rdy σ τ → u = nI p → hm_V l RX4 cX4_carryDown 2 none false (hm_rm 4 0 0) 0 0 Q 0 0 2 [.ref 0, .int u] [] τ := by
    intro k
    induction k with
    | zero =>
      intro p τ u hk hτ hf hy hu
      subst hu
      have hN := hτ.N
      have hH := hτ.r.2.1
      have e0 : hm_I τ 1 1 = nI (nPort α) := hτ.np.trans (congrArg nI (pAll_nP (down_nP rd) _ _))
      obtain rfl : p = nPort α := by omega
      refine hm_iload_n dX4_carryDown_2 rfl ?_
      refine hm_aload_n dX4_carryDown_3 rfl ?_
      refine hm_getR lf_RX4_12 rfl rfl (by first | exact Nat.lt_of_lt_of_le (by decide) hN | assumption | (simp only [hm_n_wI, hm_n_wL, hm_n_wR, hm_n_g] at *; omega)) (hH 0) dX4_carryDown_4 ?_
      refine hm_getI lf_RX4_44 rfl rfl (by first | exact Nat.lt_of_lt_of_le (by decide) hN | assumption | (simp only [hm_n_wI, hm_n_wL, hm_n_wR, hm_n_g] at *; omega)) dX4_carryDown_7 ?_
      rw [e0]
      refine hm_icmp_ge 54 dX4_carryDown_10 (by decide) (fun _ => ?_) (fun h10 => absurd (nI_le (by omega) (by omega)) h10)
      refine hm_vret dX4_carryDown_54 rfl (by decide) (by decide) ?_
      exact hQ _ _ ⟨rfl, hτ, hf⟩
    | succ k ih =>
      intro p τ u hk hτ hf hy hu
      subst hu
      have hN := hτ.N
      have hH := hτ.r.2.1
      have e0 : hm_I τ 1 1 = nI (nPort α) := hτ.np.trans (congrArg nI (pAll_nP (down_nP rd) _ _))
      have wβ : sW (pAll (pDown rd) α p) := downs_sW rd w hh p (by omega)
      have hp : p < nPort (pAll (pDown rd) α p) := by rw [pAll_nP (down_nP rd)]; omega
      have hq1 := (downs_later rd α p p (Nat.le_refl _)).1
      have ih2 := ih (p + 1)
      rw [show pAll (pDown rd) α (p + 1) = pDown rd (pAll (pDown rd) α p) p from rfl] at ih2
      generalize pAll (pDown rd) α p = β at hτ wβ hp ih2 hq1
      have hR := (hτ.p hp).1
      have hn := hτ.pn hp
      have hs := S_pA0 p
      have hrp := hr p
      have hl16 := (w.q p).2.1
      have er : hm_I τ (pA p) 7 = nI (rd p) := (hy p).trans (hy0 p (by omega))
      have q0 : nI (rd p) ≤ 0 ↔ rd p = 0 := by rw [show (0 : Int32) = nI 0 from rfl, nI_leI (by omega) (by omega)]; omega
      refine hm_iload_n dX4_carryDown_2 rfl ?_
      refine hm_aload_n dX4_carryDown_3 rfl ?_
      refine hm_getR lf_RX4_12 rfl rfl (by first | exact Nat.lt_of_lt_of_le (by decide) hN | assumption | (simp only [hm_n_wI, hm_n_wL, hm_n_wR, hm_n_g] at *; omega)) (hH 0) dX4_carryDown_4 ?_
      refine hm_getI lf_RX4_44 rfl rfl (by first | exact Nat.lt_of_lt_of_le (by decide) hN | assumption | (simp only [hm_n_wI, hm_n_wL, hm_n_wR, hm_n_g] at *; omega)) dX4_carryDown_7 ?_
      rw [e0]
      refine hm_icmp_ge 54 dX4_carryDown_10 (by decide) (fun h10 => absurd h10 (nI_ge (by omega) (by omega))) (fun _ => ?_)
      refine hm_aload_n dX4_carryDown_13 rfl ?_
      refine hm_aload_n dX4_carryDown_14 rfl ?_
      refine hm_getR lf_RX4_18 rfl rfl (by first | exact Nat.lt_of_lt_of_le (by decide) hN | assumption | (simp only [hm_n_wI, hm_n_wL, hm_n_wR, hm_n_g] at *; omega)) (hH 1) dX4_carryDown_15 ?_
      refine hm_iload_n dX4_carryDown_18 rfl ?_
      refine hm_aald _ (.ref (pA p)) rfl (by decide) (by first | exact Nat.lt_of_lt_of_le (by decide) hN | assumption | (simp only [hm_n_wI, hm_n_wL, hm_n_wR, hm_n_g] at *; omega)) rfl (by omega) (by decide) (Or.inr ⟨_, rfl, hR⟩) dX4_carryDown_19 ?_
      refine hm_callV lm_RX4_280 (k4_canTalk l hτ wβ hp) rfl rfl rfl rfl (by first | exact Nat.lt_of_lt_of_le (by decide) hN | assumption | (simp only [hm_n_wI, hm_n_wL, hm_n_wR, hm_n_g] at *; omega)) (by decide) (by decide) (Nat.le_of_ble_eq_true rfl) dX4_carryDown_20 ?_
      rintro _ t9 ⟨rfl, hh9⟩
      rw [hh9]
      clear hh9 t9
      refine hm_if_eq 48 dX4_carryDown_23 (by decide) (fun h23 => ?_) (fun h23 => ?_)
      · skip
        rw [bI_0] at h23
        rw [show pDown rd β p = β by unfold pDown; rw [h23]; rfl] at ih2
        have hτ2 := hτ
        have hf2 := hf
        have hy2 := hy
        refine hm_iinc dX4_carryDown_48 rfl _ rfl (by decide) rfl ?_
        refine hm_goto 2 dX4_carryDown_51 (by decide) ?_
        exact ih2 _ _ (by omega) hτ2 hf2 hy2 (hm_inc p)
      · skip
        rw [bI_0] at h23
        refine hm_aload_n dX4_carryDown_26 rfl ?_
        refine hm_getR lf_RX4_18 rfl rfl (by first | exact Nat.lt_of_lt_of_le (by decide) hN | assumption | (simp only [hm_n_wI, hm_n_wL, hm_n_wR, hm_n_g] at *; omega)) (hH 1) dX4_carryDown_27 ?_
        refine hm_iload_n dX4_carryDown_30 rfl ?_
        refine hm_aald _ (.ref (pA p)) rfl (by decide) (by first | exact Nat.lt_of_lt_of_le (by decide) hN | assumption | (simp only [hm_n_wI, hm_n_wL, hm_n_wR, hm_n_g] at *; omega)) rfl (by omega) (by decide) (Or.inr ⟨_, rfl, hR⟩) dX4_carryDown_31 ?_
        refine hm_getI lf_RX4_277 rfl hs (by omega) dX4_carryDown_32 ?_
        rw [er]
        refine hm_if_le 48 dX4_carryDown_35 (by decide) (fun h35 => ?_) (fun h35 => ?_)
        · skip
          rw [q0] at h35
          rw [show pDown rd β p = β by unfold pDown; rw [h35]; simp] at ih2
          have hτ2 := hτ
          have hf2 := hf
          have hy2 := hy
          refine hm_iinc dX4_carryDown_48 rfl _ rfl (by decide) rfl ?_
          refine hm_goto 2 dX4_carryDown_51 (by decide) ?_
          exact ih2 _ _ (by omega) hτ2 hf2 hy2 (hm_inc p)
        · skip
          rw [q0] at h35
          refine hm_aload_n dX4_carryDown_38 rfl ?_
          refine hm_aload_n dX4_carryDown_39 rfl ?_
          refine hm_getR lf_RX4_18 rfl rfl (by first | exact Nat.lt_of_lt_of_le (by decide) hN | assumption | (simp only [hm_n_wI, hm_n_wL, hm_n_wR, hm_n_g] at *; omega)) (hH 1) dX4_carryDown_40 ?_
          refine hm_iload_n dX4_carryDown_43 rfl ?_
          refine hm_aald _ (.ref (pA p)) rfl (by decide) (by first | exact Nat.lt_of_lt_of_le (by decide) hN | assumption | (simp only [hm_n_wI, hm_n_wL, hm_n_wR, hm_n_g] at *; omega)) rfl (by omega) (by decide) (Or.inr ⟨_, rfl, hR⟩) dX4_carryDown_44 ?_
          refine hm_callV lm_RX4_290 (k4_sendDown l hτ wβ hp rd (by rw [b_nf h23, decide_eq_true h35]; rfl) (by rw [hq1]; intro q; rw [q] at hrp; simp at hrp; omega)) rfl rfl rfl rfl (by first | exact Nat.lt_of_lt_of_le (by decide) hN | assumption | (simp only [hm_n_wI, hm_n_wL, hm_n_wR, hm_n_g] at *; omega)) (by decide) (by decide) (Nat.le_of_ble_eq_true rfl) dX4_carryDown_45 ?_
          rintro _ ρ ⟨rfl, hτ2, hf2, hy2⟩
          replace hf2 := hf.tr hf2
          replace hy2 := hy.tr hy2
          refine hm_iinc dX4_carryDown_48 rfl _ rfl (by decide) rfl ?_
          refine hm_goto 2 dX4_carryDown_51 (by decide) ?_
          exact ih2 _ _ (by omega) hτ2 hf2 hy2 (hm_inc p)
  refine hm_iconst dX4_carryDown_0 (v := 0) (by decide) ?_
  refine hm_istore_n dX4_carryDown_1 (by decide) rfl ?_
  exact hl _ 0 _ _ (Nat.zero_add _) h (cs_fr.rf σ) (fun _ => rfl) rfl
set_option maxRecDepth 100000 in
theorem k4_endOldCalls (h : rC α σ) (w : sW α) : hm_Ct l yX4_endOldCalls cX4_endOldCalls 3 none 4 0 0 [.ref 0] σ (fun r τ => r = none ∧ rC (pAllP pOld α) τ ∧ cs_fr σ τ) := by
  have h8 := w.p8
  refine hm_startQ (ini := false) [.ref 0, hm_u, hm_u] (by decide) (by decide) rfl (Nat.le_of_ble_eq_true rfl) (fun Q hQ => ?_)
  have hl : ∀ (k p : Nat) (τ : hm_M) (u : Int32) (y : Value), p + k = nPort α → rC (pAll pOld α p) τ → cs_fr σ τ → u = nI p → hm_V l RX4 cX4_endOldCalls 3 none false (hm_rm 4 0 0) 0 0 Q 0 0 2 [.ref 0, .int u, y] [] τ := by
    intro k
    induction k with
    | zero =>
      intro p τ u y hk hτ hf hu
      subst hu
      have hN := hτ.N
      have hH := hτ.r.2.1
      have e0 : hm_I τ 1 1 = nI (nPort α) := hτ.np.trans (congrArg nI (pAll_nP (fun β p => nP_of (old_N β p)) _ _))
      obtain rfl : p = nPort α := by omega
      refine hm_iload_n dX4_endOldCalls_2 rfl ?_
      refine hm_aload_n dX4_endOldCalls_3 rfl ?_
      refine hm_getR lf_RX4_12 rfl rfl (by first | exact Nat.lt_of_lt_of_le (by decide) hN | assumption | (simp only [hm_n_wI, hm_n_wL, hm_n_wR, hm_n_g] at *; omega)) (hH 0) dX4_endOldCalls_4 ?_
      refine hm_getI lf_RX4_44 rfl rfl (by first | exact Nat.lt_of_lt_of_le (by decide) hN | assumption | (simp only [hm_n_wI, hm_n_wL, hm_n_wR, hm_n_g] at *; omega)) dX4_endOldCalls_7 ?_
      rw [e0]
      refine hm_icmp_ge 53 dX4_endOldCalls_10 (by decide) (fun _ => ?_) (fun h10 => absurd (nI_le (by omega) (by omega)) h10)
      refine hm_vret dX4_endOldCalls_53 rfl (by decide) (by decide) ?_
      exact hQ _ _ ⟨rfl, hτ, hf⟩
    | succ k ih =>
      intro p τ u y hk hτ hf hu
      subst hu
      have hN := hτ.N
      have hH := hτ.r.2.1
      have e0 : hm_I τ 1 1 = nI (nPort α) := hτ.np.trans (congrArg nI (pAll_nP (fun β p => nP_of (old_N β p)) _ _))
      have wβ : sW (pAll pOld α p) := pAll_sW (fun β p => nP_of (old_N β p)) (fun β p wb hp => wb.old hp) w p (by omega)
      have hp : p < nPort (pAll pOld α p) := by rw [pAll_nP (fun β p => nP_of (old_N β p))]; omega
      have ih2 := ih (p + 1)
      rw [show pAll pOld α (p + 1) = pOld (pAll pOld α p) p from rfl] at ih2
      generalize pAll pOld α p = β at hτ wβ hp ih2
      have hR := (hτ.p hp).1
      have hn := hτ.pn hp
      have hs := S_pA0 p
      have et := hτ.tm
      have e3 : hm_I τ (pA p) 6 = aI β 3 p := hτ.i 3 p hp
      refine hm_iload_n dX4_endOldCalls_2 rfl ?_
      refine hm_aload_n dX4_endOldCalls_3 rfl ?_
      refine hm_getR lf_RX4_12 rfl rfl (by first | exact Nat.lt_of_lt_of_le (by decide) hN | assumption | (simp only [hm_n_wI, hm_n_wL, hm_n_wR, hm_n_g] at *; omega)) (hH 0) dX4_endOldCalls_4 ?_
      refine hm_getI lf_RX4_44 rfl rfl (by first | exact Nat.lt_of_lt_of_le (by decide) hN | assumption | (simp only [hm_n_wI, hm_n_wL, hm_n_wR, hm_n_g] at *; omega)) dX4_endOldCalls_7 ?_
      rw [e0]
      refine hm_icmp_ge 53 dX4_endOldCalls_10 (by decide) (fun h10 => absurd h10 (nI_ge (by omega) (by omega))) (fun _ => ?_)
      refine hm_aload_n dX4_endOldCalls_13 rfl ?_
      refine hm_getR lf_RX4_18 rfl rfl (by first | exact Nat.lt_of_lt_of_le (by decide) hN | assumption | (simp only [hm_n_wI, hm_n_wL, hm_n_wR, hm_n_g] at *; omega)) (hH 1) dX4_endOldCalls_14 ?_
      refine hm_iload_n dX4_endOldCalls_17 rfl ?_
      refine hm_aald _ (.ref (pA p)) rfl (by decide) (by first | exact Nat.lt_of_lt_of_le (by decide) hN | assumption | (simp only [hm_n_wI, hm_n_wL, hm_n_wR, hm_n_g] at *; omega)) rfl (by omega) (by decide) (Or.inr ⟨_, rfl, hR⟩) dX4_endOldCalls_18 ?_
      refine hm_astore_n dX4_endOldCalls_19 (by decide) rfl ?_
      refine hm_aload_n dX4_endOldCalls_20 rfl ?_
      refine hm_callV lm_RX4_140 (k2_isPending l hτ hp) rfl rfl hs rfl (by omega) (by decide) (by decide) (Nat.le_of_ble_eq_true rfl) dX4_endOldCalls_21 ?_
      rintro _ t9 ⟨rfl, hh9⟩
      rw [hh9]
      clear hh9 t9
      refine hm_if_eq 47 dX4_endOldCalls_24 (by decide) (fun h24 => ?_) (fun h24 => ?_)
      · skip
        rw [bI_0] at h24
        rw [show pOld β p = β by unfold pOld; rw [h24]; rfl] at ih2
        have hτ2 := hτ
        have hf2 := hf
        refine hm_iinc dX4_endOldCalls_47 rfl _ rfl (by decide) rfl ?_
        refine hm_goto 2 dX4_endOldCalls_50 (by decide) ?_
        exact ih2 _ _ _ (by omega) hτ2 hf2 (hm_inc p)
      · skip
        rw [bI_0] at h24
        refine hm_aload_n dX4_endOldCalls_27 rfl ?_
        refine hm_getI lf_RX4_84 rfl rfl (by first | exact Nat.lt_of_lt_of_le (by decide) hN | assumption | (simp only [hm_n_wI, hm_n_wL, hm_n_wR, hm_n_g] at *; omega)) dX4_endOldCalls_28 ?_
        rw [et]
        refine hm_aload_n dX4_endOldCalls_31 rfl ?_
        refine hm_getI lf_RX4_144 rfl hs (by omega) dX4_endOldCalls_32 ?_
        rw [e3]
        refine hm_isub dX4_endOldCalls_35 ?_
        refine hm_sipush dX4_endOldCalls_36 (v := 200) (by decide) ?_
        refine hm_icmp_le 47 dX4_endOldCalls_39 (by decide) (fun h39 => ?_) (fun h39 => ?_)
        · skip
          rw [show pOld β p = β by unfold pOld; rw [decide_eq_false (Int32.not_lt.mpr h39), Bool.and_false]; rfl] at ih2
          have hτ2 := hτ
          have hf2 := hf
          refine hm_iinc dX4_endOldCalls_47 rfl _ rfl (by decide) rfl ?_
          refine hm_goto 2 dX4_endOldCalls_50 (by decide) ?_
          exact ih2 _ _ _ (by omega) hτ2 hf2 (hm_inc p)
        · skip
          rw [show pOld β p = pEnds β p by unfold pOld; rw [b_nf h24, decide_eq_true (Int32.not_le.mp h39)]; rfl] at ih2
          have hs0 : aI β 1 p ≠ 0 := fun q => by rw [q] at h24; exact h24 rfl
          refine hm_aload_n dX4_endOldCalls_42 rfl ?_
          refine hm_aload_n dX4_endOldCalls_43 rfl ?_
          refine hm_callV lm_RX4_97 (k4_endCall l hτ wβ hp hs0) rfl rfl rfl rfl (by first | exact Nat.lt_of_lt_of_le (by decide) hN | assumption | (simp only [hm_n_wI, hm_n_wL, hm_n_wR, hm_n_g] at *; omega)) (by decide) (by decide) (Nat.le_of_ble_eq_true rfl) dX4_endOldCalls_44 ?_
          rintro _ ρ ⟨rfl, hτ2, hf2⟩
          replace hf2 := hf.tr hf2
          refine hm_iinc dX4_endOldCalls_47 rfl _ rfl (by decide) rfl ?_
          refine hm_goto 2 dX4_endOldCalls_50 (by decide) ?_
          exact ih2 _ _ _ (by omega) hτ2 hf2 (hm_inc p)
  refine hm_iconst dX4_endOldCalls_0 (v := 0) (by decide) ?_
  refine hm_istore_n dX4_endOldCalls_1 (by decide) rfl ?_
  exact hl _ 0 _ _ _ (Nat.zero_add _) h (cs_fr.rf σ) rfl
set_option maxRecDepth 100000 in
theorem k4_runFrame (h : rC α σ) (w : sW α) (ht : aN α 6 0 < 100000) : hm_Ct l yX4_runFrame cX4_runFrame 1 none 5 0 0 [.ref 0] σ (fun r τ => r = none ∧ rC (pFrame α) τ ∧ cs_fr σ τ) := by
  have hN := h.N
  have hH := h.r.2.1
  have et := h.tm
  have h0 : rC (pTick α) (hm_wI σ 0 3 (nI (aN α 6 0 + 1))) := h.upN 6 0 _ (by omega) (by show 0 < 1; decide)
  have w0 := w.tick ht
  have w1 : sW (pAllP pSetUp (pTick α)) := pAll_sW (fun β p => nP_of (setUp_N β p)) (fun β p wb hp => wb.setUp hp) w0 _ (Nat.le_refl _)
  have w2 := w1.send
  have w3 := w2.dropF
  have w4 : sW (pAllP pHand (pDropF (pSend (pAllP pSetUp (pTick α))))) := pAll_sW nP_hand (fun β p wb _ => wb.hand p) w3 _ (Nat.le_refl _)
  have w5 : sW (pAllP pNoB (pAllP pHand (pDropF (pSend (pAllP pSetUp (pTick α)))))) := pAll_sW nP_noB (fun β p wb hp => wb.noB hp) w4 _ (Nat.le_refl _)
  obtain ⟨w6, n6, -⟩ := w.calls ht
  have w7 : sW (pAllP pUp (pCalls α)) := pAll_sW (fun β p => nP_of (up_N β p)) (fun β p wb hp => wb.up hp) w6 _ (Nat.le_refl _)
  have n7 : aN (pAllP pUp (pCalls α)) = aN (pCalls α) := ups_N _ _
  have hh7 : ∀ q, q < nPort (pAllP pUp (pCalls α)) → aN (pAllP pUp (pCalls α)) 7 q + 1 ≤ aN (pAllP pUp (pCalls α)) 6 0 := fun q _ => by rw [n7, n6]; exact tick_h w q
  have w8 : sW (pVoice (pCalls α)) := downs_sW _ w7 hh7 _ (Nat.le_refl _)
  refine hm_startQ (ini := false) [.ref 0] (by decide) (by decide) rfl (Nat.le_of_ble_eq_true rfl) (fun Q hQ => ?_)
  refine hm_aload_n dX4_runFrame_0 rfl ?_
  refine hm_dup dX4_runFrame_1 rfl ?_
  refine hm_getI lf_RX4_84 rfl rfl (by first | exact Nat.lt_of_lt_of_le (by decide) hN | assumption | (simp only [hm_n_wI, hm_n_wL, hm_n_wR, hm_n_g] at *; omega)) dX4_runFrame_2 ?_
  rw [et]
  refine hm_iconst dX4_runFrame_5 (v := 1) (by decide) ?_
  refine hm_iadd dX4_runFrame_6 ?_
  rw [nI_1]
  refine hm_putI lf_RX4_84 rfl rfl rfl (by first | exact Nat.lt_of_lt_of_le (by decide) hN | assumption | (simp only [hm_n_wI, hm_n_wL, hm_n_wR, hm_n_g] at *; omega)) dX4_runFrame_7 ?_
  refine hm_aload_n dX4_runFrame_10 rfl ?_
  refine hm_callV lm_RX4_218 (k4_setUpBearers l h0 w0) rfl rfl rfl rfl (by first | exact Nat.lt_of_lt_of_le (by decide) hN | assumption | (simp only [hm_n_wI, hm_n_wL, hm_n_wR, hm_n_g] at *; omega)) (by decide) (by decide) (Nat.le_of_ble_eq_true rfl) dX4_runFrame_11 ?_
  rintro _ τ1 ⟨rfl, h1, f1⟩
  have hN := h1.N
  have hH := h1.r.2.1
  refine hm_aload_n dX4_runFrame_14 rfl ?_
  refine hm_getR lf_RX4_12 rfl rfl (by first | exact Nat.lt_of_lt_of_le (by decide) hN | assumption | (simp only [hm_n_wI, hm_n_wL, hm_n_wR, hm_n_g] at *; omega)) (hH 0) dX4_runFrame_15 ?_
  refine hm_callV lm_RX4_221 (k3_sendAll l h1 w1) rfl rfl rfl rfl (by first | exact Nat.lt_of_lt_of_le (by decide) hN | assumption | (simp only [hm_n_wI, hm_n_wL, hm_n_wR, hm_n_g] at *; omega)) (by decide) (by decide) (Nat.le_of_ble_eq_true rfl) dX4_runFrame_18 ?_
  rintro _ τ2 ⟨rfl, h2, f2⟩
  have hN := h2.N
  have hH := h2.r.2.1
  refine hm_aload_n dX4_runFrame_21 rfl ?_
  refine hm_getR lf_RX4_12 rfl rfl (by first | exact Nat.lt_of_lt_of_le (by decide) hN | assumption | (simp only [hm_n_wI, hm_n_wL, hm_n_wR, hm_n_g] at *; omega)) (hH 0) dX4_runFrame_22 ?_
  refine hm_callV lm_RX4_224 (k3_dropFailed l h2 w2) rfl rfl rfl rfl (by first | exact Nat.lt_of_lt_of_le (by decide) hN | assumption | (simp only [hm_n_wI, hm_n_wL, hm_n_wR, hm_n_g] at *; omega)) (by decide) (by decide) (Nat.le_of_ble_eq_true rfl) dX4_runFrame_25 ?_
  rintro _ τ3 ⟨rfl, h3, f3⟩
  have hN := h3.N
  have hH := h3.r.2.1
  refine hm_aload_n dX4_runFrame_28 rfl ?_
  refine hm_callV lm_RX4_227 (k4_dropHandedOver l h3 w3) rfl rfl rfl rfl (by first | exact Nat.lt_of_lt_of_le (by decide) hN | assumption | (simp only [hm_n_wI, hm_n_wL, hm_n_wR, hm_n_g] at *; omega)) (by decide) (by decide) (Nat.le_of_ble_eq_true rfl) dX4_runFrame_29 ?_
  rintro _ τ4 ⟨rfl, h4, f4⟩
  have hN := h4.N
  have hH := h4.r.2.1
  refine hm_aload_n dX4_runFrame_32 rfl ?_
  refine hm_callV lm_RX4_230 (k4_endCallsWithoutBearer l h4 w4) rfl rfl rfl rfl (by first | exact Nat.lt_of_lt_of_le (by decide) hN | assumption | (simp only [hm_n_wI, hm_n_wL, hm_n_wR, hm_n_g] at *; omega)) (by decide) (by decide) (Nat.le_of_ble_eq_true rfl) dX4_runFrame_33 ?_
  rintro _ τ5 ⟨rfl, h5, f5⟩
  have hN := h5.N
  have hH := h5.r.2.1
  refine hm_aload_n dX4_runFrame_36 rfl ?_
  refine hm_callV lm_RX4_233 (k4_advanceCalls l h5 w5) rfl rfl rfl rfl (by first | exact Nat.lt_of_lt_of_le (by decide) hN | assumption | (simp only [hm_n_wI, hm_n_wL, hm_n_wR, hm_n_g] at *; omega)) (by decide) (by decide) (Nat.le_of_ble_eq_true rfl) dX4_runFrame_37 ?_
  rintro _ τ6 ⟨rfl, h6, f6⟩
  have h6 : rC (pCalls α) τ6 := h6
  have hN := h6.N
  have hH := h6.r.2.1
  refine hm_aload_n dX4_runFrame_40 rfl ?_
  refine hm_callV lm_RX4_236 (k4_carryUp l h6 w6) rfl rfl rfl rfl (by first | exact Nat.lt_of_lt_of_le (by decide) hN | assumption | (simp only [hm_n_wI, hm_n_wL, hm_n_wR, hm_n_g] at *; omega)) (by decide) (by decide) (Nat.le_of_ble_eq_true rfl) dX4_runFrame_41 ?_
  rintro _ τ7 ⟨rfl, h7, f7, y7⟩
  have hN := h7.N
  have hH := h7.r.2.1
  refine hm_aload_n dX4_runFrame_44 rfl ?_
  refine hm_callV lm_RX4_239 (k4_carryDown l h7 w7 (fun p => (aQ (pCalls α) 1 p).length) (fun q hq => y7 q (by rw [nP_of n7] at hq; exact hq)) (fun q => ups_Q _ _ _) hh7) rfl rfl rfl rfl (by first | exact Nat.lt_of_lt_of_le (by decide) hN | assumption | (simp only [hm_n_wI, hm_n_wL, hm_n_wR, hm_n_g] at *; omega)) (by decide) (by decide) (Nat.le_of_ble_eq_true rfl) dX4_runFrame_45 ?_
  rintro _ τ8 ⟨rfl, h8, f8⟩
  have h8 : rC (pVoice (pCalls α)) τ8 := h8
  have hN := h8.N
  have hH := h8.r.2.1
  refine hm_aload_n dX4_runFrame_48 rfl ?_
  refine hm_callV lm_RX4_242 (k4_endOldCalls l h8 w8) rfl rfl rfl rfl (by first | exact Nat.lt_of_lt_of_le (by decide) hN | assumption | (simp only [hm_n_wI, hm_n_wL, hm_n_wR, hm_n_g] at *; omega)) (by decide) (by decide) (Nat.le_of_ble_eq_true rfl) dX4_runFrame_49 ?_
  rintro _ τ9 ⟨rfl, h9, f9⟩
  refine hm_vret dX4_runFrame_52 rfl (by decide) (by decide) ?_
  exact hQ _ _ ⟨rfl, h9, ((((((((((cs_fr.rf σ).wI 0 3 _ (by omega)).tr f1).tr f2).tr f3).tr f4).tr f5).tr f6).tr f7).tr f8).tr f9⟩
set_option maxRecDepth 100000 in
theorem k4_frames (h : rC α σ) (w : sW α) (n : Int32) : hm_Ct l yX4_frames cX4_frames 4 (some .int) 6 0 0 [.ref 0, .int n] σ (fun r τ => r = some (.int (oFrames α n).1) ∧ rC (oFrames α n).2 τ ∧ cs_fr σ τ) := by
  have hN := h.N
  have hH := h.r.2.1
  have ht := w.t
  have e1 := h.tm
  have e8 : hm_I σ 0 8 = aI α 4 5 := h.i 4 5 (by show 5 < 6; decide)
  refine hm_startQ (ini := false) [.ref 0, .int n, hm_u, hm_u] (by decide) (by decide) rfl (Nat.le_of_ble_eq_true rfl) (fun Q hQ => ?_)
  have hl : 1 ≤ n → n ≤ 1000 → nI (aN α 6 0) + n ≤ 100000 → ∀ (m k : Nat) (τ : hm_M) (u : Int32), k + m = n.toNatClampNeg → rC (pFrames α k) τ → cs_fr σ τ → sW (pFrames α k) → aN (pFrames α k) 6 0 = aN α 6 0 + k → u = nI k → hm_V l RX4 cX4_frames 4 (some .int) false (hm_rm 6 0 0) 0 0 Q 0 0 44 [.ref 0, .int n, .int (aI α 4 5), .int u] [] τ := by
    intro n1 n2 n3
    obtain ⟨j, hj, rfl⟩ := nI_of2 (M := 1000) (n := 1000) (by decide) (Int32.not_lt.mpr (Int32.le_trans (by decide) n1)) n2
    rw [nI_clamp (by omega)]
    have hT : aN α 6 0 + j ≤ 100000 := by
      rw [nI_add] at n3
      exact (nI_leI (b := 100000) (by omega) (by decide)).mp n3
    have hres : oFrames α (nI j) = (aI (pFrames α j) 4 5 - aI α 4 5, pFrames α j) := by
      unfold oFrames
      rw [if_neg (Int32.not_lt.mpr n1), if_neg (by rintro (q | q); exact absurd n2 (Int32.not_le.mpr q); exact absurd n3 (Int32.not_le.mpr q)), nI_clamp (by omega)]
    intro m
    induction m with
    | zero =>
      intro k τ u hk hτ hf wτ tτ hu
      subst hu
      have hN := hτ.N
      obtain rfl : k = j := by omega
      have e8 : hm_I τ 0 8 = aI (pFrames α k) 4 5 := hτ.i 4 5 (by show 5 < 6; decide)
      refine hm_iload_n dX4_frames_44 rfl ?_
      refine hm_iload_n dX4_frames_45 rfl ?_
      refine hm_icmp_ge 59 dX4_frames_46 (by decide) (fun _ => ?_) (fun h46 => absurd (Int32.le_refl _) h46)
      refine hm_aload_n dX4_frames_59 rfl ?_
      refine hm_getI lf_RX4_115 rfl rfl (by first | exact Nat.lt_of_lt_of_le (by decide) hN | assumption | (simp only [hm_n_wI, hm_n_wL, hm_n_wR, hm_n_g] at *; omega)) dX4_frames_60 ?_
      rw [e8]
      refine hm_iload_n dX4_frames_63 rfl ?_
      refine hm_isub dX4_frames_64 ?_
      refine hm_iret dX4_frames_65 rfl (by decide) (by decide) ?_
      exact hQ _ _ ⟨by rw [hres], by rw [hres]; exact hτ, hf⟩
    | succ m ih =>
      intro k τ u hk hτ hf wτ tτ hu
      subst hu
      have hN := hτ.N
      obtain ⟨wf, tf, -⟩ := wτ.frame (by omega)
      refine hm_iload_n dX4_frames_44 rfl ?_
      refine hm_iload_n dX4_frames_45 rfl ?_
      refine hm_icmp_ge 59 dX4_frames_46 (by decide) (fun h46 => absurd h46 (nI_ge (by omega) (by omega))) (fun _ => ?_)
      refine hm_aload_n dX4_frames_49 rfl ?_
      refine hm_callV lm_RX4_118 (k4_runFrame l hτ wτ (by omega)) rfl rfl rfl rfl (by first | exact Nat.lt_of_lt_of_le (by decide) hN | assumption | (simp only [hm_n_wI, hm_n_wL, hm_n_wR, hm_n_g] at *; omega)) (by decide) (by decide) (Nat.le_of_ble_eq_true rfl) dX4_frames_50 ?_
      rintro _ ρ ⟨rfl, hρ, hf2⟩
      have hN := hρ.N
      refine hm_iinc dX4_frames_53 rfl _ rfl (by decide) rfl ?_
      refine hm_goto 44 dX4_frames_56 (by decide) ?_
      exact ih (k + 1) _ _ (by omega) hρ (hf.tr hf2) wf (by show aN (pFrame (pFrames α k)) 6 0 = _; rw [tf, tτ]; omega) (hm_inc k)
  refine hm_iload_n dX4_frames_0 rfl ?_
  refine hm_iconst dX4_frames_1 (v := 1) (by decide) ?_
  refine hm_icmp_ge 12 dX4_frames_2 (by decide) (fun h2 => ?_) (fun h2 => ?_)
  · skip
    refine hm_iload_n dX4_frames_12 rfl ?_
    refine hm_sipush dX4_frames_13 (v := 1000) (by decide) ?_
    refine hm_icmp_gt 30 dX4_frames_16 (by decide) (fun h16 => ?_) (fun h16 => ?_)
    · skip
      have h1000 : 1000 < n ∨ 100000 < nI (aN α 6 0) + n := Or.inl h16
      refine hm_aload_n dX4_frames_30 rfl ?_
      refine hm_bipush dX4_frames_31 (v := -6) (by decide) ?_
      refine hm_callV lm_RX4_30 (k4_refuse l h (w := 6) (by decide)) rfl rfl rfl rfl (by first | exact Nat.lt_of_lt_of_le (by decide) hN | assumption | (simp only [hm_n_wI, hm_n_wL, hm_n_wR, hm_n_g] at *; omega)) (by decide) (by decide) (Nat.le_of_ble_eq_true rfl) dX4_frames_33 ?_
      rintro _ τ ⟨rfl, hτ, hf⟩
      refine hm_iret dX4_frames_36 rfl (by decide) (by decide) ?_
      refine hQ _ _ ⟨?_, ?_, hf⟩
      rw [oFrames, if_neg (Int32.not_lt.mpr h2), if_pos h1000]
      rw [oFrames, if_neg (Int32.not_lt.mpr h2), if_pos h1000]; exact hτ
    · skip
      refine hm_aload_n dX4_frames_19 rfl ?_
      refine hm_getI lf_RX4_84 rfl rfl (by first | exact Nat.lt_of_lt_of_le (by decide) hN | assumption | (simp only [hm_n_wI, hm_n_wL, hm_n_wR, hm_n_g] at *; omega)) dX4_frames_20 ?_
      rw [e1]
      refine hm_iload_n dX4_frames_23 rfl ?_
      refine hm_iadd dX4_frames_24 ?_
      refine hm_ldc dX4_frames_25 lk_RX4_114 ?_
      refine hm_icmp_le 37 dX4_frames_27 (by decide) (fun h27 => ?_) (fun h27 => ?_)
      · skip
        refine hm_aload_n dX4_frames_37 rfl ?_
        refine hm_getI lf_RX4_115 rfl rfl (by first | exact Nat.lt_of_lt_of_le (by decide) hN | assumption | (simp only [hm_n_wI, hm_n_wL, hm_n_wR, hm_n_g] at *; omega)) dX4_frames_38 ?_
        rw [e8]
        refine hm_istore_n dX4_frames_41 (by decide) rfl ?_
        refine hm_iconst dX4_frames_42 (v := 0) (by decide) ?_
        refine hm_istore_n dX4_frames_43 (by decide) rfl ?_
        exact hl h2 (Int32.not_lt.mp h16) h27 _ 0 _ _ (Nat.zero_add _) h (cs_fr.rf σ) w rfl rfl
      · skip
        have h1000 : 1000 < n ∨ 100000 < nI (aN α 6 0) + n := Or.inr (Int32.not_le.mp h27)
        refine hm_aload_n dX4_frames_30 rfl ?_
        refine hm_bipush dX4_frames_31 (v := -6) (by decide) ?_
        refine hm_callV lm_RX4_30 (k4_refuse l h (w := 6) (by decide)) rfl rfl rfl rfl (by first | exact Nat.lt_of_lt_of_le (by decide) hN | assumption | (simp only [hm_n_wI, hm_n_wL, hm_n_wR, hm_n_g] at *; omega)) (by decide) (by decide) (Nat.le_of_ble_eq_true rfl) dX4_frames_33 ?_
        rintro _ τ ⟨rfl, hτ, hf⟩
        refine hm_iret dX4_frames_36 rfl (by decide) (by decide) ?_
        refine hQ _ _ ⟨?_, ?_, hf⟩
        rw [oFrames, if_neg (Int32.not_lt.mpr h2), if_pos h1000]
        rw [oFrames, if_neg (Int32.not_lt.mpr h2), if_pos h1000]; exact hτ
  · skip
    refine hm_aload_n dX4_frames_5 rfl ?_
    refine hm_bipush dX4_frames_6 (v := -4) (by decide) ?_
    refine hm_callV lm_RX4_30 (k4_refuse l h (w := 4) (by decide)) rfl rfl rfl rfl (by first | exact Nat.lt_of_lt_of_le (by decide) hN | assumption | (simp only [hm_n_wI, hm_n_wL, hm_n_wR, hm_n_g] at *; omega)) (by decide) (by decide) (Nat.le_of_ble_eq_true rfl) dX4_frames_8 ?_
    rintro _ τ ⟨rfl, hτ, hf⟩
    refine hm_iret dX4_frames_11 rfl (by decide) (by decide) ?_
    refine hQ _ _ ⟨?_, ?_, hf⟩
    rw [oFrames, if_pos (Int32.not_le.mp h2)]
    rw [oFrames, if_pos (Int32.not_le.mp h2)]; exact hτ
end C9
