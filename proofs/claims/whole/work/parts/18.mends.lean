/-! the reference: a call ends; sending -/
def bK (x : sBr) : Nat × Nat × Nat := (bOf x, bAt x, bCh x)
theorem any_key (C : List sBr) (F : Nat × Nat × Nat → Bool) : C.any (fun x => F (bK x)) = (C.map bK).any F := by rw [List.any_map]; rfl
section KY
variable {α : sA} {C : List sBr} (hk : C.map bK = (aB α).map bK)
theorem ky_any (F : Nat × Nat × Nat → Bool) (hk : C.map bK = (aB α).map bK) : C.any (fun x => F (bK x)) = (aB α).any (fun x => F (bK x)) := by rw [any_key, any_key, hk]
theorem ky_sends (hk : C.map bK = (aB α).map bK) : pSends (sB α C) = pSends α := by
  funext c ch
  have := ky_any (α := α) (C := C) (fun k => decide (k.2.1 = c) && decide (k.2.2 = ch)) hk
  unfold pSends
  rw [aB_sB, aN_sB]
  exact congrArg _ this
theorem ky_talks (hk : C.map bK = (aB α).map bK) : pTalks (sB α C) = pTalks α := by
  funext c ch
  exact ky_any (α := α) (C := C) (fun k => decide (k.1 = c) && decide (k.2.2 = ch)) hk
theorem ky_hat (hk : C.map bK = (aB α).map bK) : pHAt (sB α C) = pHAt α := by
  funext pl c ch
  unfold pHAt pOSend
  rw [ky_sends hk]
  rfl
theorem ky_hby (hk : C.map bK = (aB α).map bK) : pHBy (sB α C) = pHBy α := by
  funext pl c ch
  unfold pHBy pOTalk
  rw [ky_talks hk]
  rfl
theorem ky_isg (hk : C.map bK = (aB α).map bK) : pIsG (sB α C) = pIsG α := by
  funext x
  unfold pIsG
  rw [ky_hat hk, ky_hby hk]
  rfl
theorem sW.key (w : sW α) (hk : C.map bK = (aB α).map bK) : sW (sB α C) := by
  refine ⟨w.1, w.2.1, fun x hx => ?_, ?_, fun p => ?_, w.2.2.2.2.2.1, w.2.2.2.2.2.2.1, w.2.2.2.2.2.2.2.1, w.2.2.2.2.2.2.2.2⟩
  · have : bK x ∈ (aB α).map bK := by rw [← hk]; exact List.mem_map.mpr ⟨x, hx, rfl⟩
    obtain ⟨y, hy, e⟩ := List.mem_map.mp this
    have h := w.x hy
    have e1 : bOf y = bOf x := congrArg (·.1) e
    have e2 : bAt y = bAt x := congrArg (·.2.1) e
    have e3 : bCh y = bCh x := congrArg (·.2.2) e
    rw [e1, e2, e3] at h
    exact h
  · have h := w.pw
    have h1 : ((aB α).map bK).Pairwise (fun x y => (x.2.1 = y.2.1 ∨ x.1 = y.1) → x.2.2 / 10 ≠ y.2.2 / 10) := List.pairwise_map.mpr h
    rw [← hk] at h1
    exact List.pairwise_map.mp h1
  · have h := w.nb p
    unfold pNb at h ⊢
    have e : ∀ D : List sBr, D.countP (fun x => decide (bOf x = p)) = (D.map bK).countP (fun k => decide (k.1 = p)) := fun D => by rw [List.countP_map]; rfl
    rw [aB_sB, e, hk, ← e]
    exact h
end KY
theorem set_mid {β : Type} (l1 l2 : List β) (x y : β) : (l1 ++ x :: l2).set l1.length y = l1 ++ y :: l2 := by
  rw [List.set_append_right _ _ (Nat.le_refl _)]
  simp
/-- one bearer's own two numbers change -/
theorem rM.setX {α : sA} {τ : hm_M} (h : rM α τ) {b : Nat} {x : sBr} (hx : (aB α)[b]? = some x) (fl : Int32) (g : Bool) : rM (sB α ((aB α).set b (bOf x, bAt x, bCh x, fl, g))) (hm_wI (hm_wI τ 41 b fl) 42 b (bI g)) := by
  obtain ⟨hb1, hb2⟩ := h.b
  refine h.newB (fun a k h1 h2 => ?_) rfl rfl rfl ⟨?_, fun j y hj => ?_⟩
  · rw [hm_I_wI, if_neg (by omega), hm_I_wI, if_neg (by omega)]
  · rw [hm_I_wI, if_neg (by omega), hm_I_wI, if_neg (by omega), List.length_set]; exact hb1
  · rw [List.getElem?_set] at hj
    by_cases e : b = j
    · subst e
      rw [if_pos rfl, if_pos (List.getElem?_eq_some_iff.mp hx).1] at hj
      cases hj
      obtain ⟨e1, e2, e3, -, -⟩ := hb2 b x hx
      refine ⟨?_, ?_, ?_, ?_, ?_⟩ <;> simp [hm_I_wI, *]
    · rw [if_neg e] at hj
      obtain ⟨e1, e2, e3, e4, e5⟩ := hb2 j y hj
      have e' : ¬ j = b := fun q => e q.symm
      refine ⟨?_, ?_, ?_, ?_, ?_⟩ <;> simp [hm_I_wI, *]
theorem rM.setG {α : sA} {τ : hm_M} (h : rM α τ) {b : Nat} {x : sBr} (hx : (aB α)[b]? = some x) (g : Bool) : rM (sB α ((aB α).set b (bOf x, bAt x, bCh x, bFl x, g))) (hm_wI τ 42 b (bI g)) := by
  have h1 := h.setX hx (bFl x) g
  have e : hm_wI (hm_wI τ 41 b (bFl x)) 42 b (bI g) = hm_wI τ 42 b (bI g) := by
    have e4 := (h.b.2 b x hx).2.2.2.1
    unfold hm_wI
    congr 1
    funext a j
    by_cases q : a = 42 ∧ j = b
    · simp [q]
    · rw [if_neg q, if_neg q]
      show (if a = 41 ∧ j = b then bFl x else τ.1 a j) = τ.1 a j
      by_cases q2 : a = 41 ∧ j = b
      · rw [if_pos q2, q2.1, q2.2]; exact e4.symm
      · rw [if_neg q2]
  rw [e] at h1
  exact h1
theorem rM.setF {α : sA} {τ : hm_M} (h : rM α τ) {b : Nat} {x : sBr} (hx : (aB α)[b]? = some x) (fl : Int32) : rM (sB α ((aB α).set b (bOf x, bAt x, bCh x, fl, bGd x))) (hm_wI τ 41 b fl) := by
  have h1 := h.setX hx fl (bGd x)
  have e : hm_wI (hm_wI τ 41 b fl) 42 b (bI (bGd x)) = hm_wI τ 41 b fl := by
    have e5 := (h.b.2 b x hx).2.2.2.2
    unfold hm_wI
    congr 1
    funext a j
    by_cases q : a = 42 ∧ j = b
    · rw [if_pos q, if_neg (by omega), q.1, q.2]; exact e5.symm
    · rw [if_neg q]
  rw [e] at h1
  exact h1
section M8
variable (l : Launch) {α : sA} {σ : hm_M}
theorem r5_called (σ : hm_M) (s : Int32) : hm_Ct l yX5_in cX5_in 3 (some .boolean) 0 0 0 [.int s, .int 4, .int 6] σ (fun r τ => r = some (.int (bI (pCalled s))) ∧ τ = σ) := c5_in l σ s 4 6
set_option maxRecDepth 100000 in
theorem r5_ends (h : rM α σ) (w : sW α) {p : Nat} (hp : p < nPort α) (hs : aI α 1 p ≠ 0) : hm_Ct l yX5_ends cX5_ends 5 none 2 0 0 [.ref 27, .int (nI p)] σ (fun r τ => r = none ∧ rM (pEnds α p) τ ∧ md_fr σ τ) := by
  obtain ⟨hN, hM⟩ := h.m
  have h8 := w.p8
  obtain ⟨hq, hne, hpar, -, -⟩ := w.par hp hs
  have e1 : hm_I σ 34 p = nI (pPar α p) := (h.i 2 p (by show p < 8; omega)).trans hpar
  have e2 : hm_I σ 33 p = aI α 1 p := h.i 1 p (by show p < 8; omega)
  have e3 : hm_I σ 33 (pPar α p) = aI α 1 (pPar α p) := h.i 1 (pPar α p) (by show pPar α p < 8; omega)
  have e4 : hm_I σ 34 (pPar α p) = aI α 2 (pPar α p) := h.i 2 (pPar α p) (by show pPar α p < 8; omega)
  have hof : ∀ β : sA, sW β → ∀ x ∈ aB β, bOf x < 8 := fun β wβ x hx => by have := (wβ.x hx).1; have := wβ.p8; omega
  refine hm_startQ (ini := false) [.ref 27, .int (nI p), hm_u, hm_u, hm_u] (by decide) (by decide) rfl (Nat.le_of_ble_eq_true rfl) (fun Q hQ => ?_)
  have j2 : ∀ v y : Int32, v = bI (pTog α p) → hm_V l RX5 cX5_ends 5 none false (hm_rm 2 0 0) 0 0 Q 0 0 108 [.ref 27, .int (nI p), .int (nI (pPar α p)), .int y, hm_u] [.int v] σ := by
    intro v y hv
    subst hv
    refine hm_istore dX5_ends_108 (by decide) rfl ?_
    refine hm_aload_n dX5_ends_110 rfl ?_
    refine hm_iload_n dX5_ends_111 rfl ?_
    refine hm_callV lm_RX5_119 (r5_idle l h w.len (hof α w) (by omega)) rfl rfl rfl rfl (by first | exact Nat.lt_of_lt_of_le (by decide) hN | assumption | (simp only [hm_n_wI, hm_n_wL, hm_n_wR, hm_n_g] at *; omega)) (by decide) (by decide) (Nat.le_of_ble_eq_true rfl) dX5_ends_112 ?_
    rintro _ τ ⟨rfl, hτ, hf⟩
    obtain ⟨hN, hM⟩ := hτ.m
    refine hm_iload dX5_ends_115 rfl ?_
    refine hm_if_eq 125 dX5_ends_117 (by decide) (fun h117 => ?_) (fun h117 => ?_)
    · skip
      rw [bI_0] at h117
      have e5 : hm_I τ 27 29 = aI (pIdle α p) 4 2 := hτ.i 4 2 (by decide)
      refine hm_aload_n dX5_ends_125 rfl ?_
      refine hm_dup dX5_ends_126 rfl ?_
      refine hm_getI lf_RX5_122 rfl rfl (by first | exact Nat.lt_of_lt_of_le (by decide) hN | assumption | (simp only [hm_n_wI, hm_n_wL, hm_n_wR, hm_n_g] at *; omega)) dX5_ends_127 ?_
      rw [e5]
      refine hm_iconst dX5_ends_130 (v := 1) (by decide) ?_
      refine hm_iadd dX5_ends_131 ?_
      refine hm_putI lf_RX5_122 rfl rfl rfl (by first | exact Nat.lt_of_lt_of_le (by decide) hN | assumption | (simp only [hm_n_wI, hm_n_wL, hm_n_wR, hm_n_g] at *; omega)) dX5_ends_132 ?_
      refine hm_vret dX5_ends_135 rfl (by decide) (by decide) ?_
      first | (have e6 : pTog α p = true := by simpa using h117) | skip
      first | exact hQ _ _ ⟨rfl, by unfold pEnds; rw [if_pos e6]; exact hρ.upI 4 2 _ (by decide), (hf.tr hf2).wI 27 29 _ (by decide)⟩ | exact hQ _ _ ⟨rfl, by unfold pEnds; rw [if_neg (by rw [h117]; decide)]; exact hτ.upI 4 2 _ (by decide), hf.wI 27 29 _ (by decide)⟩
    · skip
      rw [bI_0] at h117
      refine hm_aload_n dX5_ends_120 rfl ?_
      refine hm_iload_n dX5_ends_121 rfl ?_
      refine hm_callV lm_RX5_119 (r5_idle l hτ (w.idle hp).len (hof _ (w.idle hp)) (by omega)) rfl rfl rfl rfl (by first | exact Nat.lt_of_lt_of_le (by decide) hN | assumption | (simp only [hm_n_wI, hm_n_wL, hm_n_wR, hm_n_g] at *; omega)) (by decide) (by decide) (Nat.le_of_ble_eq_true rfl) dX5_ends_122 ?_
      rintro _ ρ ⟨rfl, hρ, hf2⟩
      obtain ⟨hN, hM⟩ := hρ.m
      have e5 : hm_I ρ 27 29 = aI (pIdle (pIdle α p) (pPar α p)) 4 2 := hρ.i 4 2 (by decide)
      refine hm_aload_n dX5_ends_125 rfl ?_
      refine hm_dup dX5_ends_126 rfl ?_
      refine hm_getI lf_RX5_122 rfl rfl (by first | exact Nat.lt_of_lt_of_le (by decide) hN | assumption | (simp only [hm_n_wI, hm_n_wL, hm_n_wR, hm_n_g] at *; omega)) dX5_ends_127 ?_
      rw [e5]
      refine hm_iconst dX5_ends_130 (v := 1) (by decide) ?_
      refine hm_iadd dX5_ends_131 ?_
      refine hm_putI lf_RX5_122 rfl rfl rfl (by first | exact Nat.lt_of_lt_of_le (by decide) hN | assumption | (simp only [hm_n_wI, hm_n_wL, hm_n_wR, hm_n_g] at *; omega)) dX5_ends_132 ?_
      refine hm_vret dX5_ends_135 rfl (by decide) (by decide) ?_
      first | (have e6 : pTog α p = true := by simpa using h117) | skip
      first | exact hQ _ _ ⟨rfl, by unfold pEnds; rw [if_pos e6]; exact hρ.upI 4 2 _ (by decide), (hf.tr hf2).wI 27 29 _ (by decide)⟩ | exact hQ _ _ ⟨rfl, by unfold pEnds; rw [if_neg (by rw [h117]; decide)]; exact hτ.upI 4 2 _ (by decide), hf.wI 27 29 _ (by decide)⟩
  have j1 : ∀ v : Int32, v = bI (pBoth (aI α 1 p) (aI α 1 (pPar α p))) → hm_V l RX5 cX5_ends 5 none false (hm_rm 2 0 0) 0 0 Q 0 0 88 [.ref 27, .int (nI p), .int (nI (pPar α p)), hm_u, hm_u] [.int v] σ := by
    intro v hv
    subst hv
    refine hm_istore_n dX5_ends_88 (by decide) rfl ?_
    refine hm_aload_n dX5_ends_89 rfl ?_
    refine hm_getR lf_RX5_30 rfl rfl (by first | exact Nat.lt_of_lt_of_le (by decide) hN | assumption | (simp only [hm_n_wI, hm_n_wL, hm_n_wR, hm_n_g] at *; omega)) (hM 8) dX5_ends_90 ?_
    refine hm_iload_n dX5_ends_93 rfl ?_
    refine hm_iald _ rfl (by first | exact Nat.lt_of_lt_of_le (by decide) hN | assumption | (simp only [hm_n_wI, hm_n_wL, hm_n_wR, hm_n_g] at *; omega)) rfl (by omega) (by decide) dX5_ends_94 ?_
    rw [e4]
    refine hm_iload_n dX5_ends_95 rfl ?_
    refine hm_icmp_ne 107 dX5_ends_96 (by decide) (fun h96 => ?_) (fun h96 => ?_)
    · skip
      refine hm_iconst dX5_ends_107 (v := 0) (by decide) ?_
      exact j2 _ _ (by unfold pTog; simp_all [bI])
    · skip
      refine hm_iload_n dX5_ends_99 rfl ?_
      refine hm_if_eq 107 dX5_ends_100 (by decide) (fun h100 => ?_) (fun h100 => ?_)
      · skip
        rw [bI_0] at h100
        refine hm_iconst dX5_ends_107 (v := 0) (by decide) ?_
        exact j2 _ _ (by unfold pTog; simp_all [bI])
      · skip
        rw [bI_0] at h100
        refine hm_iconst dX5_ends_103 (v := 1) (by decide) ?_
        refine hm_goto 108 dX5_ends_104 (by decide) ?_
        exact j2 _ _ (by unfold pTog; simp_all [bI])
  refine hm_aload_n dX5_ends_0 rfl ?_
  refine hm_getR lf_RX5_30 rfl rfl (by first | exact Nat.lt_of_lt_of_le (by decide) hN | assumption | (simp only [hm_n_wI, hm_n_wL, hm_n_wR, hm_n_g] at *; omega)) (hM 8) dX5_ends_1 ?_
  refine hm_iload_n dX5_ends_4 rfl ?_
  refine hm_iald _ rfl (by first | exact Nat.lt_of_lt_of_le (by decide) hN | assumption | (simp only [hm_n_wI, hm_n_wL, hm_n_wR, hm_n_g] at *; omega)) rfl (by omega) (by decide) dX5_ends_5 ?_
  rw [e1]
  refine hm_istore_n dX5_ends_6 (by decide) rfl ?_
  refine hm_aload_n dX5_ends_7 rfl ?_
  refine hm_getR lf_RX5_27 rfl rfl (by first | exact Nat.lt_of_lt_of_le (by decide) hN | assumption | (simp only [hm_n_wI, hm_n_wL, hm_n_wR, hm_n_g] at *; omega)) (hM 7) dX5_ends_8 ?_
  refine hm_iload_n dX5_ends_11 rfl ?_
  refine hm_iald _ rfl (by first | exact Nat.lt_of_lt_of_le (by decide) hN | assumption | (simp only [hm_n_wI, hm_n_wL, hm_n_wR, hm_n_g] at *; omega)) rfl (by omega) (by decide) dX5_ends_12 ?_
  rw [e2]
  refine hm_bipush dX5_ends_13 (v := 7) (by decide) ?_
  refine hm_icmp_ne 29 dX5_ends_15 (by decide) (fun h15 => ?_) (fun h15 => ?_)
  · skip
    refine hm_aload_n dX5_ends_29 rfl ?_
    refine hm_getR lf_RX5_27 rfl rfl (by first | exact Nat.lt_of_lt_of_le (by decide) hN | assumption | (simp only [hm_n_wI, hm_n_wL, hm_n_wR, hm_n_g] at *; omega)) (hM 7) dX5_ends_30 ?_
    refine hm_iload_n dX5_ends_33 rfl ?_
    refine hm_iald _ rfl (by first | exact Nat.lt_of_lt_of_le (by decide) hN | assumption | (simp only [hm_n_wI, hm_n_wL, hm_n_wR, hm_n_g] at *; omega)) rfl (by omega) (by decide) dX5_ends_34 ?_
    rw [e2]
    refine hm_callS lm_RX5_116 (r5_isCaller l _ _) rfl rfl (by decide) (by decide) (Nat.le_of_ble_eq_true rfl) dX5_ends_35 ?_
    rintro _ _ ⟨rfl, rfl⟩
    refine hm_if_eq 56 dX5_ends_38 (by decide) (fun h38 => ?_) (fun h38 => ?_)
    · skip
      rw [bI_0] at h38
      refine hm_aload_n dX5_ends_56 rfl ?_
      refine hm_getR lf_RX5_27 rfl rfl (by first | exact Nat.lt_of_lt_of_le (by decide) hN | assumption | (simp only [hm_n_wI, hm_n_wL, hm_n_wR, hm_n_g] at *; omega)) (hM 7) dX5_ends_57 ?_
      refine hm_iload_n dX5_ends_60 rfl ?_
      refine hm_iald _ rfl (by first | exact Nat.lt_of_lt_of_le (by decide) hN | assumption | (simp only [hm_n_wI, hm_n_wL, hm_n_wR, hm_n_g] at *; omega)) rfl (by omega) (by decide) dX5_ends_61 ?_
      rw [e2]
      refine hm_iconst dX5_ends_62 (v := 4) (by decide) ?_
      refine hm_bipush dX5_ends_63 (v := 6) (by decide) ?_
      refine hm_callS lm_RX5_88 (r5_called l _ _) rfl rfl (by decide) (by decide) (Nat.le_of_ble_eq_true rfl) dX5_ends_65 ?_
      rintro _ _ ⟨rfl, rfl⟩
      refine hm_if_eq 87 dX5_ends_68 (by decide) (fun h68 => ?_) (fun h68 => ?_)
      · skip
        rw [bI_0] at h68
        refine hm_iconst dX5_ends_87 (v := 0) (by decide) ?_
        exact j1 _ (by clear j1 j2 hQ hof; simp_all [pBoth, bI])
      · skip
        rw [bI_0] at h68
        refine hm_aload_n dX5_ends_71 rfl ?_
        refine hm_getR lf_RX5_27 rfl rfl (by first | exact Nat.lt_of_lt_of_le (by decide) hN | assumption | (simp only [hm_n_wI, hm_n_wL, hm_n_wR, hm_n_g] at *; omega)) (hM 7) dX5_ends_72 ?_
        refine hm_iload_n dX5_ends_75 rfl ?_
        refine hm_iald _ rfl (by first | exact Nat.lt_of_lt_of_le (by decide) hN | assumption | (simp only [hm_n_wI, hm_n_wL, hm_n_wR, hm_n_g] at *; omega)) rfl (by omega) (by decide) dX5_ends_76 ?_
        rw [e3]
        refine hm_callS lm_RX5_116 (r5_isCaller l _ _) rfl rfl (by decide) (by decide) (Nat.le_of_ble_eq_true rfl) dX5_ends_77 ?_
        rintro _ _ ⟨rfl, rfl⟩
        refine hm_if_eq 87 dX5_ends_80 (by decide) (fun h80 => ?_) (fun h80 => ?_)
        · skip
          rw [bI_0] at h80
          refine hm_iconst dX5_ends_87 (v := 0) (by decide) ?_
          exact j1 _ (by clear j1 j2 hQ hof; simp_all [pBoth, bI])
        · skip
          rw [bI_0] at h80
          refine hm_iconst dX5_ends_83 (v := 1) (by decide) ?_
          refine hm_goto 88 dX5_ends_84 (by decide) ?_
          exact j1 _ (by clear j1 j2 hQ hof; simp_all [pBoth, bI])
    · skip
      rw [bI_0] at h38
      refine hm_aload_n dX5_ends_41 rfl ?_
      refine hm_getR lf_RX5_27 rfl rfl (by first | exact Nat.lt_of_lt_of_le (by decide) hN | assumption | (simp only [hm_n_wI, hm_n_wL, hm_n_wR, hm_n_g] at *; omega)) (hM 7) dX5_ends_42 ?_
      refine hm_iload_n dX5_ends_45 rfl ?_
      refine hm_iald _ rfl (by first | exact Nat.lt_of_lt_of_le (by decide) hN | assumption | (simp only [hm_n_wI, hm_n_wL, hm_n_wR, hm_n_g] at *; omega)) rfl (by omega) (by decide) dX5_ends_46 ?_
      rw [e3]
      refine hm_iconst dX5_ends_47 (v := 4) (by decide) ?_
      refine hm_bipush dX5_ends_48 (v := 6) (by decide) ?_
      refine hm_callS lm_RX5_88 (r5_called l _ _) rfl rfl (by decide) (by decide) (Nat.le_of_ble_eq_true rfl) dX5_ends_50 ?_
      rintro _ _ ⟨rfl, rfl⟩
      refine hm_if_ne 83 dX5_ends_53 (by decide) (fun h53 => ?_) (fun h53 => ?_)
      · skip
        rw [bI_0] at h53
        refine hm_iconst dX5_ends_83 (v := 1) (by decide) ?_
        refine hm_goto 88 dX5_ends_84 (by decide) ?_
        exact j1 _ (by clear j1 j2 hQ hof; simp_all [pBoth, bI])
      · skip
        rw [bI_0] at h53
        refine hm_aload_n dX5_ends_56 rfl ?_
        refine hm_getR lf_RX5_27 rfl rfl (by first | exact Nat.lt_of_lt_of_le (by decide) hN | assumption | (simp only [hm_n_wI, hm_n_wL, hm_n_wR, hm_n_g] at *; omega)) (hM 7) dX5_ends_57 ?_
        refine hm_iload_n dX5_ends_60 rfl ?_
        refine hm_iald _ rfl (by first | exact Nat.lt_of_lt_of_le (by decide) hN | assumption | (simp only [hm_n_wI, hm_n_wL, hm_n_wR, hm_n_g] at *; omega)) rfl (by omega) (by decide) dX5_ends_61 ?_
        rw [e2]
        refine hm_iconst dX5_ends_62 (v := 4) (by decide) ?_
        refine hm_bipush dX5_ends_63 (v := 6) (by decide) ?_
        refine hm_callS lm_RX5_88 (r5_called l _ _) rfl rfl (by decide) (by decide) (Nat.le_of_ble_eq_true rfl) dX5_ends_65 ?_
        rintro _ _ ⟨rfl, rfl⟩
        refine hm_if_eq 87 dX5_ends_68 (by decide) (fun h68 => ?_) (fun h68 => ?_)
        · skip
          rw [bI_0] at h68
          refine hm_iconst dX5_ends_87 (v := 0) (by decide) ?_
          exact j1 _ (by clear j1 j2 hQ hof; simp_all [pBoth, bI])
        · skip
          rw [bI_0] at h68
          refine hm_aload_n dX5_ends_71 rfl ?_
          refine hm_getR lf_RX5_27 rfl rfl (by first | exact Nat.lt_of_lt_of_le (by decide) hN | assumption | (simp only [hm_n_wI, hm_n_wL, hm_n_wR, hm_n_g] at *; omega)) (hM 7) dX5_ends_72 ?_
          refine hm_iload_n dX5_ends_75 rfl ?_
          refine hm_iald _ rfl (by first | exact Nat.lt_of_lt_of_le (by decide) hN | assumption | (simp only [hm_n_wI, hm_n_wL, hm_n_wR, hm_n_g] at *; omega)) rfl (by omega) (by decide) dX5_ends_76 ?_
          rw [e3]
          refine hm_callS lm_RX5_116 (r5_isCaller l _ _) rfl rfl (by decide) (by decide) (Nat.le_of_ble_eq_true rfl) dX5_ends_77 ?_
          rintro _ _ ⟨rfl, rfl⟩
          refine hm_if_eq 87 dX5_ends_80 (by decide) (fun h80 => ?_) (fun h80 => ?_)
          · skip
            rw [bI_0] at h80
            refine hm_iconst dX5_ends_87 (v := 0) (by decide) ?_
            exact j1 _ (by clear j1 j2 hQ hof; simp_all [pBoth, bI])
          · skip
            rw [bI_0] at h80
            refine hm_iconst dX5_ends_83 (v := 1) (by decide) ?_
            refine hm_goto 88 dX5_ends_84 (by decide) ?_
            exact j1 _ (by clear j1 j2 hQ hof; simp_all [pBoth, bI])
  · skip
    refine hm_aload_n dX5_ends_18 rfl ?_
    refine hm_getR lf_RX5_27 rfl rfl (by first | exact Nat.lt_of_lt_of_le (by decide) hN | assumption | (simp only [hm_n_wI, hm_n_wL, hm_n_wR, hm_n_g] at *; omega)) (hM 7) dX5_ends_19 ?_
    refine hm_iload_n dX5_ends_22 rfl ?_
    refine hm_iald _ rfl (by first | exact Nat.lt_of_lt_of_le (by decide) hN | assumption | (simp only [hm_n_wI, hm_n_wL, hm_n_wR, hm_n_g] at *; omega)) rfl (by omega) (by decide) dX5_ends_23 ?_
    rw [e3]
    refine hm_bipush dX5_ends_24 (v := 7) (by decide) ?_
    refine hm_icmp_eq 83 dX5_ends_26 (by decide) (fun h26 => ?_) (fun h26 => ?_)
    · skip
      refine hm_iconst dX5_ends_83 (v := 1) (by decide) ?_
      refine hm_goto 88 dX5_ends_84 (by decide) ?_
      exact j1 _ (by clear j1 j2 hQ hof; simp_all [pBoth, bI])
    · skip
      refine hm_aload_n dX5_ends_29 rfl ?_
      refine hm_getR lf_RX5_27 rfl rfl (by first | exact Nat.lt_of_lt_of_le (by decide) hN | assumption | (simp only [hm_n_wI, hm_n_wL, hm_n_wR, hm_n_g] at *; omega)) (hM 7) dX5_ends_30 ?_
      refine hm_iload_n dX5_ends_33 rfl ?_
      refine hm_iald _ rfl (by first | exact Nat.lt_of_lt_of_le (by decide) hN | assumption | (simp only [hm_n_wI, hm_n_wL, hm_n_wR, hm_n_g] at *; omega)) rfl (by omega) (by decide) dX5_ends_34 ?_
      rw [e2]
      refine hm_callS lm_RX5_116 (r5_isCaller l _ _) rfl rfl (by decide) (by decide) (Nat.le_of_ble_eq_true rfl) dX5_ends_35 ?_
      rintro _ _ ⟨rfl, rfl⟩
      refine hm_if_eq 56 dX5_ends_38 (by decide) (fun h38 => ?_) (fun h38 => ?_)
      · skip
        rw [bI_0] at h38
        refine hm_aload_n dX5_ends_56 rfl ?_
        refine hm_getR lf_RX5_27 rfl rfl (by first | exact Nat.lt_of_lt_of_le (by decide) hN | assumption | (simp only [hm_n_wI, hm_n_wL, hm_n_wR, hm_n_g] at *; omega)) (hM 7) dX5_ends_57 ?_
        refine hm_iload_n dX5_ends_60 rfl ?_
        refine hm_iald _ rfl (by first | exact Nat.lt_of_lt_of_le (by decide) hN | assumption | (simp only [hm_n_wI, hm_n_wL, hm_n_wR, hm_n_g] at *; omega)) rfl (by omega) (by decide) dX5_ends_61 ?_
        rw [e2]
        refine hm_iconst dX5_ends_62 (v := 4) (by decide) ?_
        refine hm_bipush dX5_ends_63 (v := 6) (by decide) ?_
        refine hm_callS lm_RX5_88 (r5_called l _ _) rfl rfl (by decide) (by decide) (Nat.le_of_ble_eq_true rfl) dX5_ends_65 ?_
        rintro _ _ ⟨rfl, rfl⟩
        refine hm_if_eq 87 dX5_ends_68 (by decide) (fun h68 => ?_) (fun h68 => ?_)
        · skip
          rw [bI_0] at h68
          refine hm_iconst dX5_ends_87 (v := 0) (by decide) ?_
          exact j1 _ (by clear j1 j2 hQ hof; simp_all [pBoth, bI])
        · skip
          rw [bI_0] at h68
          refine hm_aload_n dX5_ends_71 rfl ?_
          refine hm_getR lf_RX5_27 rfl rfl (by first | exact Nat.lt_of_lt_of_le (by decide) hN | assumption | (simp only [hm_n_wI, hm_n_wL, hm_n_wR, hm_n_g] at *; omega)) (hM 7) dX5_ends_72 ?_
          refine hm_iload_n dX5_ends_75 rfl ?_
          refine hm_iald _ rfl (by first | exact Nat.lt_of_lt_of_le (by decide) hN | assumption | (simp only [hm_n_wI, hm_n_wL, hm_n_wR, hm_n_g] at *; omega)) rfl (by omega) (by decide) dX5_ends_76 ?_
          rw [e3]
          refine hm_callS lm_RX5_116 (r5_isCaller l _ _) rfl rfl (by decide) (by decide) (Nat.le_of_ble_eq_true rfl) dX5_ends_77 ?_
          rintro _ _ ⟨rfl, rfl⟩
          refine hm_if_eq 87 dX5_ends_80 (by decide) (fun h80 => ?_) (fun h80 => ?_)
          · skip
            rw [bI_0] at h80
            refine hm_iconst dX5_ends_87 (v := 0) (by decide) ?_
            exact j1 _ (by clear j1 j2 hQ hof; simp_all [pBoth, bI])
          · skip
            rw [bI_0] at h80
            refine hm_iconst dX5_ends_83 (v := 1) (by decide) ?_
            refine hm_goto 88 dX5_ends_84 (by decide) ?_
            exact j1 _ (by clear j1 j2 hQ hof; simp_all [pBoth, bI])
      · skip
        rw [bI_0] at h38
        refine hm_aload_n dX5_ends_41 rfl ?_
        refine hm_getR lf_RX5_27 rfl rfl (by first | exact Nat.lt_of_lt_of_le (by decide) hN | assumption | (simp only [hm_n_wI, hm_n_wL, hm_n_wR, hm_n_g] at *; omega)) (hM 7) dX5_ends_42 ?_
        refine hm_iload_n dX5_ends_45 rfl ?_
        refine hm_iald _ rfl (by first | exact Nat.lt_of_lt_of_le (by decide) hN | assumption | (simp only [hm_n_wI, hm_n_wL, hm_n_wR, hm_n_g] at *; omega)) rfl (by omega) (by decide) dX5_ends_46 ?_
        rw [e3]
        refine hm_iconst dX5_ends_47 (v := 4) (by decide) ?_
        refine hm_bipush dX5_ends_48 (v := 6) (by decide) ?_
        refine hm_callS lm_RX5_88 (r5_called l _ _) rfl rfl (by decide) (by decide) (Nat.le_of_ble_eq_true rfl) dX5_ends_50 ?_
        rintro _ _ ⟨rfl, rfl⟩
        refine hm_if_ne 83 dX5_ends_53 (by decide) (fun h53 => ?_) (fun h53 => ?_)
        · skip
          rw [bI_0] at h53
          refine hm_iconst dX5_ends_83 (v := 1) (by decide) ?_
          refine hm_goto 88 dX5_ends_84 (by decide) ?_
          exact j1 _ (by clear j1 j2 hQ hof; simp_all [pBoth, bI])
        · skip
          rw [bI_0] at h53
          refine hm_aload_n dX5_ends_56 rfl ?_
          refine hm_getR lf_RX5_27 rfl rfl (by first | exact Nat.lt_of_lt_of_le (by decide) hN | assumption | (simp only [hm_n_wI, hm_n_wL, hm_n_wR, hm_n_g] at *; omega)) (hM 7) dX5_ends_57 ?_
          refine hm_iload_n dX5_ends_60 rfl ?_
          refine hm_iald _ rfl (by first | exact Nat.lt_of_lt_of_le (by decide) hN | assumption | (simp only [hm_n_wI, hm_n_wL, hm_n_wR, hm_n_g] at *; omega)) rfl (by omega) (by decide) dX5_ends_61 ?_
          rw [e2]
          refine hm_iconst dX5_ends_62 (v := 4) (by decide) ?_
          refine hm_bipush dX5_ends_63 (v := 6) (by decide) ?_
          refine hm_callS lm_RX5_88 (r5_called l _ _) rfl rfl (by decide) (by decide) (Nat.le_of_ble_eq_true rfl) dX5_ends_65 ?_
          rintro _ _ ⟨rfl, rfl⟩
          refine hm_if_eq 87 dX5_ends_68 (by decide) (fun h68 => ?_) (fun h68 => ?_)
          · skip
            rw [bI_0] at h68
            refine hm_iconst dX5_ends_87 (v := 0) (by decide) ?_
            exact j1 _ (by clear j1 j2 hQ hof; simp_all [pBoth, bI])
          · skip
            rw [bI_0] at h68
            refine hm_aload_n dX5_ends_71 rfl ?_
            refine hm_getR lf_RX5_27 rfl rfl (by first | exact Nat.lt_of_lt_of_le (by decide) hN | assumption | (simp only [hm_n_wI, hm_n_wL, hm_n_wR, hm_n_g] at *; omega)) (hM 7) dX5_ends_72 ?_
            refine hm_iload_n dX5_ends_75 rfl ?_
            refine hm_iald _ rfl (by first | exact Nat.lt_of_lt_of_le (by decide) hN | assumption | (simp only [hm_n_wI, hm_n_wL, hm_n_wR, hm_n_g] at *; omega)) rfl (by omega) (by decide) dX5_ends_76 ?_
            rw [e3]
            refine hm_callS lm_RX5_116 (r5_isCaller l _ _) rfl rfl (by decide) (by decide) (Nat.le_of_ble_eq_true rfl) dX5_ends_77 ?_
            rintro _ _ ⟨rfl, rfl⟩
            refine hm_if_eq 87 dX5_ends_80 (by decide) (fun h80 => ?_) (fun h80 => ?_)
            · skip
              rw [bI_0] at h80
              refine hm_iconst dX5_ends_87 (v := 0) (by decide) ?_
              exact j1 _ (by clear j1 j2 hQ hof; simp_all [pBoth, bI])
            · skip
              rw [bI_0] at h80
              refine hm_iconst dX5_ends_83 (v := 1) (by decide) ?_
              refine hm_goto 88 dX5_ends_84 (by decide) ?_
              exact j1 _ (by clear j1 j2 hQ hof; simp_all [pBoth, bI])
set_option maxRecDepth 100000 in
theorem r5_send (h : rM α σ) (w : sW α) : hm_Ct l yX5_send cX5_send 2 none 3 0 0 [.ref 27] σ (fun r τ => r = none ∧ rM (pSend α) τ ∧ md_fr σ τ) := by
  obtain ⟨hN, hM⟩ := h.m
  have hlen := w.len
  refine hm_startQ (ini := false) [.ref 27, hm_u] (by decide) (by decide) rfl (Nat.le_of_ble_eq_true rfl) (fun Q hQ => ?_)
  have hl2 : ∀ (k b : Nat) (τ : hm_M) (u : Int32), b + k = (aB α).length → rM (sB α (((aB α).take b).map (pSent α) ++ ((aB α).drop b).map (fun x => (bOf x, bAt x, bCh x, bFl x, pIsG α x)))) τ → md_fr σ τ → u = nI b → hm_V l RX5 cX5_send 2 none false (hm_rm 3 0 0) 0 0 Q 0 0 84 [.ref 27, .int u] [] τ := by
    intro k
    induction k with
    | zero =>
      intro b τ u hk hτ hf hu
      subst hu
      have hb : b = (aB α).length := by omega
      subst hb
      rw [List.take_length, List.drop_length, List.map_nil, List.append_nil] at hτ
      obtain ⟨hN, hM⟩ := hτ.m
      have hb1 : hm_I τ 27 12 = nI (aB α).length := by rw [hτ.b.1, aB_sB, List.length_map]
      refine hm_iload_n dX5_send_84 rfl ?_
      refine hm_aload_n dX5_send_85 rfl ?_
      refine hm_getI lf_RX5_109 rfl rfl (by first | exact Nat.lt_of_lt_of_le (by decide) hN | assumption | (simp only [hm_n_wI, hm_n_wL, hm_n_wR, hm_n_g] at *; omega)) dX5_send_86 ?_
      rw [hb1]
      refine hm_icmp_ge 125 dX5_send_89 (by decide) (fun _ => ?_) (fun h89 => absurd (nI_le (Nat.le_refl _) (by omega)) h89)
      refine hm_vret dX5_send_125 rfl (by decide) (by decide) ?_
      exact hQ _ _ ⟨rfl, hτ, hf⟩
    | succ k ih =>
      intro b τ u hk hτ hf hu
      subst hu
      obtain ⟨hN, hM⟩ := hτ.m
      obtain ⟨x, hx⟩ : ∃ x, (aB α)[b]? = some x := ⟨_, List.getElem?_eq_getElem (by omega)⟩
      have hd : (aB α).drop b = x :: (aB α).drop (b + 1) := by rw [← List.getElem_cons_drop (show b < (aB α).length by omega)]; congr 1; exact Option.some.inj ((List.getElem?_eq_getElem _).symm.trans hx)
      have ht : (aB α).take (b + 1) = (aB α).take b ++ [x] := by rw [List.take_succ, hx]; rfl
      have htl : (((aB α).take b).map (pSent α)).length = b := by rw [List.length_map, List.length_take]; omega
      rw [hd, List.map_cons] at hτ
      have hb1 : hm_I τ 27 12 = nI (aB α).length := by
        rw [hτ.b.1, aB_sB, List.length_append, htl, List.length_cons, List.length_map, List.length_drop]
        congr 1
        omega
      generalize hA : ((aB α).take b).map (pSent α) = A at hτ htl
      generalize hZ : ((aB α).drop (b + 1)).map (fun x => (bOf x, bAt x, bCh x, bFl x, pIsG α x)) = Z at hτ
      have hC : (aB (sB α (A ++ (bOf x, bAt x, bCh x, bFl x, pIsG α x) :: Z)))[b]? = some (bOf x, bAt x, bCh x, bFl x, pIsG α x) := by
        rw [aB_sB, List.getElem?_append_right (by omega), htl, Nat.sub_self]; rfl
      have e4 : hm_I τ 41 b = bFl x := (hτ.b.2 b _ hC).2.2.2.1
      have e5 : hm_I τ 42 b = bI (pIsG α x) := (hτ.b.2 b _ hC).2.2.2.2
      have hset : ∀ v, v = (if pIsG α x then 0 else bFl x + 1) → rM (sB α (((aB α).take (b + 1)).map (pSent α) ++ ((aB α).drop (b + 1)).map (fun x => (bOf x, bAt x, bCh x, bFl x, pIsG α x)))) (hm_wI τ 41 b v) := by
        intro v hv
        have h2 := hτ.setF hC v
        rw [aB_sB] at h2
        have h3 := set_mid A Z (bOf x, bAt x, bCh x, bFl x, pIsG α x) (bOf x, bAt x, bCh x, v, pIsG α x)
        rw [htl] at h3
        rw [ht, List.map_append, hA, hZ, List.append_assoc]
        have h4 : ([x].map (pSent α)) ++ Z = (bOf x, bAt x, bCh x, v, pIsG α x) :: Z := by rw [hv]; rfl
        rw [h4, ← h3]
        exact h2
      refine hm_iload_n dX5_send_84 rfl ?_
      refine hm_aload_n dX5_send_85 rfl ?_
      refine hm_getI lf_RX5_109 rfl rfl (by first | exact Nat.lt_of_lt_of_le (by decide) hN | assumption | (simp only [hm_n_wI, hm_n_wL, hm_n_wR, hm_n_g] at *; omega)) dX5_send_86 ?_
      rw [hb1]
      refine hm_icmp_ge 125 dX5_send_89 (by decide) (fun h89 => absurd h89 (nI_ge (by omega) (by omega))) (fun _ => ?_)
      refine hm_aload_n dX5_send_92 rfl ?_
      refine hm_getR lf_RX5_51 rfl rfl (by first | exact Nat.lt_of_lt_of_le (by decide) hN | assumption | (simp only [hm_n_wI, hm_n_wL, hm_n_wR, hm_n_g] at *; omega)) (hM 16) dX5_send_93 ?_
      refine hm_iload_n dX5_send_96 rfl ?_
      refine hm_aload_n dX5_send_97 rfl ?_
      refine hm_getR lf_RX5_54 rfl rfl (by first | exact Nat.lt_of_lt_of_le (by decide) hN | assumption | (simp only [hm_n_wI, hm_n_wL, hm_n_wR, hm_n_g] at *; omega)) (hM 17) dX5_send_98 ?_
      refine hm_iload_n dX5_send_101 rfl ?_
      refine hm_zald _ rfl (by first | exact Nat.lt_of_lt_of_le (by decide) hN | assumption | (simp only [hm_n_wI, hm_n_wL, hm_n_wR, hm_n_g] at *; omega)) rfl (by omega) (by decide) dX5_send_102 ?_
      rw [e5]
      refine hm_if_eq 110 dX5_send_103 (by decide) (fun h103 => ?_) (fun h103 => ?_)
      · skip
        rw [bI_0] at h103
        refine hm_aload_n dX5_send_110 rfl ?_
        refine hm_getR lf_RX5_51 rfl rfl (by first | exact Nat.lt_of_lt_of_le (by decide) hN | assumption | (simp only [hm_n_wI, hm_n_wL, hm_n_wR, hm_n_g] at *; omega)) (hM 16) dX5_send_111 ?_
        refine hm_iload_n dX5_send_114 rfl ?_
        refine hm_iald _ rfl (by first | exact Nat.lt_of_lt_of_le (by decide) hN | assumption | (simp only [hm_n_wI, hm_n_wL, hm_n_wR, hm_n_g] at *; omega)) rfl (by omega) (by decide) dX5_send_115 ?_
        rw [e4]
        refine hm_iconst dX5_send_116 (v := 1) (by decide) ?_
        refine hm_iadd dX5_send_117 ?_
        refine hm_iast _ rfl (by first | exact Nat.lt_of_lt_of_le (by decide) hN | assumption | (simp only [hm_n_wI, hm_n_wL, hm_n_wR, hm_n_g] at *; omega)) rfl (by omega) (by decide) dX5_send_118 ?_
        refine hm_iinc dX5_send_119 rfl _ rfl (by decide) rfl ?_
        refine hm_goto 84 dX5_send_122 (by decide) ?_
        exact ih (b + 1) _ _ (by omega) (hset _ (by simp [h103])) (hf.wI 41 b _ (by decide)) (hm_inc b)
      · skip
        rw [bI_0] at h103
        refine hm_iconst dX5_send_106 (v := 0) (by decide) ?_
        refine hm_goto 118 dX5_send_107 (by decide) ?_
        refine hm_iast _ rfl (by first | exact Nat.lt_of_lt_of_le (by decide) hN | assumption | (simp only [hm_n_wI, hm_n_wL, hm_n_wR, hm_n_g] at *; omega)) rfl (by omega) (by decide) dX5_send_118 ?_
        refine hm_iinc dX5_send_119 rfl _ rfl (by decide) rfl ?_
        refine hm_goto 84 dX5_send_122 (by decide) ?_
        exact ih (b + 1) _ _ (by omega) (hset _ (by simp [h103])) (hf.wI 41 b _ (by decide)) (hm_inc b)
  have hl1 : ∀ (k b : Nat) (τ : hm_M) (u : Int32), b + k = (aB α).length → rM (sB α (((aB α).take b).map (fun x => (bOf x, bAt x, bCh x, bFl x, pIsG α x)) ++ (aB α).drop b)) τ → md_fr σ τ → u = nI b → hm_V l RX5 cX5_send 2 none false (hm_rm 3 0 0) 0 0 Q 0 0 2 [.ref 27, .int u] [] τ := by
    intro k
    induction k with
    | zero =>
      intro b τ u hk hτ hf hu
      subst hu
      have hb : b = (aB α).length := by omega
      subst hb
      rw [List.take_length, List.drop_length, List.append_nil] at hτ
      obtain ⟨hN, hM⟩ := hτ.m
      have hb1 : hm_I τ 27 12 = nI (aB α).length := by rw [hτ.b.1, aB_sB, List.length_map]
      refine hm_iload_n dX5_send_2 rfl ?_
      refine hm_aload_n dX5_send_3 rfl ?_
      refine hm_getI lf_RX5_109 rfl rfl (by first | exact Nat.lt_of_lt_of_le (by decide) hN | assumption | (simp only [hm_n_wI, hm_n_wL, hm_n_wR, hm_n_g] at *; omega)) dX5_send_4 ?_
      rw [hb1]
      refine hm_icmp_ge 82 dX5_send_7 (by decide) (fun _ => ?_) (fun h7 => absurd (nI_le (Nat.le_refl _) (by omega)) h7)
      refine hm_iconst dX5_send_82 (v := 0) (by decide) ?_
      refine hm_istore_n dX5_send_83 (by decide) rfl ?_
      exact hl2 _ 0 _ _ (Nat.zero_add _) hτ hf rfl
    | succ k ih =>
      intro b τ u hk hτ hf hu
      subst hu
      obtain ⟨hN, hM⟩ := hτ.m
      obtain ⟨x, hx⟩ : ∃ x, (aB α)[b]? = some x := ⟨_, List.getElem?_eq_getElem (by omega)⟩
      obtain ⟨x1, x2, x3⟩ := w.xb hx
      have hd : (aB α).drop b = x :: (aB α).drop (b + 1) := by rw [← List.getElem_cons_drop (show b < (aB α).length by omega)]; congr 1; exact Option.some.inj ((List.getElem?_eq_getElem _).symm.trans hx)
      have ht : (aB α).take (b + 1) = (aB α).take b ++ [x] := by rw [List.take_succ, hx]; rfl
      have htl : (((aB α).take b).map (fun x => ((bOf x, bAt x, bCh x, bFl x, pIsG α x) : sBr))).length = b := by rw [List.length_map, List.length_take]; omega
      have hky : (((aB α).take b).map (fun x => ((bOf x, bAt x, bCh x, bFl x, pIsG α x) : sBr)) ++ (aB α).drop b).map bK = (aB α).map bK := by
        rw [List.map_append, List.map_map]
        have : (bK ∘ fun x => ((bOf x, bAt x, bCh x, bFl x, pIsG α x) : sBr)) = bK := rfl
        rw [this, ← List.map_append, List.take_append_drop]
      have wτ := w.key hky
      have q1 := ky_hat hky
      have q2 := ky_hby hky
      rw [hd] at hτ wτ q1 q2
      have hb1 : hm_I τ 27 12 = nI (aB α).length := by
        rw [hτ.b.1, aB_sB, List.length_append, htl, List.length_cons, List.length_drop]
        congr 1
        omega
      generalize hA : ((aB α).take b).map (fun x => ((bOf x, bAt x, bCh x, bFl x, pIsG α x) : sBr)) = A at hτ htl wτ q1 q2
      generalize hZ : (aB α).drop (b + 1) = Z at hτ wτ q1 q2
      have hC : (aB (sB α (A ++ x :: Z)))[b]? = some x := by
        rw [aB_sB, List.getElem?_append_right (by omega), htl, Nat.sub_self]; rfl
      obtain ⟨e1, e2, e3, e4, e5⟩ := hτ.b.2 b _ hC
      have e6 : hm_I τ 29 (bOf x) = nI (aN α 3 (bOf x)) := hτ.n 3 _ x1
      have hset : ∀ v, v = bI (pIsG α x) → rM (sB α (((aB α).take (b + 1)).map (fun x => ((bOf x, bAt x, bCh x, bFl x, pIsG α x) : sBr)) ++ (aB α).drop (b + 1))) (hm_wI τ 42 b v) := by
        intro v hv
        subst hv
        have h2 := hτ.setG hC (pIsG α x)
        rw [aB_sB] at h2
        have h3 := set_mid A Z x (bOf x, bAt x, bCh x, bFl x, pIsG α x)
        rw [htl] at h3
        rw [ht, List.map_append, hA, hZ, List.append_assoc]
        have h4 : ([x].map (fun x => ((bOf x, bAt x, bCh x, bFl x, pIsG α x) : sBr))) ++ Z = (bOf x, bAt x, bCh x, bFl x, pIsG α x) :: Z := rfl
        rw [h4, ← h3]
        exact h2
      refine hm_iload_n dX5_send_2 rfl ?_
      refine hm_aload_n dX5_send_3 rfl ?_
      refine hm_getI lf_RX5_109 rfl rfl (by first | exact Nat.lt_of_lt_of_le (by decide) hN | assumption | (simp only [hm_n_wI, hm_n_wL, hm_n_wR, hm_n_g] at *; omega)) dX5_send_4 ?_
      rw [hb1]
      refine hm_icmp_ge 82 dX5_send_7 (by decide) (fun h7 => absurd h7 (nI_ge (by omega) (by omega))) (fun _ => ?_)
      refine hm_aload_n dX5_send_10 rfl ?_
      refine hm_getR lf_RX5_54 rfl rfl (by first | exact Nat.lt_of_lt_of_le (by decide) hN | assumption | (simp only [hm_n_wI, hm_n_wL, hm_n_wR, hm_n_g] at *; omega)) (hM 17) dX5_send_11 ?_
      refine hm_iload_n dX5_send_14 rfl ?_
      refine hm_aload_n dX5_send_15 rfl ?_
      refine hm_aload_n dX5_send_16 rfl ?_
      refine hm_getR lf_RX5_13 rfl rfl (by first | exact Nat.lt_of_lt_of_le (by decide) hN | assumption | (simp only [hm_n_wI, hm_n_wL, hm_n_wR, hm_n_g] at *; omega)) (hM 3) dX5_send_17 ?_
      refine hm_aload_n dX5_send_20 rfl ?_
      refine hm_getR lf_RX5_42 rfl rfl (by first | exact Nat.lt_of_lt_of_le (by decide) hN | assumption | (simp only [hm_n_wI, hm_n_wL, hm_n_wR, hm_n_g] at *; omega)) (hM 13) dX5_send_21 ?_
      refine hm_iload_n dX5_send_24 rfl ?_
      refine hm_iald _ rfl (by first | exact Nat.lt_of_lt_of_le (by decide) hN | assumption | (simp only [hm_n_wI, hm_n_wL, hm_n_wR, hm_n_g] at *; omega)) rfl (by omega) (by decide) dX5_send_25 ?_
      rw [e1]
      refine hm_iald _ rfl (by first | exact Nat.lt_of_lt_of_le (by decide) hN | assumption | (simp only [hm_n_wI, hm_n_wL, hm_n_wR, hm_n_g] at *; omega)) rfl (by omega) (by decide) dX5_send_26 ?_
      rw [e6]
      refine hm_aload_n dX5_send_27 rfl ?_
      refine hm_getR lf_RX5_45 rfl rfl (by first | exact Nat.lt_of_lt_of_le (by decide) hN | assumption | (simp only [hm_n_wI, hm_n_wL, hm_n_wR, hm_n_g] at *; omega)) (hM 14) dX5_send_28 ?_
      refine hm_iload_n dX5_send_31 rfl ?_
      refine hm_iald _ rfl (by first | exact Nat.lt_of_lt_of_le (by decide) hN | assumption | (simp only [hm_n_wI, hm_n_wL, hm_n_wR, hm_n_g] at *; omega)) rfl (by omega) (by decide) dX5_send_32 ?_
      rw [e2]
      refine hm_aload_n dX5_send_33 rfl ?_
      refine hm_getR lf_RX5_48 rfl rfl (by first | exact Nat.lt_of_lt_of_le (by decide) hN | assumption | (simp only [hm_n_wI, hm_n_wL, hm_n_wR, hm_n_g] at *; omega)) (hM 15) dX5_send_34 ?_
      refine hm_iload_n dX5_send_37 rfl ?_
      refine hm_iald _ rfl (by first | exact Nat.lt_of_lt_of_le (by decide) hN | assumption | (simp only [hm_n_wI, hm_n_wL, hm_n_wR, hm_n_g] at *; omega)) rfl (by omega) (by decide) dX5_send_38 ?_
      rw [e3]
      refine hm_callV lm_RX5_148 (r5_isHeardAt l hτ wτ (w.pl _) x2 x3) rfl rfl rfl rfl (by first | exact Nat.lt_of_lt_of_le (by decide) hN | assumption | (simp only [hm_n_wI, hm_n_wL, hm_n_wR, hm_n_g] at *; omega)) (by decide) (by decide) (Nat.le_of_ble_eq_true rfl) dX5_send_39 ?_
      rintro _ _ ⟨rfl, rfl⟩
      rw [q1]
      refine hm_if_eq 74 dX5_send_42 (by decide) (fun h42 => ?_) (fun h42 => ?_)
      · skip
        rw [bI_0] at h42
        refine hm_iconst dX5_send_74 (v := 0) (by decide) ?_
        refine hm_zast _ (by first | exact Or.inl rfl | exact Or.inr rfl | assumption) rfl (by first | exact Nat.lt_of_lt_of_le (by decide) hN | assumption | (simp only [hm_n_wI, hm_n_wL, hm_n_wR, hm_n_g] at *; omega)) rfl (by omega) (by decide) dX5_send_75 ?_
        refine hm_iinc dX5_send_76 rfl _ rfl (by decide) rfl ?_
        refine hm_goto 2 dX5_send_79 (by decide) ?_
        exact ih (b + 1) _ _ (by omega) (hset _ (by unfold pIsG; simp_all [bI])) (hf.wI 42 b _ (by decide)) (hm_inc b)
      · skip
        rw [bI_0] at h42
        refine hm_aload_n dX5_send_45 rfl ?_
        refine hm_aload_n dX5_send_46 rfl ?_
        refine hm_getR lf_RX5_45 rfl rfl (by first | exact Nat.lt_of_lt_of_le (by decide) hN | assumption | (simp only [hm_n_wI, hm_n_wL, hm_n_wR, hm_n_g] at *; omega)) (hM 14) dX5_send_47 ?_
        refine hm_iload_n dX5_send_50 rfl ?_
        refine hm_iald _ rfl (by first | exact Nat.lt_of_lt_of_le (by decide) hN | assumption | (simp only [hm_n_wI, hm_n_wL, hm_n_wR, hm_n_g] at *; omega)) rfl (by omega) (by decide) dX5_send_51 ?_
        rw [e2]
        refine hm_aload_n dX5_send_52 rfl ?_
        refine hm_getR lf_RX5_42 rfl rfl (by first | exact Nat.lt_of_lt_of_le (by decide) hN | assumption | (simp only [hm_n_wI, hm_n_wL, hm_n_wR, hm_n_g] at *; omega)) (hM 13) dX5_send_53 ?_
        refine hm_iload_n dX5_send_56 rfl ?_
        refine hm_iald _ rfl (by first | exact Nat.lt_of_lt_of_le (by decide) hN | assumption | (simp only [hm_n_wI, hm_n_wL, hm_n_wR, hm_n_g] at *; omega)) rfl (by omega) (by decide) dX5_send_57 ?_
        rw [e1]
        refine hm_aload_n dX5_send_58 rfl ?_
        refine hm_getR lf_RX5_48 rfl rfl (by first | exact Nat.lt_of_lt_of_le (by decide) hN | assumption | (simp only [hm_n_wI, hm_n_wL, hm_n_wR, hm_n_g] at *; omega)) (hM 15) dX5_send_59 ?_
        refine hm_iload_n dX5_send_62 rfl ?_
        refine hm_iald _ rfl (by first | exact Nat.lt_of_lt_of_le (by decide) hN | assumption | (simp only [hm_n_wI, hm_n_wL, hm_n_wR, hm_n_g] at *; omega)) rfl (by omega) (by decide) dX5_send_63 ?_
        rw [e3]
        refine hm_callV lm_RX5_166 (r5_isHeardBy l hτ wτ x2 x1 x3) rfl rfl rfl rfl (by first | exact Nat.lt_of_lt_of_le (by decide) hN | assumption | (simp only [hm_n_wI, hm_n_wL, hm_n_wR, hm_n_g] at *; omega)) (by decide) (by decide) (Nat.le_of_ble_eq_true rfl) dX5_send_64 ?_
        rintro _ _ ⟨rfl, rfl⟩
        rw [q2]
        refine hm_if_eq 74 dX5_send_67 (by decide) (fun h67 => ?_) (fun h67 => ?_)
        · skip
          rw [bI_0] at h67
          refine hm_iconst dX5_send_74 (v := 0) (by decide) ?_
          refine hm_zast _ (by first | exact Or.inl rfl | exact Or.inr rfl | assumption) rfl (by first | exact Nat.lt_of_lt_of_le (by decide) hN | assumption | (simp only [hm_n_wI, hm_n_wL, hm_n_wR, hm_n_g] at *; omega)) rfl (by omega) (by decide) dX5_send_75 ?_
          refine hm_iinc dX5_send_76 rfl _ rfl (by decide) rfl ?_
          refine hm_goto 2 dX5_send_79 (by decide) ?_
          exact ih (b + 1) _ _ (by omega) (hset _ (by unfold pIsG; simp_all [bI])) (hf.wI 42 b _ (by decide)) (hm_inc b)
        · skip
          rw [bI_0] at h67
          refine hm_iconst dX5_send_70 (v := 1) (by decide) ?_
          refine hm_goto 75 dX5_send_71 (by decide) ?_
          refine hm_zast _ (by first | exact Or.inl rfl | exact Or.inr rfl | assumption) rfl (by first | exact Nat.lt_of_lt_of_le (by decide) hN | assumption | (simp only [hm_n_wI, hm_n_wL, hm_n_wR, hm_n_g] at *; omega)) rfl (by omega) (by decide) dX5_send_75 ?_
          refine hm_iinc dX5_send_76 rfl _ rfl (by decide) rfl ?_
          refine hm_goto 2 dX5_send_79 (by decide) ?_
          exact ih (b + 1) _ _ (by omega) (hset _ (by unfold pIsG; simp_all [bI])) (hf.wI 42 b _ (by decide)) (hm_inc b)
  refine hm_iconst dX5_send_0 (v := 0) (by decide) ?_
  refine hm_istore_n dX5_send_1 (by decide) rfl ?_
  exact hl1 _ 0 _ _ (Nat.zero_add _) (h.mid _ rfl) (md_fr.rf σ) rfl
end M8
