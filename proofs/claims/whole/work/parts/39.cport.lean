/-! the class: portables, calls that end -/
theorem I32_1 : (1 : Int32).toInt = 1 := by decide
theorem I32_2 : (2 : Int32).toInt = 2 := by decide
theorem I32_3 : (3 : Int32).toInt = 3 := by decide
theorem I32_4 : (4 : Int32).toInt = 4 := by decide
theorem I32_5 : (5 : Int32).toInt = 5 := by decide
theorem I32_6 : (6 : Int32).toInt = 6 := by decide
theorem caller_iff (s : Int32) : pCaller s = (decide (s = 1) || (decide (s = 2) || decide (s = 3))) := by
  unfold pCaller
  rw [Bool.eq_iff_iff]
  simp only [Bool.and_eq_true, Bool.or_eq_true, decide_eq_true_eq, Int32.le_iff_toInt_le, ← Int32.toInt_inj, I32_1, I32_2, I32_3]
  omega
theorem called_iff (s : Int32) : pCalled s = (decide (s = 4) || (decide (s = 5) || decide (s = 6))) := by
  unfold pCalled
  rw [Bool.eq_iff_iff]
  simp only [Bool.and_eq_true, Bool.or_eq_true, decide_eq_true_eq, Int32.le_iff_toInt_le, ← Int32.toInt_inj, I32_4, I32_5, I32_6]
  omega
theorem pend_iff (s : Int32) : pPend s = (pCaller s || pCalled s) := by
  unfold pCalled pCaller pPend
  rw [Bool.eq_iff_iff]
  simp only [Bool.and_eq_true, Bool.or_eq_true, decide_eq_true_eq, Int32.le_iff_toInt_le, I32_1, I32_3, I32_4, I32_6]
  omega
theorem bk_fr.cs {a : Nat} {σ τ : hm_M} (h : bk_fr a σ τ) (ha : 52 ≤ a) : cs_fr σ τ := ⟨by rw [h.2.2.2]; exact Nat.le_refl _, fun b k h1 h2 => ⟨h.1 b k (by omega), h.2.1 b k (by omega), by rw [h.2.2.1]⟩⟩
/-- what a frame found ready at its beginning is left alone -/
def rdy (σ τ : hm_M) : Prop := ∀ q, hm_I τ (pA q) 7 = hm_I σ (pA q) 7
theorem rdy.tr {σ τ ρ : hm_M} (h : rdy σ τ) (h' : rdy τ ρ) : rdy σ ρ := fun q => (h' q).trans (h q)
theorem rdy.wI {σ τ : hm_M} (h : rdy σ τ) {a k : Nat} (v : Int32) (hk : k ≠ 7 ∨ a < 52) : rdy σ (hm_wI τ a k v) := fun q => by rw [hm_I_wI, if_neg (by unfold pA; omega)]; exact h q
theorem rdy.wL {σ τ : hm_M} (h : rdy σ τ) (a k : Nat) (v : Int64) : rdy σ (hm_wL τ a k v) := h
theorem bk_fr.rdy {p f : Nat} {σ τ : hm_M} (h : bk_fr (pA p + (2 * f + 1)) σ τ) (hf : f < 3) : rdy σ τ := fun q => h.1 _ _ (by unfold pA; omega)
theorem pA_ge (p : Nat) : 52 ≤ pA p := by unfold pA; omega
theorem pA_inj {p q : Nat} : pA p = pA q ↔ p = q := by unfold pA; omega
theorem rC.bkf {α : sA} {σ τ : hm_M} (h : rC α σ) {p f cap : Nat} {q : List Int64} (hp : p < nPort α) (hf : f = 0 ∧ cap = 8 ∨ f = 1 ∧ cap = 16 ∨ f = 2 ∧ cap = 20) (fr : bk_fr (pA p + (2 * f + 1)) σ τ) (hb : ∃ g, bk τ (pA p + (2 * f + 1)) cap g q) : rC (sQ α f p q) τ := h.newBk hp hf fr.1 fr.2.1 fr.2.2.1 fr.2.2.2 hb
theorem idle_comm (α : sA) {p q : Nat} (h : p ≠ q) : pIdle (pIdle α p) q = pIdle (pIdle α q) p := by
  have hB : ((aB α).filter (fun x => !decide (bOf x = p))).filter (fun x => !decide (bOf x = q)) = ((aB α).filter (fun x => !decide (bOf x = q))).filter (fun x => !decide (bOf x = p)) := by
    rw [List.filter_filter, List.filter_filter]
    exact List.filter_congr fun x _ => Bool.and_comm _ _
  have hI : up2 (up2 (up2 (up2 (aI α) 1 p 0) 2 p (-9)) 1 q 0) 2 q (-9) = up2 (up2 (up2 (up2 (aI α) 1 q 0) 2 q (-9)) 1 p 0) 2 p (-9) := by
    funext a j
    unfold up2
    (repeat' split) <;> first | rfl | omega
  have hQ : up2 (up2 (up2 (up2 (aQ α) 0 p []) 1 p []) 0 q []) 1 q [] = up2 (up2 (up2 (up2 (aQ α) 0 q []) 1 q []) 0 p []) 1 p [] := by
    funext a j
    unfold up2
    (repeat' split) <;> first | rfl | omega
  exact Prod.ext rfl (Prod.ext hI (Prod.ext rfl (Prod.ext hB hQ)))
section C7
variable (l : Launch) {α : sA} {σ : hm_M}
set_option maxRecDepth 100000 in
theorem k2_begin (h : rC α σ) {p : Nat} (hp : p < nPort α) (s q t : Int32) : hm_Ct l yX2_begin cX2_begin 4 none 0 0 0 [.ref (pA p), .int s, .int q, .int t] σ (fun r τ => r = none ∧ rC (sI (sI (sI α 1 p s) 2 p q) 3 p t) τ ∧ cs_fr σ τ) := by
  have hn := h.pn hp
  have hg := pA_ge p
  have hs := S_pA0 p
  refine hm_startQ (ini := false) [.ref (pA p), .int s, .int q, .int t] (by decide) (by decide) rfl (Nat.le_of_ble_eq_true rfl) (fun Q hQ => ?_)
  refine hm_aload_n dX2_begin_0 rfl ?_
  refine hm_iload_n dX2_begin_1 rfl ?_
  refine hm_putI lf_RX2_9 rfl rfl hs (by show pA p < hm_n σ; omega) dX2_begin_2 ?_
  refine hm_aload_n dX2_begin_5 rfl ?_
  refine hm_iload_n dX2_begin_6 rfl ?_
  refine hm_putI lf_RX2_15 rfl rfl hs (by show pA p < hm_n σ; omega) dX2_begin_7 ?_
  refine hm_aload_n dX2_begin_10 rfl ?_
  refine hm_iload_n dX2_begin_11 rfl ?_
  refine hm_putI lf_RX2_40 rfl rfl hs (by show pA p < hm_n σ; omega) dX2_begin_12 ?_
  refine hm_vret dX2_begin_15 rfl (by decide) (by decide) ?_
  exact hQ _ _ ⟨rfl, ((h.upI 1 p s hp).upI 2 p q hp).upI 3 p t hp, (((cs_fr.rf σ).wI _ _ _ (by omega)).wI _ _ _ (by omega)).wI _ _ _ (by omega)⟩
set_option maxRecDepth 100000 in
theorem k2_becomeIdle (h : rC α σ) {p : Nat} (hp : p < nPort α) : hm_Ct l yX2_becomeIdle cX2_becomeIdle 1 none 1 0 0 [.ref (pA p)] σ (fun r τ => r = none ∧ rC (sQ (sQ (sI (sI α 1 p 0) 2 p (-9)) 0 p []) 1 p []) τ ∧ cs_fr σ τ) := by
  have hn := h.pn hp
  have hg := pA_ge p
  have hs := S_pA0 p
  have hP := h.p hp
  have h1 : rC (sI (sI α 1 p 0) 2 p (-9)) (hm_wI (hm_wI σ (pA p) 4 0) (pA p) 5 (-9)) := (h.upI 1 p 0 hp).upI 2 p (-9) hp
  refine hm_startQ (ini := false) [.ref (pA p)] (by decide) (by decide) rfl (Nat.le_of_ble_eq_true rfl) (fun Q hQ => ?_)
  refine hm_aload_n dX2_becomeIdle_0 rfl ?_
  refine hm_iconst dX2_becomeIdle_1 (v := 0) (by decide) ?_
  refine hm_putI lf_RX2_9 rfl rfl hs (by show pA p < hm_n σ; omega) dX2_becomeIdle_2 ?_
  refine hm_aload_n dX2_becomeIdle_5 rfl ?_
  refine hm_bipush dX2_becomeIdle_6 (v := -9) (by decide) ?_
  refine hm_putI lf_RX2_15 rfl rfl hs (by show pA p < hm_n σ; omega) dX2_becomeIdle_8 ?_
  refine hm_aload_n dX2_becomeIdle_11 rfl ?_
  refine hm_getR lf_RX2_23 rfl hs (by show pA p < hm_n σ; omega) hP.2.1.1 dX2_becomeIdle_12 ?_
  refine hm_callV lm_RX2_43 (k1_clear l (cap := 8) (S_pA1 p) (by show pA p + 1 + 1 < hm_n σ; omega) (by decide)) rfl rfl (S_pA1 p) rfl (by show pA p + 1 < hm_n σ; omega) (by decide) (by decide) (Nat.le_of_ble_eq_true rfl) dX2_becomeIdle_15 ?_
  rintro _ τ ⟨rfl, hb, hf⟩
  have h2 := h1.bkf (f := 0) hp (Or.inl ⟨rfl, rfl⟩) hf ⟨0, hb⟩
  have hP2 := h2.p hp
  have hn2 := h2.pn hp
  refine hm_aload_n dX2_becomeIdle_18 rfl ?_
  refine hm_getR lf_RX2_27 rfl hs (by omega) hP2.2.1.2.1 dX2_becomeIdle_19 ?_
  refine hm_callV lm_RX2_43 (k1_clear l (cap := 16) (S_pA3 p) (by omega) (by decide)) rfl rfl (S_pA3 p) rfl (by omega) (by decide) (by decide) (Nat.le_of_ble_eq_true rfl) dX2_becomeIdle_22 ?_
  rintro _ ρ ⟨rfl, hb2, hf2⟩
  have h3 := h2.bkf (f := 1) hp (Or.inr (Or.inl ⟨rfl, rfl⟩)) hf2 ⟨0, hb2⟩
  refine hm_vret dX2_becomeIdle_25 rfl (by decide) (by decide) ?_
  exact hQ _ _ ⟨rfl, h3, ((((cs_fr.rf σ).wI _ _ _ (by omega)).wI _ _ _ (by omega)).tr (hf.cs (by omega))).tr (hf2.cs (by omega))⟩
set_option maxRecDepth 100000 in
theorem k2_keep (h : rC α σ) {p : Nat} (hp : p < nPort α) (v : Int64) : hm_Ct l yX2_keep cX2_keep 3 none 2 0 0 [.ref (pA p), .long v] σ (fun r τ => r = none ∧ rC (sN (sQ α 2 p (pKeep (aQ α 2 p) v)) 7 p (aN α 7 p + 1)) τ ∧ cs_fr σ τ ∧ rdy σ τ) := by
  have hn := h.pn hp
  have hg := pA_ge p
  have hs := S_pA0 p
  have hP := h.p hp
  obtain ⟨fk, hbk⟩ := hP.2.2.2.2.2
  have hR5 := hP.2.1.2.2.1
  have hR6 := hP.2.1.2.2.2.2.2
  refine hm_startQ (ini := false) [.ref (pA p), .long v, hm_u] (by decide) (by decide) rfl (Nat.le_of_ble_eq_true rfl) (fun Q hQ => ?_)
  have j1 : ∀ (τ : hm_M) (q : List Int64) (g : Nat), rC (sQ α 2 p q) τ → bk τ (pA p + 5) 20 g q → q.length < 20 → q ++ [v] = pKeep (aQ α 2 p) v → cs_fr σ τ → rdy σ τ → hm_V l RX2 cX2_keep 3 none false (hm_rm 2 0 0) 0 0 Q 0 0 18 [.ref (pA p), .long v, hm_u] [] τ := by
    intro τ q g hτ hb hq he hf hy
    have hP := hτ.p (show p < nPort (sQ α 2 p q) from hp)
    have hn : pA p + 6 < hm_n τ := hτ.pn hp
    have hR5 := hP.2.1.2.2.1
    have hR6 := hP.2.1.2.2.2.2.2
    refine hm_aload_n dX2_keep_18 rfl ?_
    refine hm_getR lf_RX2_30 rfl hs (by omega) hR5 dX2_keep_19 ?_
    refine hm_lload_n dX2_keep_22 rfl ?_
    refine hm_callV lm_RX2_54 (k1_put l (S_pA5 p) (S_pA6 p) (by omega) hR6 (by decide) hb v) rfl rfl (S_pA5 p) rfl (by omega) (by decide) (by decide) (Nat.le_of_ble_eq_true rfl) dX2_keep_23 ?_
    rintro _ ρ (⟨q1, -, -⟩ | ⟨-, rfl, hb2, hf2⟩)
    omega
    have h2 : rC (sQ α 2 p (q ++ [v])) ρ := (show sQ (sQ α 2 p q) 2 p (q ++ [v]) = sQ α 2 p (q ++ [v]) by unfold sQ up2; congr 4; funext b j; split <;> simp_all) ▸ hτ.bkf (f := 2) hp (Or.inr (Or.inr ⟨rfl, rfl⟩)) hf2 ⟨g, hb2⟩
    rw [he] at h2
    have hn2 : pA p + 6 < hm_n ρ := h2.pn hp
    have e8 : hm_I ρ (pA p) 8 = nI (aN α 7 p) := h2.n 7 p hp
    refine hm_pop dX2_keep_26 rfl ?_
    refine hm_aload_n dX2_keep_27 rfl ?_
    refine hm_dup dX2_keep_28 rfl ?_
    refine hm_getI lf_RX2_58 rfl hs (by omega) dX2_keep_29 ?_
    rw [e8]
    refine hm_iconst dX2_keep_32 (v := 1) (by decide) ?_
    refine hm_iadd dX2_keep_33 ?_
    rw [nI_1]
    refine hm_putI lf_RX2_58 rfl rfl hs (by omega) dX2_keep_34 ?_
    refine hm_vret dX2_keep_37 rfl (by decide) (by decide) ?_
    exact hQ _ _ ⟨rfl, h2.upN 7 p _ (by omega) hp, (hf.tr (hf2.cs (by omega))).wI _ _ _ (by omega), (hy.tr (hf2.rdy (f := 2) (by decide))).wI _ (by omega)⟩
  have esQ : sQ α 2 p (aQ α 2 p) = α := by
    obtain ⟨a1, a2, a3, a4, a5⟩ := α
    show (a1, a2, a3, a4, up2 a5 2 p (a5 2 p)) = (a1, a2, a3, a4, a5)
    congr 4
    funext b j
    unfold up2
    split
    · rename_i q; rw [q.1, q.2]
    · rfl
  refine hm_aload_n dX2_keep_0 rfl ?_
  refine hm_getR lf_RX2_30 rfl hs (by omega) hR5 dX2_keep_1 ?_
  refine hm_callV lm_RX2_46 (k1_isFull l (S_pA5 p) (S_pA6 p) (by omega) hR6 (by decide) hbk) rfl rfl (S_pA5 p) rfl (by omega) (by decide) (by decide) (Nat.le_of_ble_eq_true rfl) dX2_keep_4 ?_
  rintro _ t9 ⟨rfl, hh9⟩
  rw [hh9]
  clear hh9 t9
  refine hm_if_eq 18 dX2_keep_7 (by decide) (fun h7 => ?_) (fun h7 => ?_)
  · skip
    rw [bI_0] at h7
    have h7 : ¬ (aQ α 2 p).length = 20 := by simpa using h7
    have hl := hbk.2.2.2.1
    first | exact j1 τ t0 g2 h2 hb2 (by rw [hq0] at h7; simp at h7; omega) (by unfold pKeep; rw [if_neg (by omega), hq0]; rfl) (hf2.cs (by omega)) (hf2.rdy (f := 2) (by decide)) | exact j1 σ (aQ α 2 p) fk (by rw [esQ]; exact h) hbk (by omega) (by unfold pKeep; rw [if_pos (by omega)]) (cs_fr.rf σ) (fun _ => rfl)
  · skip
    rw [bI_0] at h7
    have h7 : (aQ α 2 p).length = 20 := by simpa using h7
    obtain ⟨v0, t0, hq0⟩ : ∃ v0 t0, aQ α 2 p = v0 :: t0 := (by cases hq : aQ α 2 p with | nil => rw [hq] at h7; simp at h7 | cons a b => exact ⟨a, b, rfl⟩)
    have hbk2 := hbk
    rw [hq0] at hbk2
    refine hm_aload_n dX2_keep_10 rfl ?_
    refine hm_getR lf_RX2_30 rfl hs (by omega) hR5 dX2_keep_11 ?_
    refine hm_callV lm_RX2_50 (k1_take l (S_pA5 p) (S_pA6 p) (by omega) hR6 (by decide) hbk2) rfl rfl (S_pA5 p) rfl (by omega) (by decide) (by decide) (Nat.le_of_ble_eq_true rfl) dX2_keep_14 ?_
    rintro _ τ ⟨rfl, ⟨g2, hb2⟩, hf2⟩
    have h2 := h.bkf (f := 2) hp (Or.inr (Or.inr ⟨rfl, rfl⟩)) hf2 ⟨g2, hb2⟩
    refine hm_pop2 dX2_keep_17 rfl ?_
    first | exact j1 τ t0 g2 h2 hb2 (by rw [hq0] at h7; simp at h7; omega) (by unfold pKeep; rw [if_neg (by omega), hq0]; rfl) (hf2.cs (by omega)) (hf2.rdy (f := 2) (by decide)) | exact j1 σ (aQ α 2 p) fk (by rw [esQ]; exact h) hbk (by omega) (by unfold pKeep; rw [if_pos (by omega)]) (cs_fr.rf σ) (fun _ => rfl)
set_option maxRecDepth 100000 in
theorem k2_calls (h : rC α σ) {p : Nat} (hp : p < nPort α) : hm_Ct l yX2_calls cX2_calls 1 (some .boolean) 0 0 0 [.ref (pA p)] σ (fun r τ => r = some (.int (bI (pCaller (aI α 1 p)))) ∧ τ = σ) := by
  have hn := h.pn hp
  have hs := S_pA0 p
  have e1 : hm_I σ (pA p) 4 = aI α 1 p := h.i 1 p hp
  rw [caller_iff]
  refine hm_startQ (ini := false) [.ref (pA p)] (by decide) (by decide) rfl (Nat.le_of_ble_eq_true rfl) (fun Q hQ => ?_)
  refine hm_aload_n dX2_calls_0 rfl ?_
  refine hm_getI lf_RX2_9 rfl hs (by omega) dX2_calls_1 ?_
  rw [e1]
  refine hm_iconst dX2_calls_4 (v := 1) (by decide) ?_
  refine hm_icmp_eq 24 dX2_calls_5 (by decide) (fun h5 => ?_) (fun h5 => ?_)
  · skip
    refine hm_iconst dX2_calls_24 (v := 1) (by decide) ?_
    refine hm_goto 29 dX2_calls_25 (by decide) ?_
    refine hm_zret dX2_calls_29 rfl (by decide) (by decide) (by first | exact Or.inl rfl | exact Or.inr rfl | assumption) ?_
    exact hQ _ _ ⟨by simp_all [bI], rfl⟩
  · skip
    refine hm_aload_n dX2_calls_8 rfl ?_
    refine hm_getI lf_RX2_9 rfl hs (by omega) dX2_calls_9 ?_
    rw [e1]
    refine hm_iconst dX2_calls_12 (v := 2) (by decide) ?_
    refine hm_icmp_eq 24 dX2_calls_13 (by decide) (fun h13 => ?_) (fun h13 => ?_)
    · skip
      refine hm_iconst dX2_calls_24 (v := 1) (by decide) ?_
      refine hm_goto 29 dX2_calls_25 (by decide) ?_
      refine hm_zret dX2_calls_29 rfl (by decide) (by decide) (by first | exact Or.inl rfl | exact Or.inr rfl | assumption) ?_
      exact hQ _ _ ⟨by simp_all [bI], rfl⟩
    · skip
      refine hm_aload_n dX2_calls_16 rfl ?_
      refine hm_getI lf_RX2_9 rfl hs (by omega) dX2_calls_17 ?_
      rw [e1]
      refine hm_iconst dX2_calls_20 (v := 3) (by decide) ?_
      refine hm_icmp_ne 28 dX2_calls_21 (by decide) (fun h21 => ?_) (fun h21 => ?_)
      · skip
        refine hm_iconst dX2_calls_28 (v := 0) (by decide) ?_
        refine hm_zret dX2_calls_29 rfl (by decide) (by decide) (by first | exact Or.inl rfl | exact Or.inr rfl | assumption) ?_
        exact hQ _ _ ⟨by simp_all [bI], rfl⟩
      · skip
        refine hm_iconst dX2_calls_24 (v := 1) (by decide) ?_
        refine hm_goto 29 dX2_calls_25 (by decide) ?_
        refine hm_zret dX2_calls_29 rfl (by decide) (by decide) (by first | exact Or.inl rfl | exact Or.inr rfl | assumption) ?_
        exact hQ _ _ ⟨by simp_all [bI], rfl⟩
set_option maxRecDepth 100000 in
theorem k2_isCalled (h : rC α σ) {p : Nat} (hp : p < nPort α) : hm_Ct l yX2_isCalled cX2_isCalled 1 (some .boolean) 0 0 0 [.ref (pA p)] σ (fun r τ => r = some (.int (bI (pCalled (aI α 1 p)))) ∧ τ = σ) := by
  have hn := h.pn hp
  have hs := S_pA0 p
  have e1 : hm_I σ (pA p) 4 = aI α 1 p := h.i 1 p hp
  rw [called_iff]
  refine hm_startQ (ini := false) [.ref (pA p)] (by decide) (by decide) rfl (Nat.le_of_ble_eq_true rfl) (fun Q hQ => ?_)
  refine hm_aload_n dX2_isCalled_0 rfl ?_
  refine hm_getI lf_RX2_9 rfl hs (by omega) dX2_isCalled_1 ?_
  rw [e1]
  refine hm_iconst dX2_isCalled_4 (v := 4) (by decide) ?_
  refine hm_icmp_eq 25 dX2_isCalled_5 (by decide) (fun h5 => ?_) (fun h5 => ?_)
  · skip
    refine hm_iconst dX2_isCalled_25 (v := 1) (by decide) ?_
    refine hm_goto 30 dX2_isCalled_26 (by decide) ?_
    refine hm_zret dX2_isCalled_30 rfl (by decide) (by decide) (by first | exact Or.inl rfl | exact Or.inr rfl | assumption) ?_
    exact hQ _ _ ⟨by simp_all [bI], rfl⟩
  · skip
    refine hm_aload_n dX2_isCalled_8 rfl ?_
    refine hm_getI lf_RX2_9 rfl hs (by omega) dX2_isCalled_9 ?_
    rw [e1]
    refine hm_iconst dX2_isCalled_12 (v := 5) (by decide) ?_
    refine hm_icmp_eq 25 dX2_isCalled_13 (by decide) (fun h13 => ?_) (fun h13 => ?_)
    · skip
      refine hm_iconst dX2_isCalled_25 (v := 1) (by decide) ?_
      refine hm_goto 30 dX2_isCalled_26 (by decide) ?_
      refine hm_zret dX2_isCalled_30 rfl (by decide) (by decide) (by first | exact Or.inl rfl | exact Or.inr rfl | assumption) ?_
      exact hQ _ _ ⟨by simp_all [bI], rfl⟩
    · skip
      refine hm_aload_n dX2_isCalled_16 rfl ?_
      refine hm_getI lf_RX2_9 rfl hs (by omega) dX2_isCalled_17 ?_
      rw [e1]
      refine hm_bipush dX2_isCalled_20 (v := 6) (by decide) ?_
      refine hm_icmp_ne 29 dX2_isCalled_22 (by decide) (fun h22 => ?_) (fun h22 => ?_)
      · skip
        refine hm_iconst dX2_isCalled_29 (v := 0) (by decide) ?_
        refine hm_zret dX2_isCalled_30 rfl (by decide) (by decide) (by first | exact Or.inl rfl | exact Or.inr rfl | assumption) ?_
        exact hQ _ _ ⟨by simp_all [bI], rfl⟩
      · skip
        refine hm_iconst dX2_isCalled_25 (v := 1) (by decide) ?_
        refine hm_goto 30 dX2_isCalled_26 (by decide) ?_
        refine hm_zret dX2_isCalled_30 rfl (by decide) (by decide) (by first | exact Or.inl rfl | exact Or.inr rfl | assumption) ?_
        exact hQ _ _ ⟨by simp_all [bI], rfl⟩
set_option maxRecDepth 100000 in
theorem k2_isPending (h : rC α σ) {p : Nat} (hp : p < nPort α) : hm_Ct l yX2_isPending cX2_isPending 1 (some .boolean) 1 0 0 [.ref (pA p)] σ (fun r τ => r = some (.int (bI (pPend (aI α 1 p)))) ∧ τ = σ) := by
  have hn := h.pn hp
  have hs := S_pA0 p
  rw [pend_iff]
  refine hm_startQ (ini := false) [.ref (pA p)] (by decide) (by decide) rfl (Nat.le_of_ble_eq_true rfl) (fun Q hQ => ?_)
  refine hm_aload_n dX2_isPending_0 rfl ?_
  refine hm_callV lm_RX2_61 (k2_calls l h hp) rfl rfl hs rfl (by omega) (by decide) (by decide) (Nat.le_of_ble_eq_true rfl) dX2_isPending_1 ?_
  rintro _ t9 ⟨rfl, hh9⟩
  rw [hh9]
  clear hh9 t9
  refine hm_if_ne 14 dX2_isPending_4 (by decide) (fun h4 => ?_) (fun h4 => ?_)
  · skip
    rw [bI_0] at h4
    have e : (1 : Int32) = bI (pCaller (aI α 1 p) || pCalled (aI α 1 p)) := by rw [b_nf h4]; rfl
    refine hm_iconst dX2_isPending_14 (v := 1) (by decide) ?_
    refine hm_goto 19 dX2_isPending_15 (by decide) ?_
    refine hm_zret dX2_isPending_19 rfl (by decide) (by decide) (by first | exact Or.inl rfl | exact Or.inr rfl | assumption) ?_
    exact hQ _ _ ⟨congrArg (fun z => some (Value.int z)) e, rfl⟩
  · skip
    rw [bI_0] at h4
    refine hm_aload_n dX2_isPending_7 rfl ?_
    refine hm_callV lm_RX2_64 (k2_isCalled l h hp) rfl rfl hs rfl (by omega) (by decide) (by decide) (Nat.le_of_ble_eq_true rfl) dX2_isPending_8 ?_
    rintro _ t9 ⟨rfl, hh9⟩
    rw [hh9]
    clear hh9 t9
    refine hm_if_eq 18 dX2_isPending_11 (by decide) (fun h11 => ?_) (fun h11 => ?_)
    · skip
      rw [bI_0] at h11
      have e : (0 : Int32) = bI (pCaller (aI α 1 p) || pCalled (aI α 1 p)) := by rw [h4, h11]; rfl
      refine hm_iconst dX2_isPending_18 (v := 0) (by decide) ?_
      refine hm_zret dX2_isPending_19 rfl (by decide) (by decide) (by first | exact Or.inl rfl | exact Or.inr rfl | assumption) ?_
      exact hQ _ _ ⟨congrArg (fun z => some (Value.int z)) e, rfl⟩
    · skip
      rw [bI_0] at h11
      have e : (1 : Int32) = bI (pCaller (aI α 1 p) || pCalled (aI α 1 p)) := by rw [h4, b_nf h11]; rfl
      refine hm_iconst dX2_isPending_14 (v := 1) (by decide) ?_
      refine hm_goto 19 dX2_isPending_15 (by decide) ?_
      refine hm_zret dX2_isPending_19 rfl (by decide) (by decide) (by first | exact Or.inl rfl | exact Or.inr rfl | assumption) ?_
      exact hQ _ _ ⟨congrArg (fun z => some (Value.int z)) e, rfl⟩
set_option maxRecDepth 100000 in
theorem k4_isPlace (σ : hm_M) (c : Int32) : hm_Ct l yX4_isPlace cX4_isPlace 1 (some .boolean) 0 0 0 [.int c] σ (fun r τ => r = some (.int (bI (pIn c 16))) ∧ τ = σ) := by
  refine hm_startQ (ini := false) [.int c] (by decide) (by decide) rfl (Nat.le_of_ble_eq_true rfl) (fun Q hQ => ?_)
  refine hm_iload_n dX4_isPlace_0 rfl ?_
  refine hm_if_lt 14 dX4_isPlace_1 (by decide) (fun h1 => ?_) (fun h1 => ?_)
  · skip
    have e : (0 : Int32) = bI (pIn c 16) := by unfold pIn; rw [decide_eq_false (Int32.not_le.mpr h1)]; rfl
    refine hm_iconst dX4_isPlace_14 (v := 0) (by decide) ?_
    refine hm_zret dX4_isPlace_15 rfl (by decide) (by decide) (by first | exact Or.inl rfl | exact Or.inr rfl | assumption) ?_
    exact hQ _ _ ⟨congrArg (fun z => some (Value.int z)) e, rfl⟩
  · skip
    refine hm_iload_n dX4_isPlace_4 rfl ?_
    refine hm_bipush dX4_isPlace_5 (v := 16) (by decide) ?_
    refine hm_icmp_ge 14 dX4_isPlace_7 (by decide) (fun h7 => ?_) (fun h7 => ?_)
    · skip
      have e : (0 : Int32) = bI (pIn c 16) := by unfold pIn; rw [decide_eq_false (show ¬ c < nI 16 from Int32.not_lt.mpr h7), Bool.and_false]; rfl
      refine hm_iconst dX4_isPlace_14 (v := 0) (by decide) ?_
      refine hm_zret dX4_isPlace_15 rfl (by decide) (by decide) (by first | exact Or.inl rfl | exact Or.inr rfl | assumption) ?_
      exact hQ _ _ ⟨congrArg (fun z => some (Value.int z)) e, rfl⟩
    · skip
      have e : (1 : Int32) = bI (pIn c 16) := by unfold pIn; rw [decide_eq_true (Int32.not_lt.mp h1), decide_eq_true (show c < nI 16 from Int32.not_le.mp h7)]; rfl
      refine hm_iconst dX4_isPlace_10 (v := 1) (by decide) ?_
      refine hm_goto 15 dX4_isPlace_11 (by decide) ?_
      refine hm_zret dX4_isPlace_15 rfl (by decide) (by decide) (by first | exact Or.inl rfl | exact Or.inr rfl | assumption) ?_
      exact hQ _ _ ⟨congrArg (fun z => some (Value.int z)) e, rfl⟩
set_option maxRecDepth 100000 in
theorem k4_isChannel (σ : hm_M) (c : Int32) : hm_Ct l yX4_isChannel cX4_isChannel 1 (some .boolean) 0 0 0 [.int c] σ (fun r τ => r = some (.int (bI (pIn c 120))) ∧ τ = σ) := by
  refine hm_startQ (ini := false) [.int c] (by decide) (by decide) rfl (Nat.le_of_ble_eq_true rfl) (fun Q hQ => ?_)
  refine hm_iload_n dX4_isChannel_0 rfl ?_
  refine hm_if_lt 14 dX4_isChannel_1 (by decide) (fun h1 => ?_) (fun h1 => ?_)
  · skip
    have e : (0 : Int32) = bI (pIn c 120) := by unfold pIn; rw [decide_eq_false (Int32.not_le.mpr h1)]; rfl
    refine hm_iconst dX4_isChannel_14 (v := 0) (by decide) ?_
    refine hm_zret dX4_isChannel_15 rfl (by decide) (by decide) (by first | exact Or.inl rfl | exact Or.inr rfl | assumption) ?_
    exact hQ _ _ ⟨congrArg (fun z => some (Value.int z)) e, rfl⟩
  · skip
    refine hm_iload_n dX4_isChannel_4 rfl ?_
    refine hm_bipush dX4_isChannel_5 (v := 120) (by decide) ?_
    refine hm_icmp_ge 14 dX4_isChannel_7 (by decide) (fun h7 => ?_) (fun h7 => ?_)
    · skip
      have e : (0 : Int32) = bI (pIn c 120) := by unfold pIn; rw [decide_eq_false (show ¬ c < nI 120 from Int32.not_lt.mpr h7), Bool.and_false]; rfl
      refine hm_iconst dX4_isChannel_14 (v := 0) (by decide) ?_
      refine hm_zret dX4_isChannel_15 rfl (by decide) (by decide) (by first | exact Or.inl rfl | exact Or.inr rfl | assumption) ?_
      exact hQ _ _ ⟨congrArg (fun z => some (Value.int z)) e, rfl⟩
    · skip
      have e : (1 : Int32) = bI (pIn c 120) := by unfold pIn; rw [decide_eq_true (Int32.not_lt.mp h1), decide_eq_true (show c < nI 120 from Int32.not_le.mp h7)]; rfl
      refine hm_iconst dX4_isChannel_10 (v := 1) (by decide) ?_
      refine hm_goto 15 dX4_isChannel_11 (by decide) ?_
      refine hm_zret dX4_isChannel_15 rfl (by decide) (by decide) (by first | exact Or.inl rfl | exact Or.inr rfl | assumption) ?_
      exact hQ _ _ ⟨congrArg (fun z => some (Value.int z)) e, rfl⟩
set_option maxRecDepth 100000 in
theorem k4_mixOf (σ : hm_M) (key n : Int64) : hm_Ct l yX4_mixOf cX4_mixOf 6 (some .long) 0 0 0 [.long key, .long n] σ (fun r τ => r = some (.long (pMix key n)) ∧ τ = σ) := by
  refine hm_startQ (ini := false) [.long key, hm_u, .long n, hm_u, hm_u, hm_u] (by decide) (by decide) rfl (Nat.le_of_ble_eq_true rfl) (fun Q hQ => ?_)
  refine hm_lload_n dX4_mixOf_0 rfl ?_
  refine hm_lload_n dX4_mixOf_1 rfl ?_
  refine hm_ldc2 dX4_mixOf_2 lk_RX4_214 ?_
  refine hm_lmul dX4_mixOf_5 ?_
  refine hm_lxor dX4_mixOf_6 ?_
  refine hm_lstore dX4_mixOf_7 (by decide) rfl ?_
  refine hm_lload dX4_mixOf_9 rfl ?_
  refine hm_lload dX4_mixOf_11 rfl ?_
  refine hm_bipush dX4_mixOf_13 (v := 29) (by decide) ?_
  refine hm_lushr dX4_mixOf_15 ?_
  refine hm_lxor dX4_mixOf_16 ?_
  refine hm_ldc2 dX4_mixOf_17 lk_RX4_216 ?_
  refine hm_lmul dX4_mixOf_20 ?_
  refine hm_lstore dX4_mixOf_21 (by decide) rfl ?_
  refine hm_lload dX4_mixOf_23 rfl ?_
  refine hm_lload dX4_mixOf_25 rfl ?_
  refine hm_bipush dX4_mixOf_27 (v := 29) (by decide) ?_
  refine hm_lushr dX4_mixOf_29 ?_
  refine hm_lxor dX4_mixOf_30 ?_
  refine hm_ldc2 dX4_mixOf_31 lk_RX4_216 ?_
  refine hm_lmul dX4_mixOf_34 ?_
  refine hm_lret dX4_mixOf_35 rfl (by decide) (by decide) ?_
  exact hQ _ _ ⟨rfl, rfl⟩
set_option maxRecDepth 100000 in
theorem k4_refuse (h : rC α σ) {w : Nat} (hw : w < 7) : hm_Ct l yX4_refuse cX4_refuse 3 (some .int) 0 0 0 [.ref 0, .int (-(nI w))] σ (fun r τ => r = some (.int (pRef α w).1) ∧ rC (pRef α w).2 τ ∧ cs_fr σ τ) := by
  have hN := h.N
  have hH := h.r.2.1
  have e : - - nI w = nI w := by simp
  have e1 : hm_I σ 26 w = aI α 5 w := h.i 5 w hw
  refine hm_startQ (ini := false) [.ref 0, .int (-(nI w)), hm_u] (by decide) (by decide) rfl (Nat.le_of_ble_eq_true rfl) (fun Q hQ => ?_)
  refine hm_iload_n dX4_refuse_0 rfl ?_
  refine hm_ineg dX4_refuse_1 ?_
  rw [e]
  refine hm_istore_n dX4_refuse_2 (by decide) rfl ?_
  refine hm_iload_n dX4_refuse_3 rfl ?_
  refine hm_if_lt 26 dX4_refuse_4 (by decide) (fun h4 => absurd h4 (nI_pos (by omega))) (fun _ => ?_)
  refine hm_iload_n dX4_refuse_7 rfl ?_
  refine hm_aload_n dX4_refuse_8 rfl ?_
  refine hm_getR lf_RX4_22 rfl rfl (by first | exact Nat.lt_of_lt_of_le (by decide) hN | assumption | (simp only [hm_n_wI, hm_n_wL, hm_n_wR, hm_n_g] at *; omega)) (hH 2) dX4_refuse_9 ?_
  refine hm_alen rfl (by decide) (by first | exact Nat.lt_of_lt_of_le (by decide) hN | assumption | (simp only [hm_n_wI, hm_n_wL, hm_n_wR, hm_n_g] at *; omega)) (show Int32.ofNat 7 = nI 7 from rfl) dX4_refuse_12 ?_
  refine hm_icmp_ge 26 dX4_refuse_13 (by decide) (fun h13 => absurd h13 (nI_ge (b := 7) hw (by decide))) (fun _ => ?_)
  refine hm_aload_n dX4_refuse_16 rfl ?_
  refine hm_getR lf_RX4_22 rfl rfl (by first | exact Nat.lt_of_lt_of_le (by decide) hN | assumption | (simp only [hm_n_wI, hm_n_wL, hm_n_wR, hm_n_g] at *; omega)) (hH 2) dX4_refuse_17 ?_
  refine hm_iload_n dX4_refuse_20 rfl ?_
  refine hm_dup2 dX4_refuse_21 rfl rfl ?_
  refine hm_iald _ rfl (by first | exact Nat.lt_of_lt_of_le (by decide) hN | assumption | (simp only [hm_n_wI, hm_n_wL, hm_n_wR, hm_n_g] at *; omega)) rfl (by omega) (by decide) dX4_refuse_22 ?_
  rw [e1]
  refine hm_iconst dX4_refuse_23 (v := 1) (by decide) ?_
  refine hm_iadd dX4_refuse_24 ?_
  refine hm_iast _ rfl (by first | exact Nat.lt_of_lt_of_le (by decide) hN | assumption | (simp only [hm_n_wI, hm_n_wL, hm_n_wR, hm_n_g] at *; omega)) rfl (by omega) (by decide) dX4_refuse_25 ?_
  refine hm_iload_n dX4_refuse_26 rfl ?_
  refine hm_iret dX4_refuse_27 rfl (by decide) (by decide) ?_
  exact hQ _ _ ⟨rfl, h.upI 5 w _ hw, (cs_fr.rf σ).wI _ _ _ (by omega)⟩
set_option maxRecDepth 100000 in
theorem k4_find (h : rC α σ) (w : sW α) {p : Nat} (hp : p < nPort α) : hm_Ct l yX4_find cX4_find 2 (some (.object "CordlessHouse$Portable")) 1 0 0 [.ref 0, .int (nI p)] σ (fun r τ => r = some (.ref (pA p)) ∧ τ = σ) := by
  have hN := h.N
  have hH := h.r.2.1
  have h8 := w.p8
  have hR := (h.p hp).1
  have e : pIn (nI p) (nPort α) = true := by unfold pIn; rw [decide_eq_true (nI_pos' (by omega)), decide_eq_true ((nI_ltI (by omega) (by omega)).mpr hp)]; rfl
  refine hm_startQ (ini := false) [.ref 0, .int (nI p)] (by decide) (by decide) rfl (Nat.le_of_ble_eq_true rfl) (fun Q hQ => ?_)
  refine hm_aload_n dX4_find_0 rfl ?_
  refine hm_getR lf_RX4_12 rfl rfl (by first | exact Nat.lt_of_lt_of_le (by decide) hN | assumption | (simp only [hm_n_wI, hm_n_wL, hm_n_wR, hm_n_g] at *; omega)) (hH 0) dX4_find_1 ?_
  refine hm_iload_n dX4_find_4 rfl ?_
  refine hm_callV lm_RX4_63 (k3_hasPortable l h _) rfl rfl rfl rfl (by first | exact Nat.lt_of_lt_of_le (by decide) hN | assumption | (simp only [hm_n_wI, hm_n_wL, hm_n_wR, hm_n_g] at *; omega)) (by decide) (by decide) (Nat.le_of_ble_eq_true rfl) dX4_find_5 ?_
  rintro _ t9 ⟨rfl, hh9⟩
  rw [hh9]
  clear hh9 t9
  rw [e]
  refine hm_if_eq 20 dX4_find_8 (by decide) (fun h8 => absurd h8 (by decide)) (fun _ => ?_)
  refine hm_aload_n dX4_find_11 rfl ?_
  refine hm_getR lf_RX4_18 rfl rfl (by first | exact Nat.lt_of_lt_of_le (by decide) hN | assumption | (simp only [hm_n_wI, hm_n_wL, hm_n_wR, hm_n_g] at *; omega)) (hH 1) dX4_find_12 ?_
  refine hm_iload_n dX4_find_15 rfl ?_
  refine hm_aald _ (.ref (pA p)) rfl (by decide) (by first | exact Nat.lt_of_lt_of_le (by decide) hN | assumption | (simp only [hm_n_wI, hm_n_wL, hm_n_wR, hm_n_g] at *; omega)) rfl (by omega) (by decide) (Or.inr ⟨_, rfl, hR⟩) dX4_find_16 ?_
  refine hm_goto 21 dX4_find_17 (by decide) ?_
  refine hm_aret dX4_find_21 rfl (by decide) (by decide) (by first | exact Or.inl rfl | exact Or.inr ⟨_, rfl⟩) ?_
  exact hQ _ _ ⟨rfl, rfl⟩
set_option maxRecDepth 100000 in
theorem k4_findN (h : rC α σ) {x : Int32} (hx : pIn x (nPort α) = false) : hm_Ct l yX4_find cX4_find 2 (some (.object "CordlessHouse$Portable")) 1 0 0 [.ref 0, .int x] σ (fun r τ => r = some .null ∧ τ = σ) := by
  have hN := h.N
  have hH := h.r.2.1
  refine hm_startQ (ini := false) [.ref 0, .int x] (by decide) (by decide) rfl (Nat.le_of_ble_eq_true rfl) (fun Q hQ => ?_)
  refine hm_aload_n dX4_find_0 rfl ?_
  refine hm_getR lf_RX4_12 rfl rfl (by first | exact Nat.lt_of_lt_of_le (by decide) hN | assumption | (simp only [hm_n_wI, hm_n_wL, hm_n_wR, hm_n_g] at *; omega)) (hH 0) dX4_find_1 ?_
  refine hm_iload_n dX4_find_4 rfl ?_
  refine hm_callV lm_RX4_63 (k3_hasPortable l h _) rfl rfl rfl rfl (by first | exact Nat.lt_of_lt_of_le (by decide) hN | assumption | (simp only [hm_n_wI, hm_n_wL, hm_n_wR, hm_n_g] at *; omega)) (by decide) (by decide) (Nat.le_of_ble_eq_true rfl) dX4_find_5 ?_
  rintro _ t9 ⟨rfl, hh9⟩
  rw [hh9]
  clear hh9 t9
  rw [hx]
  refine hm_if_eq 20 dX4_find_8 (by decide) (fun _ => ?_) (fun h8 => absurd (by decide) h8)
  refine hm_null dX4_find_20 ?_
  refine hm_aret dX4_find_21 rfl (by decide) (by decide) (by first | exact Or.inl rfl | exact Or.inr ⟨_, rfl⟩) ?_
  exact hQ _ _ ⟨rfl, rfl⟩
set_option maxRecDepth 100000 in
theorem k4_isOneCall (h : rC α σ) (w : sW α) {p q : Nat} (hp : p < nPort α) (hq : q < nPort α) : hm_Ct l yX4_isOneCall cX4_isOneCall 2 (some .boolean) 1 0 0 [.ref (pA p), .ref (pA q)] σ (fun r τ => r = some (.int (bI (decide (aI α 2 q = nI p) && pBoth (aI α 1 p) (aI α 1 q)))) ∧ τ = σ) := by
  have hn := h.pn hp
  have hn2 := h.pn hq
  have hs := S_pA0 p
  have hs2 := S_pA0 q
  have e0 : hm_I σ (pA p) 0 = nI p := (h.p hp).2.2.1
  have e1 : hm_I σ (pA p) 4 = aI α 1 p := h.i 1 p hp
  have e2 : hm_I σ (pA q) 4 = aI α 1 q := h.i 1 q hq
  have e3 : hm_I σ (pA q) 5 = aI α 2 q := h.i 2 q hq
  refine hm_startQ (ini := false) [.ref (pA p), .ref (pA q)] (by decide) (by decide) rfl (Nat.le_of_ble_eq_true rfl) (fun Q hQ => ?_)
  have j1 : ∀ (hc : aI α 2 q = nI p) (v : Int32), v = bI (pBoth (aI α 1 p) (aI α 1 q)) → Q (some (.int v)) σ := fun hc v hv => hQ _ _ ⟨by rw [hv, hc, decide_eq_true rfl, Bool.true_and], rfl⟩
  refine hm_aload_n dX4_isOneCall_0 rfl ?_
  refine hm_getI lf_RX4_91 rfl hs2 (by omega) dX4_isOneCall_1 ?_
  rw [e3]
  refine hm_aload_n dX4_isOneCall_4 rfl ?_
  refine hm_getI lf_RX4_253 rfl hs (by omega) dX4_isOneCall_5 ?_
  rw [e0]
  refine hm_icmp_eq 13 dX4_isOneCall_8 (by decide) (fun h8 => ?_) (fun h8 => ?_)
  · skip
    refine hm_aload_n dX4_isOneCall_13 rfl ?_
    refine hm_callV lm_RX4_305 (k2_calls l h hp) rfl rfl hs rfl (by omega) (by decide) (by decide) (Nat.le_of_ble_eq_true rfl) dX4_isOneCall_14 ?_
    rintro _ t9 ⟨rfl, hh9⟩
    rw [hh9]
    clear hh9 t9
    refine hm_if_eq 27 dX4_isOneCall_17 (by decide) (fun h17 => ?_) (fun h17 => ?_)
    · skip
      rw [bI_0] at h17
      refine hm_aload_n dX4_isOneCall_27 rfl ?_
      refine hm_callV lm_RX4_308 (k2_isCalled l h hp) rfl rfl hs rfl (by omega) (by decide) (by decide) (Nat.le_of_ble_eq_true rfl) dX4_isOneCall_28 ?_
      rintro _ t9 ⟨rfl, hh9⟩
      rw [hh9]
      clear hh9 t9
      refine hm_if_eq 41 dX4_isOneCall_31 (by decide) (fun h31 => ?_) (fun h31 => ?_)
      · skip
        rw [bI_0] at h31
        refine hm_aload_n dX4_isOneCall_41 rfl ?_
        refine hm_getI lf_RX4_73 rfl hs (by omega) dX4_isOneCall_42 ?_
        rw [e1]
        refine hm_bipush dX4_isOneCall_45 (v := 7) (by decide) ?_
        refine hm_icmp_ne 63 dX4_isOneCall_47 (by decide) (fun h47 => ?_) (fun h47 => ?_)
        · skip
          refine hm_iconst dX4_isOneCall_63 (v := 0) (by decide) ?_
          refine hm_zret dX4_isOneCall_64 rfl (by decide) (by decide) (by first | exact Or.inl rfl | exact Or.inr rfl | assumption) ?_
          exact j1 h8 _ (by clear j1 hQ; simp_all [pBoth, bI])
        · skip
          refine hm_aload_n dX4_isOneCall_50 rfl ?_
          refine hm_getI lf_RX4_73 rfl hs2 (by omega) dX4_isOneCall_51 ?_
          rw [e2]
          refine hm_bipush dX4_isOneCall_54 (v := 7) (by decide) ?_
          refine hm_icmp_ne 63 dX4_isOneCall_56 (by decide) (fun h56 => ?_) (fun h56 => ?_)
          · skip
            refine hm_iconst dX4_isOneCall_63 (v := 0) (by decide) ?_
            refine hm_zret dX4_isOneCall_64 rfl (by decide) (by decide) (by first | exact Or.inl rfl | exact Or.inr rfl | assumption) ?_
            exact j1 h8 _ (by clear j1 hQ; simp_all [pBoth, bI])
          · skip
            refine hm_iconst dX4_isOneCall_59 (v := 1) (by decide) ?_
            refine hm_goto 64 dX4_isOneCall_60 (by decide) ?_
            refine hm_zret dX4_isOneCall_64 rfl (by decide) (by decide) (by first | exact Or.inl rfl | exact Or.inr rfl | assumption) ?_
            exact j1 h8 _ (by clear j1 hQ; simp_all [pBoth, bI])
      · skip
        rw [bI_0] at h31
        refine hm_aload_n dX4_isOneCall_34 rfl ?_
        refine hm_callV lm_RX4_305 (k2_calls l h hq) rfl rfl hs2 rfl (by omega) (by decide) (by decide) (Nat.le_of_ble_eq_true rfl) dX4_isOneCall_35 ?_
        rintro _ t9 ⟨rfl, hh9⟩
        rw [hh9]
        clear hh9 t9
        refine hm_if_ne 59 dX4_isOneCall_38 (by decide) (fun h38 => ?_) (fun h38 => ?_)
        · skip
          rw [bI_0] at h38
          refine hm_iconst dX4_isOneCall_59 (v := 1) (by decide) ?_
          refine hm_goto 64 dX4_isOneCall_60 (by decide) ?_
          refine hm_zret dX4_isOneCall_64 rfl (by decide) (by decide) (by first | exact Or.inl rfl | exact Or.inr rfl | assumption) ?_
          exact j1 h8 _ (by clear j1 hQ; simp_all [pBoth, bI])
        · skip
          rw [bI_0] at h38
          refine hm_aload_n dX4_isOneCall_41 rfl ?_
          refine hm_getI lf_RX4_73 rfl hs (by omega) dX4_isOneCall_42 ?_
          rw [e1]
          refine hm_bipush dX4_isOneCall_45 (v := 7) (by decide) ?_
          refine hm_icmp_ne 63 dX4_isOneCall_47 (by decide) (fun h47 => ?_) (fun h47 => ?_)
          · skip
            refine hm_iconst dX4_isOneCall_63 (v := 0) (by decide) ?_
            refine hm_zret dX4_isOneCall_64 rfl (by decide) (by decide) (by first | exact Or.inl rfl | exact Or.inr rfl | assumption) ?_
            exact j1 h8 _ (by clear j1 hQ; simp_all [pBoth, bI])
          · skip
            refine hm_aload_n dX4_isOneCall_50 rfl ?_
            refine hm_getI lf_RX4_73 rfl hs2 (by omega) dX4_isOneCall_51 ?_
            rw [e2]
            refine hm_bipush dX4_isOneCall_54 (v := 7) (by decide) ?_
            refine hm_icmp_ne 63 dX4_isOneCall_56 (by decide) (fun h56 => ?_) (fun h56 => ?_)
            · skip
              refine hm_iconst dX4_isOneCall_63 (v := 0) (by decide) ?_
              refine hm_zret dX4_isOneCall_64 rfl (by decide) (by decide) (by first | exact Or.inl rfl | exact Or.inr rfl | assumption) ?_
              exact j1 h8 _ (by clear j1 hQ; simp_all [pBoth, bI])
            · skip
              refine hm_iconst dX4_isOneCall_59 (v := 1) (by decide) ?_
              refine hm_goto 64 dX4_isOneCall_60 (by decide) ?_
              refine hm_zret dX4_isOneCall_64 rfl (by decide) (by decide) (by first | exact Or.inl rfl | exact Or.inr rfl | assumption) ?_
              exact j1 h8 _ (by clear j1 hQ; simp_all [pBoth, bI])
    · skip
      rw [bI_0] at h17
      refine hm_aload_n dX4_isOneCall_20 rfl ?_
      refine hm_callV lm_RX4_308 (k2_isCalled l h hq) rfl rfl hs2 rfl (by omega) (by decide) (by decide) (Nat.le_of_ble_eq_true rfl) dX4_isOneCall_21 ?_
      rintro _ t9 ⟨rfl, hh9⟩
      rw [hh9]
      clear hh9 t9
      refine hm_if_ne 59 dX4_isOneCall_24 (by decide) (fun h24 => ?_) (fun h24 => ?_)
      · skip
        rw [bI_0] at h24
        refine hm_iconst dX4_isOneCall_59 (v := 1) (by decide) ?_
        refine hm_goto 64 dX4_isOneCall_60 (by decide) ?_
        refine hm_zret dX4_isOneCall_64 rfl (by decide) (by decide) (by first | exact Or.inl rfl | exact Or.inr rfl | assumption) ?_
        exact j1 h8 _ (by clear j1 hQ; simp_all [pBoth, bI])
      · skip
        rw [bI_0] at h24
        refine hm_aload_n dX4_isOneCall_27 rfl ?_
        refine hm_callV lm_RX4_308 (k2_isCalled l h hp) rfl rfl hs rfl (by omega) (by decide) (by decide) (Nat.le_of_ble_eq_true rfl) dX4_isOneCall_28 ?_
        rintro _ t9 ⟨rfl, hh9⟩
        rw [hh9]
        clear hh9 t9
        refine hm_if_eq 41 dX4_isOneCall_31 (by decide) (fun h31 => ?_) (fun h31 => ?_)
        · skip
          rw [bI_0] at h31
          refine hm_aload_n dX4_isOneCall_41 rfl ?_
          refine hm_getI lf_RX4_73 rfl hs (by omega) dX4_isOneCall_42 ?_
          rw [e1]
          refine hm_bipush dX4_isOneCall_45 (v := 7) (by decide) ?_
          refine hm_icmp_ne 63 dX4_isOneCall_47 (by decide) (fun h47 => ?_) (fun h47 => ?_)
          · skip
            refine hm_iconst dX4_isOneCall_63 (v := 0) (by decide) ?_
            refine hm_zret dX4_isOneCall_64 rfl (by decide) (by decide) (by first | exact Or.inl rfl | exact Or.inr rfl | assumption) ?_
            exact j1 h8 _ (by clear j1 hQ; simp_all [pBoth, bI])
          · skip
            refine hm_aload_n dX4_isOneCall_50 rfl ?_
            refine hm_getI lf_RX4_73 rfl hs2 (by omega) dX4_isOneCall_51 ?_
            rw [e2]
            refine hm_bipush dX4_isOneCall_54 (v := 7) (by decide) ?_
            refine hm_icmp_ne 63 dX4_isOneCall_56 (by decide) (fun h56 => ?_) (fun h56 => ?_)
            · skip
              refine hm_iconst dX4_isOneCall_63 (v := 0) (by decide) ?_
              refine hm_zret dX4_isOneCall_64 rfl (by decide) (by decide) (by first | exact Or.inl rfl | exact Or.inr rfl | assumption) ?_
              exact j1 h8 _ (by clear j1 hQ; simp_all [pBoth, bI])
            · skip
              refine hm_iconst dX4_isOneCall_59 (v := 1) (by decide) ?_
              refine hm_goto 64 dX4_isOneCall_60 (by decide) ?_
              refine hm_zret dX4_isOneCall_64 rfl (by decide) (by decide) (by first | exact Or.inl rfl | exact Or.inr rfl | assumption) ?_
              exact j1 h8 _ (by clear j1 hQ; simp_all [pBoth, bI])
        · skip
          rw [bI_0] at h31
          refine hm_aload_n dX4_isOneCall_34 rfl ?_
          refine hm_callV lm_RX4_305 (k2_calls l h hq) rfl rfl hs2 rfl (by omega) (by decide) (by decide) (Nat.le_of_ble_eq_true rfl) dX4_isOneCall_35 ?_
          rintro _ t9 ⟨rfl, hh9⟩
          rw [hh9]
          clear hh9 t9
          refine hm_if_ne 59 dX4_isOneCall_38 (by decide) (fun h38 => ?_) (fun h38 => ?_)
          · skip
            rw [bI_0] at h38
            refine hm_iconst dX4_isOneCall_59 (v := 1) (by decide) ?_
            refine hm_goto 64 dX4_isOneCall_60 (by decide) ?_
            refine hm_zret dX4_isOneCall_64 rfl (by decide) (by decide) (by first | exact Or.inl rfl | exact Or.inr rfl | assumption) ?_
            exact j1 h8 _ (by clear j1 hQ; simp_all [pBoth, bI])
          · skip
            rw [bI_0] at h38
            refine hm_aload_n dX4_isOneCall_41 rfl ?_
            refine hm_getI lf_RX4_73 rfl hs (by omega) dX4_isOneCall_42 ?_
            rw [e1]
            refine hm_bipush dX4_isOneCall_45 (v := 7) (by decide) ?_
            refine hm_icmp_ne 63 dX4_isOneCall_47 (by decide) (fun h47 => ?_) (fun h47 => ?_)
            · skip
              refine hm_iconst dX4_isOneCall_63 (v := 0) (by decide) ?_
              refine hm_zret dX4_isOneCall_64 rfl (by decide) (by decide) (by first | exact Or.inl rfl | exact Or.inr rfl | assumption) ?_
              exact j1 h8 _ (by clear j1 hQ; simp_all [pBoth, bI])
            · skip
              refine hm_aload_n dX4_isOneCall_50 rfl ?_
              refine hm_getI lf_RX4_73 rfl hs2 (by omega) dX4_isOneCall_51 ?_
              rw [e2]
              refine hm_bipush dX4_isOneCall_54 (v := 7) (by decide) ?_
              refine hm_icmp_ne 63 dX4_isOneCall_56 (by decide) (fun h56 => ?_) (fun h56 => ?_)
              · skip
                refine hm_iconst dX4_isOneCall_63 (v := 0) (by decide) ?_
                refine hm_zret dX4_isOneCall_64 rfl (by decide) (by decide) (by first | exact Or.inl rfl | exact Or.inr rfl | assumption) ?_
                exact j1 h8 _ (by clear j1 hQ; simp_all [pBoth, bI])
              · skip
                refine hm_iconst dX4_isOneCall_59 (v := 1) (by decide) ?_
                refine hm_goto 64 dX4_isOneCall_60 (by decide) ?_
                refine hm_zret dX4_isOneCall_64 rfl (by decide) (by decide) (by first | exact Or.inl rfl | exact Or.inr rfl | assumption) ?_
                exact j1 h8 _ (by clear j1 hQ; simp_all [pBoth, bI])
  · skip
    refine hm_iconst dX4_isOneCall_11 (v := 0) (by decide) ?_
    refine hm_zret dX4_isOneCall_12 rfl (by decide) (by decide) (by first | exact Or.inl rfl | exact Or.inr rfl | assumption) ?_
    exact hQ _ _ ⟨by rw [decide_eq_false h8]; rfl, rfl⟩
set_option maxRecDepth 100000 in
theorem k4_release (h : rC α σ) (w : sW α) {p : Nat} (hp : p < nPort α) : hm_Ct l yX4_release cX4_release 2 none 2 0 0 [.ref 0, .ref (pA p)] σ (fun r τ => r = none ∧ rC (pIdle α p) τ ∧ cs_fr σ τ) := by
  have hN := h.N
  have hH := h.r.2.1
  have hn := h.pn hp
  have hs := S_pA0 p
  have h8 := w.p8
  have wi := w.idle hp
  have w2 : sW (sQ (sQ (sI (sI α 1 p 0) 2 p (-9)) 0 p []) 1 p []) := ⟨w.1, w.2.1, w.2.2.1, w.2.2.2.1, w.2.2.2.2.1, wi.2.2.2.2.2.1, wi.2.2.2.2.2.2.1, wi.2.2.2.2.2.2.2.1, wi.2.2.2.2.2.2.2.2⟩
  refine hm_startQ (ini := false) [.ref 0, .ref (pA p)] (by decide) (by decide) rfl (Nat.le_of_ble_eq_true rfl) (fun Q hQ => ?_)
  refine hm_aload_n dX4_release_0 rfl ?_
  refine hm_callV lm_RX4_311 (k2_becomeIdle l h hp) rfl rfl hs rfl (by omega) (by decide) (by decide) (Nat.le_of_ble_eq_true rfl) dX4_release_1 ?_
  rintro _ τ ⟨rfl, hτ, hf⟩
  have hN := hτ.N
  have hH := hτ.r.2.1
  have hn : pA p + 6 < hm_n τ := hτ.pn hp
  have e0 : hm_I τ (pA p) 0 = nI p := (hτ.p (show p < nPort α from hp)).2.2.1
  refine hm_aload_n dX4_release_4 rfl ?_
  refine hm_getR lf_RX4_12 rfl rfl (by first | exact Nat.lt_of_lt_of_le (by decide) hN | assumption | (simp only [hm_n_wI, hm_n_wL, hm_n_wR, hm_n_g] at *; omega)) (hH 0) dX4_release_5 ?_
  refine hm_aload_n dX4_release_8 rfl ?_
  refine hm_getI lf_RX4_253 rfl hs (by omega) dX4_release_9 ?_
  rw [e0]
  refine hm_callV lm_RX4_314 (k3_dropBearersOf l hτ w2 (by omega)) rfl rfl rfl rfl (by first | exact Nat.lt_of_lt_of_le (by decide) hN | assumption | (simp only [hm_n_wI, hm_n_wL, hm_n_wR, hm_n_g] at *; omega)) (by decide) (by decide) (Nat.le_of_ble_eq_true rfl) dX4_release_12 ?_
  rintro _ ρ ⟨rfl, hρ, hf2⟩
  refine hm_vret dX4_release_15 rfl (by decide) (by decide) ?_
  exact hQ _ _ ⟨rfl, hρ, hf.tr hf2⟩
set_option maxRecDepth 100000 in
theorem k4_endCall (h : rC α σ) (w : sW α) {p : Nat} (hp : p < nPort α) (hst : aI α 1 p ≠ 0) : hm_Ct l yX4_endCall cX4_endCall 3 none 3 0 0 [.ref 0, .ref (pA p)] σ (fun r τ => r = none ∧ rC (pEnds α p) τ ∧ cs_fr σ τ) := by
  have hN := h.N
  have hH := h.r.2.1
  have hn := h.pn hp
  have hs := S_pA0 p
  have h8 := w.p8
  obtain ⟨hq, hne, hpar, -, -⟩ := w.par hp hst
  have e5 : hm_I σ (pA p) 5 = nI (pPar α p) := (h.i 2 p hp).trans hpar
  refine hm_startQ (ini := false) [.ref 0, .ref (pA p), hm_u] (by decide) (by decide) rfl (Nat.le_of_ble_eq_true rfl) (fun Q hQ => ?_)
  have j2 : ∀ (β : sA) (τ : hm_M), rC β τ → sW β → nPort β = nPort α → pEnds α p = pEnded (pIdle β p) → cs_fr σ τ → hm_V l RX4 cX4_endCall 3 none false (hm_rm 3 0 0) 0 0 Q 0 0 26 [.ref 0, .ref (pA p), .ref (pA (pPar α p))] [] τ := by
    intro β τ hτ wβ hnp he hf
    have hN := hτ.N
    have hp2 : p < nPort β := by omega
    refine hm_aload_n dX4_endCall_26 rfl ?_
    refine hm_aload_n dX4_endCall_27 rfl ?_
    refine hm_callV lm_RX4_302 (k4_release l hτ wβ hp2) rfl rfl rfl rfl (by first | exact Nat.lt_of_lt_of_le (by decide) hN | assumption | (simp only [hm_n_wI, hm_n_wL, hm_n_wR, hm_n_g] at *; omega)) (by decide) (by decide) (Nat.le_of_ble_eq_true rfl) dX4_endCall_28 ?_
    rintro _ ρ ⟨rfl, hρ, hf2⟩
    have hN := hρ.N
    have e6 : hm_I ρ 0 5 = aI (pIdle β p) 4 2 := hρ.i 4 2 (by show 2 < 6; decide)
    refine hm_aload_n dX4_endCall_31 rfl ?_
    refine hm_dup dX4_endCall_32 rfl ?_
    refine hm_getI lf_RX4_205 rfl rfl (by first | exact Nat.lt_of_lt_of_le (by decide) hN | assumption | (simp only [hm_n_wI, hm_n_wL, hm_n_wR, hm_n_g] at *; omega)) dX4_endCall_33 ?_
    rw [e6]
    refine hm_iconst dX4_endCall_36 (v := 1) (by decide) ?_
    refine hm_iadd dX4_endCall_37 ?_
    refine hm_putI lf_RX4_205 rfl rfl rfl (by first | exact Nat.lt_of_lt_of_le (by decide) hN | assumption | (simp only [hm_n_wI, hm_n_wL, hm_n_wR, hm_n_g] at *; omega)) dX4_endCall_38 ?_
    refine hm_vret dX4_endCall_41 rfl (by decide) (by decide) ?_
    exact hQ _ _ ⟨rfl, by rw [he]; exact hρ.upI 4 2 _ (by show 2 < 6; decide), (hf.tr hf2).wI _ _ _ (by omega)⟩
  refine hm_aload_n dX4_endCall_0 rfl ?_
  refine hm_aload_n dX4_endCall_1 rfl ?_
  refine hm_getI lf_RX4_91 rfl hs (by omega) dX4_endCall_2 ?_
  rw [e5]
  refine hm_callV lm_RX4_69 (k4_find l h w hq) rfl rfl rfl rfl (by first | exact Nat.lt_of_lt_of_le (by decide) hN | assumption | (simp only [hm_n_wI, hm_n_wL, hm_n_wR, hm_n_g] at *; omega)) (by decide) (by decide) (Nat.le_of_ble_eq_true rfl) dX4_endCall_5 ?_
  rintro _ t9 ⟨rfl, hh9⟩
  rw [hh9]
  clear hh9 t9
  refine hm_astore_n dX4_endCall_8 (by decide) rfl ?_
  refine hm_aload_n dX4_endCall_9 rfl ?_
  refine hm_ifnull dX4_endCall_10 ?_
  refine hm_aload_n dX4_endCall_13 rfl ?_
  refine hm_aload_n dX4_endCall_14 rfl ?_
  refine hm_callS lm_RX4_298 (k4_isOneCall l h w hp hq) rfl rfl (by decide) (by decide) (Nat.le_of_ble_eq_true rfl) dX4_endCall_15 ?_
  rintro _ t9 ⟨rfl, hh9⟩
  rw [hh9]
  clear hh9 t9
  refine hm_if_eq 26 dX4_endCall_18 (by decide) (fun h18 => ?_) (fun h18 => ?_)
  · skip
    rw [bI_0] at h18
    have g : pTog α p = false := h18
    exact j2 α σ h w rfl (by unfold pEnds; rw [g]; rfl) (cs_fr.rf σ)
  · skip
    rw [bI_0] at h18
    have g : pTog α p = true := b_nf h18
    refine hm_aload_n dX4_endCall_21 rfl ?_
    refine hm_aload_n dX4_endCall_22 rfl ?_
    refine hm_callV lm_RX4_302 (k4_release l h w hq) rfl rfl rfl rfl (by first | exact Nat.lt_of_lt_of_le (by decide) hN | assumption | (simp only [hm_n_wI, hm_n_wL, hm_n_wR, hm_n_g] at *; omega)) (by decide) (by decide) (Nat.le_of_ble_eq_true rfl) dX4_endCall_23 ?_
    rintro _ τ ⟨rfl, hτ, hf⟩
    exact j2 _ _ hτ (w.idle hq) rfl (by unfold pEnds; rw [if_pos g, idle_comm α (Ne.symm hne)]) hf
end C7
