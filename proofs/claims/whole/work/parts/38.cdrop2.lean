/-! the class's radio: the last of it -/
theorem rC.lowN {α β : sA} {σ τ : hm_M} (h : rC α σ) (hR : hm_R τ = hm_R σ) (hn : hm_n τ = hm_n σ) (hL : hm_L τ = hm_L σ) (hI : ∀ a k, 9 ≤ a → hm_I τ a k = hm_I σ a k) (hB : hm_I τ 1 2 = hm_I σ 1 2) (eB : aB β = aB α) (eQ : aQ β = aQ α) (eL : aL β = aL α) (eI : aI β = aI α) (eP : nPort β = nPort α) (hN : ∀ f i, i < cs_bN (nPort α) f → hm_I τ (cs_lN f i).1 (cs_lN f i).2 = nI (aN β f i)) (hI' : ∀ f i, i < cs_bI (nPort α) f → hm_I τ (cs_lI f i).1 (cs_lI f i).2 = hm_I σ (cs_lI f i).1 (cs_lI f i).2) (hz : cs_Z β τ) : rC β τ := by
  have ebk : ∀ (a c g : Nat) (q : List Int64), 52 ≤ a → bk σ a c g q → bk τ a c g q := fun a c g q ha hb => by
    obtain ⟨b1, b2, b3, b4, b5⟩ := hb
    exact ⟨by rw [hI a 1 (by omega)]; exact b1, b2, by rw [hI a 2 (by omega)]; exact b3, b4, fun k v hv => by rw [hL]; exact b5 k v hv⟩
  refine ⟨⟨by rw [hn, eP]; exact h.r.1, by rw [hR]; exact h.r.2.1, by rw [hR]; exact h.r.2.2⟩, fun f i hi => hN f i (by rw [eP] at hi; exact hi), fun f i hi => ?_, fun f i hi => ?_, hz, ?_, fun p hp => ?_⟩
  · rw [eP] at hi; rw [hI' f i hi, eI]; exact h.i f i hi
  · rw [eP] at hi; rw [hL, eL]; exact h.l f i hi
  · rw [eB]
    have hl := @cs_B.lt _ _ h.b
    obtain ⟨c1, π, c2, c3⟩ := h.b
    refine ⟨⟨by rw [hB]; exact c1.1, c1.2⟩, π, ⟨fun k hk => by rw [hR]; exact c2.1 k hk, c2.2⟩, fun b x hb => ?_⟩
    obtain ⟨e1, e2, e3, e4, e5⟩ := c3 b x hb
    refine ⟨?_, ?_, ?_, ?_, ?_⟩ <;> rw [hI _ _ (by omega)] <;> assumption
  · rw [eP] at hp
    obtain ⟨c1, c2, c3, ⟨f1, c4⟩, ⟨f2, c5⟩, f3, c6⟩ := h.p hp
    have hpa : 52 ≤ pA p := by unfold pA; omega
    refine ⟨by rw [hR]; exact c1, by rw [hR]; exact c2, by rw [hI _ _ (by omega)]; exact c3, ⟨f1, ?_⟩, ⟨f2, ?_⟩, f3, ?_⟩ <;> rw [eQ]
    · exact ebk _ _ _ _ (by omega) c4
    · exact ebk _ _ _ _ (by omega) c5
    · exact ebk _ _ _ _ (by omega) c6
section C6
variable (l : Launch) {α : sA} {σ : hm_M}
set_option maxRecDepth 100000 in
theorem k3_dropFailed (h : rC α σ) (w : sW α) : hm_Ct l yX3_dropFailed cX3_dropFailed 2 none 1 0 0 [.ref 1] σ (fun r τ => r = none ∧ rC (pDropF α) τ ∧ cs_fr σ τ) := by
  have hN := h.N
  have hA := h.r.2.2
  have hlen := w.len
  have hb1 := h.bl
  refine hm_startQ (ini := false) [.ref 1, hm_u] (by decide) (by decide) rfl (Nat.le_of_ble_eq_true rfl) (fun Q hQ => ?_)
  have hl : ∀ (b : Nat) (τ : hm_M) (u : Int32), b ≤ (aB α).length → rC (sB α ((aB α).take b ++ ((aB α).drop b).filter (fun x => !decide ((8 : Int32) ≤ bFl x)))) τ → cs_fr σ τ → u = nI b - 1 → hm_V l RX3 cX3_dropFailed 2 none false (hm_rm 1 0 0) 0 0 Q 0 0 7 [.ref 1, .int u] [] τ := by
    intro b
    induction b with
    | zero =>
      intro τ u hb hτ hf hu
      subst hu
      have hN := hτ.N
      have hA := hτ.r.2.2
      refine hm_iload_n dX3_dropFailed_7 rfl ?_
      refine hm_if_lt 36 dX3_dropFailed_8 (by decide) (fun _ => ?_) (fun h8 => absurd (by decide) h8)
      refine hm_vret dX3_dropFailed_36 rfl (by decide) (by decide) ?_
      exact hQ _ _ ⟨rfl, by unfold pDropF; simpa using hτ, hf⟩
    | succ b ih =>
      intro τ u hb hτ hf hu
      have hu : u = nI b := by rw [hu]; exact nI_pred b
      subst hu
      have hN := hτ.N
      have hA := hτ.r.2.2
      obtain ⟨x, hx⟩ : ∃ x, (aB α)[b]? = some x := ⟨_, List.getElem?_eq_getElem (by omega)⟩
      have hd : (aB α).drop b = x :: (aB α).drop (b + 1) := by rw [← List.getElem_cons_drop (show b < (aB α).length by omega)]; congr 1; exact Option.some.inj ((List.getElem?_eq_getElem _).symm.trans hx)
      have ht : (aB α).take (b + 1) = (aB α).take b ++ [x] := by rw [List.take_succ, hx]; rfl
      have hsub : ((aB α).take (b + 1) ++ ((aB α).drop (b + 1)).filter (fun x => !decide ((8 : Int32) ≤ bFl x))).Sublist (aB α) := by
        conv => rhs; rw [← List.take_append_drop (b + 1) (aB α)]
        exact (List.Sublist.refl _).append List.filter_sublist
      have wτ := w.sub hsub
      rw [ht, List.append_assoc, List.singleton_append] at hτ wτ
      have htl : ((aB α).take b).length = b := by rw [List.length_take]; omega
      have hC : (aB (sB α ((aB α).take b ++ x :: ((aB α).drop (b + 1)).filter (fun x => !decide ((8 : Int32) ≤ bFl x)))))[b]? = some x := by
        rw [aB_sB, List.getElem?_append_right (by omega), htl, Nat.sub_self]; rfl
      obtain ⟨a, hR, ha, hSa, e1, e2, e3, e4, e5⟩ := hτ.ba hC
      have ih2 := ih
      rw [hd, List.filter_cons] at ih2
      have hbl : b < (aB (sB α ((aB α).take b ++ x :: ((aB α).drop (b + 1)).filter (fun x => !decide ((8 : Int32) ≤ bFl x))))).length := (List.getElem?_eq_some_iff.mp hC).1
      have her : (aB (sB α ((aB α).take b ++ x :: ((aB α).drop (b + 1)).filter (fun x => !decide ((8 : Int32) ≤ bFl x))))).eraseIdx b = (aB α).take b ++ ((aB α).drop (b + 1)).filter (fun x => !decide ((8 : Int32) ≤ bFl x)) := by
        rw [aB_sB]
        have := er_mid ((aB α).take b) (((aB α).drop (b + 1)).filter (fun x => !decide ((8 : Int32) ≤ bFl x))) x
        rw [htl] at this
        exact this
      refine hm_iload_n dX3_dropFailed_7 rfl ?_
      refine hm_if_lt 36 dX3_dropFailed_8 (by decide) (fun h8 => absurd h8 (nI_pos (by omega))) (fun _ => ?_)
      refine hm_aload_n dX3_dropFailed_11 rfl ?_
      refine hm_getR lf_RX3_32 rfl rfl (by first | exact Nat.lt_of_lt_of_le (by decide) hN | assumption | (simp only [hm_n_wI, hm_n_wL, hm_n_wR, hm_n_g] at *; omega)) (hA 10) dX3_dropFailed_12 ?_
      refine hm_iload_n dX3_dropFailed_15 rfl ?_
      refine hm_aald _ (.ref a) rfl (by decide) (by first | exact Nat.lt_of_lt_of_le (by decide) hN | assumption | (simp only [hm_n_wI, hm_n_wL, hm_n_wR, hm_n_g] at *; omega)) rfl (by omega) (by decide) (Or.inr ⟨a, rfl, hR⟩) dX3_dropFailed_16 ?_
      refine hm_getI lf_RX3_70 rfl hSa (by omega) dX3_dropFailed_17 ?_
      rw [e4]
      refine hm_bipush dX3_dropFailed_20 (v := 8) (by decide) ?_
      refine hm_icmp_lt 30 dX3_dropFailed_22 (by decide) (fun h22 => ?_) (fun h22 => ?_)
      · skip
        rw [if_pos (by simpa [← Int32.not_lt] using h22)] at ih2
        have hτ2 := hτ
        have hf2 := hf
        refine hm_iinc dX3_dropFailed_30 rfl _ rfl (by decide) rfl ?_
        refine hm_goto 7 dX3_dropFailed_33 (by decide) ?_
        exact ih2 _ _ (by omega) hτ2 hf2 (hm_m1 _)
      · skip
        rw [if_neg (by simpa [← Int32.not_lt] using h22)] at ih2
        refine hm_aload_n dX3_dropFailed_25 rfl ?_
        refine hm_iload_n dX3_dropFailed_26 rfl ?_
        refine hm_callV lm_RX3_116 (k3_dropBearer l hτ wτ hbl) rfl rfl rfl rfl (by first | exact Nat.lt_of_lt_of_le (by decide) hN | assumption | (simp only [hm_n_wI, hm_n_wL, hm_n_wR, hm_n_g] at *; omega)) (by decide) (by decide) (Nat.le_of_ble_eq_true rfl) dX3_dropFailed_27 ?_
        rintro _ τ2 ⟨rfl, hτ2, hf2⟩
        rw [her] at hτ2
        have hτ2 : rC (sB α _) τ2 := hτ2
        replace hf2 := hf.tr hf2
        refine hm_iinc dX3_dropFailed_30 rfl _ rfl (by decide) rfl ?_
        refine hm_goto 7 dX3_dropFailed_33 (by decide) ?_
        exact ih2 _ _ (by omega) hτ2 hf2 (hm_m1 _)
  refine hm_aload_n dX3_dropFailed_0 rfl ?_
  refine hm_getI lf_RX3_58 rfl rfl (by first | exact Nat.lt_of_lt_of_le (by decide) hN | assumption | (simp only [hm_n_wI, hm_n_wL, hm_n_wR, hm_n_g] at *; omega)) dX3_dropFailed_1 ?_
  rw [hb1]
  refine hm_iconst dX3_dropFailed_4 (v := 1) (by decide) ?_
  refine hm_isub dX3_dropFailed_5 ?_
  refine hm_istore_n dX3_dropFailed_6 (by decide) rfl ?_
  exact hl (aB α).length _ _ (Nat.le_refl _) (by rw [List.take_length, List.drop_length]; exact h.mid _ (by simp)) (cs_fr.rf σ) rfl
set_option maxRecDepth 100000 in
theorem k3_dropBearersOf (h : rC α σ) (w : sW α) {p : Nat} (hp : p < 8) : hm_Ct l yX3_dropBearersOf cX3_dropBearersOf 3 none 1 0 0 [.ref 1, .int (nI p)] σ (fun r τ => r = none ∧ rC (sB α ((aB α).filter (fun x => !decide (bOf x = p)))) τ ∧ cs_fr σ τ) := by
  have hN := h.N
  have hA := h.r.2.2
  have hlen := w.len
  have hb1 := h.bl
  refine hm_startQ (ini := false) [.ref 1, .int (nI p), hm_u] (by decide) (by decide) rfl (Nat.le_of_ble_eq_true rfl) (fun Q hQ => ?_)
  have hl : ∀ (b : Nat) (τ : hm_M) (u : Int32), b ≤ (aB α).length → rC (sB α ((aB α).take b ++ ((aB α).drop b).filter (fun x => !decide (bOf x = p)))) τ → cs_fr σ τ → u = nI b - 1 → hm_V l RX3 cX3_dropBearersOf 3 none false (hm_rm 1 0 0) 0 0 Q 0 0 7 [.ref 1, .int (nI p), .int u] [] τ := by
    intro b
    induction b with
    | zero =>
      intro τ u hb hτ hf hu
      subst hu
      have hN := hτ.N
      have hA := hτ.r.2.2
      refine hm_iload_n dX3_dropBearersOf_7 rfl ?_
      refine hm_if_lt 35 dX3_dropBearersOf_8 (by decide) (fun _ => ?_) (fun h8 => absurd (by decide) h8)
      refine hm_vret dX3_dropBearersOf_35 rfl (by decide) (by decide) ?_
      exact hQ _ _ ⟨rfl, by simpa using hτ, hf⟩
    | succ b ih =>
      intro τ u hb hτ hf hu
      have hu : u = nI b := by rw [hu]; exact nI_pred b
      subst hu
      have hN := hτ.N
      have hA := hτ.r.2.2
      obtain ⟨x, hx⟩ : ∃ x, (aB α)[b]? = some x := ⟨_, List.getElem?_eq_getElem (by omega)⟩
      obtain ⟨x1, x2, x3⟩ := w.xb hx
      have q1 : nI (bOf x) = nI p ↔ bOf x = p := nI_eq (by omega) (by omega)
      have hd : (aB α).drop b = x :: (aB α).drop (b + 1) := by rw [← List.getElem_cons_drop (show b < (aB α).length by omega)]; congr 1; exact Option.some.inj ((List.getElem?_eq_getElem _).symm.trans hx)
      have ht : (aB α).take (b + 1) = (aB α).take b ++ [x] := by rw [List.take_succ, hx]; rfl
      have hsub : ((aB α).take (b + 1) ++ ((aB α).drop (b + 1)).filter (fun x => !decide (bOf x = p))).Sublist (aB α) := by
        conv => rhs; rw [← List.take_append_drop (b + 1) (aB α)]
        exact (List.Sublist.refl _).append List.filter_sublist
      have wτ := w.sub hsub
      rw [ht, List.append_assoc, List.singleton_append] at hτ wτ
      have htl : ((aB α).take b).length = b := by rw [List.length_take]; omega
      have hC : (aB (sB α ((aB α).take b ++ x :: ((aB α).drop (b + 1)).filter (fun x => !decide (bOf x = p)))))[b]? = some x := by
        rw [aB_sB, List.getElem?_append_right (by omega), htl, Nat.sub_self]; rfl
      obtain ⟨a, hR, ha, hSa, e1, e2, e3, e4, e5⟩ := hτ.ba hC
      have ih2 := ih
      rw [hd, List.filter_cons] at ih2
      have hbl : b < (aB (sB α ((aB α).take b ++ x :: ((aB α).drop (b + 1)).filter (fun x => !decide (bOf x = p))))).length := (List.getElem?_eq_some_iff.mp hC).1
      have her : (aB (sB α ((aB α).take b ++ x :: ((aB α).drop (b + 1)).filter (fun x => !decide (bOf x = p))))).eraseIdx b = (aB α).take b ++ ((aB α).drop (b + 1)).filter (fun x => !decide (bOf x = p)) := by
        rw [aB_sB]
        have := er_mid ((aB α).take b) (((aB α).drop (b + 1)).filter (fun x => !decide (bOf x = p))) x
        rw [htl] at this
        exact this
      refine hm_iload_n dX3_dropBearersOf_7 rfl ?_
      refine hm_if_lt 35 dX3_dropBearersOf_8 (by decide) (fun h8 => absurd h8 (nI_pos (by omega))) (fun _ => ?_)
      refine hm_aload_n dX3_dropBearersOf_11 rfl ?_
      refine hm_getR lf_RX3_32 rfl rfl (by first | exact Nat.lt_of_lt_of_le (by decide) hN | assumption | (simp only [hm_n_wI, hm_n_wL, hm_n_wR, hm_n_g] at *; omega)) (hA 10) dX3_dropBearersOf_12 ?_
      refine hm_iload_n dX3_dropBearersOf_15 rfl ?_
      refine hm_aald _ (.ref a) rfl (by decide) (by first | exact Nat.lt_of_lt_of_le (by decide) hN | assumption | (simp only [hm_n_wI, hm_n_wL, hm_n_wR, hm_n_g] at *; omega)) rfl (by omega) (by decide) (Or.inr ⟨a, rfl, hR⟩) dX3_dropBearersOf_16 ?_
      refine hm_getI lf_RX3_61 rfl hSa (by omega) dX3_dropBearersOf_17 ?_
      rw [e1]
      refine hm_iload_n dX3_dropBearersOf_20 rfl ?_
      refine hm_icmp_ne 29 dX3_dropBearersOf_21 (by decide) (fun h21 => ?_) (fun h21 => ?_)
      · skip
        rw [q1] at h21
        rw [if_pos (by simpa using h21)] at ih2
        have hτ2 := hτ
        have hf2 := hf
        refine hm_iinc dX3_dropBearersOf_29 rfl _ rfl (by decide) rfl ?_
        refine hm_goto 7 dX3_dropBearersOf_32 (by decide) ?_
        exact ih2 _ _ (by omega) hτ2 hf2 (hm_m1 _)
      · skip
        rw [q1] at h21
        rw [if_neg (by simpa using h21)] at ih2
        refine hm_aload_n dX3_dropBearersOf_24 rfl ?_
        refine hm_iload_n dX3_dropBearersOf_25 rfl ?_
        refine hm_callV lm_RX3_116 (k3_dropBearer l hτ wτ hbl) rfl rfl rfl rfl (by first | exact Nat.lt_of_lt_of_le (by decide) hN | assumption | (simp only [hm_n_wI, hm_n_wL, hm_n_wR, hm_n_g] at *; omega)) (by decide) (by decide) (Nat.le_of_ble_eq_true rfl) dX3_dropBearersOf_26 ?_
        rintro _ τ2 ⟨rfl, hτ2, hf2⟩
        rw [her] at hτ2
        have hτ2 : rC (sB α _) τ2 := hτ2
        replace hf2 := hf.tr hf2
        refine hm_iinc dX3_dropBearersOf_29 rfl _ rfl (by decide) rfl ?_
        refine hm_goto 7 dX3_dropBearersOf_32 (by decide) ?_
        exact ih2 _ _ (by omega) hτ2 hf2 (hm_m1 _)
  refine hm_aload_n dX3_dropBearersOf_0 rfl ?_
  refine hm_getI lf_RX3_58 rfl rfl (by first | exact Nat.lt_of_lt_of_le (by decide) hN | assumption | (simp only [hm_n_wI, hm_n_wL, hm_n_wR, hm_n_g] at *; omega)) dX3_dropBearersOf_1 ?_
  rw [hb1]
  refine hm_iconst dX3_dropBearersOf_4 (v := 1) (by decide) ?_
  refine hm_isub dX3_dropBearersOf_5 ?_
  refine hm_istore_n dX3_dropBearersOf_6 (by decide) rfl ?_
  exact hl (aB α).length _ _ (Nat.le_refl _) (by rw [List.take_length, List.drop_length]; exact h.mid _ (by simp)) (cs_fr.rf σ) rfl
set_option maxRecDepth 100000 in
theorem k3_dropFirstForSecond (h : rC α σ) (w : sW α) {p : Nat} (hp : p < 8) : hm_Ct l yX3_dropFirstForSecond cX3_dropFirstForSecond 4 (some .boolean) 1 0 0 [.ref 1, .int (nI p)] σ (fun r τ => r = some (.int (bI (pHandC α p))) ∧ rC (if pHandC α p then sB α (pRmFst p (aB α)) else α) τ ∧ cs_fr σ τ) := by
  have hN := h.N
  have hA := h.r.2.2
  have hlen := w.len
  refine hm_startQ (ini := false) [.ref 1, .int (nI p), hm_u, hm_u] (by decide) (by decide) rfl (Nat.le_of_ble_eq_true rfl) (fun Q hQ => ?_)
  refine hm_aload_n dX3_dropFirstForSecond_0 rfl ?_
  refine hm_iload_n dX3_dropFirstForSecond_1 rfl ?_
  refine hm_callV lm_RX3_64 (k3_firstBearerOf l h w hp) rfl rfl rfl rfl (by first | exact Nat.lt_of_lt_of_le (by decide) hN | assumption | (simp only [hm_n_wI, hm_n_wL, hm_n_wR, hm_n_g] at *; omega)) (by decide) (by decide) (Nat.le_of_ble_eq_true rfl) dX3_dropFirstForSecond_2 ?_
  rintro _ t9 ⟨rfl, hh9⟩
  rw [hh9]
  clear hh9 t9
  refine hm_istore_n dX3_dropFirstForSecond_5 (by decide) rfl ?_
  refine hm_aload_n dX3_dropFirstForSecond_6 rfl ?_
  refine hm_iload_n dX3_dropFirstForSecond_7 rfl ?_
  refine hm_callV lm_RX3_67 (k3_lastBearerOf l h w hp) rfl rfl rfl rfl (by first | exact Nat.lt_of_lt_of_le (by decide) hN | assumption | (simp only [hm_n_wI, hm_n_wL, hm_n_wR, hm_n_g] at *; omega)) (by decide) (by decide) (Nat.le_of_ble_eq_true rfl) dX3_dropFirstForSecond_8 ?_
  rintro _ t9 ⟨o, rfl, ho, hh9⟩
  rw [hh9]
  clear hh9 t9
  skip
  rcases fst_last w ho with ⟨g1, rfl, g3, g4⟩ | ⟨i, j, x, y, g1, rfl, g3, g4, g5, g6, g7, g8, g9, g10⟩
  · skip
    have e : pHandC α p = false := by unfold pHandC; rw [g3]; rfl
    rw [e] at hQ
    rw [g1]
    refine hm_istore_n dX3_dropFirstForSecond_11 (by decide) rfl ?_
    refine hm_iload_n dX3_dropFirstForSecond_12 rfl ?_
    refine hm_if_lt 33 dX3_dropFirstForSecond_13 (by decide) (fun _ => ?_) (fun h13 => absurd (by decide) h13)
    refine hm_iconst dX3_dropFirstForSecond_33 (v := 0) (by decide) ?_
    refine hm_zret dX3_dropFirstForSecond_34 rfl (by decide) (by decide) (by first | exact Or.inl rfl | exact Or.inr rfl | assumption) ?_
    exact hQ _ _ ⟨rfl, h, cs_fr.rf σ⟩
  · skip
    have hjl := (List.getElem?_eq_some_iff.mp g4).1
    have hil := (List.getElem?_eq_some_iff.mp g3).1
    have q1 : nI i = nI j ↔ i = j := nI_eq (by omega) (by omega)
    obtain ⟨a, hR, ha, hSa, e1, e2, e3, e4, e5⟩ := h.ba g4
    rw [g1]
    refine hm_istore_n dX3_dropFirstForSecond_11 (by decide) rfl ?_
    refine hm_iload_n dX3_dropFirstForSecond_12 rfl ?_
    refine hm_if_lt 33 dX3_dropFirstForSecond_13 (by decide) (fun h13 => absurd h13 (nI_pos (by omega))) (fun _ => ?_)
    refine hm_iload_n dX3_dropFirstForSecond_16 rfl ?_
    refine hm_iload_n dX3_dropFirstForSecond_17 rfl ?_
    refine hm_icmp_eq 33 dX3_dropFirstForSecond_18 (by decide) (fun h18 => ?_) (fun h18 => ?_)
    · skip
      have h18 : i = j := q1.mp h18
      have e : pHandC α p = false := by unfold pHandC; rw [decide_eq_false (by omega)]; rfl
      refine hm_iconst dX3_dropFirstForSecond_33 (v := 0) (by decide) ?_
      refine hm_zret dX3_dropFirstForSecond_34 rfl (by decide) (by decide) (by first | exact Or.inl rfl | exact Or.inr rfl | assumption) ?_
      rw [e] at hQ
      exact hQ _ _ ⟨rfl, h, cs_fr.rf σ⟩
    · skip
      have h18 : ¬ i = j := fun q => h18 (q1.mpr q)
      have en : pNb α p = 2 := by omega
      refine hm_aload_n dX3_dropFirstForSecond_21 rfl ?_
      refine hm_getR lf_RX3_32 rfl rfl (by first | exact Nat.lt_of_lt_of_le (by decide) hN | assumption | (simp only [hm_n_wI, hm_n_wL, hm_n_wR, hm_n_g] at *; omega)) (hA 10) dX3_dropFirstForSecond_22 ?_
      refine hm_iload_n dX3_dropFirstForSecond_25 rfl ?_
      refine hm_aald j (.ref a) rfl (by decide) (by first | exact Nat.lt_of_lt_of_le (by decide) hN | assumption | (simp only [hm_n_wI, hm_n_wL, hm_n_wR, hm_n_g] at *; omega)) rfl (by omega) (by decide) (Or.inr ⟨a, rfl, hR⟩) dX3_dropFirstForSecond_26 ?_
      refine hm_getI lf_RX3_73 rfl hSa (by omega) dX3_dropFirstForSecond_27 ?_
      rw [e5]
      refine hm_if_ne 35 dX3_dropFirstForSecond_30 (by decide) (fun h30 => ?_) (fun h30 => ?_)
      · skip
        rw [bI_0] at h30
        have e : pHandC α p = true := by unfold pHandC; rw [en, g6, decide_eq_true rfl]; exact b_nf h30
        refine hm_aload_n dX3_dropFirstForSecond_35 rfl ?_
        refine hm_iload_n dX3_dropFirstForSecond_36 rfl ?_
        refine hm_callV lm_RX3_116 (k3_dropBearer l h w hil) rfl rfl rfl rfl (by first | exact Nat.lt_of_lt_of_le (by decide) hN | assumption | (simp only [hm_n_wI, hm_n_wL, hm_n_wR, hm_n_g] at *; omega)) (by decide) (by decide) (Nat.le_of_ble_eq_true rfl) dX3_dropFirstForSecond_37 ?_
        rintro _ τ ⟨rfl, hτ, hf⟩
        refine hm_iconst dX3_dropFirstForSecond_40 (v := 1) (by decide) ?_
        refine hm_zret dX3_dropFirstForSecond_41 rfl (by decide) (by decide) (by first | exact Or.inl rfl | exact Or.inr rfl | assumption) ?_
        rw [e] at hQ
        exact hQ _ _ ⟨rfl, by rw [if_pos rfl, rm_er p _ i g1]; exact hτ, hf⟩
      · skip
        rw [bI_0] at h30
        have e : pHandC α p = false := by unfold pHandC; rw [g6, en]; simpa using h30
        refine hm_iconst dX3_dropFirstForSecond_33 (v := 0) (by decide) ?_
        refine hm_zret dX3_dropFirstForSecond_34 rfl (by decide) (by decide) (by first | exact Or.inl rfl | exact Or.inr rfl | assumption) ?_
        rw [e] at hQ
        exact hQ _ _ ⟨rfl, h, cs_fr.rf σ⟩
set_option maxRecDepth 100000 in
theorem k3_addCell (h : rC α σ) (w : sW α) (h4 : nCell α < 4) {ch : Nat} (hch : ch < 120) : hm_Ct l yX3_addCell cX3_addCell 3 (some .int) 0 0 0 [.ref 1, .int (nI ch)] σ (fun r τ => r = some (.int (nI (nCell α))) ∧ rC (sN (sN α 2 (nCell α) ch) 0 0 (nCell α + 1)) τ ∧ cs_fr σ τ) := by
  have hN := h.N
  have hA := h.r.2.2
  have e0 : hm_I σ 1 0 = nI (nCell α) := h.n 0 0 (by show 0 < 1; decide)
  have hfin : rC (sN (sN α 2 (nCell α) ch) 0 0 (nCell α + 1)) (hm_wI (hm_wI (hm_wI σ 2 (nCell α) (nI ch)) 6 ch (hm_I σ 6 ch ||| (1 : Int32) <<< (nI (nCell α) &&& 31))) 1 0 (nI (nCell α + 1))) := by
    refine h.lowN rfl rfl rfl (fun a k ha => ?_) ?_ rfl rfl rfl rfl ?_ (fun f i hi => ?_) (fun f i hi => ?_) ⟨fun z k hz hk => ?_, fun d k hd hk => ?_, fun d k hd hk => ?_⟩
    · rw [hm_I_wI, if_neg (by omega), hm_I_wI, if_neg (by omega), hm_I_wI, if_neg (by omega)]
    · rw [hm_I_wI, if_neg (by omega), hm_I_wI, if_neg (by omega), hm_I_wI, if_neg (by omega)]
    · simp [nPort, aN_sN]
    · have hs := cs_lN_sc hi
      rw [hm_I_wI, aN_sN]
      by_cases g1 : f = 0 ∧ i = 0
      · rw [if_pos (by rw [g1.1, g1.2]; exact ⟨rfl, rfl⟩), if_pos g1]
      · rw [if_neg g1, if_neg (fun q => g1 (cs_lN_inj (n := nPort α) hi (show 0 < cs_bN (nPort α) 0 by show 0 < 1; decide) (Prod.ext q.1 q.2)))]
        rw [hm_I_wI, if_neg (fun q => hs.2.1 q.1), hm_I_wI, aN_sN]
        by_cases g2 : f = 2 ∧ i = nCell α
        · rw [if_pos (by rw [g2.1, g2.2]; exact ⟨rfl, rfl⟩), if_pos g2]
        · rw [if_neg g2, if_neg (fun q => g2 (cs_lN_inj (n := nPort α) hi (show nCell α < cs_bN (nPort α) 2 from h4) (Prod.ext q.1 q.2)))]
          exact h.n f i hi
    · have hs := cs_lI_sc hi
      rw [hm_I_wI, if_neg (fun q => cs_lN_lI (n := nPort α) (show 0 < cs_bN (nPort α) 0 by show 0 < 1; decide) hi (Prod.ext q.1.symm q.2.symm)), hm_I_wI, if_neg (fun q => hs.2.1 q.1), hm_I_wI, if_neg (fun q => cs_lN_lI (n := nPort α) (show nCell α < cs_bN (nPort α) 2 from h4) hi (Prod.ext q.1.symm q.2.symm))]
    · rw [hm_I_wI, if_neg (by omega), hm_I_wI, if_neg (by omega), hm_I_wI, if_neg (by omega), aN_sN, if_neg (by omega), aN_sN, if_neg (by omega)]; exact h.z.1 z k hz hk
    · have hv : hm_I (hm_wI (hm_wI (hm_wI σ 2 (nCell α) (nI ch)) 6 ch (hm_I σ 6 ch ||| (1 : Int32) <<< (nI (nCell α) &&& 31))) 1 0 (nI (nCell α + 1))) 6 k = if k = ch then hm_I σ 6 ch ||| (1 : Int32) <<< (nI (nCell α) &&& 31) else hm_I σ 6 k := by
        rw [hm_I_wI, if_neg (by omega), hm_I_wI]
        by_cases e : k = ch
        · rw [if_pos ⟨rfl, e⟩, if_pos e]
        · rw [if_neg (fun q => e q.2), if_neg e, hm_I_wI, if_neg (by omega)]
      have hz := h.z.2.1 d k hd hk
      have hs : pSends (sN (sN α 2 (nCell α) ch) 0 0 (nCell α + 1)) d k = if d = nCell α then decide (ch = k) else pSends α d k := by
        unfold pSends
        rw [aB_sN, aB_sN, aN_sN, if_neg (by omega), aN_sN]
        by_cases e : d = nCell α
        · rw [if_pos ⟨rfl, e⟩, if_pos e]
          have : (aB α).any (fun x => decide (bAt x = d) && decide (bCh x = k)) = false := List.any_eq_false.mpr fun x hx => by
            have := (w.x hx).2.1
            simp
            intro q; omega
          rw [this, Bool.or_false]
        · rw [if_neg (fun q => e q.2), if_neg e]
      have hc1 : nCell (sN (sN α 2 (nCell α) ch) 0 0 (nCell α + 1)) = nCell α + 1 := by simp [nCell, aN_sN]
      rw [hv, hs, hc1]
      by_cases e : k = ch
      · subst e
        rw [if_pos rfl, b_or, hz, bt_1 (by omega) hd]
        by_cases e2 : d = nCell α
        · rw [if_pos e2]; simp [e2]
        · rw [if_neg e2, show decide (d < nCell α + 1) = decide (d < nCell α) by simp; omega]; simp [e2]
      · rw [if_neg e, hz]
        by_cases e2 : d = nCell α
        · rw [if_pos e2, decide_eq_false (show ¬ d < nCell α by omega), decide_eq_false (show ¬ ch = k from fun q => e q.symm)]; simp
        · rw [if_neg e2, show decide (d < nCell α + 1) = decide (d < nCell α) by simp; omega]
    · rw [hm_I_wI, if_neg (by omega), hm_I_wI, if_neg (by omega), hm_I_wI, if_neg (by omega)]; exact h.z.2.2 d k hd hk
  refine hm_startQ (ini := false) [.ref 1, .int (nI ch), hm_u] (by decide) (by decide) rfl (Nat.le_of_ble_eq_true rfl) (fun Q hQ => ?_)
  refine hm_aload_n dX3_addCell_0 rfl ?_
  refine hm_getI lf_RX3_37 rfl rfl (by first | exact Nat.lt_of_lt_of_le (by decide) hN | assumption | (simp only [hm_n_wI, hm_n_wL, hm_n_wR, hm_n_g] at *; omega)) dX3_addCell_1 ?_
  rw [e0]
  refine hm_istore_n dX3_addCell_4 (by decide) rfl ?_
  refine hm_aload_n dX3_addCell_5 rfl ?_
  refine hm_getR lf_RX3_9 rfl rfl (by first | exact Nat.lt_of_lt_of_le (by decide) hN | assumption | (simp only [hm_n_wI, hm_n_wL, hm_n_wR, hm_n_g] at *; omega)) (hA 4) dX3_addCell_6 ?_
  refine hm_iload_n dX3_addCell_9 rfl ?_
  refine hm_iload_n dX3_addCell_10 rfl ?_
  refine hm_iast _ rfl (by first | exact Nat.lt_of_lt_of_le (by decide) hN | assumption | (simp only [hm_n_wI, hm_n_wL, hm_n_wR, hm_n_g] at *; omega)) rfl (by omega) (by decide) dX3_addCell_11 ?_
  refine hm_aload_n dX3_addCell_12 rfl ?_
  refine hm_getR lf_RX3_24 rfl rfl (by first | exact Nat.lt_of_lt_of_le (by decide) hN | assumption | (simp only [hm_n_wI, hm_n_wL, hm_n_wR, hm_n_g] at *; omega)) (hA 8) dX3_addCell_13 ?_
  refine hm_iload_n dX3_addCell_16 rfl ?_
  refine hm_dup2 dX3_addCell_17 rfl rfl ?_
  refine hm_iald _ rfl (by first | exact Nat.lt_of_lt_of_le (by decide) hN | assumption | (simp only [hm_n_wI, hm_n_wL, hm_n_wR, hm_n_g] at *; omega)) rfl (by omega) (by decide) dX3_addCell_18 ?_
  rw [hm_I_wI, if_neg (by omega)]
  refine hm_iconst dX3_addCell_19 (v := 1) (by decide) ?_
  refine hm_iload_n dX3_addCell_20 rfl ?_
  refine hm_ishl dX3_addCell_21 ?_
  refine hm_ior dX3_addCell_22 ?_
  refine hm_iast _ rfl (by first | exact Nat.lt_of_lt_of_le (by decide) hN | assumption | (simp only [hm_n_wI, hm_n_wL, hm_n_wR, hm_n_g] at *; omega)) rfl (by omega) (by decide) dX3_addCell_23 ?_
  refine hm_aload_n dX3_addCell_24 rfl ?_
  refine hm_dup dX3_addCell_25 rfl ?_
  refine hm_getI lf_RX3_37 rfl rfl (by first | exact Nat.lt_of_lt_of_le (by decide) hN | assumption | (simp only [hm_n_wI, hm_n_wL, hm_n_wR, hm_n_g] at *; omega)) dX3_addCell_26 ?_
  rw [hm_I_wI, if_neg (by omega), hm_I_wI, if_neg (by omega), e0]
  refine hm_iconst dX3_addCell_29 (v := 1) (by decide) ?_
  refine hm_iadd dX3_addCell_30 ?_
  rw [nI_1]
  refine hm_putI lf_RX3_37 rfl rfl rfl (by first | exact Nat.lt_of_lt_of_le (by decide) hN | assumption | (simp only [hm_n_wI, hm_n_wL, hm_n_wR, hm_n_g] at *; omega)) dX3_addCell_31 ?_
  refine hm_iload_n dX3_addCell_34 rfl ?_
  refine hm_iret dX3_addCell_35 rfl (by decide) (by decide) ?_
  exact hQ _ _ ⟨rfl, hfin, (((cs_fr.rf σ).wI _ _ _ (by omega)).wI _ _ _ (by omega)).wI _ _ _ (by omega)⟩
set_option maxRecDepth 100000 in
theorem k3_addPortable (h : rC α σ) (h8 : nPort α < 8) (pl : Int32) : hm_Ct l yX3_addPortable cX3_addPortable 3 (some .int) 0 0 0 [.ref 1, .int pl] σ (fun r τ => r = some (.int (nI (nPort α))) ∧ τ = hm_wI (hm_wI σ 3 (nPort α) pl) 1 1 (nI (nPort α + 1))) := by
  have hN := h.N
  have hA := h.r.2.2
  have e0 : hm_I σ 1 1 = nI (nPort α) := h.n 1 0 (by show 0 < 1; decide)
  refine hm_startQ (ini := false) [.ref 1, .int pl, hm_u] (by decide) (by decide) rfl (Nat.le_of_ble_eq_true rfl) (fun Q hQ => ?_)
  refine hm_aload_n dX3_addPortable_0 rfl ?_
  refine hm_getI lf_RX3_41 rfl rfl (by first | exact Nat.lt_of_lt_of_le (by decide) hN | assumption | (simp only [hm_n_wI, hm_n_wL, hm_n_wR, hm_n_g] at *; omega)) dX3_addPortable_1 ?_
  rw [e0]
  refine hm_istore_n dX3_addPortable_4 (by decide) rfl ?_
  refine hm_aload_n dX3_addPortable_5 rfl ?_
  refine hm_getR lf_RX3_15 rfl rfl (by first | exact Nat.lt_of_lt_of_le (by decide) hN | assumption | (simp only [hm_n_wI, hm_n_wL, hm_n_wR, hm_n_g] at *; omega)) (hA 5) dX3_addPortable_6 ?_
  refine hm_iload_n dX3_addPortable_9 rfl ?_
  refine hm_iload_n dX3_addPortable_10 rfl ?_
  refine hm_iast _ rfl (by first | exact Nat.lt_of_lt_of_le (by decide) hN | assumption | (simp only [hm_n_wI, hm_n_wL, hm_n_wR, hm_n_g] at *; omega)) rfl (by omega) (by decide) dX3_addPortable_11 ?_
  refine hm_aload_n dX3_addPortable_12 rfl ?_
  refine hm_dup dX3_addPortable_13 rfl ?_
  refine hm_getI lf_RX3_41 rfl rfl (by first | exact Nat.lt_of_lt_of_le (by decide) hN | assumption | (simp only [hm_n_wI, hm_n_wL, hm_n_wR, hm_n_g] at *; omega)) dX3_addPortable_14 ?_
  rw [hm_I_wI, if_neg (by omega), e0]
  refine hm_iconst dX3_addPortable_17 (v := 1) (by decide) ?_
  refine hm_iadd dX3_addPortable_18 ?_
  rw [nI_1]
  refine hm_putI lf_RX3_41 rfl rfl rfl (by first | exact Nat.lt_of_lt_of_le (by decide) hN | assumption | (simp only [hm_n_wI, hm_n_wL, hm_n_wR, hm_n_g] at *; omega)) dX3_addPortable_19 ?_
  refine hm_iload_n dX3_addPortable_22 rfl ?_
  refine hm_iret dX3_addPortable_23 rfl (by decide) (by decide) ?_
  exact hQ _ _ ⟨rfl, rfl⟩
set_option maxRecDepth 100000 in
theorem k3_changeNoise (h : rC α σ) (w : sW α) {wh ch : Nat} (hw : wh < 20) (hch : ch < 120) {on : Int32} (hon : on = 0 ∨ on = 1) : hm_Ct l yX3_changeNoise cX3_changeNoise 6 (some .boolean) 0 0 0 [.ref 1, .int (nI wh), .int (nI ch), .int on] σ (fun r τ => r = some (.int (bI (decide (nI (aN α 5 (120 * wh + ch)) ≠ on)))) ∧ rC (if nI (aN α 5 (120 * wh + ch)) ≠ on then sN α 5 (120 * wh + ch) on.toNatClampNeg else α) τ ∧ cs_fr σ τ) := by
  have hN := h.N
  have hA := h.r.2.2
  have hz := h.z.1 wh ch hw hch
  have hnz := w.nz (120 * wh + ch)
  have q1 : hm_I σ 5 ch &&& ((1 : Int32) <<< (nI wh &&& 31)) = 0 ↔ aN α 5 (120 * wh + ch) = 0 := by
    rw [bt_ask _ (by omega), hz]; simp
  have hfin : nI (aN α 5 (120 * wh + ch)) ≠ on → rC (sN α 5 (120 * wh + ch) on.toNatClampNeg) (hm_wI σ 5 ch (hm_I σ 5 ch ^^^ (1 : Int32) <<< (nI wh &&& 31))) := by
    intro hne
    refine h.lowN rfl rfl rfl (fun a k ha => ?_) ?_ rfl rfl rfl rfl ?_ (fun f i hi => ?_) (fun f i hi => ?_) ⟨fun z k hz' hk => ?_, fun d k hd hk => ?_, fun d k hd hk => ?_⟩
    · rw [hm_I_wI, if_neg (by omega)]
    · rw [hm_I_wI, if_neg (by omega)]
    · simp [nPort, aN_sN]
    · have hs := cs_lN_sc hi
      rw [hm_I_wI, if_neg (fun q => hs.1 q.1), aN_sN, if_neg (fun q => by rw [q.1] at hi; exact absurd hi (by simp [cs_bN]))]; exact h.n f i hi
    · have hs := cs_lI_sc hi
      rw [hm_I_wI, if_neg (fun q => hs.1 q.1)]
    · rw [hm_I_wI, aN_sN]
      by_cases e : k = ch
      · rw [if_pos ⟨rfl, e⟩, b_xor, bt_1 (by omega) (by omega), ← e, h.z.1 z k hz' hk]
        by_cases e2 : z = wh
        · rw [if_pos ⟨rfl, by rw [e2, e]⟩, e2]
          rw [← e] at hne hnz
          have : aN α 5 (120 * wh + k) = 0 ∨ aN α 5 (120 * wh + k) = 1 := by omega
          rcases hon with rfl | rfl <;> rcases this with g | g <;> rw [g] at hne ⊢ <;> first | exact absurd rfl hne | (rw [decide_eq_true (rfl : wh = wh)]; decide)
        · rw [if_neg (by omega)]; simp [e2]
      · rw [if_neg (fun q => e q.2), if_neg (by omega)]; exact h.z.1 z k hz' hk
    · rw [hm_I_wI, if_neg (by omega)]
      have := h.z.2.1 d k hd hk
      have e1 : pSends (sN α 5 (120 * wh + ch) on.toNatClampNeg) d k = pSends α d k := by unfold pSends; rw [aN_sN, if_neg (by omega)]; rfl
      have e2 : nCell (sN α 5 (120 * wh + ch) on.toNatClampNeg) = nCell α := by simp [nCell, aN_sN]
      rw [e1, e2]; exact this
    · rw [hm_I_wI, if_neg (by omega)]; exact h.z.2.2 d k hd hk
  have hv : ∀ v : Int32, v = nI (aN α 5 (120 * wh + ch)) → (v = on ↔ ¬ nI (aN α 5 (120 * wh + ch)) ≠ on) := fun v hv => by rw [hv, Classical.not_not]
  refine hm_startQ (ini := false) [.ref 1, .int (nI wh), .int (nI ch), .int on, hm_u, hm_u] (by decide) (by decide) rfl (Nat.le_of_ble_eq_true rfl) (fun Q hQ => ?_)
  have j1 : ∀ v : Int32, v = nI (aN α 5 (120 * wh + ch)) → hm_V l RX3 cX3_changeNoise 6 (some .boolean) false (hm_rm 0 0 0) 0 0 Q 0 0 22 [.ref 1, .int (nI wh), .int (nI ch), .int on, .int ((1 : Int32) <<< (nI wh &&& 31)), hm_u] [.int v] σ := by
    intro v hv
    subst hv
    by_cases e : nI (aN α 5 (120 * wh + ch)) = on
    · skip
      rw [if_neg (fun q => q e), decide_eq_false (fun q => q e)] at hQ
      refine hm_istore dX3_changeNoise_22 (by decide) rfl ?_
      refine hm_iload dX3_changeNoise_24 rfl ?_
      refine hm_iload_n dX3_changeNoise_26 rfl ?_
      refine hm_icmp_eq 41 dX3_changeNoise_27 (by decide) (fun _ => ?_) (fun h27 => absurd (e) h27)
      refine hm_iload dX3_changeNoise_41 rfl ?_
      refine hm_iload_n dX3_changeNoise_43 rfl ?_
      refine hm_icmp_eq 51 dX3_changeNoise_44 (by decide) (fun _ => ?_) (fun h44 => absurd (e) h44)
      refine hm_iconst dX3_changeNoise_51 (v := 0) (by decide) ?_
      refine hm_zret dX3_changeNoise_52 rfl (by decide) (by decide) (by first | exact Or.inl rfl | exact Or.inr rfl | assumption) ?_
      exact hQ _ _ ⟨rfl, h, cs_fr.rf σ⟩
    · skip
      have hf := hfin e
      rw [if_pos e, decide_eq_true e] at hQ
      refine hm_istore dX3_changeNoise_22 (by decide) rfl ?_
      refine hm_iload dX3_changeNoise_24 rfl ?_
      refine hm_iload_n dX3_changeNoise_26 rfl ?_
      refine hm_icmp_eq 41 dX3_changeNoise_27 (by decide) (fun h27 => absurd h27 (e)) (fun _ => ?_)
      refine hm_aload_n dX3_changeNoise_30 rfl ?_
      refine hm_getR lf_RX3_21 rfl rfl (by first | exact Nat.lt_of_lt_of_le (by decide) hN | assumption | (simp only [hm_n_wI, hm_n_wL, hm_n_wR, hm_n_g] at *; omega)) (hA 7) dX3_changeNoise_31 ?_
      refine hm_iload_n dX3_changeNoise_34 rfl ?_
      refine hm_dup2 dX3_changeNoise_35 rfl rfl ?_
      refine hm_iald _ rfl (by first | exact Nat.lt_of_lt_of_le (by decide) hN | assumption | (simp only [hm_n_wI, hm_n_wL, hm_n_wR, hm_n_g] at *; omega)) rfl (by omega) (by decide) dX3_changeNoise_36 ?_
      refine hm_iload dX3_changeNoise_37 rfl ?_
      refine hm_ixor dX3_changeNoise_39 ?_
      refine hm_iast _ rfl (by first | exact Nat.lt_of_lt_of_le (by decide) hN | assumption | (simp only [hm_n_wI, hm_n_wL, hm_n_wR, hm_n_g] at *; omega)) rfl (by omega) (by decide) dX3_changeNoise_40 ?_
      refine hm_iload dX3_changeNoise_41 rfl ?_
      refine hm_iload_n dX3_changeNoise_43 rfl ?_
      refine hm_icmp_eq 51 dX3_changeNoise_44 (by decide) (fun h44 => absurd h44 (e)) (fun _ => ?_)
      refine hm_iconst dX3_changeNoise_47 (v := 1) (by decide) ?_
      refine hm_goto 52 dX3_changeNoise_48 (by decide) ?_
      refine hm_zret dX3_changeNoise_52 rfl (by decide) (by decide) (by first | exact Or.inl rfl | exact Or.inr rfl | assumption) ?_
      exact hQ _ _ ⟨rfl, hf, (cs_fr.rf σ).wI _ _ _ (by omega)⟩
  refine hm_iconst dX3_changeNoise_0 (v := 1) (by decide) ?_
  refine hm_iload_n dX3_changeNoise_1 rfl ?_
  refine hm_ishl dX3_changeNoise_2 ?_
  refine hm_istore dX3_changeNoise_3 (by decide) rfl ?_
  refine hm_aload_n dX3_changeNoise_5 rfl ?_
  refine hm_getR lf_RX3_21 rfl rfl (by first | exact Nat.lt_of_lt_of_le (by decide) hN | assumption | (simp only [hm_n_wI, hm_n_wL, hm_n_wR, hm_n_g] at *; omega)) (hA 7) dX3_changeNoise_6 ?_
  refine hm_iload_n dX3_changeNoise_9 rfl ?_
  refine hm_iald _ rfl (by first | exact Nat.lt_of_lt_of_le (by decide) hN | assumption | (simp only [hm_n_wI, hm_n_wL, hm_n_wR, hm_n_g] at *; omega)) rfl (by omega) (by decide) dX3_changeNoise_10 ?_
  refine hm_iload dX3_changeNoise_11 rfl ?_
  refine hm_iand dX3_changeNoise_13 ?_
  refine hm_if_eq 21 dX3_changeNoise_14 (by decide) (fun h14 => ?_) (fun h14 => ?_)
  · skip
    rw [q1] at h14
    have g : (0 : Int32) = nI (aN α 5 (120 * wh + ch)) := by rw [h14]; rfl
    refine hm_iconst dX3_changeNoise_21 (v := 0) (by decide) ?_
    exact j1 _ g
  · skip
    rw [q1] at h14
    have g : (1 : Int32) = nI (aN α 5 (120 * wh + ch)) := by rw [show aN α 5 (120 * wh + ch) = 1 by omega]; rfl
    refine hm_iconst dX3_changeNoise_17 (v := 1) (by decide) ?_
    refine hm_goto 22 dX3_changeNoise_18 (by decide) ?_
    exact j1 _ g
end C6
