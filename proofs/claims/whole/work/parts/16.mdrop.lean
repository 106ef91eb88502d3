/-! the reference: a bearer goes, a portable becomes idle, a call ends -/
def md_ar (τ : hm_M) (j : Nat) (x : sBr) : Prop := hm_I τ 38 j = nI (bOf x) ∧ hm_I τ 39 j = nI (bAt x) ∧ hm_I τ 40 j = nI (bCh x) ∧ hm_I τ 41 j = bFl x ∧ hm_I τ 42 j = bI (bGd x)
def md_cp (τ : hm_M) (k : Nat) : hm_M := hm_wI (hm_wI (hm_wI (hm_wI (hm_wI τ 38 k (hm_I τ 38 (k + 1))) 39 k (hm_I τ 39 (k + 1))) 40 k (hm_I τ 40 (k + 1))) 41 k (hm_I τ 41 (k + 1))) 42 k (hm_I τ 42 (k + 1))
theorem md_cp_o (τ : hm_M) (k a j : Nat) (h : ¬ (38 ≤ a ∧ a ≤ 42) ∨ j ≠ k) : hm_I (md_cp τ k) a j = hm_I τ a j := by
  unfold md_cp
  rw [hm_I_wI, if_neg (by omega), hm_I_wI, if_neg (by omega), hm_I_wI, if_neg (by omega), hm_I_wI, if_neg (by omega), hm_I_wI, if_neg (by omega)]
theorem md_cp_ar {τ : hm_M} {k : Nat} {x : sBr} (h : md_ar τ (k + 1) x) : md_ar (md_cp τ k) k x := by
  obtain ⟨h1, h2, h3, h4, h5⟩ := h
  refine ⟨?_, ?_, ?_, ?_, ?_⟩ <;> simp [md_cp, hm_I_wI, *]
theorem md_cp_ne {τ : hm_M} {k j : Nat} {x : sBr} (h : md_ar τ j x) (hj : j ≠ k) : md_ar (md_cp τ k) j x := by
  obtain ⟨h1, h2, h3, h4, h5⟩ := h
  refine ⟨?_, ?_, ?_, ?_, ?_⟩ <;> rw [md_cp_o _ _ _ _ (Or.inr hj)] <;> assumption
section M6
variable (l : Launch) {α : sA} {σ : hm_M}
set_option maxRecDepth 100000 in
theorem r5_dropBearer (h : rM α σ) (hlen : (aB α).length ≤ 16) {b : Nat} (hb : b < (aB α).length) : hm_Ct l yX5_dropBearer cX5_dropBearer 3 none 0 0 0 [.ref 27, .int (nI b)] σ (fun r τ => r = none ∧ rM (sB α ((aB α).eraseIdx b)) τ ∧ md_fr σ τ) := by
  obtain ⟨hN, hM⟩ := h.m
  obtain ⟨hb1, hb2⟩ := h.b
  refine hm_startQ (ini := false) [.ref 27, .int (nI b), hm_u] (by decide) (by decide) rfl (Nat.le_of_ble_eq_true rfl) (fun Q hQ => ?_)
  have hl : ∀ (m k : Nat) (τ : hm_M) (u : Int32), k + m + 1 = (aB α).length → b ≤ k → u = nI k → hm_I τ 27 12 = nI ((aB α).length - 1) → (∀ j x, j < k → ((aB α).eraseIdx b)[j]? = some x → md_ar τ j x) → (∀ j x, k ≤ j → (aB α)[j]? = some x → md_ar τ j x) → (∀ a k, ¬ (38 ≤ a ∧ a ≤ 42) → ¬ (a = 27 ∧ k = 12) → hm_I τ a k = hm_I σ a k) → hm_L τ = hm_L σ → hm_R τ = hm_R σ → hm_n τ = hm_n σ → hm_V l RX5 cX5_dropBearer 3 none false (hm_rm 0 0 0) 0 0 Q 0 0 12 [.ref 27, .int (nI b), .int u] [] τ := by
    intro m
    induction m with
    | zero =>
      intro k τ u hk hbk hu i1 i2 i3 i4 i5 i6 i7
      subst hu
      have hN : 52 ≤ hm_n τ := by rw [i7]; exact hN
      have hM : ∀ k, hm_R τ 27 k = md_tab k := fun k => by rw [i6]; exact hM k
      refine hm_iload_n dX5_dropBearer_12 rfl ?_
      refine hm_aload_n dX5_dropBearer_13 rfl ?_
      refine hm_getI lf_RX5_109 rfl rfl (by first | exact Nat.lt_of_lt_of_le (by decide) hN | assumption | (simp only [hm_n_wI, hm_n_wL, hm_n_wR, hm_n_g] at *; omega)) dX5_dropBearer_14 ?_
      rw [i1]
      refine hm_icmp_ge 96 dX5_dropBearer_17 (by decide) (fun _ => ?_) (fun h17 => absurd (nI_le (by omega) (by omega)) h17)
      refine hm_vret dX5_dropBearer_96 rfl (by decide) (by decide) ?_
      refine hQ _ _ ⟨rfl, h.newB i4 i5 i6 i7 ⟨?_, fun j x hj => ?_⟩, i7, i6, fun a k ha => ⟨i4 a k (by omega) (by omega), by rw [i5]⟩⟩
      rw [i1, List.length_eraseIdx, if_pos hb]
      (have := (List.getElem?_eq_some_iff.mp hj).1)
      rw [List.length_eraseIdx, if_pos hb] at this
      exact i2 j x (by omega) hj
    | succ m ih =>
      intro k τ u hk hbk hu i1 i2 i3 i4 i5 i6 i7
      subst hu
      have hN : 52 ≤ hm_n τ := by rw [i7]; exact hN
      have hM : ∀ k, hm_R τ 27 k = md_tab k := fun k => by rw [i6]; exact hM k
      obtain ⟨x, hx⟩ : ∃ x, (aB α)[k + 1]? = some x := ⟨_, List.getElem?_eq_getElem (by omega)⟩
      have hax := i3 (k + 1) x (by omega) hx
      have e5 := hax.2.2.2.2
      refine hm_iload_n dX5_dropBearer_12 rfl ?_
      refine hm_aload_n dX5_dropBearer_13 rfl ?_
      refine hm_getI lf_RX5_109 rfl rfl (by first | exact Nat.lt_of_lt_of_le (by decide) hN | assumption | (simp only [hm_n_wI, hm_n_wL, hm_n_wR, hm_n_g] at *; omega)) dX5_dropBearer_14 ?_
      rw [i1]
      refine hm_icmp_ge 96 dX5_dropBearer_17 (by decide) (fun h17 => absurd h17 (nI_ge (by omega) (by omega))) (fun _ => ?_)
      refine hm_aload_n dX5_dropBearer_20 rfl ?_
      refine hm_getR lf_RX5_42 rfl rfl (by first | exact Nat.lt_of_lt_of_le (by decide) hN | assumption | (simp only [hm_n_wI, hm_n_wL, hm_n_wR, hm_n_g] at *; omega)) (hM 13) dX5_dropBearer_21 ?_
      refine hm_iload_n dX5_dropBearer_24 rfl ?_
      refine hm_aload_n dX5_dropBearer_25 rfl ?_
      refine hm_getR lf_RX5_42 rfl rfl (by first | exact Nat.lt_of_lt_of_le (by decide) hN | assumption | (simp only [hm_n_wI, hm_n_wL, hm_n_wR, hm_n_g] at *; omega)) (hM 13) dX5_dropBearer_26 ?_
      refine hm_iload_n dX5_dropBearer_29 rfl ?_
      refine hm_iconst dX5_dropBearer_30 (v := 1) (by decide) ?_
      refine hm_iadd dX5_dropBearer_31 ?_
      refine hm_iald (k + 1) rfl (by first | exact Nat.lt_of_lt_of_le (by decide) hN | assumption | (simp only [hm_n_wI, hm_n_wL, hm_n_wR, hm_n_g] at *; omega)) (nI_1 k) (by omega) (by decide) dX5_dropBearer_32 ?_
      refine hm_iast _ rfl (by first | exact Nat.lt_of_lt_of_le (by decide) hN | assumption | (simp only [hm_n_wI, hm_n_wL, hm_n_wR, hm_n_g] at *; omega)) rfl (by omega) (by decide) dX5_dropBearer_33 ?_
      refine hm_aload_n dX5_dropBearer_34 rfl ?_
      refine hm_getR lf_RX5_45 rfl rfl (by first | exact Nat.lt_of_lt_of_le (by decide) hN | assumption | (simp only [hm_n_wI, hm_n_wL, hm_n_wR, hm_n_g] at *; omega)) (hM 14) dX5_dropBearer_35 ?_
      refine hm_iload_n dX5_dropBearer_38 rfl ?_
      refine hm_aload_n dX5_dropBearer_39 rfl ?_
      refine hm_getR lf_RX5_45 rfl rfl (by first | exact Nat.lt_of_lt_of_le (by decide) hN | assumption | (simp only [hm_n_wI, hm_n_wL, hm_n_wR, hm_n_g] at *; omega)) (hM 14) dX5_dropBearer_40 ?_
      refine hm_iload_n dX5_dropBearer_43 rfl ?_
      refine hm_iconst dX5_dropBearer_44 (v := 1) (by decide) ?_
      refine hm_iadd dX5_dropBearer_45 ?_
      refine hm_iald (k + 1) rfl (by first | exact Nat.lt_of_lt_of_le (by decide) hN | assumption | (simp only [hm_n_wI, hm_n_wL, hm_n_wR, hm_n_g] at *; omega)) (nI_1 k) (by omega) (by decide) dX5_dropBearer_46 ?_
      refine hm_iast _ rfl (by first | exact Nat.lt_of_lt_of_le (by decide) hN | assumption | (simp only [hm_n_wI, hm_n_wL, hm_n_wR, hm_n_g] at *; omega)) rfl (by omega) (by decide) dX5_dropBearer_47 ?_
      refine hm_aload_n dX5_dropBearer_48 rfl ?_
      refine hm_getR lf_RX5_48 rfl rfl (by first | exact Nat.lt_of_lt_of_le (by decide) hN | assumption | (simp only [hm_n_wI, hm_n_wL, hm_n_wR, hm_n_g] at *; omega)) (hM 15) dX5_dropBearer_49 ?_
      refine hm_iload_n dX5_dropBearer_52 rfl ?_
      refine hm_aload_n dX5_dropBearer_53 rfl ?_
      refine hm_getR lf_RX5_48 rfl rfl (by first | exact Nat.lt_of_lt_of_le (by decide) hN | assumption | (simp only [hm_n_wI, hm_n_wL, hm_n_wR, hm_n_g] at *; omega)) (hM 15) dX5_dropBearer_54 ?_
      refine hm_iload_n dX5_dropBearer_57 rfl ?_
      refine hm_iconst dX5_dropBearer_58 (v := 1) (by decide) ?_
      refine hm_iadd dX5_dropBearer_59 ?_
      refine hm_iald (k + 1) rfl (by first | exact Nat.lt_of_lt_of_le (by decide) hN | assumption | (simp only [hm_n_wI, hm_n_wL, hm_n_wR, hm_n_g] at *; omega)) (nI_1 k) (by omega) (by decide) dX5_dropBearer_60 ?_
      refine hm_iast _ rfl (by first | exact Nat.lt_of_lt_of_le (by decide) hN | assumption | (simp only [hm_n_wI, hm_n_wL, hm_n_wR, hm_n_g] at *; omega)) rfl (by omega) (by decide) dX5_dropBearer_61 ?_
      refine hm_aload_n dX5_dropBearer_62 rfl ?_
      refine hm_getR lf_RX5_51 rfl rfl (by first | exact Nat.lt_of_lt_of_le (by decide) hN | assumption | (simp only [hm_n_wI, hm_n_wL, hm_n_wR, hm_n_g] at *; omega)) (hM 16) dX5_dropBearer_63 ?_
      refine hm_iload_n dX5_dropBearer_66 rfl ?_
      refine hm_aload_n dX5_dropBearer_67 rfl ?_
      refine hm_getR lf_RX5_51 rfl rfl (by first | exact Nat.lt_of_lt_of_le (by decide) hN | assumption | (simp only [hm_n_wI, hm_n_wL, hm_n_wR, hm_n_g] at *; omega)) (hM 16) dX5_dropBearer_68 ?_
      refine hm_iload_n dX5_dropBearer_71 rfl ?_
      refine hm_iconst dX5_dropBearer_72 (v := 1) (by decide) ?_
      refine hm_iadd dX5_dropBearer_73 ?_
      refine hm_iald (k + 1) rfl (by first | exact Nat.lt_of_lt_of_le (by decide) hN | assumption | (simp only [hm_n_wI, hm_n_wL, hm_n_wR, hm_n_g] at *; omega)) (nI_1 k) (by omega) (by decide) dX5_dropBearer_74 ?_
      refine hm_iast _ rfl (by first | exact Nat.lt_of_lt_of_le (by decide) hN | assumption | (simp only [hm_n_wI, hm_n_wL, hm_n_wR, hm_n_g] at *; omega)) rfl (by omega) (by decide) dX5_dropBearer_75 ?_
      refine hm_aload_n dX5_dropBearer_76 rfl ?_
      refine hm_getR lf_RX5_54 rfl rfl (by first | exact Nat.lt_of_lt_of_le (by decide) hN | assumption | (simp only [hm_n_wI, hm_n_wL, hm_n_wR, hm_n_g] at *; omega)) (hM 17) dX5_dropBearer_77 ?_
      refine hm_iload_n dX5_dropBearer_80 rfl ?_
      refine hm_aload_n dX5_dropBearer_81 rfl ?_
      refine hm_getR lf_RX5_54 rfl rfl (by first | exact Nat.lt_of_lt_of_le (by decide) hN | assumption | (simp only [hm_n_wI, hm_n_wL, hm_n_wR, hm_n_g] at *; omega)) (hM 17) dX5_dropBearer_82 ?_
      refine hm_iload_n dX5_dropBearer_85 rfl ?_
      refine hm_iconst dX5_dropBearer_86 (v := 1) (by decide) ?_
      refine hm_iadd dX5_dropBearer_87 ?_
      refine hm_zald (k + 1) rfl (by first | exact Nat.lt_of_lt_of_le (by decide) hN | assumption | (simp only [hm_n_wI, hm_n_wL, hm_n_wR, hm_n_g] at *; omega)) (nI_1 k) (by omega) (by decide) dX5_dropBearer_88 ?_
      refine hm_zast _ (by show hm_I τ 42 (k + 1) = 0 ∨ hm_I τ 42 (k + 1) = 1; rw [e5]; exact bI_01 _) rfl (by first | exact Nat.lt_of_lt_of_le (by decide) hN | assumption | (simp only [hm_n_wI, hm_n_wL, hm_n_wR, hm_n_g] at *; omega)) rfl (by omega) (by decide) dX5_dropBearer_89 ?_
      refine hm_iinc dX5_dropBearer_90 rfl _ rfl (by decide) rfl ?_
      refine hm_goto 12 dX5_dropBearer_93 (by decide) ?_
      refine ih (k + 1) (md_cp τ k) _ (by omega) (by omega) (hm_inc k) ?_ (fun j y hj hy => ?_) (fun j y hj hy => ?_) (fun a j h1 h2 => ?_) i5 i6 i7
      rw [md_cp_o _ _ _ _ (Or.inl (by omega))]; exact i1
      (rcases Nat.lt_or_ge j k with q | q)
      exact md_cp_ne (i2 j y q hy) (by omega)
      (obtain rfl : j = k := by omega)
      rw [List.getElem?_eraseIdx, if_neg (by omega), hx] at hy
      cases hy
      exact md_cp_ar hax
      exact md_cp_ne (i3 j y (by omega) hy) (by omega)
      rw [md_cp_o _ _ _ _ (Or.inl h1)]; exact i4 a j h1 h2
  refine hm_aload_n dX5_dropBearer_0 rfl ?_
  refine hm_dup dX5_dropBearer_1 rfl ?_
  refine hm_getI lf_RX5_109 rfl rfl (by first | exact Nat.lt_of_lt_of_le (by decide) hN | assumption | (simp only [hm_n_wI, hm_n_wL, hm_n_wR, hm_n_g] at *; omega)) dX5_dropBearer_2 ?_
  rw [hb1]
  refine hm_iconst dX5_dropBearer_5 (v := 1) (by decide) ?_
  refine hm_isub dX5_dropBearer_6 ?_
  refine hm_putI lf_RX5_109 rfl rfl rfl (by first | exact Nat.lt_of_lt_of_le (by decide) hN | assumption | (simp only [hm_n_wI, hm_n_wL, hm_n_wR, hm_n_g] at *; omega)) dX5_dropBearer_7 ?_
  refine hm_iload_n dX5_dropBearer_10 rfl ?_
  refine hm_istore_n dX5_dropBearer_11 (by decide) rfl ?_
  refine hl ((aB α).length - 1 - b) b _ _ (by omega) (Nat.le_refl _) rfl ?_ (fun j x hj hx => ?_) (fun j x hj hx => ?_) (fun a k h1 h2 => ?_) rfl rfl rfl
  (rw [hm_I_wI, if_pos ⟨rfl, rfl⟩]; exact pk_sub (a := (aB α).length) (b := 1) (by omega))
  rw [List.getElem?_eraseIdx, if_pos hj] at hx; exact hb2 j x hx
  exact hb2 j x hx
  rw [hm_I_wI, if_neg h2]
theorem hm_m1 (x : Int32) : x + Int32.ofInt (-1) = x - 1 := by
  rw [Int32.sub_eq_add_neg, show Int32.ofInt (-1) = -1 by decide]
theorem sB_sB (α : sA) (B C : List sBr) : sB (sB α B) C = sB α C := rfl
theorem er_mid {β : Type} (l1 l2 : List β) (x : β) : (l1 ++ x :: l2).eraseIdx l1.length = l1 ++ l2 := by
  rw [List.eraseIdx_append_of_length_le (Nat.le_refl _)]
  simp
theorem rM.mid {α : sA} {τ : hm_M} (h : rM α τ) (B : List sBr) (e : aB α = B) : rM (sB α B) τ := by
  subst e; exact h
set_option maxRecDepth 100000 in
theorem r5_idle (h : rM α σ) (hlen : (aB α).length ≤ 16) (hof : ∀ x ∈ aB α, bOf x < 8) {p : Nat} (hp : p < 8) : hm_Ct l yX5_idle cX5_idle 3 none 1 0 0 [.ref 27, .int (nI p)] σ (fun r τ => r = none ∧ rM (pIdle α p) τ ∧ md_fr σ τ) := by
  obtain ⟨hN, hM⟩ := h.m
  obtain ⟨hb1, hb2⟩ := h.b
  have hr : rM (sQ (sQ (sI (sI α 1 p 0) 2 p (-9)) 0 p []) 1 p []) (hm_wI (hm_wI (hm_wI (hm_wI σ 33 p 0) 34 p (-9)) 43 p 0) 45 p 0) := by
    have h1 := (h.upI 1 p 0 hp).upI 2 p (-9) hp
    refine ⟨h1.m, fun f i hi => ?_, fun f i hi => ?_, h1.2.2.2.1, ⟨?_, fun b x hb => ?_⟩, fun q hq => ?_⟩
    · obtain ⟨-, -, -, -, -, s6, s7, -⟩ := md_lN_sc hi
      rw [hm_I_wI, if_neg (fun q => s7 q.1), hm_I_wI, if_neg (fun q => s6 q.1)]; exact h1.n f i hi
    · obtain ⟨-, -, -, -, -, s6, s7, -⟩ := md_lI_sc hi
      rw [hm_I_wI, if_neg (fun q => s7 q.1), hm_I_wI, if_neg (fun q => s6 q.1)]; exact h1.i f i hi
    · exact hb1
    · exact hb2 b x hb
    · obtain ⟨e1, e2, e3, e4, e5⟩ := h.q q hq
      refine ⟨?_, ?_, ?_, ?_, e5⟩
      · simp only [hm_I_wI, aQ_sQ]
        by_cases hqp : q = p
        · subst hqp; simp; rfl
        · simpa [hqp, aQ_sI] using e1
      · simp only [hm_I_wI, aQ_sQ]
        by_cases hqp : q = p
        · subst hqp; simp; rfl
        · simpa [hqp, aQ_sI] using e2
      · intro k v hv
        simp only [aQ_sQ] at hv
        by_cases hqp : q = p
        · subst hqp; simp at hv
        · simp [hqp] at hv; exact e3 k v hv
      · intro k v hv
        simp only [aQ_sQ] at hv
        by_cases hqp : q = p
        · subst hqp; simp at hv
        · simp [hqp] at hv; exact e4 k v hv
  have hfr : md_fr σ (hm_wI (hm_wI (hm_wI (hm_wI σ 33 p 0) 34 p (-9)) 43 p 0) 45 p 0) := ((((md_fr.rf σ).wI 33 p 0 (by decide)).wI 34 p (-9) (by decide)).wI 43 p 0 (by decide)).wI 45 p 0 (by decide)
  generalize hβ : (sQ (sQ (sI (sI α 1 p 0) 2 p (-9)) 0 p []) 1 p []) = β at hr
  have hgoal : pIdle α p = sB β ((aB α).filter (fun x => !decide (bOf x = p))) := by rw [← hβ]; rfl
  have hBβ : aB β = aB α := by rw [← hβ]; rfl
  refine hm_startQ (ini := false) [.ref 27, .int (nI p), hm_u] (by decide) (by decide) rfl (Nat.le_of_ble_eq_true rfl) (fun Q hQ => ?_)
  have hl : ∀ (b : Nat) (τ : hm_M) (u : Int32), b ≤ (aB α).length → rM (sB β ((aB α).take b ++ ((aB α).drop b).filter (fun x => !decide (bOf x = p)))) τ → md_fr σ τ → u = nI b - 1 → hm_V l RX5 cX5_idle 3 none false (hm_rm 1 0 0) 0 0 Q 0 0 36 [.ref 27, .int (nI p), .int u] [] τ := by
    intro b
    induction b with
    | zero =>
      intro τ u hb hτ hf hu
      subst hu
      obtain ⟨hN, hM⟩ := hτ.m
      refine hm_iload_n dX5_idle_36 rfl ?_
      refine hm_if_lt 61 dX5_idle_37 (by decide) (fun _ => ?_) (fun h37 => absurd (by decide) h37)
      refine hm_vret dX5_idle_61 rfl (by decide) (by decide) ?_
      exact hQ _ _ ⟨rfl, by rw [hgoal]; simpa using hτ, hf⟩
    | succ b ih =>
      intro τ u hb hτ hf hu
      have hu : u = nI b := by rw [hu]; exact nI_pred b
      subst hu
      obtain ⟨hN, hM⟩ := hτ.m
      obtain ⟨x, hx⟩ : ∃ x, (aB α)[b]? = some x := ⟨_, List.getElem?_eq_getElem (by omega)⟩
      have hxm := hof x (List.mem_of_getElem? hx)
      have q1 : nI (bOf x) = nI p ↔ bOf x = p := nI_eq (by omega) (by omega)
      have hd : (aB α).drop b = x :: (aB α).drop (b + 1) := by rw [← List.getElem_cons_drop (show b < (aB α).length by omega)]; congr 1; exact Option.some.inj ((List.getElem?_eq_getElem _).symm.trans hx)
      have ht : (aB α).take (b + 1) = (aB α).take b ++ [x] := by rw [List.take_succ, hx]; rfl
      rw [ht, List.append_assoc, List.singleton_append] at hτ
      have htl : ((aB α).take b).length = b := by rw [List.length_take]; omega
      have hC : (aB (sB β ((aB α).take b ++ x :: ((aB α).drop (b + 1)).filter (fun x => !decide (bOf x = p)))))[b]? = some x := by
        rw [aB_sB, List.getElem?_append_right (by omega), htl, Nat.sub_self]; rfl
      have e1 := (hτ.b.2 b x hC).1
      have ih2 := ih
      rw [hd, List.filter_cons] at ih2
      have hlC : (aB (sB β ((aB α).take b ++ x :: ((aB α).drop (b + 1)).filter (fun x => !decide (bOf x = p))))).length ≤ 16 := by
        have := List.length_filter_le (fun x => !decide (bOf x = p)) ((aB α).drop (b + 1))
        rw [List.length_drop] at this
        rw [aB_sB, List.length_append, htl, List.length_cons]
        omega
      have hbl : b < (aB (sB β ((aB α).take b ++ x :: ((aB α).drop (b + 1)).filter (fun x => !decide (bOf x = p))))).length := (List.getElem?_eq_some_iff.mp hC).1
      have her : (aB (sB β ((aB α).take b ++ x :: ((aB α).drop (b + 1)).filter (fun x => !decide (bOf x = p))))).eraseIdx b = (aB α).take b ++ ((aB α).drop (b + 1)).filter (fun x => !decide (bOf x = p)) := by
        rw [aB_sB]
        have := er_mid ((aB α).take b) (((aB α).drop (b + 1)).filter (fun x => !decide (bOf x = p))) x
        rw [htl] at this
        exact this
      refine hm_iload_n dX5_idle_36 rfl ?_
      refine hm_if_lt 61 dX5_idle_37 (by decide) (fun h37 => absurd h37 (nI_pos (by omega))) (fun _ => ?_)
      refine hm_aload_n dX5_idle_40 rfl ?_
      refine hm_getR lf_RX5_42 rfl rfl (by first | exact Nat.lt_of_lt_of_le (by decide) hN | assumption | (simp only [hm_n_wI, hm_n_wL, hm_n_wR, hm_n_g] at *; omega)) (hM 13) dX5_idle_41 ?_
      refine hm_iload_n dX5_idle_44 rfl ?_
      refine hm_iald _ rfl (by first | exact Nat.lt_of_lt_of_le (by decide) hN | assumption | (simp only [hm_n_wI, hm_n_wL, hm_n_wR, hm_n_g] at *; omega)) rfl (by omega) (by decide) dX5_idle_45 ?_
      rw [e1]
      refine hm_iload_n dX5_idle_46 rfl ?_
      refine hm_icmp_ne 55 dX5_idle_47 (by decide) (fun h47 => ?_) (fun h47 => ?_)
      · skip
        rw [q1] at h47
        refine hm_iinc dX5_idle_55 rfl _ rfl (by decide) rfl ?_
        refine hm_goto 36 dX5_idle_58 (by decide) ?_
        first | (refine ih2 _ _ (by omega) ?_ (hf.tr hf2) (hm_m1 _); simpa [h47, sB_sB] using hρ) | (refine ih2 _ _ (by omega) ?_ hf (hm_m1 _); simpa [h47] using hτ)
      · skip
        rw [q1] at h47
        refine hm_aload_n dX5_idle_50 rfl ?_
        refine hm_iload_n dX5_idle_51 rfl ?_
        refine hm_callV lm_RX5_112 (r5_dropBearer l hτ hlC hbl) rfl rfl rfl rfl (by first | exact Nat.lt_of_lt_of_le (by decide) hN | assumption | (simp only [hm_n_wI, hm_n_wL, hm_n_wR, hm_n_g] at *; omega)) (by decide) (by decide) (Nat.le_of_ble_eq_true rfl) dX5_idle_52 ?_
        rintro _ ρ ⟨rfl, hρ, hf2⟩
        rw [her] at hρ
        obtain ⟨hN, hM⟩ := hρ.m
        refine hm_iinc dX5_idle_55 rfl _ rfl (by decide) rfl ?_
        refine hm_goto 36 dX5_idle_58 (by decide) ?_
        first | (refine ih2 _ _ (by omega) ?_ (hf.tr hf2) (hm_m1 _); simpa [h47, sB_sB] using hρ) | (refine ih2 _ _ (by omega) ?_ hf (hm_m1 _); simpa [h47] using hτ)
  refine hm_aload_n dX5_idle_0 rfl ?_
  refine hm_getR lf_RX5_27 rfl rfl (by first | exact Nat.lt_of_lt_of_le (by decide) hN | assumption | (simp only [hm_n_wI, hm_n_wL, hm_n_wR, hm_n_g] at *; omega)) (hM 7) dX5_idle_1 ?_
  refine hm_iload_n dX5_idle_4 rfl ?_
  refine hm_iconst dX5_idle_5 (v := 0) (by decide) ?_
  refine hm_iast _ rfl (by first | exact Nat.lt_of_lt_of_le (by decide) hN | assumption | (simp only [hm_n_wI, hm_n_wL, hm_n_wR, hm_n_g] at *; omega)) rfl (by omega) (by decide) dX5_idle_6 ?_
  refine hm_aload_n dX5_idle_7 rfl ?_
  refine hm_getR lf_RX5_30 rfl rfl (by first | exact Nat.lt_of_lt_of_le (by decide) hN | assumption | (simp only [hm_n_wI, hm_n_wL, hm_n_wR, hm_n_g] at *; omega)) (hM 8) dX5_idle_8 ?_
  refine hm_iload_n dX5_idle_11 rfl ?_
  refine hm_bipush dX5_idle_12 (v := -9) (by decide) ?_
  refine hm_iast _ rfl (by first | exact Nat.lt_of_lt_of_le (by decide) hN | assumption | (simp only [hm_n_wI, hm_n_wL, hm_n_wR, hm_n_g] at *; omega)) rfl (by omega) (by decide) dX5_idle_14 ?_
  refine hm_aload_n dX5_idle_15 rfl ?_
  refine hm_getR lf_RX5_57 rfl rfl (by first | exact Nat.lt_of_lt_of_le (by decide) hN | assumption | (simp only [hm_n_wI, hm_n_wL, hm_n_wR, hm_n_g] at *; omega)) (hM 18) dX5_idle_16 ?_
  refine hm_iload_n dX5_idle_19 rfl ?_
  refine hm_iconst dX5_idle_20 (v := 0) (by decide) ?_
  refine hm_iast _ rfl (by first | exact Nat.lt_of_lt_of_le (by decide) hN | assumption | (simp only [hm_n_wI, hm_n_wL, hm_n_wR, hm_n_g] at *; omega)) rfl (by omega) (by decide) dX5_idle_21 ?_
  refine hm_aload_n dX5_idle_22 rfl ?_
  refine hm_getR lf_RX5_63 rfl rfl (by first | exact Nat.lt_of_lt_of_le (by decide) hN | assumption | (simp only [hm_n_wI, hm_n_wL, hm_n_wR, hm_n_g] at *; omega)) (hM 20) dX5_idle_23 ?_
  refine hm_iload_n dX5_idle_26 rfl ?_
  refine hm_iconst dX5_idle_27 (v := 0) (by decide) ?_
  refine hm_iast _ rfl (by first | exact Nat.lt_of_lt_of_le (by decide) hN | assumption | (simp only [hm_n_wI, hm_n_wL, hm_n_wR, hm_n_g] at *; omega)) rfl (by omega) (by decide) dX5_idle_28 ?_
  refine hm_aload_n dX5_idle_29 rfl ?_
  refine hm_getI lf_RX5_109 rfl rfl (by first | exact Nat.lt_of_lt_of_le (by decide) hN | assumption | (simp only [hm_n_wI, hm_n_wL, hm_n_wR, hm_n_g] at *; omega)) dX5_idle_30 ?_
  refine hm_iconst dX5_idle_33 (v := 1) (by decide) ?_
  refine hm_isub dX5_idle_34 ?_
  refine hm_istore_n dX5_idle_35 (by decide) rfl ?_
  refine hl (aB α).length _ _ (Nat.le_refl _) (by rw [List.take_length, List.drop_length, List.filter_nil, List.append_nil]; exact hr.mid _ hBβ) hfr (by show hm_I σ 27 12 - 1 = _; rw [hb1])
end M6
