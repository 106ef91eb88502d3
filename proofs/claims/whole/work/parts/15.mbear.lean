/-! the reference: first bearer, mix, bearers that go, calls that end -/
theorem fi_some {β : Type} {f : β → Bool} {x : β} : ∀ {l : List β} {i : Nat}, l[i]? = some x → f x = true → (∀ (j : Nat) (y : β), j < i → l[j]? = some y → f y = false) → l.findIdx? f = some i ∧ l.find? f = some x := by
  intro l
  induction l with
  | nil => intro i h; simp at h
  | cons a t ih =>
    intro i h hf hl
    match i, h with
    | 0, h =>
      simp at h
      subst h
      simp [List.findIdx?_cons, List.find?_cons, hf]
    | i + 1, h =>
      have ha : f a = false := hl 0 a (by omega) rfl
      have h2 := ih (i := i) (by simpa using h) hf (fun j y hj hy => hl (j + 1) y (by omega) (by simpa using hy))
      simp [List.findIdx?_cons, List.find?_cons, ha, h2.1, h2.2]
theorem fi_none {β : Type} {f : β → Bool} {l : List β} (h : ∀ (j : Nat) (y : β), l[j]? = some y → f y = false) : l.findIdx? f = none ∧ l.find? f = none ∧ l.countP f = 0 := by
  have h' : ∀ y ∈ l, f y = false := fun y hy => by
    obtain ⟨j, hj⟩ := List.getElem?_of_mem hy
    exact h j y hj
  refine ⟨List.findIdx?_eq_none_iff.mpr h', List.find?_eq_none.mpr (fun y hy => by rw [h' y hy]; decide), List.countP_eq_zero.mpr (fun y hy => by rw [h' y hy]; decide)⟩
theorem fi_cases {β : Type} (f : β → Bool) (l : List β) : (l.findIdx? f = none ∧ l.find? f = none ∧ l.countP f = 0) ∨ ∃ i x, l.findIdx? f = some i ∧ l[i]? = some x ∧ f x = true ∧ l.find? f = some x ∧ i < l.length ∧ 0 < l.countP f ∧ ∀ (j : Nat) (y : β), j < i → l[j]? = some y → f y = false := by
  cases h : l.findIdx? f with
  | none =>
    left
    have := List.findIdx?_eq_none_iff.mp h
    refine ⟨rfl, (fi_none (fun j y hy => this y (List.mem_of_getElem? hy))).2⟩
  | some i =>
    right
    obtain ⟨h1, h2, h3⟩ := List.findIdx?_eq_some_iff_getElem.mp h
    have hx : l[i]? = some l[i] := List.getElem?_eq_getElem h1
    have h4 : ∀ (j : Nat) (y : β), j < i → l[j]? = some y → f y = false := fun j y hj hy => by
      have := h3 j hj
      have e : l[j]'(by omega) = y := Option.some.inj ((List.getElem?_eq_getElem (by omega)).symm.trans hy)
      rw [e] at this
      simpa using this
    exact ⟨i, l[i], rfl, hx, h2, (fi_some hx h2 h4).2, h1, List.countP_pos_iff.mpr ⟨l[i], List.getElem_mem h1, h2⟩, h4⟩
def pFi (α : sA) (p : Nat) : Option Nat := (aB α).findIdx? (fun x => decide (bOf x = p))
def oI (o : Option Nat) (d : Int32) : Int32 := match o with
  | some i => nI i
  | none => d
theorem rM.newB {α : sA} {σ τ : hm_M} {E : List sBr} (h : rM α σ) (h1 : ∀ a k, ¬ (38 ≤ a ∧ a ≤ 42) → ¬ (a = 27 ∧ k = 12) → hm_I τ a k = hm_I σ a k) (h2 : hm_L τ = hm_L σ) (h3 : hm_R τ = hm_R σ) (h4 : hm_n τ = hm_n σ) (h5 : md_B E τ) : rM (sB α E) τ := by
  refine ⟨⟨by rw [h4]; exact h.m.1, fun k => by rw [h3]; exact h.m.2 k⟩, fun f i hi => ?_, fun f i hi => ?_, fun f i hi => ?_, h5, fun p hp => ?_⟩
  · obtain ⟨s1, s2, s3, s4, s5, -, -, -, -, -, -, -, -, -, s6⟩ := md_lN_sc hi
    rw [h1 _ _ (by omega) (fun q => s6 (Prod.ext q.1 q.2))]; exact h.n f i hi
  · obtain ⟨s1, s2, s3, s4, s5, -, -, -, -, -, -, -, -, -, s6⟩ := md_lI_sc hi
    rw [h1 _ _ (by omega) (fun q => s6 (Prod.ext q.1 q.2))]; exact h.i f i hi
  · rw [h2]; exact h.l f i hi
  · obtain ⟨e1, e2, e3, e4, e5⟩ := h.q p hp
    refine ⟨?_, ?_, ?_, ?_, ?_⟩
    · rw [h1 _ _ (by omega) (by omega)]; exact e1
    · rw [h1 _ _ (by omega) (by omega)]; exact e2
    · rw [h2]; exact e3
    · rw [h2]; exact e4
    · rw [h2]; exact e5
section M5
variable (l : Launch) {α : sA} {σ : hm_M}
set_option maxRecDepth 100000 in
theorem r5_bearerOf (h : rM α σ) (w : sW α) {p : Nat} (hp : p < 8) : hm_Ct l yX5_bearerOf cX5_bearerOf 3 (some .int) 0 0 0 [.ref 27, .int (nI p)] σ (fun r τ => r = some (.int (oI (pFi α p) (-1))) ∧ τ = σ) := by
  obtain ⟨hN, hM⟩ := h.m
  obtain ⟨hb1, hb2⟩ := h.b
  have hlen := w.len
  refine hm_startQ (ini := false) [.ref 27, .int (nI p), hm_u] (by decide) (by decide) rfl (Nat.le_of_ble_eq_true rfl) (fun Q hQ => ?_)
  have hl : ∀ (k b : Nat) (u : Int32), b + k = (aB α).length → (∀ j y, j < b → (aB α)[j]? = some y → decide (bOf y = p) = false) → u = nI b → hm_V l RX5 cX5_bearerOf 3 (some .int) false (hm_rm 0 0 0) 0 0 Q 0 0 2 [.ref 27, .int (nI p), .int u] [] σ := by
    intro k
    induction k with
    | zero =>
      intro b u hk hv hu
      subst hu
      have hb : b = (aB α).length := by omega
      subst hb
      have hf := (fi_none (f := fun x => decide (bOf x = p)) (l := aB α) (fun j y hy => hv j y (List.getElem?_eq_some_iff.mp hy).1 hy)).1
      refine hm_iload_n dX5_bearerOf_2 rfl ?_
      refine hm_aload_n dX5_bearerOf_3 rfl ?_
      refine hm_getI lf_RX5_109 rfl rfl (by first | exact Nat.lt_of_lt_of_le (by decide) hN | assumption | (simp only [hm_n_wI, hm_n_wL, hm_n_wR, hm_n_g] at *; omega)) dX5_bearerOf_4 ?_
      rw [hb1]
      refine hm_icmp_ge 26 dX5_bearerOf_7 (by decide) (fun _ => ?_) (fun h7 => absurd (nI_le (Nat.le_refl _) (by omega)) h7)
      refine hm_iload_n dX5_bearerOf_26 rfl ?_
      refine hm_aload_n dX5_bearerOf_27 rfl ?_
      refine hm_getI lf_RX5_109 rfl rfl (by first | exact Nat.lt_of_lt_of_le (by decide) hN | assumption | (simp only [hm_n_wI, hm_n_wL, hm_n_wR, hm_n_g] at *; omega)) dX5_bearerOf_28 ?_
      rw [hb1]
      refine hm_icmp_ge 38 dX5_bearerOf_31 (by decide) (fun _ => ?_) (fun h31 => absurd (nI_le (Nat.le_refl _) (by omega)) h31)
      refine hm_iconst dX5_bearerOf_38 (v := -1) (by decide) ?_
      refine hm_iret dX5_bearerOf_39 rfl (by decide) (by decide) ?_
      exact hQ _ _ ⟨by unfold pFi; rw [hf]; rfl, rfl⟩
    | succ k ih =>
      intro b u hk hv hu
      subst hu
      obtain ⟨x, hx⟩ : ∃ x, (aB α)[b]? = some x := ⟨_, List.getElem?_eq_getElem (by omega)⟩
      obtain ⟨e1, e2, e3, e4, e5⟩ := hb2 b x hx
      obtain ⟨x1, x2, x3⟩ := w.xb hx
      have q1 : nI (bOf x) = nI p ↔ bOf x = p := nI_eq (by omega) (by omega)
      refine hm_iload_n dX5_bearerOf_2 rfl ?_
      refine hm_aload_n dX5_bearerOf_3 rfl ?_
      refine hm_getI lf_RX5_109 rfl rfl (by first | exact Nat.lt_of_lt_of_le (by decide) hN | assumption | (simp only [hm_n_wI, hm_n_wL, hm_n_wR, hm_n_g] at *; omega)) dX5_bearerOf_4 ?_
      rw [hb1]
      refine hm_icmp_ge 26 dX5_bearerOf_7 (by decide) (fun h7 => absurd h7 (nI_ge (by omega) (by omega))) (fun _ => ?_)
      refine hm_aload_n dX5_bearerOf_10 rfl ?_
      refine hm_getR lf_RX5_42 rfl rfl (by first | exact Nat.lt_of_lt_of_le (by decide) hN | assumption | (simp only [hm_n_wI, hm_n_wL, hm_n_wR, hm_n_g] at *; omega)) (hM 13) dX5_bearerOf_11 ?_
      refine hm_iload_n dX5_bearerOf_14 rfl ?_
      refine hm_iald _ rfl (by first | exact Nat.lt_of_lt_of_le (by decide) hN | assumption | (simp only [hm_n_wI, hm_n_wL, hm_n_wR, hm_n_g] at *; omega)) rfl (by omega) (by decide) dX5_bearerOf_15 ?_
      rw [e1]
      refine hm_iload_n dX5_bearerOf_16 rfl ?_
      refine hm_icmp_eq 26 dX5_bearerOf_17 (by decide) (fun h17 => ?_) (fun h17 => ?_)
      · skip
        rw [q1] at h17
        refine hm_iload_n dX5_bearerOf_26 rfl ?_
        refine hm_aload_n dX5_bearerOf_27 rfl ?_
        refine hm_getI lf_RX5_109 rfl rfl (by first | exact Nat.lt_of_lt_of_le (by decide) hN | assumption | (simp only [hm_n_wI, hm_n_wL, hm_n_wR, hm_n_g] at *; omega)) dX5_bearerOf_28 ?_
        rw [hb1]
        refine hm_icmp_ge 38 dX5_bearerOf_31 (by decide) (fun h31 => absurd h31 (nI_ge (by omega) (by omega))) (fun _ => ?_)
        refine hm_iload_n dX5_bearerOf_34 rfl ?_
        refine hm_goto 39 dX5_bearerOf_35 (by decide) ?_
        refine hm_iret dX5_bearerOf_39 rfl (by decide) (by decide) ?_
        exact hQ _ _ ⟨by unfold pFi; rw [(fi_some (f := fun x => decide (bOf x = p)) hx (by simp [h17]) hv).1]; rfl, rfl⟩
      · skip
        rw [q1] at h17
        refine hm_iinc dX5_bearerOf_20 rfl _ rfl (by decide) rfl ?_
        refine hm_goto 2 dX5_bearerOf_23 (by decide) ?_
        exact ih (b + 1) _ (by omega) (fun j y hj hy => by rcases Nat.lt_or_ge j b with q | q; exact hv j y q hy; rw [show j = b by omega, hx] at hy; cases hy; simp [h17]) (hm_inc b)
  refine hm_iconst dX5_bearerOf_0 (v := 0) (by decide) ?_
  refine hm_istore_n dX5_bearerOf_1 (by decide) rfl ?_
  exact hl _ 0 _ (Nat.zero_add _) (fun j y hj => absurd hj (by omega)) rfl
set_option maxRecDepth 100000 in
theorem r5_handsOver (h : rM α σ) (w : sW α) {p : Nat} (hp : p < 8) : hm_Ct l yX5_handsOver cX5_handsOver 2 (some .boolean) 1 0 0 [.ref 27, .int (nI p)] σ (fun r τ => r = some (.int (bI (pHo α p))) ∧ τ = σ) := by
  obtain ⟨hN, hM⟩ := h.m
  obtain ⟨hb1, hb2⟩ := h.b
  have hlen := w.len
  have hnb := w.nb p
  have q0 : nI (pNb α p) = 1 ↔ pNb α p = 1 := nI_eq (b := 1) (by omega) (by decide)
  refine hm_startQ (ini := false) [.ref 27, .int (nI p)] (by decide) (by decide) rfl (Nat.le_of_ble_eq_true rfl) (fun Q hQ => ?_)
  refine hm_aload_n dX5_handsOver_0 rfl ?_
  refine hm_iload_n dX5_handsOver_1 rfl ?_
  refine hm_callV lm_RX5_151 (r5_bearersOf l h w hp) rfl rfl rfl rfl (by first | exact Nat.lt_of_lt_of_le (by decide) hN | assumption | (simp only [hm_n_wI, hm_n_wL, hm_n_wR, hm_n_g] at *; omega)) (by decide) (by decide) (Nat.le_of_ble_eq_true rfl) dX5_handsOver_2 ?_
  rintro _ _ ⟨rfl, rfl⟩
  refine hm_iconst dX5_handsOver_5 (v := 1) (by decide) ?_
  refine hm_icmp_ne 27 dX5_handsOver_6 (by decide) (fun h6 => ?_) (fun h6 => ?_)
  · skip
    rw [q0] at h6
    refine hm_iconst dX5_handsOver_27 (v := 0) (by decide) ?_
    refine hm_zret dX5_handsOver_28 rfl (by decide) (by decide) (by first | exact Or.inl rfl | exact Or.inr rfl | assumption) ?_
    exact hQ _ _ ⟨by simp_all [pHo, bI, ← Int32.not_lt], rfl⟩
  · skip
    rw [q0] at h6
    rcases fi_cases (fun x => decide (bOf x = p)) (aB α) with ⟨-, -, c0⟩ | ⟨i, x, c1, c2, c3, c4, c5, c6, c7⟩
    (have c0' : pNb α p = 0 := c0)
    omega
    have d1 : pFi α p = some i := c1
    have d2 : pFst α p = some x := c4
    have d3 := (hb2 i x c2).2.2.2.1
    refine hm_aload_n dX5_handsOver_9 rfl ?_
    refine hm_getR lf_RX5_51 rfl rfl (by first | exact Nat.lt_of_lt_of_le (by decide) hN | assumption | (simp only [hm_n_wI, hm_n_wL, hm_n_wR, hm_n_g] at *; omega)) (hM 16) dX5_handsOver_10 ?_
    refine hm_aload_n dX5_handsOver_13 rfl ?_
    refine hm_iload_n dX5_handsOver_14 rfl ?_
    refine hm_callV lm_RX5_154 (r5_bearerOf l h w hp) rfl rfl rfl rfl (by first | exact Nat.lt_of_lt_of_le (by decide) hN | assumption | (simp only [hm_n_wI, hm_n_wL, hm_n_wR, hm_n_g] at *; omega)) (by decide) (by decide) (Nat.le_of_ble_eq_true rfl) dX5_handsOver_15 ?_
    rintro _ _ ⟨rfl, rfl⟩
    rw [d1]
    refine hm_iald i rfl (by first | exact Nat.lt_of_lt_of_le (by decide) hN | assumption | (simp only [hm_n_wI, hm_n_wL, hm_n_wR, hm_n_g] at *; omega)) rfl (by omega) (by decide) dX5_handsOver_18 ?_
    rw [d3]
    refine hm_iconst dX5_handsOver_19 (v := 3) (by decide) ?_
    refine hm_icmp_lt 27 dX5_handsOver_20 (by decide) (fun h20 => ?_) (fun h20 => ?_)
    · skip
      refine hm_iconst dX5_handsOver_27 (v := 0) (by decide) ?_
      refine hm_zret dX5_handsOver_28 rfl (by decide) (by decide) (by first | exact Or.inl rfl | exact Or.inr rfl | assumption) ?_
      exact hQ _ _ ⟨by simp_all [pHo, bI, ← Int32.not_lt], rfl⟩
    · skip
      refine hm_iconst dX5_handsOver_23 (v := 1) (by decide) ?_
      refine hm_goto 28 dX5_handsOver_24 (by decide) ?_
      refine hm_zret dX5_handsOver_28 rfl (by decide) (by decide) (by first | exact Or.inl rfl | exact Or.inr rfl | assumption) ?_
      exact hQ _ _ ⟨by simp_all [pHo, bI, ← Int32.not_lt], rfl⟩
set_option maxRecDepth 100000 in
theorem r5_mix (σ : hm_M) (key n : Int64) : hm_Ct l yX5_mix cX5_mix 8 (some .long) 0 0 0 [.ref 27, .long key, .long n] σ (fun r τ => r = some (.long (pMix key n)) ∧ τ = σ) := by
  refine hm_startQ (ini := false) [.ref 27, .long key, hm_u, .long n, hm_u, hm_u, hm_u, hm_u] (by decide) (by decide) rfl (Nat.le_of_ble_eq_true rfl) (fun Q hQ => ?_)
  refine hm_lload_n dX5_mix_0 rfl ?_
  refine hm_lload_n dX5_mix_1 rfl ?_
  refine hm_ldc2 dX5_mix_2 lk_RX5_214 ?_
  refine hm_lmul dX5_mix_5 ?_
  refine hm_lxor dX5_mix_6 ?_
  refine hm_lstore dX5_mix_7 (by decide) rfl ?_
  refine hm_iconst dX5_mix_9 (v := 0) (by decide) ?_
  refine hm_istore dX5_mix_10 (by decide) rfl ?_
  skip
  refine hm_iload dX5_mix_12 rfl ?_
  refine hm_iconst dX5_mix_14 (v := 2) (by decide) ?_
  refine hm_icmp_ge 38 dX5_mix_15 (by decide) (fun h15 => absurd h15 (by decide)) (fun _ => ?_)
  refine hm_lload dX5_mix_18 rfl ?_
  refine hm_lload dX5_mix_20 rfl ?_
  refine hm_bipush dX5_mix_22 (v := 29) (by decide) ?_
  refine hm_lushr dX5_mix_24 ?_
  refine hm_lxor dX5_mix_25 ?_
  refine hm_ldc2 dX5_mix_26 lk_RX5_216 ?_
  refine hm_lmul dX5_mix_29 ?_
  refine hm_lstore dX5_mix_30 (by decide) rfl ?_
  refine hm_iinc dX5_mix_32 rfl _ rfl (by decide) rfl ?_
  refine hm_goto 12 dX5_mix_35 (by decide) ?_
  skip
  refine hm_iload dX5_mix_12 rfl ?_
  refine hm_iconst dX5_mix_14 (v := 2) (by decide) ?_
  refine hm_icmp_ge 38 dX5_mix_15 (by decide) (fun h15 => absurd h15 (by decide)) (fun _ => ?_)
  refine hm_lload dX5_mix_18 rfl ?_
  refine hm_lload dX5_mix_20 rfl ?_
  refine hm_bipush dX5_mix_22 (v := 29) (by decide) ?_
  refine hm_lushr dX5_mix_24 ?_
  refine hm_lxor dX5_mix_25 ?_
  refine hm_ldc2 dX5_mix_26 lk_RX5_216 ?_
  refine hm_lmul dX5_mix_29 ?_
  refine hm_lstore dX5_mix_30 (by decide) rfl ?_
  refine hm_iinc dX5_mix_32 rfl _ rfl (by decide) rfl ?_
  refine hm_goto 12 dX5_mix_35 (by decide) ?_
  skip
  refine hm_iload dX5_mix_12 rfl ?_
  refine hm_iconst dX5_mix_14 (v := 2) (by decide) ?_
  refine hm_icmp_ge 38 dX5_mix_15 (by decide) (fun _ => ?_) (fun h15 => absurd (by decide) h15)
  refine hm_lload dX5_mix_38 rfl ?_
  refine hm_lret dX5_mix_40 rfl (by decide) (by decide) ?_
  exact hQ _ _ ⟨rfl, rfl⟩
theorem r5_isCaller (σ : hm_M) (s : Int32) : hm_Ct l yX5_isCaller cX5_isCaller 1 (some .boolean) 1 0 0 [.int s] σ (fun r τ => r = some (.int (bI (pCaller s))) ∧ τ = σ) := by
  refine hm_startQ (ini := false) [.int s] (by decide) (by decide) rfl (Nat.le_of_ble_eq_true rfl) (fun Q hQ => ?_)
  refine hm_iload_n dX5_isCaller_0 rfl ?_
  refine hm_iconst dX5_isCaller_1 (v := 1) (by decide) ?_
  refine hm_iconst dX5_isCaller_2 (v := 3) (by decide) ?_
  refine hm_callS lm_RX5_88 (c5_in l _ _ _ _) rfl rfl (by decide) (by decide) (Nat.le_of_ble_eq_true rfl) dX5_isCaller_3 ?_
  rintro _ _ ⟨rfl, rfl⟩
  refine hm_zret dX5_isCaller_6 rfl (by decide) (by decide) (bI_01 _) ?_
  exact hQ _ _ ⟨rfl, rfl⟩
end M5
