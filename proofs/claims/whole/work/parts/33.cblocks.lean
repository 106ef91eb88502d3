/-! the class: blocks in a ring -/
theorem wr_lt {cap i : Nat} (h : i < 2 * cap) : wr cap i < cap := by unfold wr; split <;> omega
section C1
variable (l : Launch) {σ : hm_M} {a cap : Nat}
set_option maxRecDepth 100000 in
theorem k1_wrap (hs : hm_S a = (1, 0)) (hs1 : hm_S (a + 1) = (11, cap)) (ha : a + 1 < hm_n σ) (hr : hm_R σ a 0 = some (a + 1)) (hcap : cap ≤ 64) {i : Nat} (hi : i < 2 * cap) : hm_Ct l yX1_wrap cX1_wrap 2 (some .int) 0 0 0 [.ref a, .int (nI i)] σ (fun r τ => r = some (.int (nI (wr cap i))) ∧ τ = σ) := by
  have q1 : nI cap ≤ nI i ↔ cap ≤ i := nI_leI (by omega) (by omega)
  refine hm_startQ (ini := false) [.ref a, .int (nI i)] (by decide) (by decide) rfl (Nat.le_of_ble_eq_true rfl) (fun Q hQ => ?_)
  refine hm_iload_n dX1_wrap_0 rfl ?_
  refine hm_aload_n dX1_wrap_1 rfl ?_
  refine hm_getR lf_RX1_13 rfl hs (by omega) hr dX1_wrap_2 ?_
  refine hm_alen hs1 (by decide) (by omega) (show Int32.ofNat cap = nI cap from rfl) dX1_wrap_5 ?_
  refine hm_icmp_ge 13 dX1_wrap_6 (by decide) (fun h6 => ?_) (fun h6 => ?_)
  · skip
    rw [q1] at h6
    have e : nI i - nI cap = nI (wr cap i) := by rw [pk_sub h6]; unfold wr; rw [if_neg (by omega)]
    refine hm_iload_n dX1_wrap_13 rfl ?_
    refine hm_aload_n dX1_wrap_14 rfl ?_
    refine hm_getR lf_RX1_13 rfl hs (by omega) hr dX1_wrap_15 ?_
    refine hm_alen hs1 (by decide) (by omega) (show Int32.ofNat cap = nI cap from rfl) dX1_wrap_18 ?_
    refine hm_isub dX1_wrap_19 ?_
    refine hm_iret dX1_wrap_20 rfl (by decide) (by decide) ?_
    exact hQ _ _ ⟨congrArg (fun z => some (Value.int z)) e, rfl⟩
  · skip
    rw [q1] at h6
    have e : nI i = nI (wr cap i) := by unfold wr; rw [if_pos (by omega)]
    refine hm_iload_n dX1_wrap_9 rfl ?_
    refine hm_goto 20 dX1_wrap_10 (by decide) ?_
    refine hm_iret dX1_wrap_20 rfl (by decide) (by decide) ?_
    exact hQ _ _ ⟨congrArg (fun z => some (Value.int z)) e, rfl⟩
set_option maxRecDepth 100000 in
theorem k1_isFull (hs : hm_S a = (1, 0)) (hs1 : hm_S (a + 1) = (11, cap)) (ha : a + 1 < hm_n σ) (hr : hm_R σ a 0 = some (a + 1)) (hcap : cap ≤ 64) {f : Nat} {q : List Int64} (hb : bk σ a cap f q) : hm_Ct l yX1_isFull cX1_isFull 1 (some .boolean) 0 0 0 [.ref a] σ (fun r τ => r = some (.int (bI (decide (q.length = cap)))) ∧ τ = σ) := by
  obtain ⟨b1, b2, b3, b4, b5⟩ := hb
  have q1 : nI q.length < nI cap ↔ q.length < cap := nI_ltI (by omega) (by omega)
  refine hm_startQ (ini := false) [.ref a] (by decide) (by decide) rfl (Nat.le_of_ble_eq_true rfl) (fun Q hQ => ?_)
  refine hm_aload_n dX1_isFull_0 rfl ?_
  refine hm_getI lf_RX1_19 rfl hs (by omega) dX1_isFull_1 ?_
  rw [b3]
  refine hm_aload_n dX1_isFull_4 rfl ?_
  refine hm_getR lf_RX1_13 rfl hs (by omega) hr dX1_isFull_5 ?_
  refine hm_alen hs1 (by decide) (by omega) (show Int32.ofNat cap = nI cap from rfl) dX1_isFull_8 ?_
  refine hm_icmp_lt 16 dX1_isFull_9 (by decide) (fun h9 => ?_) (fun h9 => ?_)
  · skip
    rw [q1] at h9
    have e : (0 : Int32) = bI (decide (q.length = cap)) := by rw [decide_eq_false (by omega)]; rfl
    refine hm_iconst dX1_isFull_16 (v := 0) (by decide) ?_
    refine hm_zret dX1_isFull_17 rfl (by decide) (by decide) (by first | exact Or.inl rfl | exact Or.inr rfl | assumption) ?_
    exact hQ _ _ ⟨congrArg (fun z => some (Value.int z)) e, rfl⟩
  · skip
    rw [q1] at h9
    have e : (1 : Int32) = bI (decide (q.length = cap)) := by rw [decide_eq_true (by omega)]; rfl
    refine hm_iconst dX1_isFull_12 (v := 1) (by decide) ?_
    refine hm_goto 17 dX1_isFull_13 (by decide) ?_
    refine hm_zret dX1_isFull_17 rfl (by decide) (by decide) (by first | exact Or.inl rfl | exact Or.inr rfl | assumption) ?_
    exact hQ _ _ ⟨congrArg (fun z => some (Value.int z)) e, rfl⟩
/-- nothing but this ring, and its own two numbers -/
def bk_fr (a : Nat) (σ τ : hm_M) : Prop := (∀ b k, b ≠ a → hm_I τ b k = hm_I σ b k) ∧ (∀ b k, b ≠ a + 1 → hm_L τ b k = hm_L σ b k) ∧ hm_R τ = hm_R σ ∧ hm_n τ = hm_n σ
theorem bk_fr.rf (a : Nat) (σ : hm_M) : bk_fr a σ σ := ⟨fun _ _ _ => rfl, fun _ _ _ => rfl, rfl, rfl⟩
theorem bk_fr.tr {a : Nat} {σ τ ρ : hm_M} (h : bk_fr a σ τ) (h' : bk_fr a τ ρ) : bk_fr a σ ρ := ⟨fun b k hb => (h'.1 b k hb).trans (h.1 b k hb), fun b k hb => (h'.2.1 b k hb).trans (h.2.1 b k hb), h'.2.2.1.trans h.2.2.1, h'.2.2.2.trans h.2.2.2⟩
theorem bk_fr.wI {a : Nat} {σ τ : hm_M} (h : bk_fr a σ τ) (k : Nat) (v : Int32) : bk_fr a σ (hm_wI τ a k v) := ⟨fun b j hb => by rw [hm_I_wI, if_neg (fun q => hb q.1)]; exact h.1 b j hb, h.2⟩
theorem bk_fr.wL {a : Nat} {σ τ : hm_M} (h : bk_fr a σ τ) (k : Nat) (v : Int64) : bk_fr a σ (hm_wL τ (a + 1) k v) := ⟨h.1, fun b j hb => by rw [hm_L_wL, if_neg (fun q => hb q.1)]; exact h.2.1 b j hb, h.2.2⟩
set_option maxRecDepth 100000 in
theorem k1_put (hs : hm_S a = (1, 0)) (hs1 : hm_S (a + 1) = (11, cap)) (ha : a + 1 < hm_n σ) (hr : hm_R σ a 0 = some (a + 1)) (hcap : cap ≤ 64) {f : Nat} {q : List Int64} (hb : bk σ a cap f q) (v : Int64) : hm_Ct l yX1_put cX1_put 3 (some .boolean) 1 0 0 [.ref a, .long v] σ (fun r τ => (q.length = cap ∧ r = some (.int 0) ∧ τ = σ) ∨ (q.length < cap ∧ r = some (.int 1) ∧ bk τ a cap f (q ++ [v]) ∧ bk_fr a σ τ)) := by
  have hb0 := hb
  obtain ⟨b1, b2, b3, b4, b5⟩ := hb
  refine hm_startQ (ini := false) [.ref a, .long v, hm_u] (by decide) (by decide) rfl (Nat.le_of_ble_eq_true rfl) (fun Q hQ => ?_)
  refine hm_aload_n dX1_put_0 rfl ?_
  refine hm_callV lm_RX1_23 (k1_isFull l hs hs1 ha hr hcap hb0) rfl rfl hs rfl (by first | omega | (show a < hm_n σ; omega) | (show a + 1 < hm_n σ; omega)) (by decide) (by decide) (Nat.le_of_ble_eq_true rfl) dX1_put_1 ?_
  rintro _ t9 ⟨rfl, hh9⟩
  rw [hh9]
  clear hh9 t9
  refine hm_if_eq 9 dX1_put_4 (by decide) (fun h4 => ?_) (fun h4 => ?_)
  · skip
    rw [bI_0] at h4
    have h4 : ¬ q.length = cap := by simpa using h4
    refine hm_aload_n dX1_put_9 rfl ?_
    refine hm_getR lf_RX1_13 rfl hs (by first | omega | (show a < hm_n σ; omega) | (show a + 1 < hm_n σ; omega)) hr dX1_put_10 ?_
    refine hm_aload_n dX1_put_13 rfl ?_
    refine hm_aload_n dX1_put_14 rfl ?_
    refine hm_getI lf_RX1_27 rfl hs (by first | omega | (show a < hm_n σ; omega) | (show a + 1 < hm_n σ; omega)) dX1_put_15 ?_
    rw [b1]
    refine hm_aload_n dX1_put_18 rfl ?_
    refine hm_getI lf_RX1_19 rfl hs (by first | omega | (show a < hm_n σ; omega) | (show a + 1 < hm_n σ; omega)) dX1_put_19 ?_
    rw [b3]
    refine hm_iadd dX1_put_22 ?_
    rw [nI_add]
    refine hm_callV lm_RX1_30 (k1_wrap l hs hs1 ha hr hcap (i := f + q.length) (by omega)) rfl rfl hs rfl (by first | omega | (show a < hm_n σ; omega) | (show a + 1 < hm_n σ; omega)) (by decide) (by decide) (Nat.le_of_ble_eq_true rfl) dX1_put_23 ?_
    rintro _ t9 ⟨rfl, hh9⟩
    rw [hh9]
    clear hh9 t9
    refine hm_lload_n dX1_put_26 rfl ?_
    refine hm_last (wr cap (f + q.length)) hs1 (by first | omega | (show a < hm_n σ; omega) | (show a + 1 < hm_n σ; omega)) rfl (wr_lt (by omega)) (by omega) dX1_put_27 ?_
    refine hm_aload_n dX1_put_28 rfl ?_
    refine hm_dup dX1_put_29 rfl ?_
    refine hm_getI lf_RX1_19 rfl hs (by first | omega | (show a < hm_n σ; omega) | (show a + 1 < hm_n σ; omega)) dX1_put_30 ?_
    rw [show hm_I (hm_wL σ (a + 1) (wr cap (f + q.length)) v) a 2 = nI q.length from b3]
    refine hm_iconst dX1_put_33 (v := 1) (by decide) ?_
    refine hm_iadd dX1_put_34 ?_
    refine hm_putI lf_RX1_19 rfl rfl hs (by first | omega | (show a < hm_n σ; omega) | (show a + 1 < hm_n σ; omega)) dX1_put_35 ?_
    refine hm_iconst dX1_put_38 (v := 1) (by decide) ?_
    refine hm_zret dX1_put_39 rfl (by decide) (by decide) (by first | exact Or.inl rfl | exact Or.inr rfl | assumption) ?_
    refine hQ _ _ (Or.inr ⟨by omega, rfl, ⟨?_, b2, ?_, ?_, fun k x hk => ?_⟩, ((bk_fr.rf a σ).wL _ _).wI _ _⟩)
    rw [hm_I_wI, if_neg (by omega)]; exact b1
    rw [hm_I_wI, if_pos ⟨rfl, rfl⟩, List.length_append]; exact nI_1 _
    rw [List.length_append, List.length_singleton]; omega
    show hm_L (hm_wL _ _ _ _) (a + 1) _ = x
    rw [hm_L_wL]
    (by_cases e : k < q.length)
    rw [List.getElem?_append_left e] at hk
    rw [if_neg (fun q' => by have := q'.2; unfold wr at this; split at this <;> split at this <;> omega)]
    exact b5 k x hk
    rw [List.getElem?_append_right (by omega)] at hk
    have hz := (List.getElem?_eq_some_iff.mp hk).1
    rw [List.length_singleton] at hz
    (have ek : k = q.length := by omega)
    rw [ek, Nat.sub_self] at hk
    cases hk
    rw [ek, if_pos ⟨rfl, rfl⟩]
  · skip
    rw [bI_0] at h4
    have h4 : q.length = cap := by simpa using h4
    refine hm_iconst dX1_put_7 (v := 0) (by decide) ?_
    refine hm_zret dX1_put_8 rfl (by decide) (by decide) (by first | exact Or.inl rfl | exact Or.inr rfl | assumption) ?_
    exact hQ _ _ (Or.inl ⟨h4, rfl, rfl⟩)
set_option maxRecDepth 100000 in
theorem k1_take (hs : hm_S a = (1, 0)) (hs1 : hm_S (a + 1) = (11, cap)) (ha : a + 1 < hm_n σ) (hr : hm_R σ a 0 = some (a + 1)) (hcap : cap ≤ 64) {f : Nat} {v : Int64} {t : List Int64} (hb : bk σ a cap f (v :: t)) : hm_Ct l yX1_take cX1_take 3 (some .long) 1 0 0 [.ref a] σ (fun r τ => r = some (.long v) ∧ (∃ g, bk τ a cap g t) ∧ bk_fr a σ τ) := by
  obtain ⟨b1, b2, b3, b4, b5⟩ := hb
  rw [List.length_cons] at b3 b4
  have e0 : hm_L σ (a + 1) f = v := by have := b5 0 v rfl; unfold wr at this; rw [if_pos (by omega)] at this; simpa using this
  refine hm_startQ (ini := false) [.ref a, hm_u, hm_u] (by decide) (by decide) rfl (Nat.le_of_ble_eq_true rfl) (fun Q hQ => ?_)
  refine hm_aload_n dX1_take_0 rfl ?_
  refine hm_getI lf_RX1_19 rfl hs (by first | omega | (show a < hm_n σ; omega) | (show a + 1 < hm_n σ; omega)) dX1_take_1 ?_
  rw [b3]
  refine hm_if_ne 9 dX1_take_4 (by decide) (fun _ => ?_) (fun h4 => absurd h4 (nI_ne0 (by omega) (by omega)))
  refine hm_aload_n dX1_take_9 rfl ?_
  refine hm_getR lf_RX1_13 rfl hs (by first | omega | (show a < hm_n σ; omega) | (show a + 1 < hm_n σ; omega)) hr dX1_take_10 ?_
  refine hm_aload_n dX1_take_13 rfl ?_
  refine hm_getI lf_RX1_27 rfl hs (by first | omega | (show a < hm_n σ; omega) | (show a + 1 < hm_n σ; omega)) dX1_take_14 ?_
  rw [b1]
  refine hm_lald _ hs1 (by first | omega | (show a < hm_n σ; omega) | (show a + 1 < hm_n σ; omega)) rfl (by omega) (by omega) dX1_take_17 ?_
  rw [e0]
  refine hm_lstore_n dX1_take_18 (by decide) rfl ?_
  refine hm_aload_n dX1_take_19 rfl ?_
  refine hm_aload_n dX1_take_20 rfl ?_
  refine hm_aload_n dX1_take_21 rfl ?_
  refine hm_getI lf_RX1_27 rfl hs (by first | omega | (show a < hm_n σ; omega) | (show a + 1 < hm_n σ; omega)) dX1_take_22 ?_
  rw [b1]
  refine hm_iconst dX1_take_25 (v := 1) (by decide) ?_
  refine hm_iadd dX1_take_26 ?_
  rw [nI_1]
  refine hm_callV lm_RX1_30 (k1_wrap l hs hs1 ha hr hcap (i := f + 1) (by omega)) rfl rfl hs rfl (by first | omega | (show a < hm_n σ; omega) | (show a + 1 < hm_n σ; omega)) (by decide) (by decide) (Nat.le_of_ble_eq_true rfl) dX1_take_27 ?_
  rintro _ t9 ⟨rfl, hh9⟩
  rw [hh9]
  clear hh9 t9
  refine hm_putI lf_RX1_27 rfl rfl hs (by first | omega | (show a < hm_n σ; omega) | (show a + 1 < hm_n σ; omega)) dX1_take_30 ?_
  refine hm_aload_n dX1_take_33 rfl ?_
  refine hm_dup dX1_take_34 rfl ?_
  refine hm_getI lf_RX1_19 rfl hs (by first | omega | (show a < hm_n σ; omega) | (show a + 1 < hm_n σ; omega)) dX1_take_35 ?_
  rw [show hm_I (hm_wI σ a 1 (nI (wr cap (f + 1)))) a 2 = nI (t.length + 1) by rw [hm_I_wI, if_neg (by omega)]; exact b3]
  refine hm_iconst dX1_take_38 (v := 1) (by decide) ?_
  refine hm_isub dX1_take_39 ?_
  refine hm_putI lf_RX1_19 rfl rfl hs (by first | omega | (show a < hm_n σ; omega) | (show a + 1 < hm_n σ; omega)) dX1_take_40 ?_
  refine hm_lload_n dX1_take_43 rfl ?_
  refine hm_lret dX1_take_44 rfl (by decide) (by decide) ?_
  refine hQ _ _ ⟨rfl, ⟨wr cap (f + 1), ?_, wr_lt (by omega), ?_, by omega, fun k x hk => ?_⟩, ((bk_fr.rf a σ).wI _ _).wI _ _⟩
  rw [hm_I_wI, if_neg (by omega), hm_I_wI, if_pos ⟨rfl, rfl⟩]
  rw [hm_I_wI, if_pos ⟨rfl, rfl⟩]; exact nI_pred _
  (have hk2 := b5 (k + 1) x (by simpa using hk))
  have hkl := (List.getElem?_eq_some_iff.mp hk).1
  rw [show wr cap (wr cap (f + 1) + k) = wr cap (f + (k + 1)) by unfold wr; split <;> split <;> split <;> omega]
  exact hk2
set_option maxRecDepth 100000 in
theorem k1_at (hs : hm_S a = (1, 0)) (hs1 : hm_S (a + 1) = (11, cap)) (ha : a + 1 < hm_n σ) (hr : hm_R σ a 0 = some (a + 1)) (hcap : cap ≤ 64) {f : Nat} {q : List Int64} (hb : bk σ a cap f q) (i : Int32) : hm_Ct l yX1_at cX1_at 2 (some .long) 1 0 0 [.ref a, .int i] σ (fun r τ => r = some (.long (if pIn i q.length then q.getD i.toNatClampNeg 0 else 0)) ∧ τ = σ) := by
  obtain ⟨b1, b2, b3, b4, b5⟩ := hb
  refine hm_startQ (ini := false) [.ref a, .int i] (by decide) (by decide) rfl (Nat.le_of_ble_eq_true rfl) (fun Q hQ => ?_)
  refine hm_iload_n dX1_at_0 rfl ?_
  refine hm_if_lt 30 dX1_at_1 (by decide) (fun h1 => ?_) (fun h1 => ?_)
  · skip
    have e : (if pIn i q.length then q.getD i.toNatClampNeg 0 else 0) = 0 := by rw [if_neg]; unfold pIn; rw [decide_eq_false (Int32.not_le.mpr h1)]; simp
    refine hm_lconst dX1_at_30 (v := 0) (by decide) ?_
    refine hm_lret dX1_at_31 rfl (by decide) (by decide) ?_
    exact hQ _ _ ⟨by rw [e], rfl⟩
  · skip
    refine hm_iload_n dX1_at_4 rfl ?_
    refine hm_aload_n dX1_at_5 rfl ?_
    refine hm_getI lf_RX1_19 rfl hs (by omega) dX1_at_6 ?_
    rw [b3]
    refine hm_icmp_ge 30 dX1_at_9 (by decide) (fun h9 => ?_) (fun h9 => ?_)
    · skip
      have e : (if pIn i q.length then q.getD i.toNatClampNeg 0 else 0) = 0 := by rw [if_neg]; unfold pIn; rw [decide_eq_false (Int32.not_lt.mpr h9)]; simp
      refine hm_lconst dX1_at_30 (v := 0) (by decide) ?_
      refine hm_lret dX1_at_31 rfl (by decide) (by decide) ?_
      exact hQ _ _ ⟨by rw [e], rfl⟩
    · skip
      have hp : pIn i q.length = true := by unfold pIn; rw [decide_eq_true (Int32.not_lt.mp h1), decide_eq_true (Int32.not_le.mp h9)]; rfl
      obtain ⟨k, hk, rfl⟩ := pIn_some (by omega) hp
      have hx : q[k]? = some q[k] := List.getElem?_eq_getElem hk
      have e : (if pIn (nI k) q.length then q.getD (nI k).toNatClampNeg 0 else 0) = q[k] := by rw [if_pos hp, nI_clamp (by omega)]; simp [List.getD_eq_getElem?_getD, hx]
      have g := b5 k _ hx
      refine hm_aload_n dX1_at_12 rfl ?_
      refine hm_getR lf_RX1_13 rfl hs (by omega) hr dX1_at_13 ?_
      refine hm_aload_n dX1_at_16 rfl ?_
      refine hm_aload_n dX1_at_17 rfl ?_
      refine hm_getI lf_RX1_27 rfl hs (by omega) dX1_at_18 ?_
      rw [b1]
      refine hm_iload_n dX1_at_21 rfl ?_
      refine hm_iadd dX1_at_22 ?_
      rw [nI_add]
      refine hm_callV lm_RX1_30 (k1_wrap l hs hs1 ha hr hcap (i := f + k) (by omega)) rfl rfl hs rfl (by omega) (by decide) (by decide) (Nat.le_of_ble_eq_true rfl) dX1_at_23 ?_
      rintro _ t9 ⟨rfl, hh9⟩
      rw [hh9]
      clear hh9 t9
      refine hm_lald (wr cap (f + k)) hs1 (by omega) rfl (wr_lt (by omega)) (by omega) dX1_at_26 ?_
      rw [g]
      refine hm_goto 31 dX1_at_27 (by decide) ?_
      refine hm_lret dX1_at_31 rfl (by decide) (by decide) ?_
      exact hQ _ _ ⟨by rw [e], rfl⟩
set_option maxRecDepth 100000 in
theorem k1_clear (hs : hm_S a = (1, 0)) (ha : a + 1 < hm_n σ) (hcap : 0 < cap) : hm_Ct l yX1_clear cX1_clear 1 none 0 0 0 [.ref a] σ (fun r τ => r = none ∧ bk τ a cap 0 [] ∧ bk_fr a σ τ) := by
  refine hm_startQ (ini := false) [.ref a] (by decide) (by decide) rfl (Nat.le_of_ble_eq_true rfl) (fun Q hQ => ?_)
  refine hm_aload_n dX1_clear_0 rfl ?_
  refine hm_iconst dX1_clear_1 (v := 0) (by decide) ?_
  refine hm_putI lf_RX1_27 rfl rfl hs (by first | omega | (show a < hm_n σ; omega)) dX1_clear_2 ?_
  refine hm_aload_n dX1_clear_5 rfl ?_
  refine hm_iconst dX1_clear_6 (v := 0) (by decide) ?_
  refine hm_putI lf_RX1_19 rfl rfl hs (by first | omega | (show a < hm_n σ; omega)) dX1_clear_7 ?_
  refine hm_vret dX1_clear_10 rfl (by decide) (by decide) ?_
  refine hQ _ _ ⟨rfl, ⟨?_, hcap, ?_, by simp, fun k v hv => by simp at hv⟩, ((bk_fr.rf a σ).wI _ _).wI _ _⟩
  rw [hm_I_wI, if_neg (by omega), hm_I_wI, if_pos ⟨rfl, rfl⟩]; rfl
  rw [hm_I_wI, if_pos ⟨rfl, rfl⟩]; rfl
end C1
