/-! the class's radio: what only reads -/
theorem pCnt_0 {f : Nat → Bool} : ∀ {n : Nat}, pCnt f n = 0 ↔ ∀ i, i < n → f i = false := by
  intro n
  induction n with
  | zero => exact ⟨fun _ i hi => absurd hi (by omega), fun _ => rfl⟩
  | succ n ih =>
    constructor
    · intro h i hi
      simp only [pCnt] at h
      by_cases e : i = n
      · subst e
        cases hf : f i
        · rfl
        · rw [hf] at h; simp at h
      · exact ih.mp (by omega) i (by omega)
    · intro h
      simp only [pCnt]
      rw [ih.mpr (fun i hi => h i (by omega)), h n (by omega)]
      rfl
theorem bc_one : ∀ a, a < 16 → ∀ b, b < 4 → ∀ x y : Bool, bcF ((if x then (1 : Int32) <<< (nI a &&& 31) else 0) ||| (if y then (1 : Int32) <<< (nI (16 + b) &&& 31) else 0)) = nI ((if x then 1 else 0) + (if y then 1 else 0)) := by decide +kernel
theorem bc_two (z : Int32) {a b : Nat} (ha : a < 16) (hb : b < 4) : bcF (z &&& ((1 : Int32) <<< (nI a &&& 31) ||| (1 : Int32) <<< (nI (16 + b) &&& 31))) = nI ((if bt z a then 1 else 0) + (if bt z (16 + b) then 1 else 0)) := by
  rw [← bc_one a ha b hb]
  congr 1
  refine b_ext fun i hi => ?_
  rw [b_and, b_or, b_or, bt_1 (by omega) hi, bt_1 (by omega) hi]
  have e1 : ∀ (x : Bool) (c : Nat), c < 32 → bt (if x then (1 : Int32) <<< (nI c &&& 31) else 0) i = (x && decide (i = c)) := by
    intro x c hc
    cases x
    · simp [b_0]
    · simp [bt_1 hc hi]
  rw [e1 _ _ (by omega), e1 _ _ (by omega)]
  by_cases h1 : i = a
  · subst h1
    have : ¬ i = 16 + b := by omega
    simp [this]
  · by_cases h2 : i = 16 + b
    · subst h2; simp [h1]
    · simp [h1, h2]
section C2
variable (l : Launch) {α : sA} {σ : hm_M}
set_option maxRecDepth 100000 in
theorem k3_hasCell (h : rC α σ) (c : Int32) : hm_Ct l yX3_hasCell cX3_hasCell 2 (some .boolean) 0 0 0 [.ref 1, .int c] σ (fun r τ => r = some (.int (bI (pIn c (nCell α)))) ∧ τ = σ) := by
  have hN := h.N
  have e0 : hm_I σ 1 0 = nI (nCell α) := h.n 0 0 (by show 0 < 1; decide)
  refine hm_startQ (ini := false) [.ref 1, .int c] (by decide) (by decide) rfl (Nat.le_of_ble_eq_true rfl) (fun Q hQ => ?_)
  refine hm_iload_n dX3_hasCell_0 rfl ?_
  refine hm_if_lt 16 dX3_hasCell_1 (by decide) (fun h1 => ?_) (fun h1 => ?_)
  · skip
    have e : (0 : Int32) = bI (pIn c (nCell α)) := by unfold pIn; rw [decide_eq_false (Int32.not_le.mpr h1)]; rfl
    refine hm_iconst dX3_hasCell_16 (v := 0) (by decide) ?_
    refine hm_zret dX3_hasCell_17 rfl (by decide) (by decide) (by first | exact Or.inl rfl | exact Or.inr rfl | assumption) ?_
    exact hQ _ _ ⟨congrArg (fun z => some (Value.int z)) e, rfl⟩
  · skip
    refine hm_iload_n dX3_hasCell_4 rfl ?_
    refine hm_aload_n dX3_hasCell_5 rfl ?_
    refine hm_getI lf_RX3_37 rfl rfl (by first | exact Nat.lt_of_lt_of_le (by decide) hN | assumption | (simp only [hm_n_wI, hm_n_wL, hm_n_wR, hm_n_g] at *; omega)) dX3_hasCell_6 ?_
    rw [e0]
    refine hm_icmp_ge 16 dX3_hasCell_9 (by decide) (fun h9 => ?_) (fun h9 => ?_)
    · skip
      have e : (0 : Int32) = bI (pIn c (nCell α)) := by unfold pIn; rw [decide_eq_false (Int32.not_lt.mpr h9), Bool.and_false]; rfl
      refine hm_iconst dX3_hasCell_16 (v := 0) (by decide) ?_
      refine hm_zret dX3_hasCell_17 rfl (by decide) (by decide) (by first | exact Or.inl rfl | exact Or.inr rfl | assumption) ?_
      exact hQ _ _ ⟨congrArg (fun z => some (Value.int z)) e, rfl⟩
    · skip
      have e : (1 : Int32) = bI (pIn c (nCell α)) := by unfold pIn; rw [decide_eq_true (Int32.not_lt.mp h1), decide_eq_true (Int32.not_le.mp h9)]; rfl
      refine hm_iconst dX3_hasCell_12 (v := 1) (by decide) ?_
      refine hm_goto 17 dX3_hasCell_13 (by decide) ?_
      refine hm_zret dX3_hasCell_17 rfl (by decide) (by decide) (by first | exact Or.inl rfl | exact Or.inr rfl | assumption) ?_
      exact hQ _ _ ⟨congrArg (fun z => some (Value.int z)) e, rfl⟩
set_option maxRecDepth 100000 in
theorem k3_hasPortable (h : rC α σ) (c : Int32) : hm_Ct l yX3_hasPortable cX3_hasPortable 2 (some .boolean) 0 0 0 [.ref 1, .int c] σ (fun r τ => r = some (.int (bI (pIn c (nPort α)))) ∧ τ = σ) := by
  have hN := h.N
  have e0 : hm_I σ 1 1 = nI (nPort α) := h.n 1 0 (by show 0 < 1; decide)
  refine hm_startQ (ini := false) [.ref 1, .int c] (by decide) (by decide) rfl (Nat.le_of_ble_eq_true rfl) (fun Q hQ => ?_)
  refine hm_iload_n dX3_hasPortable_0 rfl ?_
  refine hm_if_lt 16 dX3_hasPortable_1 (by decide) (fun h1 => ?_) (fun h1 => ?_)
  · skip
    have e : (0 : Int32) = bI (pIn c (nPort α)) := by unfold pIn; rw [decide_eq_false (Int32.not_le.mpr h1)]; rfl
    refine hm_iconst dX3_hasPortable_16 (v := 0) (by decide) ?_
    refine hm_zret dX3_hasPortable_17 rfl (by decide) (by decide) (by first | exact Or.inl rfl | exact Or.inr rfl | assumption) ?_
    exact hQ _ _ ⟨congrArg (fun z => some (Value.int z)) e, rfl⟩
  · skip
    refine hm_iload_n dX3_hasPortable_4 rfl ?_
    refine hm_aload_n dX3_hasPortable_5 rfl ?_
    refine hm_getI lf_RX3_41 rfl rfl (by first | exact Nat.lt_of_lt_of_le (by decide) hN | assumption | (simp only [hm_n_wI, hm_n_wL, hm_n_wR, hm_n_g] at *; omega)) dX3_hasPortable_6 ?_
    rw [e0]
    refine hm_icmp_ge 16 dX3_hasPortable_9 (by decide) (fun h9 => ?_) (fun h9 => ?_)
    · skip
      have e : (0 : Int32) = bI (pIn c (nPort α)) := by unfold pIn; rw [decide_eq_false (Int32.not_lt.mpr h9), Bool.and_false]; rfl
      refine hm_iconst dX3_hasPortable_16 (v := 0) (by decide) ?_
      refine hm_zret dX3_hasPortable_17 rfl (by decide) (by decide) (by first | exact Or.inl rfl | exact Or.inr rfl | assumption) ?_
      exact hQ _ _ ⟨congrArg (fun z => some (Value.int z)) e, rfl⟩
    · skip
      have e : (1 : Int32) = bI (pIn c (nPort α)) := by unfold pIn; rw [decide_eq_true (Int32.not_lt.mp h1), decide_eq_true (Int32.not_le.mp h9)]; rfl
      refine hm_iconst dX3_hasPortable_12 (v := 1) (by decide) ?_
      refine hm_goto 17 dX3_hasPortable_13 (by decide) ?_
      refine hm_zret dX3_hasPortable_17 rfl (by decide) (by decide) (by first | exact Or.inl rfl | exact Or.inr rfl | assumption) ?_
      exact hQ _ _ ⟨congrArg (fun z => some (Value.int z)) e, rfl⟩
set_option maxRecDepth 100000 in
theorem k3_reachesPlace (h : rC α σ) (w : sW α) {c pl : Nat} (hc : c < 32) (hp : pl < 16) : hm_Ct l yX3_reachesPlace cX3_reachesPlace 3 (some .boolean) 0 0 0 [.ref 1, .int (nI c), .int (nI pl)] σ (fun r τ => r = some (.int (bI (pReach α c pl))) ∧ τ = σ) := by
  have hN := h.N
  have hA := h.r.2.2
  have hrc := w.rc pl
  have e0 : hm_I σ 4 pl = nI (aN α 4 pl) := h.n 4 pl hp
  have q0 : nI (aN α 4 pl) &&& ((1 : Int32) <<< (nI c &&& 31)) = 0 ↔ pReach α c pl = false := by rw [bt_ask _ hc, bt_nI (by omega) c hc]; rfl
  refine hm_startQ (ini := false) [.ref 1, .int (nI c), .int (nI pl)] (by decide) (by decide) rfl (Nat.le_of_ble_eq_true rfl) (fun Q hQ => ?_)
  refine hm_aload_n dX3_reachesPlace_0 rfl ?_
  refine hm_getR lf_RX3_18 rfl rfl (by first | exact Nat.lt_of_lt_of_le (by decide) hN | assumption | (simp only [hm_n_wI, hm_n_wL, hm_n_wR, hm_n_g] at *; omega)) (hA 6) dX3_reachesPlace_1 ?_
  refine hm_iload_n dX3_reachesPlace_4 rfl ?_
  refine hm_iald _ rfl (by first | exact Nat.lt_of_lt_of_le (by decide) hN | assumption | (simp only [hm_n_wI, hm_n_wL, hm_n_wR, hm_n_g] at *; omega)) rfl (by omega) (by decide) dX3_reachesPlace_5 ?_
  rw [e0]
  refine hm_iconst dX3_reachesPlace_6 (v := 1) (by decide) ?_
  refine hm_iload_n dX3_reachesPlace_7 rfl ?_
  refine hm_ishl dX3_reachesPlace_8 ?_
  refine hm_iand dX3_reachesPlace_9 ?_
  refine hm_if_eq 17 dX3_reachesPlace_10 (by decide) (fun h10 => ?_) (fun h10 => ?_)
  · skip
    rw [q0] at h10
    have e : (0 : Int32) = bI (pReach α c pl) := by rw [h10]; rfl
    refine hm_iconst dX3_reachesPlace_17 (v := 0) (by decide) ?_
    refine hm_zret dX3_reachesPlace_18 rfl (by decide) (by decide) (by first | exact Or.inl rfl | exact Or.inr rfl | assumption) ?_
    exact hQ _ _ ⟨congrArg (fun z => some (Value.int z)) e, rfl⟩
  · skip
    rw [q0] at h10
    have e : (1 : Int32) = bI (pReach α c pl) := by rw [b_nf h10]; rfl
    refine hm_iconst dX3_reachesPlace_13 (v := 1) (by decide) ?_
    refine hm_goto 18 dX3_reachesPlace_14 (by decide) ?_
    refine hm_zret dX3_reachesPlace_18 rfl (by decide) (by decide) (by first | exact Or.inl rfl | exact Or.inr rfl | assumption) ?_
    exact hQ _ _ ⟨congrArg (fun z => some (Value.int z)) e, rfl⟩
set_option maxRecDepth 100000 in
theorem k3_comesDown (h : rC α σ) (w : sW α) {c pl ch : Nat} (hc : c < 4) (hp : pl < 16) (hch : ch < 120) : hm_Ct l yX3_comesDown cX3_comesDown 5 (some .boolean) 1 0 0 [.ref 1, .int (nI c), .int (nI pl), .int (nI ch)] σ (fun r τ => r = some (.int (bI (pHAt α pl c ch))) ∧ τ = σ) := by
  have hN := h.N
  have hA := h.r.2.2
  have h4 := w.c4
  have hrc := w.rc pl
  have e0 : hm_I σ 4 pl = nI (aN α 4 pl) := h.n 4 pl hp
  have q1 : hm_I σ 5 ch &&& ((1 : Int32) <<< (nI pl &&& 31)) = 0 ↔ aN α 5 (120 * pl + ch) = 0 := by
    rw [bt_ask _ (by omega), h.z.1 pl ch (by omega) hch]
    simp
  have q2 : (hm_I σ 6 ch &&& nI (aN α 4 pl)) &&& (((1 : Int32) <<< (nI c &&& 31)) ^^^ (-1)) = 0 ↔ pOSend α c pl ch = 0 := by
    unfold pOSend
    rw [bt_ne0, pCnt_0]
    have hb : ∀ d, d < 32 → bt ((hm_I σ 6 ch &&& nI (aN α 4 pl)) &&& (((1 : Int32) <<< (nI c &&& 31)) ^^^ (-1))) d = ((decide (d < nCell α) && pSends α d ch) && pReach α d pl && !decide (d = c)) := fun d hd => by
      rw [b_and, b_and, h.z.2.1 d ch hd hch, bt_nI (by omega) d hd, bt_not _ hd, bt_1 (by omega) hd]; rfl
    constructor
    · intro hz d hd
      have := hz d (by omega)
      rw [hb d (by omega), decide_eq_true hd] at this
      by_cases e : d = c <;> simp_all
      cases hs : pSends α d ch <;> simp_all
    · intro hz d hd
      rw [hb d hd]
      by_cases e1 : d < nCell α
      · have := hz d e1
        by_cases e : d = c <;> simp_all
        cases hs : pSends α d ch <;> cases hr : pReach α d pl <;> simp_all
      · simp [e1]
  refine hm_startQ (ini := false) [.ref 1, .int (nI c), .int (nI pl), .int (nI ch), hm_u] (by decide) (by decide) rfl (Nat.le_of_ble_eq_true rfl) (fun Q hQ => ?_)
  refine hm_aload_n dX3_comesDown_0 rfl ?_
  refine hm_getR lf_RX3_24 rfl rfl (by first | exact Nat.lt_of_lt_of_le (by decide) hN | assumption | (simp only [hm_n_wI, hm_n_wL, hm_n_wR, hm_n_g] at *; omega)) (hA 8) dX3_comesDown_1 ?_
  refine hm_iload_n dX3_comesDown_4 rfl ?_
  refine hm_iald _ rfl (by first | exact Nat.lt_of_lt_of_le (by decide) hN | assumption | (simp only [hm_n_wI, hm_n_wL, hm_n_wR, hm_n_g] at *; omega)) rfl (by omega) (by decide) dX3_comesDown_5 ?_
  refine hm_aload_n dX3_comesDown_6 rfl ?_
  refine hm_getR lf_RX3_18 rfl rfl (by first | exact Nat.lt_of_lt_of_le (by decide) hN | assumption | (simp only [hm_n_wI, hm_n_wL, hm_n_wR, hm_n_g] at *; omega)) (hA 6) dX3_comesDown_7 ?_
  refine hm_iload_n dX3_comesDown_10 rfl ?_
  refine hm_iald _ rfl (by first | exact Nat.lt_of_lt_of_le (by decide) hN | assumption | (simp only [hm_n_wI, hm_n_wL, hm_n_wR, hm_n_g] at *; omega)) rfl (by omega) (by decide) dX3_comesDown_11 ?_
  rw [e0]
  refine hm_iand dX3_comesDown_12 ?_
  refine hm_iconst dX3_comesDown_13 (v := 1) (by decide) ?_
  refine hm_iload_n dX3_comesDown_14 rfl ?_
  refine hm_ishl dX3_comesDown_15 ?_
  refine hm_iconst dX3_comesDown_16 (v := -1) (by decide) ?_
  refine hm_ixor dX3_comesDown_17 ?_
  refine hm_iand dX3_comesDown_18 ?_
  refine hm_istore dX3_comesDown_19 (by decide) rfl ?_
  refine hm_aload_n dX3_comesDown_21 rfl ?_
  refine hm_iload_n dX3_comesDown_22 rfl ?_
  refine hm_iload_n dX3_comesDown_23 rfl ?_
  refine hm_callV lm_RX3_44 (k3_reachesPlace l h w (by omega) hp) rfl rfl rfl rfl (by first | exact Nat.lt_of_lt_of_le (by decide) hN | assumption | (simp only [hm_n_wI, hm_n_wL, hm_n_wR, hm_n_g] at *; omega)) (by decide) (by decide) (Nat.le_of_ble_eq_true rfl) dX3_comesDown_24 ?_
  rintro _ t9 ⟨rfl, hh9⟩
  rw [hh9]
  clear hh9 t9
  refine hm_if_eq 52 dX3_comesDown_27 (by decide) (fun h27 => ?_) (fun h27 => ?_)
  · skip
    rw [bI_0] at h27
    have e : (0 : Int32) = bI (pHAt α pl c ch) := by unfold pHAt; rw [h27]; rfl
    refine hm_iconst dX3_comesDown_52 (v := 0) (by decide) ?_
    refine hm_zret dX3_comesDown_53 rfl (by decide) (by decide) (by first | exact Or.inl rfl | exact Or.inr rfl | assumption) ?_
    exact hQ _ _ ⟨congrArg (fun z => some (Value.int z)) e, rfl⟩
  · skip
    rw [bI_0] at h27
    refine hm_aload_n dX3_comesDown_30 rfl ?_
    refine hm_getR lf_RX3_21 rfl rfl (by first | exact Nat.lt_of_lt_of_le (by decide) hN | assumption | (simp only [hm_n_wI, hm_n_wL, hm_n_wR, hm_n_g] at *; omega)) (hA 7) dX3_comesDown_31 ?_
    refine hm_iload_n dX3_comesDown_34 rfl ?_
    refine hm_iald _ rfl (by first | exact Nat.lt_of_lt_of_le (by decide) hN | assumption | (simp only [hm_n_wI, hm_n_wL, hm_n_wR, hm_n_g] at *; omega)) rfl (by omega) (by decide) dX3_comesDown_35 ?_
    refine hm_iconst dX3_comesDown_36 (v := 1) (by decide) ?_
    refine hm_iload_n dX3_comesDown_37 rfl ?_
    refine hm_ishl dX3_comesDown_38 ?_
    refine hm_iand dX3_comesDown_39 ?_
    refine hm_if_ne 52 dX3_comesDown_40 (by decide) (fun h40 => ?_) (fun h40 => ?_)
    · skip
      rw [q1] at h40
      have e : (0 : Int32) = bI (pHAt α pl c ch) := by unfold pHAt; rw [decide_eq_false h40]; simp [bI]
      refine hm_iconst dX3_comesDown_52 (v := 0) (by decide) ?_
      refine hm_zret dX3_comesDown_53 rfl (by decide) (by decide) (by first | exact Or.inl rfl | exact Or.inr rfl | assumption) ?_
      exact hQ _ _ ⟨congrArg (fun z => some (Value.int z)) e, rfl⟩
    · skip
      rw [q1] at h40
      refine hm_iload dX3_comesDown_43 rfl ?_
      refine hm_if_ne 52 dX3_comesDown_45 (by decide) (fun h45 => ?_) (fun h45 => ?_)
      · skip
        rw [q2] at h45
        have e : (0 : Int32) = bI (pHAt α pl c ch) := by unfold pHAt; rw [decide_eq_false h45]; simp [bI]
        refine hm_iconst dX3_comesDown_52 (v := 0) (by decide) ?_
        refine hm_zret dX3_comesDown_53 rfl (by decide) (by decide) (by first | exact Or.inl rfl | exact Or.inr rfl | assumption) ?_
        exact hQ _ _ ⟨congrArg (fun z => some (Value.int z)) e, rfl⟩
      · skip
        rw [q2] at h45
        have e : (1 : Int32) = bI (pHAt α pl c ch) := by unfold pHAt; rw [b_nf h27, decide_eq_true h40, decide_eq_true h45]; rfl
        refine hm_iconst dX3_comesDown_48 (v := 1) (by decide) ?_
        refine hm_goto 53 dX3_comesDown_49 (by decide) ?_
        refine hm_zret dX3_comesDown_53 rfl (by decide) (by decide) (by first | exact Or.inl rfl | exact Or.inr rfl | assumption) ?_
        exact hQ _ _ ⟨congrArg (fun z => some (Value.int z)) e, rfl⟩
/-- the others that a cell hears, as bits -/
def opM (α : sA) (p c : Nat) (m : Int32) : Prop := ∀ q, q < 32 → bt m q = (decide (q < nPort α) && (decide (q ≠ p) && pReach α c (aN α 3 q)))
set_option maxRecDepth 100000 in
theorem k3_otherPortables (h : rC α σ) (w : sW α) {p c : Nat} (hpp : p < 8) (hc : c < 4) : hm_Ct l yX3_otherPortables cX3_otherPortables 5 (some .int) 1 0 0 [.ref 1, .int (nI p), .int (nI c)] σ (fun r τ => ∃ m, r = some (.int m) ∧ opM α p c m ∧ τ = σ) := by
  have hN := h.N
  have hA := h.r.2.2
  have h8 := w.p8
  have e0 : hm_I σ 1 1 = nI (nPort α) := h.n 1 0 (by show 0 < 1; decide)
  refine hm_startQ (ini := false) [.ref 1, .int (nI p), .int (nI c), hm_u, hm_u] (by decide) (by decide) rfl (Nat.le_of_ble_eq_true rfl) (fun Q hQ => ?_)
  have hl : ∀ (k q : Nat) (m u : Int32), q + k = nPort α → u = nI q → (∀ j, j < 32 → bt m j = (decide (j < q) && (decide (j ≠ p) && pReach α c (aN α 3 j)))) → hm_V l RX3 cX3_otherPortables 5 (some .int) false (hm_rm 1 0 0) 0 0 Q 0 0 5 [.ref 1, .int (nI p), .int (nI c), .int m, .int u] [] σ := by
    intro k
    induction k with
    | zero =>
      intro q m u hk hu hm
      subst hu
      obtain rfl : q = nPort α := by omega
      refine hm_iload dX3_otherPortables_5 rfl ?_
      refine hm_aload_n dX3_otherPortables_7 rfl ?_
      refine hm_getI lf_RX3_41 rfl rfl (by first | exact Nat.lt_of_lt_of_le (by decide) hN | assumption | (simp only [hm_n_wI, hm_n_wL, hm_n_wR, hm_n_g] at *; omega)) dX3_otherPortables_8 ?_
      rw [e0]
      refine hm_icmp_ge 48 dX3_otherPortables_11 (by decide) (fun _ => ?_) (fun h11 => absurd (nI_le (by omega) (by omega)) h11)
      refine hm_iload_n dX3_otherPortables_48 rfl ?_
      refine hm_iret dX3_otherPortables_49 rfl (by decide) (by decide) ?_
      exact hQ _ _ ⟨m, rfl, hm, rfl⟩
    | succ k ih =>
      intro q m u hk hu hm
      subst hu
      have q2 : nI q = nI p ↔ q = p := nI_eq (by omega) (by omega)
      have e9 : hm_I σ 3 q = nI (aN α 3 q) := h.n 3 q (by show q < 8; omega)
      have hno : (decide (q ≠ p) && pReach α c (aN α 3 q)) = false → ∀ j, j < 32 → bt m j = (decide (j < q + 1) && (decide (j ≠ p) && pReach α c (aN α 3 j))) := fun hz j hj => by
        rw [hm j hj]
        by_cases e : j = q
        · subst e; rw [hz]; simp
        · rw [show decide (j < q + 1) = decide (j < q) by simp; omega]
      have hyes : (decide (q ≠ p) && pReach α c (aN α 3 q)) = true → ∀ j, j < 32 → bt (m ||| ((1 : Int32) <<< (nI q &&& 31))) j = (decide (j < q + 1) && (decide (j ≠ p) && pReach α c (aN α 3 j))) := fun hz j hj => by
        rw [b_or, hm j hj, bt_1 (by omega) hj]
        by_cases e : j = q
        · subst e; rw [hz]; simp
        · rw [show decide (j < q + 1) = decide (j < q) by simp; omega, decide_eq_false e]; simp
      refine hm_iload dX3_otherPortables_5 rfl ?_
      refine hm_aload_n dX3_otherPortables_7 rfl ?_
      refine hm_getI lf_RX3_41 rfl rfl (by first | exact Nat.lt_of_lt_of_le (by decide) hN | assumption | (simp only [hm_n_wI, hm_n_wL, hm_n_wR, hm_n_g] at *; omega)) dX3_otherPortables_8 ?_
      rw [e0]
      refine hm_icmp_ge 48 dX3_otherPortables_11 (by decide) (fun h11 => absurd h11 (nI_ge (by omega) (by omega))) (fun _ => ?_)
      refine hm_iload dX3_otherPortables_14 rfl ?_
      refine hm_iload_n dX3_otherPortables_16 rfl ?_
      refine hm_icmp_eq 42 dX3_otherPortables_17 (by decide) (fun h17 => ?_) (fun h17 => ?_)
      · skip
        rw [q2] at h17
        have hm2 := hno (by simp [h17])
        refine hm_iinc dX3_otherPortables_42 rfl _ rfl (by decide) rfl ?_
        refine hm_goto 5 dX3_otherPortables_45 (by decide) ?_
        exact ih (q + 1) _ _ (by omega) (hm_inc q) hm2
      · skip
        rw [q2] at h17
        refine hm_aload_n dX3_otherPortables_20 rfl ?_
        refine hm_iload_n dX3_otherPortables_21 rfl ?_
        refine hm_aload_n dX3_otherPortables_22 rfl ?_
        refine hm_getR lf_RX3_15 rfl rfl (by first | exact Nat.lt_of_lt_of_le (by decide) hN | assumption | (simp only [hm_n_wI, hm_n_wL, hm_n_wR, hm_n_g] at *; omega)) (hA 5) dX3_otherPortables_23 ?_
        refine hm_iload dX3_otherPortables_26 rfl ?_
        refine hm_iald _ rfl (by first | exact Nat.lt_of_lt_of_le (by decide) hN | assumption | (simp only [hm_n_wI, hm_n_wL, hm_n_wR, hm_n_g] at *; omega)) rfl (by omega) (by decide) dX3_otherPortables_28 ?_
        rw [e9]
        refine hm_callV lm_RX3_44 (k3_reachesPlace l h w (by omega) (w.pl q)) rfl rfl rfl rfl (by first | exact Nat.lt_of_lt_of_le (by decide) hN | assumption | (simp only [hm_n_wI, hm_n_wL, hm_n_wR, hm_n_g] at *; omega)) (by decide) (by decide) (Nat.le_of_ble_eq_true rfl) dX3_otherPortables_29 ?_
        rintro _ t9 ⟨rfl, hh9⟩
        rw [hh9]
        clear hh9 t9
        refine hm_if_eq 42 dX3_otherPortables_32 (by decide) (fun h32 => ?_) (fun h32 => ?_)
        · skip
          rw [bI_0] at h32
          have hm2 := hno (by simp [h32])
          refine hm_iinc dX3_otherPortables_42 rfl _ rfl (by decide) rfl ?_
          refine hm_goto 5 dX3_otherPortables_45 (by decide) ?_
          exact ih (q + 1) _ _ (by omega) (hm_inc q) hm2
        · skip
          rw [bI_0] at h32
          have hm2 := hyes (by simp [h17, b_nf h32])
          refine hm_iload_n dX3_otherPortables_35 rfl ?_
          refine hm_iconst dX3_otherPortables_36 (v := 1) (by decide) ?_
          refine hm_iload dX3_otherPortables_37 rfl ?_
          refine hm_ishl dX3_otherPortables_39 ?_
          refine hm_ior dX3_otherPortables_40 ?_
          refine hm_istore_n dX3_otherPortables_41 (by decide) rfl ?_
          refine hm_iinc dX3_otherPortables_42 rfl _ rfl (by decide) rfl ?_
          refine hm_goto 5 dX3_otherPortables_45 (by decide) ?_
          exact ih (q + 1) _ _ (by omega) (hm_inc q) hm2
  refine hm_iconst dX3_otherPortables_0 (v := 0) (by decide) ?_
  refine hm_istore_n dX3_otherPortables_1 (by decide) rfl ?_
  refine hm_iconst dX3_otherPortables_2 (v := 0) (by decide) ?_
  refine hm_istore dX3_otherPortables_3 (by decide) rfl ?_
  exact hl _ 0 _ _ (Nat.zero_add _) rfl (fun j _ => by rw [b_0]; simp)
theorem op_talk {m : Int32} (h : rC α σ) (w : sW α) {p c ch : Nat} (hch : ch < 120) (hm : opM α p c m) (d : Nat) (hd : d < 32) : bt (hm_I σ 7 ch &&& m) d = (decide (d < nPort α) && (decide (d ≠ p) && (pTalks α d ch && pReach α c (aN α 3 d)))) := by
  rw [b_and, h.z.2.2 d ch hd hch, hm d hd]
  by_cases h1 : d < nPort α <;> by_cases h2 : d = p <;> cases pTalks α d ch <;> simp [h1, h2]
set_option maxRecDepth 100000 in
theorem k3_comesUp (h : rC α σ) (w : sW α) {p c ch : Nat} (hpp : p < 8) (hc : c < 4) (hch : ch < 120) : hm_Ct l yX3_comesUp cX3_comesUp 4 (some .boolean) 2 0 0 [.ref 1, .int (nI p), .int (nI c), .int (nI ch)] σ (fun r τ => r = some (.int (bI (pHBy α c p ch))) ∧ τ = σ) := by
  have hN := h.N
  have hA := h.r.2.2
  have h8 := w.p8
  have e0 : hm_I σ 3 p = nI (aN α 3 p) := h.n 3 p hpp
  have q1 : hm_I σ 5 ch &&& ((1 : Int32) <<< (nI (16 + c) &&& 31)) = 0 ↔ aN α 5 (120 * (16 + c) + ch) = 0 := by
    rw [bt_ask _ (by omega), h.z.1 (16 + c) ch (by omega) hch]
    simp
  have q2 : ∀ m, opM α p c m → (hm_I σ 7 ch &&& m = 0 ↔ pOTalk α p c ch = 0) := fun m hm => by
    unfold pOTalk
    rw [bt_ne0, pCnt_0]
    constructor
    · intro hz d hd
      have := hz d (by omega)
      rw [op_talk h w hch hm d (by omega), decide_eq_true hd] at this
      simpa using this
    · intro hz d hd
      rw [op_talk h w hch hm d hd]
      by_cases e1 : d < nPort α
      · rw [hz d e1]; simp
      · simp [e1]
  refine hm_startQ (ini := false) [.ref 1, .int (nI p), .int (nI c), .int (nI ch)] (by decide) (by decide) rfl (Nat.le_of_ble_eq_true rfl) (fun Q hQ => ?_)
  refine hm_aload_n dX3_comesUp_0 rfl ?_
  refine hm_iload_n dX3_comesUp_1 rfl ?_
  refine hm_aload_n dX3_comesUp_2 rfl ?_
  refine hm_getR lf_RX3_15 rfl rfl (by first | exact Nat.lt_of_lt_of_le (by decide) hN | assumption | (simp only [hm_n_wI, hm_n_wL, hm_n_wR, hm_n_g] at *; omega)) (hA 5) dX3_comesUp_3 ?_
  refine hm_iload_n dX3_comesUp_6 rfl ?_
  refine hm_iald _ rfl (by first | exact Nat.lt_of_lt_of_le (by decide) hN | assumption | (simp only [hm_n_wI, hm_n_wL, hm_n_wR, hm_n_g] at *; omega)) rfl (by omega) (by decide) dX3_comesUp_7 ?_
  rw [e0]
  refine hm_callV lm_RX3_44 (k3_reachesPlace l h w (by omega) (w.pl p)) rfl rfl rfl rfl (by first | exact Nat.lt_of_lt_of_le (by decide) hN | assumption | (simp only [hm_n_wI, hm_n_wL, hm_n_wR, hm_n_g] at *; omega)) (by decide) (by decide) (Nat.le_of_ble_eq_true rfl) dX3_comesUp_8 ?_
  rintro _ t9 ⟨rfl, hh9⟩
  rw [hh9]
  clear hh9 t9
  refine hm_if_eq 50 dX3_comesUp_11 (by decide) (fun h11 => ?_) (fun h11 => ?_)
  · skip
    rw [bI_0] at h11
    have e : (0 : Int32) = bI (pHBy α c p ch) := by unfold pHBy; rw [h11]; rfl
    refine hm_iconst dX3_comesUp_50 (v := 0) (by decide) ?_
    refine hm_zret dX3_comesUp_51 rfl (by decide) (by decide) (by first | exact Or.inl rfl | exact Or.inr rfl | assumption) ?_
    exact hQ _ _ ⟨congrArg (fun z => some (Value.int z)) e, rfl⟩
  · skip
    rw [bI_0] at h11
    refine hm_aload_n dX3_comesUp_14 rfl ?_
    refine hm_getR lf_RX3_21 rfl rfl (by first | exact Nat.lt_of_lt_of_le (by decide) hN | assumption | (simp only [hm_n_wI, hm_n_wL, hm_n_wR, hm_n_g] at *; omega)) (hA 7) dX3_comesUp_15 ?_
    refine hm_iload_n dX3_comesUp_18 rfl ?_
    refine hm_iald _ rfl (by first | exact Nat.lt_of_lt_of_le (by decide) hN | assumption | (simp only [hm_n_wI, hm_n_wL, hm_n_wR, hm_n_g] at *; omega)) rfl (by omega) (by decide) dX3_comesUp_19 ?_
    refine hm_iconst dX3_comesUp_20 (v := 1) (by decide) ?_
    refine hm_bipush dX3_comesUp_21 (v := 16) (by decide) ?_
    refine hm_iload_n dX3_comesUp_23 rfl ?_
    refine hm_iadd dX3_comesUp_24 ?_
    rw [show (16 : Int32) + nI c = nI (16 + c) from nI_add 16 c]
    refine hm_ishl dX3_comesUp_25 ?_
    refine hm_iand dX3_comesUp_26 ?_
    refine hm_if_ne 50 dX3_comesUp_27 (by decide) (fun h27 => ?_) (fun h27 => ?_)
    · skip
      rw [q1] at h27
      have e : (0 : Int32) = bI (pHBy α c p ch) := by unfold pHBy; rw [decide_eq_false h27]; simp [bI]
      refine hm_iconst dX3_comesUp_50 (v := 0) (by decide) ?_
      refine hm_zret dX3_comesUp_51 rfl (by decide) (by decide) (by first | exact Or.inl rfl | exact Or.inr rfl | assumption) ?_
      exact hQ _ _ ⟨congrArg (fun z => some (Value.int z)) e, rfl⟩
    · skip
      rw [q1] at h27
      refine hm_aload_n dX3_comesUp_30 rfl ?_
      refine hm_getR lf_RX3_27 rfl rfl (by first | exact Nat.lt_of_lt_of_le (by decide) hN | assumption | (simp only [hm_n_wI, hm_n_wL, hm_n_wR, hm_n_g] at *; omega)) (hA 9) dX3_comesUp_31 ?_
      refine hm_iload_n dX3_comesUp_34 rfl ?_
      refine hm_iald _ rfl (by first | exact Nat.lt_of_lt_of_le (by decide) hN | assumption | (simp only [hm_n_wI, hm_n_wL, hm_n_wR, hm_n_g] at *; omega)) rfl (by omega) (by decide) dX3_comesUp_35 ?_
      refine hm_aload_n dX3_comesUp_36 rfl ?_
      refine hm_iload_n dX3_comesUp_37 rfl ?_
      refine hm_iload_n dX3_comesUp_38 rfl ?_
      refine hm_callV lm_RX3_54 (k3_otherPortables l h w hpp hc) rfl rfl rfl rfl (by first | exact Nat.lt_of_lt_of_le (by decide) hN | assumption | (simp only [hm_n_wI, hm_n_wL, hm_n_wR, hm_n_g] at *; omega)) (by decide) (by decide) (Nat.le_of_ble_eq_true rfl) dX3_comesUp_39 ?_
      rintro _ t9 ⟨m, rfl, hm, hh9⟩
      rw [hh9]
      clear hh9 t9
      refine hm_iand dX3_comesUp_42 ?_
      refine hm_if_ne 50 dX3_comesUp_43 (by decide) (fun h43 => ?_) (fun h43 => ?_)
      · skip
        rw [q2 m hm] at h43
        have e : (0 : Int32) = bI (pHBy α c p ch) := by unfold pHBy; rw [decide_eq_false h43]; simp [bI]
        refine hm_iconst dX3_comesUp_50 (v := 0) (by decide) ?_
        refine hm_zret dX3_comesUp_51 rfl (by decide) (by decide) (by first | exact Or.inl rfl | exact Or.inr rfl | assumption) ?_
        exact hQ _ _ ⟨congrArg (fun z => some (Value.int z)) e, rfl⟩
      · skip
        rw [q2 m hm] at h43
        have e : (1 : Int32) = bI (pHBy α c p ch) := by unfold pHBy; rw [b_nf h11, decide_eq_true h27, decide_eq_true h43]; rfl
        refine hm_iconst dX3_comesUp_46 (v := 1) (by decide) ?_
        refine hm_goto 51 dX3_comesUp_47 (by decide) ?_
        refine hm_zret dX3_comesUp_51 rfl (by decide) (by decide) (by first | exact Or.inl rfl | exact Or.inr rfl | assumption) ?_
        exact hQ _ _ ⟨congrArg (fun z => some (Value.int z)) e, rfl⟩
set_option maxRecDepth 100000 in
theorem k3_noiseBits (h : rC α σ) {p c : Nat} (hpp : p < 8) (hc : c < 4) : hm_Ct l yX3_noiseBits cX3_noiseBits 3 (some .int) 0 0 0 [.ref 1, .int (nI p), .int (nI c)] σ (fun r τ => r = some (.int ((1 : Int32) <<< (nI (aN α 3 p) &&& 31) ||| (1 : Int32) <<< (nI (16 + c) &&& 31))) ∧ τ = σ) := by
  have hN := h.N
  have hA := h.r.2.2
  have e0 : hm_I σ 3 p = nI (aN α 3 p) := h.n 3 p hpp
  refine hm_startQ (ini := false) [.ref 1, .int (nI p), .int (nI c)] (by decide) (by decide) rfl (Nat.le_of_ble_eq_true rfl) (fun Q hQ => ?_)
  refine hm_iconst dX3_noiseBits_0 (v := 1) (by decide) ?_
  refine hm_aload_n dX3_noiseBits_1 rfl ?_
  refine hm_getR lf_RX3_15 rfl rfl (by first | exact Nat.lt_of_lt_of_le (by decide) hN | assumption | (simp only [hm_n_wI, hm_n_wL, hm_n_wR, hm_n_g] at *; omega)) (hA 5) dX3_noiseBits_2 ?_
  refine hm_iload_n dX3_noiseBits_5 rfl ?_
  refine hm_iald _ rfl (by first | exact Nat.lt_of_lt_of_le (by decide) hN | assumption | (simp only [hm_n_wI, hm_n_wL, hm_n_wR, hm_n_g] at *; omega)) rfl (by omega) (by decide) dX3_noiseBits_6 ?_
  rw [e0]
  refine hm_ishl dX3_noiseBits_7 ?_
  refine hm_iconst dX3_noiseBits_8 (v := 1) (by decide) ?_
  refine hm_bipush dX3_noiseBits_9 (v := 16) (by decide) ?_
  refine hm_iload_n dX3_noiseBits_11 rfl ?_
  refine hm_iadd dX3_noiseBits_12 ?_
  rw [show (16 : Int32) + nI c = nI (16 + c) from nI_add 16 c]
  refine hm_ishl dX3_noiseBits_13 ?_
  refine hm_ior dX3_noiseBits_14 ?_
  refine hm_iret dX3_noiseBits_15 rfl (by decide) (by decide) ?_
  exact hQ _ _ ⟨rfl, rfl⟩
set_option maxRecDepth 100000 in
theorem k3_otherCells (h : rC α σ) (w : sW α) {p c : Nat} (hpp : p < 8) (hc : c < 4) : hm_Ct l yX3_otherCells cX3_otherCells 3 (some .int) 0 0 0 [.ref 1, .int (nI p), .int (nI c)] σ (fun r τ => r = some (.int (nI (aN α 4 (aN α 3 p)) &&& (((1 : Int32) <<< (nI c &&& 31)) ^^^ (-1)))) ∧ τ = σ) := by
  have hN := h.N
  have hA := h.r.2.2
  have hpl := w.pl p
  have e0 : hm_I σ 3 p = nI (aN α 3 p) := h.n 3 p hpp
  have e1 : hm_I σ 4 (aN α 3 p) = nI (aN α 4 (aN α 3 p)) := h.n 4 _ hpl
  refine hm_startQ (ini := false) [.ref 1, .int (nI p), .int (nI c)] (by decide) (by decide) rfl (Nat.le_of_ble_eq_true rfl) (fun Q hQ => ?_)
  refine hm_aload_n dX3_otherCells_0 rfl ?_
  refine hm_getR lf_RX3_18 rfl rfl (by first | exact Nat.lt_of_lt_of_le (by decide) hN | assumption | (simp only [hm_n_wI, hm_n_wL, hm_n_wR, hm_n_g] at *; omega)) (hA 6) dX3_otherCells_1 ?_
  refine hm_aload_n dX3_otherCells_4 rfl ?_
  refine hm_getR lf_RX3_15 rfl rfl (by first | exact Nat.lt_of_lt_of_le (by decide) hN | assumption | (simp only [hm_n_wI, hm_n_wL, hm_n_wR, hm_n_g] at *; omega)) (hA 5) dX3_otherCells_5 ?_
  refine hm_iload_n dX3_otherCells_8 rfl ?_
  refine hm_iald _ rfl (by first | exact Nat.lt_of_lt_of_le (by decide) hN | assumption | (simp only [hm_n_wI, hm_n_wL, hm_n_wR, hm_n_g] at *; omega)) rfl (by omega) (by decide) dX3_otherCells_9 ?_
  rw [e0]
  refine hm_iald _ rfl (by first | exact Nat.lt_of_lt_of_le (by decide) hN | assumption | (simp only [hm_n_wI, hm_n_wL, hm_n_wR, hm_n_g] at *; omega)) rfl (by omega) (by decide) dX3_otherCells_10 ?_
  rw [e1]
  refine hm_iconst dX3_otherCells_11 (v := 1) (by decide) ?_
  refine hm_iload_n dX3_otherCells_12 rfl ?_
  refine hm_ishl dX3_otherCells_13 ?_
  refine hm_iconst dX3_otherCells_14 (v := -1) (by decide) ?_
  refine hm_ixor dX3_otherCells_15 ?_
  refine hm_iand dX3_otherCells_16 ?_
  refine hm_iret dX3_otherCells_17 rfl (by decide) (by decide) ?_
  exact hQ _ _ ⟨rfl, rfl⟩
set_option maxRecDepth 100000 in
theorem k3_levelOn (h : rC α σ) (w : sW α) {p c ch : Nat} (hpp : p < 8) (hc : c < 4) (hch : ch < 120) {m : Int32} (hm : opM α p c m) : hm_Ct l yX3_levelOn cX3_levelOn 5 (some .int) 1 0 0 [.ref 1, .int (nI ch), .int ((1 : Int32) <<< (nI (aN α 3 p) &&& 31) ||| (1 : Int32) <<< (nI (16 + c) &&& 31)), .int (nI (aN α 4 (aN α 3 p)) &&& (((1 : Int32) <<< (nI c &&& 31)) ^^^ (-1))), .int m] σ (fun r τ => r = some (.int (nI (pLev α p c ch))) ∧ τ = σ) := by
  have hN := h.N
  have hA := h.r.2.2
  have hpl := w.pl p
  have h4 := w.c4
  have h8 := w.p8
  have hrc := w.rc (aN α 3 p)
  have e1 := bc_two (hm_I σ 5 ch) hpl hc
  rw [h.z.1 _ ch (by omega) hch, h.z.1 _ ch (by omega) hch] at e1
  have e2 : bcF (hm_I σ 6 ch &&& (nI (aN α 4 (aN α 3 p)) &&& (((1 : Int32) <<< (nI c &&& 31)) ^^^ (-1)))) = nI (pOSend α c (aN α 3 p) ch) := by
    have hb : ∀ d, d < 32 → bt (hm_I σ 6 ch &&& (nI (aN α 4 (aN α 3 p)) &&& (((1 : Int32) <<< (nI c &&& 31)) ^^^ (-1)))) d = (decide (d < nCell α) && (decide (d ≠ c) && (pReach α d (aN α 3 p) && pSends α d ch))) := fun d hd => by
      rw [b_and, b_and, h.z.2.1 d ch hd hch, bt_nI (by omega) d hd, bt_not _ hd, bt_1 (by omega) hd, show (aN α 4 (aN α 3 p)).testBit d = pReach α d (aN α 3 p) from rfl]
      by_cases g1 : d < nCell α <;> by_cases g2 : d = c <;> cases pSends α d ch <;> cases pReach α d (aN α 3 p) <;> simp [g1, g2]
    rw [bcF_small (fun i hi h2 => by rw [hb i hi, decide_eq_false (by omega)]; rfl)]
    congr 1
    unfold pOSend
    rw [pCnt_ext (n := nCell α) (by omega) (fun i g1 g2 => by rw [hb i (by omega), decide_eq_false (by omega)]; rfl)]
    exact pCnt_congr _ fun i hi => by rw [hb i (by omega), decide_eq_true hi]; rfl
  have e3 : bcF (hm_I σ 7 ch &&& m) = nI (pOTalk α p c ch) := by
    have hb := op_talk h w hch hm
    rw [bcF_small (fun i hi h2 => by rw [hb i hi, decide_eq_false (by omega)]; rfl)]
    congr 1
    unfold pOTalk
    rw [pCnt_ext (n := nPort α) (by omega) (fun i g1 g2 => by rw [hb i (by omega), decide_eq_false (by omega)]; rfl)]
    exact pCnt_congr _ fun i hi => by rw [hb i (by omega), decide_eq_true hi]; rfl
  refine hm_startQ (ini := false) [.ref 1, .int (nI ch), .int ((1 : Int32) <<< (nI (aN α 3 p) &&& 31) ||| (1 : Int32) <<< (nI (16 + c) &&& 31)), .int (nI (aN α 4 (aN α 3 p)) &&& (((1 : Int32) <<< (nI c &&& 31)) ^^^ (-1))), .int m] (by decide) (by decide) rfl (Nat.le_of_ble_eq_true rfl) (fun Q hQ => ?_)
  refine hm_iconst dX3_levelOn_0 (v := 4) (by decide) ?_
  refine hm_aload_n dX3_levelOn_1 rfl ?_
  refine hm_getR lf_RX3_21 rfl rfl (by first | exact Nat.lt_of_lt_of_le (by decide) hN | assumption | (simp only [hm_n_wI, hm_n_wL, hm_n_wR, hm_n_g] at *; omega)) (hA 7) dX3_levelOn_2 ?_
  refine hm_iload_n dX3_levelOn_5 rfl ?_
  refine hm_iald _ rfl (by first | exact Nat.lt_of_lt_of_le (by decide) hN | assumption | (simp only [hm_n_wI, hm_n_wL, hm_n_wR, hm_n_g] at *; omega)) rfl (by omega) (by decide) dX3_levelOn_6 ?_
  refine hm_iload_n dX3_levelOn_7 rfl ?_
  refine hm_iand dX3_levelOn_8 ?_
  refine hm_callS lm_RX3_48 (cj_bitCount l _ _) rfl rfl (by decide) (by decide) (Nat.le_of_ble_eq_true rfl) dX3_levelOn_9 ?_
  rintro _ t9 ⟨rfl, hh9⟩
  rw [hh9]
  clear hh9 t9
  rw [e1]
  refine hm_imul dX3_levelOn_12 ?_
  refine hm_aload_n dX3_levelOn_13 rfl ?_
  refine hm_getR lf_RX3_24 rfl rfl (by first | exact Nat.lt_of_lt_of_le (by decide) hN | assumption | (simp only [hm_n_wI, hm_n_wL, hm_n_wR, hm_n_g] at *; omega)) (hA 8) dX3_levelOn_14 ?_
  refine hm_iload_n dX3_levelOn_17 rfl ?_
  refine hm_iald _ rfl (by first | exact Nat.lt_of_lt_of_le (by decide) hN | assumption | (simp only [hm_n_wI, hm_n_wL, hm_n_wR, hm_n_g] at *; omega)) rfl (by omega) (by decide) dX3_levelOn_18 ?_
  refine hm_iload_n dX3_levelOn_19 rfl ?_
  refine hm_iand dX3_levelOn_20 ?_
  refine hm_callS lm_RX3_48 (cj_bitCount l _ _) rfl rfl (by decide) (by decide) (Nat.le_of_ble_eq_true rfl) dX3_levelOn_21 ?_
  rintro _ t9 ⟨rfl, hh9⟩
  rw [hh9]
  clear hh9 t9
  rw [e2]
  refine hm_iadd dX3_levelOn_24 ?_
  refine hm_aload_n dX3_levelOn_25 rfl ?_
  refine hm_getR lf_RX3_27 rfl rfl (by first | exact Nat.lt_of_lt_of_le (by decide) hN | assumption | (simp only [hm_n_wI, hm_n_wL, hm_n_wR, hm_n_g] at *; omega)) (hA 9) dX3_levelOn_26 ?_
  refine hm_iload_n dX3_levelOn_29 rfl ?_
  refine hm_iald _ rfl (by first | exact Nat.lt_of_lt_of_le (by decide) hN | assumption | (simp only [hm_n_wI, hm_n_wL, hm_n_wR, hm_n_g] at *; omega)) rfl (by omega) (by decide) dX3_levelOn_30 ?_
  refine hm_iload dX3_levelOn_31 rfl ?_
  refine hm_iand dX3_levelOn_33 ?_
  refine hm_callS lm_RX3_48 (cj_bitCount l _ _) rfl rfl (by decide) (by decide) (Nat.le_of_ble_eq_true rfl) dX3_levelOn_34 ?_
  rintro _ t9 ⟨rfl, hh9⟩
  rw [hh9]
  clear hh9 t9
  rw [e3]
  refine hm_iadd dX3_levelOn_37 ?_
  refine hm_iret dX3_levelOn_38 rfl (by decide) (by decide) ?_
  exact hQ _ _ ⟨congrArg (fun z => some (Value.int z)) (by rw [show (4 : Int32) = nI 4 from rfl, pk_mul, nI_add, nI_add]; congr 1; unfold pLev; by_cases g1 : aN α 5 (120 * aN α 3 p + ch) = 0 <;> by_cases g2 : aN α 5 (120 * (16 + c) + ch) = 0 <;> simp [g1, g2]), rfl⟩
end C2
