/-! the reference's methods that only read -/
theorem sW.c4 {α : sA} (w : sW α) : nCell α ≤ 4 := w.1.1
theorem sW.p8 {α : sA} (w : sW α) : nPort α ≤ 8 := w.1.2.1
theorem sW.t {α : sA} (w : sW α) : aN α 6 0 ≤ 100000 := w.1.2.2
theorem sW.bc {α : sA} (w : sW α) (c : Nat) : aN α 2 c < 120 := w.2.1.1 c
theorem sW.pl {α : sA} (w : sW α) (p : Nat) : aN α 3 p < 16 := w.2.1.2.1 p
theorem sW.rc {α : sA} (w : sW α) (p : Nat) : aN α 4 p < 16 := w.2.1.2.2.1 p
theorem sW.nz {α : sA} (w : sW α) (j : Nat) : aN α 5 j ≤ 1 := w.2.1.2.2.2 j
theorem sW.x {α : sA} (w : sW α) {x : sBr} (h : x ∈ aB α) : bOf x < nPort α ∧ bAt x < nCell α ∧ bCh x < 120 ∧ bCh x / 10 ≠ aN α 2 (bAt x) / 10 := w.2.2.1 x h
theorem sW.xb {α : sA} (w : sW α) {b : Nat} {x : sBr} (h : (aB α)[b]? = some x) : bOf x < 8 ∧ bAt x < 4 ∧ bCh x < 120 := by
  have h1 := w.x (List.mem_of_getElem? h)
  have := w.c4
  have := w.p8
  omega
theorem sW.pw {α : sA} (w : sW α) : (aB α).Pairwise (fun x y => (bAt x = bAt y ∨ bOf x = bOf y) → bCh x / 10 ≠ bCh y / 10) := w.2.2.2.1
theorem sW.nb {α : sA} (w : sW α) (p : Nat) : pNb α p ≤ 2 := w.2.2.2.2.1 p
theorem sW.q {α : sA} (w : sW α) (p : Nat) : (aQ α 0 p).length ≤ 8 ∧ (aQ α 1 p).length ≤ 16 ∧ (aQ α 2 p).length = min (aN α 7 p) 20 ∧ aN α 7 p ≤ aN α 6 0 := w.2.2.2.2.2.1 p
theorem sW.en {α : sA} (w : sW α) (p : Nat) : aI α 0 p = 0 ∨ aI α 0 p = 1 := w.2.2.2.2.2.2.1 p
theorem sW.st {α : sA} (w : sW α) {p : Nat} (h : p < nPort α) : (aI α 1 p = 0 ∧ aI α 2 p = -9) ∨ ((1 ≤ aI α 1 p ∧ aI α 1 p ≤ 7) ∧ aI α 0 p = 1 ∧ ∃ q, q < nPort α ∧ q ≠ p ∧ aI α 2 p = nI q) := w.2.2.2.2.2.2.2.1 p h
theorem sW.len {α : sA} (w : sW α) : (aB α).length ≤ 16 := by
  have h := len2 bOf 8 (aB α) (fun x hx => by have := (w.x hx).1; have := w.p8; omega) w.nb
  omega
theorem bit16 : ∀ v, v < 16 → ∀ c, c < 4 → decide ((nI v >>> (nI c &&& 31)) &&& 1 = 1) = v.testBit c := by decide
section M3
variable (l : Launch) {α : sA} {σ : hm_M}
theorem r5_reaches (h : rM α σ) (w : sW α) {c pl : Nat} (hc : c < 4) (hp : pl < 16) : hm_Ct l yX5_reaches cX5_reaches 3 (some .boolean) 0 0 0 [.ref 27, .int (nI c), .int (nI pl)] σ (fun r τ => r = some (.int (bI (pReach α c pl))) ∧ τ = σ) := by
  refine (c5_reaches l σ h.m (nI c) pl hp).mono ?_
  rintro r τ ⟨rfl, rfl⟩
  refine ⟨?_, rfl⟩
  have e : hm_I τ 36 pl = nI (aN α 4 pl) := h.n 4 pl hp
  rw [e, bit16 _ (w.rc pl) _ hc]
  rfl
set_option maxRecDepth 100000 in
theorem r5_sends (h : rM α σ) (w : sW α) {c ch : Nat} (hc : c < 4) (hch : ch < 120) : hm_Ct l yX5_sends cX5_sends 5 (some .boolean) 0 0 0 [.ref 27, .int (nI c), .int (nI ch)] σ (fun r τ => r = some (.int (bI (pSends α c ch))) ∧ τ = σ) := by
  obtain ⟨hN, hM⟩ := h.m
  obtain ⟨hb1, hb2⟩ := h.b
  have hlen := w.len
  have e0 : hm_I σ 28 c = nI (aN α 2 c) := h.n 2 c hc
  have h0 := w.bc c
  have q0 : nI (aN α 2 c) = nI ch ↔ aN α 2 c = ch := nI_eq (by omega) (by omega)
  refine hm_startQ (ini := false) [.ref 27, .int (nI c), .int (nI ch), hm_u, hm_u] (by decide) (by decide) rfl (Nat.le_of_ble_eq_true rfl) (fun Q hQ => ?_)
  have hl : ∀ (k b : Nat) (v u : Int32), b + k = (aB α).length → v = bI (decide (aN α 2 c = ch) || ((aB α).take b).any (fun x => decide (bAt x = c) && decide (bCh x = ch))) → u = nI b → hm_V l RX5 cX5_sends 5 (some .boolean) false (hm_rm 0 0 0) 0 0 Q 0 0 19 [.ref 27, .int (nI c), .int (nI ch), .int v, .int u] [] σ := by
    intro k
    induction k with
    | zero =>
      intro b v u hk hv hu
      subst hu
      have hb : b = (aB α).length := by omega
      subst hb
      rw [List.take_length] at hv
      refine hm_iload dX5_sends_19 rfl ?_
      refine hm_aload_n dX5_sends_21 rfl ?_
      refine hm_getI lf_RX5_109 rfl rfl (by first | exact Nat.lt_of_lt_of_le (by decide) hN | assumption | (simp only [hm_n_wI, hm_n_wL, hm_n_wR, hm_n_g] at *; omega)) dX5_sends_22 ?_
      rw [hb1]
      refine hm_icmp_ge 66 dX5_sends_25 (by decide) (fun _ => ?_) (fun h25 => absurd (nI_le (Nat.le_refl _) (by omega)) h25)
      refine hm_iload_n dX5_sends_66 rfl ?_
      refine hm_zret dX5_sends_67 rfl (by decide) (by decide) (by rw [hv]; exact bI_01 _) ?_
      exact hQ _ _ ⟨by rw [hv]; rfl, rfl⟩
    | succ k ih =>
      intro b v u hk hv hu
      subst hu
      obtain ⟨x, hx⟩ : ∃ x, (aB α)[b]? = some x := ⟨_, List.getElem?_eq_getElem (by omega)⟩
      obtain ⟨e1, e2, e3, e4, e5⟩ := hb2 b x hx
      obtain ⟨x1, x2, x3⟩ := w.xb hx
      have q2 : nI (bAt x) = nI c ↔ bAt x = c := nI_eq (by omega) (by omega)
      have q3 : nI (bCh x) = nI ch ↔ bCh x = ch := nI_eq (by omega) (by omega)
      have ih2 := ih (b + 1)
      rw [any_take hx, ← Bool.or_assoc] at ih2
      generalize (decide (aN α 2 c = ch) || ((aB α).take b).any (fun x => decide (bAt x = c) && decide (bCh x = ch))) = A at hv ih2
      subst hv
      refine hm_iload dX5_sends_19 rfl ?_
      refine hm_aload_n dX5_sends_21 rfl ?_
      refine hm_getI lf_RX5_109 rfl rfl (by first | exact Nat.lt_of_lt_of_le (by decide) hN | assumption | (simp only [hm_n_wI, hm_n_wL, hm_n_wR, hm_n_g] at *; omega)) dX5_sends_22 ?_
      rw [hb1]
      refine hm_icmp_ge 66 dX5_sends_25 (by decide) (fun h25 => absurd h25 (nI_ge (by omega) (by omega))) (fun _ => ?_)
      refine hm_iload_n dX5_sends_28 rfl ?_
      refine hm_if_ne 54 dX5_sends_29 (by decide) (fun h29 => ?_) (fun h29 => ?_)
      · skip
        refine hm_iconst dX5_sends_54 (v := 1) (by decide) ?_
        refine hm_goto 59 dX5_sends_55 (by decide) ?_
        refine hm_istore_n dX5_sends_59 (by decide) rfl ?_
        refine hm_iinc dX5_sends_60 rfl _ rfl (by decide) rfl ?_
        refine hm_goto 19 dX5_sends_63 (by decide) ?_
        exact ih2 _ _ (by omega) (by cases A <;> simp_all [bI]) (hm_inc b)
      · skip
        refine hm_aload_n dX5_sends_32 rfl ?_
        refine hm_getR lf_RX5_45 rfl rfl (by first | exact Nat.lt_of_lt_of_le (by decide) hN | assumption | (simp only [hm_n_wI, hm_n_wL, hm_n_wR, hm_n_g] at *; omega)) (hM 14) dX5_sends_33 ?_
        refine hm_iload dX5_sends_36 rfl ?_
        refine hm_iald _ rfl (by first | exact Nat.lt_of_lt_of_le (by decide) hN | assumption | (simp only [hm_n_wI, hm_n_wL, hm_n_wR, hm_n_g] at *; omega)) rfl (by omega) (by decide) dX5_sends_38 ?_
        rw [e2]
        refine hm_iload_n dX5_sends_39 rfl ?_
        refine hm_icmp_ne 58 dX5_sends_40 (by decide) (fun h40 => ?_) (fun h40 => ?_)
        · skip
          rw [q2] at h40
          refine hm_iconst dX5_sends_58 (v := 0) (by decide) ?_
          refine hm_istore_n dX5_sends_59 (by decide) rfl ?_
          refine hm_iinc dX5_sends_60 rfl _ rfl (by decide) rfl ?_
          refine hm_goto 19 dX5_sends_63 (by decide) ?_
          exact ih2 _ _ (by omega) (by cases A <;> simp_all [bI]) (hm_inc b)
        · skip
          rw [q2] at h40
          refine hm_aload_n dX5_sends_43 rfl ?_
          refine hm_getR lf_RX5_48 rfl rfl (by first | exact Nat.lt_of_lt_of_le (by decide) hN | assumption | (simp only [hm_n_wI, hm_n_wL, hm_n_wR, hm_n_g] at *; omega)) (hM 15) dX5_sends_44 ?_
          refine hm_iload dX5_sends_47 rfl ?_
          refine hm_iald _ rfl (by first | exact Nat.lt_of_lt_of_le (by decide) hN | assumption | (simp only [hm_n_wI, hm_n_wL, hm_n_wR, hm_n_g] at *; omega)) rfl (by omega) (by decide) dX5_sends_49 ?_
          rw [e3]
          refine hm_iload_n dX5_sends_50 rfl ?_
          refine hm_icmp_ne 58 dX5_sends_51 (by decide) (fun h51 => ?_) (fun h51 => ?_)
          · skip
            rw [q3] at h51
            refine hm_iconst dX5_sends_58 (v := 0) (by decide) ?_
            refine hm_istore_n dX5_sends_59 (by decide) rfl ?_
            refine hm_iinc dX5_sends_60 rfl _ rfl (by decide) rfl ?_
            refine hm_goto 19 dX5_sends_63 (by decide) ?_
            exact ih2 _ _ (by omega) (by cases A <;> simp_all [bI]) (hm_inc b)
          · skip
            rw [q3] at h51
            refine hm_iconst dX5_sends_54 (v := 1) (by decide) ?_
            refine hm_goto 59 dX5_sends_55 (by decide) ?_
            refine hm_istore_n dX5_sends_59 (by decide) rfl ?_
            refine hm_iinc dX5_sends_60 rfl _ rfl (by decide) rfl ?_
            refine hm_goto 19 dX5_sends_63 (by decide) ?_
            exact ih2 _ _ (by omega) (by cases A <;> simp_all [bI]) (hm_inc b)
  refine hm_aload_n dX5_sends_0 rfl ?_
  refine hm_getR lf_RX5_7 rfl rfl (by first | exact Nat.lt_of_lt_of_le (by decide) hN | assumption | (simp only [hm_n_wI, hm_n_wL, hm_n_wR, hm_n_g] at *; omega)) (hM 1) dX5_sends_1 ?_
  refine hm_iload_n dX5_sends_4 rfl ?_
  refine hm_iald _ rfl (by first | exact Nat.lt_of_lt_of_le (by decide) hN | assumption | (simp only [hm_n_wI, hm_n_wL, hm_n_wR, hm_n_g] at *; omega)) rfl (by omega) (by decide) dX5_sends_5 ?_
  rw [e0]
  refine hm_iload_n dX5_sends_6 rfl ?_
  refine hm_icmp_ne 14 dX5_sends_7 (by decide) (fun h7 => ?_) (fun h7 => ?_)
  · skip
    rw [q0] at h7
    refine hm_iconst dX5_sends_14 (v := 0) (by decide) ?_
    refine hm_istore_n dX5_sends_15 (by decide) rfl ?_
    refine hm_iconst dX5_sends_16 (v := 0) (by decide) ?_
    refine hm_istore dX5_sends_17 (by decide) rfl ?_
    exact hl _ 0 _ _ (Nat.zero_add _) (by simp [bI, h7]) rfl
  · skip
    rw [q0] at h7
    refine hm_iconst dX5_sends_10 (v := 1) (by decide) ?_
    refine hm_goto 15 dX5_sends_11 (by decide) ?_
    refine hm_istore_n dX5_sends_15 (by decide) rfl ?_
    refine hm_iconst dX5_sends_16 (v := 0) (by decide) ?_
    refine hm_istore dX5_sends_17 (by decide) rfl ?_
    exact hl _ 0 _ _ (Nat.zero_add _) (by simp [bI, h7]) rfl
set_option maxRecDepth 100000 in
theorem r5_othersSending (h : rM α σ) (w : sW α) {c pl ch : Nat} (hc : c < 4) (hp : pl < 16) (hch : ch < 120) : hm_Ct l yX5_othersSending cX5_othersSending 6 (some .int) 1 0 0 [.ref 27, .int (nI c), .int (nI pl), .int (nI ch)] σ (fun r τ => r = some (.int (nI (pOSend α c pl ch))) ∧ τ = σ) := by
  obtain ⟨hN, hM⟩ := h.m
  have e0 : hm_I σ 27 0 = nI (nCell α) := h.n 0 0 (by decide)
  have h4 := w.c4
  refine hm_startQ (ini := false) [.ref 27, .int (nI c), .int (nI pl), .int (nI ch), hm_u, hm_u] (by decide) (by decide) rfl (Nat.le_of_ble_eq_true rfl) (fun Q hQ => ?_)
  have hl : ∀ (k d : Nat) (v u : Int32), d + k = nCell α → v = nI (pCnt (fun d => decide (d ≠ c) && (pReach α d pl && pSends α d ch)) d) → u = nI d → hm_V l RX5 cX5_othersSending 6 (some .int) false (hm_rm 1 0 0) 0 0 Q 0 0 6 [.ref 27, .int (nI c), .int (nI pl), .int (nI ch), .int v, .int u] [] σ := by
    intro k
    induction k with
    | zero =>
      intro d v u hk hv hu
      subst hu
      have hd : d = nCell α := by omega
      subst hd
      refine hm_iload dX5_othersSending_6 rfl ?_
      refine hm_aload_n dX5_othersSending_8 rfl ?_
      refine hm_getI lf_RX5_84 rfl rfl (by first | exact Nat.lt_of_lt_of_le (by decide) hN | assumption | (simp only [hm_n_wI, hm_n_wL, hm_n_wR, hm_n_g] at *; omega)) dX5_othersSending_9 ?_
      rw [e0]
      refine hm_icmp_ge 57 dX5_othersSending_12 (by decide) (fun _ => ?_) (fun h12 => absurd (nI_le (Nat.le_refl _) (by omega)) h12)
      refine hm_iload dX5_othersSending_57 rfl ?_
      refine hm_iret dX5_othersSending_59 rfl (by decide) (by decide) ?_
      exact hQ _ _ ⟨by rw [hv]; rfl, rfl⟩
    | succ k ih =>
      intro d v u hk hv hu
      subst hu
      have q2 : nI d = nI c ↔ d = c := nI_eq (by omega) (by omega)
      have ih2 := ih (d + 1)
      rw [pCnt] at ih2
      subst hv
      refine hm_iload dX5_othersSending_6 rfl ?_
      refine hm_aload_n dX5_othersSending_8 rfl ?_
      refine hm_getI lf_RX5_84 rfl rfl (by first | exact Nat.lt_of_lt_of_le (by decide) hN | assumption | (simp only [hm_n_wI, hm_n_wL, hm_n_wR, hm_n_g] at *; omega)) dX5_othersSending_9 ?_
      rw [e0]
      refine hm_icmp_ge 57 dX5_othersSending_12 (by decide) (fun h12 => absurd h12 (nI_ge (by omega) (by omega))) (fun _ => ?_)
      refine hm_iload dX5_othersSending_15 rfl ?_
      refine hm_iload dX5_othersSending_17 rfl ?_
      refine hm_iload_n dX5_othersSending_19 rfl ?_
      refine hm_icmp_eq 47 dX5_othersSending_20 (by decide) (fun h20 => ?_) (fun h20 => ?_)
      · skip
        rw [q2] at h20
        refine hm_iconst dX5_othersSending_47 (v := 0) (by decide) ?_
        refine hm_iadd dX5_othersSending_48 ?_
        refine hm_istore dX5_othersSending_49 (by decide) rfl ?_
        refine hm_iinc dX5_othersSending_51 rfl _ rfl (by decide) rfl ?_
        refine hm_goto 6 dX5_othersSending_54 (by decide) ?_
        exact ih2 _ _ (by omega) (by simp_all [nI_succ]) (hm_inc d)
      · skip
        rw [q2] at h20
        refine hm_aload_n dX5_othersSending_23 rfl ?_
        refine hm_iload dX5_othersSending_24 rfl ?_
        refine hm_iload_n dX5_othersSending_26 rfl ?_
        refine hm_callV lm_RX5_128 (r5_reaches l h w (by omega) hp) rfl rfl rfl rfl (by first | exact Nat.lt_of_lt_of_le (by decide) hN | assumption | (simp only [hm_n_wI, hm_n_wL, hm_n_wR, hm_n_g] at *; omega)) (by decide) (by decide) (Nat.le_of_ble_eq_true rfl) dX5_othersSending_27 ?_
        rintro _ _ ⟨rfl, rfl⟩
        refine hm_if_eq 47 dX5_othersSending_30 (by decide) (fun h30 => ?_) (fun h30 => ?_)
        · skip
          rw [bI_0] at h30
          refine hm_iconst dX5_othersSending_47 (v := 0) (by decide) ?_
          refine hm_iadd dX5_othersSending_48 ?_
          refine hm_istore dX5_othersSending_49 (by decide) rfl ?_
          refine hm_iinc dX5_othersSending_51 rfl _ rfl (by decide) rfl ?_
          refine hm_goto 6 dX5_othersSending_54 (by decide) ?_
          exact ih2 _ _ (by omega) (by simp_all [nI_succ]) (hm_inc d)
        · skip
          rw [bI_0] at h30
          refine hm_aload_n dX5_othersSending_33 rfl ?_
          refine hm_iload dX5_othersSending_34 rfl ?_
          refine hm_iload_n dX5_othersSending_36 rfl ?_
          refine hm_callV lm_RX5_132 (r5_sends l h w (by omega) hch) rfl rfl rfl rfl (by first | exact Nat.lt_of_lt_of_le (by decide) hN | assumption | (simp only [hm_n_wI, hm_n_wL, hm_n_wR, hm_n_g] at *; omega)) (by decide) (by decide) (Nat.le_of_ble_eq_true rfl) dX5_othersSending_37 ?_
          rintro _ _ ⟨rfl, rfl⟩
          refine hm_if_eq 47 dX5_othersSending_40 (by decide) (fun h40 => ?_) (fun h40 => ?_)
          · skip
            rw [bI_0] at h40
            refine hm_iconst dX5_othersSending_47 (v := 0) (by decide) ?_
            refine hm_iadd dX5_othersSending_48 ?_
            refine hm_istore dX5_othersSending_49 (by decide) rfl ?_
            refine hm_iinc dX5_othersSending_51 rfl _ rfl (by decide) rfl ?_
            refine hm_goto 6 dX5_othersSending_54 (by decide) ?_
            exact ih2 _ _ (by omega) (by simp_all [nI_succ]) (hm_inc d)
          · skip
            rw [bI_0] at h40
            refine hm_iconst dX5_othersSending_43 (v := 1) (by decide) ?_
            refine hm_goto 48 dX5_othersSending_44 (by decide) ?_
            refine hm_iadd dX5_othersSending_48 ?_
            refine hm_istore dX5_othersSending_49 (by decide) rfl ?_
            refine hm_iinc dX5_othersSending_51 rfl _ rfl (by decide) rfl ?_
            refine hm_goto 6 dX5_othersSending_54 (by decide) ?_
            exact ih2 _ _ (by omega) (by simp_all [nI_succ]) (hm_inc d)
  refine hm_iconst dX5_othersSending_0 (v := 0) (by decide) ?_
  refine hm_istore dX5_othersSending_1 (by decide) rfl ?_
  refine hm_iconst dX5_othersSending_3 (v := 0) (by decide) ?_
  refine hm_istore dX5_othersSending_4 (by decide) rfl ?_
  exact hl _ 0 _ _ (Nat.zero_add _) rfl rfl
set_option maxRecDepth 100000 in
theorem r5_othersTalking (h : rM α σ) (w : sW α) {p c ch : Nat} (hpp : p < 8) (hc : c < 4) (hch : ch < 120) : hm_Ct l yX5_othersTalking cX5_othersTalking 8 (some .int) 1 0 0 [.ref 27, .int (nI p), .int (nI c), .int (nI ch)] σ (fun r τ => r = some (.int (nI (pOTalk α p c ch))) ∧ τ = σ) := by
  obtain ⟨hN, hM⟩ := h.m
  obtain ⟨hb1, hb2⟩ := h.b
  have hlen := w.len
  have e0 : hm_I σ 27 2 = nI (nPort α) := h.n 1 0 (by decide)
  have h8 := w.p8
  refine hm_startQ (ini := false) [.ref 27, .int (nI p), .int (nI c), .int (nI ch), hm_u, hm_u, hm_u, hm_u] (by decide) (by decide) rfl (Nat.le_of_ble_eq_true rfl) (fun Q hQ => ?_)
  have hl : ∀ (k q : Nat) (v u : Int32) (y1 y2 : Value), q + k = nPort α → v = nI (pCnt (fun q => decide (q ≠ p) && (pTalks α q ch && pReach α c (aN α 3 q))) q) → u = nI q → hm_V l RX5 cX5_othersTalking 8 (some .int) false (hm_rm 1 0 0) 0 0 Q 0 0 6 [.ref 27, .int (nI p), .int (nI c), .int (nI ch), .int v, .int u, y1, y2] [] σ := by
    intro k
    induction k with
    | zero =>
      intro d v u y1 y2 hk hv hu
      subst hu
      have hd : d = nPort α := by omega
      subst hd
      refine hm_iload dX5_othersTalking_6 rfl ?_
      refine hm_aload_n dX5_othersTalking_8 rfl ?_
      refine hm_getI lf_RX5_92 rfl rfl (by first | exact Nat.lt_of_lt_of_le (by decide) hN | assumption | (simp only [hm_n_wI, hm_n_wL, hm_n_wR, hm_n_g] at *; omega)) dX5_othersTalking_9 ?_
      rw [e0]
      refine hm_icmp_ge 113 dX5_othersTalking_12 (by decide) (fun _ => ?_) (fun h12 => absurd (nI_le (Nat.le_refl _) (by omega)) h12)
      refine hm_iload dX5_othersTalking_113 rfl ?_
      refine hm_iret dX5_othersTalking_115 rfl (by decide) (by decide) ?_
      exact hQ _ _ ⟨by rw [hv]; rfl, rfl⟩
    | succ k ih =>
      intro q v u y1 y2 hk hv hu
      subst hu
      have q2 : nI q = nI p ↔ q = p := nI_eq (by omega) (by omega)
      have e9 : hm_I σ 29 q = nI (aN α 3 q) := h.n 3 q (by show q < 8; omega)
      have ih2 := ih (q + 1)
      rw [pCnt] at ih2
      subst hv
      have hm : ∀ (k b : Nat) (v' u : Int32), b + k = (aB α).length → v' = bI (((aB α).take b).any (fun x => decide (bOf x = q) && decide (bCh x = ch))) → u = nI b → hm_V l RX5 cX5_othersTalking 8 (some .int) false (hm_rm 1 0 0) 0 0 Q 0 0 21 [.ref 27, .int (nI p), .int (nI c), .int (nI ch), .int (nI (pCnt (fun q => decide (q ≠ p) && (pTalks α q ch && pReach α c (aN α 3 q))) q)), .int (nI q), .int v', .int u] [] σ := by
        intro k'
        induction k' with
        | zero =>
          intro b v' u hk' hv hu
          subst hu
          have hb : b = (aB α).length := by omega
          subst hb
          rw [List.take_length] at hv
          have hv : v' = bI (pTalks α q ch) := hv
          refine hm_iload dX5_othersTalking_21 rfl ?_
          refine hm_aload_n dX5_othersTalking_23 rfl ?_
          refine hm_getI lf_RX5_109 rfl rfl (by first | exact Nat.lt_of_lt_of_le (by decide) hN | assumption | (simp only [hm_n_wI, hm_n_wL, hm_n_wR, hm_n_g] at *; omega)) dX5_othersTalking_24 ?_
          rw [hb1]
          refine hm_icmp_ge 71 dX5_othersTalking_27 (by decide) (fun _ => ?_) (fun h27 => absurd (nI_le (Nat.le_refl _) (by omega)) h27)
          refine hm_iload dX5_othersTalking_71 rfl ?_
          refine hm_iload dX5_othersTalking_73 rfl ?_
          refine hm_iload_n dX5_othersTalking_75 rfl ?_
          refine hm_icmp_eq 103 dX5_othersTalking_76 (by decide) (fun h76 => ?_) (fun h76 => ?_)
          · skip
            rw [q2] at h76
            refine hm_iconst dX5_othersTalking_103 (v := 0) (by decide) ?_
            refine hm_iadd dX5_othersTalking_104 ?_
            refine hm_istore dX5_othersTalking_105 (by decide) rfl ?_
            refine hm_iinc dX5_othersTalking_107 rfl _ rfl (by decide) rfl ?_
            refine hm_goto 6 dX5_othersTalking_110 (by decide) ?_
            exact ih2 _ _ _ _ (by omega) (by simp_all [nI_succ]) (hm_inc q)
          · skip
            rw [q2] at h76
            refine hm_iload dX5_othersTalking_79 rfl ?_
            refine hm_if_eq 103 dX5_othersTalking_81 (by decide) (fun h81 => ?_) (fun h81 => ?_)
            · skip
              rw [hv, bI_0] at h81
              refine hm_iconst dX5_othersTalking_103 (v := 0) (by decide) ?_
              refine hm_iadd dX5_othersTalking_104 ?_
              refine hm_istore dX5_othersTalking_105 (by decide) rfl ?_
              refine hm_iinc dX5_othersTalking_107 rfl _ rfl (by decide) rfl ?_
              refine hm_goto 6 dX5_othersTalking_110 (by decide) ?_
              exact ih2 _ _ _ _ (by omega) (by simp_all [nI_succ]) (hm_inc q)
            · skip
              rw [hv, bI_0] at h81
              refine hm_aload_n dX5_othersTalking_84 rfl ?_
              refine hm_iload_n dX5_othersTalking_85 rfl ?_
              refine hm_aload_n dX5_othersTalking_86 rfl ?_
              refine hm_getR lf_RX5_13 rfl rfl (by first | exact Nat.lt_of_lt_of_le (by decide) hN | assumption | (simp only [hm_n_wI, hm_n_wL, hm_n_wR, hm_n_g] at *; omega)) (hM 3) dX5_othersTalking_87 ?_
              refine hm_iload dX5_othersTalking_90 rfl ?_
              refine hm_iald _ rfl (by first | exact Nat.lt_of_lt_of_le (by decide) hN | assumption | (simp only [hm_n_wI, hm_n_wL, hm_n_wR, hm_n_g] at *; omega)) rfl (by omega) (by decide) dX5_othersTalking_92 ?_
              rw [e9]
              refine hm_callV lm_RX5_128 (r5_reaches l h w hc (w.pl q)) rfl rfl rfl rfl (by first | exact Nat.lt_of_lt_of_le (by decide) hN | assumption | (simp only [hm_n_wI, hm_n_wL, hm_n_wR, hm_n_g] at *; omega)) (by decide) (by decide) (Nat.le_of_ble_eq_true rfl) dX5_othersTalking_93 ?_
              rintro _ _ ⟨rfl, rfl⟩
              refine hm_if_eq 103 dX5_othersTalking_96 (by decide) (fun h96 => ?_) (fun h96 => ?_)
              · skip
                rw [bI_0] at h96
                refine hm_iconst dX5_othersTalking_103 (v := 0) (by decide) ?_
                refine hm_iadd dX5_othersTalking_104 ?_
                refine hm_istore dX5_othersTalking_105 (by decide) rfl ?_
                refine hm_iinc dX5_othersTalking_107 rfl _ rfl (by decide) rfl ?_
                refine hm_goto 6 dX5_othersTalking_110 (by decide) ?_
                exact ih2 _ _ _ _ (by omega) (by simp_all [nI_succ]) (hm_inc q)
              · skip
                rw [bI_0] at h96
                refine hm_iconst dX5_othersTalking_99 (v := 1) (by decide) ?_
                refine hm_goto 104 dX5_othersTalking_100 (by decide) ?_
                refine hm_iadd dX5_othersTalking_104 ?_
                refine hm_istore dX5_othersTalking_105 (by decide) rfl ?_
                refine hm_iinc dX5_othersTalking_107 rfl _ rfl (by decide) rfl ?_
                refine hm_goto 6 dX5_othersTalking_110 (by decide) ?_
                exact ih2 _ _ _ _ (by omega) (by simp_all [nI_succ]) (hm_inc q)
        | succ k' ihm =>
          intro b v' u hk' hv hu
          subst hu
          obtain ⟨x, hx⟩ : ∃ x, (aB α)[b]? = some x := ⟨_, List.getElem?_eq_getElem (by omega)⟩
          obtain ⟨e1, e2, e3, e4, e5⟩ := hb2 b x hx
          obtain ⟨x1, x2, x3⟩ := w.xb hx
          have q1 : nI (bOf x) = nI q ↔ bOf x = q := nI_eq (by omega) (by omega)
          have q3 : nI (bCh x) = nI ch ↔ bCh x = ch := nI_eq (by omega) (by omega)
          have ihm2 := ihm (b + 1)
          rw [any_take hx] at ihm2
          generalize (((aB α).take b).any (fun x => decide (bOf x = q) && decide (bCh x = ch))) = A at hv ihm2
          subst hv
          clear ihm ih ih2
          refine hm_iload dX5_othersTalking_21 rfl ?_
          refine hm_aload_n dX5_othersTalking_23 rfl ?_
          refine hm_getI lf_RX5_109 rfl rfl (by first | exact Nat.lt_of_lt_of_le (by decide) hN | assumption | (simp only [hm_n_wI, hm_n_wL, hm_n_wR, hm_n_g] at *; omega)) dX5_othersTalking_24 ?_
          rw [hb1]
          refine hm_icmp_ge 71 dX5_othersTalking_27 (by decide) (fun h27 => absurd h27 (nI_ge (by omega) (by omega))) (fun _ => ?_)
          refine hm_iload dX5_othersTalking_30 rfl ?_
          refine hm_if_ne 58 dX5_othersTalking_32 (by decide) (fun h32 => ?_) (fun h32 => ?_)
          · skip
            refine hm_iconst dX5_othersTalking_58 (v := 1) (by decide) ?_
            refine hm_goto 63 dX5_othersTalking_59 (by decide) ?_
            refine hm_istore dX5_othersTalking_63 (by decide) rfl ?_
            refine hm_iinc dX5_othersTalking_65 rfl _ rfl (by decide) rfl ?_
            refine hm_goto 21 dX5_othersTalking_68 (by decide) ?_
            exact ihm2 _ _ (by omega) (by cases A <;> simp_all [bI]) (hm_inc b)
          · skip
            refine hm_aload_n dX5_othersTalking_35 rfl ?_
            refine hm_getR lf_RX5_42 rfl rfl (by first | exact Nat.lt_of_lt_of_le (by decide) hN | assumption | (simp only [hm_n_wI, hm_n_wL, hm_n_wR, hm_n_g] at *; omega)) (hM 13) dX5_othersTalking_36 ?_
            refine hm_iload dX5_othersTalking_39 rfl ?_
            refine hm_iald _ rfl (by first | exact Nat.lt_of_lt_of_le (by decide) hN | assumption | (simp only [hm_n_wI, hm_n_wL, hm_n_wR, hm_n_g] at *; omega)) rfl (by omega) (by decide) dX5_othersTalking_41 ?_
            rw [e1]
            refine hm_iload dX5_othersTalking_42 rfl ?_
            refine hm_icmp_ne 62 dX5_othersTalking_44 (by decide) (fun h44 => ?_) (fun h44 => ?_)
            · skip
              rw [q1] at h44
              refine hm_iconst dX5_othersTalking_62 (v := 0) (by decide) ?_
              refine hm_istore dX5_othersTalking_63 (by decide) rfl ?_
              refine hm_iinc dX5_othersTalking_65 rfl _ rfl (by decide) rfl ?_
              refine hm_goto 21 dX5_othersTalking_68 (by decide) ?_
              exact ihm2 _ _ (by omega) (by cases A <;> simp_all [bI]) (hm_inc b)
            · skip
              rw [q1] at h44
              refine hm_aload_n dX5_othersTalking_47 rfl ?_
              refine hm_getR lf_RX5_48 rfl rfl (by first | exact Nat.lt_of_lt_of_le (by decide) hN | assumption | (simp only [hm_n_wI, hm_n_wL, hm_n_wR, hm_n_g] at *; omega)) (hM 15) dX5_othersTalking_48 ?_
              refine hm_iload dX5_othersTalking_51 rfl ?_
              refine hm_iald _ rfl (by first | exact Nat.lt_of_lt_of_le (by decide) hN | assumption | (simp only [hm_n_wI, hm_n_wL, hm_n_wR, hm_n_g] at *; omega)) rfl (by omega) (by decide) dX5_othersTalking_53 ?_
              rw [e3]
              refine hm_iload_n dX5_othersTalking_54 rfl ?_
              refine hm_icmp_ne 62 dX5_othersTalking_55 (by decide) (fun h55 => ?_) (fun h55 => ?_)
              · skip
                rw [q3] at h55
                refine hm_iconst dX5_othersTalking_62 (v := 0) (by decide) ?_
                refine hm_istore dX5_othersTalking_63 (by decide) rfl ?_
                refine hm_iinc dX5_othersTalking_65 rfl _ rfl (by decide) rfl ?_
                refine hm_goto 21 dX5_othersTalking_68 (by decide) ?_
                exact ihm2 _ _ (by omega) (by cases A <;> simp_all [bI]) (hm_inc b)
              · skip
                rw [q3] at h55
                refine hm_iconst dX5_othersTalking_58 (v := 1) (by decide) ?_
                refine hm_goto 63 dX5_othersTalking_59 (by decide) ?_
                refine hm_istore dX5_othersTalking_63 (by decide) rfl ?_
                refine hm_iinc dX5_othersTalking_65 rfl _ rfl (by decide) rfl ?_
                refine hm_goto 21 dX5_othersTalking_68 (by decide) ?_
                exact ihm2 _ _ (by omega) (by cases A <;> simp_all [bI]) (hm_inc b)
      refine hm_iload dX5_othersTalking_6 rfl ?_
      refine hm_aload_n dX5_othersTalking_8 rfl ?_
      refine hm_getI lf_RX5_92 rfl rfl (by first | exact Nat.lt_of_lt_of_le (by decide) hN | assumption | (simp only [hm_n_wI, hm_n_wL, hm_n_wR, hm_n_g] at *; omega)) dX5_othersTalking_9 ?_
      rw [e0]
      refine hm_icmp_ge 113 dX5_othersTalking_12 (by decide) (fun h12 => absurd h12 (nI_ge (by omega) (by omega))) (fun _ => ?_)
      refine hm_iconst dX5_othersTalking_15 (v := 0) (by decide) ?_
      refine hm_istore dX5_othersTalking_16 (by decide) rfl ?_
      refine hm_iconst dX5_othersTalking_18 (v := 0) (by decide) ?_
      refine hm_istore dX5_othersTalking_19 (by decide) rfl ?_
      exact hm _ 0 _ _ (Nat.zero_add _) rfl rfl
  refine hm_iconst dX5_othersTalking_0 (v := 0) (by decide) ?_
  refine hm_istore dX5_othersTalking_1 (by decide) rfl ?_
  refine hm_iconst dX5_othersTalking_3 (v := 0) (by decide) ?_
  refine hm_istore dX5_othersTalking_4 (by decide) rfl ?_
  exact hl _ 0 _ _ _ _ (Nat.zero_add _) rfl rfl
end M3
