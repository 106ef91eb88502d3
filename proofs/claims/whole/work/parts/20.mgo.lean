/-! the reference: bearers that go, calls without one -/
theorem rm_er (p : Nat) : ∀ (B : List sBr) (i : Nat), B.findIdx? (fun x => decide (bOf x = p)) = some i → pRmFst p B = B.eraseIdx i := by
  intro B
  induction B with
  | nil => intro i h; simp at h
  | cons x t ih =>
    intro i h
    rw [List.findIdx?_cons] at h
    unfold pRmFst
    by_cases e : bOf x = p
    · simp [e] at h
      subst h
      simp [e]
    · simp [e] at h
      obtain ⟨j, h1, rfl⟩ := h
      simp [e, ih j h1]
/-- two bearers: the second one is the last one -/
theorem two_last {β : Type} {f : β → Bool} {l : List β} {i : Nat} (h2 : l.countP f = 2) (hi : l.findIdx? f = some i) : ∃ j x, i < j ∧ l[j]? = some x ∧ f x = true ∧ (∀ (m : Nat) (y : β), i < m → m < j → l[m]? = some y → f y = false) ∧ l.reverse.find? f = some x := by
  rcases fi_cases f l with ⟨h, -, -⟩ | ⟨i', x0, c1, c2, c3, c4, c5, c6, c7⟩
  · rw [h] at hi; cases hi
  rw [hi] at c1
  cases c1
  have hsp : l = l.take (i + 1) ++ l.drop (i + 1) := (List.take_append_drop _ _).symm
  have ht : l.take (i + 1) = l.take i ++ [x0] := by rw [List.take_succ, c2]; rfl
  have hc0 : (l.take i).countP f = 0 := List.countP_eq_zero.mpr fun y hy => by
    obtain ⟨m, hm⟩ := List.getElem?_of_mem hy
    have hml : m < i := by
      have := (List.getElem?_eq_some_iff.mp hm).1
      rw [List.length_take] at this
      omega
    rw [List.getElem?_take, if_pos hml] at hm
    rw [c7 m y hml hm]
    decide
  have hcd : (l.drop (i + 1)).countP f = 1 := by
    have h3 := h2
    rw [hsp, List.countP_append, ht, List.countP_append, hc0] at h3
    simp [List.countP_cons, c3] at h3
    omega
  rcases fi_cases f (l.drop (i + 1)) with ⟨-, -, h⟩ | ⟨k, x, d1, d2, d3, d4, d5, d6, d7⟩
  · omega
  refine ⟨i + 1 + k, x, by omega, by rw [← List.getElem?_drop]; exact d2, d3, fun m y h3 h4 h5 => ?_, ?_⟩
  · refine d7 (m - (i + 1)) y (by omega) ?_
    rw [List.getElem?_drop]
    rw [show i + 1 + (m - (i + 1)) = m by omega]
    exact h5
  · generalize hr : l.drop (i + 1) = r at d1 d2 d3 d5 d7 hcd hsp
    have hsr : r = r.take (k + 1) ++ r.drop (k + 1) := (List.take_append_drop _ _).symm
    have htr : r.take (k + 1) = r.take k ++ [x] := by rw [List.take_succ, d2]; rfl
    have hz : (r.drop (k + 1)).countP f = 0 := by
      have h3 := hcd
      rw [hsr, List.countP_append, htr, List.countP_append] at h3
      simp [List.countP_cons, d3] at h3
      omega
    rw [hsp, hsr, htr, List.reverse_append, List.reverse_append, List.reverse_append, List.append_assoc, List.append_assoc, List.find?_append]
    have hn : (r.drop (k + 1)).reverse.find? f = none := List.find?_eq_none.mpr fun y hy => List.countP_eq_zero.mp hz y (List.mem_reverse.mp hy)
    rw [hn]
    simp [List.find?_cons, d3]
theorem pAll_nP {f : sA → Nat → sA} (hf : ∀ β p, nPort (f β p) = nPort β) (α : sA) : ∀ k, nPort (pAll f α k) = nPort α
  | 0 => rfl
  | k + 1 => (hf _ _).trans (pAll_nP hf α k)
theorem pAll_sW {f : sA → Nat → sA} (hf : ∀ β p, nPort (f β p) = nPort β) (hw : ∀ β p, sW β → p < nPort β → sW (f β p)) {α : sA} (w : sW α) : ∀ k, k ≤ nPort α → sW (pAll f α k)
  | 0, _ => w
  | k + 1, h => hw _ _ (pAll_sW hf hw w k (by omega)) (by rw [pAll_nP hf]; omega)
theorem nP_idle (α : sA) (p : Nat) : nPort (pIdle α p) = nPort α := rfl
theorem nP_ends (α : sA) (p : Nat) : nPort (pEnds α p) = nPort α := by
  unfold pEnds pEnded
  split <;> rfl
theorem nP_noB (α : sA) (p : Nat) : nPort (pNoB α p) = nPort α := by
  unfold pNoB
  split
  · exact nP_ends α p
  · rfl
theorem nP_hand (α : sA) (p : Nat) : nPort (pHand α p) = nPort α := by
  unfold pHand
  split <;> rfl
section M10
variable (l : Launch) {α : sA} {σ : hm_M}
set_option maxRecDepth 100000 in
set_option maxHeartbeats 4000000 in
theorem r5_goOrStay (h : rM α σ) (w : sW α) : hm_Ct l yX5_goOrStay cX5_goOrStay 3 none 3 0 0 [.ref 27] σ (fun r τ => r = none ∧ rM (pAllP pNoB (pAllP pHand (pDropF α))) τ ∧ md_fr σ τ) := by
  obtain ⟨hN, hM⟩ := h.m
  obtain ⟨hb1, hb2⟩ := h.b
  have hlen := w.len
  have h8 := w.p8
  have w1 := w.dropF
  have n2 : nPort (pAllP pHand (pDropF α)) = nPort α := pAll_nP nP_hand _ _
  have w2 : sW (pAllP pHand (pDropF α)) := pAll_sW nP_hand (fun β p wb _ => wb.hand p) w1 _ (Nat.le_refl _)
  refine hm_startQ (ini := false) [.ref 27, hm_u, hm_u] (by decide) (by decide) rfl (Nat.le_of_ble_eq_true rfl) (fun Q hQ => ?_)
  have hl3 : ∀ (k p : Nat) (τ : hm_M) (u : Int32) (y : Value), p + k = nPort α → rM (pAll pNoB (pAllP pHand (pDropF α)) p) τ → md_fr σ τ → u = nI p → hm_V l RX5 cX5_goOrStay 3 none false (hm_rm 3 0 0) 0 0 Q 0 0 112 [.ref 27, .int u, y] [] τ := by
    intro k
    induction k with
    | zero =>
      intro p τ u y hk hτ hf hu
      subst hu
      obtain ⟨hN, hM⟩ := hτ.m
      have hpn : p = nPort α := by omega
      have e0 : hm_I τ 27 2 = nI (nPort α) := (hτ.n 1 0 (by decide)).trans (congrArg nI ((pAll_nP nP_noB _ p).trans n2))
      refine hm_iload_n dX5_goOrStay_112 rfl ?_
      refine hm_aload_n dX5_goOrStay_113 rfl ?_
      refine hm_getI lf_RX5_92 rfl rfl (by first | exact Nat.lt_of_lt_of_le (by decide) hN | assumption | (simp only [hm_n_wI, hm_n_wL, hm_n_wR, hm_n_g] at *; omega)) dX5_goOrStay_114 ?_
      rw [e0]
      refine hm_icmp_ge 168 dX5_goOrStay_117 (by decide) (fun _ => ?_) (fun h117 => absurd (nI_le (by omega) (by omega)) h117)
      refine hm_vret dX5_goOrStay_168 rfl (by decide) (by decide) ?_
      exact hQ _ _ ⟨rfl, by unfold pAllP; rw [show nPort (pAll pHand (pDropF α) (nPort (pDropF α))) = nPort α from n2, ← hpn]; exact hτ, hf⟩
    | succ k ih =>
      intro p τ u y hk hτ hf hu
      subst hu
      obtain ⟨hN, hM⟩ := hτ.m
      have wτ : sW (pAll pNoB (pAllP pHand (pDropF α)) p) := pAll_sW nP_noB (fun β p wb hp => wb.noB hp) w2 p (by omega)
      have nτ : nPort (pAll pNoB (pAllP pHand (pDropF α)) p) = nPort α := (pAll_nP nP_noB _ p).trans n2
      have e0 : hm_I τ 27 2 = nI (nPort α) := (hτ.n 1 0 (by decide)).trans (congrArg nI nτ)
      have hstep : pAll pNoB (pAllP pHand (pDropF α)) (p + 1) = pNoB (pAll pNoB (pAllP pHand (pDropF α)) p) p := rfl
      have ih2 := ih (p + 1)
      rw [hstep] at ih2
      generalize pAll pNoB (pAllP pHand (pDropF α)) p = β at hτ wτ nτ ih2
      have e1 : hm_I τ 33 p = aI β 1 p := hτ.i 1 p (by show p < 8; omega)
      have hnb := wτ.nb p
      have q0 : nI (pNb β p) = 0 ↔ pNb β p = 0 := nI_0' (by omega)
      refine hm_iload_n dX5_goOrStay_112 rfl ?_
      refine hm_aload_n dX5_goOrStay_113 rfl ?_
      refine hm_getI lf_RX5_92 rfl rfl (by first | exact Nat.lt_of_lt_of_le (by decide) hN | assumption | (simp only [hm_n_wI, hm_n_wL, hm_n_wR, hm_n_g] at *; omega)) dX5_goOrStay_114 ?_
      rw [e0]
      refine hm_icmp_ge 168 dX5_goOrStay_117 (by decide) (fun h117 => absurd h117 (nI_ge (by omega) (by omega))) (fun _ => ?_)
      refine hm_aload_n dX5_goOrStay_120 rfl ?_
      refine hm_getR lf_RX5_27 rfl rfl (by first | exact Nat.lt_of_lt_of_le (by decide) hN | assumption | (simp only [hm_n_wI, hm_n_wL, hm_n_wR, hm_n_g] at *; omega)) (hM 7) dX5_goOrStay_121 ?_
      refine hm_iload_n dX5_goOrStay_124 rfl ?_
      refine hm_iald _ rfl (by first | exact Nat.lt_of_lt_of_le (by decide) hN | assumption | (simp only [hm_n_wI, hm_n_wL, hm_n_wR, hm_n_g] at *; omega)) rfl (by omega) (by decide) dX5_goOrStay_125 ?_
      rw [e1]
      refine hm_if_eq 162 dX5_goOrStay_126 (by decide) (fun h126 => ?_) (fun h126 => ?_)
      · skip
        refine hm_iinc dX5_goOrStay_162 rfl _ rfl (by decide) rfl ?_
        refine hm_goto 112 dX5_goOrStay_165 (by decide) ?_
        first | exact ih2 _ _ _ (by omega) (by unfold pNoB; rw [if_pos (by simp [*])]; exact hρ) (hf.tr hf2) (hm_inc p) | exact ih2 _ _ _ (by omega) (by unfold pNoB; rw [if_neg (by simp [*])]; exact hτ) hf (hm_inc p)
      · skip
        refine hm_aload_n dX5_goOrStay_129 rfl ?_
        refine hm_getR lf_RX5_27 rfl rfl (by first | exact Nat.lt_of_lt_of_le (by decide) hN | assumption | (simp only [hm_n_wI, hm_n_wL, hm_n_wR, hm_n_g] at *; omega)) (hM 7) dX5_goOrStay_130 ?_
        refine hm_iload_n dX5_goOrStay_133 rfl ?_
        refine hm_iald _ rfl (by first | exact Nat.lt_of_lt_of_le (by decide) hN | assumption | (simp only [hm_n_wI, hm_n_wL, hm_n_wR, hm_n_g] at *; omega)) rfl (by omega) (by decide) dX5_goOrStay_134 ?_
        rw [e1]
        refine hm_iconst dX5_goOrStay_135 (v := 1) (by decide) ?_
        refine hm_icmp_eq 162 dX5_goOrStay_136 (by decide) (fun h136 => ?_) (fun h136 => ?_)
        · skip
          refine hm_iinc dX5_goOrStay_162 rfl _ rfl (by decide) rfl ?_
          refine hm_goto 112 dX5_goOrStay_165 (by decide) ?_
          first | exact ih2 _ _ _ (by omega) (by unfold pNoB; rw [if_pos (by simp [*])]; exact hρ) (hf.tr hf2) (hm_inc p) | exact ih2 _ _ _ (by omega) (by unfold pNoB; rw [if_neg (by simp [*])]; exact hτ) hf (hm_inc p)
        · skip
          refine hm_aload_n dX5_goOrStay_139 rfl ?_
          refine hm_getR lf_RX5_27 rfl rfl (by first | exact Nat.lt_of_lt_of_le (by decide) hN | assumption | (simp only [hm_n_wI, hm_n_wL, hm_n_wR, hm_n_g] at *; omega)) (hM 7) dX5_goOrStay_140 ?_
          refine hm_iload_n dX5_goOrStay_143 rfl ?_
          refine hm_iald _ rfl (by first | exact Nat.lt_of_lt_of_le (by decide) hN | assumption | (simp only [hm_n_wI, hm_n_wL, hm_n_wR, hm_n_g] at *; omega)) rfl (by omega) (by decide) dX5_goOrStay_144 ?_
          rw [e1]
          refine hm_iconst dX5_goOrStay_145 (v := 4) (by decide) ?_
          refine hm_icmp_eq 162 dX5_goOrStay_146 (by decide) (fun h146 => ?_) (fun h146 => ?_)
          · skip
            refine hm_iinc dX5_goOrStay_162 rfl _ rfl (by decide) rfl ?_
            refine hm_goto 112 dX5_goOrStay_165 (by decide) ?_
            first | exact ih2 _ _ _ (by omega) (by unfold pNoB; rw [if_pos (by simp [*])]; exact hρ) (hf.tr hf2) (hm_inc p) | exact ih2 _ _ _ (by omega) (by unfold pNoB; rw [if_neg (by simp [*])]; exact hτ) hf (hm_inc p)
          · skip
            refine hm_aload_n dX5_goOrStay_149 rfl ?_
            refine hm_iload_n dX5_goOrStay_150 rfl ?_
            refine hm_callV lm_RX5_151 (r5_bearersOf l hτ wτ (by omega)) rfl rfl rfl rfl (by first | exact Nat.lt_of_lt_of_le (by decide) hN | assumption | (simp only [hm_n_wI, hm_n_wL, hm_n_wR, hm_n_g] at *; omega)) (by decide) (by decide) (Nat.le_of_ble_eq_true rfl) dX5_goOrStay_151 ?_
            rintro _ _ ⟨rfl, rfl⟩
            refine hm_if_ne 162 dX5_goOrStay_154 (by decide) (fun h154 => ?_) (fun h154 => ?_)
            · skip
              rw [q0] at h154
              refine hm_iinc dX5_goOrStay_162 rfl _ rfl (by decide) rfl ?_
              refine hm_goto 112 dX5_goOrStay_165 (by decide) ?_
              first | exact ih2 _ _ _ (by omega) (by unfold pNoB; rw [if_pos (by simp [*])]; exact hρ) (hf.tr hf2) (hm_inc p) | exact ih2 _ _ _ (by omega) (by unfold pNoB; rw [if_neg (by simp [*])]; exact hτ) hf (hm_inc p)
            · skip
              rw [q0] at h154
              refine hm_aload_n dX5_goOrStay_157 rfl ?_
              refine hm_iload_n dX5_goOrStay_158 rfl ?_
              refine hm_callV lm_RX5_125 (r5_ends l hτ wτ (by omega) h126) rfl rfl rfl rfl (by first | exact Nat.lt_of_lt_of_le (by decide) hN | assumption | (simp only [hm_n_wI, hm_n_wL, hm_n_wR, hm_n_g] at *; omega)) (by decide) (by decide) (Nat.le_of_ble_eq_true rfl) dX5_goOrStay_159 ?_
              rintro _ ρ ⟨rfl, hρ, hf2⟩
              obtain ⟨hN, hM⟩ := hρ.m
              refine hm_iinc dX5_goOrStay_162 rfl _ rfl (by decide) rfl ?_
              refine hm_goto 112 dX5_goOrStay_165 (by decide) ?_
              first | exact ih2 _ _ _ (by omega) (by unfold pNoB; rw [if_pos (by simp [*])]; exact hρ) (hf.tr hf2) (hm_inc p) | exact ih2 _ _ _ (by omega) (by unfold pNoB; rw [if_neg (by simp [*])]; exact hτ) hf (hm_inc p)
  have hl2 : ∀ (k p : Nat) (τ : hm_M) (u : Int32) (y : Value), p + k = nPort α → rM (pAll pHand (pDropF α) p) τ → md_fr σ τ → u = nI p → hm_V l RX5 cX5_goOrStay 3 none false (hm_rm 3 0 0) 0 0 Q 0 0 35 [.ref 27, .int u, y] [] τ := by
    intro k
    induction k with
    | zero =>
      intro p τ u y hk hτ hf hu
      subst hu
      obtain ⟨hN, hM⟩ := hτ.m
      have hpn : p = nPort α := by omega
      have e0 : hm_I τ 27 2 = nI (nPort α) := (hτ.n 1 0 (by decide)).trans (congrArg nI (pAll_nP nP_hand _ p))
      refine hm_iload_n dX5_goOrStay_35 rfl ?_
      refine hm_aload_n dX5_goOrStay_36 rfl ?_
      refine hm_getI lf_RX5_92 rfl rfl (by first | exact Nat.lt_of_lt_of_le (by decide) hN | assumption | (simp only [hm_n_wI, hm_n_wL, hm_n_wR, hm_n_g] at *; omega)) dX5_goOrStay_37 ?_
      rw [e0]
      refine hm_icmp_ge 110 dX5_goOrStay_40 (by decide) (fun _ => ?_) (fun h40 => absurd (nI_le (by omega) (by omega)) h40)
      refine hm_iconst dX5_goOrStay_110 (v := 0) (by decide) ?_
      refine hm_istore_n dX5_goOrStay_111 (by decide) rfl ?_
      exact hl3 _ 0 _ _ _ (Nat.zero_add _) (by show rM (pAllP pHand (pDropF α)) τ; unfold pAllP; rw [show nPort (pDropF α) = nPort α from rfl, ← hpn]; exact hτ) hf rfl
    | succ k ih =>
      intro p τ u y hk hτ hf hu
      subst hu
      obtain ⟨hN, hM⟩ := hτ.m
      have wτ : sW (pAll pHand (pDropF α) p) := pAll_sW nP_hand (fun β p wb hp => wb.hand p) w1 p (by show p ≤ nPort α; omega)
      have nτ : nPort (pAll pHand (pDropF α) p) = nPort α := pAll_nP nP_hand _ p
      have e0 : hm_I τ 27 2 = nI (nPort α) := (hτ.n 1 0 (by decide)).trans (congrArg nI nτ)
      have hstep : pAll pHand (pDropF α) (p + 1) = pHand (pAll pHand (pDropF α) p) p := rfl
      have ih2 := ih (p + 1)
      rw [hstep] at ih2
      generalize pAll pHand (pDropF α) p = β at hτ wτ nτ ih2
      have hnb := wτ.nb p
      have hlb := wτ.len
      obtain ⟨c1, c2⟩ := hτ.b
      have q0 : nI (pNb β p) = 2 ↔ pNb β p = 2 := nI_eq (b := 2) (by omega) (by decide)
      by_cases hn2 : pNb β p = 2
      · rcases fi_cases (fun x => decide (bOf x = p)) (aB β) with ⟨-, -, d0⟩ | ⟨i, x0, d1, d2, d3, d4, d5, d6, d7⟩
        · have d0' : pNb β p = 0 := d0
          omega
        obtain ⟨j, x, f1, f2, f3, f4, f5⟩ := two_last hn2 d1
        have hfi : pFi β p = some i := d1
        have hlast : pLast β p = some x := f5
        have hjl := (List.getElem?_eq_some_iff.mp f2).1
        have hC : pHandC β p = bGd x := by unfold pHandC; rw [hn2, hlast]; rfl
        have hw : ∀ (n m : Nat) (v : Int32), m + n = j → i < m → v = nI m → hm_V l RX5 cX5_goOrStay 3 none false (hm_rm 3 0 0) 0 0 Q 0 0 60 [.ref 27, .int (nI p), .int v] [] τ := by
          intro n
          induction n with
          | zero =>
            intro m v hm him hv
            subst hv
            obtain rfl : m = j := by omega
            have g1 := (c2 m x f2).1
            have g5 := (c2 m x f2).2.2.2.2
            have gp : bOf x = p := by simpa using f3
            have e9 : hm_I τ 27 30 = aI β 4 3 := hτ.i 4 3 (by decide)
            refine hm_aload_n dX5_goOrStay_60 rfl ?_
            refine hm_getR lf_RX5_42 rfl rfl (by first | exact Nat.lt_of_lt_of_le (by decide) hN | assumption | (simp only [hm_n_wI, hm_n_wL, hm_n_wR, hm_n_g] at *; omega)) (hM 13) dX5_goOrStay_61 ?_
            refine hm_iload_n dX5_goOrStay_64 rfl ?_
            refine hm_iald _ rfl (by first | exact Nat.lt_of_lt_of_le (by decide) hN | assumption | (simp only [hm_n_wI, hm_n_wL, hm_n_wR, hm_n_g] at *; omega)) rfl (by omega) (by decide) dX5_goOrStay_65 ?_
            rw [g1, gp]
            refine hm_iload_n dX5_goOrStay_66 rfl ?_
            refine hm_icmp_eq 76 dX5_goOrStay_67 (by decide) (fun _ => ?_) (fun h67 => absurd (rfl) h67)
            refine hm_aload_n dX5_goOrStay_76 rfl ?_
            refine hm_getR lf_RX5_54 rfl rfl (by first | exact Nat.lt_of_lt_of_le (by decide) hN | assumption | (simp only [hm_n_wI, hm_n_wL, hm_n_wR, hm_n_g] at *; omega)) (hM 17) dX5_goOrStay_77 ?_
            refine hm_iload_n dX5_goOrStay_80 rfl ?_
            refine hm_zald _ rfl (by first | exact Nat.lt_of_lt_of_le (by decide) hN | assumption | (simp only [hm_n_wI, hm_n_wL, hm_n_wR, hm_n_g] at *; omega)) rfl (by omega) (by decide) dX5_goOrStay_81 ?_
            rw [g5]
            refine hm_if_eq 104 dX5_goOrStay_82 (by decide) (fun h82 => ?_) (fun h82 => ?_)
            · skip
              rw [bI_0] at h82
              refine hm_iinc dX5_goOrStay_104 rfl _ rfl (by decide) rfl ?_
              refine hm_goto 35 dX5_goOrStay_107 (by decide) ?_
              first | exact ih2 _ _ _ (by omega) (by unfold pHand; rw [if_pos (by rw [hC]; exact b_nf h82), rm_er p _ i d1]; exact hρ.upI 4 3 _ (by decide)) ((hf.tr hf2).wI 27 30 _ (by decide)) (hm_inc p) | exact ih2 _ _ _ (by omega) (by unfold pHand; rw [if_neg (by rw [hC, h82]; decide)]; exact hτ) hf (hm_inc p)
            · skip
              rw [bI_0] at h82
              refine hm_aload_n dX5_goOrStay_85 rfl ?_
              refine hm_aload_n dX5_goOrStay_86 rfl ?_
              refine hm_iload_n dX5_goOrStay_87 rfl ?_
              refine hm_callV lm_RX5_154 (r5_bearerOf l hτ wτ (by omega)) rfl rfl rfl rfl (by first | exact Nat.lt_of_lt_of_le (by decide) hN | assumption | (simp only [hm_n_wI, hm_n_wL, hm_n_wR, hm_n_g] at *; omega)) (by decide) (by decide) (Nat.le_of_ble_eq_true rfl) dX5_goOrStay_88 ?_
              rintro _ _ ⟨rfl, rfl⟩
              rw [hfi]
              refine hm_callV lm_RX5_112 (r5_dropBearer l hτ hlb d5) rfl rfl rfl rfl (by first | exact Nat.lt_of_lt_of_le (by decide) hN | assumption | (simp only [hm_n_wI, hm_n_wL, hm_n_wR, hm_n_g] at *; omega)) (by decide) (by decide) (Nat.le_of_ble_eq_true rfl) dX5_goOrStay_91 ?_
              rintro _ ρ ⟨rfl, hρ, hf2⟩
              obtain ⟨hN, hM⟩ := hρ.m
              have e9 : hm_I ρ 27 30 = aI β 4 3 := hρ.i 4 3 (by decide)
              refine hm_aload_n dX5_goOrStay_94 rfl ?_
              refine hm_dup dX5_goOrStay_95 rfl ?_
              refine hm_getI lf_RX5_169 rfl rfl (by first | exact Nat.lt_of_lt_of_le (by decide) hN | assumption | (simp only [hm_n_wI, hm_n_wL, hm_n_wR, hm_n_g] at *; omega)) dX5_goOrStay_96 ?_
              rw [e9]
              refine hm_iconst dX5_goOrStay_99 (v := 1) (by decide) ?_
              refine hm_iadd dX5_goOrStay_100 ?_
              refine hm_putI lf_RX5_169 rfl rfl rfl (by first | exact Nat.lt_of_lt_of_le (by decide) hN | assumption | (simp only [hm_n_wI, hm_n_wL, hm_n_wR, hm_n_g] at *; omega)) dX5_goOrStay_101 ?_
              refine hm_iinc dX5_goOrStay_104 rfl _ rfl (by decide) rfl ?_
              refine hm_goto 35 dX5_goOrStay_107 (by decide) ?_
              first | exact ih2 _ _ _ (by omega) (by unfold pHand; rw [if_pos (by rw [hC]; exact b_nf h82), rm_er p _ i d1]; exact hρ.upI 4 3 _ (by decide)) ((hf.tr hf2).wI 27 30 _ (by decide)) (hm_inc p) | exact ih2 _ _ _ (by omega) (by unfold pHand; rw [if_neg (by rw [hC, h82]; decide)]; exact hτ) hf (hm_inc p)
          | succ n ihn =>
            intro m v hm him hv
            subst hv
            obtain ⟨y2, hy2⟩ : ∃ y2, (aB β)[m]? = some y2 := ⟨_, List.getElem?_eq_getElem (by omega)⟩
            have g1 := (c2 m y2 hy2).1
            have g2 : ¬ bOf y2 = p := by simpa using f4 m y2 him (by omega) hy2
            have gb := (wτ.xb hy2).1
            have q3 : nI (bOf y2) = nI p ↔ bOf y2 = p := nI_eq (by omega) (by omega)
            refine hm_aload_n dX5_goOrStay_60 rfl ?_
            refine hm_getR lf_RX5_42 rfl rfl (by first | exact Nat.lt_of_lt_of_le (by decide) hN | assumption | (simp only [hm_n_wI, hm_n_wL, hm_n_wR, hm_n_g] at *; omega)) (hM 13) dX5_goOrStay_61 ?_
            refine hm_iload_n dX5_goOrStay_64 rfl ?_
            refine hm_iald _ rfl (by first | exact Nat.lt_of_lt_of_le (by decide) hN | assumption | (simp only [hm_n_wI, hm_n_wL, hm_n_wR, hm_n_g] at *; omega)) rfl (by omega) (by decide) dX5_goOrStay_65 ?_
            rw [g1]
            refine hm_iload_n dX5_goOrStay_66 rfl ?_
            refine hm_icmp_eq 76 dX5_goOrStay_67 (by decide) (fun h67 => absurd h67 (fun e => g2 (q3.mp e))) (fun _ => ?_)
            refine hm_iinc dX5_goOrStay_70 rfl _ rfl (by decide) rfl ?_
            refine hm_goto 60 dX5_goOrStay_73 (by decide) ?_
            exact ihn (m + 1) _ (by omega) (by omega) (hm_inc m)
        refine hm_iload_n dX5_goOrStay_35 rfl ?_
        refine hm_aload_n dX5_goOrStay_36 rfl ?_
        refine hm_getI lf_RX5_92 rfl rfl (by first | exact Nat.lt_of_lt_of_le (by decide) hN | assumption | (simp only [hm_n_wI, hm_n_wL, hm_n_wR, hm_n_g] at *; omega)) dX5_goOrStay_37 ?_
        rw [e0]
        refine hm_icmp_ge 110 dX5_goOrStay_40 (by decide) (fun h40 => absurd h40 (nI_ge (by omega) (by omega))) (fun _ => ?_)
        refine hm_aload_n dX5_goOrStay_43 rfl ?_
        refine hm_iload_n dX5_goOrStay_44 rfl ?_
        refine hm_callV lm_RX5_151 (r5_bearersOf l hτ wτ (by omega)) rfl rfl rfl rfl (by first | exact Nat.lt_of_lt_of_le (by decide) hN | assumption | (simp only [hm_n_wI, hm_n_wL, hm_n_wR, hm_n_g] at *; omega)) (by decide) (by decide) (Nat.le_of_ble_eq_true rfl) dX5_goOrStay_45 ?_
        rintro _ _ ⟨rfl, rfl⟩
        refine hm_iconst dX5_goOrStay_48 (v := 2) (by decide) ?_
        refine hm_icmp_ne 104 dX5_goOrStay_49 (by decide) (fun h49 => absurd (q0.mpr hn2) h49) (fun _ => ?_)
        refine hm_aload_n dX5_goOrStay_52 rfl ?_
        refine hm_iload_n dX5_goOrStay_53 rfl ?_
        refine hm_callV lm_RX5_154 (r5_bearerOf l hτ wτ (by omega)) rfl rfl rfl rfl (by first | exact Nat.lt_of_lt_of_le (by decide) hN | assumption | (simp only [hm_n_wI, hm_n_wL, hm_n_wR, hm_n_g] at *; omega)) (by decide) (by decide) (Nat.le_of_ble_eq_true rfl) dX5_goOrStay_54 ?_
        rintro _ _ ⟨rfl, rfl⟩
        rw [hfi]
        refine hm_iconst dX5_goOrStay_57 (v := 1) (by decide) ?_
        refine hm_iadd dX5_goOrStay_58 ?_
        refine hm_istore_n dX5_goOrStay_59 (by decide) rfl ?_
        exact hw (j - (i + 1)) (i + 1) _ (by omega) (by omega) (nI_1 i)
      · skip
        refine hm_iload_n dX5_goOrStay_35 rfl ?_
        refine hm_aload_n dX5_goOrStay_36 rfl ?_
        refine hm_getI lf_RX5_92 rfl rfl (by first | exact Nat.lt_of_lt_of_le (by decide) hN | assumption | (simp only [hm_n_wI, hm_n_wL, hm_n_wR, hm_n_g] at *; omega)) dX5_goOrStay_37 ?_
        rw [e0]
        refine hm_icmp_ge 110 dX5_goOrStay_40 (by decide) (fun h40 => absurd h40 (nI_ge (by omega) (by omega))) (fun _ => ?_)
        refine hm_aload_n dX5_goOrStay_43 rfl ?_
        refine hm_iload_n dX5_goOrStay_44 rfl ?_
        refine hm_callV lm_RX5_151 (r5_bearersOf l hτ wτ (by omega)) rfl rfl rfl rfl (by first | exact Nat.lt_of_lt_of_le (by decide) hN | assumption | (simp only [hm_n_wI, hm_n_wL, hm_n_wR, hm_n_g] at *; omega)) (by decide) (by decide) (Nat.le_of_ble_eq_true rfl) dX5_goOrStay_45 ?_
        rintro _ _ ⟨rfl, rfl⟩
        refine hm_iconst dX5_goOrStay_48 (v := 2) (by decide) ?_
        refine hm_icmp_ne 104 dX5_goOrStay_49 (by decide) (fun _ => ?_) (fun h49 => absurd h49 (fun e => hn2 (q0.mp e)))
        refine hm_iinc dX5_goOrStay_104 rfl _ rfl (by decide) rfl ?_
        refine hm_goto 35 dX5_goOrStay_107 (by decide) ?_
        exact ih2 _ _ _ (by omega) (by unfold pHand; rw [if_neg (by unfold pHandC; simp [hn2])]; exact hτ) hf (hm_inc p)
  have hl1 : ∀ (b : Nat) (τ : hm_M) (u : Int32), b ≤ (aB α).length → rM (sB α ((aB α).take b ++ ((aB α).drop b).filter (fun x => !decide ((8 : Int32) ≤ bFl x)))) τ → md_fr σ τ → u = nI b - 1 → hm_V l RX5 cX5_goOrStay 3 none false (hm_rm 3 0 0) 0 0 Q 0 0 7 [.ref 27, .int u, hm_u] [] τ := by
    intro b
    induction b with
    | zero =>
      intro τ u hb hτ hf hu
      subst hu
      obtain ⟨hN, hM⟩ := hτ.m
      refine hm_iload_n dX5_goOrStay_7 rfl ?_
      refine hm_if_lt 33 dX5_goOrStay_8 (by decide) (fun _ => ?_) (fun h8 => absurd (by decide) h8)
      refine hm_iconst dX5_goOrStay_33 (v := 0) (by decide) ?_
      refine hm_istore_n dX5_goOrStay_34 (by decide) rfl ?_
      exact hl2 _ 0 _ _ _ (Nat.zero_add _) (by show rM (sB α ((aB α).filter (fun x => !decide ((8 : Int32) ≤ bFl x)))) τ; simpa using hτ) hf rfl
    | succ b ih =>
      intro τ u hb hτ hf hu
      have hu : u = nI b := by rw [hu]; exact nI_pred b
      subst hu
      obtain ⟨hN, hM⟩ := hτ.m
      obtain ⟨x, hx⟩ : ∃ x, (aB α)[b]? = some x := ⟨_, List.getElem?_eq_getElem (by omega)⟩
      have hd : (aB α).drop b = x :: (aB α).drop (b + 1) := by rw [← List.getElem_cons_drop (show b < (aB α).length by omega)]; congr 1; exact Option.some.inj ((List.getElem?_eq_getElem _).symm.trans hx)
      have ht : (aB α).take (b + 1) = (aB α).take b ++ [x] := by rw [List.take_succ, hx]; rfl
      rw [ht, List.append_assoc, List.singleton_append] at hτ
      have htl : ((aB α).take b).length = b := by rw [List.length_take]; omega
      have hlf := List.length_filter_le (fun x => !decide ((8 : Int32) ≤ bFl x)) ((aB α).drop (b + 1))
      rw [List.length_drop] at hlf
      have ih2 := ih
      rw [hd, List.filter_cons] at ih2
      generalize hZ : ((aB α).drop (b + 1)).filter (fun x => !decide ((8 : Int32) ≤ bFl x)) = Z at hτ ih2 hlf
      generalize hA : (aB α).take b = A at hτ ih2 htl
      have hC : (aB (sB α (A ++ x :: Z)))[b]? = some x := by
        rw [aB_sB, List.getElem?_append_right (by omega), htl, Nat.sub_self]; rfl
      have e4 := (hτ.b.2 b x hC).2.2.2.1
      have hlC : (aB (sB α (A ++ x :: Z))).length ≤ 16 := by
        rw [aB_sB, List.length_append, htl, List.length_cons]
        omega
      have hbl : b < (aB (sB α (A ++ x :: Z))).length := (List.getElem?_eq_some_iff.mp hC).1
      have her : (aB (sB α (A ++ x :: Z))).eraseIdx b = A ++ Z := by
        rw [aB_sB]
        have := er_mid A Z x
        rw [htl] at this
        exact this
      refine hm_iload_n dX5_goOrStay_7 rfl ?_
      refine hm_if_lt 33 dX5_goOrStay_8 (by decide) (fun h8 => absurd h8 (nI_pos (by omega))) (fun _ => ?_)
      refine hm_aload_n dX5_goOrStay_11 rfl ?_
      refine hm_getR lf_RX5_51 rfl rfl (by first | exact Nat.lt_of_lt_of_le (by decide) hN | assumption | (simp only [hm_n_wI, hm_n_wL, hm_n_wR, hm_n_g] at *; omega)) (hM 16) dX5_goOrStay_12 ?_
      refine hm_iload_n dX5_goOrStay_15 rfl ?_
      refine hm_iald _ rfl (by first | exact Nat.lt_of_lt_of_le (by decide) hN | assumption | (simp only [hm_n_wI, hm_n_wL, hm_n_wR, hm_n_g] at *; omega)) rfl (by omega) (by decide) dX5_goOrStay_16 ?_
      rw [e4]
      refine hm_bipush dX5_goOrStay_17 (v := 8) (by decide) ?_
      refine hm_icmp_lt 27 dX5_goOrStay_19 (by decide) (fun h19 => ?_) (fun h19 => ?_)
      · skip
        refine hm_iinc dX5_goOrStay_27 rfl _ rfl (by decide) rfl ?_
        refine hm_goto 7 dX5_goOrStay_30 (by decide) ?_
        first | (refine ih2 _ _ (by omega) ?_ (hf.tr hf2) (hm_m1 _); rw [if_neg (by simpa using h19)]; exact hρ) | (refine ih2 _ _ (by omega) ?_ hf (hm_m1 _); rw [if_pos (by simpa using h19)]; exact hτ)
      · skip
        refine hm_aload_n dX5_goOrStay_22 rfl ?_
        refine hm_iload_n dX5_goOrStay_23 rfl ?_
        refine hm_callV lm_RX5_112 (r5_dropBearer l hτ hlC hbl) rfl rfl rfl rfl (by first | exact Nat.lt_of_lt_of_le (by decide) hN | assumption | (simp only [hm_n_wI, hm_n_wL, hm_n_wR, hm_n_g] at *; omega)) (by decide) (by decide) (Nat.le_of_ble_eq_true rfl) dX5_goOrStay_24 ?_
        rintro _ ρ ⟨rfl, hρ, hf2⟩
        rw [her] at hρ
        obtain ⟨hN, hM⟩ := hρ.m
        refine hm_iinc dX5_goOrStay_27 rfl _ rfl (by decide) rfl ?_
        refine hm_goto 7 dX5_goOrStay_30 (by decide) ?_
        first | (refine ih2 _ _ (by omega) ?_ (hf.tr hf2) (hm_m1 _); rw [if_neg (by simpa using h19)]; exact hρ) | (refine ih2 _ _ (by omega) ?_ hf (hm_m1 _); rw [if_pos (by simpa using h19)]; exact hτ)
  refine hm_aload_n dX5_goOrStay_0 rfl ?_
  refine hm_getI lf_RX5_109 rfl rfl (by first | exact Nat.lt_of_lt_of_le (by decide) hN | assumption | (simp only [hm_n_wI, hm_n_wL, hm_n_wR, hm_n_g] at *; omega)) dX5_goOrStay_1 ?_
  rw [hb1]
  refine hm_iconst dX5_goOrStay_4 (v := 1) (by decide) ?_
  refine hm_isub dX5_goOrStay_5 ?_
  refine hm_istore_n dX5_goOrStay_6 (by decide) rfl ?_
  exact hl1 (aB α).length _ _ (Nat.le_refl _) (by rw [List.take_length, List.drop_length, List.filter_nil, List.append_nil]; exact h.mid _ rfl) (md_fr.rf σ) rfl
end M10
