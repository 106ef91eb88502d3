/-! the class's radio: bearers, looked at -/
theorem rC.ba {α : sA} {σ : hm_M} (h : rC α σ) {b : Nat} {x : sBr} (hx : (aB α)[b]? = some x) : ∃ a, hm_R σ 8 b = some a ∧ (9 ≤ a ∧ a < 25) ∧ hm_S a = (0, 0) ∧ cs_ar σ a x := by
  have hl := h.b.lt hx
  obtain ⟨-, π, hpi, hb3⟩ := h.b
  have h2 := (hpi.1 b hl).2
  exact ⟨9 + π b, (hpi.1 b hl).1, by omega, S_b _ h2, hb3 b x hx⟩
theorem rC.bl {α : sA} {σ : hm_M} (h : rC α σ) : hm_I σ 1 2 = nI (aB α).length := h.b.1.1
def pLiS (α : sA) (p : Nat) (o : Option Nat) : Prop := match o with
  | none => ∀ (j : Nat) (y : sBr), (aB α)[j]? = some y → bOf y ≠ p
  | some i => ∃ x, (aB α)[i]? = some x ∧ bOf x = p ∧ ∀ (j : Nat) (y : sBr), i < j → (aB α)[j]? = some y → bOf y ≠ p
theorem cnt_split {β : Type} (f : β → Bool) {l : List β} {i : Nat} {x : β} (hx : l[i]? = some x) : l.countP f = (l.take i).countP f + ((if f x then 1 else 0) + (l.drop (i + 1)).countP f) := by
  have hlt := (List.getElem?_eq_some_iff.mp hx).1
  have e : l.drop i = x :: l.drop (i + 1) := by
    rw [← List.getElem_cons_drop hlt]; congr 1; exact Option.some.inj ((List.getElem?_eq_getElem _).symm.trans hx)
  conv => lhs; rw [← List.take_append_drop i l, List.countP_append, e, List.countP_cons]
  omega
theorem cnt_one {β : Type} {f : β → Bool} {l : List β} {i j : Nat} {x y : β} (hx : l[i]? = some x) (fx : f x = true) (hi : ∀ (k : Nat) (z : β), k < i → l[k]? = some z → f z = false) (hy : l[j]? = some y) (fy : f y = true) (hj : ∀ (k : Nat) (z : β), j < k → l[k]? = some z → f z = false) : (i = j → l.countP f = 1) ∧ (i ≠ j → 2 ≤ l.countP f) := by
  constructor
  · rintro rfl
    rw [cnt_split f hx, fx]
    have h1 : (l.take i).countP f = 0 := List.countP_eq_zero.mpr fun z hz => by
      obtain ⟨k, hk⟩ := List.getElem?_of_mem hz
      have hk1 := (List.getElem?_eq_some_iff.mp hk).1
      rw [List.length_take] at hk1
      rw [List.getElem?_take] at hk
      rw [if_pos (by omega)] at hk
      rw [hi k z (by omega) hk]; decide
    have h2 : (l.drop (i + 1)).countP f = 0 := List.countP_eq_zero.mpr fun z hz => by
      obtain ⟨k, hk⟩ := List.getElem?_of_mem hz
      rw [List.getElem?_drop] at hk
      rw [hj _ z (by omega) hk]; decide
    rw [h1, h2]; rfl
  · intro hne
    have hij : i < j := by
      rcases Nat.lt_trichotomy i j with h | h | h
      · exact h
      · exact absurd h hne
      · rw [hi j y h hy] at fy; cases fy
    rw [cnt_split f hx, fx]
    have : 0 < (l.drop (i + 1)).countP f := List.countP_pos_iff.mpr ⟨y, List.mem_of_getElem? (i := j - (i + 1)) (by rw [List.getElem?_drop, show i + 1 + (j - (i + 1)) = j by omega]; exact hy), fy⟩
    rw [if_pos rfl]
    omega
theorem last_find {β : Type} {f : β → Bool} {l : List β} {j : Nat} {y : β} (hy : l[j]? = some y) (fy : f y = true) (hj : ∀ (k : Nat) (z : β), j < k → l[k]? = some z → f z = false) : l.reverse.find? f = some y := by
  have hlt := (List.getElem?_eq_some_iff.mp hy).1
  refine (fi_some (i := l.length - 1 - j) (x := y) ?_ fy fun k z hk hz => ?_).2
  · rw [List.getElem?_reverse (by omega), show l.length - 1 - (l.length - 1 - j) = j by omega]; exact hy
  · have hk2 := (List.getElem?_eq_some_iff.mp hz).1
    rw [List.length_reverse] at hk2
    rw [List.getElem?_reverse hk2] at hz
    exact hj _ z (by omega) hz
section C3
variable (l : Launch) {α : sA} {σ : hm_M}
set_option maxRecDepth 100000 in
theorem k3_bearersOf (h : rC α σ) (w : sW α) {p : Nat} (hp : p < 8) : hm_Ct l yX3_bearersOf cX3_bearersOf 4 (some .int) 0 0 0 [.ref 1, .int (nI p)] σ (fun r τ => r = some (.int (nI (pNb α p))) ∧ τ = σ) := by
  have hN := h.N
  have hA := h.r.2.2
  have hb1 := h.bl
  have hlen := w.len
  refine hm_startQ (ini := false) [.ref 1, .int (nI p), hm_u, hm_u] (by decide) (by decide) rfl (Nat.le_of_ble_eq_true rfl) (fun Q hQ => ?_)
  have hl : ∀ (k b : Nat) (v u : Int32), b + k = (aB α).length → v = nI (((aB α).take b).countP (fun x => decide (bOf x = p))) → u = nI b → hm_V l RX3 cX3_bearersOf 4 (some .int) false (hm_rm 0 0 0) 0 0 Q 0 0 4 [.ref 1, .int (nI p), .int v, .int u] [] σ := by
    intro k
    induction k with
    | zero =>
      intro b v u hk hv hu
      subst hu
      have hb : b = (aB α).length := by omega
      subst hb
      rw [List.take_length] at hv
      refine hm_iload_n dX3_bearersOf_4 rfl ?_
      refine hm_aload_n dX3_bearersOf_5 rfl ?_
      refine hm_getI lf_RX3_58 rfl rfl (by first | exact Nat.lt_of_lt_of_le (by decide) hN | assumption | (simp only [hm_n_wI, hm_n_wL, hm_n_wR, hm_n_g] at *; omega)) dX3_bearersOf_6 ?_
      rw [hb1]
      refine hm_icmp_ge 34 dX3_bearersOf_9 (by decide) (fun _ => ?_) (fun h9 => absurd (nI_le (Nat.le_refl _) (by omega)) h9)
      refine hm_iload_n dX3_bearersOf_34 rfl ?_
      refine hm_iret dX3_bearersOf_35 rfl (by decide) (by decide) ?_
      exact hQ _ _ ⟨by rw [hv]; rfl, rfl⟩
    | succ k ih =>
      intro b v u hk hv hu
      subst hu
      obtain ⟨x, hx⟩ : ∃ x, (aB α)[b]? = some x := ⟨_, List.getElem?_eq_getElem (by omega)⟩
      obtain ⟨a, hR, ha, hSa, e1, e2, e3, e4, e5⟩ := h.ba hx
      obtain ⟨x1, x2, x3⟩ := w.xb hx
      have q1 : nI (bOf x) = nI p ↔ bOf x = p := nI_eq (by omega) (by omega)
      have ih2 := ih (b + 1)
      rw [countP_take hx] at ih2
      subst hv
      refine hm_iload_n dX3_bearersOf_4 rfl ?_
      refine hm_aload_n dX3_bearersOf_5 rfl ?_
      refine hm_getI lf_RX3_58 rfl rfl (by first | exact Nat.lt_of_lt_of_le (by decide) hN | assumption | (simp only [hm_n_wI, hm_n_wL, hm_n_wR, hm_n_g] at *; omega)) dX3_bearersOf_6 ?_
      rw [hb1]
      refine hm_icmp_ge 34 dX3_bearersOf_9 (by decide) (fun h9 => absurd h9 (nI_ge (by omega) (by omega))) (fun _ => ?_)
      refine hm_aload_n dX3_bearersOf_12 rfl ?_
      refine hm_getR lf_RX3_32 rfl rfl (by first | exact Nat.lt_of_lt_of_le (by decide) hN | assumption | (simp only [hm_n_wI, hm_n_wL, hm_n_wR, hm_n_g] at *; omega)) (hA 10) dX3_bearersOf_13 ?_
      refine hm_iload_n dX3_bearersOf_16 rfl ?_
      refine hm_aald _ (.ref a) rfl (by decide) (by first | exact Nat.lt_of_lt_of_le (by decide) hN | assumption | (simp only [hm_n_wI, hm_n_wL, hm_n_wR, hm_n_g] at *; omega)) rfl (by omega) (by decide) (Or.inr ⟨a, rfl, hR⟩) dX3_bearersOf_17 ?_
      refine hm_getI lf_RX3_61 rfl hSa (by omega) dX3_bearersOf_18 ?_
      rw [e1]
      refine hm_iload_n dX3_bearersOf_21 rfl ?_
      refine hm_icmp_ne 28 dX3_bearersOf_22 (by decide) (fun h22 => ?_) (fun h22 => ?_)
      · skip
        rw [q1] at h22
        refine hm_iinc dX3_bearersOf_28 rfl _ rfl (by decide) rfl ?_
        refine hm_goto 4 dX3_bearersOf_31 (by decide) ?_
        exact ih2 _ _ (by omega) (by simp_all [nI_succ]) (hm_inc b)
      · skip
        rw [q1] at h22
        refine hm_iinc dX3_bearersOf_25 rfl _ rfl (by decide) rfl ?_
        refine hm_iinc dX3_bearersOf_28 rfl _ rfl (by decide) rfl ?_
        refine hm_goto 4 dX3_bearersOf_31 (by decide) ?_
        exact ih2 _ _ (by omega) (by simp_all [nI_succ]) (hm_inc b)
  refine hm_iconst dX3_bearersOf_0 (v := 0) (by decide) ?_
  refine hm_istore_n dX3_bearersOf_1 (by decide) rfl ?_
  refine hm_iconst dX3_bearersOf_2 (v := 0) (by decide) ?_
  refine hm_istore_n dX3_bearersOf_3 (by decide) rfl ?_
  exact hl _ 0 _ _ (Nat.zero_add _) rfl rfl
set_option maxRecDepth 100000 in
theorem k3_firstBearerOf (h : rC α σ) (w : sW α) {p : Nat} (hp : p < 8) : hm_Ct l yX3_firstBearerOf cX3_firstBearerOf 3 (some .int) 0 0 0 [.ref 1, .int (nI p)] σ (fun r τ => r = some (.int (oI (pFi α p) (-9))) ∧ τ = σ) := by
  have hN := h.N
  have hA := h.r.2.2
  have hb1 := h.bl
  have hlen := w.len
  refine hm_startQ (ini := false) [.ref 1, .int (nI p), hm_u] (by decide) (by decide) rfl (Nat.le_of_ble_eq_true rfl) (fun Q hQ => ?_)
  have hl : ∀ (k b : Nat) (u : Int32), b + k = (aB α).length → (∀ j y, j < b → (aB α)[j]? = some y → decide (bOf y = p) = false) → u = nI b → hm_V l RX3 cX3_firstBearerOf 3 (some .int) false (hm_rm 0 0 0) 0 0 Q 0 0 2 [.ref 1, .int (nI p), .int u] [] σ := by
    intro k
    induction k with
    | zero =>
      intro b u hk hv hu
      subst hu
      have hb : b = (aB α).length := by omega
      subst hb
      have hf := (fi_none (f := fun x => decide (bOf x = p)) (l := aB α) (fun j y hy => hv j y (List.getElem?_eq_some_iff.mp hy).1 hy)).1
      refine hm_iload_n dX3_firstBearerOf_2 rfl ?_
      refine hm_aload_n dX3_firstBearerOf_3 rfl ?_
      refine hm_getI lf_RX3_58 rfl rfl (by first | exact Nat.lt_of_lt_of_le (by decide) hN | assumption | (simp only [hm_n_wI, hm_n_wL, hm_n_wR, hm_n_g] at *; omega)) dX3_firstBearerOf_4 ?_
      rw [hb1]
      refine hm_icmp_ge 31 dX3_firstBearerOf_7 (by decide) (fun _ => ?_) (fun h7 => absurd (nI_le (Nat.le_refl _) (by omega)) h7)
      refine hm_bipush dX3_firstBearerOf_31 (v := -9) (by decide) ?_
      refine hm_iret dX3_firstBearerOf_33 rfl (by decide) (by decide) ?_
      exact hQ _ _ ⟨by unfold pFi; rw [hf]; rfl, rfl⟩
    | succ k ih =>
      intro b u hk hv hu
      subst hu
      obtain ⟨x, hx⟩ : ∃ x, (aB α)[b]? = some x := ⟨_, List.getElem?_eq_getElem (by omega)⟩
      obtain ⟨a, hR, ha, hSa, e1, e2, e3, e4, e5⟩ := h.ba hx
      obtain ⟨x1, x2, x3⟩ := w.xb hx
      have q1 : nI (bOf x) = nI p ↔ bOf x = p := nI_eq (by omega) (by omega)
      refine hm_iload_n dX3_firstBearerOf_2 rfl ?_
      refine hm_aload_n dX3_firstBearerOf_3 rfl ?_
      refine hm_getI lf_RX3_58 rfl rfl (by first | exact Nat.lt_of_lt_of_le (by decide) hN | assumption | (simp only [hm_n_wI, hm_n_wL, hm_n_wR, hm_n_g] at *; omega)) dX3_firstBearerOf_4 ?_
      rw [hb1]
      refine hm_icmp_ge 31 dX3_firstBearerOf_7 (by decide) (fun h7 => absurd h7 (nI_ge (by omega) (by omega))) (fun _ => ?_)
      refine hm_aload_n dX3_firstBearerOf_10 rfl ?_
      refine hm_getR lf_RX3_32 rfl rfl (by first | exact Nat.lt_of_lt_of_le (by decide) hN | assumption | (simp only [hm_n_wI, hm_n_wL, hm_n_wR, hm_n_g] at *; omega)) (hA 10) dX3_firstBearerOf_11 ?_
      refine hm_iload_n dX3_firstBearerOf_14 rfl ?_
      refine hm_aald _ (.ref a) rfl (by decide) (by first | exact Nat.lt_of_lt_of_le (by decide) hN | assumption | (simp only [hm_n_wI, hm_n_wL, hm_n_wR, hm_n_g] at *; omega)) rfl (by omega) (by decide) (Or.inr ⟨a, rfl, hR⟩) dX3_firstBearerOf_15 ?_
      refine hm_getI lf_RX3_61 rfl hSa (by omega) dX3_firstBearerOf_16 ?_
      rw [e1]
      refine hm_iload_n dX3_firstBearerOf_19 rfl ?_
      refine hm_icmp_ne 25 dX3_firstBearerOf_20 (by decide) (fun h20 => ?_) (fun h20 => ?_)
      · skip
        rw [q1] at h20
        refine hm_iinc dX3_firstBearerOf_25 rfl _ rfl (by decide) rfl ?_
        refine hm_goto 2 dX3_firstBearerOf_28 (by decide) ?_
        exact ih (b + 1) _ (by omega) (fun j y hj hy => by rcases Nat.lt_or_ge j b with q | q; exact hv j y q hy; rw [show j = b by omega, hx] at hy; cases hy; simp [h20]) (hm_inc b)
      · skip
        rw [q1] at h20
        refine hm_iload_n dX3_firstBearerOf_23 rfl ?_
        refine hm_iret dX3_firstBearerOf_24 rfl (by decide) (by decide) ?_
        exact hQ _ _ ⟨by unfold pFi; rw [(fi_some (f := fun x => decide (bOf x = p)) hx (by simp [h20]) hv).1]; rfl, rfl⟩
  refine hm_iconst dX3_firstBearerOf_0 (v := 0) (by decide) ?_
  refine hm_istore_n dX3_firstBearerOf_1 (by decide) rfl ?_
  exact hl _ 0 _ (Nat.zero_add _) (fun j y hj => absurd hj (by omega)) rfl
set_option maxRecDepth 100000 in
theorem k3_lastBearerOf (h : rC α σ) (w : sW α) {p : Nat} (hp : p < 8) : hm_Ct l yX3_lastBearerOf cX3_lastBearerOf 3 (some .int) 0 0 0 [.ref 1, .int (nI p)] σ (fun r τ => ∃ o, r = some (.int (oI o (-9))) ∧ pLiS α p o ∧ τ = σ) := by
  have hN := h.N
  have hA := h.r.2.2
  have hb1 := h.bl
  have hlen := w.len
  refine hm_startQ (ini := false) [.ref 1, .int (nI p), hm_u] (by decide) (by decide) rfl (Nat.le_of_ble_eq_true rfl) (fun Q hQ => ?_)
  have hl : ∀ (b : Nat) (u : Int32), b ≤ (aB α).length → (∀ j y, b ≤ j → (aB α)[j]? = some y → bOf y ≠ p) → u = nI b - 1 → hm_V l RX3 cX3_lastBearerOf 3 (some .int) false (hm_rm 0 0 0) 0 0 Q 0 0 7 [.ref 1, .int (nI p), .int u] [] σ := by
    intro b
    induction b with
    | zero =>
      intro u hk hv hu
      subst hu
      refine hm_iload_n dX3_lastBearerOf_7 rfl ?_
      refine hm_if_lt 32 dX3_lastBearerOf_8 (by decide) (fun _ => ?_) (fun h8 => absurd (by decide) h8)
      refine hm_bipush dX3_lastBearerOf_32 (v := -9) (by decide) ?_
      refine hm_iret dX3_lastBearerOf_34 rfl (by decide) (by decide) ?_
      exact hQ _ _ ⟨none, rfl, fun j y hy => hv j y (by omega) hy, rfl⟩
    | succ b ih =>
      intro u hk hv hu
      have hu : u = nI b := by rw [hu]; exact nI_pred b
      subst hu
      obtain ⟨x, hx⟩ : ∃ x, (aB α)[b]? = some x := ⟨_, List.getElem?_eq_getElem (by omega)⟩
      obtain ⟨a, hR, ha, hSa, e1, e2, e3, e4, e5⟩ := h.ba hx
      obtain ⟨x1, x2, x3⟩ := w.xb hx
      have q1 : nI (bOf x) = nI p ↔ bOf x = p := nI_eq (by omega) (by omega)
      refine hm_iload_n dX3_lastBearerOf_7 rfl ?_
      refine hm_if_lt 32 dX3_lastBearerOf_8 (by decide) (fun h8 => absurd h8 (nI_pos (by omega))) (fun _ => ?_)
      refine hm_aload_n dX3_lastBearerOf_11 rfl ?_
      refine hm_getR lf_RX3_32 rfl rfl (by first | exact Nat.lt_of_lt_of_le (by decide) hN | assumption | (simp only [hm_n_wI, hm_n_wL, hm_n_wR, hm_n_g] at *; omega)) (hA 10) dX3_lastBearerOf_12 ?_
      refine hm_iload_n dX3_lastBearerOf_15 rfl ?_
      refine hm_aald _ (.ref a) rfl (by decide) (by first | exact Nat.lt_of_lt_of_le (by decide) hN | assumption | (simp only [hm_n_wI, hm_n_wL, hm_n_wR, hm_n_g] at *; omega)) rfl (by omega) (by decide) (Or.inr ⟨a, rfl, hR⟩) dX3_lastBearerOf_16 ?_
      refine hm_getI lf_RX3_61 rfl hSa (by omega) dX3_lastBearerOf_17 ?_
      rw [e1]
      refine hm_iload_n dX3_lastBearerOf_20 rfl ?_
      refine hm_icmp_ne 26 dX3_lastBearerOf_21 (by decide) (fun h21 => ?_) (fun h21 => ?_)
      · skip
        rw [q1] at h21
        refine hm_iinc dX3_lastBearerOf_26 rfl _ rfl (by decide) rfl ?_
        refine hm_goto 7 dX3_lastBearerOf_29 (by decide) ?_
        exact ih _ (by omega) (fun j y hj hy => by rcases Nat.lt_or_ge b j with q | q; exact hv j y q hy; rw [show j = b by omega, hx] at hy; cases hy; exact h21) (hm_m1 _)
      · skip
        rw [q1] at h21
        refine hm_iload_n dX3_lastBearerOf_24 rfl ?_
        refine hm_iret dX3_lastBearerOf_25 rfl (by decide) (by decide) ?_
        exact hQ _ _ ⟨some b, rfl, ⟨x, hx, h21, fun j y hj hy => hv j y (by omega) hy⟩, rfl⟩
  refine hm_aload_n dX3_lastBearerOf_0 rfl ?_
  refine hm_getI lf_RX3_58 rfl rfl (by first | exact Nat.lt_of_lt_of_le (by decide) hN | assumption | (simp only [hm_n_wI, hm_n_wL, hm_n_wR, hm_n_g] at *; omega)) dX3_lastBearerOf_1 ?_
  rw [hb1]
  refine hm_iconst dX3_lastBearerOf_4 (v := 1) (by decide) ?_
  refine hm_isub dX3_lastBearerOf_5 ?_
  refine hm_istore_n dX3_lastBearerOf_6 (by decide) rfl ?_
  exact hl (aB α).length _ (Nat.le_refl _) (fun j y hj hy => by have := (List.getElem?_eq_some_iff.mp hy).1; omega) rfl
/-- the first and the last bearer of a portable -/
theorem fst_last {α : sA} (w : sW α) {p : Nat} {o : Option Nat} (ho : pLiS α p o) : (pFi α p = none ∧ o = none ∧ pNb α p = 0 ∧ pFst α p = none) ∨ ∃ i j x y, pFi α p = some i ∧ o = some j ∧ (aB α)[i]? = some x ∧ (aB α)[j]? = some y ∧ pFst α p = some x ∧ pLast α p = some y ∧ bOf x = p ∧ bOf y = p ∧ (i = j ∧ pNb α p = 1 ∨ i ≠ j ∧ pNb α p = 2) ∧ ∀ (k : Nat) (z : sBr), k < i → (aB α)[k]? = some z → bOf z ≠ p := by
  rcases fi_cases (fun x => decide (bOf x = p)) (aB α) with ⟨c1, c2, c0⟩ | ⟨i, x, c1, c2, c3, c4, c5, c6, c7⟩
  · left
    refine ⟨c1, ?_, c0, c2⟩
    cases o with
    | none => rfl
    | some j =>
      obtain ⟨y, h1, h2, -⟩ := ho
      have := List.countP_eq_zero.mp c0 y (List.mem_of_getElem? h1)
      simp [h2] at this
  · right
    cases o with
    | none => exact absurd (by simpa using c3) (ho i x c2)
    | some j =>
      obtain ⟨y, h1, h2, h3⟩ := ho
      have h3' : ∀ (k : Nat) (z : sBr), j < k → (aB α)[k]? = some z → decide (bOf z = p) = false := fun k z hk hz => by simpa using h3 k z hk hz
      have hc := cnt_one (f := fun x => decide (bOf x = p)) c2 c3 c7 h1 (by simpa using h2) h3'
      refine ⟨i, j, x, y, c1, rfl, c2, h1, c4, last_find h1 (by simpa using h2) h3', by simpa using c3, h2, ?_, fun k z hk hz => by simpa using c7 k z hk hz⟩
      have hn := w.nb p
      unfold pNb at hn ⊢
      by_cases e : i = j
      · exact Or.inl ⟨e, hc.1 e⟩
      · have := hc.2 e
        exact Or.inr ⟨e, by omega⟩
set_option maxRecDepth 100000 in
theorem k3_handsOver (h : rC α σ) (w : sW α) {p : Nat} (hp : p < 8) : hm_Ct l yX3_handsOver cX3_handsOver 3 (some .boolean) 1 0 0 [.ref 1, .int (nI p)] σ (fun r τ => r = some (.int (bI (pHo α p))) ∧ τ = σ) := by
  have hN := h.N
  have hA := h.r.2.2
  have hlen := w.len
  refine hm_startQ (ini := false) [.ref 1, .int (nI p), hm_u] (by decide) (by decide) rfl (Nat.le_of_ble_eq_true rfl) (fun Q hQ => ?_)
  rcases fi_cases (fun x => decide (bOf x = p)) (aB α) with ⟨c1, c2, c0⟩ | ⟨i, x, c1, c2, c3, c4, c5, c6, c7⟩
  · skip
    have d1 : pFi α p = none := c1
    have d2 : pNb α p = 0 := c0
    refine hm_aload_n dX3_handsOver_0 rfl ?_
    refine hm_iload_n dX3_handsOver_1 rfl ?_
    refine hm_callV lm_RX3_64 (k3_firstBearerOf l h w hp) rfl rfl rfl rfl (by first | exact Nat.lt_of_lt_of_le (by decide) hN | assumption | (simp only [hm_n_wI, hm_n_wL, hm_n_wR, hm_n_g] at *; omega)) (by decide) (by decide) (Nat.le_of_ble_eq_true rfl) dX3_handsOver_2 ?_
    rintro _ t9 ⟨rfl, hh9⟩
    rw [hh9]
    clear hh9 t9
    rw [d1]
    refine hm_istore_n dX3_handsOver_5 (by decide) rfl ?_
    refine hm_iload_n dX3_handsOver_6 rfl ?_
    refine hm_if_lt 36 dX3_handsOver_7 (by decide) (fun _ => ?_) (fun h7 => absurd (by decide) h7)
    refine hm_iconst dX3_handsOver_36 (v := 0) (by decide) ?_
    refine hm_zret dX3_handsOver_37 rfl (by decide) (by decide) (by first | exact Or.inl rfl | exact Or.inr rfl | assumption) ?_
    exact hQ _ _ ⟨by unfold pHo; rw [d2]; rfl, rfl⟩
  · skip
    have d1 : pFi α p = some i := c1
    obtain ⟨a, hR, ha, hSa, e1, e2, e3, e4, e5⟩ := h.ba c2
    have d2 : pFst α p = some x := c4
    refine hm_aload_n dX3_handsOver_0 rfl ?_
    refine hm_iload_n dX3_handsOver_1 rfl ?_
    refine hm_callV lm_RX3_64 (k3_firstBearerOf l h w hp) rfl rfl rfl rfl (by first | exact Nat.lt_of_lt_of_le (by decide) hN | assumption | (simp only [hm_n_wI, hm_n_wL, hm_n_wR, hm_n_g] at *; omega)) (by decide) (by decide) (Nat.le_of_ble_eq_true rfl) dX3_handsOver_2 ?_
    rintro _ t9 ⟨rfl, hh9⟩
    rw [hh9]
    clear hh9 t9
    rw [d1]
    refine hm_istore_n dX3_handsOver_5 (by decide) rfl ?_
    refine hm_iload_n dX3_handsOver_6 rfl ?_
    refine hm_if_lt 36 dX3_handsOver_7 (by decide) (fun h7 => absurd h7 (nI_pos (by omega))) (fun _ => ?_)
    refine hm_iload_n dX3_handsOver_10 rfl ?_
    refine hm_aload_n dX3_handsOver_11 rfl ?_
    refine hm_iload_n dX3_handsOver_12 rfl ?_
    refine hm_callV lm_RX3_67 (k3_lastBearerOf l h w hp) rfl rfl rfl rfl (by first | exact Nat.lt_of_lt_of_le (by decide) hN | assumption | (simp only [hm_n_wI, hm_n_wL, hm_n_wR, hm_n_g] at *; omega)) (by decide) (by decide) (Nat.le_of_ble_eq_true rfl) dX3_handsOver_13 ?_
    rintro _ t9 ⟨o, rfl, ho, hh9⟩
    rw [hh9]
    clear hh9 t9
    rcases fst_last w ho with ⟨g1, -⟩ | ⟨i', j, x', y, g1, rfl, g3, g4, g5, g6, g7, g8, g9, -⟩
    (rw [d1] at g1; cases g1)
    (rw [d1] at g1; cases g1)
    (rw [d2] at g5; cases g5)
    have hjl := (List.getElem?_eq_some_iff.mp g4).1
    have q1 : nI i = nI j ↔ i = j := nI_eq (by omega) (by omega)
    refine hm_icmp_ne 36 dX3_handsOver_16 (by decide) (fun h16 => ?_) (fun h16 => ?_)
    · skip
      have h16 : ¬ i = j := fun e => h16 (q1.mpr e)
      have e : (0 : Int32) = bI (pHo α p) := by unfold pHo; rw [decide_eq_false (by omega)]; rfl
      refine hm_iconst dX3_handsOver_36 (v := 0) (by decide) ?_
      refine hm_zret dX3_handsOver_37 rfl (by decide) (by decide) (by first | exact Or.inl rfl | exact Or.inr rfl | assumption) ?_
      exact hQ _ _ ⟨congrArg (fun z => some (Value.int z)) e, rfl⟩
    · skip
      have h16 : i = j := q1.mp h16
      have hn1 : pNb α p = 1 := by omega
      refine hm_aload_n dX3_handsOver_19 rfl ?_
      refine hm_getR lf_RX3_32 rfl rfl (by first | exact Nat.lt_of_lt_of_le (by decide) hN | assumption | (simp only [hm_n_wI, hm_n_wL, hm_n_wR, hm_n_g] at *; omega)) (hA 10) dX3_handsOver_20 ?_
      refine hm_iload_n dX3_handsOver_23 rfl ?_
      refine hm_aald i (.ref a) rfl (by decide) (by first | exact Nat.lt_of_lt_of_le (by decide) hN | assumption | (simp only [hm_n_wI, hm_n_wL, hm_n_wR, hm_n_g] at *; omega)) rfl (by omega) (by decide) (Or.inr ⟨a, rfl, hR⟩) dX3_handsOver_24 ?_
      refine hm_getI lf_RX3_70 rfl hSa (by omega) dX3_handsOver_25 ?_
      rw [e4]
      refine hm_iconst dX3_handsOver_28 (v := 3) (by decide) ?_
      refine hm_icmp_lt 36 dX3_handsOver_29 (by decide) (fun h29 => ?_) (fun h29 => ?_)
      · skip
        have e : (0 : Int32) = bI (pHo α p) := by unfold pHo; rw [d2, hn1]; dsimp only; rw [decide_eq_false (Int32.not_le.mpr h29)]; rfl
        refine hm_iconst dX3_handsOver_36 (v := 0) (by decide) ?_
        refine hm_zret dX3_handsOver_37 rfl (by decide) (by decide) (by first | exact Or.inl rfl | exact Or.inr rfl | assumption) ?_
        exact hQ _ _ ⟨congrArg (fun z => some (Value.int z)) e, rfl⟩
      · skip
        have e : (1 : Int32) = bI (pHo α p) := by unfold pHo; rw [d2, hn1]; dsimp only; rw [decide_eq_true (Int32.not_lt.mp h29)]; rfl
        refine hm_iconst dX3_handsOver_32 (v := 1) (by decide) ?_
        refine hm_goto 37 dX3_handsOver_33 (by decide) ?_
        refine hm_zret dX3_handsOver_37 rfl (by decide) (by decide) (by first | exact Or.inl rfl | exact Or.inr rfl | assumption) ?_
        exact hQ _ _ ⟨congrArg (fun z => some (Value.int z)) e, rfl⟩
set_option maxRecDepth 100000 in
theorem k3_hasGoodBearer (h : rC α σ) (w : sW α) {p : Nat} (hp : p < 8) : hm_Ct l yX3_hasGoodBearer cX3_hasGoodBearer 3 (some .boolean) 0 0 0 [.ref 1, .int (nI p)] σ (fun r τ => r = some (.int (bI (pGood α p))) ∧ τ = σ) := by
  have hN := h.N
  have hA := h.r.2.2
  have hb1 := h.bl
  have hlen := w.len
  refine hm_startQ (ini := false) [.ref 1, .int (nI p), hm_u] (by decide) (by decide) rfl (Nat.le_of_ble_eq_true rfl) (fun Q hQ => ?_)
  have hl : ∀ (k b : Nat) (u : Int32), b + k = (aB α).length → ((aB α).take b).any (fun x => decide (bOf x = p) && bGd x) = false → u = nI b → hm_V l RX3 cX3_hasGoodBearer 3 (some .boolean) false (hm_rm 0 0 0) 0 0 Q 0 0 2 [.ref 1, .int (nI p), .int u] [] σ := by
    intro k
    induction k with
    | zero =>
      intro b u hk hv hu
      subst hu
      have hb : b = (aB α).length := by omega
      subst hb
      rw [List.take_length] at hv
      refine hm_iload_n dX3_hasGoodBearer_2 rfl ?_
      refine hm_aload_n dX3_hasGoodBearer_3 rfl ?_
      refine hm_getI lf_RX3_58 rfl rfl (by first | exact Nat.lt_of_lt_of_le (by decide) hN | assumption | (simp only [hm_n_wI, hm_n_wL, hm_n_wR, hm_n_g] at *; omega)) dX3_hasGoodBearer_4 ?_
      rw [hb1]
      refine hm_icmp_ge 43 dX3_hasGoodBearer_7 (by decide) (fun _ => ?_) (fun h7 => absurd (nI_le (Nat.le_refl _) (by omega)) h7)
      refine hm_iconst dX3_hasGoodBearer_43 (v := 0) (by decide) ?_
      refine hm_zret dX3_hasGoodBearer_44 rfl (by decide) (by decide) (by first | exact Or.inl rfl | exact Or.inr rfl | assumption) ?_
      exact hQ _ _ ⟨by unfold pGood; rw [hv]; rfl, rfl⟩
    | succ k ih =>
      intro b u hk hv hu
      subst hu
      obtain ⟨x, hx⟩ : ∃ x, (aB α)[b]? = some x := ⟨_, List.getElem?_eq_getElem (by omega)⟩
      obtain ⟨a, hR, ha, hSa, e1, e2, e3, e4, e5⟩ := h.ba hx
      obtain ⟨x1, x2, x3⟩ := w.xb hx
      have q1 : nI (bOf x) = nI p ↔ bOf x = p := nI_eq (by omega) (by omega)
      have ih2 := ih (b + 1)
      rw [any_take hx, hv, Bool.false_or] at ih2
      have hyes : (decide (bOf x = p) && bGd x) = true → pGood α p = true := fun hz => List.any_eq_true.mpr ⟨x, List.mem_of_getElem? hx, hz⟩
      refine hm_iload_n dX3_hasGoodBearer_2 rfl ?_
      refine hm_aload_n dX3_hasGoodBearer_3 rfl ?_
      refine hm_getI lf_RX3_58 rfl rfl (by first | exact Nat.lt_of_lt_of_le (by decide) hN | assumption | (simp only [hm_n_wI, hm_n_wL, hm_n_wR, hm_n_g] at *; omega)) dX3_hasGoodBearer_4 ?_
      rw [hb1]
      refine hm_icmp_ge 43 dX3_hasGoodBearer_7 (by decide) (fun h7 => absurd h7 (nI_ge (by omega) (by omega))) (fun _ => ?_)
      refine hm_aload_n dX3_hasGoodBearer_10 rfl ?_
      refine hm_getR lf_RX3_32 rfl rfl (by first | exact Nat.lt_of_lt_of_le (by decide) hN | assumption | (simp only [hm_n_wI, hm_n_wL, hm_n_wR, hm_n_g] at *; omega)) (hA 10) dX3_hasGoodBearer_11 ?_
      refine hm_iload_n dX3_hasGoodBearer_14 rfl ?_
      refine hm_aald _ (.ref a) rfl (by decide) (by first | exact Nat.lt_of_lt_of_le (by decide) hN | assumption | (simp only [hm_n_wI, hm_n_wL, hm_n_wR, hm_n_g] at *; omega)) rfl (by omega) (by decide) (Or.inr ⟨a, rfl, hR⟩) dX3_hasGoodBearer_15 ?_
      refine hm_getI lf_RX3_61 rfl hSa (by omega) dX3_hasGoodBearer_16 ?_
      rw [e1]
      refine hm_iload_n dX3_hasGoodBearer_19 rfl ?_
      refine hm_icmp_ne 37 dX3_hasGoodBearer_20 (by decide) (fun h20 => ?_) (fun h20 => ?_)
      · skip
        rw [q1] at h20
        have hz : (decide (bOf x = p) && bGd x) = false := by simp [h20]
        refine hm_iinc dX3_hasGoodBearer_37 rfl _ rfl (by decide) rfl ?_
        refine hm_goto 2 dX3_hasGoodBearer_40 (by decide) ?_
        exact ih2 _ (by omega) hz (hm_inc b)
      · skip
        rw [q1] at h20
        refine hm_aload_n dX3_hasGoodBearer_23 rfl ?_
        refine hm_getR lf_RX3_32 rfl rfl (by first | exact Nat.lt_of_lt_of_le (by decide) hN | assumption | (simp only [hm_n_wI, hm_n_wL, hm_n_wR, hm_n_g] at *; omega)) (hA 10) dX3_hasGoodBearer_24 ?_
        refine hm_iload_n dX3_hasGoodBearer_27 rfl ?_
        refine hm_aald _ (.ref a) rfl (by decide) (by first | exact Nat.lt_of_lt_of_le (by decide) hN | assumption | (simp only [hm_n_wI, hm_n_wL, hm_n_wR, hm_n_g] at *; omega)) rfl (by omega) (by decide) (Or.inr ⟨a, rfl, hR⟩) dX3_hasGoodBearer_28 ?_
        refine hm_getI lf_RX3_73 rfl hSa (by omega) dX3_hasGoodBearer_29 ?_
        rw [e5]
        refine hm_if_eq 37 dX3_hasGoodBearer_32 (by decide) (fun h32 => ?_) (fun h32 => ?_)
        · skip
          rw [bI_0] at h32
          have hz : (decide (bOf x = p) && bGd x) = false := by simp [h32]
          refine hm_iinc dX3_hasGoodBearer_37 rfl _ rfl (by decide) rfl ?_
          refine hm_goto 2 dX3_hasGoodBearer_40 (by decide) ?_
          exact ih2 _ (by omega) hz (hm_inc b)
        · skip
          rw [bI_0] at h32
          refine hm_iconst dX3_hasGoodBearer_35 (v := 1) (by decide) ?_
          refine hm_zret dX3_hasGoodBearer_36 rfl (by decide) (by decide) (by first | exact Or.inl rfl | exact Or.inr rfl | assumption) ?_
          exact hQ _ _ ⟨by rw [hyes (by simp [h20, b_nf h32])]; rfl, rfl⟩
  refine hm_iconst dX3_hasGoodBearer_0 (v := 0) (by decide) ?_
  refine hm_istore_n dX3_hasGoodBearer_1 (by decide) rfl ?_
  exact hl _ 0 _ (Nat.zero_add _) rfl rfl
set_option maxRecDepth 100000 in
theorem k3_takenSlots (h : rC α σ) (w : sW α) {p c : Nat} (hp : p < 8) (hc : c < 4) : hm_Ct l yX3_takenSlots cX3_takenSlots 5 (some .int) 0 0 0 [.ref 1, .int (nI p), .int (nI c)] σ (fun r τ => ∃ m, r = some (.int m) ∧ (∀ s, s < 32 → bt m s = pTaken α p c s) ∧ τ = σ) := by
  have hN := h.N
  have hA := h.r.2.2
  have hb1 := h.bl
  have hlen := w.len
  have e0 : hm_I σ 2 c = nI (aN α 2 c) := h.n 2 c hc
  have h0 := w.bc c
  refine hm_startQ (ini := false) [.ref 1, .int (nI p), .int (nI c), hm_u, hm_u] (by decide) (by decide) rfl (Nat.le_of_ble_eq_true rfl) (fun Q hQ => ?_)
  have hl : ∀ (k b : Nat) (m u : Int32), b + k = (aB α).length → (∀ s, s < 32 → bt m s = (decide (aN α 2 c / 10 = s) || ((aB α).take b).any (fun x => (decide (bAt x = c) || decide (bOf x = p)) && decide (bCh x / 10 = s)))) → u = nI b → hm_V l RX3 cX3_takenSlots 5 (some .int) false (hm_rm 0 0 0) 0 0 Q 0 0 15 [.ref 1, .int (nI p), .int (nI c), .int m, .int u] [] σ := by
    intro k
    induction k with
    | zero =>
      intro b m u hk hv hu
      subst hu
      have hb : b = (aB α).length := by omega
      subst hb
      rw [List.take_length] at hv
      refine hm_iload dX3_takenSlots_15 rfl ?_
      refine hm_aload_n dX3_takenSlots_17 rfl ?_
      refine hm_getI lf_RX3_58 rfl rfl (by first | exact Nat.lt_of_lt_of_le (by decide) hN | assumption | (simp only [hm_n_wI, hm_n_wL, hm_n_wR, hm_n_g] at *; omega)) dX3_takenSlots_18 ?_
      rw [hb1]
      refine hm_icmp_ge 76 dX3_takenSlots_21 (by decide) (fun _ => ?_) (fun h21 => absurd (nI_le (Nat.le_refl _) (by omega)) h21)
      refine hm_iload_n dX3_takenSlots_76 rfl ?_
      refine hm_iret dX3_takenSlots_77 rfl (by decide) (by decide) ?_
      exact hQ _ _ ⟨m, rfl, hv, rfl⟩
    | succ k ih =>
      intro b m u hk hv hu
      subst hu
      obtain ⟨x, hx⟩ : ∃ x, (aB α)[b]? = some x := ⟨_, List.getElem?_eq_getElem (by omega)⟩
      obtain ⟨a, hR, ha, hSa, e1, e2, e3, e4, e5⟩ := h.ba hx
      obtain ⟨x1, x2, x3⟩ := w.xb hx
      have q1 : nI (bOf x) = nI p ↔ bOf x = p := nI_eq (by omega) (by omega)
      have q2 : nI (bAt x) = nI c ↔ bAt x = c := nI_eq (by omega) (by omega)
      have ih2 := ih (b + 1)
      simp only [any_take hx] at ih2
      have hno : (decide (bAt x = c) || decide (bOf x = p)) = false → ∀ s, s < 32 → bt m s = (decide (aN α 2 c / 10 = s) || (((aB α).take b).any (fun x => (decide (bAt x = c) || decide (bOf x = p)) && decide (bCh x / 10 = s)) || ((decide (bAt x = c) || decide (bOf x = p)) && decide (bCh x / 10 = s)))) := fun hz s hs => by
        rw [hv s hs, hz, Bool.false_and, Bool.or_false]
      have hyes : (decide (bAt x = c) || decide (bOf x = p)) = true → ∀ s, s < 32 → bt (m ||| ((1 : Int32) <<< (nI (bCh x / 10) &&& 31))) s = (decide (aN α 2 c / 10 = s) || (((aB α).take b).any (fun x => (decide (bAt x = c) || decide (bOf x = p)) && decide (bCh x / 10 = s)) || ((decide (bAt x = c) || decide (bOf x = p)) && decide (bCh x / 10 = s)))) := fun hz s hs => by
        rw [b_or, hv s hs, hz, bt_1 (by omega) hs, Bool.true_and, Bool.or_assoc, show decide (s = bCh x / 10) = decide (bCh x / 10 = s) by simp [eq_comm]]
      refine hm_iload dX3_takenSlots_15 rfl ?_
      refine hm_aload_n dX3_takenSlots_17 rfl ?_
      refine hm_getI lf_RX3_58 rfl rfl (by first | exact Nat.lt_of_lt_of_le (by decide) hN | assumption | (simp only [hm_n_wI, hm_n_wL, hm_n_wR, hm_n_g] at *; omega)) dX3_takenSlots_18 ?_
      rw [hb1]
      refine hm_icmp_ge 76 dX3_takenSlots_21 (by decide) (fun h21 => absurd h21 (nI_ge (by omega) (by omega))) (fun _ => ?_)
      refine hm_aload_n dX3_takenSlots_24 rfl ?_
      refine hm_getR lf_RX3_32 rfl rfl (by first | exact Nat.lt_of_lt_of_le (by decide) hN | assumption | (simp only [hm_n_wI, hm_n_wL, hm_n_wR, hm_n_g] at *; omega)) (hA 10) dX3_takenSlots_25 ?_
      refine hm_iload dX3_takenSlots_28 rfl ?_
      refine hm_aald _ (.ref a) rfl (by decide) (by first | exact Nat.lt_of_lt_of_le (by decide) hN | assumption | (simp only [hm_n_wI, hm_n_wL, hm_n_wR, hm_n_g] at *; omega)) rfl (by omega) (by decide) (Or.inr ⟨a, rfl, hR⟩) dX3_takenSlots_30 ?_
      refine hm_getI lf_RX3_61 rfl hSa (by omega) dX3_takenSlots_31 ?_
      rw [e1]
      refine hm_iload_n dX3_takenSlots_34 rfl ?_
      refine hm_icmp_eq 52 dX3_takenSlots_35 (by decide) (fun h35 => ?_) (fun h35 => ?_)
      · skip
        rw [q1] at h35
        have hm2 := hyes (by simp [h35])
        refine hm_iload_n dX3_takenSlots_52 rfl ?_
        refine hm_iconst dX3_takenSlots_53 (v := 1) (by decide) ?_
        refine hm_aload_n dX3_takenSlots_54 rfl ?_
        refine hm_getR lf_RX3_32 rfl rfl (by first | exact Nat.lt_of_lt_of_le (by decide) hN | assumption | (simp only [hm_n_wI, hm_n_wL, hm_n_wR, hm_n_g] at *; omega)) (hA 10) dX3_takenSlots_55 ?_
        refine hm_iload dX3_takenSlots_58 rfl ?_
        refine hm_aald _ (.ref a) rfl (by decide) (by first | exact Nat.lt_of_lt_of_le (by decide) hN | assumption | (simp only [hm_n_wI, hm_n_wL, hm_n_wR, hm_n_g] at *; omega)) rfl (by omega) (by decide) (Or.inr ⟨a, rfl, hR⟩) dX3_takenSlots_60 ?_
        refine hm_getI lf_RX3_107 rfl hSa (by omega) dX3_takenSlots_61 ?_
        rw [e3]
        refine hm_bipush dX3_takenSlots_64 (v := 10) (by decide) ?_
        refine hm_idiv dX3_takenSlots_66 (by decide) ?_
        rw [div10 (by omega)]
        refine hm_ishl dX3_takenSlots_67 ?_
        refine hm_ior dX3_takenSlots_68 ?_
        refine hm_istore_n dX3_takenSlots_69 (by decide) rfl ?_
        refine hm_iinc dX3_takenSlots_70 rfl _ rfl (by decide) rfl ?_
        refine hm_goto 15 dX3_takenSlots_73 (by decide) ?_
        exact ih2 _ _ (by omega) hm2 (hm_inc b)
      · skip
        rw [q1] at h35
        refine hm_aload_n dX3_takenSlots_38 rfl ?_
        refine hm_getR lf_RX3_32 rfl rfl (by first | exact Nat.lt_of_lt_of_le (by decide) hN | assumption | (simp only [hm_n_wI, hm_n_wL, hm_n_wR, hm_n_g] at *; omega)) (hA 10) dX3_takenSlots_39 ?_
        refine hm_iload dX3_takenSlots_42 rfl ?_
        refine hm_aald _ (.ref a) rfl (by decide) (by first | exact Nat.lt_of_lt_of_le (by decide) hN | assumption | (simp only [hm_n_wI, hm_n_wL, hm_n_wR, hm_n_g] at *; omega)) rfl (by omega) (by decide) (Or.inr ⟨a, rfl, hR⟩) dX3_takenSlots_44 ?_
        refine hm_getI lf_RX3_87 rfl hSa (by omega) dX3_takenSlots_45 ?_
        rw [e2]
        refine hm_iload_n dX3_takenSlots_48 rfl ?_
        refine hm_icmp_ne 70 dX3_takenSlots_49 (by decide) (fun h49 => ?_) (fun h49 => ?_)
        · skip
          rw [q2] at h49
          have hm2 := hno (by simp [h35, h49])
          refine hm_iinc dX3_takenSlots_70 rfl _ rfl (by decide) rfl ?_
          refine hm_goto 15 dX3_takenSlots_73 (by decide) ?_
          exact ih2 _ _ (by omega) hm2 (hm_inc b)
        · skip
          rw [q2] at h49
          have hm2 := hyes (by simp [h49])
          refine hm_iload_n dX3_takenSlots_52 rfl ?_
          refine hm_iconst dX3_takenSlots_53 (v := 1) (by decide) ?_
          refine hm_aload_n dX3_takenSlots_54 rfl ?_
          refine hm_getR lf_RX3_32 rfl rfl (by first | exact Nat.lt_of_lt_of_le (by decide) hN | assumption | (simp only [hm_n_wI, hm_n_wL, hm_n_wR, hm_n_g] at *; omega)) (hA 10) dX3_takenSlots_55 ?_
          refine hm_iload dX3_takenSlots_58 rfl ?_
          refine hm_aald _ (.ref a) rfl (by decide) (by first | exact Nat.lt_of_lt_of_le (by decide) hN | assumption | (simp only [hm_n_wI, hm_n_wL, hm_n_wR, hm_n_g] at *; omega)) rfl (by omega) (by decide) (Or.inr ⟨a, rfl, hR⟩) dX3_takenSlots_60 ?_
          refine hm_getI lf_RX3_107 rfl hSa (by omega) dX3_takenSlots_61 ?_
          rw [e3]
          refine hm_bipush dX3_takenSlots_64 (v := 10) (by decide) ?_
          refine hm_idiv dX3_takenSlots_66 (by decide) ?_
          rw [div10 (by omega)]
          refine hm_ishl dX3_takenSlots_67 ?_
          refine hm_ior dX3_takenSlots_68 ?_
          refine hm_istore_n dX3_takenSlots_69 (by decide) rfl ?_
          refine hm_iinc dX3_takenSlots_70 rfl _ rfl (by decide) rfl ?_
          refine hm_goto 15 dX3_takenSlots_73 (by decide) ?_
          exact ih2 _ _ (by omega) hm2 (hm_inc b)
  refine hm_iconst dX3_takenSlots_0 (v := 1) (by decide) ?_
  refine hm_aload_n dX3_takenSlots_1 rfl ?_
  refine hm_getR lf_RX3_9 rfl rfl (by first | exact Nat.lt_of_lt_of_le (by decide) hN | assumption | (simp only [hm_n_wI, hm_n_wL, hm_n_wR, hm_n_g] at *; omega)) (hA 4) dX3_takenSlots_2 ?_
  refine hm_iload_n dX3_takenSlots_5 rfl ?_
  refine hm_iald _ rfl (by first | exact Nat.lt_of_lt_of_le (by decide) hN | assumption | (simp only [hm_n_wI, hm_n_wL, hm_n_wR, hm_n_g] at *; omega)) rfl (by omega) (by decide) dX3_takenSlots_6 ?_
  rw [e0]
  refine hm_bipush dX3_takenSlots_7 (v := 10) (by decide) ?_
  refine hm_idiv dX3_takenSlots_9 (by decide) ?_
  rw [div10 (by omega)]
  refine hm_ishl dX3_takenSlots_10 ?_
  refine hm_istore_n dX3_takenSlots_11 (by decide) rfl ?_
  refine hm_iconst dX3_takenSlots_12 (v := 0) (by decide) ?_
  refine hm_istore dX3_takenSlots_13 (by decide) rfl ?_
  exact hl _ 0 _ _ (Nat.zero_add _) (fun s hs => by rw [bt_1 (by omega) hs]; simp [eq_comm]) rfl
end C3
