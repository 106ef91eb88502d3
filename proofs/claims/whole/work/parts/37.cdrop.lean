/-! the class's radio: bearers set up, sent on, dropped -/
theorem own_wants {α : sA} {p : Nat} (hw : pWants α p = true) : pOwn α p = (pFst α p).map bAt := by
  unfold pOwn
  by_cases e : pHo α p = true
  · rw [if_pos e]
  · rw [if_neg e]
    have hn : pNb α p = 0 := by
      unfold pWants at hw
      rw [Bool.eq_false_iff.mpr e] at hw
      simp at hw
      exact hw.2
    have : pFst α p = none := by
      unfold pFst pNb at *
      rw [List.find?_eq_none]
      exact List.countP_eq_zero.mp hn
    rw [this]; rfl
theorem key_set {B : List sBr} {b : Nat} {x y : sBr} (hx : B[b]? = some x) (hy : bK y = bK x) : (B.set b y).map bK = B.map bK := by
  apply List.ext_getElem?
  intro i
  rw [List.getElem?_map, List.getElem?_map, List.getElem?_set]
  by_cases e : b = i
  · subst e
    rw [if_pos rfl, if_pos (List.getElem?_eq_some_iff.mp hx).1, hx]
    simp [hy]
  · rw [if_neg e]
theorem er_any {β : Type} (f : β → Bool) {B : List β} {b : Nat} {x : β} (hx : B[b]? = some x) : B.any f = (f x || (B.eraseIdx b).any f) := by
  have hlt := (List.getElem?_eq_some_iff.mp hx).1
  have e : B.drop b = x :: B.drop (b + 1) := by
    rw [← List.getElem_cons_drop hlt]; congr 1; exact Option.some.inj ((List.getElem?_eq_getElem _).symm.trans hx)
  rw [List.eraseIdx_eq_take_drop_succ, List.any_append]
  conv => lhs; rw [← List.take_append_drop b B, List.any_append, e, List.any_cons]
  cases f x <;> cases (B.take b).any f <;> simp
theorem er_pw {B : List sBr} (h : B.Pairwise (fun x y => (bAt x = bAt y ∨ bOf x = bOf y) → bCh x / 10 ≠ bCh y / 10)) {b : Nat} {x : sBr} (hx : B[b]? = some x) {y : sBr} (hy : y ∈ B.eraseIdx b) : (bAt y = bAt x ∨ bOf y = bOf x) → bCh y / 10 ≠ bCh x / 10 := by
  have hlt := (List.getElem?_eq_some_iff.mp hx).1
  have e : B.drop b = x :: B.drop (b + 1) := by
    rw [← List.getElem_cons_drop hlt]; congr 1; exact Option.some.inj ((List.getElem?_eq_getElem _).symm.trans hx)
  rw [← List.take_append_drop b B, e] at h
  obtain ⟨-, h2, h3⟩ := List.pairwise_append.mp h
  rw [List.eraseIdx_eq_take_drop_succ] at hy
  rcases List.mem_append.mp hy with hy | hy
  · exact h3 y hy x List.mem_cons_self
  · have := (List.pairwise_cons.mp h2).1 y hy
    intro ho e2
    exact this (by rcases ho with q | q; exact Or.inl q.symm; exact Or.inr q.symm) e2.symm
theorem er_sends {α : sA} (w : sW α) {b : Nat} {x : sBr} (hx : (aB α)[b]? = some x) (d k : Nat) : pSends (sB α ((aB α).eraseIdx b)) d k = (pSends α d k && !(decide (d = bAt x) && decide (k = bCh x))) := by
  have h1 := w.x (List.mem_of_getElem? hx)
  unfold pSends
  rw [aB_sB, aN_sB, er_any _ hx]
  by_cases e : d = bAt x ∧ k = bCh x
  · obtain ⟨rfl, rfl⟩ := e
    have e1 : ((aB α).eraseIdx b).any (fun y => decide (bAt y = bAt x) && decide (bCh y = bCh x)) = false := List.any_eq_false.mpr fun y hy => by
      have := er_pw w.pw hx hy
      simp
      intro e1 e2
      exact this (Or.inl e1) (by rw [e2])
    have e2 : ¬ aN α 2 (bAt x) = bCh x := fun e2 => h1.2.2.2 (by rw [e2])
    rw [e1]
    simp [e2]
  · have e1 : (decide (bAt x = d) && decide (bCh x = k)) = false := by
      simp; intro q1 q2; exact e ⟨q1.symm, q2.symm⟩
    have e2 : (decide (d = bAt x) && decide (k = bCh x)) = false := by simpa using e
    rw [e1, e2]; simp
theorem er_talks {α : sA} (w : sW α) {b : Nat} {x : sBr} (hx : (aB α)[b]? = some x) (d k : Nat) : pTalks (sB α ((aB α).eraseIdx b)) d k = (pTalks α d k && !(decide (d = bOf x) && decide (k = bCh x))) := by
  unfold pTalks
  rw [aB_sB, er_any _ hx]
  by_cases e : d = bOf x ∧ k = bCh x
  · obtain ⟨rfl, rfl⟩ := e
    have e1 : ((aB α).eraseIdx b).any (fun y => decide (bOf y = bOf x) && decide (bCh y = bCh x)) = false := List.any_eq_false.mpr fun y hy => by
      have := er_pw w.pw hx hy
      simp
      intro e1 e2
      exact this (Or.inr e1) (by rw [e2])
    rw [e1]
    simp
  · have e1 : (decide (bOf x = d) && decide (bCh x = k)) = false := by
      simp; intro q1 q2; exact e ⟨q1.symm, q2.symm⟩
    have e2 : (decide (d = bOf x) && decide (k = bCh x)) = false := by simpa using e
    rw [e1, e2]; simp
/-- how the bearers stand once the b-th of n + 1 went behind the others -/
def er_ix (b n j : Nat) : Nat := if b ≤ j ∧ j < n then j + 1 else if j = n then b else j
section C5
variable (l : Launch) {α : sA} {σ : hm_M}
set_option maxRecDepth 100000 in
theorem k3_setUp (h : rC α σ) (w : sW α) {p : Nat} (hp : p < nPort α) (hw : pWants α p = true) (hd : pDue α p = true) : hm_Ct l yX3_setUp cX3_setUp 4 none 3 0 0 [.ref 1, .int (nI p)] σ (fun r τ => r = none ∧ rC (pSetUp α p) τ ∧ cs_fr σ τ) := by
  have hN := h.N
  have h8 := w.p8
  have h4 := w.c4
  have ho := own_wants hw
  have w2 := (w.setUp hp).len
  unfold pSetUp at w2 ⊢
  rw [if_pos (by rw [hw, hd]; rfl)] at w2 ⊢
  refine hm_startQ (ini := false) [.ref 1, .int (nI p), hm_u, hm_u] (by decide) (by decide) rfl (Nat.le_of_ble_eq_true rfl) (fun Q hQ => ?_)
  cases hb : pBest α p with
  | none =>
    rw [hb] at hQ
    refine hm_aload_n dX3_setUp_0 rfl ?_
    refine hm_iload_n dX3_setUp_1 rfl ?_
    refine hm_callV lm_RX3_77 (k3_chooseCell l h w (by omega) ho) rfl rfl rfl rfl (by first | exact Nat.lt_of_lt_of_le (by decide) hN | assumption | (simp only [hm_n_wI, hm_n_wL, hm_n_wR, hm_n_g] at *; omega)) (by decide) (by decide) (Nat.le_of_ble_eq_true rfl) dX3_setUp_2 ?_
    rintro _ t9 ⟨rfl, hh9⟩
    rw [hh9]
    clear hh9 t9
    rw [hb]
    refine hm_istore_n dX3_setUp_5 (by decide) rfl ?_
    refine hm_iload_n dX3_setUp_6 rfl ?_
    refine hm_if_ge 11 dX3_setUp_7 (by decide) (fun h7 => absurd h7 (by decide)) (fun _ => ?_)
    refine hm_vret dX3_setUp_10 rfl (by decide) (by decide) ?_
    exact hQ _ _ ⟨rfl, h, cs_fr.rf σ⟩
  | some c =>
    have hc := pBest_lt w hb
    rw [hb] at hQ w2
    dsimp only at hQ w2
    cases hch : pCh α p c with
    | none =>
      rw [hch] at hQ
      refine hm_aload_n dX3_setUp_0 rfl ?_
      refine hm_iload_n dX3_setUp_1 rfl ?_
      refine hm_callV lm_RX3_77 (k3_chooseCell l h w (by omega) ho) rfl rfl rfl rfl (by first | exact Nat.lt_of_lt_of_le (by decide) hN | assumption | (simp only [hm_n_wI, hm_n_wL, hm_n_wR, hm_n_g] at *; omega)) (by decide) (by decide) (Nat.le_of_ble_eq_true rfl) dX3_setUp_2 ?_
      rintro _ t9 ⟨rfl, hh9⟩
      rw [hh9]
      clear hh9 t9
      rw [hb]
      refine hm_istore_n dX3_setUp_5 (by decide) rfl ?_
      refine hm_iload_n dX3_setUp_6 rfl ?_
      refine hm_if_ge 11 dX3_setUp_7 (by decide) (fun _ => ?_) (fun h7 => absurd (nI_pos' (by omega)) h7)
      refine hm_aload_n dX3_setUp_11 rfl ?_
      refine hm_iload_n dX3_setUp_12 rfl ?_
      refine hm_iload_n dX3_setUp_13 rfl ?_
      refine hm_callV lm_RX3_80 (k3_chooseChannel l h w (by omega) (by omega)) rfl rfl rfl rfl (by first | exact Nat.lt_of_lt_of_le (by decide) hN | assumption | (simp only [hm_n_wI, hm_n_wL, hm_n_wR, hm_n_g] at *; omega)) (by decide) (by decide) (Nat.le_of_ble_eq_true rfl) dX3_setUp_14 ?_
      rintro _ t9 ⟨rfl, hh9⟩
      rw [hh9]
      clear hh9 t9
      rw [hch]
      refine hm_istore_n dX3_setUp_17 (by decide) rfl ?_
      refine hm_iload_n dX3_setUp_18 rfl ?_
      refine hm_if_lt 29 dX3_setUp_19 (by decide) (fun _ => ?_) (fun h19 => absurd (by decide) h19)
      refine hm_vret dX3_setUp_29 rfl (by decide) (by decide) ?_
      exact hQ _ _ ⟨rfl, h, cs_fr.rf σ⟩
    | some ch =>
      have hch2 := ((pChan_ok α p c 120).2 ch (by unfold pCh at hch; exact hch)).1
      rw [hch] at hQ w2
      dsimp only at hQ w2
      have hlen : (aB α).length < 16 := by
        have e : (aB (pAdd α p c ch)).length = (aB α).length + 1 := by unfold pAdd; rw [aB_sI, aB_sB, List.length_append]; rfl
        omega
      refine hm_aload_n dX3_setUp_0 rfl ?_
      refine hm_iload_n dX3_setUp_1 rfl ?_
      refine hm_callV lm_RX3_77 (k3_chooseCell l h w (by omega) ho) rfl rfl rfl rfl (by first | exact Nat.lt_of_lt_of_le (by decide) hN | assumption | (simp only [hm_n_wI, hm_n_wL, hm_n_wR, hm_n_g] at *; omega)) (by decide) (by decide) (Nat.le_of_ble_eq_true rfl) dX3_setUp_2 ?_
      rintro _ t9 ⟨rfl, hh9⟩
      rw [hh9]
      clear hh9 t9
      rw [hb]
      refine hm_istore_n dX3_setUp_5 (by decide) rfl ?_
      refine hm_iload_n dX3_setUp_6 rfl ?_
      refine hm_if_ge 11 dX3_setUp_7 (by decide) (fun _ => ?_) (fun h7 => absurd (nI_pos' (by omega)) h7)
      refine hm_aload_n dX3_setUp_11 rfl ?_
      refine hm_iload_n dX3_setUp_12 rfl ?_
      refine hm_iload_n dX3_setUp_13 rfl ?_
      refine hm_callV lm_RX3_80 (k3_chooseChannel l h w (by omega) (by omega)) rfl rfl rfl rfl (by first | exact Nat.lt_of_lt_of_le (by decide) hN | assumption | (simp only [hm_n_wI, hm_n_wL, hm_n_wR, hm_n_g] at *; omega)) (by decide) (by decide) (Nat.le_of_ble_eq_true rfl) dX3_setUp_14 ?_
      rintro _ t9 ⟨rfl, hh9⟩
      rw [hh9]
      clear hh9 t9
      rw [hch]
      refine hm_istore_n dX3_setUp_17 (by decide) rfl ?_
      refine hm_iload_n dX3_setUp_18 rfl ?_
      refine hm_if_lt 29 dX3_setUp_19 (by decide) (fun h19 => absurd h19 (nI_pos (by omega))) (fun _ => ?_)
      refine hm_aload_n dX3_setUp_22 rfl ?_
      refine hm_iload_n dX3_setUp_23 rfl ?_
      refine hm_iload_n dX3_setUp_24 rfl ?_
      refine hm_iload_n dX3_setUp_25 rfl ?_
      refine hm_callV lm_RX3_83 (k3_addBearer l h w (by omega) hc hch2 hlen) rfl rfl rfl rfl (by first | exact Nat.lt_of_lt_of_le (by decide) hN | assumption | (simp only [hm_n_wI, hm_n_wL, hm_n_wR, hm_n_g] at *; omega)) (by decide) (by decide) (Nat.le_of_ble_eq_true rfl) dX3_setUp_26 ?_
      rintro _ τ ⟨rfl, hτ, hf⟩
      refine hm_vret dX3_setUp_29 rfl (by decide) (by decide) ?_
      exact hQ _ _ ⟨rfl, hτ, hf⟩
theorem rC.setX (h : rC α σ) {b : Nat} {x : sBr} (hx : (aB α)[b]? = some x) {a : Nat} (hR : hm_R σ 8 b = some a) (g : Bool) (fl : Int32) : rC (sB α ((aB α).set b (bOf x, bAt x, bCh x, fl, g))) (hm_wI (hm_wI σ a 4 (bI g)) a 3 fl) := by
  have hl := @cs_B.lt _ _ h.b
  obtain ⟨hb1, π, hpi, hb3⟩ := h.b
  obtain ⟨hpl, hpll⟩ := hpi.1 _ (hl hx)
  rw [hR] at hpl
  cases hpl
  have hky := key_set (B := aB α) (y := (bOf x, bAt x, bCh x, fl, g)) hx rfl
  refine h.newB (fun c k h1 h2 h3 h4 => ?_) rfl (fun _ _ _ => rfl) rfl ⟨⟨?_, ?_⟩, π, hpi, fun j y hj => ?_⟩ (fun d k hd hk => ?_) (fun d k hd hk => ?_)
  · rw [hm_I_wI, if_neg (by omega), hm_I_wI, if_neg (by omega)]
  · rw [hm_I_wI, if_neg (by omega), hm_I_wI, if_neg (by omega), List.length_set]; exact hb1.1
  · rw [List.length_set]; exact hb1.2
  · rw [List.getElem?_set] at hj
    by_cases e : b = j
    · subst e
      rw [if_pos rfl, if_pos (List.getElem?_eq_some_iff.mp hx).1] at hj
      cases hj
      obtain ⟨e1, e2, e3, -, -⟩ := hb3 b x hx
      refine ⟨?_, ?_, ?_, ?_, ?_⟩ <;> simp [hm_I_wI, *]
    · rw [if_neg e] at hj
      obtain ⟨e1, e2, e3, e4, e5⟩ := hb3 j y hj
      have hne : π j ≠ π b := fun q => e (hpi.2 _ _ (hl hj) (hl hx) q).symm
      refine ⟨?_, ?_, ?_, ?_, ?_⟩ <;> rw [hm_I_wI, if_neg (by omega), hm_I_wI, if_neg (by omega)] <;> assumption
  · rw [ky_sends hky, hm_I_wI, if_neg (by omega), hm_I_wI, if_neg (by omega)]; exact h.z.2.1 d k hd hk
  · rw [ky_talks hky, hm_I_wI, if_neg (by omega), hm_I_wI, if_neg (by omega)]; exact h.z.2.2 d k hd hk
theorem rC.mid {α : sA} {τ : hm_M} (h : rC α τ) (B : List sBr) (e : aB α = B) : rC (sB α B) τ := by
  subst e; exact h
set_option maxRecDepth 100000 in
theorem k3_sendAll (h : rC α σ) (w : sW α) : hm_Ct l yX3_sendAll cX3_sendAll 3 none 3 0 0 [.ref 1] σ (fun r τ => r = none ∧ rC (pSend α) τ ∧ cs_fr σ τ) := by
  have hlen := w.len
  refine hm_startQ (ini := false) [.ref 1, hm_u, hm_u] (by decide) (by decide) rfl (Nat.le_of_ble_eq_true rfl) (fun Q hQ => ?_)
  have hl1 : ∀ (k b : Nat) (τ : hm_M) (u : Int32) (y : Value), b + k = (aB α).length → rC (sB α (((aB α).take b).map (pSent α) ++ (aB α).drop b)) τ → cs_fr σ τ → u = nI b → hm_V l RX3 cX3_sendAll 3 none false (hm_rm 3 0 0) 0 0 Q 0 0 2 [.ref 1, .int u, y] [] τ := by
    intro k
    induction k with
    | zero =>
      intro b τ u y hk hτ hf hu
      subst hu
      have hb : b = (aB α).length := by omega
      subst hb
      rw [List.take_length, List.drop_length, List.append_nil] at hτ
      have hN := hτ.N
      have hA := hτ.r.2.2
      have hb1 : hm_I τ 1 2 = nI (aB α).length := by rw [hτ.bl, aB_sB, List.length_map]
      refine hm_iload_n dX3_sendAll_2 rfl ?_
      refine hm_aload_n dX3_sendAll_3 rfl ?_
      refine hm_getI lf_RX3_58 rfl rfl (by first | exact Nat.lt_of_lt_of_le (by decide) hN | assumption | (simp only [hm_n_wI, hm_n_wL, hm_n_wR, hm_n_g] at *; omega)) dX3_sendAll_4 ?_
      rw [hb1]
      refine hm_icmp_ge 96 dX3_sendAll_7 (by decide) (fun _ => ?_) (fun h7 => absurd (nI_le (Nat.le_refl _) (by omega)) h7)
      refine hm_vret dX3_sendAll_96 rfl (by decide) (by decide) ?_
      exact hQ _ _ ⟨rfl, hτ, hf⟩
    | succ k ih =>
      intro b τ u y hk hτ hf hu
      subst hu
      have hN := hτ.N
      have hA := hτ.r.2.2
      obtain ⟨x, hx⟩ : ∃ x, (aB α)[b]? = some x := ⟨_, List.getElem?_eq_getElem (by omega)⟩
      obtain ⟨x1, x2, x3⟩ := w.xb hx
      have hd : (aB α).drop b = x :: (aB α).drop (b + 1) := by rw [← List.getElem_cons_drop (show b < (aB α).length by omega)]; congr 1; exact Option.some.inj ((List.getElem?_eq_getElem _).symm.trans hx)
      have ht : (aB α).take (b + 1) = (aB α).take b ++ [x] := by rw [List.take_succ, hx]; rfl
      have htl : (((aB α).take b).map (pSent α)).length = b := by rw [List.length_map, List.length_take]; omega
      have hky : (((aB α).take b).map (pSent α) ++ (aB α).drop b).map bK = (aB α).map bK := by
        rw [List.map_append, List.map_map]
        have : (bK ∘ pSent α) = bK := rfl
        rw [this, ← List.map_append, List.take_append_drop]
      have wτ := w.key hky
      have q1 := ky_hat hky
      have q2 := ky_hby hky
      rw [hd] at hτ wτ q1 q2
      have hb1 : hm_I τ 1 2 = nI (aB α).length := by
        rw [hτ.bl, aB_sB, List.length_append, htl, List.length_cons, List.length_drop]
        congr 1
        omega
      generalize hAA : ((aB α).take b).map (pSent α) = A at hτ htl wτ q1 q2
      generalize hZ : (aB α).drop (b + 1) = Z at hτ wτ q1 q2
      have hC : (aB (sB α (A ++ x :: Z)))[b]? = some x := by
        rw [aB_sB, List.getElem?_append_right (by omega), htl, Nat.sub_self]; rfl
      obtain ⟨a, hR, ha, hSa, e1, e2, e3, e4, e5⟩ := hτ.ba hC
      have e6 : hm_I τ 3 (bOf x) = nI (aN α 3 (bOf x)) := hτ.n 3 _ x1
      have hset : ∀ g v, g = pIsG α x → v = (if pIsG α x then 0 else bFl x + 1) → rC (sB α (((aB α).take (b + 1)).map (pSent α) ++ (aB α).drop (b + 1))) (hm_wI (hm_wI τ a 4 (bI g)) a 3 v) := by
        intro g v hg hv
        subst hg
        subst hv
        have h2 := hτ.setX hC hR (pIsG α x) (if pIsG α x then 0 else bFl x + 1)
        rw [aB_sB] at h2
        have h3 := set_mid A Z x (bOf x, bAt x, bCh x, (if pIsG α x then 0 else bFl x + 1), pIsG α x)
        rw [htl] at h3
        rw [ht, List.map_append, hAA, hZ, List.append_assoc]
        have h4 : ([x].map (pSent α)) ++ Z = (bOf x, bAt x, bCh x, (if pIsG α x then 0 else bFl x + 1), pIsG α x) :: Z := rfl
        rw [h4, ← h3]
        exact h2
      have j2 : ∀ g : Bool, g = pIsG α x → hm_V l RX3 cX3_sendAll 3 none false (hm_rm 3 0 0) 0 0 Q 0 0 66 [.ref 1, .int (nI b), .ref a] [.int (bI g), .ref a] τ := by
        intro g hg
        have e7 : hm_I (hm_wI τ a 4 (bI g)) a 4 = bI g := by rw [hm_I_wI, if_pos ⟨rfl, rfl⟩]
        have e8 : hm_I (hm_wI τ a 4 (bI g)) a 3 = bFl x := by rw [hm_I_wI, if_neg (by omega)]; exact e4
        refine hm_putZ lf_RX3_73 rfl (bI_01 _) rfl hSa (by show a < hm_n τ; omega) dX3_sendAll_66 ?_
        refine hm_aload_n dX3_sendAll_69 rfl ?_
        refine hm_aload_n dX3_sendAll_70 rfl ?_
        refine hm_getI lf_RX3_73 rfl hSa (by show a < hm_n τ; omega) dX3_sendAll_71 ?_
        rw [e7]
        refine hm_if_eq 81 dX3_sendAll_74 (by decide) (fun h74 => ?_) (fun h74 => ?_)
        · skip
          rw [bI_0] at h74
          refine hm_aload_n dX3_sendAll_81 rfl ?_
          refine hm_getI lf_RX3_70 rfl hSa (by show a < hm_n τ; omega) dX3_sendAll_82 ?_
          rw [e8]
          refine hm_iconst dX3_sendAll_85 (v := 1) (by decide) ?_
          refine hm_iadd dX3_sendAll_86 ?_
          refine hm_putI lf_RX3_70 rfl rfl hSa (by show a < hm_n τ; omega) dX3_sendAll_87 ?_
          refine hm_iinc dX3_sendAll_90 rfl _ rfl (by decide) rfl ?_
          refine hm_goto 2 dX3_sendAll_93 (by decide) ?_
          exact ih (b + 1) _ _ _ (by omega) (hset _ _ hg (by rw [← hg]; simp [h74])) ((hf.wI a 4 _ (by omega)).wI a 3 _ (by omega)) (hm_inc b)
        · skip
          rw [bI_0] at h74
          refine hm_iconst dX3_sendAll_77 (v := 0) (by decide) ?_
          refine hm_goto 87 dX3_sendAll_78 (by decide) ?_
          refine hm_putI lf_RX3_70 rfl rfl hSa (by show a < hm_n τ; omega) dX3_sendAll_87 ?_
          refine hm_iinc dX3_sendAll_90 rfl _ rfl (by decide) rfl ?_
          refine hm_goto 2 dX3_sendAll_93 (by decide) ?_
          exact ih (b + 1) _ _ _ (by omega) (hset _ _ hg (by rw [← hg]; simp [h74])) ((hf.wI a 4 _ (by omega)).wI a 3 _ (by omega)) (hm_inc b)
      refine hm_iload_n dX3_sendAll_2 rfl ?_
      refine hm_aload_n dX3_sendAll_3 rfl ?_
      refine hm_getI lf_RX3_58 rfl rfl (by first | exact Nat.lt_of_lt_of_le (by decide) hN | assumption | (simp only [hm_n_wI, hm_n_wL, hm_n_wR, hm_n_g] at *; omega)) dX3_sendAll_4 ?_
      rw [hb1]
      refine hm_icmp_ge 96 dX3_sendAll_7 (by decide) (fun h7 => absurd h7 (nI_ge (by omega) (by omega))) (fun _ => ?_)
      refine hm_aload_n dX3_sendAll_10 rfl ?_
      refine hm_getR lf_RX3_32 rfl rfl (by first | exact Nat.lt_of_lt_of_le (by decide) hN | assumption | (simp only [hm_n_wI, hm_n_wL, hm_n_wR, hm_n_g] at *; omega)) (hA 10) dX3_sendAll_11 ?_
      refine hm_iload_n dX3_sendAll_14 rfl ?_
      refine hm_aald _ (.ref a) rfl (by decide) (by first | exact Nat.lt_of_lt_of_le (by decide) hN | assumption | (simp only [hm_n_wI, hm_n_wL, hm_n_wR, hm_n_g] at *; omega)) rfl (by omega) (by decide) (Or.inr ⟨a, rfl, hR⟩) dX3_sendAll_15 ?_
      refine hm_astore_n dX3_sendAll_16 (by decide) rfl ?_
      refine hm_aload_n dX3_sendAll_17 rfl ?_
      refine hm_aload_n dX3_sendAll_18 rfl ?_
      refine hm_aload_n dX3_sendAll_19 rfl ?_
      refine hm_getI lf_RX3_87 rfl hSa (by omega) dX3_sendAll_20 ?_
      rw [e2]
      refine hm_aload_n dX3_sendAll_23 rfl ?_
      refine hm_getR lf_RX3_15 rfl rfl (by first | exact Nat.lt_of_lt_of_le (by decide) hN | assumption | (simp only [hm_n_wI, hm_n_wL, hm_n_wR, hm_n_g] at *; omega)) (hA 5) dX3_sendAll_24 ?_
      refine hm_aload_n dX3_sendAll_27 rfl ?_
      refine hm_getI lf_RX3_61 rfl hSa (by omega) dX3_sendAll_28 ?_
      rw [e1]
      refine hm_iald _ rfl (by first | exact Nat.lt_of_lt_of_le (by decide) hN | assumption | (simp only [hm_n_wI, hm_n_wL, hm_n_wR, hm_n_g] at *; omega)) rfl (by omega) (by decide) dX3_sendAll_31 ?_
      rw [e6]
      refine hm_aload_n dX3_sendAll_32 rfl ?_
      refine hm_getI lf_RX3_107 rfl hSa (by omega) dX3_sendAll_33 ?_
      rw [e3]
      refine hm_callV lm_RX3_90 (k3_comesDown l hτ wτ x2 (w.pl _) x3) rfl rfl rfl rfl (by first | exact Nat.lt_of_lt_of_le (by decide) hN | assumption | (simp only [hm_n_wI, hm_n_wL, hm_n_wR, hm_n_g] at *; omega)) (by decide) (by decide) (Nat.le_of_ble_eq_true rfl) dX3_sendAll_36 ?_
      rintro _ t9 ⟨rfl, hh9⟩
      rw [hh9]
      clear hh9 t9
      rw [q1]
      refine hm_if_eq 65 dX3_sendAll_39 (by decide) (fun h39 => ?_) (fun h39 => ?_)
      · skip
        rw [bI_0] at h39
        have g0 : false = pIsG α x := by unfold pIsG; rw [h39, Bool.false_and]
        refine hm_iconst dX3_sendAll_65 (v := 0) (by decide) ?_
        exact j2 _ g0
      · skip
        rw [bI_0] at h39
        refine hm_aload_n dX3_sendAll_42 rfl ?_
        refine hm_aload_n dX3_sendAll_43 rfl ?_
        refine hm_getI lf_RX3_61 rfl hSa (by omega) dX3_sendAll_44 ?_
        rw [e1]
        refine hm_aload_n dX3_sendAll_47 rfl ?_
        refine hm_getI lf_RX3_87 rfl hSa (by omega) dX3_sendAll_48 ?_
        rw [e2]
        refine hm_aload_n dX3_sendAll_51 rfl ?_
        refine hm_getI lf_RX3_107 rfl hSa (by omega) dX3_sendAll_52 ?_
        rw [e3]
        refine hm_callV lm_RX3_113 (k3_comesUp l hτ wτ x1 x2 x3) rfl rfl rfl rfl (by first | exact Nat.lt_of_lt_of_le (by decide) hN | assumption | (simp only [hm_n_wI, hm_n_wL, hm_n_wR, hm_n_g] at *; omega)) (by decide) (by decide) (Nat.le_of_ble_eq_true rfl) dX3_sendAll_55 ?_
        rintro _ t9 ⟨rfl, hh9⟩
        rw [hh9]
        clear hh9 t9
        rw [q2]
        refine hm_if_eq 65 dX3_sendAll_58 (by decide) (fun h58 => ?_) (fun h58 => ?_)
        · skip
          rw [bI_0] at h58
          have g0 : false = pIsG α x := by unfold pIsG; rw [h58, Bool.and_false]
          refine hm_iconst dX3_sendAll_65 (v := 0) (by decide) ?_
          exact j2 _ g0
        · skip
          rw [bI_0] at h58
          have g0 : true = pIsG α x := by unfold pIsG; rw [b_nf h39, b_nf h58]; rfl
          refine hm_iconst dX3_sendAll_61 (v := 1) (by decide) ?_
          refine hm_goto 66 dX3_sendAll_62 (by decide) ?_
          exact j2 _ g0
  refine hm_iconst dX3_sendAll_0 (v := 0) (by decide) ?_
  refine hm_istore_n dX3_sendAll_1 (by decide) rfl ?_
  exact hl1 _ 0 _ _ _ (Nat.zero_add _) (h.mid _ rfl) (cs_fr.rf σ) rfl
set_option maxRecDepth 100000 in
theorem k3_dropBearer (h : rC α σ) (w : sW α) {b : Nat} (hb : b < (aB α).length) : hm_Ct l yX3_dropBearer cX3_dropBearer 4 none 0 0 0 [.ref 1, .int (nI b)] σ (fun r τ => r = none ∧ rC (sB α ((aB α).eraseIdx b)) τ ∧ cs_fr σ τ) := by
  have hN := h.N
  have hA := h.r.2.2
  have hlen := w.len
  obtain ⟨x, hx⟩ : ∃ x, (aB α)[b]? = some x := ⟨_, List.getElem?_eq_getElem (by omega)⟩
  obtain ⟨x1, x2, x3⟩ := w.xb hx
  obtain ⟨-, π, hpi, hb3⟩ := h.b
  obtain ⟨hR, hpl⟩ := hpi.1 b (by omega)
  have hSa := S_b _ hpl
  obtain ⟨e1, e2, e3, e4, e5⟩ := hb3 b x hx
  obtain ⟨n, hn⟩ : ∃ n, (aB α).length = n + 1 := ⟨(aB α).length - 1, by omega⟩
  have hb1 : hm_I σ 1 2 = nI (n + 1) := by rw [← hn]; exact h.bl
  generalize hm6 : hm_I σ 6 (bCh x) &&& (((1 : Int32) <<< (nI (bAt x) &&& 31)) ^^^ (-1)) = m6
  generalize hm7 : hm_I σ 7 (bCh x) &&& (((1 : Int32) <<< (nI (bOf x) &&& 31)) ^^^ (-1)) = m7
  have hfin : ∀ τ : hm_M, hm_I τ = hm_I (hm_wI (hm_wI (hm_wI σ 6 (bCh x) m6) 7 (bCh x) m7) 1 2 (nI n)) → hm_L τ = hm_L σ → hm_n τ = hm_n σ → (∀ c j, c ≠ 8 → hm_R τ c j = hm_R σ c j) → (∀ j, j < 16 → hm_R τ 8 j = some (9 + π (er_ix b n j))) → rC (sB α ((aB α).eraseIdx b)) τ ∧ cs_fr σ τ := by
    intro τ i1 i2 i3 i4 i5
    have hix : ∀ j, j < 16 → er_ix b n j < 16 := fun j hj => by unfold er_ix; split; omega; split <;> omega
    have hIo : ∀ c k, ¬ (c = 6 ∧ k = bCh x) → ¬ (c = 7 ∧ k = bCh x) → ¬ (c = 1 ∧ k = 2) → hm_I τ c k = hm_I σ c k := fun c k h1 h2 h3 => by
      rw [i1, hm_I_wI, if_neg h3, hm_I_wI, if_neg h2, hm_I_wI, if_neg h1]
    refine ⟨h.newB (fun c k h1 h2 h3 h4 => hIo c k (fun q => h2 q.1) (fun q => h3 q.1) h4) i2 i4 i3 ⟨⟨?_, ?_⟩, fun j => π (er_ix b n j), ⟨fun j hj => ⟨i5 j hj, (hpi.1 _ (hix j hj)).2⟩, fun j k hj hk e => ?_⟩, fun j y hy => ?_⟩ (fun d k hd hk => ?_) (fun d k hd hk => ?_), by omega, fun c k h1 h2 => ⟨hIo c k (by omega) (by omega) (by omega), by rw [i2], i4 c k (by omega)⟩⟩
    · rw [i1, hm_I_wI, if_pos ⟨rfl, rfl⟩, List.length_eraseIdx, if_pos hb]; congr 1; omega
    · rw [List.length_eraseIdx, if_pos hb]; omega
    · have := hpi.2 _ _ (hix j hj) (hix k hk) e
      unfold er_ix at this
      split at this <;> split at this <;> (try split at this) <;> (try split at this) <;> omega
    · have hyl := (List.getElem?_eq_some_iff.mp hy).1
      rw [List.length_eraseIdx, if_pos hb] at hyl
      rw [List.getElem?_eraseIdx] at hy
      have hy2 : (aB α)[er_ix b n j]? = some y := by
        unfold er_ix
        by_cases e : j < b
        · rw [if_pos e] at hy; rw [if_neg (by omega), if_neg (by omega)]; exact hy
        · rw [if_neg e] at hy; rw [if_pos (by omega)]; exact hy
      obtain ⟨f1, f2, f3, f4, f5⟩ := hb3 _ y hy2
      refine ⟨?_, ?_, ?_, ?_, ?_⟩ <;> rw [hIo _ _ (by omega) (by omega) (by omega)] <;> assumption
    · rw [er_sends w hx]
      have hz := h.z.2.1 d k hd hk
      by_cases e : k = bCh x
      · rw [i1, hm_I_wI, if_neg (by omega), hm_I_wI, if_neg (by omega), hm_I_wI, if_pos ⟨rfl, e⟩, ← hm6, b_and, bt_not _ hd, bt_1 (by omega) hd, ← e, hz]
        by_cases g : d = bAt x <;> simp [g]
      · rw [hIo _ _ (by omega) (by omega) (by omega), hz]; simp [e]
    · rw [er_talks w hx]
      have hz := h.z.2.2 d k hd hk
      by_cases e : k = bCh x
      · rw [i1, hm_I_wI, if_neg (by omega), hm_I_wI, if_pos ⟨rfl, e⟩, ← hm7, b_and, bt_not _ hd, bt_1 (by omega) hd, ← e, hz]
        by_cases g : d = bOf x <;> simp [g]
      · rw [hIo _ _ (by omega) (by omega) (by omega), hz]; simp [e]
  refine hm_startQ (ini := false) [.ref 1, .int (nI b), hm_u, hm_u] (by decide) (by decide) rfl (Nat.le_of_ble_eq_true rfl) (fun Q hQ => ?_)
  have hl : ∀ (m k : Nat) (τ : hm_M) (u : Int32), k + m = n → b ≤ k → u = nI k → hm_I τ = hm_I (hm_wI (hm_wI (hm_wI σ 6 (bCh x) m6) 7 (bCh x) m7) 1 2 (nI n)) → hm_L τ = hm_L σ → hm_n τ = hm_n σ → (∀ c j, c ≠ 8 → hm_R τ c j = hm_R σ c j) → (∀ j, j < 16 → hm_R τ 8 j = some (9 + π (if b ≤ j ∧ j < k then j + 1 else j))) → hm_V l RX3 cX3_dropBearer 4 none false (hm_rm 0 0 0) 0 0 Q 0 0 59 [.ref 1, .int (nI b), .ref (9 + π b), .int u] [] τ := by
    intro m
    induction m with
    | zero =>
      intro k τ u hk hbk hu i1 i2 i3 i4 i5
      subst hu
      obtain rfl : k = n := by omega
      have hN : 52 ≤ hm_n τ := by rw [i3]; exact hN
      have hA : ∀ j, hm_R τ 1 j = ra_tab j := fun j => by rw [i4 _ _ (by omega)]; exact hA j
      have e12 : hm_I τ 1 2 = nI k := by rw [i1, hm_I_wI, if_pos ⟨rfl, rfl⟩]
      have hF := hfin (hm_wR τ 8 k (some (9 + π b))) i1 i2 i3 (fun c j hc => by rw [hm_R_wR, if_neg (by omega)]; exact i4 c j hc) (fun j hj => by
        rw [hm_R_wR]
        unfold er_ix
        by_cases e : j = k
        · rw [if_pos ⟨rfl, e⟩, if_neg (by omega), if_pos e]
        · rw [if_neg (fun q => e q.2), i5 j hj]
          by_cases g : b ≤ j ∧ j < k
          · rw [if_pos g, if_pos g]
          · rw [if_neg g, if_neg g, if_neg e])
      refine hm_iload_n dX3_dropBearer_59 rfl ?_
      refine hm_aload_n dX3_dropBearer_60 rfl ?_
      refine hm_getI lf_RX3_58 rfl rfl (by first | exact Nat.lt_of_lt_of_le (by decide) hN | assumption | (simp only [hm_n_wI, hm_n_wL, hm_n_wR, hm_n_g] at *; omega)) dX3_dropBearer_61 ?_
      rw [e12]
      refine hm_icmp_ge 87 dX3_dropBearer_64 (by decide) (fun _ => ?_) (fun h64 => absurd (nI_le (Nat.le_refl _) (by omega)) h64)
      refine hm_aload_n dX3_dropBearer_87 rfl ?_
      refine hm_getR lf_RX3_32 rfl rfl (by first | exact Nat.lt_of_lt_of_le (by decide) hN | assumption | (simp only [hm_n_wI, hm_n_wL, hm_n_wR, hm_n_g] at *; omega)) (hA 10) dX3_dropBearer_88 ?_
      refine hm_aload_n dX3_dropBearer_91 rfl ?_
      refine hm_getI lf_RX3_58 rfl rfl (by first | exact Nat.lt_of_lt_of_le (by decide) hN | assumption | (simp only [hm_n_wI, hm_n_wL, hm_n_wR, hm_n_g] at *; omega)) dX3_dropBearer_92 ?_
      rw [e12]
      refine hm_aload_n dX3_dropBearer_95 rfl ?_
      refine hm_aast _ rfl (by decide) (by first | exact Nat.lt_of_lt_of_le (by decide) hN | assumption | (simp only [hm_n_wI, hm_n_wL, hm_n_wR, hm_n_g] at *; omega)) hSa (by omega) rfl (by omega) (by decide) dX3_dropBearer_96 ?_
      refine hm_vret dX3_dropBearer_97 rfl (by decide) (by decide) ?_
      exact hQ _ _ ⟨rfl, hF.1, hF.2⟩
    | succ m ih =>
      intro k τ u hk hbk hu i1 i2 i3 i4 i5
      subst hu
      have hN : 52 ≤ hm_n τ := by rw [i3]; exact hN
      have hA : ∀ j, hm_R τ 1 j = ra_tab j := fun j => by rw [i4 _ _ (by omega)]; exact hA j
      have e12 : hm_I τ 1 2 = nI n := by rw [i1, hm_I_wI, if_pos ⟨rfl, rfl⟩]
      have hr1 : hm_R τ 8 (k + 1) = some (9 + π (k + 1)) := by rw [i5 _ (by omega), if_neg (by omega)]
      have hp1 := (hpi.1 (k + 1) (by omega)).2
      refine hm_iload_n dX3_dropBearer_59 rfl ?_
      refine hm_aload_n dX3_dropBearer_60 rfl ?_
      refine hm_getI lf_RX3_58 rfl rfl (by first | exact Nat.lt_of_lt_of_le (by decide) hN | assumption | (simp only [hm_n_wI, hm_n_wL, hm_n_wR, hm_n_g] at *; omega)) dX3_dropBearer_61 ?_
      rw [e12]
      refine hm_icmp_ge 87 dX3_dropBearer_64 (by decide) (fun h64 => absurd h64 (nI_ge (by omega) (by omega))) (fun _ => ?_)
      refine hm_aload_n dX3_dropBearer_67 rfl ?_
      refine hm_getR lf_RX3_32 rfl rfl (by first | exact Nat.lt_of_lt_of_le (by decide) hN | assumption | (simp only [hm_n_wI, hm_n_wL, hm_n_wR, hm_n_g] at *; omega)) (hA 10) dX3_dropBearer_68 ?_
      refine hm_iload_n dX3_dropBearer_71 rfl ?_
      refine hm_aload_n dX3_dropBearer_72 rfl ?_
      refine hm_getR lf_RX3_32 rfl rfl (by first | exact Nat.lt_of_lt_of_le (by decide) hN | assumption | (simp only [hm_n_wI, hm_n_wL, hm_n_wR, hm_n_g] at *; omega)) (hA 10) dX3_dropBearer_73 ?_
      refine hm_iload_n dX3_dropBearer_76 rfl ?_
      refine hm_iconst dX3_dropBearer_77 (v := 1) (by decide) ?_
      refine hm_iadd dX3_dropBearer_78 ?_
      refine hm_aald (k + 1) (.ref (9 + π (k + 1))) rfl (by decide) (by first | exact Nat.lt_of_lt_of_le (by decide) hN | assumption | (simp only [hm_n_wI, hm_n_wL, hm_n_wR, hm_n_g] at *; omega)) (nI_1 k) (by omega) (by decide) (Or.inr ⟨_, rfl, hr1⟩) dX3_dropBearer_79 ?_
      refine hm_aast _ rfl (by decide) (by first | exact Nat.lt_of_lt_of_le (by decide) hN | assumption | (simp only [hm_n_wI, hm_n_wL, hm_n_wR, hm_n_g] at *; omega)) (S_b _ hp1) (by omega) rfl (by omega) (by decide) dX3_dropBearer_80 ?_
      refine hm_iinc dX3_dropBearer_81 rfl _ rfl (by decide) rfl ?_
      refine hm_goto 59 dX3_dropBearer_84 (by decide) ?_
      refine ih (k + 1) _ _ (by omega) (by omega) (hm_inc k) i1 i2 i3 (fun c j hc => by rw [hm_R_wR, if_neg (by omega)]; exact i4 c j hc) (fun j hj => ?_)
      rw [hm_R_wR]
      (by_cases e : j = k)
      (rw [if_pos ⟨rfl, e⟩, if_pos (by omega), e])
      rw [if_neg (fun q => e q.2), i5 j hj]
      (by_cases g : b ≤ j ∧ j < k)
      (rw [if_pos g, if_pos (by omega)])
      (rw [if_neg g, if_neg (by omega)])
  refine hm_aload_n dX3_dropBearer_0 rfl ?_
  refine hm_getR lf_RX3_32 rfl rfl (by first | exact Nat.lt_of_lt_of_le (by decide) hN | assumption | (simp only [hm_n_wI, hm_n_wL, hm_n_wR, hm_n_g] at *; omega)) (hA 10) dX3_dropBearer_1 ?_
  refine hm_iload_n dX3_dropBearer_4 rfl ?_
  refine hm_aald _ (.ref (9 + π b)) rfl (by decide) (by first | exact Nat.lt_of_lt_of_le (by decide) hN | assumption | (simp only [hm_n_wI, hm_n_wL, hm_n_wR, hm_n_g] at *; omega)) rfl (by omega) (by decide) (Or.inr ⟨_, rfl, hR⟩) dX3_dropBearer_5 ?_
  refine hm_astore_n dX3_dropBearer_6 (by decide) rfl ?_
  refine hm_aload_n dX3_dropBearer_7 rfl ?_
  refine hm_getR lf_RX3_24 rfl rfl (by first | exact Nat.lt_of_lt_of_le (by decide) hN | assumption | (simp only [hm_n_wI, hm_n_wL, hm_n_wR, hm_n_g] at *; omega)) (hA 8) dX3_dropBearer_8 ?_
  refine hm_aload_n dX3_dropBearer_11 rfl ?_
  refine hm_getI lf_RX3_107 rfl hSa (by show 9 + π b < hm_n σ; omega) dX3_dropBearer_12 ?_
  rw [e3]
  refine hm_dup2 dX3_dropBearer_15 rfl rfl ?_
  refine hm_iald _ rfl (by first | exact Nat.lt_of_lt_of_le (by decide) hN | assumption | (simp only [hm_n_wI, hm_n_wL, hm_n_wR, hm_n_g] at *; omega)) rfl (by omega) (by decide) dX3_dropBearer_16 ?_
  refine hm_iconst dX3_dropBearer_17 (v := 1) (by decide) ?_
  refine hm_aload_n dX3_dropBearer_18 rfl ?_
  refine hm_getI lf_RX3_87 rfl hSa (by show 9 + π b < hm_n σ; omega) dX3_dropBearer_19 ?_
  rw [e2]
  refine hm_ishl dX3_dropBearer_22 ?_
  refine hm_iconst dX3_dropBearer_23 (v := -1) (by decide) ?_
  refine hm_ixor dX3_dropBearer_24 ?_
  refine hm_iand dX3_dropBearer_25 ?_
  rw [hm6]
  refine hm_iast _ rfl (by first | exact Nat.lt_of_lt_of_le (by decide) hN | assumption | (simp only [hm_n_wI, hm_n_wL, hm_n_wR, hm_n_g] at *; omega)) rfl (by omega) (by decide) dX3_dropBearer_26 ?_
  refine hm_aload_n dX3_dropBearer_27 rfl ?_
  refine hm_getR lf_RX3_27 rfl rfl (by first | exact Nat.lt_of_lt_of_le (by decide) hN | assumption | (simp only [hm_n_wI, hm_n_wL, hm_n_wR, hm_n_g] at *; omega)) (hA 9) dX3_dropBearer_28 ?_
  refine hm_aload_n dX3_dropBearer_31 rfl ?_
  refine hm_getI lf_RX3_107 rfl hSa (by show 9 + π b < hm_n σ; omega) dX3_dropBearer_32 ?_
  rw [hm_I_wI, if_neg (by omega), e3]
  refine hm_dup2 dX3_dropBearer_35 rfl rfl ?_
  refine hm_iald _ rfl (by first | exact Nat.lt_of_lt_of_le (by decide) hN | assumption | (simp only [hm_n_wI, hm_n_wL, hm_n_wR, hm_n_g] at *; omega)) rfl (by omega) (by decide) dX3_dropBearer_36 ?_
  rw [hm_I_wI, if_neg (by omega)]
  refine hm_iconst dX3_dropBearer_37 (v := 1) (by decide) ?_
  refine hm_aload_n dX3_dropBearer_38 rfl ?_
  refine hm_getI lf_RX3_61 rfl hSa (by show 9 + π b < hm_n σ; omega) dX3_dropBearer_39 ?_
  rw [hm_I_wI, if_neg (by omega), e1]
  refine hm_ishl dX3_dropBearer_42 ?_
  refine hm_iconst dX3_dropBearer_43 (v := -1) (by decide) ?_
  refine hm_ixor dX3_dropBearer_44 ?_
  refine hm_iand dX3_dropBearer_45 ?_
  rw [hm7]
  refine hm_iast _ rfl (by first | exact Nat.lt_of_lt_of_le (by decide) hN | assumption | (simp only [hm_n_wI, hm_n_wL, hm_n_wR, hm_n_g] at *; omega)) rfl (by omega) (by decide) dX3_dropBearer_46 ?_
  refine hm_aload_n dX3_dropBearer_47 rfl ?_
  refine hm_dup dX3_dropBearer_48 rfl ?_
  refine hm_getI lf_RX3_58 rfl rfl (by first | exact Nat.lt_of_lt_of_le (by decide) hN | assumption | (simp only [hm_n_wI, hm_n_wL, hm_n_wR, hm_n_g] at *; omega)) dX3_dropBearer_49 ?_
  rw [hm_I_wI, if_neg (by omega), hm_I_wI, if_neg (by omega), hb1]
  refine hm_iconst dX3_dropBearer_52 (v := 1) (by decide) ?_
  refine hm_isub dX3_dropBearer_53 ?_
  rw [nI_pred]
  refine hm_putI lf_RX3_58 rfl rfl rfl (by first | exact Nat.lt_of_lt_of_le (by decide) hN | assumption | (simp only [hm_n_wI, hm_n_wL, hm_n_wR, hm_n_g] at *; omega)) dX3_dropBearer_54 ?_
  refine hm_iload_n dX3_dropBearer_57 rfl ?_
  refine hm_istore_n dX3_dropBearer_58 (by decide) rfl ?_
  exact hl (n - b) b _ _ (by omega) (Nat.le_refl _) rfl rfl rfl rfl (fun _ _ _ => rfl) (fun j hj => by rw [if_neg (by omega)]; exact (hpi.1 j hj).1)
end C5
