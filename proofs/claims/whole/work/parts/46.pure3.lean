/-! one that is called is waited for: its partner's call rings, and is with it. What holds goes on holding over the public calls -/
def sV (α : sA) : Prop := ∀ p, p < nPort α → pCalled (aI α 1 p) = true → aI α 1 (pPar α p) = 3 ∧ aI α 2 (pPar α p) = nI p
theorem called_ne {x : Int32} (h : pCalled x = true) : x ≠ 0 ∧ x ≠ 1 ∧ x ≠ 2 ∧ x ≠ 3 ∧ x ≠ 7 := by
  refine ⟨?_, ?_, ?_, ?_, ?_⟩ <;> (intro e; rw [e] at h; revert h; decide)
theorem sV.of {α β : sA} (v : sV α) (hn : nPort β = nPort α) (h1 : aI β 1 = aI α 1) (h2 : aI β 2 = aI α 2) : sV β := by
  intro p hp hc
  have e : pPar β p = pPar α p := by unfold pPar; rw [h2]
  rw [e, h1, h2]
  rw [h1] at hc
  exact v p (by omega) hc
theorem ends_I1 (α : sA) (p q : Nat) : aI (pEnds α p) 1 q = if q = p ∨ (pTog α p = true ∧ q = pPar α p) then 0 else aI α 1 q := by
  unfold pEnds pEnded
  by_cases ht : pTog α p = true
  · rw [if_pos ht]
    simp only [pIdle, aN_sN, aN_sI, aN_sL, aN_sB, aN_sQ, aI_sN, aI_sI, aI_sL, aI_sB, aI_sQ, aL_sN, aL_sI, aL_sL, aL_sB, aL_sQ, aB_sN, aB_sI, aB_sL, aB_sB, aB_sQ, aQ_sN, aQ_sI, aQ_sL, aQ_sB, aQ_sQ]
    by_cases e1 : q = p
    · subst e1
      simp [ht]
    · by_cases e2 : q = pPar α p
      · simp [ht, e1, e2]
      · simp [ht, e1, e2]
  · rw [if_neg ht]
    simp only [pIdle, aN_sN, aN_sI, aN_sL, aN_sB, aN_sQ, aI_sN, aI_sI, aI_sL, aI_sB, aI_sQ, aL_sN, aL_sI, aL_sL, aL_sB, aL_sQ, aB_sN, aB_sI, aB_sL, aB_sB, aB_sQ, aQ_sN, aQ_sI, aQ_sL, aQ_sB, aQ_sQ]
    by_cases e1 : q = p
    · subst e1; simp [ht]
    · simp [ht, e1]
theorem ends_I2 (α : sA) (p q : Nat) : aI (pEnds α p) 2 q = if q = p ∨ (pTog α p = true ∧ q = pPar α p) then -9 else aI α 2 q := by
  unfold pEnds pEnded
  by_cases ht : pTog α p = true
  · rw [if_pos ht]
    simp only [pIdle, aN_sN, aN_sI, aN_sL, aN_sB, aN_sQ, aI_sN, aI_sI, aI_sL, aI_sB, aI_sQ, aL_sN, aL_sI, aL_sL, aL_sB, aL_sQ, aB_sN, aB_sI, aB_sL, aB_sB, aB_sQ, aQ_sN, aQ_sI, aQ_sL, aQ_sB, aQ_sQ]
    by_cases e1 : q = p
    · subst e1
      simp [ht]
    · by_cases e2 : q = pPar α p
      · simp [ht, e1, e2]
      · simp [ht, e1, e2]
  · rw [if_neg ht]
    simp only [pIdle, aN_sN, aN_sI, aN_sL, aN_sB, aN_sQ, aI_sN, aI_sI, aI_sL, aI_sB, aI_sQ, aL_sN, aL_sI, aL_sL, aL_sB, aL_sQ, aB_sN, aB_sI, aB_sL, aB_sB, aB_sQ, aQ_sN, aQ_sI, aQ_sL, aQ_sB, aQ_sQ]
    by_cases e1 : q = p
    · subst e1; simp [ht]
    · simp [ht, e1]
theorem sV.ends {α : sA} (v : sV α) (w : sW α) {p : Nat} (hp : p < nPort α) (hs : aI α 1 p ≠ 0) : sV (pEnds α p) := by
  have h8 := w.p8
  have hn : nPort (pEnds α p) = nPort α := nP_of (ends_N α p)
  intro q hq hc
  rw [hn] at hq
  rw [ends_I1] at hc
  by_cases hx : q = p ∨ (pTog α p = true ∧ q = pPar α p)
  · rw [if_pos hx] at hc
    exact absurd hc (by decide)
  · rw [if_neg hx] at hc
    have hpar : pPar (pEnds α p) q = pPar α q := by unfold pPar; rw [ends_I2, if_neg hx]
    obtain ⟨u1, u2⟩ := v q hq hc
    obtain ⟨x1, x2, x3, -⟩ := w.par hq (called_ne hc).1
    have hy : ¬ (pPar α q = p ∨ (pTog α p = true ∧ pPar α q = pPar α p)) := by
      rintro (e | ⟨e1, e2⟩)
      · rw [e] at u1 u2 x3
        have hpq : pPar α p = q := by unfold pPar; rw [u2, nI_clamp (by omega)]
        apply hx
        right
        refine ⟨?_, hpq.symm⟩
        unfold pTog
        rw [hpq, u1]
        unfold pBoth
        rw [hc, show pCaller 3 = true by decide]
        simp [x3]
      · rw [e2] at u2
        unfold pTog at e1
        rw [u2] at e1
        simp at e1
        exact hx (Or.inl ((nI_eq (by omega) (by omega)).mp e1.1))
    rw [hpar, ends_I1, ends_I2, if_neg hy, if_neg hy]
    exact ⟨u1, u2⟩
/-- a portable that isn't waited for moves on, and stays called if it was -/
theorem sV.mv {α : sA} (v : sV α) {p : Nat} (h3 : aI α 1 p ≠ 3) {x : Int32} (hx : pCalled x = true → pCalled (aI α 1 p) = true) : sV (sI α 1 p x) := by
  intro q hq hc
  have hq' : q < nPort α := hq
  have hpar : pPar (sI α 1 p x) q = pPar α q := by unfold pPar; rw [aI_sI, if_neg (by omega)]
  have hc' : pCalled (aI α 1 q) = true := by
    rw [aI_sI] at hc
    by_cases e : q = p
    · rw [if_pos ⟨rfl, e⟩] at hc; rw [e]; exact hx hc
    · rw [if_neg (fun z => e z.2)] at hc; exact hc
  obtain ⟨u1, u2⟩ := v q hq' hc'
  rw [hpar, aI_sI, aI_sI, if_neg (fun z => h3 (by rw [← z.2]; exact u1)), if_neg (by omega)]
  exact ⟨u1, u2⟩
theorem sV.page {α : sA} (v : sV α) (w : sW α) {p : Nat} (hp : p < nPort α) (h2 : aI α 1 p = 2) : sV (pPage α p) := by
  obtain ⟨r1, r2, r3, -⟩ := w.par hp (by rw [h2]; decide)
  unfold pPage
  split
  · rename_i hc
    simp at hc
    intro q hq hk
    have hq' : q < nPort α := hq
    by_cases e : q = pPar α p
    · subst e
      have hpar : pPar (sI (sI (sI (sI α 1 p 3) 1 (pPar α p) 4) 2 (pPar α p) (nI p)) 3 (pPar α p) (nI (aN α 6 0))) (pPar α p) = p := by
        have h8 := w.p8
        unfold pPar
        simp only [aN_sN, aN_sI, aN_sL, aN_sB, aN_sQ, aI_sN, aI_sI, aI_sL, aI_sB, aI_sQ, aL_sN, aL_sI, aL_sL, aL_sB, aL_sQ, aB_sN, aB_sI, aB_sL, aB_sB, aB_sQ, aQ_sN, aQ_sI, aQ_sL, aQ_sB, aQ_sQ]
        simp
        exact nI_clamp (by omega)
      rw [hpar]
      simp only [aN_sN, aN_sI, aN_sL, aN_sB, aN_sQ, aI_sN, aI_sI, aI_sL, aI_sB, aI_sQ, aL_sN, aL_sI, aL_sL, aL_sB, aL_sQ, aB_sN, aB_sI, aB_sL, aB_sB, aB_sQ, aQ_sN, aQ_sI, aQ_sL, aQ_sB, aQ_sQ]
      have r2' : ¬ p = pPar α p := fun z => r2 z.symm
      simp [r2', r3]
    · have hqp : q ≠ p := by
        rintro rfl
        simp only [aN_sN, aN_sI, aN_sL, aN_sB, aN_sQ, aI_sN, aI_sI, aI_sL, aI_sB, aI_sQ, aL_sN, aL_sI, aL_sL, aL_sB, aL_sQ, aB_sN, aB_sI, aB_sL, aB_sB, aB_sQ, aQ_sN, aQ_sI, aQ_sL, aQ_sB, aQ_sQ] at hk
        simp [e] at hk
        exact absurd hk (by decide)
      have hk' : pCalled (aI α 1 q) = true := by
        simp only [aN_sN, aN_sI, aN_sL, aN_sB, aN_sQ, aI_sN, aI_sI, aI_sL, aI_sB, aI_sQ, aL_sN, aL_sI, aL_sL, aL_sB, aL_sQ, aB_sN, aB_sI, aB_sL, aB_sB, aB_sQ, aQ_sN, aQ_sI, aQ_sL, aQ_sB, aQ_sQ] at hk
        simpa [e, hqp] using hk
      obtain ⟨u1, u2⟩ := v q hq' hk'
      have n1 : pPar α q ≠ p := fun z => by rw [z, h2] at u1; exact absurd u1 (by decide)
      have n2 : pPar α q ≠ pPar α p := fun z => by rw [z, hc.1] at u1; exact absurd u1 (by decide)
      have hpar : pPar (sI (sI (sI (sI α 1 p 3) 1 (pPar α p) 4) 2 (pPar α p) (nI p)) 3 (pPar α p) (nI (aN α 6 0))) q = pPar α q := by
        unfold pPar
        unfold pPar at e
        simp only [aN_sN, aN_sI, aN_sL, aN_sB, aN_sQ, aI_sN, aI_sI, aI_sL, aI_sB, aI_sQ, aL_sN, aL_sI, aL_sL, aL_sB, aL_sQ, aB_sN, aB_sI, aB_sL, aB_sB, aB_sQ, aQ_sN, aQ_sI, aQ_sL, aQ_sB, aQ_sQ]
        simp [e]
      rw [hpar]
      simp only [aN_sN, aN_sI, aN_sL, aN_sB, aN_sQ, aI_sN, aI_sI, aI_sL, aI_sB, aI_sQ, aL_sN, aL_sI, aL_sL, aL_sB, aL_sQ, aB_sN, aB_sI, aB_sL, aB_sB, aB_sQ, aQ_sN, aQ_sI, aQ_sL, aQ_sB, aQ_sQ]
      simp [n1, n2, u1, u2]
  · rw [ends_3 w hp h2]
    exact v.ends w hp (by rw [h2]; decide)
theorem sV.call {α : sA} (v : sV α) (w : sW α) {p : Nat} (hp : p < nPort α) : sV (pCall α p) := by
  unfold pCall
  split
  · by_cases h1 : aI α 1 p = 1
    · rw [if_pos h1]; exact v.mv (by rw [h1]; decide) (fun h => absurd h (by decide))
    · rw [if_neg h1]
      by_cases h4 : aI α 1 p = 4
      · rw [if_pos h4]; exact v.mv (by rw [h4]; decide) (by rw [h4]; decide)
      · rw [if_neg h4]
        by_cases h2 : aI α 1 p = 2
        · rw [if_pos h2]
          split
          · exact v.page w hp h2
          · exact v.ends w hp (by rw [h2]; decide)
        · rw [if_neg h2]
          by_cases h5 : aI α 1 p = 5
          · rw [if_pos h5]
            split
            · exact v.mv (by rw [h5]; decide) (by rw [h5]; decide)
            · exact v.ends w hp (by rw [h5]; decide)
          · rw [if_neg h5]; exact v
  · exact v
theorem sV.noB {α : sA} (v : sV α) (w : sW α) {p : Nat} (hp : p < nPort α) : sV (pNoB α p) := by
  unfold pNoB
  split
  · rename_i h
    simp at h
    exact v.ends w hp h.1.1
  · exact v
theorem sV.old {α : sA} (v : sV α) (w : sW α) {p : Nat} (hp : p < nPort α) : sV (pOld α p) := by
  unfold pOld
  split
  · rename_i h
    refine v.ends w hp (fun e => ?_)
    rw [e] at h
    simp [pPend] at h
  · exact v
theorem setUp_I (α : sA) (p f : Nat) (hf : f < 4) : aI (pSetUp α p) f = aI α f := by
  have hf' : ¬ f = 4 := by omega
  unfold pSetUp
  split
  · split
    · split
      · funext q; simp [pAdd, aN_sN, aN_sI, aN_sL, aN_sB, aN_sQ, aI_sN, aI_sI, aI_sL, aI_sB, aI_sQ, aL_sN, aL_sI, aL_sL, aL_sB, aL_sQ, aB_sN, aB_sI, aB_sL, aB_sB, aB_sQ, aQ_sN, aQ_sI, aQ_sL, aQ_sB, aQ_sQ, hf']
      · rfl
    · rfl
  · rfl
theorem hand_I (α : sA) (p f : Nat) (hf : f < 4) : aI (pHand α p) f = aI α f := by
  have hf' : ¬ f = 4 := by omega
  unfold pHand
  split
  · funext q; simp [aN_sN, aN_sI, aN_sL, aN_sB, aN_sQ, aI_sN, aI_sI, aI_sL, aI_sB, aI_sQ, aL_sN, aL_sI, aL_sL, aL_sB, aL_sQ, aB_sN, aB_sI, aB_sL, aB_sB, aB_sQ, aQ_sN, aQ_sI, aQ_sL, aQ_sB, aQ_sQ, hf']
  · rfl
theorem up_I2 (α : sA) (p : Nat) : aI (pUp α p) 2 = aI α 2 := by
  unfold pUp
  split
  · split
    · rfl
    · dsimp only
      split
      · funext q; simp [aN_sN, aN_sI, aN_sL, aN_sB, aN_sQ, aI_sN, aI_sI, aI_sL, aI_sB, aI_sQ, aL_sN, aL_sI, aL_sL, aL_sB, aL_sQ, aB_sN, aB_sI, aB_sL, aB_sB, aB_sQ, aQ_sN, aQ_sI, aQ_sL, aQ_sB, aQ_sQ]
      · funext q; simp [aN_sN, aN_sI, aN_sL, aN_sB, aN_sQ, aI_sN, aI_sI, aI_sL, aI_sB, aI_sQ, aL_sN, aL_sI, aL_sL, aL_sB, aL_sQ, aB_sN, aB_sI, aB_sL, aB_sB, aB_sQ, aQ_sN, aQ_sI, aQ_sL, aQ_sB, aQ_sQ]
  · rfl
theorem down_I2 (rd : Nat → Nat) (α : sA) (p : Nat) : aI (pDown rd α p) 2 = aI α 2 := by
  unfold pDown
  split
  · split
    · rfl
    · funext q; simp [aN_sN, aN_sI, aN_sL, aN_sB, aN_sQ, aI_sN, aI_sI, aI_sL, aI_sB, aI_sQ, aL_sN, aL_sI, aL_sL, aL_sB, aL_sQ, aB_sN, aB_sI, aB_sL, aB_sB, aB_sQ, aQ_sN, aQ_sI, aQ_sL, aQ_sB, aQ_sQ]
  · rfl
def sY (α : sA) : Prop := sW α ∧ sV α
theorem pAll_sY {f : sA → Nat → sA} (hf : ∀ β p, nPort (f β p) = nPort β) (hw : ∀ β p, sY β → p < nPort β → sY (f β p)) {α : sA} (w : sY α) : ∀ k, k ≤ nPort α → sY (pAll f α k) := by
  intro k
  induction k with
  | zero => exact fun _ => w
  | succ k ih => exact fun hk => hw _ _ (ih (by omega)) (by rw [pAll_nP hf]; omega)
theorem sY.calls {α : sA} (w : sY α) (ht : aN α 6 0 < 100000) : sY (pCalls α) := by
  have w0 : sY (pTick α) := ⟨w.1.tick ht, w.2.of (by simp [nPort, pTick, aN_sN]) rfl rfl⟩
  have w1 : sY (pAllP pSetUp (pTick α)) := pAll_sY (fun β p => nP_of (setUp_N β p)) (fun β p wb hp => ⟨wb.1.setUp hp, wb.2.of (nP_of (setUp_N β p)) (setUp_I β p 1 (by omega)) (setUp_I β p 2 (by omega))⟩) w0 _ (Nat.le_refl _)
  have w2 : sY (pDropF (pSend (pAllP pSetUp (pTick α)))) := ⟨w1.1.send.dropF, w1.2.of rfl rfl rfl⟩
  have w3 : sY (pAllP pHand (pDropF (pSend (pAllP pSetUp (pTick α))))) := pAll_sY nP_hand (fun β p wb _ => ⟨wb.1.hand p, wb.2.of (nP_hand β p) (hand_I β p 1 (by omega)) (hand_I β p 2 (by omega))⟩) w2 _ (Nat.le_refl _)
  have w4 : sY (pAllP pNoB (pAllP pHand (pDropF (pSend (pAllP pSetUp (pTick α)))))) := pAll_sY nP_noB (fun β p wb hp => ⟨wb.1.noB hp, wb.2.noB wb.1 hp⟩) w3 _ (Nat.le_refl _)
  exact pAll_sY (fun β p => nP_of (call_N β p)) (fun β p wb hp => ⟨wb.1.call hp, wb.2.call wb.1 hp⟩) w4 _ (Nat.le_refl _)
theorem sV.all {f : sA → Nat → sA} (hf : ∀ β p, nPort (f β p) = nPort β) (h1 : ∀ β p, aI (f β p) 1 = aI β 1) (h2 : ∀ β p, aI (f β p) 2 = aI β 2) {α : sA} (v : sV α) : ∀ k, sV (pAll f α k) := by
  intro k
  induction k with
  | zero => exact v
  | succ k ih => exact ih.of (hf _ _) (h1 _ _) (h2 _ _)
theorem sY.frame {α : sA} (w : sY α) (ht : aN α 6 0 < 100000) : sY (pFrame α) := by
  have y1 := w.calls ht
  obtain ⟨w1, n1, -⟩ := w.1.calls ht
  have w2 : sW (pAllP pUp (pCalls α)) := pAll_sW (fun β p => nP_of (up_N β p)) (fun β p wb hp => wb.up hp) w1 _ (Nat.le_refl _)
  have n2 : aN (pAllP pUp (pCalls α)) = aN (pTick α) := (ups_N _ _).trans n1
  have w3 : sW (pVoice (pCalls α)) := downs_sW _ w2 (fun q _ => by rw [n2]; exact tick_h w.1 q) _ (Nat.le_refl _)
  have v2 : sV (pAllP pUp (pCalls α)) := sV.all (fun β p => nP_of (up_N β p)) up_I up_I2 y1.2 _
  have v3 : sV (pVoice (pCalls α)) := sV.all (down_nP _) (down_I _) (down_I2 _) v2 _
  exact pAll_sY (fun β p => nP_of (old_N β p)) (fun β p wb hp => ⟨wb.1.old hp, wb.2.old wb.1 hp⟩) ⟨w3, v3⟩ _ (Nat.le_refl _)
theorem sY.frames {α : sA} (w : sY α) : ∀ k, aN α 6 0 + k ≤ 100000 → sY (pFrames α k) ∧ aN (pFrames α k) 6 0 = aN α 6 0 + k := by
  intro k
  induction k with
  | zero => exact fun _ => ⟨w, rfl⟩
  | succ k ih =>
    intro hk
    obtain ⟨h1, h2⟩ := ih (by omega)
    refine ⟨h1.frame (by omega), ?_⟩
    show aN (pFrame (pFrames α k)) 6 0 = _
    rw [(h1.1.frame (by omega)).2.1, h2]
    omega
/-! the public calls -/
theorem sY.cnt {α : sA} (w : sY α) (f i : Nat) (hf : 4 ≤ f) (v : Int32) : sY (sI α f i v) := by
  refine ⟨w.1.cnt f i hf v, w.2.of rfl ?_ ?_⟩ <;> (funext q; rw [aI_sI, if_neg (by omega)])
theorem sY.ref {α : sA} (w : sY α) (k : Nat) : sY (pRef α k).2 := w.cnt 5 k (by omega) _
theorem yoCell {α : sA} (w : sY α) (ch : Int32) : sY (oCell α ch).2 := by
  unfold oCell
  split
  · exact w.ref 1
  · split
    · exact w.ref 6
    · rename_i h1 h2
      simp at h1
      obtain ⟨j, hj, rfl⟩ := pIn_some (by decide) h1
      rw [nI_clamp (by omega)]
      have h4 := w.1.c4
      have x := w.1
      have eN : ∀ f i, aN (sN (sN α 2 (nCell α) j) 0 0 (nCell α + 1)) f i = if f = 0 ∧ i = 0 then nCell α + 1 else if f = 2 ∧ i = nCell α then j else aN α f i := fun f i => rfl
      refine ⟨⟨⟨?_, ?_, ?_⟩, ⟨fun c => ?_, fun c => ?_, fun c => ?_, fun c => ?_⟩, fun z hz => ?_, x.2.2.2.1, x.2.2.2.2.1, fun p => ?_, x.2.2.2.2.2.2.1, fun p hp => ?_, fun p hp => ?_⟩, w.2.of rfl rfl rfl⟩
      · show aN _ 0 0 ≤ 4; rw [eN, if_pos ⟨rfl, rfl⟩]; omega
      · exact x.p8
      · exact x.t
      · rw [eN, if_neg (by omega)]
        split
        · exact hj
        · exact x.bc c
      · exact x.pl c
      · exact x.rc c
      · exact x.nz c
      · have hz2 := x.x (x := z) hz
        refine ⟨hz2.1, ?_, hz2.2.2.1, ?_⟩
        · show bAt z < aN _ 0 0; rw [eN, if_pos ⟨rfl, rfl⟩]; omega
        · rw [eN, if_neg (by omega), if_neg (by omega)]; exact hz2.2.2.2
      · exact x.q p
      · exact x.st hp
      · exact x.z hp
theorem yoPortable {α : sA} (w : sY α) (pl : Int32) (key : Int64) : sY (oPortable α pl key).2 := by
  unfold oPortable
  split
  · exact w.ref 1
  · split
    · exact w.ref 6
    · rename_i h1 h2
      simp at h1
      obtain ⟨j, hj, rfl⟩ := pIn_some (by decide) h1
      rw [nI_clamp (by omega)]
      have h8 := w.1.p8
      have x := w.1
      generalize hm : nPort α = n at *
      have eN : ∀ f i, aN (sN (sI (sL (sN α 3 n j) 0 n key) 2 n (-9)) 1 0 (n + 1)) f i = if f = 1 ∧ i = 0 then n + 1 else if f = 3 ∧ i = n then j else aN α f i := fun f i => rfl
      have eI : ∀ f i, aI (sN (sI (sL (sN α 3 n j) 0 n key) 2 n (-9)) 1 0 (n + 1)) f i = if f = 2 ∧ i = n then -9 else aI α f i := fun f i => rfl
      have eL : ∀ f i, aL (sN (sI (sL (sN α 3 n j) 0 n key) 2 n (-9)) 1 0 (n + 1)) f i = if f = 0 ∧ i = n then key else aL α f i := fun f i => rfl
      have eP : nPort (sN (sI (sL (sN α 3 n j) 0 n key) 2 n (-9)) 1 0 (n + 1)) = n + 1 := by show aN _ 1 0 = _; rw [eN, if_pos ⟨rfl, rfl⟩]
      refine ⟨⟨⟨x.c4, ?_, x.t⟩, ⟨x.bc, fun p => ?_, x.rc, x.nz⟩, fun z hz => ?_, x.2.2.2.1, x.2.2.2.2.1, x.q, fun p => ?_, fun p hp => ?_, fun p hp => ?_⟩, fun p hp hc => ?_⟩
      · rw [eP]; omega
      · rw [eN, if_neg (by omega)]
        split
        · exact hj
        · exact x.pl p
      · have hz2 := x.x (x := z) hz
        rw [eP]
        exact ⟨by omega, hz2.2⟩
      · rw [eI, if_neg (by omega)]; exact x.en p
      · rw [eP] at hp
        rw [eP, show aI (sN (sI (sL (sN α 3 n j) 0 n key) 2 n (-9)) 1 0 (n + 1)) 1 p = aI α 1 p by rw [eI, if_neg (by omega)], show aI (sN (sI (sL (sN α 3 n j) 0 n key) 2 n (-9)) 1 0 (n + 1)) 0 p = aI α 0 p by rw [eI, if_neg (by omega)], eI]
        by_cases e : p = n
        · left
          rw [if_pos ⟨rfl, e⟩]
          exact ⟨(x.z (by omega)).2.1, rfl⟩
        · rw [if_neg (by omega)]
          rcases x.st (p := p) (by omega) with h | ⟨h3, h4, q, h5⟩
          · exact Or.inl h
          · exact Or.inr ⟨h3, h4, q, by omega, h5.2⟩
      · rw [eP] at hp
        rw [eI, eI, eI, eL, eN, if_neg (by omega), if_neg (by omega), if_neg (by omega), if_neg (by omega), if_neg (by omega), if_neg (by omega)]
        exact x.z (by omega)
      · rw [eP] at hp
        rw [eI, if_neg (by omega)] at hc
        have hne : p ≠ n := by
          rintro rfl
          rw [(x.z (p := p) (by omega)).2.1] at hc
          exact absurd hc (by decide)
        have hpar : pPar (sN (sI (sL (sN α 3 n j) 0 n key) 2 n (-9)) 1 0 (n + 1)) p = pPar α p := by unfold pPar; rw [eI, if_neg (by omega)]
        have := w.2 p (by omega) hc
        have hq := (x.par (p := p) (by omega) (called_ne hc).1).1
        rw [hpar, eI, eI, if_neg (by omega), if_neg (by omega)]
        exact this
theorem sY.N {α : sA} (w : sY α) (f i v : Nat) (h : f = 3 ∧ v < 16 ∨ f = 4 ∧ v < 16 ∨ f = 5 ∧ v ≤ 1) : sY (sN α f i v) := by
  have x := w.1
  have eP : nPort (sN α f i v) = nPort α := by show aN _ 1 0 = _; rw [aN_sN, if_neg (by omega)]
  have eC : nCell (sN α f i v) = nCell α := by show aN _ 0 0 = _; rw [aN_sN, if_neg (by omega)]
  refine ⟨⟨⟨by rw [eC]; exact x.c4, by rw [eP]; exact x.p8, by rw [aN_sN, if_neg (by omega)]; exact x.t⟩, ⟨fun c => ?_, fun c => ?_, fun c => ?_, fun c => ?_⟩, fun z hz => ?_, x.2.2.2.1, x.2.2.2.2.1, fun p => ?_, x.2.2.2.2.2.2.1, fun p hp => ?_, fun p hp => ?_⟩, w.2.of eP rfl rfl⟩
  · rw [aN_sN, if_neg (by omega)]; exact x.bc c
  · rw [aN_sN]; split
    · omega
    · exact x.pl c
  · rw [aN_sN]; split
    · omega
    · exact x.rc c
  · rw [aN_sN]; split
    · omega
    · exact x.nz c
  · rw [eP, eC, aN_sN, if_neg (by omega)]; exact x.x (x := z) hz
  · rw [aN_sN, if_neg (by omega), aN_sN, if_neg (by omega)]; exact x.q p
  · rw [eP] at hp ⊢; exact x.st hp
  · rw [eP] at hp; rw [aN_sN, if_neg (by omega)]; exact x.z hp
theorem yoReach {α : sA} (w : sY α) (pl bits : Int32) : sY (oReach α pl bits).2 := by
  unfold oReach
  split
  · exact w.ref 1
  · split
    · exact w.ref 4
    · split
      · exact w.ref 6
      · rename_i h1 h2 h3
        obtain ⟨j, hj, rfl⟩ := nI_of2 (x := bits) (M := 15) (n := 15) (by decide) h2 (Int32.not_lt.mp h3)
        exact w.N 4 _ _ (by rw [nI_clamp (by omega)]; omega)
theorem yoNoise {α : sA} (w : sY α) (wh ch on : Int32) (ho : on = 0 ∨ on = 1) : sY (oNoise α wh ch on).2 := by
  unfold oNoise
  split
  · refine w.N 5 _ _ (Or.inr (Or.inr ⟨rfl, ?_⟩))
    rcases ho with rfl | rfl <;> decide
  · exact w
theorem yoGo {α : sA} (w : sY α) (p pl : Int32) : sY (oGo α p pl).2 := by
  unfold oGo
  split
  · exact w.ref 1
  · rename_i h1
    simp at h1
    obtain ⟨j, hj, rfl⟩ := pIn_some (by decide) h1.2
    exact w.N 3 _ _ (by rw [nI_clamp (by omega)]; omega)
theorem yoEnter {α : sA} (w : sY α) (p : Int32) (key : Int64) : sY (oEnter α p key).2 := by
  have h8 := w.1.p8
  unfold oEnter
  split
  · exact w.ref 1
  · split
    · exact w.ref 2
    · rename_i h1 h2
      simp at h1 h2
      obtain ⟨j, hj, rfl⟩ := pIn_some (by omega) h1
      rw [nI_clamp (by omega)] at h2 ⊢
      have x := w.1
      have x1 : sW (sI α 0 j 1) := by
        refine ⟨x.1, x.2.1, x.2.2.1, x.2.2.2.1, x.2.2.2.2.1, x.2.2.2.2.2.1, fun p => ?_, fun p hp => ?_, fun p hp => ?_⟩
        · rw [aI_sI]; split
          · exact Or.inr rfl
          · exact x.en p
        · have hp' : p < nPort α := hp
          rw [aI_sI, aI_sI, aI_sI, if_neg (by omega), if_neg (by omega)]
          rcases x.st hp' with h | ⟨h3, h4, q, h5⟩
          · exact Or.inl h
          · refine Or.inr ⟨h3, ?_, q, h5⟩
            split
            · rfl
            · exact h4
        · have hp' : nPort α ≤ p := hp
          rw [aI_sI, aI_sI, aI_sI, if_neg (by omega), if_neg (by omega), if_neg (by omega)]
          exact x.z hp'
      refine ⟨x1.L 1 j key (fun _ => hj), w.2.of rfl ?_ ?_⟩ <;> (funext q; rw [aI_sL, aI_sI, if_neg (by omega)])
theorem yoDial {α : sA} (w : sY α) (p q : Int32) : sY (oDial α p q).2 := by
  have h8 := w.1.p8
  unfold oDial
  split
  · exact w.ref 1
  · split
    · exact w.ref 2
    · split
      · exact w.ref 3
      · rename_i h1 h2 h3
        simp at h1 h2
        obtain ⟨j, hj, rfl⟩ := pIn_some (by omega) h1.1
        obtain ⟨k, hk, rfl⟩ := pIn_some (by omega) h1.2.1
        have hjk : k ≠ j := fun e => h1.2.2 (by rw [e])
        rw [nI_clamp (by omega)] at h2 h3 ⊢
        rw [nI_clamp (by omega)] at h3
        have x := w.1
        have en : aI α 0 j = 1 := (x.en j).resolve_left (fun e => h3 (Or.inl e))
        have eI : ∀ f i, aI (sI (sI (sI α 1 j 1) 2 j (nI k)) 3 j (nI (aN α 6 0))) f i = if f = 3 ∧ i = j then nI (aN α 6 0) else if f = 2 ∧ i = j then nI k else if f = 1 ∧ i = j then 1 else aI α f i := fun f i => rfl
        refine ⟨⟨x.1, x.2.1, x.2.2.1, x.2.2.2.1, x.2.2.2.2.1, x.2.2.2.2.2.1, fun p => ?_, fun p hp => ?_, fun p hp => ?_⟩, fun p hp hc => ?_⟩
        · rw [eI, if_neg (by omega), if_neg (by omega), if_neg (by omega)]; exact x.en p
        · have hp' : p < nPort α := hp
          rw [eI, eI, eI]
          by_cases e : p = j
          · subst e
            right
            simp
            exact ⟨en, k, hk, hjk, rfl⟩
          · simpa [nPort, aN_sN, aN_sI, aN_sL, aN_sB, aN_sQ, aI_sN, aI_sI, aI_sL, aI_sB, aI_sQ, aL_sN, aL_sI, aL_sL, aL_sB, aL_sQ, aB_sN, aB_sI, aB_sL, aB_sB, aB_sQ, aQ_sN, aQ_sI, aQ_sL, aQ_sB, aQ_sQ, e] using x.st hp'
        · have hp' : nPort α ≤ p := hp
          have e : p ≠ j := by omega
          rw [eI, eI, eI]
          simpa [aN_sN, aN_sI, aN_sL, aN_sB, aN_sQ, aI_sN, aI_sI, aI_sL, aI_sB, aI_sQ, aL_sN, aL_sI, aL_sL, aL_sB, aL_sQ, aB_sN, aB_sI, aB_sL, aB_sB, aB_sQ, aQ_sN, aQ_sI, aQ_sL, aQ_sB, aQ_sQ, e] using x.z hp'
        · have hp' : p < nPort α := hp
          have hpj : p ≠ j := by
            rintro rfl
            rw [eI] at hc
            simp at hc
            exact absurd hc (by decide)
          have hc' : pCalled (aI α 1 p) = true := by
            rw [eI] at hc
            simpa [hpj] using hc
          obtain ⟨u1, u2⟩ := w.2 p hp' hc'
          have n1 : pPar α p ≠ j := fun z => by rw [z, h2] at u1; exact absurd u1 (by decide)
          have hpar : pPar (sI (sI (sI α 1 j 1) 2 j (nI k)) 3 j (nI (aN α 6 0))) p = pPar α p := by unfold pPar; rw [eI, if_neg (by omega), if_neg (by omega), if_neg (by omega)]
          rw [hpar, eI, eI]
          simp [n1, u1, u2]
theorem yoAnswer {α : sA} (w : sY α) (p : Int32) : sY (oAnswer α p).2 := by
  have h8 := w.1.p8
  unfold oAnswer
  split
  · exact w.ref 1
  · split
    · exact w.ref 2
    · rename_i h1 h2
      simp at h1 h2
      obtain ⟨j, hj, rfl⟩ := pIn_some (by omega) h1
      rw [nI_clamp (by omega)] at h2 ⊢
      have hcj : pCalled (aI α 1 j) = true := by rw [h2]; decide
      obtain ⟨u1, u2⟩ := w.2 j hj hcj
      obtain ⟨r1, r2, r3, -⟩ := w.1.par hj (by rw [h2]; decide)
      have w1 := w.1.mv hj (v := 7) (by rw [h2]; decide) (by decide)
      have eP : nPort (sI α 1 j 7) = nPort α := rfl
      have w2 := w1.mv (p := pPar α j) (by rw [eP]; exact r1) (v := 7) (by rw [aI_sI, if_neg (fun z => r2 z.2), u1]; decide) (by decide)
      refine ⟨w2.cnt 4 1 (by omega) _, sV.of (α := sI (sI α 1 j 7) 1 (pPar α j) 7) ?_ rfl (by funext q; rw [aI_sI, if_neg (by omega)]) (by funext q; rw [aI_sI, if_neg (by omega)])⟩
      have eI : ∀ f i, aI (sI (sI α 1 j 7) 1 (pPar α j) 7) f i = if f = 1 ∧ i = pPar α j then 7 else if f = 1 ∧ i = j then 7 else aI α f i := fun f i => rfl
      intro q hq hc
      have hq' : q < nPort α := hq
      have e1 : q ≠ pPar α j := by
        rintro rfl
        rw [eI] at hc
        simp at hc
        exact absurd hc (by decide)
      have e2 : q ≠ j := by
        rintro rfl
        rw [eI] at hc
        simp [e1] at hc
        exact absurd hc (by decide)
      have hc' : pCalled (aI α 1 q) = true := by
        rw [eI] at hc
        simpa [e1, e2] using hc
      obtain ⟨v1, v2⟩ := w.2 q hq' hc'
      have n1 : pPar α q ≠ j := fun z => by rw [z, h2] at v1; exact absurd v1 (by decide)
      have n2 : pPar α q ≠ pPar α j := fun z => by
        rw [z, u2] at v2
        exact e2 ((nI_eq (by omega) (by omega)).mp v2).symm
      have hpar : pPar (sI (sI α 1 j 7) 1 (pPar α j) 7) q = pPar α q := by show (aI _ 2 q).toNatClampNeg = (aI α 2 q).toNatClampNeg; rw [eI, if_neg (by omega), if_neg (by omega)]
      rw [hpar, eI, eI]
      simp [n1, n2, v1, v2]
theorem yoHang {α : sA} (w : sY α) (p : Int32) : sY (oHang α p).2 := by
  have h8 := w.1.p8
  unfold oHang
  split
  · exact w.ref 1
  · split
    · exact w.ref 2
    · rename_i h1 h2
      simp at h1
      obtain ⟨j, hj, rfl⟩ := pIn_some (by omega) h1
      rw [nI_clamp (by omega)] at h2 ⊢
      exact ⟨w.1.ends hj h2, w.2.ends w.1 hj h2⟩
theorem yoSay {α : sA} (w : sY α) (p : Int32) (v : Int64) : sY (oSay α p v).2 := by
  have h8 := w.1.p8
  unfold oSay
  split
  · exact w.ref 1
  · split
    · exact w.ref 2
    · split
      · exact w.ref 6
      · rename_i h1 h2 h3
        simp at h1
        obtain ⟨j, hj, rfl⟩ := pIn_some (by omega) h1
        rw [nI_clamp (by omega)] at h3 ⊢
        have := (w.1.q j).1
        exact ⟨w.1.Q 0 j _ (Or.inl ⟨rfl, by simp; omega⟩) hj, w.2.of rfl rfl rfl⟩
theorem yoFrames {α : sA} (w : sY α) (n : Int32) : sY (oFrames α n).2 := by
  unfold oFrames
  split
  · exact w.ref 4
  · split
    · exact w.ref 6
    · rename_i h1 h2
      have n2 : n ≤ 1000 := Int32.not_lt.mp (fun q => h2 (Or.inl q))
      have n3 : nI (aN α 6 0) + n ≤ 100000 := Int32.not_lt.mp (fun q => h2 (Or.inr q))
      obtain ⟨j, hj, rfl⟩ := nI_of2 (M := 1000) (n := 1000) (by decide) (Int32.not_lt.mpr (Int32.le_trans (by decide) (Int32.not_lt.mp h1))) n2
      have ht := w.1.t
      rw [nI_clamp (by omega)]
      rw [nI_add] at n3
      exact (w.frames j ((nI_leI (b := 100000) (by omega) (by decide)).mp n3)).1
theorem yoLevel {α : sA} (w : sY α) (p c ch : Int32) : sY (oLevel α p c ch).2 := by
  unfold oLevel
  split
  · exact w
  · exact w.ref 1
theorem sY.init : sY sA0 := by
  refine ⟨⟨⟨by decide, by decide, by decide⟩, ⟨fun c => by show 0 < 120; omega, fun c => by show 0 < 16; omega, fun c => by show 0 < 16; omega, fun c => by show 0 ≤ 1; omega⟩, fun x hx => (by cases hx), List.Pairwise.nil, fun p => by show 0 ≤ 2; omega, fun p => ⟨by show 0 ≤ 8; omega, by show 0 ≤ 16; omega, rfl, by show 0 ≤ 0; omega⟩, fun p => Or.inl rfl, fun p hp => absurd hp (Nat.not_lt_zero _), fun p hp => ⟨rfl, rfl, rfl, rfl, rfl, rfl, rfl, rfl⟩⟩, fun p hp => absurd hp (Nat.not_lt_zero _)⟩
