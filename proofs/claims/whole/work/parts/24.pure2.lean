/-! what a frame's steps leave -/
theorem ends_N (α : sA) (p : Nat) : aN (pEnds α p) = aN α := by
  unfold pEnds pEnded
  split <;> rfl
theorem ends_q (α : sA) (p q : Nat) : (aI (pEnds α p) 1 q = aI α 1 q ∧ aQ (pEnds α p) 1 q = aQ α 1 q) ∨ aI (pEnds α p) 1 q = 0 := by
  unfold pEnds pEnded
  split
  · by_cases h1 : q = pPar α p
    · right; simp [pIdle, aN_sN, aN_sI, aN_sL, aN_sB, aN_sQ, aI_sN, aI_sI, aI_sL, aI_sB, aI_sQ, aL_sN, aL_sI, aL_sL, aL_sB, aL_sQ, aB_sN, aB_sI, aB_sL, aB_sB, aB_sQ, aQ_sN, aQ_sI, aQ_sL, aQ_sB, aQ_sQ, h1]
    · by_cases h2 : q = p
      · right; simp [pIdle, aN_sN, aN_sI, aN_sL, aN_sB, aN_sQ, aI_sN, aI_sI, aI_sL, aI_sB, aI_sQ, aL_sN, aL_sI, aL_sL, aL_sB, aL_sQ, aB_sN, aB_sI, aB_sL, aB_sB, aB_sQ, aQ_sN, aQ_sI, aQ_sL, aQ_sB, aQ_sQ, h2]
      · left; simp [pIdle, aN_sN, aN_sI, aN_sL, aN_sB, aN_sQ, aI_sN, aI_sI, aI_sL, aI_sB, aI_sQ, aL_sN, aL_sI, aL_sL, aL_sB, aL_sQ, aB_sN, aB_sI, aB_sL, aB_sB, aB_sQ, aQ_sN, aQ_sI, aQ_sL, aQ_sB, aQ_sQ, h1, h2]
  · by_cases h2 : q = p
    · right; simp [pIdle, aN_sN, aN_sI, aN_sL, aN_sB, aN_sQ, aI_sN, aI_sI, aI_sL, aI_sB, aI_sQ, aL_sN, aL_sI, aL_sL, aL_sB, aL_sQ, aB_sN, aB_sI, aB_sL, aB_sB, aB_sQ, aQ_sN, aQ_sI, aQ_sL, aQ_sB, aQ_sQ, h2]
    · left; simp [pIdle, aN_sN, aN_sI, aN_sL, aN_sB, aN_sQ, aI_sN, aI_sI, aI_sL, aI_sB, aI_sQ, aL_sN, aL_sI, aL_sL, aL_sB, aL_sQ, aB_sN, aB_sI, aB_sL, aB_sB, aB_sQ, aQ_sN, aQ_sI, aQ_sL, aQ_sB, aQ_sQ, h2]
/-- the numbers are as they were; who is at k or behind is as it was, or idle, or paged; who is active was so, and what waits for it is as it was -/
def kyc (k : Nat) (α β : sA) : Prop := aN β = aN α ∧ (∀ q, k ≤ q → aI β 1 q = aI α 1 q ∨ aI β 1 q = 0 ∨ aI β 1 q = 4) ∧ ∀ q, aI β 1 q = 7 → aQ β 1 q = aQ α 1 q ∧ aI α 1 q = 7
theorem kyc.rf (k : Nat) (α : sA) : kyc k α α := ⟨rfl, fun _ _ => Or.inl rfl, fun _ h => ⟨rfl, h⟩⟩
theorem kyc.same {k : Nat} {α β γ : sA} (h : kyc k α β) (hN : aN γ = aN β) (hI : aI γ 1 = aI β 1) (hQ : aQ γ 1 = aQ β 1) : kyc k α γ := ⟨hN.trans h.1, fun q hq => by rw [hI]; exact h.2.1 q hq, fun q hq => by rw [hI] at hq; rw [hQ]; exact h.2.2 q hq⟩
theorem kyc.ends {k : Nat} {α β : sA} (h : kyc k α β) (p : Nat) : kyc k α (pEnds β p) := by
  refine ⟨(ends_N β p).trans h.1, fun q hq => ?_, fun q hq => ?_⟩
  · rcases ends_q β p q with ⟨e1, e2⟩ | e1
    · rw [e1]; exact h.2.1 q hq
    · right; left; exact e1
  · rcases ends_q β p q with ⟨e1, e2⟩ | e1
    · rw [e1] at hq; rw [e2]; exact h.2.2 q hq
    · rw [e1] at hq; exact absurd hq (by decide)
theorem kyc.setUp {k : Nat} {α β : sA} (h : kyc k α β) (p : Nat) : kyc k α (pSetUp β p) := by
  unfold pSetUp
  split
  · split
    · split
      · exact h.same rfl (by funext q; simp [pAdd, aN_sN, aN_sI, aN_sL, aN_sB, aN_sQ, aI_sN, aI_sI, aI_sL, aI_sB, aI_sQ, aL_sN, aL_sI, aL_sL, aL_sB, aL_sQ, aB_sN, aB_sI, aB_sL, aB_sB, aB_sQ, aQ_sN, aQ_sI, aQ_sL, aQ_sB, aQ_sQ]) rfl
      · exact h
    · exact h
  · exact h
theorem kyc.hand {k : Nat} {α β : sA} (h : kyc k α β) (p : Nat) : kyc k α (pHand β p) := by
  unfold pHand
  split
  · exact h.same rfl (by funext q; simp [aN_sN, aN_sI, aN_sL, aN_sB, aN_sQ, aI_sN, aI_sI, aI_sL, aI_sB, aI_sQ, aL_sN, aL_sI, aL_sL, aL_sB, aL_sQ, aB_sN, aB_sI, aB_sL, aB_sB, aB_sQ, aQ_sN, aQ_sI, aQ_sL, aQ_sB, aQ_sQ]) rfl
  · exact h
theorem kyc.noB {k : Nat} {α β : sA} (h : kyc k α β) (p : Nat) : kyc k α (pNoB β p) := by
  unfold pNoB
  split
  · exact h.ends p
  · exact h
theorem kyc.up1 {k : Nat} {α β : sA} (h : kyc k α β) : kyc (k + 1) α β := ⟨h.1, fun q hq => h.2.1 q (by omega), h.2.2⟩
theorem kyc.mv {k : Nat} {α β : sA} (h : kyc k α β) {v : Int32} (hv : v ≠ 7) : kyc (k + 1) α (sI β 1 k v) := by
  refine ⟨h.1, fun q hq => ?_, fun q hq => ?_⟩
  · rw [aI_sI, if_neg (by omega)]; exact h.2.1 q (by omega)
  · rw [aI_sI] at hq
    split at hq
    · exact absurd hq hv
    · exact h.2.2 q hq
theorem kyc.call {k : Nat} {α β : sA} (h : kyc k α β) : kyc (k + 1) α (pCall β k) := by
  unfold pCall
  split
  · split
    · exact h.mv (by decide)
    · split
      · exact h.mv (by decide)
      · split
        · split
          · unfold pPage
            split
            · have h3 := h.mv (v := 3) (by decide)
              refine ⟨h3.1, fun q hq => ?_, fun q hq => ?_⟩
              · by_cases e : q = pPar β k
                · right; right
                  simp [aN_sN, aN_sI, aN_sL, aN_sB, aN_sQ, aI_sN, aI_sI, aI_sL, aI_sB, aI_sQ, aL_sN, aL_sI, aL_sL, aL_sB, aL_sQ, aB_sN, aB_sI, aB_sL, aB_sB, aB_sQ, aQ_sN, aQ_sI, aQ_sL, aQ_sB, aQ_sQ, e]
                · have := h3.2.1 q hq
                  simpa [aN_sN, aN_sI, aN_sL, aN_sB, aN_sQ, aI_sN, aI_sI, aI_sL, aI_sB, aI_sQ, aL_sN, aL_sI, aL_sL, aL_sB, aL_sQ, aB_sN, aB_sI, aB_sL, aB_sB, aB_sQ, aQ_sN, aQ_sI, aQ_sL, aQ_sB, aQ_sQ, e] using this
              · by_cases e : q = pPar β k
                · simp [aN_sN, aN_sI, aN_sL, aN_sB, aN_sQ, aI_sN, aI_sI, aI_sL, aI_sB, aI_sQ, aL_sN, aL_sI, aL_sL, aL_sB, aL_sQ, aB_sN, aB_sI, aB_sL, aB_sB, aB_sQ, aQ_sN, aQ_sI, aQ_sL, aQ_sB, aQ_sQ, e] at hq
                · have hq2 : aI (sI β 1 k 3) 1 q = 7 := by simpa [aN_sN, aN_sI, aN_sL, aN_sB, aN_sQ, aI_sN, aI_sI, aI_sL, aI_sB, aI_sQ, aL_sN, aL_sI, aL_sL, aL_sB, aL_sQ, aB_sN, aB_sI, aB_sL, aB_sB, aB_sQ, aQ_sN, aQ_sI, aQ_sL, aQ_sB, aQ_sQ, e] using hq
                  have := h3.2.2 q hq2
                  simpa [aN_sN, aN_sI, aN_sL, aN_sB, aN_sQ, aI_sN, aI_sI, aI_sL, aI_sB, aI_sQ, aL_sN, aL_sI, aL_sL, aL_sB, aL_sQ, aB_sN, aB_sI, aB_sL, aB_sB, aB_sQ, aQ_sN, aQ_sI, aQ_sL, aQ_sB, aQ_sQ] using this
            · exact (h.mv (v := 3) (by decide)).ends k
          · exact (h.ends k).up1
        · split
          · split
            · exact h.mv (by decide)
            · exact (h.ends k).up1
          · exact h.up1
  · exact h.up1
theorem kyc.all {f : sA → Nat → sA} (hf : ∀ {k : Nat} {α β : sA} (_ : kyc k α β) (p : Nat), kyc k α (f β p)) {α β : sA} (h : kyc 0 α β) : ∀ n, kyc 0 α (pAll f β n)
  | 0 => h
  | n + 1 => hf (kyc.all hf h n) n
theorem kyc.calls {α β : sA} (h : kyc 0 α β) : ∀ n, kyc n α (pAll pCall β n)
  | 0 => h
  | n + 1 => (kyc.calls h n).call
theorem nP_of {α β : sA} (h : aN β = aN α) : nPort β = nPort α := by unfold nPort; rw [h]
theorem setUp_N (α : sA) (p : Nat) : aN (pSetUp α p) = aN α := ((kyc.rf 0 α).setUp p).1
theorem call_N (α : sA) (p : Nat) : aN (pCall α p) = aN α := by
  have h : kyc p α α := kyc.rf p α
  exact h.call.1
theorem up_N (α : sA) (p : Nat) : aN (pUp α p) = aN α := by
  unfold pUp
  split
  · split
    · rfl
    · dsimp only
      split <;> rfl
  · rfl
theorem up_I (α : sA) (p : Nat) : aI (pUp α p) 1 = aI α 1 := by
  unfold pUp
  split
  · split
    · rfl
    · dsimp only
      split
      · funext q; simp [aN_sN, aN_sI, aN_sL, aN_sB, aN_sQ, aI_sN, aI_sI, aI_sL, aI_sB, aI_sQ, aL_sN, aL_sI, aL_sL, aL_sB, aL_sQ, aB_sN, aB_sI, aB_sL, aB_sB, aB_sQ, aQ_sN, aQ_sI, aQ_sL, aQ_sB, aQ_sQ]
      · funext q; simp [aN_sN, aN_sI, aN_sL, aN_sB, aN_sQ, aI_sN, aI_sI, aI_sL, aI_sB, aI_sQ, aL_sN, aL_sI, aL_sL, aL_sB, aL_sQ, aB_sN, aB_sI, aB_sL, aB_sB, aB_sQ, aQ_sN, aQ_sI, aQ_sL, aQ_sB, aQ_sQ]
  · rfl
theorem up_Q (α : sA) (p q : Nat) : (aQ α 1 q).length ≤ (aQ (pUp α p) 1 q).length := by
  unfold pUp
  split
  · split
    · exact Nat.le_refl _
    · dsimp only
      split
      · simp only [aN_sN, aN_sI, aN_sL, aN_sB, aN_sQ, aI_sN, aI_sI, aI_sL, aI_sB, aI_sQ, aL_sN, aL_sI, aL_sL, aL_sB, aL_sQ, aB_sN, aB_sI, aB_sL, aB_sB, aB_sQ, aQ_sN, aQ_sI, aQ_sL, aQ_sB, aQ_sQ]
        split
        · rename_i h
          simp [h.2]
        · simp
      · simp [aN_sN, aN_sI, aN_sL, aN_sB, aN_sQ, aI_sN, aI_sI, aI_sL, aI_sB, aI_sQ, aL_sN, aL_sI, aL_sL, aL_sB, aL_sQ, aB_sN, aB_sI, aB_sL, aB_sB, aB_sQ, aQ_sN, aQ_sI, aQ_sL, aQ_sB, aQ_sQ]
  · exact Nat.le_refl _
theorem down_nP (rd : Nat → Nat) (α : sA) (p : Nat) : nPort (pDown rd α p) = nPort α := by
  unfold pDown
  split
  · split
    · rfl
    · simp [nPort, aN_sN, aN_sI, aN_sL, aN_sB, aN_sQ, aI_sN, aI_sI, aI_sL, aI_sB, aI_sQ, aL_sN, aL_sI, aL_sL, aL_sB, aL_sQ, aB_sN, aB_sI, aB_sL, aB_sB, aB_sQ, aQ_sN, aQ_sI, aQ_sL, aQ_sB, aQ_sQ]
  · rfl
theorem down_T (rd : Nat → Nat) (α : sA) (p : Nat) : aN (pDown rd α p) 6 0 = aN α 6 0 := by
  unfold pDown
  split
  · split
    · rfl
    · simp [aN_sN, aN_sI, aN_sL, aN_sB, aN_sQ, aI_sN, aI_sI, aI_sL, aI_sB, aI_sQ, aL_sN, aL_sI, aL_sL, aL_sB, aL_sQ, aB_sN, aB_sI, aB_sL, aB_sB, aB_sQ, aQ_sN, aQ_sI, aQ_sL, aQ_sB, aQ_sQ]
  · rfl
theorem down_h (rd : Nat → Nat) (α : sA) (p q : Nat) (h : q ≠ p) : aN (pDown rd α p) 7 q = aN α 7 q := by
  unfold pDown
  split
  · split
    · rfl
    · simp [aN_sN, aN_sI, aN_sL, aN_sB, aN_sQ, aI_sN, aI_sI, aI_sL, aI_sB, aI_sQ, aL_sN, aL_sI, aL_sL, aL_sB, aL_sQ, aB_sN, aB_sI, aB_sL, aB_sB, aB_sQ, aQ_sN, aQ_sI, aQ_sL, aQ_sB, aQ_sQ, h]
  · rfl
theorem down_I (rd : Nat → Nat) (α : sA) (p : Nat) : aI (pDown rd α p) 1 = aI α 1 := by
  unfold pDown
  split
  · split
    · rfl
    · funext q; simp [aN_sN, aN_sI, aN_sL, aN_sB, aN_sQ, aI_sN, aI_sI, aI_sL, aI_sB, aI_sQ, aL_sN, aL_sI, aL_sL, aL_sB, aL_sQ, aB_sN, aB_sI, aB_sL, aB_sB, aB_sQ, aQ_sN, aQ_sI, aQ_sL, aQ_sB, aQ_sQ]
  · rfl
theorem down_Q (rd : Nat → Nat) (α : sA) (p q : Nat) (h : q ≠ p) : aQ (pDown rd α p) 1 q = aQ α 1 q := by
  unfold pDown
  split
  · split
    · rfl
    · simp [aN_sN, aN_sI, aN_sL, aN_sB, aN_sQ, aI_sN, aI_sI, aI_sL, aI_sB, aI_sQ, aL_sN, aL_sI, aL_sL, aL_sB, aL_sQ, aB_sN, aB_sI, aB_sL, aB_sB, aB_sQ, aQ_sN, aQ_sI, aQ_sL, aQ_sB, aQ_sQ, h]
  · rfl
theorem down_rd {rd rd' : Nat → Nat} {α : sA} {p : Nat} (h : aI α 1 p = 7 → rd p = rd' p) : pDown rd α p = pDown rd' α p := by
  unfold pDown
  by_cases e : aI α 1 p = 7
  · rw [h e]
  · simp [e]
theorem ups_I (α : sA) : ∀ n, aI (pAll pUp α n) 1 = aI α 1
  | 0 => rfl
  | n + 1 => (up_I _ _).trans (ups_I α n)
theorem ups_N (α : sA) : ∀ n, aN (pAll pUp α n) = aN α
  | 0 => rfl
  | n + 1 => (up_N _ _).trans (ups_N α n)
theorem ups_Q (α : sA) (q : Nat) : ∀ n, (aQ α 1 q).length ≤ (aQ (pAll pUp α n) 1 q).length
  | 0 => Nat.le_refl _
  | n + 1 => Nat.le_trans (ups_Q α q n) (up_Q _ _ _)
theorem downs_I (rd : Nat → Nat) (α : sA) : ∀ n, aI (pAll (pDown rd) α n) 1 = aI α 1
  | 0 => rfl
  | n + 1 => (down_I _ _ _).trans (downs_I rd α n)
theorem downs_rd {rd rd' : Nat → Nat} {α : sA} (h : ∀ p, aI α 1 p = 7 → rd p = rd' p) : ∀ n, pAll (pDown rd) α n = pAll (pDown rd') α n
  | 0 => rfl
  | n + 1 => by
    show pDown rd (pAll (pDown rd) α n) n = pDown rd' (pAll (pDown rd') α n) n
    rw [downs_rd h n]
    exact down_rd (fun e => h n (by rw [downs_I] at e; exact e))
theorem downs_later (rd : Nat → Nat) (α : sA) (q : Nat) : ∀ n, n ≤ q → aQ (pAll (pDown rd) α n) 1 q = aQ α 1 q ∧ aN (pAll (pDown rd) α n) 7 q = aN α 7 q
  | 0, _ => ⟨rfl, rfl⟩
  | n + 1, h => ⟨(down_Q _ _ _ _ (by omega)).trans (downs_later rd α q n (by omega)).1, (down_h _ _ _ _ (by omega)).trans (downs_later rd α q n (by omega)).2⟩
theorem downs_T (rd : Nat → Nat) (α : sA) : ∀ n, aN (pAll (pDown rd) α n) 6 0 = aN α 6 0
  | 0 => rfl
  | n + 1 => (down_T _ _ _).trans (downs_T rd α n)
theorem downs_sW (rd : Nat → Nat) {α : sA} (w : sW α) (hh : ∀ q, q < nPort α → aN α 7 q + 1 ≤ aN α 6 0) : ∀ n, n ≤ nPort α → sW (pAll (pDown rd) α n)
  | 0, _ => w
  | n + 1, h => (downs_sW rd w hh n (by omega)).down (by rw [pAll_nP (down_nP rd)]; omega) rd (by rw [(downs_later rd α n n (Nat.le_refl _)).2, downs_T]; exact hh n (by omega))
theorem old_N (α : sA) (p : Nat) : aN (pOld α p) = aN α := by
  unfold pOld
  split
  · exact ends_N α p
  · rfl
theorem old_H (α : sA) (p : Nat) : aI (pOld α p) 4 5 = aI α 4 5 := by
  unfold pOld pEnds pEnded
  split
  · split <;> simp [pIdle, aN_sN, aN_sI, aN_sL, aN_sB, aN_sQ, aI_sN, aI_sI, aI_sL, aI_sB, aI_sQ, aL_sN, aL_sI, aL_sL, aL_sB, aL_sQ, aB_sN, aB_sI, aB_sL, aB_sB, aB_sQ, aQ_sN, aQ_sI, aQ_sL, aQ_sB, aQ_sQ]
  · rfl
/-- a frame keeps what holds -/
theorem sW.calls {α : sA} (w : sW α) (ht : aN α 6 0 < 100000) : sW (pCalls α) ∧ aN (pCalls α) = aN (pTick α) ∧ kyc 0 (pTick α) (pAllP pNoB (pAllP pHand (pDropF (pSend (pAllP pSetUp (pTick α)))))) := by
  have w0 := w.tick ht
  have k1 : kyc 0 (pTick α) (pAllP pSetUp (pTick α)) := kyc.all (fun h p => h.setUp p) (kyc.rf 0 _) _
  have w1 : sW (pAllP pSetUp (pTick α)) := pAll_sW (fun β p => nP_of (setUp_N β p)) (fun β p wb hp => wb.setUp hp) w0 _ (Nat.le_refl _)
  have w2 := w1.send.dropF
  have k2 : kyc 0 (pTick α) (pDropF (pSend (pAllP pSetUp (pTick α)))) := k1.same rfl rfl rfl
  have k3 : kyc 0 (pTick α) (pAllP pHand (pDropF (pSend (pAllP pSetUp (pTick α))))) := kyc.all (fun h p => h.hand p) k2 _
  have w3 : sW (pAllP pHand (pDropF (pSend (pAllP pSetUp (pTick α))))) := pAll_sW nP_hand (fun β p wb _ => wb.hand p) w2 _ (Nat.le_refl _)
  have k4 : kyc 0 (pTick α) (pAllP pNoB (pAllP pHand (pDropF (pSend (pAllP pSetUp (pTick α)))))) := kyc.all (fun h p => h.noB p) k3 _
  have w4 : sW (pAllP pNoB (pAllP pHand (pDropF (pSend (pAllP pSetUp (pTick α)))))) := pAll_sW nP_noB (fun β p wb hp => wb.noB hp) w3 _ (Nat.le_refl _)
  refine ⟨pAll_sW (fun β p => nP_of (call_N β p)) (fun β p wb hp => wb.call hp) w4 _ (Nat.le_refl _), ?_, k4⟩
  exact (kyc.calls k4 _).1
theorem tick_h {α : sA} (w : sW α) (q : Nat) : aN (pTick α) 7 q + 1 ≤ aN (pTick α) 6 0 := by
  have := (w.q q).2.2.2
  simp [pTick, aN_sN]
  omega
theorem sW.frame {α : sA} (w : sW α) (ht : aN α 6 0 < 100000) : sW (pFrame α) ∧ aN (pFrame α) 6 0 = aN α 6 0 + 1 ∧ nPort (pFrame α) = nPort α := by
  obtain ⟨w1, n1, -⟩ := w.calls ht
  have w2 : sW (pAllP pUp (pCalls α)) := pAll_sW (fun β p => nP_of (up_N β p)) (fun β p wb hp => wb.up hp) w1 _ (Nat.le_refl _)
  have n2 : aN (pAllP pUp (pCalls α)) = aN (pTick α) := (ups_N _ _).trans n1
  have w3 : sW (pVoice (pCalls α)) := downs_sW _ w2 (fun q _ => by rw [n2]; exact tick_h w q) _ (Nat.le_refl _)
  have t3 : aN (pVoice (pCalls α)) 6 0 = aN α 6 0 + 1 := (downs_T _ _ _).trans (by rw [n2]; simp [pTick, aN_sN])
  have p3 : nPort (pVoice (pCalls α)) = nPort α := (pAll_nP (down_nP _) _ _).trans ((nP_of n2).trans (by simp [nPort, pTick, aN_sN]))
  have n4 : ∀ n, aN (pAll pOld (pVoice (pCalls α)) n) = aN (pVoice (pCalls α)) := by
    intro n
    induction n with
    | zero => rfl
    | succ n ih => exact (old_N _ _).trans ih
  refine ⟨pAll_sW (fun β p => nP_of (old_N β p)) (fun β p wb hp => wb.old hp) w3 _ (Nat.le_refl _), ?_, ?_⟩
  · unfold pFrame pAllP
    rw [n4]
    exact t3
  · unfold pFrame pAllP
    rw [nP_of (n4 _)]
    exact p3
theorem sub_add3 (a b c : Int32) : a - b + c = a + c - b := by
  rw [Int32.sub_eq_add_neg, Int32.sub_eq_add_neg, Int32.add_assoc, Int32.add_assoc, Int32.add_comm c]
theorem sub_add4 (a b c : Int32) : a - b + (c - a) = c - b := by
  rw [Int32.sub_eq_add_neg, Int32.sub_eq_add_neg, Int32.sub_eq_add_neg, Int32.add_comm a, Int32.add_assoc, Int32.add_comm c, ← Int32.add_assoc a, Int32.add_right_neg, Int32.zero_add, Int32.add_comm]
/-- nothing but a block that goes down counts as heard -/
theorem ends_H (α : sA) (p : Nat) : aI (pEnds α p) 4 5 = aI α 4 5 := by
  unfold pEnds pEnded
  split <;> simp [pIdle, aN_sN, aN_sI, aN_sL, aN_sB, aN_sQ, aI_sN, aI_sI, aI_sL, aI_sB, aI_sQ, aL_sN, aL_sI, aL_sL, aL_sB, aL_sQ, aB_sN, aB_sI, aB_sL, aB_sB, aB_sQ, aQ_sN, aQ_sI, aQ_sL, aQ_sB, aQ_sQ]
theorem all_H {f : sA → Nat → sA} (hf : ∀ β p, aI (f β p) 4 5 = aI β 4 5) (α : sA) : ∀ n, aI (pAll f α n) 4 5 = aI α 4 5
  | 0 => rfl
  | n + 1 => (hf _ _).trans (all_H hf α n)
theorem heard_same (α : sA) : aI (pAllP pUp (pCalls α)) 4 5 = aI α 4 5 := by
  have h1 : ∀ β p, aI (pSetUp β p) 4 5 = aI β 4 5 := fun β p => by
    unfold pSetUp
    split
    · split
      · split
        · simp [pAdd, aN_sN, aN_sI, aN_sL, aN_sB, aN_sQ, aI_sN, aI_sI, aI_sL, aI_sB, aI_sQ, aL_sN, aL_sI, aL_sL, aL_sB, aL_sQ, aB_sN, aB_sI, aB_sL, aB_sB, aB_sQ, aQ_sN, aQ_sI, aQ_sL, aQ_sB, aQ_sQ]
        · rfl
      · rfl
    · rfl
  have h2 : ∀ β p, aI (pHand β p) 4 5 = aI β 4 5 := fun β p => by
    unfold pHand
    split
    · simp [aN_sN, aN_sI, aN_sL, aN_sB, aN_sQ, aI_sN, aI_sI, aI_sL, aI_sB, aI_sQ, aL_sN, aL_sI, aL_sL, aL_sB, aL_sQ, aB_sN, aB_sI, aB_sL, aB_sB, aB_sQ, aQ_sN, aQ_sI, aQ_sL, aQ_sB, aQ_sQ]
    · rfl
  have h3 : ∀ β p, aI (pNoB β p) 4 5 = aI β 4 5 := fun β p => by
    unfold pNoB
    split
    · exact ends_H β p
    · rfl
  have h4 : ∀ β p, aI (pCall β p) 4 5 = aI β 4 5 := fun β p => by
    unfold pCall
    split
    · split
      · simp [aN_sN, aN_sI, aN_sL, aN_sB, aN_sQ, aI_sN, aI_sI, aI_sL, aI_sB, aI_sQ, aL_sN, aL_sI, aL_sL, aL_sB, aL_sQ, aB_sN, aB_sI, aB_sL, aB_sB, aB_sQ, aQ_sN, aQ_sI, aQ_sL, aQ_sB, aQ_sQ]
      · split
        · simp [aN_sN, aN_sI, aN_sL, aN_sB, aN_sQ, aI_sN, aI_sI, aI_sL, aI_sB, aI_sQ, aL_sN, aL_sI, aL_sL, aL_sB, aL_sQ, aB_sN, aB_sI, aB_sL, aB_sB, aB_sQ, aQ_sN, aQ_sI, aQ_sL, aQ_sB, aQ_sQ]
        · split
          · split
            · unfold pPage
              split
              · simp [aN_sN, aN_sI, aN_sL, aN_sB, aN_sQ, aI_sN, aI_sI, aI_sL, aI_sB, aI_sQ, aL_sN, aL_sI, aL_sL, aL_sB, aL_sQ, aB_sN, aB_sI, aB_sL, aB_sB, aB_sQ, aQ_sN, aQ_sI, aQ_sL, aQ_sB, aQ_sQ]
              · rw [ends_H]; simp [aN_sN, aN_sI, aN_sL, aN_sB, aN_sQ, aI_sN, aI_sI, aI_sL, aI_sB, aI_sQ, aL_sN, aL_sI, aL_sL, aL_sB, aL_sQ, aB_sN, aB_sI, aB_sL, aB_sB, aB_sQ, aQ_sN, aQ_sI, aQ_sL, aQ_sB, aQ_sQ]
            · exact ends_H β p
          · split
            · split
              · simp [aN_sN, aN_sI, aN_sL, aN_sB, aN_sQ, aI_sN, aI_sI, aI_sL, aI_sB, aI_sQ, aL_sN, aL_sI, aL_sL, aL_sB, aL_sQ, aB_sN, aB_sI, aB_sL, aB_sB, aB_sQ, aQ_sN, aQ_sI, aQ_sL, aQ_sB, aQ_sQ]
              · exact ends_H β p
            · rfl
    · rfl
  have h5 : ∀ β p, aI (pUp β p) 4 5 = aI β 4 5 := fun β p => by
    unfold pUp
    split
    · split
      · rfl
      · dsimp only
        split <;> simp [aN_sN, aN_sI, aN_sL, aN_sB, aN_sQ, aI_sN, aI_sI, aI_sL, aI_sB, aI_sQ, aL_sN, aL_sI, aL_sL, aL_sB, aL_sQ, aB_sN, aB_sI, aB_sL, aB_sB, aB_sQ, aQ_sN, aQ_sI, aQ_sL, aQ_sB, aQ_sQ]
    · rfl
  refine (all_H h5 _ _).trans ((all_H h4 _ _).trans ((all_H h3 _ _).trans ((all_H h2 _ _).trans ?_)))
  exact all_H h1 (pTick α) _
