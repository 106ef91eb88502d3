/-! what holds of a state goes on holding -/
theorem sW.z {α : sA} (w : sW α) {p : Nat} (h : nPort α ≤ p) : aI α 0 p = 0 ∧ aI α 1 p = 0 ∧ aI α 3 p = 0 ∧ aL α 1 p = 0 ∧ aQ α 0 p = [] ∧ aQ α 1 p = [] ∧ aQ α 2 p = [] ∧ aN α 7 p = 0 := w.2.2.2.2.2.2.2.2 p h
theorem sW.sub {α : sA} (w : sW α) {B : List sBr} (h : B.Sublist (aB α)) : sW (sB α B) :=
  ⟨w.1, w.2.1, fun x hx => w.x (h.subset hx), w.pw.sublist h, fun p => Nat.le_trans (h.countP_le (p := fun x => decide (bOf x = p))) (w.nb p), w.2.2.2.2.2.1, w.2.2.2.2.2.2.1, w.2.2.2.2.2.2.2.1, w.2.2.2.2.2.2.2.2⟩
theorem sW.cnt {α : sA} (w : sW α) (f i : Nat) (hf : 4 ≤ f) (v : Int32) : sW (sI α f i v) := by
  have e : ∀ g, g < 4 → aI (sI α f i v) g = aI α g := fun g hg => funext fun j => by rw [aI_sI, if_neg (by omega)]
  refine ⟨w.1, w.2.1, w.2.2.1, w.2.2.2.1, w.2.2.2.2.1, w.2.2.2.2.2.1, fun p => ?_, fun p hp => ?_, fun p hp => ?_⟩
  · rw [e 0 (by omega)]; exact w.en p
  · rw [e 0 (by omega), e 1 (by omega), e 2 (by omega)]; exact w.st hp
  · rw [e 0 (by omega), e 1 (by omega), e 3 (by omega)]; exact w.z hp
/-- a portable's state moves on: it isn't idle, and won't be -/
theorem sW.mv {α : sA} (w : sW α) {p : Nat} (hp : p < nPort α) (hs : aI α 1 p ≠ 0) {v : Int32} (hv : 1 ≤ v ∧ v ≤ 7) : sW (sI α 1 p v) := by
  refine ⟨w.1, w.2.1, w.2.2.1, w.2.2.2.1, w.2.2.2.2.1, w.2.2.2.2.2.1, w.2.2.2.2.2.2.1, fun q hq => ?_, fun q hq => ?_⟩
  · have hq' : q < nPort α := hq
    by_cases e : q = p
    · subst e
      rcases w.st hq' with h | ⟨-, h2, q', h3⟩
      · exact absurd h.1 hs
      · right
        refine ⟨?_, h2, q', h3⟩
        rw [aI_sI, if_pos ⟨rfl, rfl⟩]; exact hv
    · have := w.st hq'
      simpa [nPort, aN_sI, aI_sI, e] using this
  · have hq' : nPort α ≤ q := hq
    have := w.z hq'
    rw [aI_sI, if_neg (by omega), aI_sI, if_neg (by omega), aI_sI, if_neg (by omega)]
    exact this
theorem sW.idle {α : sA} (w : sW α) {p : Nat} (hp : p < nPort α) : sW (pIdle α p) := by
  refine ⟨w.1, w.2.1, fun x hx => w.x ((List.mem_filter.mp hx).1), w.pw.sublist List.filter_sublist, fun q => Nat.le_trans (List.filter_sublist.countP_le (p := fun x => decide (bOf x = q))) (w.nb q), fun q => ?_, fun q => ?_, fun q hq => ?_, fun q hq => ?_⟩
  · have := w.q q
    simp only [pIdle, aN_sN, aN_sI, aN_sL, aN_sB, aN_sQ, aI_sN, aI_sI, aI_sL, aI_sB, aI_sQ, aL_sN, aL_sI, aL_sL, aL_sB, aL_sQ, aB_sN, aB_sI, aB_sL, aB_sB, aB_sQ, aQ_sN, aQ_sI, aQ_sL, aQ_sB, aQ_sQ]
    refine ⟨?_, ?_, this.2.2.1, this.2.2.2⟩
    · split
      · simp at *
      · split
        · simp
        · exact this.1
    · split
      · simp
      · rw [if_neg (by omega)]; exact this.2.1
  · have := w.en q
    simp only [pIdle, aN_sN, aN_sI, aN_sL, aN_sB, aN_sQ, aI_sN, aI_sI, aI_sL, aI_sB, aI_sQ, aL_sN, aL_sI, aL_sL, aL_sB, aL_sQ, aB_sN, aB_sI, aB_sL, aB_sB, aB_sQ, aQ_sN, aQ_sI, aQ_sL, aQ_sB, aQ_sQ]
    simpa using this
  · have hq' : q < nPort α := hq
    have := w.st hq'
    simp only [pIdle, aN_sN, aN_sI, aN_sL, aN_sB, aN_sQ, aI_sN, aI_sI, aI_sL, aI_sB, aI_sQ, aL_sN, aL_sI, aL_sL, aL_sB, aL_sQ, aB_sN, aB_sI, aB_sL, aB_sB, aB_sQ, aQ_sN, aQ_sI, aQ_sL, aQ_sB, aQ_sQ]
    by_cases e : q = p
    · left; simp [e]
    · simpa [nPort, aN_sN, aN_sI, aN_sL, aN_sB, aN_sQ, aI_sN, aI_sI, aI_sL, aI_sB, aI_sQ, aL_sN, aL_sI, aL_sL, aL_sB, aL_sQ, aB_sN, aB_sI, aB_sL, aB_sB, aB_sQ, aQ_sN, aQ_sI, aQ_sL, aQ_sB, aQ_sQ, e] using this
  · have hq' : nPort α ≤ q := hq
    have := w.z hq'
    have e : q ≠ p := by omega
    simp only [pIdle, aN_sN, aN_sI, aN_sL, aN_sB, aN_sQ, aI_sN, aI_sI, aI_sL, aI_sB, aI_sQ, aL_sN, aL_sI, aL_sL, aL_sB, aL_sQ, aB_sN, aB_sI, aB_sL, aB_sB, aB_sQ, aQ_sN, aQ_sI, aQ_sL, aQ_sB, aQ_sQ]
    simpa [e] using this
theorem sW.par {α : sA} (w : sW α) {p : Nat} (hp : p < nPort α) (hs : aI α 1 p ≠ 0) : pPar α p < nPort α ∧ pPar α p ≠ p ∧ aI α 2 p = nI (pPar α p) ∧ aI α 0 p = 1 ∧ 1 ≤ aI α 1 p ∧ aI α 1 p ≤ 7 := by
  rcases w.st hp with h | ⟨h1, h2, q, h3, h4, h5⟩
  · exact absurd h.1 hs
  · have hp8 := w.p8
    have e : pPar α p = q := by unfold pPar; rw [h5, nI_clamp (by omega)]
    rw [e]
    exact ⟨h3, h4, h5, h2, h1⟩
theorem sW.ends {α : sA} (w : sW α) {p : Nat} (hp : p < nPort α) (hs : aI α 1 p ≠ 0) : sW (pEnds α p) := by
  have h := w.par hp hs
  unfold pEnds pEnded
  refine sW.cnt ?_ 4 2 (by omega) _
  split
  · exact (w.idle hp).idle h.1
  · exact w.idle hp
theorem sW.noB {α : sA} (w : sW α) {p : Nat} (hp : p < nPort α) : sW (pNoB α p) := by
  unfold pNoB
  split
  · rename_i h
    simp at h
    exact w.ends hp h.1.1
  · exact w
theorem sW.dropF {α : sA} (w : sW α) : sW (pDropF α) := w.sub List.filter_sublist
theorem rm_sub (p : Nat) : ∀ l : List sBr, (pRmFst p l).Sublist l
  | [] => List.Sublist.refl _
  | x :: t => by
    unfold pRmFst
    split
    · exact List.sublist_cons_self x t
    · exact (rm_sub p t).cons_cons x
theorem sW.hand {α : sA} (w : sW α) (p : Nat) : sW (pHand α p) := by
  unfold pHand
  split
  · exact (w.sub (rm_sub p _)).cnt 4 3 (by omega) _
  · exact w
theorem sW.send {α : sA} (w : sW α) : sW (pSend α) := by
  refine ⟨w.1, w.2.1, fun x hx => ?_, ?_, fun p => ?_, w.2.2.2.2.2.1, w.2.2.2.2.2.2.1, w.2.2.2.2.2.2.2.1, w.2.2.2.2.2.2.2.2⟩
  · obtain ⟨y, hy, rfl⟩ := List.mem_map.mp hx
    have := w.x hy
    exact this
  · exact List.pairwise_map.mpr w.pw
  · have := w.nb p
    unfold pNb at this ⊢
    show ((aB α).map (pSent α)).countP _ ≤ 2
    rw [List.countP_map]
    exact this
theorem pChan_ok (α : sA) (p c : Nat) : ∀ k, (pChan α p c k).2 ≤ 4 ∧ ∀ ch, (pChan α p c k).1 = some ch → ch < k ∧ pTaken α p c (ch / 10) = false := by
  intro k
  induction k with
  | zero => exact ⟨Nat.le_refl _, fun ch h => by cases h⟩
  | succ k ih =>
    unfold pChan
    split
    · rename_i h
      refine ⟨by omega, fun ch hc => ?_⟩
      cases hc
      refine ⟨by omega, ?_⟩
      unfold pLv at h
      split at h
      · omega
      · rename_i h2; simpa using h2
    · exact ⟨ih.1, fun ch hc => ⟨by have := (ih.2 ch hc).1; omega, (ih.2 ch hc).2⟩⟩
theorem pFind_ok (f : Nat → Bool) : ∀ n c, pFind f n = some c → c < n ∧ f c = true
  | 0, c, h => by cases h
  | n + 1, c, h => by
    unfold pFind at h
    split at h
    · rename_i c' h'
      cases h
      have := pFind_ok f n c h'
      exact ⟨by omega, this.2⟩
    · split at h
      · cases h; rename_i h2; exact ⟨by omega, h2⟩
      · cases h
theorem pFst_mem {α : sA} {p : Nat} {x : sBr} (h : pFst α p = some x) : x ∈ aB α ∧ bOf x = p := by
  unfold pFst at h
  exact ⟨List.mem_of_find?_eq_some h, by simpa using List.find?_some h⟩
theorem pBest_lt {α : sA} (w : sW α) {p c : Nat} (h : pBest α p = some c) : c < nCell α := by
  unfold pBest at h
  split at h
  · rename_i c' h'
    cases h
    exact (pFind_ok _ _ _ h').1
  · split at h
    · rename_i c' h'
      split at h
      · cases h
        unfold pOwn at h'
        split at h'
        · cases hf : pFst α p with
          | none => rw [hf] at h'; cases h'
          | some x =>
            rw [hf] at h'
            cases h'
            exact (w.x (pFst_mem hf).1).2.1
        · cases h'
      · cases h
    · cases h
theorem sW.setUp {α : sA} (w : sW α) {p : Nat} (hp : p < nPort α) : sW (pSetUp α p) := by
  unfold pSetUp
  split
  · rename_i hw
    split
    · rename_i c hc
      split
      · rename_i ch hch
        have hcl := pBest_lt w hc
        obtain ⟨h1, h2⟩ := (pChan_ok α p c 120).2 ch (by unfold pCh at hch; exact hch)
        have hnb : pNb α p ≤ 1 := by
          simp [pWants, pHo] at hw
          omega
        unfold pTaken at h2
        obtain ⟨h2a, h2b⟩ := Bool.or_eq_false_iff.mp h2
        have h2a : ¬ aN α 2 c / 10 = ch / 10 := by simpa using h2a
        have h2b := List.any_eq_false.mp h2b
        refine sW.cnt ?_ 4 0 (by omega) _
        refine ⟨w.1, w.2.1, fun x hx => ?_, ?_, fun q => ?_, w.2.2.2.2.2.1, w.2.2.2.2.2.2.1, w.2.2.2.2.2.2.2.1, w.2.2.2.2.2.2.2.2⟩
        · rcases List.mem_append.mp hx with hx | hx
          · exact w.x hx
          · cases List.mem_singleton.mp hx
            exact ⟨hp, hcl, h1, fun e => h2a e.symm⟩
        · refine List.pairwise_append.mpr ⟨w.pw, List.pairwise_singleton _ _, fun x hx y hy => ?_⟩
          cases List.mem_singleton.mp hy
          intro hor
          have h3 := h2b x hx
          simp at h3
          exact h3 hor
        · have := w.nb q
          unfold pNb at this ⊢
          show ((aB α) ++ [(p, c, ch, 0, false)]).countP _ ≤ 2
          rw [List.countP_append]
          by_cases e : p = q
          · subst e
            unfold pNb at hnb
            simp [List.countP_cons]
            omega
          · simp [List.countP_cons, e]
            exact this
      · exact w
    · exact w
  · exact w
theorem sW.page {α : sA} (w : sW α) {p : Nat} (hp : p < nPort α) (hs : aI α 1 p ≠ 0) : sW (pPage α p) := by
  have h := w.par hp hs
  have w1 := w.mv hp hs (v := 3) (by decide)
  unfold pPage
  split
  · rename_i hc
    simp at hc
    have hen : aI α 0 (pPar α p) = 1 := (w.en _).resolve_left hc.2
    have hne : pPar α p ≠ p := h.2.1
    refine ⟨w.1, w.2.1, w.2.2.1, w.2.2.2.1, w.2.2.2.2.1, w.2.2.2.2.2.1, fun q => ?_, fun q hq => ?_, fun q hq => ?_⟩
    · have := w.en q
      simpa [aN_sN, aN_sI, aN_sL, aN_sB, aN_sQ, aI_sN, aI_sI, aI_sL, aI_sB, aI_sQ, aL_sN, aL_sI, aL_sL, aL_sB, aL_sQ, aB_sN, aB_sI, aB_sL, aB_sB, aB_sQ, aQ_sN, aQ_sI, aQ_sL, aQ_sB, aQ_sQ] using this
    · have hq' : q < nPort α := hq
      have := w.st hq'
      by_cases e : q = pPar α p
      · right
        rw [e]
        simp only [aN_sN, aN_sI, aN_sL, aN_sB, aN_sQ, aI_sN, aI_sI, aI_sL, aI_sB, aI_sQ, aL_sN, aL_sI, aL_sL, aL_sB, aL_sQ, aB_sN, aB_sI, aB_sL, aB_sB, aB_sQ, aQ_sN, aQ_sI, aQ_sL, aQ_sB, aQ_sQ]
        refine ⟨by simp, by simpa using hen, p, hp, fun e2 => hne e2.symm, by simp⟩
      · by_cases e2 : q = p
        · right
          rw [e2]
          simp only [aN_sN, aN_sI, aN_sL, aN_sB, aN_sQ, aI_sN, aI_sI, aI_sL, aI_sB, aI_sQ, aL_sN, aL_sI, aL_sL, aL_sB, aL_sQ, aB_sN, aB_sI, aB_sL, aB_sB, aB_sQ, aQ_sN, aQ_sI, aQ_sL, aQ_sB, aQ_sQ]
          refine ⟨by simp [show ¬ p = pPar α p from fun e3 => hne e3.symm], by simpa using h.2.2.2.1, pPar α p, h.1, hne, by simp [show ¬ p = pPar α p from fun e3 => hne e3.symm]; exact h.2.2.1⟩
        · simpa [nPort, aN_sN, aN_sI, aN_sL, aN_sB, aN_sQ, aI_sN, aI_sI, aI_sL, aI_sB, aI_sQ, aL_sN, aL_sI, aL_sL, aL_sB, aL_sQ, aB_sN, aB_sI, aB_sL, aB_sB, aB_sQ, aQ_sN, aQ_sI, aQ_sL, aQ_sB, aQ_sQ, e, e2] using this
    · have hq' : nPort α ≤ q := hq
      have e : q ≠ pPar α p := by omega
      have e2 : q ≠ p := by omega
      have := w.z hq'
      simpa [aN_sN, aN_sI, aN_sL, aN_sB, aN_sQ, aI_sN, aI_sI, aI_sL, aI_sB, aI_sQ, aL_sN, aL_sI, aL_sL, aL_sB, aL_sQ, aB_sN, aB_sI, aB_sL, aB_sB, aB_sQ, aQ_sN, aQ_sI, aQ_sL, aQ_sB, aQ_sQ, e, e2] using this
  · exact w1.ends hp (by rw [aI_sI, if_pos ⟨rfl, rfl⟩]; decide)
theorem sW.call {α : sA} (w : sW α) {p : Nat} (hp : p < nPort α) : sW (pCall α p) := by
  unfold pCall
  split
  · split
    · rename_i h; exact w.mv hp (by rw [h]; decide) (by decide)
    · split
      · rename_i h; exact w.mv hp (by rw [h]; decide) (by decide)
      · split
        · rename_i h
          split
          · exact w.page hp (by rw [h]; decide)
          · exact w.ends hp (by rw [h]; decide)
        · split
          · rename_i h
            split
            · exact w.mv hp (by rw [h]; decide) (by decide)
            · exact w.ends hp (by rw [h]; decide)
          · exact w
  · exact w
theorem sW.L {α : sA} (w : sW α) (f i : Nat) (v : Int64) (h : f = 1 → i < nPort α) : sW (sL α f i v) := by
  refine ⟨w.1, w.2.1, w.2.2.1, w.2.2.2.1, w.2.2.2.2.1, w.2.2.2.2.2.1, w.2.2.2.2.2.2.1, w.2.2.2.2.2.2.2.1, fun q hq => ?_⟩
  have hq' : nPort α ≤ q := hq
  have := w.z hq'
  rw [aL_sL, if_neg (fun e => by have := h e.1.symm; omega)]
  exact this
theorem sW.Q {α : sA} (w : sW α) (f i : Nat) (v : List Int64) (hf : f = 0 ∧ v.length ≤ 8 ∨ f = 1 ∧ v.length ≤ 16) (hi : i < nPort α) : sW (sQ α f i v) := by
  refine ⟨w.1, w.2.1, w.2.2.1, w.2.2.2.1, w.2.2.2.2.1, fun q => ?_, w.2.2.2.2.2.2.1, w.2.2.2.2.2.2.2.1, fun q hq => ?_⟩
  · have := w.q q
    rw [aQ_sQ, aQ_sQ, aQ_sQ]
    refine ⟨?_, ?_, ?_, this.2.2.2⟩
    · split
      · omega
      · exact this.1
    · split
      · omega
      · exact this.2.1
    · rw [if_neg (by omega)]; exact this.2.2.1
  · have hq' : nPort α ≤ q := hq
    have := w.z hq'
    rw [aQ_sQ, aQ_sQ, aQ_sQ, if_neg (by omega), if_neg (by omega), if_neg (by omega)]
    exact this
theorem sW.up {α : sA} (w : sW α) {p : Nat} (hp : p < nPort α) : sW (pUp α p) := by
  unfold pUp
  split
  · rename_i h
    simp at h
    have hpar := w.par hp (by rw [h.1]; decide)
    split
    · exact w
    · rename_i v t hq
      have hl := (w.q p).1
      rw [hq] at hl
      simp at hl
      have w1 : sW (sI (sQ (sL α 2 0 (pUpB α p v)) 0 p t) 4 4 (aI α 4 4 + 1)) := ((w.L 2 0 _ (by omega)).Q 0 p t (Or.inl ⟨rfl, by omega⟩) hp).cnt 4 4 (by omega) _
      dsimp only
      split
      · refine w1.Q 1 _ _ (Or.inr ⟨rfl, ?_⟩) hpar.1
        simp
        omega
      · exact w1
  · exact w
theorem keep_len (q : List Int64) (v : Int64) (h : Nat) (hq : q.length = min h 20) : (pKeep q v).length = min (h + 1) 20 := by
  unfold pKeep
  split
  · simp; omega
  · simp; omega
theorem sW.down {α : sA} (w : sW α) {p : Nat} (hp : p < nPort α) (rd : Nat → Nat) (hh : aN α 7 p + 1 ≤ aN α 6 0) : sW (pDown rd α p) := by
  unfold pDown
  split
  · split
    · exact w
    · rename_i v t hq
      have hl := (w.q p).2.1
      rw [hq] at hl
      simp at hl
      refine sW.cnt ?_ 4 5 (by omega) _
      have w1 := (w.L 2 1 (pDnB α p v) (by omega)).Q 1 p t (Or.inr ⟨rfl, by omega⟩) hp
      refine ⟨w1.1, w1.2.1, w1.2.2.1, w1.2.2.2.1, w1.2.2.2.2.1, fun q => ?_, w1.2.2.2.2.2.2.1, w1.2.2.2.2.2.2.2.1, fun q hq' => ?_⟩
      · have h2 := w1.q q
        simp only [aN_sN, aN_sQ, aN_sL, aQ_sN, aQ_sQ, aQ_sL] at h2 ⊢
        by_cases e : q = p
        · subst e
          simp at h2 ⊢
          refine ⟨h2.1, h2.2.1, ?_, hh⟩
          exact keep_len _ _ _ (w.q q).2.2.1
        · simpa [e] using h2
      · have hq2 : nPort α ≤ q := hq'
        have e : q ≠ p := by omega
        have h2 := w1.z hq2
        simpa [aN_sN, aN_sI, aN_sL, aN_sB, aN_sQ, aI_sN, aI_sI, aI_sL, aI_sB, aI_sQ, aL_sN, aL_sI, aL_sL, aL_sB, aL_sQ, aB_sN, aB_sI, aB_sL, aB_sB, aB_sQ, aQ_sN, aQ_sI, aQ_sL, aQ_sB, aQ_sQ, e] using h2
  · exact w
theorem sW.old {α : sA} (w : sW α) {p : Nat} (hp : p < nPort α) : sW (pOld α p) := by
  unfold pOld
  split
  · rename_i h
    refine w.ends hp (fun e => ?_)
    rw [e] at h
    simp [pPend] at h
  · exact w
theorem sW.tick {α : sA} (w : sW α) (h : aN α 6 0 < 100000) : sW (pTick α) := by
  unfold pTick
  refine ⟨⟨w.1.1, w.1.2.1, by simp [aN_sN]; omega⟩, ⟨fun c => ?_, fun c => ?_, fun c => ?_, fun c => ?_⟩, fun x hx => ?_, w.2.2.2.1, w.2.2.2.2.1, fun p => ?_, w.2.2.2.2.2.2.1, w.2.2.2.2.2.2.2.1, fun p hp => ?_⟩
  · simpa [aN_sN] using w.bc c
  · simpa [aN_sN] using w.pl c
  · simpa [aN_sN] using w.rc c
  · simpa [aN_sN] using w.nz c
  · simpa [aN_sN] using w.x hx
  · have := w.q p
    simp [aN_sN, aQ_sN]
    omega
  · have : nPort α ≤ p := hp
    simpa [aN_sN, aI_sN, aL_sN, aQ_sN] using w.z this
