/-! how the reference's cells hold a state -/
def md_lN (f i : Nat) : Nat × Nat := match f with
  | 0 => (27, 0) | 1 => (27, 2) | 2 => (28, i) | 3 => (29, i) | 4 => (36, i) | 5 => (37, i) | 6 => (27, 26) | _ => (47, i)
def md_bN (f : Nat) : Nat := match f with
  | 0 => 1 | 1 => 1 | 2 => 4 | 3 => 8 | 4 => 16 | 5 => 2400 | 6 => 1 | 7 => 8 | _ => 0
def md_lI (f i : Nat) : Nat × Nat := match f with
  | 0 => (31, i) | 1 => (33, i) | 2 => (34, i) | 3 => (35, i) | 4 => (27, 27 + i) | _ => (49, i)
def md_bI (f : Nat) : Nat := match f with
  | 0 => 8 | 1 => 8 | 2 => 8 | 3 => 8 | 4 => 5 | 5 => 7 | _ => 0
def md_lL (f i : Nat) : Nat × Nat := match f with
  | 0 => (30, i) | 1 => (32, i) | _ => (27, 24 + i)
def md_bL (f : Nat) : Nat := match f with
  | 0 => 8 | 1 => 8 | 2 => 2 | _ => 0
def md_B (B : List sBr) (σ : hm_M) : Prop := hm_I σ 27 12 = nI B.length ∧ ∀ (b : Nat) (x : sBr), B[b]? = some x → hm_I σ 38 b = nI (bOf x) ∧ hm_I σ 39 b = nI (bAt x) ∧ hm_I σ 40 b = nI (bCh x) ∧ hm_I σ 41 b = bFl x ∧ hm_I σ 42 b = bI (bGd x)
def md_Q (α : sA) (σ : hm_M) : Prop := ∀ p, p < 8 → hm_I σ 43 p = nI (aQ α 0 p).length ∧ hm_I σ 45 p = nI (aQ α 1 p).length ∧ (∀ k v, (aQ α 0 p)[k]? = some v → hm_L σ 44 (8 * p + k) = v) ∧ (∀ k v, (aQ α 1 p)[k]? = some v → hm_L σ 46 (16 * p + k) = v) ∧ (∀ k v, (aQ α 2 p)[k]? = some v → hm_L σ 48 (20 * p + k) = v)
def rM (α : sA) (σ : hm_M) : Prop := md_M σ ∧ (∀ f i, i < md_bN f → hm_I σ (md_lN f i).1 (md_lN f i).2 = nI (aN α f i)) ∧ (∀ f i, i < md_bI f → hm_I σ (md_lI f i).1 (md_lI f i).2 = aI α f i) ∧ (∀ f i, i < md_bL f → hm_L σ (md_lL f i).1 (md_lL f i).2 = aL α f i) ∧ md_B (aB α) σ ∧ md_Q α σ
theorem rM.m {α : sA} {σ : hm_M} (h : rM α σ) : md_M σ := h.1
theorem rM.n {α : sA} {σ : hm_M} (h : rM α σ) (f i : Nat) (hi : i < md_bN f) : hm_I σ (md_lN f i).1 (md_lN f i).2 = nI (aN α f i) := h.2.1 f i hi
theorem rM.i {α : sA} {σ : hm_M} (h : rM α σ) (f i : Nat) (hi : i < md_bI f) : hm_I σ (md_lI f i).1 (md_lI f i).2 = aI α f i := h.2.2.1 f i hi
theorem rM.l {α : sA} {σ : hm_M} (h : rM α σ) (f i : Nat) (hi : i < md_bL f) : hm_L σ (md_lL f i).1 (md_lL f i).2 = aL α f i := h.2.2.2.1 f i hi
theorem rM.b {α : sA} {σ : hm_M} (h : rM α σ) : md_B (aB α) σ := h.2.2.2.2.1
theorem rM.q {α : sA} {σ : hm_M} (h : rM α σ) : md_Q α σ := h.2.2.2.2.2
theorem md_lN_inj {f i g j : Nat} (hi : i < md_bN f) (hj : j < md_bN g) (h : md_lN f i = md_lN g j) : f = g ∧ i = j := by
  match f, g with
  | 0, 0 | 0, 1 | 0, 2 | 0, 3 | 0, 4 | 0, 5 | 0, 6 | 0, 7 | 1, 0 | 1, 1 | 1, 2 | 1, 3 | 1, 4 | 1, 5 | 1, 6 | 1, 7 | 2, 0 | 2, 1 | 2, 2 | 2, 3 | 2, 4 | 2, 5 | 2, 6 | 2, 7 | 3, 0 | 3, 1 | 3, 2 | 3, 3 | 3, 4 | 3, 5 | 3, 6 | 3, 7
  | 4, 0 | 4, 1 | 4, 2 | 4, 3 | 4, 4 | 4, 5 | 4, 6 | 4, 7 | 5, 0 | 5, 1 | 5, 2 | 5, 3 | 5, 4 | 5, 5 | 5, 6 | 5, 7 | 6, 0 | 6, 1 | 6, 2 | 6, 3 | 6, 4 | 6, 5 | 6, 6 | 6, 7 | 7, 0 | 7, 1 | 7, 2 | 7, 3 | 7, 4 | 7, 5 | 7, 6 | 7, 7 => simp [md_lN, md_bN] at * <;> omega
  | _ + 8, _ => simp [md_bN] at hi
  | _, _ + 8 => simp [md_bN] at hj
theorem md_lI_inj {f i g j : Nat} (hi : i < md_bI f) (hj : j < md_bI g) (h : md_lI f i = md_lI g j) : f = g ∧ i = j := by
  match f, g with
  | 0, 0 | 0, 1 | 0, 2 | 0, 3 | 0, 4 | 0, 5 | 1, 0 | 1, 1 | 1, 2 | 1, 3 | 1, 4 | 1, 5 | 2, 0 | 2, 1 | 2, 2 | 2, 3 | 2, 4 | 2, 5 | 3, 0 | 3, 1 | 3, 2 | 3, 3 | 3, 4 | 3, 5
  | 4, 0 | 4, 1 | 4, 2 | 4, 3 | 4, 4 | 4, 5 | 5, 0 | 5, 1 | 5, 2 | 5, 3 | 5, 4 | 5, 5 => simp [md_lI, md_bI] at * <;> omega
  | _ + 6, _ => simp [md_bI] at hi
  | _, _ + 6 => simp [md_bI] at hj
theorem md_lL_inj {f i g j : Nat} (hi : i < md_bL f) (hj : j < md_bL g) (h : md_lL f i = md_lL g j) : f = g ∧ i = j := by
  match f, g with
  | 0, 0 | 0, 1 | 0, 2 | 1, 0 | 1, 1 | 1, 2 | 2, 0 | 2, 1 | 2, 2 => simp [md_lL, md_bL] at * <;> omega
  | _ + 3, _ => simp [md_bL] at hi
  | _, _ + 3 => simp [md_bL] at hj
theorem md_lN_lI {f i g j : Nat} (hi : i < md_bN f) (hj : j < md_bI g) : md_lN f i ≠ md_lI g j := by
  match f, g with
  | 0, 0 | 0, 1 | 0, 2 | 0, 3 | 0, 4 | 0, 5 | 1, 0 | 1, 1 | 1, 2 | 1, 3 | 1, 4 | 1, 5 | 2, 0 | 2, 1 | 2, 2 | 2, 3 | 2, 4 | 2, 5 | 3, 0 | 3, 1 | 3, 2 | 3, 3 | 3, 4 | 3, 5
  | 4, 0 | 4, 1 | 4, 2 | 4, 3 | 4, 4 | 4, 5 | 5, 0 | 5, 1 | 5, 2 | 5, 3 | 5, 4 | 5, 5 | 6, 0 | 6, 1 | 6, 2 | 6, 3 | 6, 4 | 6, 5 | 7, 0 | 7, 1 | 7, 2 | 7, 3 | 7, 4 | 7, 5 => simp [md_lN, md_lI, md_bN, md_bI] at * <;> omega
  | _ + 8, _ => simp [md_bN] at hi
  | _, _ + 6 => simp [md_bI] at hj
/-- a place that holds neither bearers nor voice -/
def md_sc (q : Nat × Nat) : Prop := q.1 ≠ 38 ∧ q.1 ≠ 39 ∧ q.1 ≠ 40 ∧ q.1 ≠ 41 ∧ q.1 ≠ 42 ∧ q.1 ≠ 43 ∧ q.1 ≠ 45 ∧ q.1 ≠ 44 ∧ q.1 ≠ 46 ∧ q.1 ≠ 48 ∧ q.1 ≠ 50 ∧ q.1 ≠ 51 ∧ 27 ≤ q.1 ∧ q.1 < 52 ∧ q ≠ (27, 12)
theorem md_lN_sc {f i : Nat} (hi : i < md_bN f) : md_sc (md_lN f i) := by
  match f with
  | 0 | 1 | 2 | 3 | 4 | 5 | 6 | 7 => simp [md_lN, md_sc]
  | _ + 8 => simp [md_bN] at hi
theorem md_lI_sc {f i : Nat} (hi : i < md_bI f) : md_sc (md_lI f i) := by
  match f with
  | 0 | 1 | 2 | 3 | 4 | 5 => simp [md_lI, md_sc, md_bI] at * <;> omega
  | _ + 6 => simp [md_bI] at hi
theorem md_lL_sc {f i : Nat} (hi : i < md_bL f) : md_sc (md_lL f i) := by
  match f with
  | 0 | 1 | 2 => simp [md_lL, md_sc, md_bL] at * <;> omega
  | _ + 3 => simp [md_bL] at hi
theorem md_B_wI {B : List sBr} {σ : hm_M} {a k : Nat} {v : Int32} (h : md_B B σ) (hs : md_sc (a, k)) : md_B B (hm_wI σ a k v) := by
  obtain ⟨h1, h2⟩ := h
  obtain ⟨s1, s2, s3, s4, s5, -, -, -, -, -, -, -, -, -, s6⟩ := hs
  refine ⟨?_, fun b x hb => ?_⟩
  · rw [hm_I_wI, if_neg (fun q => s6 (by rw [← q.1, ← q.2]))]; exact h1
  · obtain ⟨e1, e2, e3, e4, e5⟩ := h2 b x hb
    refine ⟨?_, ?_, ?_, ?_, ?_⟩ <;> rw [hm_I_wI, if_neg (fun q => by first | exact s1 q.1.symm | exact s2 q.1.symm | exact s3 q.1.symm | exact s4 q.1.symm | exact s5 q.1.symm)] <;> assumption
theorem md_Q_wI {α : sA} {σ : hm_M} {a k : Nat} {v : Int32} (h : md_Q α σ) (hs : md_sc (a, k)) : md_Q α (hm_wI σ a k v) := by
  intro p hp
  obtain ⟨e1, e2, e3, e4, e5⟩ := h p hp
  obtain ⟨-, -, -, -, -, s6, s7, -⟩ := hs
  refine ⟨?_, ?_, e3, e4, e5⟩
  · rw [hm_I_wI, if_neg (fun q => s6 q.1.symm)]; exact e1
  · rw [hm_I_wI, if_neg (fun q => s7 q.1.symm)]; exact e2
theorem rM.upN {α : sA} {σ : hm_M} (h : rM α σ) (f i v : Nat) (hi : i < md_bN f) : rM (sN α f i v) (hm_wI σ (md_lN f i).1 (md_lN f i).2 (nI v)) := by
  refine ⟨h.1, fun g j hj => ?_, fun g j hj => ?_, h.2.2.2.1, md_B_wI h.b (md_lN_sc hi), md_Q_wI h.q (md_lN_sc hi)⟩
  · rw [hm_I_wI, aN_sN]
    by_cases e : g = f ∧ j = i
    · rw [if_pos e, if_pos (by rw [e.1, e.2]; exact ⟨rfl, rfl⟩)]
    · rw [if_neg e, if_neg (fun q => e (md_lN_inj hj hi (Prod.ext q.1 q.2)))]
      exact h.n g j hj
  · rw [hm_I_wI, if_neg (fun q => md_lN_lI hi hj (Prod.ext q.1.symm q.2.symm))]
    exact h.i g j hj
theorem rM.upI {α : sA} {σ : hm_M} (h : rM α σ) (f i : Nat) (v : Int32) (hi : i < md_bI f) : rM (sI α f i v) (hm_wI σ (md_lI f i).1 (md_lI f i).2 v) := by
  refine ⟨h.1, fun g j hj => ?_, fun g j hj => ?_, h.2.2.2.1, md_B_wI h.b (md_lI_sc hi), md_Q_wI h.q (md_lI_sc hi)⟩
  · rw [hm_I_wI, if_neg (fun q => md_lN_lI hj hi (Prod.ext q.1 q.2))]
    exact h.n g j hj
  · rw [hm_I_wI, aI_sI]
    by_cases e : g = f ∧ j = i
    · rw [if_pos e, if_pos (by rw [e.1, e.2]; exact ⟨rfl, rfl⟩)]
    · rw [if_neg e, if_neg (fun q => e (md_lI_inj hj hi (Prod.ext q.1 q.2)))]
      exact h.i g j hj
theorem rM.upL {α : sA} {σ : hm_M} (h : rM α σ) (f i : Nat) (v : Int64) (hi : i < md_bL f) : rM (sL α f i v) (hm_wL σ (md_lL f i).1 (md_lL f i).2 v) := by
  obtain ⟨-, -, -, -, -, -, -, s8, s9, s10, -⟩ := md_lL_sc hi
  refine ⟨h.1, h.2.1, h.2.2.1, fun g j hj => ?_, h.b, fun p hp => ?_⟩
  · rw [hm_L_wL, aL_sL]
    by_cases e : g = f ∧ j = i
    · rw [if_pos e, if_pos (by rw [e.1, e.2]; exact ⟨rfl, rfl⟩)]
    · rw [if_neg e, if_neg (fun q => e (md_lL_inj hj hi (Prod.ext q.1 q.2)))]
      exact h.l g j hj
  · obtain ⟨e1, e2, e3, e4, e5⟩ := h.q p hp
    refine ⟨e1, e2, fun k v hv => ?_, fun k v hv => ?_, fun k v hv => ?_⟩
    · rw [hm_L_wL, if_neg (fun q => s8 q.1.symm)]; exact e3 k v hv
    · rw [hm_L_wL, if_neg (fun q => s9 q.1.symm)]; exact e4 k v hv
    · rw [hm_L_wL, if_neg (fun q => s10 q.1.symm)]; exact e5 k v hv
/-- (4, 5) isn't the reference's: it counts what was heard -/
theorem rM.upH {α : sA} {σ : hm_M} (h : rM α σ) (v : Int32) : rM (sI α 4 5 v) σ := by
  refine ⟨h.1, h.2.1, fun g j hj => ?_, h.2.2.2.1, h.b, h.q⟩
  rw [aI_sI, if_neg (fun q => by rw [q.1, q.2] at hj; exact absurd hj (by decide))]
  exact h.i g j hj
/-- what the reference's methods leave: all that isn't its own, and its two scratch arrays -/
def md_fr (σ τ : hm_M) : Prop := hm_n τ = hm_n σ ∧ hm_R τ = hm_R σ ∧ ∀ a k, (a < 27 ∨ 50 ≤ a) → hm_I τ a k = hm_I σ a k ∧ hm_L τ a k = hm_L σ a k
theorem md_fr.rf (σ : hm_M) : md_fr σ σ := ⟨rfl, rfl, fun _ _ _ => ⟨rfl, rfl⟩⟩
theorem md_fr.tr {σ τ ρ : hm_M} (h : md_fr σ τ) (h' : md_fr τ ρ) : md_fr σ ρ := ⟨h'.1.trans h.1, h'.2.1.trans h.2.1, fun a k ha => ⟨(h'.2.2 a k ha).1.trans (h.2.2 a k ha).1, (h'.2.2 a k ha).2.trans (h.2.2 a k ha).2⟩⟩
theorem md_fr.wI {σ τ : hm_M} (h : md_fr σ τ) (a k : Nat) (v : Int32) (ha : 27 ≤ a ∧ a < 50) : md_fr σ (hm_wI τ a k v) := ⟨h.1, h.2.1, fun b j hb => ⟨by rw [hm_I_wI, if_neg (fun q => by omega)]; exact (h.2.2 b j hb).1, (h.2.2 b j hb).2⟩⟩
theorem md_fr.wL {σ τ : hm_M} (h : md_fr σ τ) (a k : Nat) (v : Int64) (ha : 27 ≤ a ∧ a < 50) : md_fr σ (hm_wL τ a k v) := ⟨h.1, h.2.1, fun b j hb => ⟨(h.2.2 b j hb).1, by rw [hm_L_wL, if_neg (fun q => by omega)]; exact (h.2.2 b j hb).2⟩⟩
/-! what holds of every state that is reached -/
def sW (α : sA) : Prop :=
  (nCell α ≤ 4 ∧ nPort α ≤ 8 ∧ aN α 6 0 ≤ 100000) ∧
  ((∀ c, aN α 2 c < 120) ∧ (∀ p, aN α 3 p < 16) ∧ (∀ pl, aN α 4 pl < 16) ∧ (∀ j, aN α 5 j ≤ 1)) ∧
  (∀ x ∈ aB α, bOf x < nPort α ∧ bAt x < nCell α ∧ bCh x < 120 ∧ bCh x / 10 ≠ aN α 2 (bAt x) / 10) ∧
  ((aB α).Pairwise (fun x y => (bAt x = bAt y ∨ bOf x = bOf y) → bCh x / 10 ≠ bCh y / 10)) ∧
  (∀ p, pNb α p ≤ 2) ∧
  (∀ p, (aQ α 0 p).length ≤ 8 ∧ (aQ α 1 p).length ≤ 16 ∧ (aQ α 2 p).length = min (aN α 7 p) 20 ∧ aN α 7 p ≤ aN α 6 0) ∧
  (∀ p, aI α 0 p = 0 ∨ aI α 0 p = 1) ∧
  (∀ p, p < nPort α → (aI α 1 p = 0 ∧ aI α 2 p = -9) ∨ ((1 ≤ aI α 1 p ∧ aI α 1 p ≤ 7) ∧ aI α 0 p = 1 ∧ ∃ q, q < nPort α ∧ q ≠ p ∧ aI α 2 p = nI q)) ∧
  (∀ p, nPort α ≤ p → aI α 0 p = 0 ∧ aI α 1 p = 0 ∧ aI α 3 p = 0 ∧ aL α 1 p = 0 ∧ aQ α 0 p = [] ∧ aQ α 1 p = [] ∧ aQ α 2 p = [] ∧ aN α 7 p = 0)
