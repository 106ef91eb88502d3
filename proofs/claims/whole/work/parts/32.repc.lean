/-! how the class's cells hold a state -/
def pA (p : Nat) : Nat := 52 + 7 * p
theorem S_pA (p j : Nat) (hj : j < 7) : hm_S (pA p + j) = hm_T1.getD j (0, 0) := by
  unfold hm_S pA
  rw [if_neg (by omega), show (52 + 7 * p + j - 52) % 7 = j by omega]
theorem S_pA0 (p : Nat) : hm_S (pA p) = (2, 0) := S_pA p 0 (by decide)
theorem S_pA1 (p : Nat) : hm_S (pA p + 1) = (1, 0) := S_pA p 1 (by decide)
theorem S_pA2 (p : Nat) : hm_S (pA p + 2) = (11, 8) := S_pA p 2 (by decide)
theorem S_pA3 (p : Nat) : hm_S (pA p + 3) = (1, 0) := S_pA p 3 (by decide)
theorem S_pA4 (p : Nat) : hm_S (pA p + 4) = (11, 16) := S_pA p 4 (by decide)
theorem S_pA5 (p : Nat) : hm_S (pA p + 5) = (1, 0) := S_pA p 5 (by decide)
theorem S_pA6 (p : Nat) : hm_S (pA p + 6) = (11, 20) := S_pA p 6 (by decide)
theorem S_b (k : Nat) (hk : k < 16) : hm_S (9 + k) = (0, 0) := by
  have : ∀ k, k < 16 → hm_S (9 + k) = (0, 0) := by decide
  exact this k hk
def hs_tab (k : Nat) : Option Nat := match k with
  | 0 => some 1 | 1 => some 25 | 2 => some 26 | _ => none
def ra_tab (k : Nat) : Option Nat := match k with
  | 4 => some 2 | 5 => some 3 | 6 => some 4 | 7 => some 5 | 8 => some 6 | 9 => some 7 | 10 => some 8 | _ => none
def wr (cap i : Nat) : Nat := if i < cap then i else i - cap
def bk (σ : hm_M) (a cap f : Nat) (q : List Int64) : Prop := hm_I σ a 1 = nI f ∧ f < cap ∧ hm_I σ a 2 = nI q.length ∧ q.length ≤ cap ∧ ∀ k v, q[k]? = some v → hm_L σ (a + 1) (wr cap (f + k)) = v
def cs_lN (f i : Nat) : Nat × Nat := match f with
  | 0 => (1, 0) | 1 => (1, 1) | 2 => (2, i) | 3 => (3, i) | 4 => (4, i) | 6 => (0, 3) | _ => (pA i, 8)
def cs_bN (n f : Nat) : Nat := match f with
  | 0 => 1 | 1 => 1 | 2 => 4 | 3 => 8 | 4 => 16 | 6 => 1 | 7 => n | _ => 0
def cs_lI (f i : Nat) : Nat × Nat := match f with
  | 0 => (pA i, 3) | 1 => (pA i, 4) | 2 => (pA i, 5) | 3 => (pA i, 6) | 4 => (if i = 0 then (1, 3) else (0, 3 + i)) | _ => (26, i)
def cs_bI (n f : Nat) : Nat := match f with
  | 0 => n | 1 => n | 2 => n | 3 => n | 4 => 6 | 5 => 7 | _ => 0
def cs_lL (f i : Nat) : Nat × Nat := match f with
  | 0 => (pA i, 1) | 1 => (pA i, 2) | _ => (0, 9 + i)
def cs_bL (n f : Nat) : Nat := match f with
  | 0 => n | 1 => n | 2 => 2 | _ => 0
def cs_ar (σ : hm_M) (a : Nat) (x : sBr) : Prop := hm_I σ a 0 = nI (bOf x) ∧ hm_I σ a 1 = nI (bAt x) ∧ hm_I σ a 2 = nI (bCh x) ∧ hm_I σ a 3 = bFl x ∧ hm_I σ a 4 = bI (bGd x)
def cs_pi (σ : hm_M) (π : Nat → Nat) : Prop := (∀ k, k < 16 → hm_R σ 8 k = some (9 + π k) ∧ π k < 16) ∧ ∀ j k, j < 16 → k < 16 → π j = π k → j = k
def cs_B (B : List sBr) (σ : hm_M) : Prop := (hm_I σ 1 2 = nI B.length ∧ B.length ≤ 16) ∧ ∃ π, cs_pi σ π ∧ ∀ (b : Nat) (x : sBr), B[b]? = some x → cs_ar σ (9 + π b) x
def cs_P (α : sA) (σ : hm_M) (p : Nat) : Prop := hm_R σ 25 p = some (pA p) ∧ (hm_R σ (pA p) 9 = some (pA p + 1) ∧ hm_R σ (pA p) 10 = some (pA p + 3) ∧ hm_R σ (pA p) 11 = some (pA p + 5) ∧ hm_R σ (pA p + 1) 0 = some (pA p + 2) ∧ hm_R σ (pA p + 3) 0 = some (pA p + 4) ∧ hm_R σ (pA p + 5) 0 = some (pA p + 6)) ∧ hm_I σ (pA p) 0 = nI p ∧ (∃ f, bk σ (pA p + 1) 8 f (aQ α 0 p)) ∧ (∃ f, bk σ (pA p + 3) 16 f (aQ α 1 p)) ∧ ∃ f, bk σ (pA p + 5) 20 f (aQ α 2 p)
def cs_R (α : sA) (σ : hm_M) : Prop := hm_n σ = 52 + 7 * nPort α ∧ (∀ k, hm_R σ 0 k = hs_tab k) ∧ ∀ k, hm_R σ 1 k = ra_tab k
def cs_Z (α : sA) (σ : hm_M) : Prop := (∀ w ch, w < 20 → ch < 120 → bt (hm_I σ 5 ch) w = decide (aN α 5 (120 * w + ch) ≠ 0)) ∧ (∀ d ch, d < 32 → ch < 120 → bt (hm_I σ 6 ch) d = (decide (d < nCell α) && pSends α d ch)) ∧ ∀ q ch, q < 32 → ch < 120 → bt (hm_I σ 7 ch) q = pTalks α q ch
def rC (α : sA) (σ : hm_M) : Prop := cs_R α σ ∧ (∀ f i, i < cs_bN (nPort α) f → hm_I σ (cs_lN f i).1 (cs_lN f i).2 = nI (aN α f i)) ∧ (∀ f i, i < cs_bI (nPort α) f → hm_I σ (cs_lI f i).1 (cs_lI f i).2 = aI α f i) ∧ (∀ f i, i < cs_bL (nPort α) f → hm_L σ (cs_lL f i).1 (cs_lL f i).2 = aL α f i) ∧ cs_Z α σ ∧ cs_B (aB α) σ ∧ ∀ p, p < nPort α → cs_P α σ p
theorem rC.r {α : sA} {σ : hm_M} (h : rC α σ) : cs_R α σ := h.1
theorem rC.n {α : sA} {σ : hm_M} (h : rC α σ) (f i : Nat) (hi : i < cs_bN (nPort α) f) : hm_I σ (cs_lN f i).1 (cs_lN f i).2 = nI (aN α f i) := h.2.1 f i hi
theorem rC.i {α : sA} {σ : hm_M} (h : rC α σ) (f i : Nat) (hi : i < cs_bI (nPort α) f) : hm_I σ (cs_lI f i).1 (cs_lI f i).2 = aI α f i := h.2.2.1 f i hi
theorem rC.l {α : sA} {σ : hm_M} (h : rC α σ) (f i : Nat) (hi : i < cs_bL (nPort α) f) : hm_L σ (cs_lL f i).1 (cs_lL f i).2 = aL α f i := h.2.2.2.1 f i hi
theorem rC.z {α : sA} {σ : hm_M} (h : rC α σ) : cs_Z α σ := h.2.2.2.2.1
theorem rC.b {α : sA} {σ : hm_M} (h : rC α σ) : cs_B (aB α) σ := h.2.2.2.2.2.1
theorem rC.p {α : sA} {σ : hm_M} (h : rC α σ) {p : Nat} (hp : p < nPort α) : cs_P α σ p := h.2.2.2.2.2.2 p hp
theorem rC.N {α : sA} {σ : hm_M} (h : rC α σ) : 52 ≤ hm_n σ := by rw [h.1.1]; omega
theorem rC.pn {α : sA} {σ : hm_M} (h : rC α σ) {p : Nat} (hp : p < nPort α) : pA p + 6 < hm_n σ := by rw [h.1.1]; unfold pA; omega
theorem cs_lN_inj {n f i g j : Nat} (hi : i < cs_bN n f) (hj : j < cs_bN n g) (h : cs_lN f i = cs_lN g j) : f = g ∧ i = j := by
  match f, g with
  | 0, 0 | 0, 1 | 0, 2 | 0, 3 | 0, 4 | 0, 6 | 0, 7 | 1, 0 | 1, 1 | 1, 2 | 1, 3 | 1, 4 | 1, 6 | 1, 7 | 2, 0 | 2, 1 | 2, 2 | 2, 3 | 2, 4 | 2, 6 | 2, 7 | 3, 0 | 3, 1 | 3, 2 | 3, 3 | 3, 4 | 3, 6 | 3, 7
  | 4, 0 | 4, 1 | 4, 2 | 4, 3 | 4, 4 | 4, 6 | 4, 7 | 6, 0 | 6, 1 | 6, 2 | 6, 3 | 6, 4 | 6, 6 | 6, 7 | 7, 0 | 7, 1 | 7, 2 | 7, 3 | 7, 4 | 7, 6 | 7, 7 => simp [cs_lN, cs_bN, pA] at * <;> omega
  | 5, _ => simp [cs_bN] at hi
  | _, 5 => simp [cs_bN] at hj
  | _ + 8, _ => simp [cs_bN] at hi
  | _, _ + 8 => simp [cs_bN] at hj
theorem cs_lI_4 (i : Nat) : cs_lI 4 i = if i = 0 then (1, 3) else (0, 3 + i) := rfl
theorem cs_lI_inj {n f i g j : Nat} (hi : i < cs_bI n f) (hj : j < cs_bI n g) (h : cs_lI f i = cs_lI g j) : f = g ∧ i = j := by
  match f, g with
  | 0, 0 | 0, 1 | 0, 2 | 0, 3 | 0, 5 | 1, 0 | 1, 1 | 1, 2 | 1, 3 | 1, 5 | 2, 0 | 2, 1 | 2, 2 | 2, 3 | 2, 5 | 3, 0 | 3, 1 | 3, 2 | 3, 3 | 3, 5 | 5, 0 | 5, 1 | 5, 2 | 5, 3 | 5, 5 => simp [cs_lI, cs_bI, pA] at * <;> omega
  | 4, 0 | 4, 1 | 4, 2 | 4, 3 | 4, 5 =>
    rw [cs_lI_4] at h
    split at h <;> simp [cs_lI, pA] at h <;> omega
  | 0, 4 | 1, 4 | 2, 4 | 3, 4 | 5, 4 =>
    rw [cs_lI_4] at h
    split at h <;> simp [cs_lI, pA] at h <;> omega
  | 4, 4 =>
    rw [cs_lI_4, cs_lI_4] at h
    split at h <;> split at h <;> simp at h <;> omega
  | _ + 6, _ => simp [cs_bI] at hi
  | _, _ + 6 => simp [cs_bI] at hj
theorem cs_lL_inj {n f i g j : Nat} (hi : i < cs_bL n f) (hj : j < cs_bL n g) (h : cs_lL f i = cs_lL g j) : f = g ∧ i = j := by
  match f, g with
  | 0, 0 | 0, 1 | 0, 2 | 1, 0 | 1, 1 | 1, 2 | 2, 0 | 2, 1 | 2, 2 => simp [cs_lL, cs_bL, pA] at * <;> omega
  | _ + 3, _ => simp [cs_bL] at hi
  | _, _ + 3 => simp [cs_bL] at hj
theorem cs_lN_lI {n f i g j : Nat} (hi : i < cs_bN n f) (hj : j < cs_bI n g) : cs_lN f i ≠ cs_lI g j := by
  match f, g with
  | 0, 0 | 0, 1 | 0, 2 | 0, 3 | 0, 5 | 1, 0 | 1, 1 | 1, 2 | 1, 3 | 1, 5 | 2, 0 | 2, 1 | 2, 2 | 2, 3 | 2, 5 | 3, 0 | 3, 1 | 3, 2 | 3, 3 | 3, 5
  | 4, 0 | 4, 1 | 4, 2 | 4, 3 | 4, 5 | 6, 0 | 6, 1 | 6, 2 | 6, 3 | 6, 5 | 7, 0 | 7, 1 | 7, 2 | 7, 3 | 7, 5 => simp [cs_lN, cs_lI, pA] <;> omega
  | 0, 4 | 1, 4 | 2, 4 | 3, 4 | 4, 4 | 6, 4 | 7, 4 =>
    rw [cs_lI_4]
    split <;> simp [cs_lN, pA] <;> omega
  | 5, _ => simp [cs_bN] at hi
  | _ + 8, _ => simp [cs_bN] at hi
  | _, _ + 6 => simp [cs_bI] at hj
/-- a place that holds neither bearers nor bits nor blocks nor a portable's number -/
def cs_sc (a k : Nat) : Prop := a ≠ 5 ∧ a ≠ 6 ∧ a ≠ 7 ∧ ¬ (9 ≤ a ∧ a ≤ 24) ∧ ¬ (a = 1 ∧ k = 2) ∧ (a < 27 ∨ ∃ q, a = pA q ∧ k ≠ 0)
theorem cs_lN_sc {n f i : Nat} (hi : i < cs_bN n f) : cs_sc (cs_lN f i).1 (cs_lN f i).2 := by
  match f with
  | 0 | 1 | 2 | 3 | 4 | 6 => simp [cs_lN, cs_sc]
  | 7 => refine ⟨?_, ?_, ?_, ?_, ?_, Or.inr ⟨i, rfl, by simp [cs_lN]⟩⟩ <;> simp [cs_lN, pA] <;> omega
  | 5 => simp [cs_bN] at hi
  | _ + 8 => simp [cs_bN] at hi
theorem cs_lI_sc {n f i : Nat} (hi : i < cs_bI n f) : cs_sc (cs_lI f i).1 (cs_lI f i).2 := by
  match f with
  | 0 | 1 | 2 | 3 => refine ⟨?_, ?_, ?_, ?_, ?_, Or.inr ⟨i, rfl, by simp [cs_lI]⟩⟩ <;> simp [cs_lI, pA] <;> omega
  | 4 => rw [cs_lI_4]; split <;> simp [cs_sc]
  | 5 => simp [cs_lI, cs_sc]
  | _ + 6 => simp [cs_bI] at hi
theorem cs_lL_sc {n f i : Nat} (hi : i < cs_bL n f) : cs_sc (cs_lL f i).1 (cs_lL f i).2 := by
  match f with
  | 0 | 1 => refine ⟨?_, ?_, ?_, ?_, ?_, Or.inr ⟨i, rfl, by simp [cs_lL]⟩⟩ <;> simp [cs_lL, pA] <;> omega
  | 2 => simp [cs_lL, cs_sc]
  | _ + 3 => simp [cs_bL] at hi
theorem bk_wI {σ : hm_M} {a cap f : Nat} {q : List Int64} (h : bk σ a cap f q) {b k : Nat} {v : Int32} (hb : b ≠ a) : bk (hm_wI σ b k v) a cap f q := by
  obtain ⟨h1, h2, h3, h4, h5⟩ := h
  exact ⟨by rw [hm_I_wI, if_neg (fun q => hb q.1.symm)]; exact h1, h2, by rw [hm_I_wI, if_neg (fun q => hb q.1.symm)]; exact h3, h4, h5⟩
theorem bk_wL {σ : hm_M} {a cap f : Nat} {q : List Int64} (h : bk σ a cap f q) {b k : Nat} {v : Int64} (hb : b ≠ a + 1) : bk (hm_wL σ b k v) a cap f q := by
  obtain ⟨h1, h2, h3, h4, h5⟩ := h
  exact ⟨h1, h2, h3, h4, fun k v hv => by rw [hm_L_wL, if_neg (fun q => hb q.1.symm)]; exact h5 k v hv⟩
theorem sc_ne {a k : Nat} (hs : cs_sc a k) (q : Nat) : a ≠ pA q + 1 ∧ a ≠ pA q + 2 ∧ a ≠ pA q + 3 ∧ a ≠ pA q + 4 ∧ a ≠ pA q + 5 ∧ a ≠ pA q + 6 ∧ ¬ (a = pA q ∧ k = 0) := by
  obtain ⟨-, -, -, -, -, h | ⟨r, h1, h2⟩⟩ := hs
  · unfold pA; omega
  · refine ⟨?_, ?_, ?_, ?_, ?_, ?_, fun e => h2 e.2⟩ <;> unfold pA at * <;> omega
theorem cs_P_wI {α : sA} {σ : hm_M} {p : Nat} (h : cs_P α σ p) {a k : Nat} (v : Int32) (hs : cs_sc a k) : cs_P α (hm_wI σ a k v) p := by
  obtain ⟨h1, h2, h3, ⟨f1, h4⟩, ⟨f2, h5⟩, f3, h6⟩ := h
  obtain ⟨n1, n2, n3, n4, n5, n6, n7⟩ := sc_ne hs p
  exact ⟨h1, h2, by rw [hm_I_wI, if_neg (fun q => n7 ⟨q.1.symm, q.2.symm⟩)]; exact h3, ⟨f1, bk_wI h4 n1⟩, ⟨f2, bk_wI h5 n3⟩, f3, bk_wI h6 n5⟩
theorem cs_P_wL {α : sA} {σ : hm_M} {p : Nat} (h : cs_P α σ p) {a k : Nat} (v : Int64) (hs : cs_sc a k) : cs_P α (hm_wL σ a k v) p := by
  obtain ⟨h1, h2, h3, ⟨f1, h4⟩, ⟨f2, h5⟩, f3, h6⟩ := h
  obtain ⟨n1, n2, n3, n4, n5, n6, n7⟩ := sc_ne hs p
  exact ⟨h1, h2, h3, ⟨f1, bk_wL h4 n2⟩, ⟨f2, bk_wL h5 n4⟩, f3, bk_wL h6 n6⟩
theorem cs_B.lt {B : List sBr} {σ : hm_M} (h : cs_B B σ) {b : Nat} {x : sBr} (hb : B[b]? = some x) : b < 16 := by
  have := (List.getElem?_eq_some_iff.mp hb).1
  have := h.1.2
  omega
theorem cs_B_wI {B : List sBr} {σ : hm_M} (h : cs_B B σ) {a k : Nat} (v : Int32) (hs : cs_sc a k) : cs_B B (hm_wI σ a k v) := by
  obtain ⟨-, -, -, s4, s5, -⟩ := hs
  have hl := @cs_B.lt B σ h
  obtain ⟨h1, π, h2, h3⟩ := h
  refine ⟨⟨by rw [hm_I_wI, if_neg (fun q => s5 ⟨q.1.symm, q.2.symm⟩)]; exact h1.1, h1.2⟩, π, h2, fun b x hb => ?_⟩
  obtain ⟨e1, e2, e3, e4, e5⟩ := h3 b x hb
  have hp := (h2.1 b (hl hb)).2
  refine ⟨?_, ?_, ?_, ?_, ?_⟩ <;> rw [hm_I_wI, if_neg (fun q => by omega)] <;> assumption
theorem cs_Z_wI {α : sA} {σ : hm_M} (h : cs_Z α σ) {a k : Nat} (v : Int32) (hs : cs_sc a k) : cs_Z α (hm_wI σ a k v) := by
  obtain ⟨s1, s2, s3, -⟩ := hs
  refine ⟨fun w ch h1 h2 => ?_, fun w ch h1 h2 => ?_, fun w ch h1 h2 => ?_⟩
  · rw [hm_I_wI, if_neg (fun q => s1 q.1.symm)]; exact h.1 w ch h1 h2
  · rw [hm_I_wI, if_neg (fun q => s2 q.1.symm)]; exact h.2.1 w ch h1 h2
  · rw [hm_I_wI, if_neg (fun q => s3 q.1.symm)]; exact h.2.2 w ch h1 h2
/-- a write at a place that isn't the state's own -/
theorem rC.scr {α : sA} {σ : hm_M} (h : rC α σ) {a k : Nat} (v : Int32) (hs : cs_sc a k) (hN : ∀ f i, i < cs_bN (nPort α) f → cs_lN f i ≠ (a, k)) (hI : ∀ f i, i < cs_bI (nPort α) f → cs_lI f i ≠ (a, k)) : rC α (hm_wI σ a k v) := by
  refine ⟨h.r, fun f i hi => ?_, fun f i hi => ?_, h.2.2.2.1, cs_Z_wI h.z v hs, cs_B_wI h.b v hs, fun p hp => cs_P_wI (h.p hp) v hs⟩
  · rw [hm_I_wI, if_neg (fun q => hN f i hi (Prod.ext q.1 q.2))]; exact h.n f i hi
  · rw [hm_I_wI, if_neg (fun q => hI f i hi (Prod.ext q.1 q.2))]; exact h.i f i hi
theorem Z_sI {α : sA} {σ : hm_M} (h : cs_Z α σ) (f i : Nat) (v : Int32) : cs_Z (sI α f i v) σ := h
theorem rC.upI {α : sA} {σ : hm_M} (h : rC α σ) (f i : Nat) (v : Int32) (hi : i < cs_bI (nPort α) f) : rC (sI α f i v) (hm_wI σ (cs_lI f i).1 (cs_lI f i).2 v) := by
  have hs := cs_lI_sc hi
  refine ⟨h.r, fun g j hj => ?_, fun g j hj => ?_, h.2.2.2.1, cs_Z_wI h.z v hs, cs_B_wI h.b v hs, fun p hp => cs_P_wI (h.p hp) v hs⟩
  · rw [hm_I_wI, if_neg (fun q => cs_lN_lI (n := nPort α) hj hi (Prod.ext q.1 q.2))]
    exact h.n g j hj
  · rw [hm_I_wI, aI_sI]
    by_cases e : g = f ∧ j = i
    · rw [if_pos e, if_pos (by rw [e.1, e.2]; exact ⟨rfl, rfl⟩)]
    · rw [if_neg e, if_neg (fun q => e (cs_lI_inj (n := nPort α) hj hi (Prod.ext q.1 q.2)))]
      exact h.i g j hj
theorem rC.upL {α : sA} {σ : hm_M} (h : rC α σ) (f i : Nat) (v : Int64) (hi : i < cs_bL (nPort α) f) : rC (sL α f i v) (hm_wL σ (cs_lL f i).1 (cs_lL f i).2 v) := by
  have hs := cs_lL_sc hi
  refine ⟨h.r, h.2.1, h.2.2.1, fun g j hj => ?_, h.z, h.b, fun p hp => cs_P_wL (h.p hp) v hs⟩
  rw [hm_L_wL, aL_sL]
  by_cases e : g = f ∧ j = i
  · rw [if_pos e, if_pos (by rw [e.1, e.2]; exact ⟨rfl, rfl⟩)]
  · rw [if_neg e, if_neg (fun q => e (cs_lL_inj (n := nPort α) hj hi (Prod.ext q.1 q.2)))]
    exact h.l g j hj
theorem rC.upN {α : sA} {σ : hm_M} (h : rC α σ) (f i v : Nat) (hf : f = 3 ∨ f = 4 ∨ f = 6 ∨ f = 7) (hi : i < cs_bN (nPort α) f) : rC (sN α f i v) (hm_wI σ (cs_lN f i).1 (cs_lN f i).2 (nI v)) := by
  have hs := cs_lN_sc hi
  have eN : ∀ g j, g ≠ f → aN (sN α f i v) g j = aN α g j := fun g j hg => by rw [aN_sN, if_neg (fun q => hg q.1)]
  have e1 : nPort (sN α f i v) = nPort α := eN 1 0 (by omega)
  have e0 : nCell (sN α f i v) = nCell α := eN 0 0 (by omega)
  have es : pSends (sN α f i v) = pSends α := by funext c ch; unfold pSends; rw [eN 2 c (by omega)]; rfl
  refine ⟨⟨by rw [e1]; exact h.r.1, h.r.2⟩, fun g j hj => ?_, fun g j hj => ?_, fun g j hj => h.l g j (by rw [e1] at hj; exact hj), ?_, cs_B_wI h.b _ hs, fun p hp => cs_P_wI (h.p (by rw [e1] at hp; exact hp)) _ hs⟩
  · rw [e1] at hj
    rw [hm_I_wI, aN_sN]
    by_cases e : g = f ∧ j = i
    · rw [if_pos e, if_pos (by rw [e.1, e.2]; exact ⟨rfl, rfl⟩)]
    · rw [if_neg e, if_neg (fun q => e (cs_lN_inj (n := nPort α) hj hi (Prod.ext q.1 q.2)))]
      exact h.n g j hj
  · rw [e1] at hj
    rw [hm_I_wI, if_neg (fun q => cs_lN_lI (n := nPort α) hi hj (Prod.ext q.1.symm q.2.symm))]
    exact h.i g j hj
  · have hz := cs_Z_wI h.z (nI v) hs
    refine ⟨fun w ch h1 h2 => ?_, fun w ch h1 h2 => ?_, hz.2.2⟩
    · rw [eN 5 _ (by omega)]; exact hz.1 w ch h1 h2
    · rw [e0, es]; exact hz.2.1 w ch h1 h2
/-- a portable's blocks change -/
theorem rC.newBk {α : sA} {σ τ : hm_M} (h : rC α σ) {p f : Nat} (hp : p < nPort α) {cap : Nat} (hf : f = 0 ∧ cap = 8 ∨ f = 1 ∧ cap = 16 ∨ f = 2 ∧ cap = 20) {q : List Int64} (h1 : ∀ a k, a ≠ pA p + (2 * f + 1) → hm_I τ a k = hm_I σ a k) (h2 : ∀ a k, a ≠ pA p + (2 * f + 2) → hm_L τ a k = hm_L σ a k) (h3 : hm_R τ = hm_R σ) (h4 : hm_n τ = hm_n σ) (h5 : ∃ g, bk τ (pA p + (2 * f + 1)) cap g q) : rC (sQ α f p q) τ := by
  have hpa : 52 ≤ pA p := by unfold pA; omega
  have hsc : ∀ a k, cs_sc a k → a ≠ pA p + (2 * f + 1) ∧ a ≠ pA p + (2 * f + 2) := fun a k hs => by
    obtain ⟨n1, n2, n3, n4, n5, n6, -⟩ := sc_ne hs p
    rcases hf with ⟨rfl, -⟩ | ⟨rfl, -⟩ | ⟨rfl, -⟩ <;> omega
  have hbk : ∀ (a c g : Nat) (q : List Int64), a ≠ pA p + (2 * f + 1) → bk σ a c g q → a + 1 ≠ pA p + (2 * f + 2) → bk τ a c g q := fun a c g q ha hb ha2 => by
    obtain ⟨b1, b2, b3, b4, b5⟩ := hb
    exact ⟨by rw [h1 _ _ ha]; exact b1, b2, by rw [h1 _ _ ha]; exact b3, b4, fun k v hv => by rw [h2 _ _ ha2]; exact b5 k v hv⟩
  refine ⟨⟨by rw [h4]; exact h.r.1, fun k => by rw [h3]; exact h.r.2.1 k, fun k => by rw [h3]; exact h.r.2.2 k⟩, fun g j hj => ?_, fun g j hj => ?_, fun g j hj => ?_, ?_, ?_, fun p' hp' => ?_⟩
  · rw [h1 _ _ (hsc _ _ (cs_lN_sc hj)).1]; exact h.n g j hj
  · rw [h1 _ _ (hsc _ _ (cs_lI_sc hj)).1]; exact h.i g j hj
  · rw [h2 _ _ (hsc _ _ (cs_lL_sc hj)).2]; exact h.l g j hj
  · obtain ⟨z1, z2, z3⟩ := h.z
    exact ⟨fun w ch a b => by rw [h1 _ _ (by omega)]; exact z1 w ch a b, fun w ch a b => by rw [h1 _ _ (by omega)]; exact z2 w ch a b, fun w ch a b => by rw [h1 _ _ (by omega)]; exact z3 w ch a b⟩
  · have hl := @cs_B.lt _ _ h.b
    obtain ⟨c1, π, c2, c3⟩ := h.b
    refine ⟨⟨by rw [h1 _ _ (by omega)]; exact c1.1, c1.2⟩, π, ⟨fun k hk => by rw [h3]; exact c2.1 k hk, c2.2⟩, fun b x hb => ?_⟩
    have hb' : (aB α)[b]? = some x := hb
    obtain ⟨e1, e2, e3, e4, e5⟩ := c3 b x hb'
    have hpi := (c2.1 b (hl hb')).2
    refine ⟨?_, ?_, ?_, ?_, ?_⟩ <;> rw [h1 _ _ (by omega)] <;> assumption
  · have hp2 : p' < nPort α := hp'
    obtain ⟨c1, c2, c3, ⟨f1, c4⟩, ⟨f2, c5⟩, f3, c6⟩ := h.p hp2
    have hap : ∀ j, j < 7 → ∀ i, 0 < i → i < 7 → pA p' + j = pA p + i → p' = p ∧ j = i := fun j hj i hi hi2 e => by unfold pA at e; omega
    refine ⟨by rw [h3]; exact c1, by rw [h3]; exact c2, ?_, ?_, ?_, ?_⟩
    · rw [h1 _ _ (by rcases hf with ⟨rfl, -⟩ | ⟨rfl, -⟩ | ⟨rfl, -⟩ <;> unfold pA <;> omega)]; exact c3
    · rw [aQ_sQ]
      by_cases e : 0 = f ∧ p' = p
      · rw [if_pos e]
        rcases hf with ⟨rfl, rfl⟩ | ⟨rfl, rfl⟩ | ⟨rfl, rfl⟩
        · rw [e.2]; exact h5
        · omega
        · omega
      · rw [if_neg e]
        exact ⟨f1, hbk _ _ _ _ (by rcases hf with ⟨rfl, -⟩ | ⟨rfl, -⟩ | ⟨rfl, -⟩ <;> unfold pA <;> omega) c4 (by rcases hf with ⟨rfl, -⟩ | ⟨rfl, -⟩ | ⟨rfl, -⟩ <;> unfold pA <;> omega)⟩
    · rw [aQ_sQ]
      by_cases e : 1 = f ∧ p' = p
      · rw [if_pos e]
        rcases hf with ⟨rfl, rfl⟩ | ⟨rfl, rfl⟩ | ⟨rfl, rfl⟩
        · omega
        · rw [e.2]; exact h5
        · omega
      · rw [if_neg e]
        exact ⟨f2, hbk _ _ _ _ (by rcases hf with ⟨rfl, -⟩ | ⟨rfl, -⟩ | ⟨rfl, -⟩ <;> unfold pA <;> omega) c5 (by rcases hf with ⟨rfl, -⟩ | ⟨rfl, -⟩ | ⟨rfl, -⟩ <;> unfold pA <;> omega)⟩
    · rw [aQ_sQ]
      by_cases e : 2 = f ∧ p' = p
      · rw [if_pos e]
        rcases hf with ⟨rfl, rfl⟩ | ⟨rfl, rfl⟩ | ⟨rfl, rfl⟩
        · omega
        · omega
        · rw [e.2]; exact h5
      · rw [if_neg e]
        exact ⟨f3, hbk _ _ _ _ (by rcases hf with ⟨rfl, -⟩ | ⟨rfl, -⟩ | ⟨rfl, -⟩ <;> unfold pA <;> omega) c6 (by rcases hf with ⟨rfl, -⟩ | ⟨rfl, -⟩ | ⟨rfl, -⟩ <;> unfold pA <;> omega)⟩
/-- what the class's methods leave: the reference's cells -/
def cs_fr (σ τ : hm_M) : Prop := (hm_n σ ≤ hm_n τ) ∧ ∀ a k, 27 ≤ a → a < 52 → hm_I τ a k = hm_I σ a k ∧ hm_L τ a k = hm_L σ a k ∧ hm_R τ a k = hm_R σ a k
theorem cs_fr.rf (σ : hm_M) : cs_fr σ σ := ⟨Nat.le_refl _, fun _ _ _ _ => ⟨rfl, rfl, rfl⟩⟩
theorem cs_fr.tr {σ τ ρ : hm_M} (h : cs_fr σ τ) (h' : cs_fr τ ρ) : cs_fr σ ρ := ⟨Nat.le_trans h.1 h'.1, fun a k h1 h2 => ⟨(h'.2 a k h1 h2).1.trans (h.2 a k h1 h2).1, (h'.2 a k h1 h2).2.1.trans (h.2 a k h1 h2).2.1, (h'.2 a k h1 h2).2.2.trans (h.2 a k h1 h2).2.2⟩⟩
theorem cs_fr.wI {σ τ : hm_M} (h : cs_fr σ τ) (a k : Nat) (v : Int32) (ha : a < 27 ∨ 52 ≤ a) : cs_fr σ (hm_wI τ a k v) := ⟨h.1, fun b j h1 h2 => ⟨by rw [hm_I_wI, if_neg (fun q => by omega)]; exact (h.2 b j h1 h2).1, (h.2 b j h1 h2).2⟩⟩
theorem cs_fr.wL {σ τ : hm_M} (h : cs_fr σ τ) (a k : Nat) (v : Int64) (ha : a < 27 ∨ 52 ≤ a) : cs_fr σ (hm_wL τ a k v) := ⟨h.1, fun b j h1 h2 => ⟨(h.2 b j h1 h2).1, by rw [hm_L_wL, if_neg (fun q => by omega)]; exact (h.2 b j h1 h2).2.1, (h.2 b j h1 h2).2.2⟩⟩
theorem cs_fr.wR {σ τ : hm_M} (h : cs_fr σ τ) (a k : Nat) (v : Option Nat) (ha : a < 27 ∨ 52 ≤ a) : cs_fr σ (hm_wR τ a k v) := ⟨h.1, fun b j h1 h2 => ⟨(h.2 b j h1 h2).1, (h.2 b j h1 h2).2.1, by rw [hm_R_wR, if_neg (fun q => by omega)]; exact (h.2 b j h1 h2).2.2⟩⟩
theorem rM.fr {α : sA} {σ τ : hm_M} (h : rM α σ) (hf : cs_fr σ τ) : rM α τ := by
  have e : ∀ q : Nat × Nat, md_sc q → 27 ≤ q.1 ∧ q.1 < 52 := fun q hq => by obtain ⟨-, -, -, -, -, -, -, -, -, -, -, -, a, b, -⟩ := hq; exact ⟨a, b⟩
  refine ⟨⟨Nat.le_trans h.m.1 hf.1, fun k => by rw [(hf.2 27 k (by omega) (by omega)).2.2]; exact h.m.2 k⟩, fun f i hi => ?_, fun f i hi => ?_, fun f i hi => ?_, ⟨?_, fun b x hb => ?_⟩, fun p hp => ?_⟩
  · have hs := e _ (md_lN_sc hi); rw [(hf.2 _ _ hs.1 hs.2).1]; exact h.n f i hi
  · have hs := e _ (md_lI_sc hi); rw [(hf.2 _ _ hs.1 hs.2).1]; exact h.i f i hi
  · have hs := e _ (md_lL_sc hi); rw [(hf.2 _ _ hs.1 hs.2).2.1]; exact h.l f i hi
  · rw [(hf.2 27 12 (by omega) (by omega)).1]; exact h.b.1
  · obtain ⟨e1, e2, e3, e4, e5⟩ := h.b.2 b x hb
    rw [(hf.2 38 b (by omega) (by omega)).1, (hf.2 39 b (by omega) (by omega)).1, (hf.2 40 b (by omega) (by omega)).1, (hf.2 41 b (by omega) (by omega)).1, (hf.2 42 b (by omega) (by omega)).1]
    exact ⟨e1, e2, e3, e4, e5⟩
  · obtain ⟨e1, e2, e3, e4, e5⟩ := h.q p hp
    refine ⟨by rw [(hf.2 43 p (by omega) (by omega)).1]; exact e1, by rw [(hf.2 45 p (by omega) (by omega)).1]; exact e2, fun k v hv => by rw [(hf.2 44 _ (by omega) (by omega)).2.1]; exact e3 k v hv, fun k v hv => by rw [(hf.2 46 _ (by omega) (by omega)).2.1]; exact e4 k v hv, fun k v hv => by rw [(hf.2 48 _ (by omega) (by omega)).2.1]; exact e5 k v hv⟩
theorem rC.fo {α : sA} {σ τ : hm_M} (h : rC α σ) (hf : md_fo σ τ) : rC α τ := by
  have e : ∀ a k, cs_sc a k → a < 27 ∨ 52 ≤ a := fun a k hs => by
    obtain ⟨-, -, -, -, -, q | ⟨r, h1, -⟩⟩ := hs
    · exact Or.inl q
    · right; rw [h1]; unfold pA; omega
  have ebk : ∀ (a c g : Nat) (q : List Int64), 52 ≤ a → bk σ a c g q → bk τ a c g q := fun a c g q ha hb => by
    obtain ⟨b1, b2, b3, b4, b5⟩ := hb
    exact ⟨by rw [(hf.2.2 a 1 (by omega)).1]; exact b1, b2, by rw [(hf.2.2 a 2 (by omega)).1]; exact b3, b4, fun k v hv => by rw [(hf.2.2 (a + 1) _ (by omega)).2]; exact b5 k v hv⟩
  refine ⟨⟨by rw [hf.1]; exact h.r.1, fun k => by rw [hf.2.1]; exact h.r.2.1 k, fun k => by rw [hf.2.1]; exact h.r.2.2 k⟩, fun f i hi => ?_, fun f i hi => ?_, fun f i hi => ?_, ?_, ?_, fun p hp => ?_⟩
  · rw [(hf.2.2 _ _ (e _ _ (cs_lN_sc hi))).1]; exact h.n f i hi
  · rw [(hf.2.2 _ _ (e _ _ (cs_lI_sc hi))).1]; exact h.i f i hi
  · rw [(hf.2.2 _ _ (e _ _ (cs_lL_sc hi))).2]; exact h.l f i hi
  · obtain ⟨z1, z2, z3⟩ := h.z
    exact ⟨fun w ch a b => by rw [(hf.2.2 5 ch (by omega)).1]; exact z1 w ch a b, fun w ch a b => by rw [(hf.2.2 6 ch (by omega)).1]; exact z2 w ch a b, fun w ch a b => by rw [(hf.2.2 7 ch (by omega)).1]; exact z3 w ch a b⟩
  · have hl := @cs_B.lt _ _ h.b
    obtain ⟨c1, π, c2, c3⟩ := h.b
    refine ⟨⟨by rw [(hf.2.2 1 2 (by omega)).1]; exact c1.1, c1.2⟩, π, ⟨fun k hk => by rw [hf.2.1]; exact c2.1 k hk, c2.2⟩, fun b x hb => ?_⟩
    obtain ⟨e1, e2, e3, e4, e5⟩ := c3 b x hb
    have hpi := (c2.1 b (hl hb)).2
    refine ⟨?_, ?_, ?_, ?_, ?_⟩ <;> rw [(hf.2.2 _ _ (by omega)).1] <;> assumption
  · obtain ⟨c1, c2, c3, ⟨f1, c4⟩, ⟨f2, c5⟩, f3, c6⟩ := h.p hp
    have hpa : 52 ≤ pA p := by unfold pA; omega
    exact ⟨by rw [hf.2.1]; exact c1, by rw [hf.2.1]; exact c2, by rw [(hf.2.2 _ _ (by omega)).1]; exact c3, ⟨f1, ebk _ _ _ _ (by omega) c4⟩, ⟨f2, ebk _ _ _ _ (by omega) c5⟩, f3, ebk _ _ _ _ (by omega) c6⟩
