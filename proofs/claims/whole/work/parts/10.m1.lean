/-! the reference's small methods -/
def bI (b : Bool) : Int32 := if b then 1 else 0
theorem bI_01 (b : Bool) : bI b = 0 ∨ bI b = 1 := by cases b <;> first | exact Or.inl rfl | exact Or.inr rfl
/-- where the reference's arrays lie -/
def md_tab (k : Nat) : Option Nat := match k with
  | 1 => some 28 | 3 => some 29 | 4 => some 30 | 5 => some 31 | 6 => some 32 | 7 => some 33 | 8 => some 34 | 9 => some 35 | 10 => some 36 | 11 => some 37
  | 13 => some 38 | 14 => some 39 | 15 => some 40 | 16 => some 41 | 17 => some 42 | 18 => some 43 | 19 => some 44 | 20 => some 45 | 21 => some 46 | 22 => some 47 | 23 => some 48
  | 32 => some 49 | 33 => some 50 | 34 => some 51 | _ => none
def md_M (σ : hm_M) : Prop := 52 ≤ hm_n σ ∧ ∀ k, hm_R σ 27 k = md_tab k
theorem hm_startQ {l : Launch} {y : MethodName} {cc : ByteArray} {nL : Nat} {ret : Option FieldType} {ini : Bool} {d mc ms : Nat} {As : List Value} {σ : hm_M} {Q : Option Value → hm_M → Prop} (L : List Value) (hy : plainName y.cls = true) (hi : ini = true → y.name = "<init>") (hL : hm_en nL As = L) (hn : (hm_sl As).length ≤ nL)
    (h : ∀ Q' : Option Value → hm_M → Prop, (∀ r τ, Q r τ → Q' r τ) → hm_V l y.cls cc nL ret ini (hm_rm d mc ms) mc ms Q' 0 0 0 L [] σ) : hm_Ct l y cc nL ret d mc ms As σ Q := hm_start L hy hi hL hn (h Q (fun _ _ q => q))
theorem hm_inc (b : Nat) : nI b + Int32.ofInt 1 = nI (b + 1) := (nI_succ b).symm
theorem hm_dec (b : Nat) : nI (b + 1) + Int32.ofInt (-1) = nI b := by
  rw [nI_succ]
  rw [Int32.add_assoc]
  exact (congrArg (nI b + ·) (show (1 : Int32) + Int32.ofInt (-1) = 0 by decide)).trans (Int32.add_zero _)
theorem bI_0 (b : Bool) : bI b = 0 ↔ b = false := by cases b <;> simp [bI]
theorem bI_1 (b : Bool) : bI b = 1 ↔ b = true := by cases b <;> simp [bI]
theorem any_take {β : Type} {l : List β} {f : β → Bool} {b : Nat} {x : β} (h : l[b]? = some x) : (l.take (b + 1)).any f = ((l.take b).any f || f x) := by
  rw [List.take_succ, List.any_append, h]; simp
theorem countP_take {β : Type} {l : List β} {f : β → Bool} {b : Nat} {x : β} (h : l[b]? = some x) : (l.take (b + 1)).countP f = (l.take b).countP f + (if f x then 1 else 0) := by
  rw [List.take_succ, List.countP_append, h]; simp [List.countP_cons]
theorem len2 {β : Type} (g : β → Nat) : ∀ (n : Nat) (l : List β), (∀ x ∈ l, g x < n) → (∀ p, l.countP (fun x => decide (g x = p)) ≤ 2) → l.length ≤ 2 * n := by
  intro n
  induction n with
  | zero =>
    intro l h _
    match l, h with
    | [], _ => simp
    | x :: t, h => exact absurd (h x List.mem_cons_self) (by omega)
  | succ n ih =>
    intro l h hc
    have h1 := ih (l.filter (fun x => !decide (g x = n))) (fun x hx => by
      obtain ⟨h2, h3⟩ := List.mem_filter.mp hx
      have := h x h2
      simp at h3
      omega) (fun p => Nat.le_trans (by rw [List.countP_filter]; exact List.countP_mono_left (fun x _ hx => by simp at hx ⊢; exact hx.1)) (hc p))
    have h2 : l.length = l.countP (fun x => decide (g x = n)) + (l.filter (fun x => !decide (g x = n))).length := by
      rw [← List.countP_eq_length_filter, List.length_eq_countP_add_countP (fun x => decide (g x = n))]
      congr 1
      exact List.countP_congr (fun x _ => by simp)
    have := hc n
    omega
section M1
variable (l : Launch)
set_option maxRecDepth 100000 in
theorem c5_in (σ : hm_M) (v lo hi : Int32) : hm_Ct l yX5_in cX5_in 3 (some .boolean) 0 0 0 [.int v, .int lo, .int hi] σ (fun r τ => r = some (.int (bI (decide (lo ≤ v) && decide (v ≤ hi)))) ∧ τ = σ) := by
  refine hm_startQ (ini := false) [.int v, .int lo, .int hi] (by decide) (by decide) rfl (Nat.le_of_ble_eq_true rfl) (fun Q hQ => ?_)
  refine hm_iload_n dX5_in_0 rfl ?_
  refine hm_iload_n dX5_in_1 rfl ?_
  refine hm_icmp_lt 14 dX5_in_2 (by decide) (fun h2 => ?_) (fun h2 => ?_)
  · skip
    refine hm_iconst dX5_in_14 (v := 0) (by decide) ?_
    refine hm_zret dX5_in_15 rfl (by decide) (by decide) (by first | exact Or.inl rfl | exact Or.inr rfl | assumption) ?_
    exact hQ _ _ ⟨by simp [bI, ← Int32.not_lt, *], rfl⟩
  · skip
    refine hm_iload_n dX5_in_5 rfl ?_
    refine hm_iload_n dX5_in_6 rfl ?_
    refine hm_icmp_gt 14 dX5_in_7 (by decide) (fun h7 => ?_) (fun h7 => ?_)
    · skip
      refine hm_iconst dX5_in_14 (v := 0) (by decide) ?_
      refine hm_zret dX5_in_15 rfl (by decide) (by decide) (by first | exact Or.inl rfl | exact Or.inr rfl | assumption) ?_
      exact hQ _ _ ⟨by simp [bI, ← Int32.not_lt, *], rfl⟩
    · skip
      refine hm_iconst dX5_in_10 (v := 1) (by decide) ?_
      refine hm_goto 15 dX5_in_11 (by decide) ?_
      refine hm_zret dX5_in_15 rfl (by decide) (by decide) (by first | exact Or.inl rfl | exact Or.inr rfl | assumption) ?_
      exact hQ _ _ ⟨by simp [bI, ← Int32.not_lt, *], rfl⟩
set_option maxRecDepth 100000 in
theorem c5_reaches (σ : hm_M) (h : md_M σ) (c : Int32) (pl : Nat) (hp : pl < 16) : hm_Ct l yX5_reaches cX5_reaches 3 (some .boolean) 0 0 0 [.ref 27, .int c, .int (nI pl)] σ (fun r τ => r = some (.int (bI (decide ((hm_I σ 36 pl >>> (c &&& 31)) &&& 1 = 1)))) ∧ τ = σ) := by
  obtain ⟨hN, hM⟩ := h
  refine hm_startQ (ini := false) [.ref 27, .int c, .int (nI pl)] (by decide) (by decide) rfl (Nat.le_of_ble_eq_true rfl) (fun Q hQ => ?_)
  refine hm_aload_n dX5_reaches_0 rfl ?_
  refine hm_getR lf_RX5_36 rfl rfl (by first | exact Nat.lt_of_lt_of_le (by decide) hN | assumption | (simp only [hm_n_wI, hm_n_wL, hm_n_wR, hm_n_g] at *; omega)) (hM 10) dX5_reaches_1 ?_
  refine hm_iload_n dX5_reaches_4 rfl ?_
  refine hm_iald _ rfl (by first | exact Nat.lt_of_lt_of_le (by decide) hN | assumption | (simp only [hm_n_wI, hm_n_wL, hm_n_wR, hm_n_g] at *; omega)) rfl (by omega) (by decide) dX5_reaches_5 ?_
  refine hm_iload_n dX5_reaches_6 rfl ?_
  refine hm_ishr dX5_reaches_7 ?_
  refine hm_iconst dX5_reaches_8 (v := 1) (by decide) ?_
  refine hm_iand dX5_reaches_9 ?_
  refine hm_iconst dX5_reaches_10 (v := 1) (by decide) ?_
  refine hm_icmp_ne 18 dX5_reaches_11 (by decide) (fun h11 => ?_) (fun h11 => ?_)
  · skip
    refine hm_iconst dX5_reaches_18 (v := 0) (by decide) ?_
    refine hm_zret dX5_reaches_19 rfl (by decide) (by decide) (by first | exact Or.inl rfl | exact Or.inr rfl | assumption) ?_
    exact hQ _ _ ⟨by simp [bI, *], rfl⟩
  · skip
    refine hm_iconst dX5_reaches_14 (v := 1) (by decide) ?_
    refine hm_goto 19 dX5_reaches_15 (by decide) ?_
    refine hm_zret dX5_reaches_19 rfl (by decide) (by decide) (by first | exact Or.inl rfl | exact Or.inr rfl | assumption) ?_
    exact hQ _ _ ⟨by simp [bI, *], rfl⟩
set_option maxRecDepth 100000 in
theorem c5_refuse (σ : hm_M) (h : md_M σ) (w : Nat) (hw : w < 7) : hm_Ct l yX5_refuse cX5_refuse 2 (some .int) 0 0 0 [.ref 27, .int (-(nI w))] σ (fun r τ => r = some (.int (-(nI w))) ∧ τ = hm_wI σ 49 w (hm_I σ 49 w + 1)) := by
  obtain ⟨hN, hM⟩ := h
  have e : - - nI w = nI w := by simp
  refine hm_startQ (ini := false) [.ref 27, .int (-(nI w))] (by decide) (by decide) rfl (Nat.le_of_ble_eq_true rfl) (fun Q hQ => ?_)
  refine hm_aload_n dX5_refuse_0 rfl ?_
  refine hm_getR lf_RX5_75 rfl rfl (by first | exact Nat.lt_of_lt_of_le (by decide) hN | assumption | (simp only [hm_n_wI, hm_n_wL, hm_n_wR, hm_n_g] at *; omega)) (hM 32) dX5_refuse_1 ?_
  refine hm_iload_n dX5_refuse_4 rfl ?_
  refine hm_ineg dX5_refuse_5 ?_
  refine hm_dup2 dX5_refuse_6 rfl rfl ?_
  refine hm_iald _ rfl (by first | exact Nat.lt_of_lt_of_le (by decide) hN | assumption | (simp only [hm_n_wI, hm_n_wL, hm_n_wR, hm_n_g] at *; omega)) e (by omega) (by decide) dX5_refuse_7 ?_
  refine hm_iconst dX5_refuse_8 (v := 1) (by decide) ?_
  refine hm_iadd dX5_refuse_9 ?_
  refine hm_iast _ rfl (by first | exact Nat.lt_of_lt_of_le (by decide) hN | assumption | (simp only [hm_n_wI, hm_n_wL, hm_n_wR, hm_n_g] at *; omega)) e (by omega) (by decide) dX5_refuse_10 ?_
  refine hm_iload_n dX5_refuse_11 rfl ?_
  refine hm_iret dX5_refuse_12 rfl (by decide) (by decide) ?_
  exact hQ _ _ ⟨rfl, rfl⟩
set_option maxRecDepth 100000 in
theorem c5_isCell (σ : hm_M) (h : md_M σ) (c : Int32) : hm_Ct l yX5_isCell cX5_isCell 2 (some .boolean) 1 0 0 [.ref 27, .int c] σ (fun r τ => r = some (.int (bI (decide (0 ≤ c) && decide (c ≤ hm_I σ 27 0 - 1)))) ∧ τ = σ) := by
  obtain ⟨hN, hM⟩ := h
  refine hm_startQ (ini := false) [.ref 27, .int c] (by decide) (by decide) rfl (Nat.le_of_ble_eq_true rfl) (fun Q hQ => ?_)
  refine hm_iload_n dX5_isCell_0 rfl ?_
  refine hm_iconst dX5_isCell_1 (v := 0) (by decide) ?_
  refine hm_aload_n dX5_isCell_2 rfl ?_
  refine hm_getI lf_RX5_84 rfl rfl (by first | exact Nat.lt_of_lt_of_le (by decide) hN | assumption | (simp only [hm_n_wI, hm_n_wL, hm_n_wR, hm_n_g] at *; omega)) dX5_isCell_3 ?_
  refine hm_iconst dX5_isCell_6 (v := 1) (by decide) ?_
  refine hm_isub dX5_isCell_7 ?_
  refine hm_callS lm_RX5_88 (c5_in l _ _ _ _) rfl rfl (by decide) (by decide) (Nat.le_of_ble_eq_true rfl) dX5_isCell_8 ?_
  rintro _ _ ⟨rfl, rfl⟩
  refine hm_zret dX5_isCell_11 rfl (by decide) (by decide) (bI_01 _) ?_
  exact hQ _ _ ⟨rfl, rfl⟩
end M1
