/-! the class's radio: a cell and a channel chosen, a bearer set up -/
theorem pFind_mono {f : Nat → Bool} {k c : Nat} (h : pFind f k = some c) : ∀ n, k ≤ n → pFind f n = some c := by
  intro n
  induction n with
  | zero => intro hk; rw [show k = 0 by omega] at h; exact h
  | succ n ih =>
    intro hk
    by_cases e : k = n + 1
    · rw [← e]; exact h
    · unfold pFind; rw [ih (by omega)]
theorem pChan_0 {α : sA} {p c k : Nat} (h : (pChan α p c k).2 = 0) : ∀ n, k ≤ n → pChan α p c n = pChan α p c k := by
  intro n
  induction n with
  | zero => intro hk; rw [show k = 0 by omega]
  | succ n ih =>
    intro hk
    by_cases e : k = n + 1
    · rw [← e]
    · show (if pLv α p c n < (pChan α p c n).2 then (some n, pLv α p c n) else pChan α p c n) = _
      rw [ih (by omega), h, if_neg (by omega)]
theorem rC.newB {α : sA} {σ τ : hm_M} {E : List sBr} (h : rC α σ) (h1 : ∀ a k, ¬ (9 ≤ a ∧ a ≤ 24) → a ≠ 6 → a ≠ 7 → ¬ (a = 1 ∧ k = 2) → hm_I τ a k = hm_I σ a k) (h2 : hm_L τ = hm_L σ) (h3 : ∀ a k, a ≠ 8 → hm_R τ a k = hm_R σ a k) (h4 : hm_n τ = hm_n σ) (h5 : cs_B E τ) (h6 : ∀ d ch, d < 32 → ch < 120 → bt (hm_I τ 6 ch) d = (decide (d < nCell α) && pSends (sB α E) d ch)) (h7 : ∀ q ch, q < 32 → ch < 120 → bt (hm_I τ 7 ch) q = pTalks (sB α E) q ch) : rC (sB α E) τ := by
  have ebk : ∀ (a c g : Nat) (q : List Int64), 52 ≤ a → bk σ a c g q → bk τ a c g q := fun a c g q ha hb => by
    obtain ⟨b1, b2, b3, b4, b5⟩ := hb
    exact ⟨by rw [h1 a 1 (by omega) (by omega) (by omega) (by omega)]; exact b1, b2, by rw [h1 a 2 (by omega) (by omega) (by omega) (by omega)]; exact b3, b4, fun k v hv => by rw [h2]; exact b5 k v hv⟩
  refine ⟨⟨by rw [h4]; exact h.r.1, fun k => by rw [h3 _ _ (by decide)]; exact h.r.2.1 k, fun k => by rw [h3 _ _ (by decide)]; exact h.r.2.2 k⟩, fun f i hi => ?_, fun f i hi => ?_, fun f i hi => ?_, ⟨fun w ch hw hch => ?_, h6, h7⟩, h5, fun p hp => ?_⟩
  · obtain ⟨-, s2, s3, s4, s5, -⟩ := cs_lN_sc hi
    rw [h1 _ _ s4 s2 s3 s5]; exact h.n f i hi
  · obtain ⟨-, s2, s3, s4, s5, -⟩ := cs_lI_sc hi
    rw [h1 _ _ s4 s2 s3 s5]; exact h.i f i hi
  · rw [h2]; exact h.l f i hi
  · rw [h1 _ _ (by omega) (by omega) (by omega) (by omega)]; exact h.z.1 w ch hw hch
  · obtain ⟨c1, c2, c3, ⟨f1, c4⟩, ⟨f2, c5⟩, f3, c6⟩ := h.p (show p < nPort α from hp)
    have hpa : 52 ≤ pA p := by unfold pA; omega
    refine ⟨by rw [h3 _ _ (by decide)]; exact c1, ?_, by rw [h1 _ _ (by omega) (by omega) (by omega) (by omega)]; exact c3, ⟨f1, ebk _ _ _ _ (by omega) c4⟩, ⟨f2, ebk _ _ _ _ (by omega) c5⟩, f3, ebk _ _ _ _ (by omega) c6⟩
    rw [h3 _ _ (by omega), h3 _ _ (by omega), h3 _ _ (by omega), h3 _ _ (by omega), h3 _ _ (by omega), h3 _ _ (by omega)]
    exact c2
def ccO (α : sA) (p c : Nat) (own : Option Nat) : Option Nat := match own with
  | some d => if decide (d < c) && pHAt α (aN α 3 p) d (aN α 2 d) then some d else none
  | none => none
def cs_nb (σ : hm_M) (a p c ch : Nat) (m6 m7 n : Int32) : hm_M := hm_wI (hm_wI (hm_wI (hm_wI (hm_wI (hm_wI (hm_wI (hm_wI σ a 0 (nI p)) a 1 (nI c)) a 2 (nI ch)) a 3 0) a 4 0) 6 ch m6) 7 ch m7) 1 2 n
section C4
variable (l : Launch) {α : sA} {σ : hm_M}
set_option maxRecDepth 100000 in
theorem k3_chooseCell (h : rC α σ) (w : sW α) {p : Nat} (hp : p < 8) (ho : pOwn α p = (pFst α p).map bAt) : hm_Ct l yX3_chooseCell cX3_chooseCell 6 (some .int) 2 0 0 [.ref 1, .int (nI p)] σ (fun r τ => r = some (.int (oI (pBest α p) (-9))) ∧ τ = σ) := by
  have hN := h.N
  have hA := h.r.2.2
  have hlen := w.len
  have h4 := w.c4
  have e0 : hm_I σ 1 0 = nI (nCell α) := h.n 0 0 (by show 0 < 1; decide)
  have e3 : hm_I σ 3 p = nI (aN α 3 p) := h.n 3 p hp
  have hpl := w.pl p
  refine hm_startQ (ini := false) [.ref 1, .int (nI p), hm_u, hm_u, hm_u, hm_u] (by decide) (by decide) rfl (Nat.le_of_ble_eq_true rfl) (fun Q hQ => ?_)
  have hl : ∀ (own : Option Nat) (hown : ∀ d, own = some d → d < nCell α) (ho : pOwn α p = own) (k c : Nat) (had : Value) (ch u : Int32), c + k = nCell α → u = nI c → pFind (fun c => decide (pOwn α p ≠ some c) && pHAt α (aN α 3 p) c (aN α 2 c)) c = none → ch = oI (ccO α p c own) (-9) → hm_V l RX3 cX3_chooseCell 6 (some .int) false (hm_rm 2 0 0) 0 0 Q 0 0 32 [.ref 1, .int (nI p), had, .int (oI own (-9)), .int ch, .int u] [] σ := by
    intro own hown ho k
    induction k with
    | zero =>
      intro c had ch u hk hu hf hch
      subst hu
      obtain rfl : c = nCell α := by omega
      have e : oI (pBest α p) (-9) = ch := by
        rw [hch]; unfold pBest; rw [hf]; dsimp only; rw [ho]
        cases own with
        | none => rfl
        | some d => unfold ccO; dsimp only; rw [decide_eq_true (hown d rfl), Bool.true_and]
      refine hm_iload dX3_chooseCell_32 rfl ?_
      refine hm_aload_n dX3_chooseCell_34 rfl ?_
      refine hm_getI lf_RX3_37 rfl rfl (by first | exact Nat.lt_of_lt_of_le (by decide) hN | assumption | (simp only [hm_n_wI, hm_n_wL, hm_n_wR, hm_n_g] at *; omega)) dX3_chooseCell_35 ?_
      rw [e0]
      refine hm_icmp_ge 82 dX3_chooseCell_38 (by decide) (fun _ => ?_) (fun h38 => absurd (nI_le (by omega) (by omega)) h38)
      refine hm_iload dX3_chooseCell_82 rfl ?_
      refine hm_iret dX3_chooseCell_84 rfl (by decide) (by decide) ?_
      exact hQ _ _ ⟨by rw [e], rfl⟩
    | succ k ih =>
      intro c had ch u hk hu hf hch
      subst hu
      have e2 : hm_I σ 2 c = nI (aN α 2 c) := h.n 2 c (by show c < 4; omega)
      have q1 : nI c = oI own (-9) ↔ own = some c := by
        cases own with
        | none => simp [oI]; exact fun e => by have := nI_pos (n := c) (by omega); rw [e] at this; exact this (by decide)
        | some d => simp only [oI, nI_eq (show c < 2 ^ 31 by omega) (show d < 2 ^ 31 by have := hown d rfl; omega), Option.some.injEq, eq_comm]
      have hno : (decide (pOwn α p ≠ some c) && pHAt α (aN α 3 p) c (aN α 2 c)) = false → pFind (fun c => decide (pOwn α p ≠ some c) && pHAt α (aN α 3 p) c (aN α 2 c)) (c + 1) = none := fun hz => by
        unfold pFind; rw [hf]; dsimp only; rw [hz]; rfl
      have hyes : (decide (pOwn α p ≠ some c) && pHAt α (aN α 3 p) c (aN α 2 c)) = true → pBest α p = some c := fun hz => by
        unfold pBest
        rw [pFind_mono (k := c + 1) (c := c) (by unfold pFind; rw [hf]; dsimp only; rw [hz]; rfl) _ (by omega)]
      have hsame : pHAt α (aN α 3 p) c (aN α 2 c) = false ∨ own ≠ some c → ch = oI (ccO α p (c + 1) own) (-9) := fun hz => by
        rw [hch]
        cases own with
        | none => rfl
        | some d =>
          unfold ccO
          dsimp only
          by_cases e : d = c
          · subst e
            rcases hz with hz | hz
            · rw [hz]; simp
            · exact absurd rfl hz
          · rw [show decide (d < c + 1) = decide (d < c) by simp; omega]
      refine hm_iload dX3_chooseCell_32 rfl ?_
      refine hm_aload_n dX3_chooseCell_34 rfl ?_
      refine hm_getI lf_RX3_37 rfl rfl (by first | exact Nat.lt_of_lt_of_le (by decide) hN | assumption | (simp only [hm_n_wI, hm_n_wL, hm_n_wR, hm_n_g] at *; omega)) dX3_chooseCell_35 ?_
      rw [e0]
      refine hm_icmp_ge 82 dX3_chooseCell_38 (by decide) (fun h38 => absurd h38 (nI_ge (by omega) (by omega))) (fun _ => ?_)
      refine hm_aload_n dX3_chooseCell_41 rfl ?_
      refine hm_iload dX3_chooseCell_42 rfl ?_
      refine hm_aload_n dX3_chooseCell_44 rfl ?_
      refine hm_getR lf_RX3_15 rfl rfl (by first | exact Nat.lt_of_lt_of_le (by decide) hN | assumption | (simp only [hm_n_wI, hm_n_wL, hm_n_wR, hm_n_g] at *; omega)) (hA 5) dX3_chooseCell_45 ?_
      refine hm_iload_n dX3_chooseCell_48 rfl ?_
      refine hm_iald _ rfl (by first | exact Nat.lt_of_lt_of_le (by decide) hN | assumption | (simp only [hm_n_wI, hm_n_wL, hm_n_wR, hm_n_g] at *; omega)) rfl (by omega) (by decide) dX3_chooseCell_49 ?_
      rw [e3]
      refine hm_aload_n dX3_chooseCell_50 rfl ?_
      refine hm_getR lf_RX3_9 rfl rfl (by first | exact Nat.lt_of_lt_of_le (by decide) hN | assumption | (simp only [hm_n_wI, hm_n_wL, hm_n_wR, hm_n_g] at *; omega)) (hA 4) dX3_chooseCell_51 ?_
      refine hm_iload dX3_chooseCell_54 rfl ?_
      refine hm_iald _ rfl (by first | exact Nat.lt_of_lt_of_le (by decide) hN | assumption | (simp only [hm_n_wI, hm_n_wL, hm_n_wR, hm_n_g] at *; omega)) rfl (by omega) (by decide) dX3_chooseCell_56 ?_
      rw [e2]
      refine hm_callV lm_RX3_90 (k3_comesDown l h w (by omega) hpl (w.bc c)) rfl rfl rfl rfl (by first | exact Nat.lt_of_lt_of_le (by decide) hN | assumption | (simp only [hm_n_wI, hm_n_wL, hm_n_wR, hm_n_g] at *; omega)) (by decide) (by decide) (Nat.le_of_ble_eq_true rfl) dX3_chooseCell_57 ?_
      rintro _ t9 ⟨rfl, hh9⟩
      rw [hh9]
      clear hh9 t9
      refine hm_if_eq 76 dX3_chooseCell_60 (by decide) (fun h60 => ?_) (fun h60 => ?_)
      · skip
        rw [bI_0] at h60
        have g1 := hno (by rw [h60, Bool.and_false])
        have g2 := hsame (Or.inl h60)
        refine hm_iinc dX3_chooseCell_76 rfl _ rfl (by decide) rfl ?_
        refine hm_goto 32 dX3_chooseCell_79 (by decide) ?_
        exact ih (c + 1) _ _ _ (by omega) (hm_inc c) g1 g2
      · skip
        rw [bI_0] at h60
        refine hm_iload dX3_chooseCell_63 rfl ?_
        refine hm_iload_n dX3_chooseCell_65 rfl ?_
        refine hm_icmp_eq 72 dX3_chooseCell_66 (by decide) (fun h66 => ?_) (fun h66 => ?_)
        · skip
          rw [q1] at h66
          have g1 := hno (by rw [ho, h66]; simp)
          have g2 : nI c = oI (ccO α p (c + 1) own) (-9) := by rw [h66]; unfold ccO; dsimp only; rw [b_nf h60]; simp [oI]
          refine hm_iload dX3_chooseCell_72 rfl ?_
          refine hm_istore dX3_chooseCell_74 (by decide) rfl ?_
          refine hm_iinc dX3_chooseCell_76 rfl _ rfl (by decide) rfl ?_
          refine hm_goto 32 dX3_chooseCell_79 (by decide) ?_
          exact ih (c + 1) _ _ _ (by omega) (hm_inc c) g1 g2
        · skip
          rw [q1] at h66
          refine hm_iload dX3_chooseCell_69 rfl ?_
          refine hm_iret dX3_chooseCell_71 rfl (by decide) (by decide) ?_
          exact hQ _ _ ⟨by rw [hyes (by rw [ho, b_nf h60]; simp [h66])]; rfl, rfl⟩
  rcases fi_cases (fun x => decide (bOf x = p)) (aB α) with ⟨c1, c2, c0⟩ | ⟨i, x, c1, c2, c3, c4, c5, c6, c7⟩
  · skip
    have d1 : pFi α p = none := c1
    have d2 : pFst α p = none := c2
    rw [d2] at ho
    have ho : pOwn α p = none := ho
    refine hm_aload_n dX3_chooseCell_0 rfl ?_
    refine hm_iload_n dX3_chooseCell_1 rfl ?_
    refine hm_callV lm_RX3_64 (k3_firstBearerOf l h w hp) rfl rfl rfl rfl (by first | exact Nat.lt_of_lt_of_le (by decide) hN | assumption | (simp only [hm_n_wI, hm_n_wL, hm_n_wR, hm_n_g] at *; omega)) (by decide) (by decide) (Nat.le_of_ble_eq_true rfl) dX3_chooseCell_2 ?_
    rintro _ t9 ⟨rfl, hh9⟩
    rw [hh9]
    clear hh9 t9
    rw [d1]
    refine hm_istore_n dX3_chooseCell_5 (by decide) rfl ?_
    refine hm_iload_n dX3_chooseCell_6 rfl ?_
    refine hm_if_ge 15 dX3_chooseCell_7 (by decide) (fun h7 => absurd h7 (by decide)) (fun _ => ?_)
    refine hm_bipush dX3_chooseCell_10 (v := -9) (by decide) ?_
    refine hm_goto 24 dX3_chooseCell_12 (by decide) ?_
    refine hm_istore_n dX3_chooseCell_24 (by decide) rfl ?_
    refine hm_bipush dX3_chooseCell_25 (v := -9) (by decide) ?_
    refine hm_istore dX3_chooseCell_27 (by decide) rfl ?_
    refine hm_iconst dX3_chooseCell_29 (v := 0) (by decide) ?_
    refine hm_istore dX3_chooseCell_30 (by decide) rfl ?_
    exact hl none (fun d hd => by cases hd) ho _ 0 _ _ _ (Nat.zero_add _) rfl rfl rfl
  · skip
    have d1 : pFi α p = some i := c1
    have d2 : pFst α p = some x := c4
    obtain ⟨a, hR, ha, hSa, e1, e2, e3', e4, e5⟩ := h.ba c2
    rw [d2] at ho
    have ho : pOwn α p = some (bAt x) := ho
    have hxc := (w.x (List.mem_of_getElem? c2)).2.1
    refine hm_aload_n dX3_chooseCell_0 rfl ?_
    refine hm_iload_n dX3_chooseCell_1 rfl ?_
    refine hm_callV lm_RX3_64 (k3_firstBearerOf l h w hp) rfl rfl rfl rfl (by first | exact Nat.lt_of_lt_of_le (by decide) hN | assumption | (simp only [hm_n_wI, hm_n_wL, hm_n_wR, hm_n_g] at *; omega)) (by decide) (by decide) (Nat.le_of_ble_eq_true rfl) dX3_chooseCell_2 ?_
    rintro _ t9 ⟨rfl, hh9⟩
    rw [hh9]
    clear hh9 t9
    rw [d1]
    refine hm_istore_n dX3_chooseCell_5 (by decide) rfl ?_
    refine hm_iload_n dX3_chooseCell_6 rfl ?_
    refine hm_if_ge 15 dX3_chooseCell_7 (by decide) (fun _ => ?_) (fun h7 => absurd (nI_pos' (by omega)) h7)
    refine hm_aload_n dX3_chooseCell_15 rfl ?_
    refine hm_getR lf_RX3_32 rfl rfl (by first | exact Nat.lt_of_lt_of_le (by decide) hN | assumption | (simp only [hm_n_wI, hm_n_wL, hm_n_wR, hm_n_g] at *; omega)) (hA 10) dX3_chooseCell_16 ?_
    refine hm_iload_n dX3_chooseCell_19 rfl ?_
    refine hm_aald i (.ref a) rfl (by decide) (by first | exact Nat.lt_of_lt_of_le (by decide) hN | assumption | (simp only [hm_n_wI, hm_n_wL, hm_n_wR, hm_n_g] at *; omega)) rfl (by omega) (by decide) (Or.inr ⟨a, rfl, hR⟩) dX3_chooseCell_20 ?_
    refine hm_getI lf_RX3_87 rfl hSa (by omega) dX3_chooseCell_21 ?_
    rw [e2]
    refine hm_istore_n dX3_chooseCell_24 (by decide) rfl ?_
    refine hm_bipush dX3_chooseCell_25 (v := -9) (by decide) ?_
    refine hm_istore dX3_chooseCell_27 (by decide) rfl ?_
    refine hm_iconst dX3_chooseCell_29 (v := 0) (by decide) ?_
    refine hm_istore dX3_chooseCell_30 (by decide) rfl ?_
    exact hl (some (bAt x)) (fun d hd => by cases hd; exact hxc) ho _ 0 _ _ _ (Nat.zero_add _) rfl rfl rfl
set_option maxRecDepth 100000 in
theorem k3_chooseChannel (h : rC α σ) (w : sW α) {p c : Nat} (hp : p < 8) (hc : c < 4) : hm_Ct l yX3_chooseChannel cX3_chooseChannel 11 (some .int) 2 0 0 [.ref 1, .int (nI p), .int (nI c)] σ (fun r τ => r = some (.int (oI (pCh α p c) (-9))) ∧ τ = σ) := by
  have hN := h.N
  have hA := h.r.2.2
  refine hm_startQ (ini := false) [.ref 1, .int (nI p), .int (nI c), hm_u, hm_u, hm_u, hm_u, hm_u, hm_u, hm_u, hm_u] (by decide) (by decide) rfl (Nat.le_of_ble_eq_true rfl) (fun Q hQ => ?_)
  have hl : ∀ (sl op : Int32) (hsl : ∀ s, s < 32 → bt sl s = pTaken α p c s) (hop : opM α p c op) (m k : Nat) (v o u : Int32) (y : Value), k + m = 120 → u = nI k → v = nI (pChan α p c k).2 → o = oI (pChan α p c k).1 (-9) → hm_V l RX3 cX3_chooseChannel 11 (some .int) false (hm_rm 2 0 0) 0 0 Q 0 0 41 [.ref 1, .int (nI p), .int (nI c), .int sl, .int ((1 : Int32) <<< (nI (aN α 3 p) &&& 31) ||| (1 : Int32) <<< (nI (16 + c) &&& 31)), .int (nI (aN α 4 (aN α 3 p)) &&& (((1 : Int32) <<< (nI c &&& 31)) ^^^ (-1))), .int op, .int v, .int o, .int u, y] [] σ := by
    intro sl op hsl hop m
    induction m with
    | zero =>
      intro k v o u y hk hu hv ho
      subst hu
      obtain rfl : k = 120 := by omega
      refine hm_iload dX3_chooseChannel_41 rfl ?_
      refine hm_bipush dX3_chooseChannel_43 (v := 120) (by decide) ?_
      refine hm_icmp_ge 100 dX3_chooseChannel_45 (by decide) (fun _ => ?_) (fun h45 => absurd (by decide) h45)
      refine hm_iload dX3_chooseChannel_100 rfl ?_
      refine hm_iret dX3_chooseChannel_102 rfl (by decide) (by decide) ?_
      exact hQ _ _ ⟨by rw [ho]; rfl, rfl⟩
    | succ m ih =>
      intro k v o u y hk hu hv ho
      subst hu
      have hc4 := (pChan_ok α p c k).1
      have q1 : nI (pChan α p c k).2 ≤ 0 ↔ (pChan α p c k).2 = 0 := by rw [show (0 : Int32) = nI 0 from rfl, nI_leI (by omega) (by omega)]; omega
      have hb := hsl (k / 10) (by omega)
      have ih2 := ih (k + 1)
      rw [show pChan α p c (k + 1) = if pLv α p c k < (pChan α p c k).2 then (some k, pLv α p c k) else pChan α p c k from rfl] at ih2
      have hlv : pLev α p c k < 2 ^ 31 := by have := pOSend_le w c (aN α 3 p) k; have := pOTalk_le w p c k; unfold pLev; split <;> split <;> omega
      subst hv
      subst ho
      refine hm_iload dX3_chooseChannel_41 rfl ?_
      refine hm_bipush dX3_chooseChannel_43 (v := 120) (by decide) ?_
      refine hm_icmp_ge 100 dX3_chooseChannel_45 (by decide) (fun h45 => absurd h45 (nI_ge (b := 120) (by omega) (by omega))) (fun _ => ?_)
      refine hm_iload dX3_chooseChannel_48 rfl ?_
      refine hm_if_le 100 dX3_chooseChannel_50 (by decide) (fun h50 => ?_) (fun h50 => ?_)
      · skip
        rw [q1] at h50
        refine hm_iload dX3_chooseChannel_100 rfl ?_
        refine hm_iret dX3_chooseChannel_102 rfl (by decide) (by decide) ?_
        exact hQ _ _ ⟨by unfold pCh; rw [pChan_0 h50 120 (by omega)], rfl⟩
      · skip
        rw [q1] at h50
        refine hm_iload_n dX3_chooseChannel_53 rfl ?_
        refine hm_iconst dX3_chooseChannel_54 (v := 1) (by decide) ?_
        refine hm_iload dX3_chooseChannel_55 rfl ?_
        refine hm_bipush dX3_chooseChannel_57 (v := 10) (by decide) ?_
        refine hm_idiv dX3_chooseChannel_59 (by decide) ?_
        rw [div10 (by omega)]
        refine hm_ishl dX3_chooseChannel_60 ?_
        refine hm_iand dX3_chooseChannel_61 ?_
        refine hm_if_ne 94 dX3_chooseChannel_62 (by decide) (fun h62 => ?_) (fun h62 => ?_)
        · skip
          rw [bt_ask _ (by omega), hb] at h62
          have h62 : pTaken α p c (k / 10) = true := b_nf h62
          have g : pLv α p c k = 4 := by unfold pLv; rw [h62]; rfl
          rw [if_neg (by omega)] at ih2
          refine hm_iinc dX3_chooseChannel_94 rfl _ rfl (by decide) rfl ?_
          refine hm_goto 41 dX3_chooseChannel_97 (by decide) ?_
          exact ih2 _ _ _ _ (by omega) (hm_inc k) rfl rfl
        · skip
          rw [bt_ask _ (by omega), hb] at h62
          have g : pLv α p c k = pLev α p c k := by unfold pLv; rw [h62]; rfl
          refine hm_aload_n dX3_chooseChannel_65 rfl ?_
          refine hm_iload dX3_chooseChannel_66 rfl ?_
          refine hm_iload dX3_chooseChannel_68 rfl ?_
          refine hm_iload dX3_chooseChannel_70 rfl ?_
          refine hm_iload dX3_chooseChannel_72 rfl ?_
          refine hm_callV lm_RX3_103 (k3_levelOn l h w hp hc (by omega) hop) rfl rfl rfl rfl (by first | exact Nat.lt_of_lt_of_le (by decide) hN | assumption | (simp only [hm_n_wI, hm_n_wL, hm_n_wR, hm_n_g] at *; omega)) (by decide) (by decide) (Nat.le_of_ble_eq_true rfl) dX3_chooseChannel_74 ?_
          rintro _ t9 ⟨rfl, hh9⟩
          rw [hh9]
          clear hh9 t9
          refine hm_istore dX3_chooseChannel_77 (by decide) rfl ?_
          refine hm_iload dX3_chooseChannel_79 rfl ?_
          refine hm_iload dX3_chooseChannel_81 rfl ?_
          refine hm_icmp_ge 94 dX3_chooseChannel_83 (by decide) (fun h83 => ?_) (fun h83 => ?_)
          · skip
            rw [nI_leI (by omega) (by omega)] at h83
            rw [if_neg (by omega)] at ih2
            refine hm_iinc dX3_chooseChannel_94 rfl _ rfl (by decide) rfl ?_
            refine hm_goto 41 dX3_chooseChannel_97 (by decide) ?_
            exact ih2 _ _ _ _ (by omega) (hm_inc k) rfl rfl
          · skip
            rw [nI_leI (by omega) (by omega)] at h83
            rw [if_pos (by omega), g] at ih2
            refine hm_iload dX3_chooseChannel_86 rfl ?_
            refine hm_istore dX3_chooseChannel_88 (by decide) rfl ?_
            refine hm_iload dX3_chooseChannel_90 rfl ?_
            refine hm_istore dX3_chooseChannel_92 (by decide) rfl ?_
            refine hm_iinc dX3_chooseChannel_94 rfl _ rfl (by decide) rfl ?_
            refine hm_goto 41 dX3_chooseChannel_97 (by decide) ?_
            exact ih2 _ _ _ _ (by omega) (hm_inc k) rfl rfl
  refine hm_aload_n dX3_chooseChannel_0 rfl ?_
  refine hm_iload_n dX3_chooseChannel_1 rfl ?_
  refine hm_iload_n dX3_chooseChannel_2 rfl ?_
  refine hm_callV lm_RX3_94 (k3_takenSlots l h w hp hc) rfl rfl rfl rfl (by first | exact Nat.lt_of_lt_of_le (by decide) hN | assumption | (simp only [hm_n_wI, hm_n_wL, hm_n_wR, hm_n_g] at *; omega)) (by decide) (by decide) (Nat.le_of_ble_eq_true rfl) dX3_chooseChannel_3 ?_
  rintro _ t9 ⟨sl, rfl, hsl, hh9⟩
  rw [hh9]
  clear hh9 t9
  refine hm_istore_n dX3_chooseChannel_6 (by decide) rfl ?_
  refine hm_aload_n dX3_chooseChannel_7 rfl ?_
  refine hm_iload_n dX3_chooseChannel_8 rfl ?_
  refine hm_iload_n dX3_chooseChannel_9 rfl ?_
  refine hm_callV lm_RX3_97 (k3_noiseBits l h hp hc) rfl rfl rfl rfl (by first | exact Nat.lt_of_lt_of_le (by decide) hN | assumption | (simp only [hm_n_wI, hm_n_wL, hm_n_wR, hm_n_g] at *; omega)) (by decide) (by decide) (Nat.le_of_ble_eq_true rfl) dX3_chooseChannel_10 ?_
  rintro _ t9 ⟨rfl, hh9⟩
  rw [hh9]
  clear hh9 t9
  refine hm_istore dX3_chooseChannel_13 (by decide) rfl ?_
  refine hm_aload_n dX3_chooseChannel_15 rfl ?_
  refine hm_iload_n dX3_chooseChannel_16 rfl ?_
  refine hm_iload_n dX3_chooseChannel_17 rfl ?_
  refine hm_callV lm_RX3_100 (k3_otherCells l h w hp hc) rfl rfl rfl rfl (by first | exact Nat.lt_of_lt_of_le (by decide) hN | assumption | (simp only [hm_n_wI, hm_n_wL, hm_n_wR, hm_n_g] at *; omega)) (by decide) (by decide) (Nat.le_of_ble_eq_true rfl) dX3_chooseChannel_18 ?_
  rintro _ t9 ⟨rfl, hh9⟩
  rw [hh9]
  clear hh9 t9
  refine hm_istore dX3_chooseChannel_21 (by decide) rfl ?_
  refine hm_aload_n dX3_chooseChannel_23 rfl ?_
  refine hm_iload_n dX3_chooseChannel_24 rfl ?_
  refine hm_iload_n dX3_chooseChannel_25 rfl ?_
  refine hm_callV lm_RX3_54 (k3_otherPortables l h w hp hc) rfl rfl rfl rfl (by first | exact Nat.lt_of_lt_of_le (by decide) hN | assumption | (simp only [hm_n_wI, hm_n_wL, hm_n_wR, hm_n_g] at *; omega)) (by decide) (by decide) (Nat.le_of_ble_eq_true rfl) dX3_chooseChannel_26 ?_
  rintro _ t9 ⟨op, rfl, hop, hh9⟩
  rw [hh9]
  clear hh9 t9
  refine hm_istore dX3_chooseChannel_29 (by decide) rfl ?_
  refine hm_iconst dX3_chooseChannel_31 (v := 4) (by decide) ?_
  refine hm_istore dX3_chooseChannel_32 (by decide) rfl ?_
  refine hm_bipush dX3_chooseChannel_34 (v := -9) (by decide) ?_
  refine hm_istore dX3_chooseChannel_36 (by decide) rfl ?_
  refine hm_iconst dX3_chooseChannel_38 (v := 0) (by decide) ?_
  refine hm_istore dX3_chooseChannel_39 (by decide) rfl ?_
  exact hl sl op hsl hop 120 0 _ _ _ _ rfl rfl rfl rfl
theorem nb_o (σ : hm_M) (a p c ch : Nat) (m6 m7 n : Int32) (b j : Nat) (h1 : b ≠ a) (h2 : ¬ (b = 6 ∧ j = ch)) (h3 : ¬ (b = 7 ∧ j = ch)) (h4 : ¬ (b = 1 ∧ j = 2)) : hm_I (cs_nb σ a p c ch m6 m7 n) b j = hm_I σ b j := by
  unfold cs_nb
  rw [hm_I_wI, if_neg h4, hm_I_wI, if_neg h3, hm_I_wI, if_neg h2, hm_I_wI, if_neg (fun q => h1 q.1), hm_I_wI, if_neg (fun q => h1 q.1), hm_I_wI, if_neg (fun q => h1 q.1), hm_I_wI, if_neg (fun q => h1 q.1), hm_I_wI, if_neg (fun q => h1 q.1)]
theorem rC.nb (h : rC α σ) {p c ch : Nat} (hp : p < 8) (hc : c < nCell α) (h4 : nCell α ≤ 4) (hch : ch < 120) (hl : (aB α).length < 16) {a : Nat} (hR : hm_R σ 8 (aB α).length = some a) {π : Nat → Nat} (hpi : cs_pi σ π) (hb3 : ∀ (b : Nat) (x : sBr), (aB α)[b]? = some x → cs_ar σ (9 + π b) x) : rC (sB α (aB α ++ [(p, c, ch, 0, false)])) (cs_nb σ a p c ch (hm_I σ 6 ch ||| (1 : Int32) <<< (nI c &&& 31)) (hm_I σ 7 ch ||| (1 : Int32) <<< (nI p &&& 31)) (nI ((aB α).length + 1))) := by
  obtain ⟨hpl, hpll⟩ := hpi.1 _ hl
  rw [hR] at hpl
  cases hpl
  refine h.newB (fun b k h1 h2 h3 h4 => nb_o _ _ _ _ _ _ _ _ _ _ (by omega) (by omega) (by omega) h4) rfl (fun _ _ _ => rfl) rfl ⟨⟨?_, ?_⟩, π, hpi, fun b x hx => ?_⟩ (fun d k hd hk => ?_) (fun d k hd hk => ?_)
  · unfold cs_nb; rw [hm_I_wI, if_pos ⟨rfl, rfl⟩, List.length_append]; rfl
  · rw [List.length_append]; simp; omega
  · rcases Nat.lt_or_ge b (aB α).length with hlt | hge
    · rw [List.getElem?_append_left hlt] at hx
      obtain ⟨e1, e2, e3, e4, e5⟩ := hb3 b x hx
      have hne : π b ≠ π (aB α).length := fun e => by have := hpi.2 _ _ (by omega) hl e; omega
      refine ⟨?_, ?_, ?_, ?_, ?_⟩ <;> rw [nb_o _ _ _ _ _ _ _ _ _ _ (by omega) (by omega) (by omega) (by omega)] <;> assumption
    · have hb := (List.getElem?_eq_some_iff.mp hx).1
      rw [List.length_append, List.length_singleton] at hb
      obtain rfl : b = (aB α).length := by omega
      rw [List.getElem?_append_right (Nat.le_refl _), Nat.sub_self] at hx
      cases hx
      have k1 : ¬ (9 + π (aB α).length = 6) := by omega
      have k2 : ¬ (9 + π (aB α).length = 7) := by omega
      have k3 : ¬ (9 + π (aB α).length = 1) := by omega
      refine ⟨?_, ?_, ?_, ?_, ?_⟩ <;> simp [cs_nb, hm_I_wI, k1, k2, k3, bI]
  · have hv : hm_I (cs_nb σ (9 + π (aB α).length) p c ch (hm_I σ 6 ch ||| (1 : Int32) <<< (nI c &&& 31)) (hm_I σ 7 ch ||| (1 : Int32) <<< (nI p &&& 31)) (nI ((aB α).length + 1))) 6 k = if k = ch then hm_I σ 6 ch ||| (1 : Int32) <<< (nI c &&& 31) else hm_I σ 6 k := by
      unfold cs_nb
      rw [hm_I_wI, if_neg (by omega), hm_I_wI, if_neg (by omega), hm_I_wI]
      by_cases e : k = ch
      · rw [if_pos ⟨rfl, e⟩, if_pos e]
      · rw [if_neg (fun q => e q.2), if_neg e]
        rw [hm_I_wI, if_neg (by omega), hm_I_wI, if_neg (by omega), hm_I_wI, if_neg (by omega), hm_I_wI, if_neg (by omega), hm_I_wI, if_neg (by omega)]
    have hz := h.z.2.1 d
    have hs : pSends (sB α (aB α ++ [(p, c, ch, 0, false)])) d k = (pSends α d k || (decide (c = d) && decide (ch = k))) := by
      unfold pSends; rw [aB_sB, aN_sB, List.any_append, Bool.or_assoc]; simp
    rw [hv, hs]
    by_cases e : k = ch
    · subst e
      rw [if_pos rfl, b_or, hz k hd hk, bt_1 (by omega) hd]
      by_cases e2 : d = c
      · subst e2; simp [hc]
      · simp [e2, Ne.symm e2]
    · rw [if_neg e, hz k hd hk]; simp [Ne.symm e]
  · have hv : hm_I (cs_nb σ (9 + π (aB α).length) p c ch (hm_I σ 6 ch ||| (1 : Int32) <<< (nI c &&& 31)) (hm_I σ 7 ch ||| (1 : Int32) <<< (nI p &&& 31)) (nI ((aB α).length + 1))) 7 k = if k = ch then hm_I σ 7 ch ||| (1 : Int32) <<< (nI p &&& 31) else hm_I σ 7 k := by
      unfold cs_nb
      rw [hm_I_wI, if_neg (by omega), hm_I_wI]
      by_cases e : k = ch
      · rw [if_pos ⟨rfl, e⟩, if_pos e]
      · rw [if_neg (fun q => e q.2), if_neg e]
        rw [hm_I_wI, if_neg (by omega), hm_I_wI, if_neg (by omega), hm_I_wI, if_neg (by omega), hm_I_wI, if_neg (by omega), hm_I_wI, if_neg (by omega), hm_I_wI, if_neg (by omega)]
    have hz := h.z.2.2 d
    have hs : pTalks (sB α (aB α ++ [(p, c, ch, 0, false)])) d k = (pTalks α d k || (decide (p = d) && decide (ch = k))) := by
      unfold pTalks; rw [aB_sB, List.any_append]; simp
    rw [hv, hs]
    by_cases e : k = ch
    · subst e
      rw [if_pos rfl, b_or, hz k hd hk, bt_1 (by omega) hd]
      by_cases e2 : d = p
      · subst e2; simp
      · simp [e2, Ne.symm e2]
    · rw [if_neg e, hz k hd hk]; simp [Ne.symm e]
set_option maxRecDepth 100000 in
theorem k3_addBearer (h : rC α σ) (w : sW α) {p c ch : Nat} (hp : p < 8) (hc : c < nCell α) (hch : ch < 120) (hl : (aB α).length < 16) : hm_Ct l yX3_addBearer cX3_addBearer 5 none 0 0 0 [.ref 1, .int (nI p), .int (nI c), .int (nI ch)] σ (fun r τ => r = none ∧ rC (pAdd α p c ch) τ ∧ cs_fr σ τ) := by
  have hN := h.N
  have hA := h.r.2.2
  have hb1 := h.bl
  have h4 := w.c4
  obtain ⟨-, π, hpi, hb3⟩ := h.b
  obtain ⟨hR, hpl⟩ := hpi.1 _ hl
  have hS := S_b _ hpl
  have hrc := h.nb hp hc h4 hch hl hR hpi hb3
  have ha : 9 ≤ 9 + π (aB α).length ∧ 9 + π (aB α).length < 25 := by omega
  generalize 9 + π (aB α).length = a at hR hS hrc ha
  have e4 : hm_I σ 1 3 = aI α 4 0 := h.i 4 0 (by show 0 < 6; decide)
  refine hm_startQ (ini := false) [.ref 1, .int (nI p), .int (nI c), .int (nI ch), hm_u] (by decide) (by decide) rfl (Nat.le_of_ble_eq_true rfl) (fun Q hQ => ?_)
  refine hm_aload_n dX3_addBearer_0 rfl ?_
  refine hm_getI lf_RX3_58 rfl rfl (by first | exact Nat.lt_of_lt_of_le (by decide) hN | assumption | (simp only [hm_n_wI, hm_n_wL, hm_n_wR, hm_n_g] at *; omega)) dX3_addBearer_1 ?_
  rw [hb1]
  refine hm_bipush dX3_addBearer_4 (v := 16) (by decide) ?_
  refine hm_icmp_lt 10 dX3_addBearer_6 (by decide) (fun _ => ?_) (fun h6 => absurd ((nI_ltI (b := 16) (by omega) (by omega)).mpr hl) h6)
  refine hm_aload_n dX3_addBearer_10 rfl ?_
  refine hm_getR lf_RX3_32 rfl rfl (by first | exact Nat.lt_of_lt_of_le (by decide) hN | assumption | (simp only [hm_n_wI, hm_n_wL, hm_n_wR, hm_n_g] at *; omega)) (hA 10) dX3_addBearer_11 ?_
  refine hm_aload_n dX3_addBearer_14 rfl ?_
  refine hm_getI lf_RX3_58 rfl rfl (by first | exact Nat.lt_of_lt_of_le (by decide) hN | assumption | (simp only [hm_n_wI, hm_n_wL, hm_n_wR, hm_n_g] at *; omega)) dX3_addBearer_15 ?_
  rw [hb1]
  refine hm_aald _ (.ref a) rfl (by decide) (by first | exact Nat.lt_of_lt_of_le (by decide) hN | assumption | (simp only [hm_n_wI, hm_n_wL, hm_n_wR, hm_n_g] at *; omega)) rfl (by omega) (by decide) (Or.inr ⟨a, rfl, hR⟩) dX3_addBearer_18 ?_
  refine hm_astore dX3_addBearer_19 (by decide) rfl ?_
  refine hm_aload dX3_addBearer_21 rfl ?_
  refine hm_iload_n dX3_addBearer_23 rfl ?_
  refine hm_putI lf_RX3_61 rfl rfl hS (by show a < hm_n σ; omega) dX3_addBearer_24 ?_
  refine hm_aload dX3_addBearer_27 rfl ?_
  refine hm_iload_n dX3_addBearer_29 rfl ?_
  refine hm_putI lf_RX3_87 rfl rfl hS (by show a < hm_n σ; omega) dX3_addBearer_30 ?_
  refine hm_aload dX3_addBearer_33 rfl ?_
  refine hm_iload_n dX3_addBearer_35 rfl ?_
  refine hm_putI lf_RX3_107 rfl rfl hS (by show a < hm_n σ; omega) dX3_addBearer_36 ?_
  refine hm_aload dX3_addBearer_39 rfl ?_
  refine hm_iconst dX3_addBearer_41 (v := 0) (by decide) ?_
  refine hm_putI lf_RX3_70 rfl rfl hS (by show a < hm_n σ; omega) dX3_addBearer_42 ?_
  refine hm_aload dX3_addBearer_45 rfl ?_
  refine hm_iconst dX3_addBearer_47 (v := 0) (by decide) ?_
  refine hm_putZ lf_RX3_73 rfl (by first | exact Or.inl rfl | exact Or.inr rfl | assumption) rfl hS (by show a < hm_n σ; omega) dX3_addBearer_48 ?_
  refine hm_aload_n dX3_addBearer_51 rfl ?_
  refine hm_getR lf_RX3_24 rfl rfl (by first | exact Nat.lt_of_lt_of_le (by decide) hN | assumption | (simp only [hm_n_wI, hm_n_wL, hm_n_wR, hm_n_g] at *; omega)) (hA 8) dX3_addBearer_52 ?_
  refine hm_iload_n dX3_addBearer_55 rfl ?_
  refine hm_dup2 dX3_addBearer_56 rfl rfl ?_
  refine hm_iald _ rfl (by first | exact Nat.lt_of_lt_of_le (by decide) hN | assumption | (simp only [hm_n_wI, hm_n_wL, hm_n_wR, hm_n_g] at *; omega)) rfl (by omega) (by decide) dX3_addBearer_57 ?_
  rw [hm_I_wI, if_neg (by omega), hm_I_wI, if_neg (by omega), hm_I_wI, if_neg (by omega), hm_I_wI, if_neg (by omega), hm_I_wI, if_neg (by omega)]
  refine hm_iconst dX3_addBearer_58 (v := 1) (by decide) ?_
  refine hm_iload_n dX3_addBearer_59 rfl ?_
  refine hm_ishl dX3_addBearer_60 ?_
  refine hm_ior dX3_addBearer_61 ?_
  refine hm_iast _ rfl (by first | exact Nat.lt_of_lt_of_le (by decide) hN | assumption | (simp only [hm_n_wI, hm_n_wL, hm_n_wR, hm_n_g] at *; omega)) rfl (by omega) (by decide) dX3_addBearer_62 ?_
  refine hm_aload_n dX3_addBearer_63 rfl ?_
  refine hm_getR lf_RX3_27 rfl rfl (by first | exact Nat.lt_of_lt_of_le (by decide) hN | assumption | (simp only [hm_n_wI, hm_n_wL, hm_n_wR, hm_n_g] at *; omega)) (hA 9) dX3_addBearer_64 ?_
  refine hm_iload_n dX3_addBearer_67 rfl ?_
  refine hm_dup2 dX3_addBearer_68 rfl rfl ?_
  refine hm_iald _ rfl (by first | exact Nat.lt_of_lt_of_le (by decide) hN | assumption | (simp only [hm_n_wI, hm_n_wL, hm_n_wR, hm_n_g] at *; omega)) rfl (by omega) (by decide) dX3_addBearer_69 ?_
  rw [hm_I_wI, if_neg (by omega), hm_I_wI, if_neg (by omega), hm_I_wI, if_neg (by omega), hm_I_wI, if_neg (by omega), hm_I_wI, if_neg (by omega), hm_I_wI, if_neg (by omega)]
  refine hm_iconst dX3_addBearer_70 (v := 1) (by decide) ?_
  refine hm_iload_n dX3_addBearer_71 rfl ?_
  refine hm_ishl dX3_addBearer_72 ?_
  refine hm_ior dX3_addBearer_73 ?_
  refine hm_iast _ rfl (by first | exact Nat.lt_of_lt_of_le (by decide) hN | assumption | (simp only [hm_n_wI, hm_n_wL, hm_n_wR, hm_n_g] at *; omega)) rfl (by omega) (by decide) dX3_addBearer_74 ?_
  refine hm_aload_n dX3_addBearer_75 rfl ?_
  refine hm_dup dX3_addBearer_76 rfl ?_
  refine hm_getI lf_RX3_58 rfl rfl (by first | exact Nat.lt_of_lt_of_le (by decide) hN | assumption | (simp only [hm_n_wI, hm_n_wL, hm_n_wR, hm_n_g] at *; omega)) dX3_addBearer_77 ?_
  rw [hm_I_wI, if_neg (by omega), hm_I_wI, if_neg (by omega), hm_I_wI, if_neg (by omega), hm_I_wI, if_neg (by omega), hm_I_wI, if_neg (by omega), hm_I_wI, if_neg (by omega), hm_I_wI, if_neg (by omega), hb1]
  refine hm_iconst dX3_addBearer_80 (v := 1) (by decide) ?_
  refine hm_iadd dX3_addBearer_81 ?_
  rw [nI_1]
  refine hm_putI lf_RX3_58 rfl rfl rfl (by first | exact Nat.lt_of_lt_of_le (by decide) hN | assumption | (simp only [hm_n_wI, hm_n_wL, hm_n_wR, hm_n_g] at *; omega)) dX3_addBearer_82 ?_
  change hm_V _ _ _ _ _ _ _ _ _ _ _ _ _ _ _ (cs_nb σ a p c ch (hm_I σ 6 ch ||| (1 : Int32) <<< (nI c &&& 31)) (hm_I σ 7 ch ||| (1 : Int32) <<< (nI p &&& 31)) (nI ((aB α).length + 1)))
  refine hm_aload_n dX3_addBearer_85 rfl ?_
  refine hm_dup dX3_addBearer_86 rfl ?_
  refine hm_getI lf_RX3_110 rfl rfl (by first | exact Nat.lt_of_lt_of_le (by decide) hN | assumption | (simp only [hm_n_wI, hm_n_wL, hm_n_wR, hm_n_g] at *; omega)) dX3_addBearer_87 ?_
  rw [nb_o _ _ _ _ _ _ _ _ _ _ (by omega) (by omega) (by omega) (by omega), e4]
  refine hm_iconst dX3_addBearer_90 (v := 1) (by decide) ?_
  refine hm_iadd dX3_addBearer_91 ?_
  refine hm_putI lf_RX3_110 rfl rfl rfl (by first | exact Nat.lt_of_lt_of_le (by decide) hN | assumption | (simp only [hm_n_wI, hm_n_wL, hm_n_wR, hm_n_g] at *; omega)) dX3_addBearer_92 ?_
  refine hm_vret dX3_addBearer_95 rfl (by decide) (by decide) ?_
  exact hQ _ _ ⟨rfl, hrc.upI 4 0 _ (by show 0 < 6; decide), (((((((((cs_fr.rf σ).wI a 0 _ (by omega)).wI a 1 _ (by omega)).wI a 2 _ (by omega)).wI a 3 _ (by omega)).wI a 4 _ (by omega)).wI 6 ch _ (by omega)).wI 7 ch _ (by omega)).wI 1 2 _ (by omega)).wI 1 3 _ (by omega)⟩
end C4
