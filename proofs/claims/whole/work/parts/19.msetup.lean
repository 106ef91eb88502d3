/-! the reference: setting up -/
theorem b_nf {b : Bool} (h : ¬ b = false) : b = true := by cases b <;> simp_all
theorem oI_eq {o : Option Nat} {c : Nat} (ho : ∀ i, o = some i → i < 2 ^ 31) (hc : c < 2 ^ 31) : nI c = oI o (-1) ↔ o = some c := by
  cases o with
  | none =>
    constructor
    · intro h
      have h2 : nI c = -1 := h
      exact absurd (by rw [h2]; decide) (nI_pos hc)
    · intro h; cases h
  | some i =>
    have hi := ho i rfl
    show nI c = nI i ↔ _
    rw [nI_eq hc hi]
    constructor
    · intro h; rw [h]
    · intro h; cases h; rfl
theorem pOwn_lt {α : sA} (w : sW α) {p i : Nat} (h : pOwn α p = some i) : i < 4 := by
  unfold pOwn at h
  split at h
  · cases hf : pFst α p with
    | none => rw [hf] at h; cases h
    | some x =>
      rw [hf] at h
      cases h
      have := (w.x (pFst_mem hf).1).2.1
      have := w.c4
      omega
  · cases h
/-- a bearer more, in the reference's cells -/
theorem rM.add {α : sA} {σ : hm_M} (h : rM α σ) (hl : (aB α).length < 16) (p c ch : Nat) : rM (pAdd α p c ch) (hm_wI (hm_wI (hm_wI (hm_wI (hm_wI (hm_wI (hm_wI σ 38 (aB α).length (nI p)) 39 (aB α).length (nI c)) 40 (aB α).length (nI ch)) 41 (aB α).length 0) 42 (aB α).length 0) 27 12 (nI (aB α).length + 1)) 27 27 (aI α 4 0 + 1)) := by
  obtain ⟨hb1, hb2⟩ := h.b
  suffices hB : rM (sB α (aB α ++ [(p, c, ch, 0, false)])) (hm_wI (hm_wI (hm_wI (hm_wI (hm_wI (hm_wI σ 38 (aB α).length (nI p)) 39 (aB α).length (nI c)) 40 (aB α).length (nI ch)) 41 (aB α).length 0) 42 (aB α).length 0) 27 12 (nI (aB α).length + 1)) from hB.upI 4 0 (aI α 4 0 + 1) (by decide)
  refine h.newB (fun a k h1 h2 => ?_) rfl rfl rfl ⟨?_, fun j y hj => ?_⟩
  · rw [hm_I_wI, if_neg h2, hm_I_wI, if_neg (by omega), hm_I_wI, if_neg (by omega), hm_I_wI, if_neg (by omega), hm_I_wI, if_neg (by omega), hm_I_wI, if_neg (by omega)]
  · rw [hm_I_wI, if_pos ⟨rfl, rfl⟩, List.length_append]; exact nI_1 _
  · by_cases e : j < (aB α).length
    · rw [List.getElem?_append_left e] at hj
      obtain ⟨e1, e2, e3, e4, e5⟩ := hb2 j y hj
      have e' : ¬ j = (aB α).length := by omega
      refine ⟨?_, ?_, ?_, ?_, ?_⟩ <;> simp [hm_I_wI, e', e1, e2, e3, e4, e5]
    · rw [List.getElem?_append_right (by omega)] at hj
      have hz : j - (aB α).length < 1 := (List.getElem?_eq_some_iff.mp hj).1
      have e' : j = (aB α).length := by omega
      subst e'
      rw [Nat.sub_self] at hj
      cases hj
      refine ⟨?_, ?_, ?_, ?_, ?_⟩ <;> simp [hm_I_wI, bI]
theorem pChan_2 (α : sA) (p c k : Nat) : (pChan α p c k).2 ≤ 4 := (pChan_ok α p c k).1
section M9
variable (l : Launch) {α : sA} {σ : hm_M}
set_option maxRecDepth 100000 in
set_option maxHeartbeats 4000000 in
theorem r5_setUp (h : rM α σ) (w : sW α) {p : Nat} (hp : p < nPort α) : hm_Ct l yX5_setUp cX5_setUp 10 none 3 0 0 [.ref 27, .int (nI p)] σ (fun r τ => r = none ∧ rM (pSetUp α p) τ ∧ md_fr σ τ) := by
  obtain ⟨hN, hM⟩ := h.m
  obtain ⟨hb1, hb2⟩ := h.b
  have h8 := w.p8
  have h4 := w.c4
  have hp8 : p < 8 := by omega
  have hlen := w.len
  have hnb := w.nb p
  have hpl := w.pl p
  have e1 : hm_I σ 33 p = aI α 1 p := h.i 1 p hp8
  have e2 : hm_I σ 27 26 = nI (aN α 6 0) := h.n 6 0 (by decide)
  have e3 : hm_I σ 27 0 = nI (nCell α) := h.n 0 0 (by decide)
  have e4 : hm_I σ 29 p = nI (aN α 3 p) := h.n 3 p hp8
  have e5 : ∀ c, c < 4 → hm_I σ 28 c = nI (aN α 2 c) := fun c hc => h.n 2 c hc
  have e6 : hm_I σ 27 27 = aI α 4 0 := h.i 4 0 (by decide)
  have q0 : nI (pNb α p) = 0 ↔ pNb α p = 0 := nI_0' (by omega)
  refine hm_startQ (ini := false) [.ref 27, .int (nI p), hm_u, hm_u, hm_u, hm_u, hm_u, hm_u, hm_u, hm_u] (by decide) (by decide) rfl (Nat.le_of_ble_eq_true rfl) (fun Q hQ => ?_)
  -- the channel
  have j194 : pWants α p = true → pDue α p = true → ∀ c, pBest α p = some c → ∀ (k ch : Nat) (v6 v7 v8 y2 y3 y4 : Int32) (y9 : Value), ch + k = 120 → v6 = oI (pChan α p c ch).1 (-1) → v7 = nI (pChan α p c ch).2 → v8 = nI ch → hm_V l RX5 cX5_setUp 10 none false (hm_rm 3 0 0) 0 0 Q 0 0 194 [.ref 27, .int (nI p), .int y2, .int y3, .int y4, .int (nI c), .int v6, .int v7, .int v8, y9] [] σ := by
    intro hw hdue c hc k
    have hc4 : c < 4 := by have := pBest_lt w hc; omega
    induction k with
    | zero =>
      intro ch v6 v7 v8 y2 y3 y4 y9 hk hv6 hv7 hv8
      have h120 : ch = 120 := by omega
      subst hv6
      subst hv7
      subst hv8
      have hok := (pChan_ok α p c ch).2
      have hpc : pCh α p c = (pChan α p c ch).1 := by rw [h120]; rfl
      cases hch : (pChan α p c ch).1 with
      | none =>
        refine hm_iload dX5_setUp_194 rfl ?_
        refine hm_bipush dX5_setUp_196 (v := 120) (by decide) ?_
        refine hm_icmp_ge 269 dX5_setUp_198 (by decide) (fun _ => ?_) (fun h198 => absurd (nI_le (a := 120) (by omega) (by omega)) h198)
        refine hm_iload dX5_setUp_269 rfl ?_
        refine hm_if_lt 346 dX5_setUp_271 (by decide) (fun _ => ?_) (fun h271 => absurd (by show (-1 : Int32) < 0; decide) h271)
        refine hm_vret dX5_setUp_346 rfl (by decide) (by decide) ?_
        exact hQ _ _ ⟨rfl, by unfold pSetUp; rw [hw, hdue, hc]; simp only [Bool.and_self, if_true, hpc, hch]; exact h, md_fr.rf σ⟩
      | some c9 =>
        have hch2 := (hok c9 hch).1
        have hadd : pSetUp α p = pAdd α p c c9 := by unfold pSetUp; rw [hw, hdue, hc]; simp only [Bool.and_self, if_true, hpc, hch]
        have hl16 : (aB α).length < 16 := by
          have := (w.setUp hp).len
          rw [hadd] at this
          have e : (aB (pAdd α p c c9)).length = (aB α).length + 1 := by show (aB α ++ [_]).length = _; rw [List.length_append]; rfl
          omega
        refine hm_iload dX5_setUp_194 rfl ?_
        refine hm_bipush dX5_setUp_196 (v := 120) (by decide) ?_
        refine hm_icmp_ge 269 dX5_setUp_198 (by decide) (fun _ => ?_) (fun h198 => absurd (nI_le (a := 120) (by omega) (by omega)) h198)
        refine hm_iload dX5_setUp_269 rfl ?_
        refine hm_if_lt 346 dX5_setUp_271 (by decide) (fun h271 => absurd h271 (nI_pos (n := c9) (by omega))) (fun _ => ?_)
        refine hm_aload_n dX5_setUp_274 rfl ?_
        refine hm_getR lf_RX5_42 rfl rfl (by first | exact Nat.lt_of_lt_of_le (by decide) hN | assumption | (simp only [hm_n_wI, hm_n_wL, hm_n_wR, hm_n_g] at *; omega)) (hM 13) dX5_setUp_275 ?_
        refine hm_aload_n dX5_setUp_278 rfl ?_
        refine hm_getI lf_RX5_109 rfl rfl (by first | exact Nat.lt_of_lt_of_le (by decide) hN | assumption | (simp only [hm_n_wI, hm_n_wL, hm_n_wR, hm_n_g] at *; omega)) dX5_setUp_279 ?_
        simp only [hm_I_wI, hb1, Nat.reduceEqDiff, false_and, reduceIte]
        refine hm_iload_n dX5_setUp_282 rfl ?_
        refine hm_iast _ rfl (by first | exact Nat.lt_of_lt_of_le (by decide) hN | assumption | (simp only [hm_n_wI, hm_n_wL, hm_n_wR, hm_n_g] at *; omega)) rfl (by omega) (by decide) dX5_setUp_283 ?_
        refine hm_aload_n dX5_setUp_284 rfl ?_
        refine hm_getR lf_RX5_45 rfl rfl (by first | exact Nat.lt_of_lt_of_le (by decide) hN | assumption | (simp only [hm_n_wI, hm_n_wL, hm_n_wR, hm_n_g] at *; omega)) (hM 14) dX5_setUp_285 ?_
        refine hm_aload_n dX5_setUp_288 rfl ?_
        refine hm_getI lf_RX5_109 rfl rfl (by first | exact Nat.lt_of_lt_of_le (by decide) hN | assumption | (simp only [hm_n_wI, hm_n_wL, hm_n_wR, hm_n_g] at *; omega)) dX5_setUp_289 ?_
        simp only [hm_I_wI, hb1, Nat.reduceEqDiff, false_and, reduceIte]
        refine hm_iload dX5_setUp_292 rfl ?_
        refine hm_iast _ rfl (by first | exact Nat.lt_of_lt_of_le (by decide) hN | assumption | (simp only [hm_n_wI, hm_n_wL, hm_n_wR, hm_n_g] at *; omega)) rfl (by omega) (by decide) dX5_setUp_294 ?_
        refine hm_aload_n dX5_setUp_295 rfl ?_
        refine hm_getR lf_RX5_48 rfl rfl (by first | exact Nat.lt_of_lt_of_le (by decide) hN | assumption | (simp only [hm_n_wI, hm_n_wL, hm_n_wR, hm_n_g] at *; omega)) (hM 15) dX5_setUp_296 ?_
        refine hm_aload_n dX5_setUp_299 rfl ?_
        refine hm_getI lf_RX5_109 rfl rfl (by first | exact Nat.lt_of_lt_of_le (by decide) hN | assumption | (simp only [hm_n_wI, hm_n_wL, hm_n_wR, hm_n_g] at *; omega)) dX5_setUp_300 ?_
        simp only [hm_I_wI, hb1, Nat.reduceEqDiff, false_and, reduceIte]
        refine hm_iload dX5_setUp_303 rfl ?_
        refine hm_iast _ rfl (by first | exact Nat.lt_of_lt_of_le (by decide) hN | assumption | (simp only [hm_n_wI, hm_n_wL, hm_n_wR, hm_n_g] at *; omega)) rfl (by omega) (by decide) dX5_setUp_305 ?_
        refine hm_aload_n dX5_setUp_306 rfl ?_
        refine hm_getR lf_RX5_51 rfl rfl (by first | exact Nat.lt_of_lt_of_le (by decide) hN | assumption | (simp only [hm_n_wI, hm_n_wL, hm_n_wR, hm_n_g] at *; omega)) (hM 16) dX5_setUp_307 ?_
        refine hm_aload_n dX5_setUp_310 rfl ?_
        refine hm_getI lf_RX5_109 rfl rfl (by first | exact Nat.lt_of_lt_of_le (by decide) hN | assumption | (simp only [hm_n_wI, hm_n_wL, hm_n_wR, hm_n_g] at *; omega)) dX5_setUp_311 ?_
        simp only [hm_I_wI, hb1, Nat.reduceEqDiff, false_and, reduceIte]
        refine hm_iconst dX5_setUp_314 (v := 0) (by decide) ?_
        refine hm_iast _ rfl (by first | exact Nat.lt_of_lt_of_le (by decide) hN | assumption | (simp only [hm_n_wI, hm_n_wL, hm_n_wR, hm_n_g] at *; omega)) rfl (by omega) (by decide) dX5_setUp_315 ?_
        refine hm_aload_n dX5_setUp_316 rfl ?_
        refine hm_getR lf_RX5_54 rfl rfl (by first | exact Nat.lt_of_lt_of_le (by decide) hN | assumption | (simp only [hm_n_wI, hm_n_wL, hm_n_wR, hm_n_g] at *; omega)) (hM 17) dX5_setUp_317 ?_
        refine hm_aload_n dX5_setUp_320 rfl ?_
        refine hm_getI lf_RX5_109 rfl rfl (by first | exact Nat.lt_of_lt_of_le (by decide) hN | assumption | (simp only [hm_n_wI, hm_n_wL, hm_n_wR, hm_n_g] at *; omega)) dX5_setUp_321 ?_
        simp only [hm_I_wI, hb1, Nat.reduceEqDiff, false_and, reduceIte]
        refine hm_iconst dX5_setUp_324 (v := 0) (by decide) ?_
        refine hm_zast _ (by first | exact Or.inl rfl | exact Or.inr rfl | assumption) rfl (by first | exact Nat.lt_of_lt_of_le (by decide) hN | assumption | (simp only [hm_n_wI, hm_n_wL, hm_n_wR, hm_n_g] at *; omega)) rfl (by omega) (by decide) dX5_setUp_325 ?_
        refine hm_aload_n dX5_setUp_326 rfl ?_
        refine hm_dup dX5_setUp_327 rfl ?_
        refine hm_getI lf_RX5_109 rfl rfl (by first | exact Nat.lt_of_lt_of_le (by decide) hN | assumption | (simp only [hm_n_wI, hm_n_wL, hm_n_wR, hm_n_g] at *; omega)) dX5_setUp_328 ?_
        simp only [hm_I_wI, hb1, Nat.reduceEqDiff, false_and, reduceIte]
        refine hm_iconst dX5_setUp_331 (v := 1) (by decide) ?_
        refine hm_iadd dX5_setUp_332 ?_
        refine hm_putI lf_RX5_109 rfl rfl rfl (by first | exact Nat.lt_of_lt_of_le (by decide) hN | assumption | (simp only [hm_n_wI, hm_n_wL, hm_n_wR, hm_n_g] at *; omega)) dX5_setUp_333 ?_
        refine hm_aload_n dX5_setUp_336 rfl ?_
        refine hm_dup dX5_setUp_337 rfl ?_
        refine hm_getI lf_RX5_163 rfl rfl (by first | exact Nat.lt_of_lt_of_le (by decide) hN | assumption | (simp only [hm_n_wI, hm_n_wL, hm_n_wR, hm_n_g] at *; omega)) dX5_setUp_338 ?_
        simp only [hm_I_wI, e6, Nat.reduceEqDiff, false_and, and_false, reduceIte]
        refine hm_iconst dX5_setUp_341 (v := 1) (by decide) ?_
        refine hm_iadd dX5_setUp_342 ?_
        refine hm_putI lf_RX5_163 rfl rfl rfl (by first | exact Nat.lt_of_lt_of_le (by decide) hN | assumption | (simp only [hm_n_wI, hm_n_wL, hm_n_wR, hm_n_g] at *; omega)) dX5_setUp_343 ?_
        refine hm_vret dX5_setUp_346 rfl (by decide) (by decide) ?_
        exact hQ _ _ ⟨rfl, by rw [hadd]; exact h.add hl16 p c c9, (((((((md_fr.rf σ).wI 38 _ _ (by decide)).wI 39 _ _ (by decide)).wI 40 _ _ (by decide)).wI 41 _ _ (by decide)).wI 42 _ _ (by decide)).wI 27 _ _ (by decide)).wI 27 _ _ (by decide)⟩
    | succ k ih =>
      intro ch v6 v7 v8 y2 y3 y4 y9 hk hv6 hv7 hv8
      subst hv8
      have hm4 := pChan_2 α p c ch
      have hstep : ∀ (lv : Int32) , lv = nI (pLv α p c ch) → hm_V l RX5 cX5_setUp 10 none false (hm_rm 3 0 0) 0 0 Q 0 0 229 [.ref 27, .int (nI p), .int y2, .int y3, .int y4, .int (nI c), .int v6, .int v7, .int (nI ch), y9] [.int lv] σ := by
        intro lv hlv
        have hlb : pLv α p c ch ≤ 20 := by
          unfold pLv
          split
          · omega
          · have := pOSend_le w c (aN α 3 p) ch
            have := pOTalk_le w p c ch
            unfold pLev
            split <;> split <;> omega
        subst hlv hv6 hv7
        have q1 : nI (pChan α p c ch).2 ≤ nI (pLv α p c ch) ↔ (pChan α p c ch).2 ≤ pLv α p c ch := nI_leI (by omega) (by omega)
        have e120 : pChan α p c (ch + 1) = if pLv α p c ch < (pChan α p c ch).2 then (some ch, pLv α p c ch) else pChan α p c ch := rfl
        by_cases hlt : pLv α p c ch < (pChan α p c ch).2
        · rw [if_pos hlt] at e120
          have hge : ¬ nI (pChan α p c ch).2 ≤ nI (pLv α p c ch) := by rw [q1]; omega
          refine hm_istore dX5_setUp_229 (by decide) rfl ?_
          refine hm_iload dX5_setUp_231 rfl ?_
          refine hm_iload dX5_setUp_233 rfl ?_
          refine hm_icmp_ge 243 dX5_setUp_235 (by decide) (fun h235 => absurd h235 (hge)) (fun _ => ?_)
          refine hm_iload dX5_setUp_238 rfl ?_
          refine hm_goto 245 dX5_setUp_240 (by decide) ?_
          refine hm_istore dX5_setUp_245 (by decide) rfl ?_
          refine hm_iload dX5_setUp_247 rfl ?_
          refine hm_iload dX5_setUp_249 rfl ?_
          refine hm_icmp_ge 259 dX5_setUp_251 (by decide) (fun h251 => absurd h251 (hge)) (fun _ => ?_)
          refine hm_iload dX5_setUp_254 rfl ?_
          refine hm_goto 261 dX5_setUp_256 (by decide) ?_
          refine hm_istore dX5_setUp_261 (by decide) rfl ?_
          refine hm_iinc dX5_setUp_263 rfl _ rfl (by decide) rfl ?_
          refine hm_goto 194 dX5_setUp_266 (by decide) ?_
          exact ih (ch + 1) _ _ _ _ _ _ _ (by omega) (by rw [e120]; rfl) (by rw [e120]) (hm_inc ch)
        · rw [if_neg hlt] at e120
          have hge : nI (pChan α p c ch).2 ≤ nI (pLv α p c ch) := by rw [q1]; omega
          refine hm_istore dX5_setUp_229 (by decide) rfl ?_
          refine hm_iload dX5_setUp_231 rfl ?_
          refine hm_iload dX5_setUp_233 rfl ?_
          refine hm_icmp_ge 243 dX5_setUp_235 (by decide) (fun _ => ?_) (fun h235 => absurd (hge) h235)
          refine hm_iload dX5_setUp_243 rfl ?_
          refine hm_istore dX5_setUp_245 (by decide) rfl ?_
          refine hm_iload dX5_setUp_247 rfl ?_
          refine hm_iload dX5_setUp_249 rfl ?_
          refine hm_icmp_ge 259 dX5_setUp_251 (by decide) (fun _ => ?_) (fun h251 => absurd (hge) h251)
          refine hm_iload dX5_setUp_259 rfl ?_
          refine hm_istore dX5_setUp_261 (by decide) rfl ?_
          refine hm_iinc dX5_setUp_263 rfl _ rfl (by decide) rfl ?_
          refine hm_goto 194 dX5_setUp_266 (by decide) ?_
          exact ih (ch + 1) _ _ _ _ _ _ _ (by omega) (by rw [e120]) (by rw [e120]) (hm_inc ch)
      refine hm_iload dX5_setUp_194 rfl ?_
      refine hm_bipush dX5_setUp_196 (v := 120) (by decide) ?_
      refine hm_icmp_ge 269 dX5_setUp_198 (by decide) (fun h198 => absurd h198 ((nI_ge (b := 120) (by omega) (by decide)))) (fun _ => ?_)
      refine hm_aload_n dX5_setUp_201 rfl ?_
      refine hm_iload_n dX5_setUp_202 rfl ?_
      refine hm_iload dX5_setUp_203 rfl ?_
      refine hm_iload dX5_setUp_205 rfl ?_
      refine hm_bipush dX5_setUp_207 (v := 10) (by decide) ?_
      refine hm_idiv dX5_setUp_209 (by decide) ?_
      rw [div10 (by omega)]
      refine hm_callV lm_RX5_160 (r5_isSlotTaken l h w hp8 hc4 (by omega)) rfl rfl rfl rfl (by first | exact Nat.lt_of_lt_of_le (by decide) hN | assumption | (simp only [hm_n_wI, hm_n_wL, hm_n_wR, hm_n_g] at *; omega)) (by decide) (by decide) (Nat.le_of_ble_eq_true rfl) dX5_setUp_210 ?_
      rintro _ _ ⟨rfl, rfl⟩
      refine hm_if_eq 220 dX5_setUp_213 (by decide) (fun h213 => ?_) (fun h213 => ?_)
      · skip
        rw [bI_0] at h213
        refine hm_aload_n dX5_setUp_220 rfl ?_
        refine hm_iload_n dX5_setUp_221 rfl ?_
        refine hm_iload dX5_setUp_222 rfl ?_
        refine hm_iload dX5_setUp_224 rfl ?_
        refine hm_callV lm_RX5_145 (r5_levelOf l h w hp8 hc4 (by omega)) rfl rfl rfl rfl (by first | exact Nat.lt_of_lt_of_le (by decide) hN | assumption | (simp only [hm_n_wI, hm_n_wL, hm_n_wR, hm_n_g] at *; omega)) (by decide) (by decide) (Nat.le_of_ble_eq_true rfl) dX5_setUp_226 ?_
        rintro _ _ ⟨rfl, rfl⟩
        exact hstep _ (by unfold pLv; simp [h213]; try rfl)
      · skip
        rw [bI_0] at h213
        refine hm_iconst dX5_setUp_216 (v := 4) (by decide) ?_
        refine hm_goto 229 dX5_setUp_217 (by decide) ?_
        exact hstep _ (by unfold pLv; simp [h213]; try rfl)
  have j179 : pWants α p = true → pDue α p = true → ∀ (v5 y2 y3 y4 : Int32) (y6 y7 y8 y9 : Value), v5 = oI (pBest α p) (-1) → y6.category = 1 → y7.category = 1 → hm_V l RX5 cX5_setUp 10 none false (hm_rm 3 0 0) 0 0 Q 0 0 179 [.ref 27, .int (nI p), .int y2, .int y3, .int y4, .int v5, y6, y7, y8, y9] [] σ := by
    intro hw hdue v5 y2 y3 y4 y6 y7 y8 y9 hv5 hy6 hy7
    subst hv5
    have hpv6 : ∀ v : Value, v.category = 1 → (v.category != 2) = true := fun v hv => by rw [hv]; rfl
    cases hc : pBest α p with
    | none =>
      refine hm_iload dX5_setUp_179 rfl ?_
      refine hm_if_ge 185 dX5_setUp_181 (by decide) (fun h181 => absurd h181 (by show ¬ (0 : Int32) ≤ -1; decide)) (fun _ => ?_)
      refine hm_vret dX5_setUp_184 rfl (by decide) (by decide) ?_
      exact hQ _ _ ⟨rfl, by unfold pSetUp; rw [hw, hdue, hc]; exact h, md_fr.rf σ⟩
    | some c =>
      have hc4 : c < 4 := by have := pBest_lt w hc; omega
      refine hm_iload dX5_setUp_179 rfl ?_
      refine hm_if_ge 185 dX5_setUp_181 (by decide) (fun _ => ?_) (fun h181 => absurd (nI_pos' (by omega)) h181)
      refine hm_iconst dX5_setUp_185 (v := -1) (by decide) ?_
      refine hm_istore dX5_setUp_186 (by decide) rfl ?_
      refine hm_iconst dX5_setUp_188 (v := 4) (by decide) ?_
      refine hm_istore dX5_setUp_189 (by decide) rfl ?_
      refine hm_iconst dX5_setUp_191 (v := 0) (by decide) ?_
      refine hm_istore dX5_setUp_192 (by decide) rfl ?_
      exact j194 hw hdue c hc 120 0 _ _ _ _ _ _ _ rfl rfl rfl rfl
  have j86 : pWants α p = true → pDue α p = true → ∀ (k c : Nat) (v5 v6 y2 y3 : Int32), c + k = nCell α → y2 = bI (pHo α p) → v5 = oI (pFind (fun c => decide (pOwn α p ≠ some c) && pHAt α (aN α 3 p) c (aN α 2 c)) c) (-1) → v6 = nI c → hm_V l RX5 cX5_setUp 10 none false (hm_rm 3 0 0) 0 0 Q 0 0 86 [.ref 27, .int (nI p), .int y2, .int y3, .int (oI (pOwn α p) (-1)), .int v5, .int v6, hm_u, hm_u, hm_u] [] σ := by
    intro hw hdue k
    induction k with
    | zero =>
      intro c v5 v6 y2 y3 hk hy2 hv5 hv6
      subst hv6 hv5 hy2
      obtain rfl : c = nCell α := by omega
      have hB : pBest α p = match pFind (fun c => decide (pOwn α p ≠ some c) && pHAt α (aN α 3 p) c (aN α 2 c)) (nCell α) with
          | some c => some c
          | none => match pOwn α p with
            | some c => if pHAt α (aN α 3 p) c (aN α 2 c) then some c else none
            | none => none := rfl
      cases hf : pFind (fun c => decide (pOwn α p ≠ some c) && pHAt α (aN α 3 p) c (aN α 2 c)) (nCell α) with
      | some b =>
        have hb := (pFind_ok _ _ _ hf).1
        rw [hf] at hB
        refine hm_iload dX5_setUp_86 rfl ?_
        refine hm_aload_n dX5_setUp_88 rfl ?_
        refine hm_getI lf_RX5_84 rfl rfl (by first | exact Nat.lt_of_lt_of_le (by decide) hN | assumption | (simp only [hm_n_wI, hm_n_wL, hm_n_wR, hm_n_g] at *; omega)) dX5_setUp_89 ?_
        rw [e3]
        refine hm_icmp_ge 144 dX5_setUp_92 (by decide) (fun _ => ?_) (fun h92 => absurd (nI_le (Nat.le_refl _) (by omega)) h92)
        refine hm_iload dX5_setUp_144 rfl ?_
        refine hm_if_ge 179 dX5_setUp_146 (by decide) (fun _ => ?_) (fun h146 => absurd (nI_pos' (by omega)) h146)
        exact j179 hw hdue _ _ _ _ _ _ _ _ (by rw [hB]) rfl rfl
      | none =>
        rw [hf] at hB
        cases ho : pHo α p with
        | false =>
          have hown : pOwn α p = none := by unfold pOwn; rw [ho]; rfl
          rw [hown] at hB
          refine hm_iload dX5_setUp_86 rfl ?_
          refine hm_aload_n dX5_setUp_88 rfl ?_
          refine hm_getI lf_RX5_84 rfl rfl (by first | exact Nat.lt_of_lt_of_le (by decide) hN | assumption | (simp only [hm_n_wI, hm_n_wL, hm_n_wR, hm_n_g] at *; omega)) dX5_setUp_89 ?_
          rw [e3]
          refine hm_icmp_ge 144 dX5_setUp_92 (by decide) (fun _ => ?_) (fun h92 => absurd (nI_le (Nat.le_refl _) (by omega)) h92)
          refine hm_iload dX5_setUp_144 rfl ?_
          refine hm_if_ge 179 dX5_setUp_146 (by decide) (fun h146 => absurd h146 (by show ¬ (0 : Int32) ≤ -1; decide)) (fun _ => ?_)
          refine hm_iload_n dX5_setUp_149 rfl ?_
          refine hm_if_eq 179 dX5_setUp_150 (by decide) (fun _ => ?_) (fun h150 => absurd (rfl) h150)
          exact j179 hw hdue _ _ _ _ _ _ _ _ (by rw [hB]) rfl rfl
        | true =>
          rcases fi_cases (fun x => decide (bOf x = p)) (aB α) with ⟨-, -, c0⟩ | ⟨i, x, c1, c2, c3, c4, c5, c6, c7⟩
          · exfalso
            have c0' : pNb α p = 0 := c0
            unfold pHo at ho
            rw [c0'] at ho
            simp at ho
          · have hown : pOwn α p = some (bAt x) := by
              have d2 : pFst α p = some x := c4
              unfold pOwn; rw [ho, d2]; rfl
            have hx4 := (w.xb c2).2.1
            rw [hown] at hB ⊢
            refine hm_iload dX5_setUp_86 rfl ?_
            refine hm_aload_n dX5_setUp_88 rfl ?_
            refine hm_getI lf_RX5_84 rfl rfl (by first | exact Nat.lt_of_lt_of_le (by decide) hN | assumption | (simp only [hm_n_wI, hm_n_wL, hm_n_wR, hm_n_g] at *; omega)) dX5_setUp_89 ?_
            rw [e3]
            refine hm_icmp_ge 144 dX5_setUp_92 (by decide) (fun _ => ?_) (fun h92 => absurd (nI_le (Nat.le_refl _) (by omega)) h92)
            refine hm_iload dX5_setUp_144 rfl ?_
            refine hm_if_ge 179 dX5_setUp_146 (by decide) (fun h146 => absurd h146 (by show ¬ (0 : Int32) ≤ -1; decide)) (fun _ => ?_)
            refine hm_iload_n dX5_setUp_149 rfl ?_
            refine hm_if_eq 179 dX5_setUp_150 (by decide) (fun h150 => absurd h150 (by decide)) (fun _ => ?_)
            refine hm_aload_n dX5_setUp_153 rfl ?_
            refine hm_aload_n dX5_setUp_154 rfl ?_
            refine hm_getR lf_RX5_13 rfl rfl (by first | exact Nat.lt_of_lt_of_le (by decide) hN | assumption | (simp only [hm_n_wI, hm_n_wL, hm_n_wR, hm_n_g] at *; omega)) (hM 3) dX5_setUp_155 ?_
            refine hm_iload_n dX5_setUp_158 rfl ?_
            refine hm_iald _ rfl (by first | exact Nat.lt_of_lt_of_le (by decide) hN | assumption | (simp only [hm_n_wI, hm_n_wL, hm_n_wR, hm_n_g] at *; omega)) rfl (by omega) (by decide) dX5_setUp_159 ?_
            rw [e4]
            refine hm_iload dX5_setUp_160 rfl ?_
            refine hm_aload_n dX5_setUp_162 rfl ?_
            refine hm_getR lf_RX5_7 rfl rfl (by first | exact Nat.lt_of_lt_of_le (by decide) hN | assumption | (simp only [hm_n_wI, hm_n_wL, hm_n_wR, hm_n_g] at *; omega)) (hM 1) dX5_setUp_163 ?_
            refine hm_iload dX5_setUp_166 rfl ?_
            refine hm_iald (bAt x) rfl (by first | exact Nat.lt_of_lt_of_le (by decide) hN | assumption | (simp only [hm_n_wI, hm_n_wL, hm_n_wR, hm_n_g] at *; omega)) rfl (by omega) (by decide) dX5_setUp_168 ?_
            rw [e5 _ hx4]
            refine hm_callV lm_RX5_148 (r5_isHeardAt l h w hpl hx4 (w.bc _)) rfl rfl rfl rfl (by first | exact Nat.lt_of_lt_of_le (by decide) hN | assumption | (simp only [hm_n_wI, hm_n_wL, hm_n_wR, hm_n_g] at *; omega)) (by decide) (by decide) (Nat.le_of_ble_eq_true rfl) dX5_setUp_169 ?_
            rintro _ _ ⟨rfl, rfl⟩
            refine hm_if_eq 179 dX5_setUp_172 (by decide) (fun h172 => ?_) (fun h172 => ?_)
            · skip
              rw [bI_0] at h172
              exact j179 hw hdue _ _ _ _ _ _ _ _ (by rw [hB]; simp [h172]; try rfl) rfl rfl
            · skip
              rw [bI_0] at h172
              refine hm_iload dX5_setUp_175 rfl ?_
              refine hm_istore dX5_setUp_177 (by decide) rfl ?_
              exact j179 hw hdue _ _ _ _ _ _ _ _ (by rw [hB]; simp [h172]; try rfl) rfl rfl
    | succ k ih =>
      intro c v5 v6 y2 y3 hk hy2 hv5 hv6
      subst hv6 hv5
      have hc4 : c < 4 := by omega
      have q3 : nI c = oI (pOwn α p) (-1) ↔ pOwn α p = some c := oI_eq (fun i hi => by have := pOwn_lt w hi; omega) (by omega)
      have ih2 := ih (c + 1)
      have hfe : pFind (fun c => decide (pOwn α p ≠ some c) && pHAt α (aN α 3 p) c (aN α 2 c)) (c + 1) = match pFind (fun c => decide (pOwn α p ≠ some c) && pHAt α (aN α 3 p) c (aN α 2 c)) c with
          | some b => some b
          | none => if decide (pOwn α p ≠ some c) && pHAt α (aN α 3 p) c (aN α 2 c) then some c else none := rfl
      cases hf : pFind (fun c => decide (pOwn α p ≠ some c) && pHAt α (aN α 3 p) c (aN α 2 c)) c with
      | some b =>
        have hb := (pFind_ok _ _ _ hf).1
        rw [hf] at hfe
        refine hm_iload dX5_setUp_86 rfl ?_
        refine hm_aload_n dX5_setUp_88 rfl ?_
        refine hm_getI lf_RX5_84 rfl rfl (by first | exact Nat.lt_of_lt_of_le (by decide) hN | assumption | (simp only [hm_n_wI, hm_n_wL, hm_n_wR, hm_n_g] at *; omega)) dX5_setUp_89 ?_
        rw [e3]
        refine hm_icmp_ge 144 dX5_setUp_92 (by decide) (fun h92 => absurd h92 (nI_ge (by omega) (by omega))) (fun _ => ?_)
        refine hm_iload dX5_setUp_95 rfl ?_
        refine hm_if_ge 134 dX5_setUp_97 (by decide) (fun _ => ?_) (fun h97 => absurd (nI_pos' (by omega)) h97)
        refine hm_iload dX5_setUp_134 rfl ?_
        refine hm_istore dX5_setUp_136 (by decide) rfl ?_
        refine hm_iinc dX5_setUp_138 rfl _ rfl (by decide) rfl ?_
        refine hm_goto 86 dX5_setUp_141 (by decide) ?_
        exact ih2 _ _ _ _ (by omega) hy2 (by rw [hfe]) (hm_inc c)
      | none =>
        rw [hf] at hfe
        refine hm_iload dX5_setUp_86 rfl ?_
        refine hm_aload_n dX5_setUp_88 rfl ?_
        refine hm_getI lf_RX5_84 rfl rfl (by first | exact Nat.lt_of_lt_of_le (by decide) hN | assumption | (simp only [hm_n_wI, hm_n_wL, hm_n_wR, hm_n_g] at *; omega)) dX5_setUp_89 ?_
        rw [e3]
        refine hm_icmp_ge 144 dX5_setUp_92 (by decide) (fun h92 => absurd h92 (nI_ge (by omega) (by omega))) (fun _ => ?_)
        refine hm_iload dX5_setUp_95 rfl ?_
        refine hm_if_ge 134 dX5_setUp_97 (by decide) (fun h97 => absurd h97 (by show ¬ (0 : Int32) ≤ -1; decide)) (fun _ => ?_)
        refine hm_iload dX5_setUp_100 rfl ?_
        refine hm_iload dX5_setUp_102 rfl ?_
        refine hm_icmp_eq 134 dX5_setUp_104 (by decide) (fun h104 => ?_) (fun h104 => ?_)
        · skip
          rw [q3] at h104
          refine hm_iload dX5_setUp_134 rfl ?_
          refine hm_istore dX5_setUp_136 (by decide) rfl ?_
          refine hm_iinc dX5_setUp_138 rfl _ rfl (by decide) rfl ?_
          refine hm_goto 86 dX5_setUp_141 (by decide) ?_
          exact ih2 _ _ _ _ (by omega) hy2 (by rw [hfe]; simp [*]; try rfl) (hm_inc c)
        · skip
          rw [q3] at h104
          refine hm_aload_n dX5_setUp_107 rfl ?_
          refine hm_aload_n dX5_setUp_108 rfl ?_
          refine hm_getR lf_RX5_13 rfl rfl (by first | exact Nat.lt_of_lt_of_le (by decide) hN | assumption | (simp only [hm_n_wI, hm_n_wL, hm_n_wR, hm_n_g] at *; omega)) (hM 3) dX5_setUp_109 ?_
          refine hm_iload_n dX5_setUp_112 rfl ?_
          refine hm_iald _ rfl (by first | exact Nat.lt_of_lt_of_le (by decide) hN | assumption | (simp only [hm_n_wI, hm_n_wL, hm_n_wR, hm_n_g] at *; omega)) rfl (by omega) (by decide) dX5_setUp_113 ?_
          rw [e4]
          refine hm_iload dX5_setUp_114 rfl ?_
          refine hm_aload_n dX5_setUp_116 rfl ?_
          refine hm_getR lf_RX5_7 rfl rfl (by first | exact Nat.lt_of_lt_of_le (by decide) hN | assumption | (simp only [hm_n_wI, hm_n_wL, hm_n_wR, hm_n_g] at *; omega)) (hM 1) dX5_setUp_117 ?_
          refine hm_iload dX5_setUp_120 rfl ?_
          refine hm_iald _ rfl (by first | exact Nat.lt_of_lt_of_le (by decide) hN | assumption | (simp only [hm_n_wI, hm_n_wL, hm_n_wR, hm_n_g] at *; omega)) rfl (by omega) (by decide) dX5_setUp_122 ?_
          rw [e5 _ hc4]
          refine hm_callV lm_RX5_148 (r5_isHeardAt l h w hpl hc4 (w.bc _)) rfl rfl rfl rfl (by first | exact Nat.lt_of_lt_of_le (by decide) hN | assumption | (simp only [hm_n_wI, hm_n_wL, hm_n_wR, hm_n_g] at *; omega)) (by decide) (by decide) (Nat.le_of_ble_eq_true rfl) dX5_setUp_123 ?_
          rintro _ _ ⟨rfl, rfl⟩
          refine hm_if_eq 134 dX5_setUp_126 (by decide) (fun h126 => ?_) (fun h126 => ?_)
          · skip
            rw [bI_0] at h126
            refine hm_iload dX5_setUp_134 rfl ?_
            refine hm_istore dX5_setUp_136 (by decide) rfl ?_
            refine hm_iinc dX5_setUp_138 rfl _ rfl (by decide) rfl ?_
            refine hm_goto 86 dX5_setUp_141 (by decide) ?_
            exact ih2 _ _ _ _ (by omega) hy2 (by rw [hfe]; simp [*]; try rfl) (hm_inc c)
          · skip
            rw [bI_0] at h126
            refine hm_iload dX5_setUp_129 rfl ?_
            refine hm_goto 136 dX5_setUp_131 (by decide) ?_
            refine hm_istore dX5_setUp_136 (by decide) rfl ?_
            refine hm_iinc dX5_setUp_138 rfl _ rfl (by decide) rfl ?_
            refine hm_goto 86 dX5_setUp_141 (by decide) ?_
            exact ih2 _ _ _ _ (by omega) hy2 (by rw [hfe]; simp [*]; try rfl) (hm_inc c)
  have j48 : pWants α p = true → ∀ (y2 y3 : Int32), y2 = bI (pHo α p) → hm_V l RX5 cX5_setUp 10 none false (hm_rm 3 0 0) 0 0 Q 0 0 48 [.ref 27, .int (nI p), .int y2, .int y3, hm_u, hm_u, hm_u, hm_u, hm_u, hm_u] [] σ := by
    intro hw y2 y3 hy2
    have hno : pDue α p = false → rM (pSetUp α p) σ := fun hd => by unfold pSetUp; rw [hw, hd]; exact h
    subst hy2
    cases ho : pHo α p with
    | false =>
      have hown : pOwn α p = none := by unfold pOwn; rw [ho]; rfl
      rw [hown, ho] at j86
      refine hm_aload_n dX5_setUp_48 rfl ?_
      refine hm_getI lf_RX5_103 rfl rfl (by first | exact Nat.lt_of_lt_of_le (by decide) hN | assumption | (simp only [hm_n_wI, hm_n_wL, hm_n_wR, hm_n_g] at *; omega)) dX5_setUp_49 ?_
      rw [e2]
      refine hm_iload_n dX5_setUp_52 rfl ?_
      refine hm_isub dX5_setUp_53 ?_
      refine hm_iconst dX5_setUp_54 (v := 4) (by decide) ?_
      refine hm_irem dX5_setUp_55 (by decide) ?_
      refine hm_if_eq 60 dX5_setUp_56 (by decide) (fun h56 => ?_) (fun h56 => ?_)
      · skip
        refine hm_iload_n dX5_setUp_60 rfl ?_
        refine hm_if_eq 77 dX5_setUp_61 (by decide) (fun _ => ?_) (fun h61 => absurd (rfl) h61)
        refine hm_iconst dX5_setUp_77 (v := -1) (by decide) ?_
        refine hm_istore dX5_setUp_78 (by decide) rfl ?_
        refine hm_iconst dX5_setUp_80 (v := -1) (by decide) ?_
        refine hm_istore dX5_setUp_81 (by decide) rfl ?_
        refine hm_iconst dX5_setUp_83 (v := 0) (by decide) ?_
        refine hm_istore dX5_setUp_84 (by decide) rfl ?_
        exact j86 hw (by unfold pDue; simpa using h56) _ 0 _ _ _ _ (Nat.zero_add _) rfl rfl rfl
      · skip
        refine hm_vret dX5_setUp_59 rfl (by decide) (by decide) ?_
        exact hQ _ _ ⟨rfl, hno (by unfold pDue; simpa using h56), md_fr.rf σ⟩
    | true =>
      rcases fi_cases (fun x => decide (bOf x = p)) (aB α) with ⟨-, -, c0⟩ | ⟨i, x, c1, c2, c3, c4, c5, c6, c7⟩
      · exfalso
        have c0' : pNb α p = 0 := c0
        unfold pHo at ho
        rw [c0'] at ho
        simp at ho
      · have hown : pOwn α p = some (bAt x) := by
          have d2 : pFst α p = some x := c4
          unfold pOwn; rw [ho, d2]; rfl
        have d1 : pFi α p = some i := c1
        have d3 := (hb2 i x c2).2.1
        rw [hown, ho] at j86
        refine hm_aload_n dX5_setUp_48 rfl ?_
        refine hm_getI lf_RX5_103 rfl rfl (by first | exact Nat.lt_of_lt_of_le (by decide) hN | assumption | (simp only [hm_n_wI, hm_n_wL, hm_n_wR, hm_n_g] at *; omega)) dX5_setUp_49 ?_
        rw [e2]
        refine hm_iload_n dX5_setUp_52 rfl ?_
        refine hm_isub dX5_setUp_53 ?_
        refine hm_iconst dX5_setUp_54 (v := 4) (by decide) ?_
        refine hm_irem dX5_setUp_55 (by decide) ?_
        refine hm_if_eq 60 dX5_setUp_56 (by decide) (fun h56 => ?_) (fun h56 => ?_)
        · skip
          refine hm_iload_n dX5_setUp_60 rfl ?_
          refine hm_if_eq 77 dX5_setUp_61 (by decide) (fun h61 => absurd h61 (by decide)) (fun _ => ?_)
          refine hm_aload_n dX5_setUp_64 rfl ?_
          refine hm_getR lf_RX5_45 rfl rfl (by first | exact Nat.lt_of_lt_of_le (by decide) hN | assumption | (simp only [hm_n_wI, hm_n_wL, hm_n_wR, hm_n_g] at *; omega)) (hM 14) dX5_setUp_65 ?_
          refine hm_aload_n dX5_setUp_68 rfl ?_
          refine hm_iload_n dX5_setUp_69 rfl ?_
          refine hm_callV lm_RX5_154 (r5_bearerOf l h w hp8) rfl rfl rfl rfl (by first | exact Nat.lt_of_lt_of_le (by decide) hN | assumption | (simp only [hm_n_wI, hm_n_wL, hm_n_wR, hm_n_g] at *; omega)) (by decide) (by decide) (Nat.le_of_ble_eq_true rfl) dX5_setUp_70 ?_
          rintro _ _ ⟨rfl, rfl⟩
          rw [d1]
          refine hm_iald i rfl (by first | exact Nat.lt_of_lt_of_le (by decide) hN | assumption | (simp only [hm_n_wI, hm_n_wL, hm_n_wR, hm_n_g] at *; omega)) rfl (by omega) (by decide) dX5_setUp_73 ?_
          rw [d3]
          refine hm_goto 78 dX5_setUp_74 (by decide) ?_
          refine hm_istore dX5_setUp_78 (by decide) rfl ?_
          refine hm_iconst dX5_setUp_80 (v := -1) (by decide) ?_
          refine hm_istore dX5_setUp_81 (by decide) rfl ?_
          refine hm_iconst dX5_setUp_83 (v := 0) (by decide) ?_
          refine hm_istore dX5_setUp_84 (by decide) rfl ?_
          exact j86 hw (by unfold pDue; simpa using h56) _ 0 _ _ _ _ (Nat.zero_add _) rfl rfl rfl
        · skip
          refine hm_vret dX5_setUp_59 rfl (by decide) (by decide) ?_
          exact hQ _ _ ⟨rfl, hno (by unfold pDue; simpa using h56), md_fr.rf σ⟩
  have j39 : ∀ (v y2 : Int32), y2 = bI (pHo α p) → v = bI ((decide (aI α 1 p = 1) || decide (aI α 1 p = 4)) && decide (pNb α p = 0)) → hm_V l RX5 cX5_setUp 10 none false (hm_rm 3 0 0) 0 0 Q 0 0 39 [.ref 27, .int (nI p), .int y2, hm_u, hm_u, hm_u, hm_u, hm_u, hm_u, hm_u] [.int v] σ := by
    intro v y2 hy2 hv
    subst hy2 hv
    refine hm_istore_n dX5_setUp_39 (by decide) rfl ?_
    refine hm_iload_n dX5_setUp_40 rfl ?_
    refine hm_if_ne 48 dX5_setUp_41 (by decide) (fun h41 => ?_) (fun h41 => ?_)
    · skip
      rw [bI_0] at h41
      exact j48 (by unfold pWants; first | (rw [b_nf h45]; simp; done) | (rw [b_nf h41]; rfl)) _ _ rfl
    · skip
      rw [bI_0] at h41
      refine hm_iload_n dX5_setUp_44 rfl ?_
      refine hm_if_eq 59 dX5_setUp_45 (by decide) (fun h45 => ?_) (fun h45 => ?_)
      · skip
        rw [bI_0] at h45
        refine hm_vret dX5_setUp_59 rfl (by decide) (by decide) ?_
        exact hQ _ _ ⟨rfl, by unfold pSetUp pWants; rw [h41, h45]; exact h, md_fr.rf σ⟩
      · skip
        rw [bI_0] at h45
        exact j48 (by unfold pWants; first | (rw [b_nf h45]; simp; done) | (rw [b_nf h41]; rfl)) _ _ rfl
  refine hm_aload_n dX5_setUp_0 rfl ?_
  refine hm_iload_n dX5_setUp_1 rfl ?_
  refine hm_callV lm_RX5_157 (r5_handsOver l h w hp8) rfl rfl rfl rfl (by first | exact Nat.lt_of_lt_of_le (by decide) hN | assumption | (simp only [hm_n_wI, hm_n_wL, hm_n_wR, hm_n_g] at *; omega)) (by decide) (by decide) (Nat.le_of_ble_eq_true rfl) dX5_setUp_2 ?_
  rintro _ _ ⟨rfl, rfl⟩
  refine hm_istore_n dX5_setUp_5 (by decide) rfl ?_
  refine hm_aload_n dX5_setUp_6 rfl ?_
  refine hm_getR lf_RX5_27 rfl rfl (by first | exact Nat.lt_of_lt_of_le (by decide) hN | assumption | (simp only [hm_n_wI, hm_n_wL, hm_n_wR, hm_n_g] at *; omega)) (hM 7) dX5_setUp_7 ?_
  refine hm_iload_n dX5_setUp_10 rfl ?_
  refine hm_iald _ rfl (by first | exact Nat.lt_of_lt_of_le (by decide) hN | assumption | (simp only [hm_n_wI, hm_n_wL, hm_n_wR, hm_n_g] at *; omega)) rfl (by omega) (by decide) dX5_setUp_11 ?_
  rw [e1]
  refine hm_iconst dX5_setUp_12 (v := 1) (by decide) ?_
  refine hm_icmp_eq 26 dX5_setUp_13 (by decide) (fun h13 => ?_) (fun h13 => ?_)
  · skip
    refine hm_aload_n dX5_setUp_26 rfl ?_
    refine hm_iload_n dX5_setUp_27 rfl ?_
    refine hm_callV lm_RX5_151 (r5_bearersOf l h w hp8) rfl rfl rfl rfl (by first | exact Nat.lt_of_lt_of_le (by decide) hN | assumption | (simp only [hm_n_wI, hm_n_wL, hm_n_wR, hm_n_g] at *; omega)) (by decide) (by decide) (Nat.le_of_ble_eq_true rfl) dX5_setUp_28 ?_
    rintro _ _ ⟨rfl, rfl⟩
    refine hm_if_ne 38 dX5_setUp_31 (by decide) (fun h31 => ?_) (fun h31 => ?_)
    · skip
      rw [q0] at h31
      refine hm_iconst dX5_setUp_38 (v := 0) (by decide) ?_
      exact j39 _ _ rfl (by simp [bI, *])
    · skip
      rw [q0] at h31
      refine hm_iconst dX5_setUp_34 (v := 1) (by decide) ?_
      refine hm_goto 39 dX5_setUp_35 (by decide) ?_
      exact j39 _ _ rfl (by simp [bI, *])
  · skip
    refine hm_aload_n dX5_setUp_16 rfl ?_
    refine hm_getR lf_RX5_27 rfl rfl (by first | exact Nat.lt_of_lt_of_le (by decide) hN | assumption | (simp only [hm_n_wI, hm_n_wL, hm_n_wR, hm_n_g] at *; omega)) (hM 7) dX5_setUp_17 ?_
    refine hm_iload_n dX5_setUp_20 rfl ?_
    refine hm_iald _ rfl (by first | exact Nat.lt_of_lt_of_le (by decide) hN | assumption | (simp only [hm_n_wI, hm_n_wL, hm_n_wR, hm_n_g] at *; omega)) rfl (by omega) (by decide) dX5_setUp_21 ?_
    rw [e1]
    refine hm_iconst dX5_setUp_22 (v := 4) (by decide) ?_
    refine hm_icmp_ne 38 dX5_setUp_23 (by decide) (fun h23 => ?_) (fun h23 => ?_)
    · skip
      refine hm_iconst dX5_setUp_38 (v := 0) (by decide) ?_
      exact j39 _ _ rfl (by simp [bI, *])
    · skip
      refine hm_aload_n dX5_setUp_26 rfl ?_
      refine hm_iload_n dX5_setUp_27 rfl ?_
      refine hm_callV lm_RX5_151 (r5_bearersOf l h w hp8) rfl rfl rfl rfl (by first | exact Nat.lt_of_lt_of_le (by decide) hN | assumption | (simp only [hm_n_wI, hm_n_wL, hm_n_wR, hm_n_g] at *; omega)) (by decide) (by decide) (Nat.le_of_ble_eq_true rfl) dX5_setUp_28 ?_
      rintro _ _ ⟨rfl, rfl⟩
      refine hm_if_ne 38 dX5_setUp_31 (by decide) (fun h31 => ?_) (fun h31 => ?_)
      · skip
        rw [q0] at h31
        refine hm_iconst dX5_setUp_38 (v := 0) (by decide) ?_
        exact j39 _ _ rfl (by simp [bI, *])
      · skip
        rw [q0] at h31
        refine hm_iconst dX5_setUp_34 (v := 1) (by decide) ?_
        refine hm_goto 39 dX5_setUp_35 (by decide) ?_
        exact j39 _ _ rfl (by simp [bI, *])
end M9
