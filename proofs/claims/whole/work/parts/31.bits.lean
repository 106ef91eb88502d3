/-! bits -/
def bt (x : Int32) (i : Nat) : Bool := x.toBitVec.getLsbD i
theorem b_ext {x y : Int32} (h : ∀ i, i < 32 → bt x i = bt y i) : x = y := Int32.toBitVec_inj.mp (BitVec.eq_of_getLsbD_eq (fun i hi => h i hi))
theorem b_or (x y : Int32) (i : Nat) : bt (x ||| y) i = (bt x i || bt y i) := by unfold bt; rw [Int32.toBitVec_or, BitVec.getLsbD_or]
theorem b_and (x y : Int32) (i : Nat) : bt (x &&& y) i = (bt x i && bt y i) := by unfold bt; rw [Int32.toBitVec_and, BitVec.getLsbD_and]
theorem b_xor (x y : Int32) (i : Nat) : bt (x ^^^ y) i = (bt x i ^^ bt y i) := by unfold bt; rw [Int32.toBitVec_xor, BitVec.getLsbD_xor]
theorem b_big {x : Int32} {i : Nat} (h : 32 ≤ i) : bt x i = false := BitVec.getLsbD_of_ge _ _ h
theorem b_255 (i : Nat) : bt 255 i = decide (i < 8) := by
  rcases Nat.lt_or_ge i 32 with h | h
  · exact (by decide +kernel : ∀ i, i < 32 → bt 255 i = decide (i < 8)) i h
  · rw [b_big h, decide_eq_false (by omega)]
theorem b_65535 (i : Nat) : bt 65535 i = decide (i < 16) := by
  rcases Nat.lt_or_ge i 32 with h | h
  · exact (by decide +kernel : ∀ i, i < 32 → bt 65535 i = decide (i < 16)) i h
  · rw [b_big h, decide_eq_false (by omega)]
theorem b_m1 : ∀ i, i < 32 → bt (-1) i = true := by decide +kernel
theorem b_0 (i : Nat) : bt 0 i = false := BitVec.getLsbD_zero
theorem s_l : ∀ n, n < 32 → ((nI n &&& 31).toBitVec.smod 32).toNat = n := by decide +kernel
theorem s_u : ∀ n, n < 32 → (((nI n).toUInt32 &&& Int32.toUInt32 31).toBitVec % 32).toNat = n := by decide +kernel
theorem b_shl (n : Nat) (hn : n < 32) (x : Int32) {i : Nat} (hi : i < 32) : bt (x <<< (nI n &&& 31)) i = (decide (n ≤ i) && bt x (i - n)) := by
  unfold bt
  rw [Int32.toBitVec_shiftLeft]
  show (x.toBitVec <<< ((nI n &&& 31).toBitVec.smod 32).toNat).getLsbD i = _
  rw [s_l n hn, BitVec.getLsbD_shiftLeft]
  rcases Nat.lt_or_ge i n with h | h
  · simp [h, Nat.not_le.mpr h]
  · simp [hi, h, Nat.not_lt.mpr h]
theorem b_ushr (n : Nat) (hn : n < 32) (x : Int32) (i : Nat) : bt ((x.toUInt32 >>> ((nI n).toUInt32 &&& Int32.toUInt32 31)).toInt32) i = bt x (n + i) := by
  show (x.toUInt32 >>> ((nI n).toUInt32 &&& Int32.toUInt32 31)).toBitVec.getLsbD i = x.toUInt32.toBitVec.getLsbD (n + i)
  rw [UInt32.toBitVec_shiftRight]
  show (x.toUInt32.toBitVec >>> (((nI n).toUInt32 &&& Int32.toUInt32 31).toBitVec % 32).toNat).getLsbD i = _
  rw [s_u n hn, BitVec.getLsbD_ushiftRight]
theorem bt_1 {c : Nat} (hc : c < 32) {i : Nat} (hi : i < 32) : bt ((1 : Int32) <<< (nI c &&& 31)) i = decide (i = c) := by
  rw [b_shl c hc _ hi]
  have h1 : ∀ j, j < 32 → bt 1 j = decide (j = 0) := by decide +kernel
  rcases Nat.lt_or_ge i c with h | h
  · rw [decide_eq_false (by omega), decide_eq_false (by omega)]; rfl
  · rw [decide_eq_true (by omega), h1 _ (by omega)]
    simp
    omega
theorem bt_ne0 (x : Int32) : x = 0 ↔ ∀ i, i < 32 → bt x i = false := by
  constructor
  · rintro rfl i _; exact b_0 i
  · intro h
    exact b_ext (fun i hi => by rw [h i hi, b_0])
/-- one bit asked for -/
theorem bt_ask (x : Int32) {c : Nat} (hc : c < 32) : x &&& ((1 : Int32) <<< (nI c &&& 31)) = 0 ↔ bt x c = false := by
  rw [bt_ne0]
  constructor
  · intro h
    have := h c hc
    rw [b_and, bt_1 hc hc] at this
    simpa using this
  · intro h i hi
    rw [b_and, bt_1 hc hi]
    by_cases e : i = c
    · subst e; rw [h]; rfl
    · simp [e]
theorem bt_not (x : Int32) {i : Nat} (hi : i < 32) : bt (x ^^^ (-1)) i = !bt x i := by
  rw [b_xor, b_m1 i hi]
  simp
theorem bt_nI {n : Nat} (hn : n < 2 ^ 31) (i : Nat) (hi : i < 32) : bt (nI n) i = n.testBit i := by
  unfold bt
  show (BitVec.ofNat 32 n).getLsbD i = _
  rw [BitVec.getLsbD_ofNat]
  simp [hi]
/-- the number of bits, as the JDK counts them -/
def bcF (x : Int32) : Int32 :=
  let a := x - ((x.toUInt32 >>> ((1 : Int32).toUInt32 &&& Int32.toUInt32 31)).toInt32 &&& 1431655765)
  let b := (a &&& 858993459) + ((a.toUInt32 >>> ((2 : Int32).toUInt32 &&& Int32.toUInt32 31)).toInt32 &&& 858993459)
  let c := (b + (b.toUInt32 >>> ((4 : Int32).toUInt32 &&& Int32.toUInt32 31)).toInt32) &&& 252645135
  let d := c + (c.toUInt32 >>> ((8 : Int32).toUInt32 &&& Int32.toUInt32 31)).toInt32
  let e := d + (d.toUInt32 >>> ((16 : Int32).toUInt32 &&& Int32.toUInt32 31)).toInt32
  e &&& 63
theorem bcF_256 : ∀ n, n < 256 → bcF (nI n) = nI (pCnt (fun i => n.testBit i) 8) := by decide +kernel
theorem pCnt_congr {f g : Nat → Bool} : ∀ n, (∀ i, i < n → f i = g i) → pCnt f n = pCnt g n
  | 0, _ => rfl
  | n + 1, h => by
    unfold pCnt
    rw [pCnt_congr n (fun i hi => h i (by omega)), h n (by omega)]
theorem pCnt_ext {f : Nat → Bool} {n m : Nat} (hnm : n ≤ m) (h : ∀ i, n ≤ i → i < m → f i = false) : pCnt f m = pCnt f n := by
  induction m with
  | zero => rw [show n = 0 by omega]
  | succ m ih =>
    by_cases e : n = m + 1
    · rw [e]
    · show pCnt f m + (if f m then 1 else 0) = pCnt f n
      rw [ih (by omega) (fun i h1 h2 => h i h1 (by omega)), h m (by omega) (by omega)]
      simp
/-- a word with none but its lowest eight bits -/
theorem bt_small {x : Int32} (h : ∀ i, i < 32 → 8 ≤ i → bt x i = false) : ∃ n, n < 256 ∧ x = nI n := by
  refine ⟨x.toBitVec.toNat % 256, Nat.mod_lt _ (by decide), b_ext fun i hi => ?_⟩
  have hlt : x.toBitVec.toNat % 256 < 256 := Nat.mod_lt _ (by decide)
  rw [bt_nI (by omega) i hi]
  rw [show (256 : Nat) = 2 ^ 8 from rfl, Nat.testBit_mod_two_pow]
  by_cases e : i < 8
  · simp [e]; rfl
  · rw [h i hi (by omega)]; simp [e]
theorem bcF_small {x : Int32} (h : ∀ i, i < 32 → 8 ≤ i → bt x i = false) : bcF x = nI (pCnt (fun i => bt x i) 8) := by
  obtain ⟨n, hn, rfl⟩ := bt_small h
  rw [bcF_256 n hn]
  exact congrArg nI (pCnt_congr 8 fun i hi => (bt_nI (by omega) i (by omega)).symm)
section C0
variable (l : Launch)
set_option maxRecDepth 100000 in
theorem cj_bitCount (σ : hm_M) (x : Int32) : hm_Ct l yJ6_bitCount_0f7a4 cJ6_bitCount_0f7a4 1 (some .int) 0 0 0 [.int x] σ (fun r τ => r = some (.int (bcF x)) ∧ τ = σ) := by
  refine hm_startQ (ini := false) [.int x] (by decide) (by decide) rfl (Nat.le_of_ble_eq_true rfl) (fun Q hQ => ?_)
  refine hm_iload_n dJ6_bitCount_0f7a4_0 rfl ?_
  refine hm_iload_n dJ6_bitCount_0f7a4_1 rfl ?_
  refine hm_iconst dJ6_bitCount_0f7a4_2 (v := 1) (by decide) ?_
  refine hm_iushr dJ6_bitCount_0f7a4_3 ?_
  refine hm_ldcw dJ6_bitCount_0f7a4_4 lk_RJ6_265 ?_
  refine hm_iand dJ6_bitCount_0f7a4_7 ?_
  refine hm_isub dJ6_bitCount_0f7a4_8 ?_
  refine hm_istore_n dJ6_bitCount_0f7a4_9 (by decide) rfl ?_
  refine hm_iload_n dJ6_bitCount_0f7a4_10 rfl ?_
  refine hm_ldcw dJ6_bitCount_0f7a4_11 lk_RJ6_266 ?_
  refine hm_iand dJ6_bitCount_0f7a4_14 ?_
  refine hm_iload_n dJ6_bitCount_0f7a4_15 rfl ?_
  refine hm_iconst dJ6_bitCount_0f7a4_16 (v := 2) (by decide) ?_
  refine hm_iushr dJ6_bitCount_0f7a4_17 ?_
  refine hm_ldcw dJ6_bitCount_0f7a4_18 lk_RJ6_266 ?_
  refine hm_iand dJ6_bitCount_0f7a4_21 ?_
  refine hm_iadd dJ6_bitCount_0f7a4_22 ?_
  refine hm_istore_n dJ6_bitCount_0f7a4_23 (by decide) rfl ?_
  refine hm_iload_n dJ6_bitCount_0f7a4_24 rfl ?_
  refine hm_iload_n dJ6_bitCount_0f7a4_25 rfl ?_
  refine hm_iconst dJ6_bitCount_0f7a4_26 (v := 4) (by decide) ?_
  refine hm_iushr dJ6_bitCount_0f7a4_27 ?_
  refine hm_iadd dJ6_bitCount_0f7a4_28 ?_
  refine hm_ldcw dJ6_bitCount_0f7a4_29 lk_RJ6_267 ?_
  refine hm_iand dJ6_bitCount_0f7a4_32 ?_
  refine hm_istore_n dJ6_bitCount_0f7a4_33 (by decide) rfl ?_
  refine hm_iload_n dJ6_bitCount_0f7a4_34 rfl ?_
  refine hm_iload_n dJ6_bitCount_0f7a4_35 rfl ?_
  refine hm_bipush dJ6_bitCount_0f7a4_36 (v := 8) (by decide) ?_
  refine hm_iushr dJ6_bitCount_0f7a4_38 ?_
  refine hm_iadd dJ6_bitCount_0f7a4_39 ?_
  refine hm_istore_n dJ6_bitCount_0f7a4_40 (by decide) rfl ?_
  refine hm_iload_n dJ6_bitCount_0f7a4_41 rfl ?_
  refine hm_iload_n dJ6_bitCount_0f7a4_42 rfl ?_
  refine hm_bipush dJ6_bitCount_0f7a4_43 (v := 16) (by decide) ?_
  refine hm_iushr dJ6_bitCount_0f7a4_45 ?_
  refine hm_iadd dJ6_bitCount_0f7a4_46 ?_
  refine hm_istore_n dJ6_bitCount_0f7a4_47 (by decide) rfl ?_
  refine hm_iload_n dJ6_bitCount_0f7a4_48 rfl ?_
  refine hm_bipush dJ6_bitCount_0f7a4_49 (v := 63) (by decide) ?_
  refine hm_iand dJ6_bitCount_0f7a4_51 ?_
  refine hm_iret dJ6_bitCount_0f7a4_52 rfl (by decide) (by decide) ?_
  exact hQ _ _ ⟨rfl, rfl⟩
theorem hm_mmax {own : String} {cc : ByteArray} {nL : Nat} {ret : Option FieldType} {ini : Bool} {R : Room} {mc ms : Nat} {Q : Option Value → hm_M → Prop} {kc ks : Nat} {pc : Nat} {L : List Value} {st : List Value} {σ : hm_M} {idx : Nat} {x y : Int32} (hM : hm_MS own idx yJ9_max_7cf53 cJ9_max_7cf53 2 (some .int) 2) (hf : 1 ≤ R.frames) (hl : (st.map fun v => v.category).sum + 13 ≤ R.locals) (h1 : kc ≤ R.cells) (h2 : ks ≤ R.slots) (hd : decode cc pc = .ok (.invokestatic idx, 3))
    (kk : hm_V l own cc nL ret ini R mc ms Q kc ks (pc + 3) L (.int (if x < y then y else x) :: st) σ) : hm_V l own cc nL ret ini R mc ms Q kc ks pc L (.int y :: .int x :: st) σ := by
  intro p e s m args below meth c D dA base H locs ls hC hR hlo hL
  have hts := hC.2.2.2.2.2.2.1
  obtain ⟨⟨m1, m2, -⟩, m4, m5⟩ := hM
  have e1 : Lib.Math.max.name = yJ9_max_7cf53 := by decide +kernel
  have e2 : Lib.Math.max.code = cJ9_max_7cf53 := by decide +kernel
  exact va_mmax hC.1 hC.2.1 (hC.2.2.1.trans hL.1.symm) hC.2.2.2.2.2.1 (by rw [e1]; exact hts _ m4) (by rw [e1]; exact hts _ m5) (hts _ m2) (by rw [e1, e2]; exact hts _ m1) hf (by rw [hm_catm]; exact hl) h1 h2 hd (kk p e s m args below meth c D dA base H locs ls hC hR hlo hL)
end C0
