/-! the class: what is made -/
theorem hm_fresh {l : Launch} {own : String} {cc : ByteArray} {nL : Nat} {ret : Option FieldType} {ini : Bool} {R : Room} {mc ms : Nat} {Q : Option Value → hm_M → Prop} {kc ks : Nat} {pc : Nat} {L : List Value} {st : List Value} {σ : hm_M} (h : (∀ a k, hm_n σ ≤ a → hm_I σ a k = 0 ∧ hm_L σ a k = 0 ∧ hm_R σ a k = none) → hm_V l own cc nL ret ini R mc ms Q kc ks pc L st σ) : hm_V l own cc nL ret ini R mc ms Q kc ks pc L st σ := by
  intro p e s m args below meth c D dA base H locs ls hC hR hlo hL
  exact h hR.2.2 p e s m args below meth c D dA base H locs ls hC hR hlo hL
def cs_np (σ : hm_M) (a : Nat) (x : Int32) (key : Int64) : hm_M := hm_wL (hm_wI (hm_wR (hm_wR (hm_g (hm_g (hm_wR (hm_wR (hm_g (hm_g (hm_wR (hm_wR (hm_g (hm_g (hm_wI (hm_wI σ a 4 0) a 5 (-9)))) (a + 1) 0 (some (a + 2))) a 9 (some (a + 1))))) (a + 3) 0 (some (a + 4))) a 10 (some (a + 3))))) (a + 5) 0 (some (a + 6))) a 11 (some (a + 5))) a 0 x) a 1 key
section C12
variable (l : Launch)
set_option maxRecDepth 100000 in
theorem k0_init (σ : hm_M) (a : Nat) : hm_Ct l yX0_init cX0_init 1 none 1 0 0 [.ref a] σ (fun r τ => r = none ∧ τ = σ) := by
  refine hm_startQ (ini := true) [.ref a] (by decide) (fun _ => rfl) rfl (Nat.le_of_ble_eq_true rfl) (fun Q hQ => ?_)
  refine hm_aload_n dX0_init_0 rfl ?_
  refine hm_objInit lo_RX0_1 (by decide) (Nat.le_of_ble_eq_true rfl) dX0_init_1 ?_
  refine hm_vret dX0_init_4 rfl (by decide) (by decide) ?_
  exact hQ _ _ ⟨rfl, rfl⟩
set_option maxRecDepth 100000 in
theorem k1_init (σ : hm_M) {a N : Nat} (hN1 : 1 ≤ N) (hN2 : N ≤ 20) (hn : hm_n σ = a + 1) (hs : hm_S a = (1, 0)) (hs1 : hm_S (a + 1) = (11, N)) : hm_Ct l yX1_init cX1_init 2 none 1 1 20 [.ref a, .int (nI N)] σ (fun r τ => r = none ∧ τ = hm_wR (hm_g σ) a 0 (some (a + 1))) := by
  obtain ⟨I, L, R, n⟩ := σ
  have hn : n = a + 1 := hn
  subst hn
  have hmx : (if nI N < 1 then (1 : Int32) else nI N) = nI N := if_neg (Int32.not_lt.mpr (nI_le (a := 1) hN1 (by omega)))
  refine hm_startQ (ini := true) [.ref a, .int (nI N)] (by decide) (fun _ => rfl) rfl (Nat.le_of_ble_eq_true rfl) (fun Q hQ => ?_)
  refine hm_aload_n dX1_init_0 rfl ?_
  refine hm_objInit lo_RX1_1 (by decide) (Nat.le_of_ble_eq_true rfl) dX1_init_1 ?_
  refine hm_aload_n dX1_init_4 rfl ?_
  refine hm_iload_n dX1_init_5 rfl ?_
  refine hm_iconst dX1_init_6 (v := 1) (by decide) ?_
  skip
  refine hm_mmax l lm_RX1_7 (by decide) (Nat.le_of_ble_eq_true rfl) (by decide) (by decide) dX1_init_7 ?_
  rw [hmx]
  refine hm_newa (Or.inr (Or.inl ⟨rfl, rfl⟩)) rfl (by omega) hs1 (by decide) (by show 0 + N ≤ 20; omega) dX1_init_10 ?_
  refine hm_putRF lf_RX1_13 rfl rfl rfl rfl hs (by show a < a + 1 + 1; omega) dX1_init_12 ?_
  skip
  refine hm_vret dX1_init_15 rfl (by decide) (by show 0 + N ≤ 20; omega) ?_
  exact hQ _ _ ⟨rfl, rfl⟩
set_option maxRecDepth 100000 in
theorem k2_init (σ : hm_M) {p : Nat} (hn : hm_n σ = pA p + 1) (x : Int32) (key : Int64) : hm_Ct l yX2_init cX2_init 4 none 2 6 69 [.ref (pA p), .int x, .long key] σ (fun r τ => r = none ∧ τ = cs_np σ (pA p) x key) := by
  obtain ⟨I, L, R, n⟩ := σ
  have hn : n = pA p + 1 := hn
  subst hn
  have hs := S_pA0 p
  refine hm_startQ (ini := true) [.ref (pA p), .int x, .long key, hm_u] (by decide) (fun _ => rfl) rfl (Nat.le_of_ble_eq_true rfl) (fun Q hQ => ?_)
  refine hm_aload_n dX2_init_0 rfl ?_
  refine hm_objInit lo_RX2_3 (by decide) (Nat.le_of_ble_eq_true rfl) dX2_init_1 ?_
  refine hm_aload_n dX2_init_4 rfl ?_
  refine hm_iconst dX2_init_5 (v := 0) (by decide) ?_
  refine hm_putI lf_RX2_9 rfl rfl hs (by show pA p < pA p + 1; omega) dX2_init_6 ?_
  refine hm_aload_n dX2_init_9 rfl ?_
  refine hm_bipush dX2_init_10 (v := -9) (by decide) ?_
  refine hm_putI lf_RX2_15 rfl rfl hs (by show pA p < pA p + 1; omega) dX2_init_12 ?_
  refine hm_aload_n dX2_init_15 rfl ?_
  refine hm_new lc_RX2_18 (ci := 1) rfl (S_pA1 p) (by decide) (by decide) dX2_init_16 ?_
  refine hm_dup dX2_init_19 rfl ?_
  refine hm_bipush dX2_init_20 (v := 8) (by decide) ?_
  refine hm_callI lm_RX2_20 (k1_init l _ (a := pA p + 1) (N := 8) (by decide) (by decide) rfl (S_pA1 p) (S_pA2 p)) rfl rfl (by decide) (by decide) (Nat.le_of_ble_eq_true rfl) dX2_init_22 ?_
  rintro _ t9 ⟨rfl, hh9⟩
  rw [hh9]
  clear hh9 t9
  refine hm_putRF lf_RX2_23 rfl rfl rfl rfl hs (by show pA p < pA p + 1 + 1 + 1; omega) dX2_init_25 ?_
  refine hm_aload_n dX2_init_28 rfl ?_
  refine hm_new lc_RX2_18 (ci := 1) rfl (S_pA3 p) (by decide) (by decide) dX2_init_29 ?_
  refine hm_dup dX2_init_32 rfl ?_
  refine hm_bipush dX2_init_33 (v := 16) (by decide) ?_
  refine hm_callI lm_RX2_20 (k1_init l _ (a := pA p + 3) (N := 16) (by decide) (by decide) rfl (S_pA3 p) (S_pA4 p)) rfl rfl (by decide) (by decide) (Nat.le_of_ble_eq_true rfl) dX2_init_35 ?_
  rintro _ t9 ⟨rfl, hh9⟩
  rw [hh9]
  clear hh9 t9
  refine hm_putRF lf_RX2_27 rfl rfl rfl rfl hs (by show pA p < pA p + 1 + 1 + 1 + 1 + 1; omega) dX2_init_38 ?_
  refine hm_aload_n dX2_init_41 rfl ?_
  refine hm_new lc_RX2_18 (ci := 1) rfl (S_pA5 p) (by decide) (by decide) dX2_init_42 ?_
  refine hm_dup dX2_init_45 rfl ?_
  refine hm_bipush dX2_init_46 (v := 20) (by decide) ?_
  refine hm_callI lm_RX2_20 (k1_init l _ (a := pA p + 5) (N := 20) (by decide) (by decide) rfl (S_pA5 p) (S_pA6 p)) rfl rfl (by decide) (by decide) (Nat.le_of_ble_eq_true rfl) dX2_init_48 ?_
  rintro _ t9 ⟨rfl, hh9⟩
  rw [hh9]
  clear hh9 t9
  refine hm_putRF lf_RX2_30 rfl rfl rfl rfl hs (by show pA p < pA p + 1 + 1 + 1 + 1 + 1 + 1 + 1; omega) dX2_init_51 ?_
  refine hm_aload_n dX2_init_54 rfl ?_
  refine hm_iload_n dX2_init_55 rfl ?_
  refine hm_putIF lf_RX2_33 rfl rfl rfl rfl hs (by show pA p < pA p + 1 + 1 + 1 + 1 + 1 + 1 + 1; omega) dX2_init_56 ?_
  refine hm_aload_n dX2_init_59 rfl ?_
  refine hm_lload_n dX2_init_60 rfl ?_
  refine hm_putLF lf_RX2_36 rfl rfl rfl rfl hs (by show pA p < pA p + 1 + 1 + 1 + 1 + 1 + 1 + 1; omega) dX2_init_61 ?_
  refine hm_vret dX2_init_64 rfl (by decide) (by decide) ?_
  exact hQ _ _ ⟨rfl, rfl⟩
set_option maxRecDepth 100000 in
theorem k3_init (I : Nat → Nat → Int32) (L : Nat → Nat → Int64) (R : Nat → Nat → Option Nat) (hz : ∀ k, R 1 k = none) : hm_Ct l yX3_init cX3_init 2 none 2 23 484 [.ref 1] (I, L, R, 2) (fun r τ => r = none ∧ hm_I τ = I ∧ hm_L τ = L ∧ (∀ a k, a ≠ 1 → a ≠ 8 → hm_R τ a k = R a k) ∧ (∀ k, hm_R τ 1 k = ra_tab k) ∧ (∀ j, j < 16 → hm_R τ 8 j = some (9 + j)) ∧ hm_n τ = 25) := by
  refine hm_startQ (ini := true) [.ref 1, hm_u] (by decide) (fun _ => rfl) rfl (Nat.le_of_ble_eq_true rfl) (fun Q hQ => ?_)
  have hl : ∀ (m i : Nat) (τ : hm_M) (u : Int32), i + m = 16 → u = nI i → hm_I τ = I → hm_L τ = L → (∀ a k, a ≠ 1 → a ≠ 8 → hm_R τ a k = R a k) → (∀ k, hm_R τ 1 k = ra_tab k) → (∀ j, j < i → hm_R τ 8 j = some (9 + j)) → hm_n τ = 9 + i → hm_V l RX3 cX3_init 2 none true (hm_rm 2 23 484) 23 484 Q (7+i) (404+5*i) 62 [.ref 1, .int u] [] τ := by
    intro m
    induction m with
    | zero =>
      intro i τ u hi hu i1 i2 i3 i4 i5 i6
      subst hu
      obtain rfl : i = 16 := by omega
      refine hm_iload_n dX3_init_62 rfl ?_
      refine hm_bipush dX3_init_63 (v := 16) (by decide) ?_
      refine hm_icmp_ge 87 dX3_init_65 (by decide) (fun _ => ?_) (fun h65 => absurd (by decide) h65)
      refine hm_vret dX3_init_87 rfl (by decide) (by decide) ?_
      exact hQ _ _ ⟨rfl, i1, i2, i3, i4, i5, i6⟩
    | succ m ih =>
      intro i τ u hi hu i1 i2 i3 i4 i5 i6
      subst hu
      obtain ⟨I', L', R', n⟩ := τ
      have i6 : n = 9 + i := i6
      subst i6
      have hA : ∀ k, hm_R (I', L', R', 9 + i) 1 k = ra_tab k := i4
      have hsi := S_b i (by omega)
      refine hm_iload_n dX3_init_62 rfl ?_
      refine hm_bipush dX3_init_63 (v := 16) (by decide) ?_
      refine hm_icmp_ge 87 dX3_init_65 (by decide) (fun h65 => absurd h65 (nI_ge (b := 16) (by omega) (by decide))) (fun _ => ?_)
      refine hm_aload_n dX3_init_68 rfl ?_
      refine hm_getR lf_RX3_32 rfl rfl (by show 1 < 9 + i; omega) (hA 10) dX3_init_69 ?_
      refine hm_iload_n dX3_init_72 rfl ?_
      refine hm_new lc_RX3_30 (ci := 0) rfl hsi (by show 7 + i + 1 ≤ 23; omega) (by show 404 + 5 * i + 5 ≤ 484; omega) dX3_init_73 ?_
      refine hm_dup dX3_init_76 rfl ?_
      refine hm_callB (hm_w 27 (by decide +kernel) rfl) rfl (k0_init l _ _) rfl (by decide) (by show 7 + i + 1 + 0 ≤ 23 ∧ 404 + 5 * i + 5 + 0 ≤ 484; omega) (Nat.le_of_ble_eq_true rfl) dX3_init_77 ?_
      rintro _ t9 ⟨rfl, hh9⟩
      rw [hh9]
      clear hh9 t9
      refine hm_aast _ rfl (by decide) (by show 8 < 9 + i + 1; omega) hsi (by show 9 + i < 9 + i + 1; omega) rfl (by omega) (by decide) dX3_init_80 ?_
      refine hm_iinc dX3_init_81 rfl _ rfl (by decide) rfl ?_
      refine hm_goto 62 dX3_init_84 (by decide) ?_
      exact ih (i + 1) (hm_wR (hm_g (I', L', R', 9 + i)) 8 i (some (9 + i))) _ (by omega) (hm_inc i) i1 i2 (fun a k h1 h2 => by rw [hm_R_wR, if_neg (fun q => h2 q.1)]; exact i3 a k h1 h2) (fun k => by rw [hm_R_wR, if_neg (by omega)]; exact i4 k) (fun j hj => by rw [hm_R_wR]; by_cases e : j = i; rw [if_pos ⟨rfl, e⟩, e]; rw [if_neg (fun q => e q.2)]; exact i5 j (by omega)) rfl
  refine hm_aload_n dX3_init_0 rfl ?_
  refine hm_objInit lo_RX3_3 (by decide) (Nat.le_of_ble_eq_true rfl) dX3_init_1 ?_
  refine hm_aload_n dX3_init_4 rfl ?_
  refine hm_iconst dX3_init_5 (v := 4) (by decide) ?_
  refine hm_newa (by decide) rfl (by decide) rfl (by decide) (by decide) dX3_init_6 ?_
  refine hm_putRF lf_RX3_9 rfl rfl rfl rfl rfl (Nat.le_of_ble_eq_true rfl) dX3_init_8 ?_
  refine hm_aload_n dX3_init_11 rfl ?_
  refine hm_bipush dX3_init_12 (v := 8) (by decide) ?_
  refine hm_newa (by decide) rfl (by decide) rfl (by decide) (by decide) dX3_init_14 ?_
  refine hm_putRF lf_RX3_15 rfl rfl rfl rfl rfl (Nat.le_of_ble_eq_true rfl) dX3_init_16 ?_
  refine hm_aload_n dX3_init_19 rfl ?_
  refine hm_bipush dX3_init_20 (v := 16) (by decide) ?_
  refine hm_newa (by decide) rfl (by decide) rfl (by decide) (by decide) dX3_init_22 ?_
  refine hm_putRF lf_RX3_18 rfl rfl rfl rfl rfl (Nat.le_of_ble_eq_true rfl) dX3_init_24 ?_
  refine hm_aload_n dX3_init_27 rfl ?_
  refine hm_bipush dX3_init_28 (v := 120) (by decide) ?_
  refine hm_newa (by decide) rfl (by decide) rfl (by decide) (by decide) dX3_init_30 ?_
  refine hm_putRF lf_RX3_21 rfl rfl rfl rfl rfl (Nat.le_of_ble_eq_true rfl) dX3_init_32 ?_
  refine hm_aload_n dX3_init_35 rfl ?_
  refine hm_bipush dX3_init_36 (v := 120) (by decide) ?_
  refine hm_newa (by decide) rfl (by decide) rfl (by decide) (by decide) dX3_init_38 ?_
  refine hm_putRF lf_RX3_24 rfl rfl rfl rfl rfl (Nat.le_of_ble_eq_true rfl) dX3_init_40 ?_
  refine hm_aload_n dX3_init_43 rfl ?_
  refine hm_bipush dX3_init_44 (v := 120) (by decide) ?_
  refine hm_newa (by decide) rfl (by decide) rfl (by decide) (by decide) dX3_init_46 ?_
  refine hm_putRF lf_RX3_27 rfl rfl rfl rfl rfl (Nat.le_of_ble_eq_true rfl) dX3_init_48 ?_
  refine hm_aload_n dX3_init_51 rfl ?_
  refine hm_bipush dX3_init_52 (v := 16) (by decide) ?_
  refine hm_anew (by decide) lc_RX3_30.1 rfl (by decide) rfl (by decide) (by decide) dX3_init_54 ?_
  refine hm_putRF lf_RX3_32 rfl rfl rfl rfl rfl (Nat.le_of_ble_eq_true rfl) dX3_init_57 ?_
  refine hm_iconst dX3_init_60 (v := 0) (by decide) ?_
  refine hm_istore_n dX3_init_61 (by decide) rfl ?_
  refine hl 16 0 _ _ rfl rfl rfl rfl (fun a k h1 h2 => ?_) (fun k => ?_) (fun j hj => absurd hj (by omega)) rfl
  simp [hm_R_wR, hm_R_g, h1]; rfl
  match k with | 0 | 1 | 2 | 3 | 4 | 5 | 6 | 7 | 8 | 9 | 10 => (first | rfl | exact hz _) | k + 11 => exact hz _
set_option maxRecDepth 100000 in
theorem k4_init (I : Nat → Nat → Int32) (L : Nat → Nat → Int64) (R : Nat → Nat → Option Nat) (hz : ∀ a k, R a k = none) : hm_Ct l yX4_init cX4_init 1 none 3 26 510 [.ref 0] (I, L, R, 1) (fun r τ => r = none ∧ hm_I τ = I ∧ hm_L τ = L ∧ (∀ a k, a ≠ 0 → a ≠ 1 → a ≠ 8 → hm_R τ a k = none) ∧ (∀ k, hm_R τ 0 k = hs_tab k) ∧ (∀ k, hm_R τ 1 k = ra_tab k) ∧ (∀ j, j < 16 → hm_R τ 8 j = some (9 + j)) ∧ hm_n τ = 27) := by
  refine hm_startQ (ini := true) [.ref 0] (by decide) (fun _ => rfl) rfl (Nat.le_of_ble_eq_true rfl) (fun Q hQ => ?_)
  refine hm_aload_n dX4_init_0 rfl ?_
  refine hm_objInit lo_RX4_3 (by decide) (Nat.le_of_ble_eq_true rfl) dX4_init_1 ?_
  refine hm_aload_n dX4_init_4 rfl ?_
  refine hm_new lc_RX4_9 (ci := 3) rfl rfl (by decide) (by decide) dX4_init_5 ?_
  refine hm_dup dX4_init_8 rfl ?_
  refine hm_callI lm_RX4_11 (k3_init l I L R (fun k => hz 1 k)) rfl rfl (by decide) (by decide) (Nat.le_of_ble_eq_true rfl) dX4_init_9 ?_
  rintro _ ⟨I', L', R', n⟩ ⟨rfl, i1, i2, i3, i4, i5, i6⟩
  have i6 : n = 25 := i6
  subst i6
  refine hm_putRF lf_RX4_12 rfl rfl rfl rfl rfl (Nat.le_of_ble_eq_true rfl) dX4_init_12 ?_
  refine hm_aload_n dX4_init_15 rfl ?_
  refine hm_bipush dX4_init_16 (v := 8) (by decide) ?_
  refine hm_anew (by decide) lc_RX4_16.1 rfl (by decide) rfl (by decide) (by decide) dX4_init_18 ?_
  refine hm_putRF lf_RX4_18 rfl rfl rfl rfl rfl (Nat.le_of_ble_eq_true rfl) dX4_init_21 ?_
  refine hm_aload_n dX4_init_24 rfl ?_
  refine hm_bipush dX4_init_25 (v := 7) (by decide) ?_
  refine hm_newa (by decide) rfl (by decide) rfl (by decide) (by decide) dX4_init_27 ?_
  refine hm_putRF lf_RX4_22 rfl rfl rfl rfl rfl (Nat.le_of_ble_eq_true rfl) dX4_init_29 ?_
  refine hm_vret dX4_init_32 rfl (by decide) (by decide) ?_
  refine hQ _ _ ⟨rfl, i1, i2, fun a k h0 h1 h8 => ?_, fun k => ?_, fun k => ?_, fun j hj => ?_, rfl⟩
  (simp only [hm_R_wR, hm_R_g]; rw [if_neg (fun q => h0 q.1), if_neg (fun q => h0 q.1), if_neg (fun q => h0 q.1)]; exact (i3 a k h1 h8).trans (hz _ _))
  (have e3 : ∀ k, R' 0 k = none := fun k => (i3 0 k (by decide) (by decide)).trans (hz _ _))
  (match k with | 0 | 1 | 2 => rfl | k + 3 => exact e3 _)
  exact i4 k
  exact i5 j hj
end C12
