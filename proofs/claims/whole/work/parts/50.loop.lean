/-! the law's loop, and its start -/
section LL
variable {l : Launch} {Ln : Nat} {xs : Nat → Int32} {kc ks pc : Nat} {lv : List (Nat × Value)} {st : List Value} {σ : hm_M}
theorem lq_tableIn {dflt lo hi : Int} {offs : Array Int} {len : Nat} {x : Int32} {off : Int} (tgt : Nat) (hd : decode code pc = .ok (.tableswitch dflt lo hi offs, len)) (h1 : ¬ x.toInt < lo) (h2 : ¬ hi < x.toInt) (ho : offs[(x.toInt - lo).toNat]? = some off) (ht : (pc : Int) + off = (tgt : Int)) (kk : lq_V l Ln xs kc ks tgt lv st σ) : lq_V l Ln xs kc ks pc lv (.int x :: st) σ := by
  intro p e s m b below meth c D dA H locs ls C0 hK hR hlo hL
  exact lv_tableIn C0.1 C0.2.1 hd h1 h2 ho ht (kk p e s m b below meth c D dA H locs ls C0 hK hR hlo hL)
theorem lq_tableOut {dflt lo hi : Int} {offs : Array Int} {len : Nat} {x : Int32} (tgt : Nat) (hd : decode code pc = .ok (.tableswitch dflt lo hi offs, len)) (h : x.toInt < lo ∨ hi < x.toInt) (ht : (pc : Int) + dflt = (tgt : Int)) (kk : lq_V l Ln xs kc ks tgt lv st σ) : lq_V l Ln xs kc ks pc lv (.int x :: st) σ := by
  intro p e s m b below meth c D dA H locs ls C0 hK hR hlo hL
  exact lv_tableOut C0.1 C0.2.1 hd h ht (kk p e s m b below meth c D dA H locs ls C0 hK hR hlo hL)
theorem lq_slen {p : Program} {e : Env} {s : State} {m : MethodId} {b : Nat} {below : List Frame} {meth : Method} {c : Code} {H : Heap} {locs : List Loc} {ls : Array Slot} {rest : List Value} {Q : State → Prop} (C0 : lw_At p s m meth c b Ln xs) (hlo : ∀ q ∈ locs, s.heap.size ≤ q.base) (hd : decode code pc = .ok (.arraylength, 1))
    (kk : W p l e room_1 s m #[Value.ref b] below meth c H locs kc ks Q (F0 m (pc + 1) ls (.int (nI Ln) :: rest))) : W p l e room_1 s m #[Value.ref b] below meth c H locs kc ks Q (F0 m pc ls (.ref b :: rest)) := by
  intro T hT X
  obtain ⟨scr, h1, h2, h3, h4, h5⟩ := lq_kept C0 hlo X
  have hw : W p l e room_1 s m #[Value.ref b] below meth c H locs kc ks Q (F0 m pc ls (.ref b :: rest)) := W.alen (n := nI Ln) C0.1 C0.2.1 (by rw [← hT]; exact h1) h2 (by rw [h4]; rfl) rfl rfl hd kk
  exact hw T hT X
theorem lq_five {n Ln : Nat} (hn : n ≤ 2560) (hL : Ln ≤ 2560) : nI Ln - 5 < nI n ↔ ¬ n + 5 ≤ Ln := by
  rw [Int32.lt_iff_toInt_lt, show (nI Ln - 5).toInt = (Ln : Int) - 5 from pk_sub_toInt (b := 5) (by omega) (by decide), nI_toInt (by omega)]
  omega
theorem lq_head {n : Nat} (hn : n ≤ Ln) (hLn : Ln ≤ 2560) (ho : ¬ n + 5 ≤ Ln → lq_V l Ln xs kc ks 886 [(1, .ref 0), (2, .ref 27), (3, .int (nI n))] [] σ) (hi : n + 5 ≤ Ln → lq_V l Ln xs kc ks 32 [(1, .ref 0), (2, .ref 27), (3, .int (nI n))] [.int (xs n &&& 31)] σ) : lq_V l Ln xs kc ks 18 [(1, .ref 0), (2, .ref 27), (3, .int (nI n))] [] σ := by
  intro p e s m b below meth c D dA H locs ls C0 hK hR hlo hL
  refine lv_iload_n C0.1 C0.2.1 dL_law_18 rfl (lv_at hL 3 rfl) ?_
  refine lv_aload_n C0.1 C0.2.1 dL_law_19 rfl (lv_at hL 0 rfl) ?_
  refine lq_slen C0 hlo dL_law_20 ?_
  refine lv_iconst (v := 5) C0.1 C0.2.1 dL_law_21 (by decide) ?_
  refine lv_isub C0.1 C0.2.1 dL_law_22 ?_
  refine lv_icmp_gt C0.1 C0.2.1 dL_law_23 (tgt := 886) (by decide) (fun h => ?_) (fun h => ?_)
  · exact ho ((lq_five (by omega) hLn).mp h) p e s m b below meth c D dA H locs ls C0 hK hR hlo hL
  · have h5 : n + 5 ≤ Ln := Decidable.not_not.mp (fun q => h ((lq_five (by omega) hLn).mpr q))
    refine lv_aload_n C0.1 C0.2.1 dL_law_26 rfl (lv_at hL 0 rfl) ?_
    refine lv_iload_n C0.1 C0.2.1 dL_law_27 rfl (lv_at hL 3 rfl) ?_
    refine lq_sld C0 hlo (vp_in_nI (by omega) (by omega)) dL_law_28 ?_
    rw [nI_clamp (by omega)]
    refine lv_bipush C0.1 C0.2.1 dL_law_29 (v := 31) (by decide) ?_
    refine lv_iand C0.1 C0.2.1 dL_law_31 ?_
    exact hi h5 p e s m b below meth c D dA H locs ls C0 hK hR hlo hL
theorem lq_next {n : Nat} (kk : lq_V l Ln xs kc ks 18 [(1, .ref 0), (2, .ref 27), (3, .int (nI (n + 5)))] [] σ) : lq_V l Ln xs kc ks 880 [(1, .ref 0), (2, .ref 27), (3, .int (nI n))] [] σ := by
  intro p e s m b below meth c D dA H locs ls C0 hK hR hlo hL
  refine lv_iinc (k := 3) (v := nI (n + 5)) C0.1 C0.2.1 dL_law_880 hL rfl (nI_add n 5) (by decide) rfl (fun ls' h' => ?_)
  refine lv_goto C0.1 C0.2.1 dL_law_883 (tgt := 18) (by decide) ?_
  exact kk p e s m b below meth c D dA H locs ls' C0 hK hR hlo (lv_sub h' [1, 2, 3, 0] rfl)
theorem lq_out (h1 : kc ≤ 600000) (h2 : ks ≤ 7302250) : lq_V l Ln xs kc ks 886 lv [] σ := by
  intro p e s m b below meth c D dA H locs ls C0 hK hR hlo hL
  refine lv_iconst (v := 1) C0.1 C0.2.1 dL_law_886 (by decide) ?_
  refine va_forget hlo ?_
  refine W.widen (k := 600000) (n := 7302250) h1 h2 ?_
  exact lw_ret C0.1 C0.2.1 C0.2.2.1 C0.2.2.2.2.2.2.2.2.1 dL_law_887
set_option maxRecDepth 100000 in
theorem lq_turn {n : Nat} {α : sA} {x : Int32} (Y : sY α) (hC : rC α σ) (hM : rM α σ) (hn : n + 5 ≤ Ln) (hL : Ln ≤ 2560) (hk : kc + 7 ≤ 600000) (hs : ks + 81 ≤ 7302250) (go : ∀ β τ, sY β → rC β τ → rM β τ → lq_V l Ln xs (kc + 7) (ks + 81) 880 [(1, .ref 0), (2, .ref 27), (3, .int (nI n))] [] τ) : lq_V l Ln xs kc ks 32 [(1, .ref 0), (2, .ref 27), (3, .int (nI n))] [.int x] σ := by
  rcases sw_cases x 0 18 with hsw | ⟨kk, hk1, hk2, hsw⟩
  · refine lq_tableOut 880 dL_law_32 hsw (by decide) ?_
    exact lq_widen _ _ (by omega) (by omega) (go _ _ Y hC hM)
  · rcases (show kk = 0 ∨ kk = 1 ∨ kk = 2 ∨ kk = 3 ∨ kk = 4 ∨ kk = 5 ∨ kk = 6 ∨ kk = 7 ∨ kk = 8 ∨ kk = 9 ∨ kk = 10 ∨ kk = 11 ∨ kk = 12 ∨ kk = 13 ∨ kk = 14 ∨ kk = 15 ∨ kk = 16 ∨ kk = 17 ∨ kk = 18 by omega) with rfl | rfl | rfl | rfl | rfl | rfl | rfl | rfl | rfl | rfl | rfl | rfl | rfl | rfl | rfl | rfl | rfl | rfl | rfl
    · subst hsw
      refine lq_tableIn 124 dL_law_32 (by decide) (by decide) (by rfl) (by decide) ?_
      exact lq_case0 Y hC hM hn hL hk hs go
    · subst hsw
      refine lq_tableIn 147 dL_law_32 (by decide) (by decide) (by rfl) (by decide) ?_
      exact lq_case1 Y hC hM hn hL hk hs go
    · subst hsw
      refine lq_tableIn 210 dL_law_32 (by decide) (by decide) (by rfl) (by decide) ?_
      exact lq_case2 Y hC hM hn hL hk hs go
    · subst hsw
      refine lq_tableIn 243 dL_law_32 (by decide) (by decide) (by rfl) (by decide) ?_
      exact lq_case3 Y hC hM hn hL hk hs go
    · subst hsw
      refine lq_tableIn 302 dL_law_32 (by decide) (by decide) (by rfl) (by decide) ?_
      exact lq_case4 Y hC hM hn hL hk hs go
    · subst hsw
      refine lq_tableIn 335 dL_law_32 (by decide) (by decide) (by rfl) (by decide) ?_
      exact lq_case5 Y hC hM hn hL hk hs go
    · subst hsw
      refine lq_tableIn 398 dL_law_32 (by decide) (by decide) (by rfl) (by decide) ?_
      exact lq_case6 Y hC hM hn hL hk hs go
    · subst hsw
      refine lq_tableIn 431 dL_law_32 (by decide) (by decide) (by rfl) (by decide) ?_
      exact lq_case7 Y hC hM hn hL hk hs go
    · subst hsw
      refine lq_tableIn 454 dL_law_32 (by decide) (by decide) (by rfl) (by decide) ?_
      exact lq_case8 Y hC hM hn hL hk hs go
    · subst hsw
      refine lq_tableIn 477 dL_law_32 (by decide) (by decide) (by rfl) (by decide) ?_
      exact lq_case9 Y hC hM hn hL hk hs go
    · subst hsw
      refine lq_tableIn 540 dL_law_32 (by decide) (by decide) (by rfl) (by decide) ?_
      exact lq_case10 Y hC hM hn hL hk hs go
    · subst hsw
      refine lq_tableIn 563 dL_law_32 (by decide) (by decide) (by rfl) (by decide) ?_
      exact lq_case11 Y hC hM hn hL hk hs go
    · subst hsw
      refine lq_tableIn 597 dL_law_32 (by decide) (by decide) (by rfl) (by decide) ?_
      exact lq_case12 Y hC hM hn hL hk hs go
    · subst hsw
      refine lq_tableIn 630 dL_law_32 (by decide) (by decide) (by rfl) (by decide) ?_
      exact lq_case13 Y hC hM hn hL hk hs go
    · subst hsw
      refine lq_tableIn 663 dL_law_32 (by decide) (by decide) (by rfl) (by decide) ?_
      exact lq_case14 Y hC hM hn hL hk hs go
    · subst hsw
      refine lq_tableIn 706 dL_law_32 (by decide) (by decide) (by rfl) (by decide) ?_
      exact lq_case15 Y hC hM hn hL hk hs go
    · subst hsw
      refine lq_tableIn 739 dL_law_32 (by decide) (by decide) (by rfl) (by decide) ?_
      exact lq_case16 Y hC hM hn hL hk hs go
    · subst hsw
      refine lq_tableIn 833 dL_law_32 (by decide) (by decide) (by rfl) (by decide) ?_
      exact lq_case17 Y hC hM hn hL hk hs go
    · subst hsw
      refine lq_tableIn 857 dL_law_32 (by decide) (by decide) (by rfl) (by decide) ?_
      exact lq_case18 Y hC hM hn hL hk hs go
theorem lq_loop (hL : Ln ≤ 2560) : ∀ (f k : Nat) (σ : hm_M) (α : sA), Ln ≤ 5 * k + f → 5 * k ≤ Ln → sY α → rC α σ → rM α σ → lq_V l Ln xs (100 + 7 * k) (4000 + 81 * k) 18 [(1, .ref 0), (2, .ref 27), (3, .int (nI (5 * k)))] [] σ := by
  intro f
  induction f with
  | zero =>
    intro k σ α hf hk Y hC hM
    exact lq_head hk hL (fun _ => lq_out (by omega) (by omega)) (fun h => absurd h (by omega))
  | succ f ih =>
    intro k σ α hf hk Y hC hM
    refine lq_head hk hL (fun _ => lq_out (by omega) (by omega)) (fun h => ?_)
    refine lq_turn Y hC hM h hL (by omega) (by omega) (fun β τ Y' hC' hM' => ?_)
    exact lq_next (ih (k + 1) τ β (by omega) (by omega) Y' hC' hM')
theorem lq_st1 (hd : decode code pc = .ok (.astore_n 1, 1)) (kk : lq_V l Ln xs kc ks (pc + 1) [(1, .ref 0)] st σ) : lq_V l Ln xs kc ks pc [] (.ref 0 :: st) σ := by
  intro p e s m b below meth c D dA H locs ls C0 hK hR hlo hL
  exact lv_astore_n C0.1 C0.2.1 hd rfl hL (by decide) rfl (fun ls' h' => kk p e s m b below meth c D dA H locs ls' C0 hK hR hlo (lv_sub h' [1, 0] rfl))
theorem lq_st2 (hd : decode code pc = .ok (.astore_n 2, 1)) (kk : lq_V l Ln xs kc ks (pc + 1) [(1, .ref 0), (2, .ref 27)] st σ) : lq_V l Ln xs kc ks pc [(1, .ref 0)] (.ref 27 :: st) σ := by
  intro p e s m b below meth c D dA H locs ls C0 hK hR hlo hL
  exact lv_astore_n C0.1 C0.2.1 hd rfl hL (by decide) rfl (fun ls' h' => kk p e s m b below meth c D dA H locs ls' C0 hK hR hlo (lv_sub h' [1, 2, 0] rfl))
theorem lq_st3 {x : Int32} (hd : decode code pc = .ok (.istore_n 3, 1)) (kk : lq_V l Ln xs kc ks (pc + 1) [(1, .ref 0), (2, .ref 27), (3, .int x)] st σ) : lq_V l Ln xs kc ks pc [(1, .ref 0), (2, .ref 27)] (.int x :: st) σ := by
  intro p e s m b below meth c D dA H locs ls C0 hK hR hlo hL
  exact lv_istore_n C0.1 C0.2.1 hd rfl hL (by decide) rfl (fun ls' h' => kk p e s m b below meth c D dA H locs ls' C0 hK hR hlo (lv_sub h' [1, 2, 3, 0] rfl))
def lq_s0 : hm_M := (fun _ _ => 0, fun _ _ => 0, fun _ _ => none, 0)
set_option maxRecDepth 100000 in
theorem lq_start (hL : Ln ≤ 2560) : lq_V l Ln xs 0 0 0 [] [] lq_s0 := by
  refine lq_new lc_RL_7 (ci := 4) rfl rfl (by decide) (by decide) dL_law_0 ?_
  refine lq_dup dL_law_3 rfl ?_
  refine lq_callI lm_RL_9 (k4_init l (fun _ _ => 0) (fun _ _ => 0) (fun _ _ => none) (fun _ _ => rfl)) rfl rfl (by decide) (by decide) (Nat.le_of_ble_eq_true rfl) dL_law_4 ?_
  rintro _ ⟨I, L, R, n⟩ ⟨rfl, i1, i2, i3, i4, i5, i6, i7⟩
  have i7 : n = 27 := i7
  subst i7
  refine lq_st1 dL_law_7 ?_
  refine lq_new lc_RL_10 (ci := 5) rfl rfl (by decide) (by decide) dL_law_8 ?_
  refine lq_dup dL_law_11 rfl ?_
  refine lq_callI lm_RL_12 (r5_init l I L R (fun k => i3 27 k (by decide) (by decide) (by decide))) rfl rfl (by decide) (by decide) (Nat.le_of_ble_eq_true rfl) dL_law_12 ?_
  rintro _ τ ⟨rfl, j1, j2, j3, j4, j5⟩
  refine lq_st2 dL_law_15 ?_
  refine lq_iconst (v := 0) dL_law_16 (by decide) ?_
  refine lq_st3 dL_law_17 ?_
  refine lq_widen (100 + 7 * 0) (4000 + 81 * 0) (by decide) (by decide) ?_
  have hI : ∀ a k, hm_I τ a k = 0 := fun a k => by rw [j1]; exact congrFun (congrFun i1 a) k
  have hLz : ∀ a k, hm_L τ a k = 0 := fun a k => by rw [j2]; exact congrFun (congrFun i2 a) k
  refine lq_loop hL Ln 0 τ sA0 (by omega) (by omega) sY.init (rC.born hI hLz j5 (fun k => (j3 0 k (by decide)).trans (i4 k)) (fun k => (j3 1 k (by decide)).trans (i5 k)) (fun j hj => (j3 8 j (by decide)).trans (i6 j hj))) (rM.born hI hLz j5 j4)
end LL
theorem lq_t {w : Cond} (i : Nat) (h : tables_1[i]? = some w) : w ∈ lw_tbl := List.mem_append_right _ (List.mem_of_getElem? h)
theorem lq_arr {s : State} {args : Array Value} {ty : FieldType} (hp : ∀ cA : ClassId, va_RA s cA ty ↔ s.vm.findClass ("[" ++ ty.toString) = some cA) (h : (Cond.arrayClass ty).before args s = true) : ∃ cA : ClassId, ArrOfT s cA ty ∧ va_RA s cA ty := by
  obtain ⟨cA, kA, comp, h1, h2, h3⟩ := Cond.arrayClass_spec h
  exact ⟨cA, fun n z => ⟨fun k h => (by cases h), kA, h2, comp, h3⟩, (hp cA).mpr h1⟩
theorem lq_arrO {s : State} {args : Array Value} {C : String} (h : (Cond.arrayOver (.object C)).before args s = true) : ∃ cA : ClassId, ArrOfT s cA (.object C) ∧ va_RA s cA (.object C) := by
  obtain ⟨comp, cA, kA, h1, h2, h3, h4, h5⟩ := Cond.arrayOver_spec h
  exact ⟨cA, fun n z => ⟨fun k h => (by cases h), kA, h3, comp, h4⟩, kA, comp, h3, h4, h1, h5⟩
/-- what the tables say of the classes and the arrays -/
theorem lq_K {p : Program} {s : State} {m : MethodId} {meth : Method} {c : Code} {b Ln : Nat} {xs : Nat → Int32} (C0 : lw_At p s m meth c b Ln xs) : ∃ (D : va_G) (dA : Nat → ClassId), hm_K D dA s := by
  have hts := lq_hts C0
  have htl := C0.2.2.2.2.2.1
  obtain ⟨c0, j0, k0⟩ := u_known (C := RX0) (T := TX0) (N := 5) hts hm_in0 (hts _ lc_RX3_30.2.1)
  obtain ⟨c1, j1, k1⟩ := u_known (C := RX1) (T := TX1) (N := 3) hts hm_in1 (hts _ lc_RX2_18.2.1)
  obtain ⟨c2, j2, k2⟩ := u_known (C := RX2) (T := TX2) (N := 12) hts hm_in2 (hts _ lc_RX4_16.2.1)
  obtain ⟨c3, j3, k3⟩ := u_known (C := RX3) (T := TX3) (N := 11) hts hm_in3 (hts _ lc_RX4_9.2.1)
  obtain ⟨c4, j4, k4⟩ := u_known (C := RX4) (T := TX4) (N := 11) hts hm_in4 (hts _ lc_RL_7.2.1)
  obtain ⟨c5, j5, k5⟩ := u_known (C := RX5) (T := TX5) (N := 35) hts hm_in5 (hts _ lc_RL_10.2.1)
  have hB : (Cond.arrayOver (.object RX0)).before #[Value.ref b] s = true := htl _ (lq_t 24 (by decide +kernel))
  have hP : (Cond.arrayOver (.object RX2)).before #[Value.ref b] s = true := htl _ (lq_t 95 (by decide +kernel))
  have hNe : (Cond.methodLinkNest RX3 36 yX0_init RX4).before #[Value.ref b] s = true := htl _ (lq_t 26 (by decide +kernel))
  obtain ⟨a10, g10⟩ := lq_arr (s := s) (ty := .int) (fun _ => Iff.rfl) (hts _ hm_ac_int)
  obtain ⟨a11, g11⟩ := lq_arr (s := s) (ty := .long) (fun _ => Iff.rfl) (hts _ hm_ac_long)
  obtain ⟨a12, g12⟩ := lq_arr (s := s) (ty := .boolean) (fun _ => Iff.rfl) (hts _ hm_ac_boolean)
  obtain ⟨a13, g13⟩ := lq_arrO hB
  obtain ⟨a14, g14⟩ := lq_arrO hP
  refine ⟨(fun k => match k with | 0 => c0 | 1 => c1 | 2 => c2 | 3 => c3 | 4 => c4 | _ => c5, fun k => match k with | 0 => j0 | 1 => j1 | 2 => j2 | 3 => j3 | 4 => j4 | _ => j5), fun k => match k with | 10 => a10 | 11 => a11 | 12 => a12 | 13 => a13 | _ => a14, ⟨fun k q hq => ?_, fun k q hq => ?_⟩, va_AO.of hB, va_AO.of hP, va_Nw.of rfl hNe⟩
  · match k, hq with
    | 0, hq => cases hq; exact k0
    | 1, hq => cases hq; exact k1
    | 2, hq => cases hq; exact k2
    | 3, hq => cases hq; exact k3
    | 4, hq => cases hq; exact k4
    | 5, hq => cases hq; exact k5
    | k + 6, hq => simp [hm_Cl] at hq
  · match k, hq with
    | 0, hq => cases hq; exact g10
    | 1, hq => cases hq; exact g11
    | 2, hq => cases hq; exact g12
    | 3, hq => cases hq; exact g13
    | 4, hq => cases hq; exact g14
    | k + 5, hq => simp [hm_tys] at hq
theorem whole_start {p : Program} {e : Env} {s : State} {m : MethodId} {below : List Frame} {meth : Method} {c : Code} (l : Launch) {b L : Nat} {xs : Nat → Int32} (hL : L ≤ 2560) (C0 : lw_At p s m meth c b L xs) : W p l e room_1 s m #[Value.ref b] below meth c s.heap [] 0 0 (lw_Z below #[Value.ref b] s) (entryFrame m ([Value.ref b] : List Value).toArray 4) := by
  obtain ⟨D, dA, hK⟩ := lq_K C0
  have hl := lv_entry ([.ref b]) (n := 4) (Nat.le_of_ble_eq_true rfl)
  rw [lg_entry_eq]
  generalize (lg_sl ([.ref b]) ++ List.replicate (4 - (lg_sl ([.ref b])).length) Slot.unset).toArray = ls at hl ⊢
  have hl : lv_has ls 4 [(0, .ref b)] := hl
  exact lq_start hL p e s m b below meth c D dA s.heap [] ls C0 hK ⟨rfl, fun a ha => absurd ha (Nat.not_lt_zero _), fun a k _ => ⟨rfl, rfl, rfl⟩⟩ (fun q hq => by cases hq) hl
