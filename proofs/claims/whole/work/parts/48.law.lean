/-! THE CLAIM OUT OF ONE WALK OF THE LAW'S BODY. Your part is whole_start (and what it stands on); all else here is the same for every law, but numbers. -/
def R_law : String := "CordlessHouseLaw"
def lw_P (b : Addr) (xs : List Int32) (args : Array Value) (s : State) : Prop := args = #[.ref b] ∧ s.IntsAt b xs ∧ xs.length ≤ 2560 ∧ (Jvm.Cond.and given_1 narrow_1).before args s = true
def lw_Q (_ : Array Value) (s : State) (o : Outcome) (t : State) : Prop := o = .returned (some (.int 1)) ∧ Framed s o t [] 600000 7302250
def lw_Z (below : List Frame) (a : Array Value) (s : State) : State → Prop := fun t => ∃ o, t.status = .running ∧ Ended t below o ∧ lw_Q a s o t
/-- the law's own end, with 1 on the stack, nothing written that was there before, its room as the claim has it -/
theorem lw_ret {p : Program} {l : Launch} {e : Env} {s : State} {m : MethodId} {below : List Frame} {meth : Method} {c : Code} {b : Nat} (hx : p.tables.exec = Jvm.exec) (hb : c.code = code) (hr : meth.sig.returnType = ret) (hlocks : meth.locks = false) {pc : Nat} {H : Heap} {ls : Array Slot} (hdg : decode code pc = .ok (.ireturn, 1)) : W p l e room_1 s m #[Value.ref b] below meth c H [] 600000 7302250 (lw_Z below #[Value.ref b] s) (F0 m pc ls [.int 1]) := by
  intro T hT X
  obtain ⟨fs, hret, hrun, hended, hW, hframe⟩ := X.leave (v := some (.int 1)) (hlocks := hlocks) (fun h => by rw [hr] at h; cases h)
  have hmeth' : T.vm.method? m = some meth := X.method'
  refine ⟨T.setFrames fs, ?_, .returned (some (.int 1)), hrun, hended, rfl, ⟨_, rfl⟩, hW, hframe⟩
  jvm_step X.here [X.here.top, hx, hb, hdg, hmeth', hr, ret, narrow_b1]
  (try refine ⟨rfl, ?_⟩); (try refine ⟨rfl, ?_⟩)
  first | (intro acts; rw [hret _ acts rfl rfl rfl]) | rw [hret _ _ rfl rfl rfl]
  exact Steps.refl _
/-- what holds at the law's entry: the machine, the code, the tables' words (any of lw_tbl by 'hts w (by decide +kernel)'), the script of L ints xs at the cell b, what the Statement gives of the start (any of its parts by flat_of_before) -/
def lw_At (p : Program) (s : State) (m : MethodId) (meth : Method) (c : Code) (b L : Nat) (xs : Nat → Int32) : Prop :=
  p.tables.exec = Jvm.exec ∧ c.code = code ∧ meth.sig.returnType = ret ∧ c.maxLocals = 4 ∧ s.vm.findClass R_law = some m.cls ∧ (∀ w ∈ lw_tbl, w.before #[Value.ref b] s = true) ∧ va_X b L xs s s.heap ∧ b < s.heap.size ∧ meth.locks = false ∧ (Jvm.Cond.and given_1 narrow_1).before #[Value.ref b] s = true
/-! THE LAW: a judgement of its own (the script lies below what is made) -/
def lq_V (l : Launch) (Ln : Nat) (xs : Nat → Int32) (kc ks pc : Nat) (lv : List (Nat × Value)) (st : List Value) (σ : hm_M) : Prop :=
  ∀ (p : Program) (e : Env) (s : State) (m : MethodId) (b : Nat) (below : List Frame) (meth : Method) (c : Code) (D : va_G) (dA : Nat → ClassId) (H : Heap) (locs : List Loc) (ls : Array Slot),
    lw_At p s m meth c b Ln xs → hm_K D dA s → hm_Rep D dA s.heap.size σ H → (∀ q ∈ locs, s.heap.size ≤ q.base) → lv_has ls 4 ((0, .ref b) :: lv.map (fun q => (q.1, hm_c s.heap.size q.2))) →
    W p l e room_1 s m #[Value.ref b] below meth c H locs kc ks (lw_Z below #[Value.ref b] s) (F0 m pc ls (st.map (hm_c s.heap.size)))
theorem lq_hts {p : Program} {s : State} {m : MethodId} {meth : Method} {c : Code} {b Ln : Nat} {xs : Nat → Int32} (C0 : lw_At p s m meth c b Ln xs) : ∀ w ∈ hm_T, w.before #[Value.ref b] s = true := fun w hw => C0.2.2.2.2.2.1 w (List.mem_filter.mp hw).1
theorem lq_kept {p : Program} {l : Launch} {e : Env} {s T : State} {m : MethodId} {below : List Frame} {meth : Method} {c : Code} {b Ln : Nat} {xs : Nat → Int32} {locs : List Loc} {kc ks : Nat} (C0 : lw_At p s m meth c b Ln xs) (hlo : ∀ q ∈ locs, s.heap.size ≤ q.base) (X : Stand p l e room_1 s m #[Value.ref b] below meth c T locs kc ks) : va_X b Ln xs s T.heap := by
  obtain ⟨scr, h1, h2⟩ := C0.2.2.2.2.2.2.1
  exact ⟨scr, State.sameButNew.old_cell (Stand.forget (locs := []) X hlo).same h1, h2⟩
section LQ
variable {l : Launch} {Ln : Nat} {xs : Nat → Int32} {kc ks pc : Nat} {lv : List (Nat × Value)} {st : List Value} {σ : hm_M}
theorem lq_widen (kc' ks' : Nat) (h1 : kc ≤ kc') (h2 : ks ≤ ks') (kk : lq_V l Ln xs kc' ks' pc lv st σ) : lq_V l Ln xs kc ks pc lv st σ := by
  intro p e s m b below meth c D dA H locs ls C0 hK hR hlo hL
  exact W.widen h1 h2 (kk p e s m b below meth c D dA H locs ls C0 hK hR hlo hL)
theorem lq_iconst {n : Int} {v : Int32} (hd : decode code pc = .ok (.iconst n, 1)) (hv : Int32.ofInt n = v) (kk : lq_V l Ln xs kc ks (pc + 1) lv (.int v :: st) σ) : lq_V l Ln xs kc ks pc lv st σ := by
  intro p e s m b below meth c D dA H locs ls C0 hK hR hlo hL
  exact lv_iconst C0.1 C0.2.1 hd hv (kk p e s m b below meth c D dA H locs ls C0 hK hR hlo hL)
theorem lq_dup {v : Value} (hd : decode code pc = .ok (.dup, 1)) (hv : v.category = 1) (kk : lq_V l Ln xs kc ks (pc + 1) lv (v :: v :: st) σ) : lq_V l Ln xs kc ks pc lv (v :: st) σ := by
  intro p e s m b below meth c D dA H locs ls C0 hK hR hlo hL
  exact lv_dup C0.1 C0.2.1 hd (by rw [hm_c_cat]; exact hv) (kk p e s m b below meth c D dA H locs ls C0 hK hR hlo hL)
theorem lq_goto {off : Int} (tgt : Nat) (hd : decode code pc = .ok (.goto off, 3)) (ht : (pc : Int) + off = (tgt : Int)) (kk : lq_V l Ln xs kc ks tgt lv st σ) : lq_V l Ln xs kc ks pc lv st σ := by
  intro p e s m b below meth c D dA H locs ls C0 hK hR hlo hL
  exact lv_goto C0.1 C0.2.1 hd ht (kk p e s m b below meth c D dA H locs ls C0 hK hR hlo hL)
theorem lq_a1 {i : Int32} (hd : decode code pc = .ok (.aload_n 1, 1)) (kk : lq_V l Ln xs kc ks (pc + 1) [(1, .ref 0), (2, .ref 27), (3, .int i)] (.ref 0 :: st) σ) : lq_V l Ln xs kc ks pc [(1, .ref 0), (2, .ref 27), (3, .int i)] st σ := by
  intro p e s m b below meth c D dA H locs ls C0 hK hR hlo hL
  exact lv_aload_n C0.1 C0.2.1 hd rfl (lv_at hL 1 rfl) (kk p e s m b below meth c D dA H locs ls C0 hK hR hlo hL)
theorem lq_a2 {i : Int32} (hd : decode code pc = .ok (.aload_n 2, 1)) (kk : lq_V l Ln xs kc ks (pc + 1) [(1, .ref 0), (2, .ref 27), (3, .int i)] (.ref 27 :: st) σ) : lq_V l Ln xs kc ks pc [(1, .ref 0), (2, .ref 27), (3, .int i)] st σ := by
  intro p e s m b below meth c D dA H locs ls C0 hK hR hlo hL
  exact lv_aload_n C0.1 C0.2.1 hd rfl (lv_at hL 2 rfl) (kk p e s m b below meth c D dA H locs ls C0 hK hR hlo hL)
/-- one of the script's ints -/
theorem lq_sld {p : Program} {e : Env} {s : State} {m : MethodId} {b : Nat} {below : List Frame} {meth : Method} {c : Code} {H : Heap} {locs : List Loc} {ls : Array Slot} {rest : List Value} {Q : State → Prop} (C0 : lw_At p s m meth c b Ln xs) (hlo : ∀ q ∈ locs, s.heap.size ≤ q.base) {i : Int32} (hin : vp_in i Ln) (hd : decode code pc = .ok (.iaload, 1))
    (kk : W p l e room_1 s m #[Value.ref b] below meth c H locs kc ks Q (F0 m (pc + 1) ls (.int (xs i.toNatClampNeg) :: rest))) : W p l e room_1 s m #[Value.ref b] below meth c H locs kc ks Q (F0 m pc ls (.int i :: .ref b :: rest)) := by
  intro T hT X
  obtain ⟨scr, h1, h2, h3, h4, h5⟩ := lq_kept C0 hlo X
  have hlt : i.toNatClampNeg < Ln := Nat.not_le.mp fun q => hin (Or.inr q)
  have hw : W p l e room_1 s m #[Value.ref b] below meth c H locs kc ks Q (F0 m pc ls (.int i :: .ref b :: rest)) := W.iald (v := .int (xs i.toNatClampNeg)) C0.1 C0.2.1 (by rw [← hT]; exact h1) h2 h3 (by rw [h4]; exact hin) (h5 _ hlt) rfl rfl hd kk
  exact hw T hT X
theorem lq_arg {n : Nat} {j : Int} (k : Nat) (hj : Int32.ofInt j = nI k) (hk : k < 5) (hn : n + 5 ≤ Ln) (hLn : Ln ≤ 2560) (h0 : decode code pc = .ok (.aload_n 0, 1)) (h1 : decode code (pc + 1) = .ok (.iload_n 3, 1)) (h2 : decode code (pc + 1 + 1) = .ok (.iconst j, 1)) (h3 : decode code (pc + 1 + 1 + 1) = .ok (.iadd, 1)) (h4 : decode code (pc + 1 + 1 + 1 + 1) = .ok (.iaload, 1))
    (kk : lq_V l Ln xs kc ks (pc + 5) [(1, .ref 0), (2, .ref 27), (3, .int (nI n))] (.int (xs (n + k)) :: st) σ) : lq_V l Ln xs kc ks pc [(1, .ref 0), (2, .ref 27), (3, .int (nI n))] st σ := by
  intro p e s m b below meth c D dA H locs ls C0 hK hR hlo hL
  refine lv_aload_n C0.1 C0.2.1 h0 rfl (lv_at hL 0 rfl) ?_
  refine lv_iload_n C0.1 C0.2.1 h1 rfl (lv_at hL 3 rfl) ?_
  refine lv_iconst C0.1 C0.2.1 h2 hj ?_
  refine lv_iadd C0.1 C0.2.1 h3 ?_
  rw [nI_add]
  refine lq_sld C0 hlo (vp_in_nI (by omega) (by omega)) h4 ?_
  rw [nI_clamp (by omega)]
  exact kk p e s m b below meth c D dA H locs ls C0 hK hR hlo hL
def lqL (a b : Int32) : Int64 := (a.toInt64 <<< ((32 : Int32).toInt64 &&& 63)) ||| (b.toInt64 &&& 4294967295)
/-- behind the first of two ints: the long that they spell -/
theorem lq_long {n : Nat} {j : Int} {a : Int32} (k : Nat) (hj : Int32.ofInt j = nI k) (hk : k < 5) (hn : n + 5 ≤ Ln) (hLn : Ln ≤ 2560) (g0 : decode code pc = .ok (.i2l, 1)) (g1 : decode code (pc + 1) = .ok (.bipush 32, 2)) (g2 : decode code (pc + 1 + 2) = .ok (.lshl, 1))
    (h0 : decode code (pc + 1 + 2 + 1) = .ok (.aload_n 0, 1)) (h1 : decode code (pc + 1 + 2 + 1 + 1) = .ok (.iload_n 3, 1)) (h2 : decode code (pc + 1 + 2 + 1 + 1 + 1) = .ok (.iconst j, 1)) (h3 : decode code (pc + 1 + 2 + 1 + 1 + 1 + 1) = .ok (.iadd, 1)) (h4 : decode code (pc + 1 + 2 + 1 + 1 + 1 + 1 + 1) = .ok (.iaload, 1))
    (g3 : decode code (pc + 9) = .ok (.i2l, 1)) (g4 : decode code (pc + 9 + 1) = .ok (.ldc2_w 18, 3)) (g5 : decode code (pc + 9 + 1 + 3) = .ok (.land, 1)) (g6 : decode code (pc + 9 + 1 + 3 + 1) = .ok (.lor, 1))
    (kk : lq_V l Ln xs kc ks (pc + 15) [(1, .ref 0), (2, .ref 27), (3, .int (nI n))] (.long (lqL a (xs (n + k))) :: st) σ) : lq_V l Ln xs kc ks pc [(1, .ref 0), (2, .ref 27), (3, .int (nI n))] (.int a :: st) σ := by
  intro p e s m b below meth c D dA H locs ls C0 hK hR hlo hL
  refine lv_i2l C0.1 C0.2.1 g0 rfl ?_
  refine lv_bipush C0.1 C0.2.1 g1 (v := 32) (by decide) ?_
  refine lv_lshl C0.1 C0.2.1 g2 rfl ?_
  refine lv_aload_n C0.1 C0.2.1 h0 rfl (lv_at hL 0 rfl) ?_
  refine lv_iload_n C0.1 C0.2.1 h1 rfl (lv_at hL 3 rfl) ?_
  refine lv_iconst C0.1 C0.2.1 h2 hj ?_
  refine lv_iadd C0.1 C0.2.1 h3 ?_
  rw [nI_add]
  refine lq_sld C0 hlo (vp_in_nI (by omega) (by omega)) h4 ?_
  rw [nI_clamp (by omega)]
  refine lv_i2l C0.1 C0.2.1 g3 rfl ?_
  refine lv_ldc2 C0.1 C0.2.1 C0.2.2.2.2.1 (lq_hts C0 _ lk_RL_18) g4 ?_
  refine lv_land C0.1 C0.2.1 g5 ?_
  refine lv_lor C0.1 C0.2.1 g6 ?_
  exact kk p e s m b below meth c D dA H locs ls C0 hK hR hlo hL
/-- an int as a yes or no -/
theorem lq_bool {x : Int32} (d0 : decode code pc = .ok (.ifCond .eq 7, 3)) (d1 : decode code (pc + 3) = .ok (.iconst 1, 1)) (d2 : decode code (pc + 3 + 1) = .ok (.goto 4, 3)) (d3 : decode code (pc + 7) = .ok (.iconst 0, 1))
    (kk : lq_V l Ln xs kc ks (pc + 8) lv (.int (bI (decide (x ≠ 0))) :: st) σ) : lq_V l Ln xs kc ks pc lv (.int x :: st) σ := by
  intro p e s m b below meth c D dA H locs ls C0 hK hR hlo hL
  have hk := kk p e s m b below meth c D dA H locs ls C0 hK hR hlo hL
  refine lv_if_eq C0.1 C0.2.1 d0 (tgt := pc + 7) (by omega) (fun h => ?_) (fun h => ?_)
  · refine lv_iconst (v := 0) C0.1 C0.2.1 d3 (by decide) ?_
    rw [show bI (decide (x ≠ 0)) = 0 by simp [h, bI]] at hk
    exact hk
  · refine lv_iconst (v := 1) C0.1 C0.2.1 d1 (by decide) ?_
    refine lv_goto C0.1 C0.2.1 d2 (tgt := pc + 8) (by omega) ?_
    rw [show bI (decide (x ≠ 0)) = 1 by simp [h, bI]] at hk
    exact hk
/-- the two answers are the same -/
theorem lq_cmpI {x : Int32} {off : Int} (tgt : Nat) (hd : decode code pc = .ok (.if_icmp .eq off, 3)) (ht : (pc : Int) + off = (tgt : Int)) (kk : lq_V l Ln xs kc ks tgt lv st σ) : lq_V l Ln xs kc ks pc lv (.int x :: .int x :: st) σ := by
  intro p e s m b below meth c D dA H locs ls C0 hK hR hlo hL
  exact lv_icmp_eq C0.1 C0.2.1 hd ht (fun _ => kk p e s m b below meth c D dA H locs ls C0 hK hR hlo hL) (fun h => absurd rfl h)
theorem lq_cmp0 (x : Int64) : lg_cmp x x = 0 := by
  unfold lg_cmp
  rw [if_neg (fun h => Int64.lt_irrefl h), if_pos rfl]
theorem lq_cmpL {x : Int64} {off : Int} (tgt : Nat) (hd : decode code pc = .ok (.lcmp, 1)) (hd2 : decode code (pc + 1) = .ok (.ifCond .eq off, 3)) (ht : ((pc + 1 : Nat) : Int) + off = (tgt : Int)) (kk : lq_V l Ln xs kc ks tgt lv st σ) : lq_V l Ln xs kc ks pc lv (.long x :: .long x :: st) σ := by
  intro p e s m b below meth c D dA H locs ls C0 hK hR hlo hL
  refine W.lcmp C0.1 C0.2.1 hd ?_
  exact lv_if_eq C0.1 C0.2.1 hd2 ht (fun _ => kk p e s m b below meth c D dA H locs ls C0 hK hR hlo hL) (fun h => absurd (lq_cmp0 x) h)
theorem lq_after {p : Program} {e : Env} {s : State} {m : MethodId} {b : Nat} {below : List Frame} {meth : Method} {c : Code} {D : va_G} {dA : Nat → ClassId} {H : Heap} {locs : List Loc} {ls : Array Slot} {mcy msy : Nat} {rest : List Value} {Qy : Option Value → hm_M → Prop} {av : Array Value} {st' : List Value}
    (C0 : lw_At p s m meth c b Ln xs) (hK : hm_K D dA s) (hlo : ∀ q ∈ locs, s.heap.size ≤ q.base) (hL : lv_has ls 4 ((0, .ref b) :: lv.map (fun q => (q.1, hm_c s.heap.size q.2))))
    (run : va_Run p l e room_1 s m #[Value.ref b] below meth c H locs kc ks mcy msy (F0 m pc ls st') (rest.map (hm_c s.heap.size)) (hm_Qc D dA s.heap.size Qy av) (fun q => s.heap.size ≤ q))
    (kk : ∀ r τ, Qy r τ → lq_V l Ln xs (kc + mcy) (ks + msy) (pc + 3) lv (r.toList ++ rest) τ) : W p l e room_1 s m #[Value.ref b] below meth c H locs kc ks (lw_Z below #[Value.ref b] s) (F0 m pc ls st') := by
  intro T hT X
  obtain ⟨v, st₀, t, T', L', h0, X', hL', e1, e2, ⟨r, τ, ho, hQ, hRep⟩, go⟩ := run T hT X
  have hv : v = r.map (hm_c s.heap.size) := Outcome.returned.inj ho
  subst hv
  obtain ⟨t2, a1, b1⟩ := kk r τ hQ p e s m b below meth c D dA t.heap (locs ++ L') ls C0 hK hRep (fun q hq => (List.mem_append.mp hq).elim (hlo q) (hL' q)) hL T' e1 X'
  refine ⟨t2, go t2 ?_, b1⟩
  have e3 : (r.map (hm_c s.heap.size)).toList ++ rest.map (hm_c s.heap.size) = (r.toList ++ rest).map (hm_c s.heap.size) := by
    cases r <;> simp
  show Steps p.tables e below (T'.setTop (F0 m (pc + 3) ls ((r.map (hm_c s.heap.size)).toList ++ rest.map (hm_c s.heap.size)))) t2
  rw [e3]
  exact a1
theorem lq_callV {idx a n : Nat} {y : MethodName} {ccy : ByteArray} {nLy : Nat} {rety : Option FieldType} {dy mcy msy ci N : Nat} {T : u_T} {As rest : List Value} {Qy : Option Value → hm_M → Prop} (hM : hm_MV RL idx y ccy nLy rety n) (hc : hm_Ct l y ccy nLy rety dy mcy msy (.ref a :: As) σ Qy) (hst : st = As.reverse ++ .ref a :: rest) (hn : As.length = n)
    (hs : hm_S a = (ci, 0)) (hci : hm_Cl[ci]? = some (y.cls, T, N)) (ha : a < hm_n σ) (hR : dy + 1 ≤ 9 ∧ 8 + (nLy + 11) + 36 * dy ≤ 332) (hk : kc + mcy ≤ 600000 ∧ ks + msy ≤ 7302250) (hrest : (rest.map fun v => v.category).sum ≤ 8) (hd : decode code pc = .ok (.invokevirtual idx, 3))
    (kk : ∀ r τ, Qy r τ → lq_V l Ln xs (kc + mcy) (ks + msy) (pc + 3) lv (r.toList ++ rest) τ) : lq_V l Ln xs kc ks pc lv st σ := by
  intro p e s m b below meth c D dA H locs ls C0 hK hRep hlo hL
  have hts := lq_hts C0
  obtain ⟨⟨m1, m2, m3⟩, m4, m5, m6⟩ := hM
  refine lq_after (av := (Value.ref (s.heap.size + a) :: As.map (hm_c s.heap.size)).toArray) C0 hK hlo hL (va_runV (Ts := hm_T) (own := RL) (C := y.cls) (b := s.heap.size + a) (As := As.map (hm_c s.heap.size)) (n := n) (rm := hm_rm dy mcy msy) (ws := .code y ccy nLy rety :: hm_T) ⟨C0.1, C0.2.1, C0.2.2.2.1, C0.2.2.2.2.1, hts⟩ (hc D dA s.heap.size) ⟨callB_of n hts (hm_good m1) rfl rfl rfl (hts _ m2) (hts _ m4) m3 ⟨hR.1, hR.2⟩, hts _ m5, hts _ m6⟩ ⟨hm_blind D dA s.heap.size _ σ, ?_, fun U hU hW => ⟨rfl, by rw [hU]; exact hRep, hK.warm hW⟩⟩ rfl ?_ hL.1 ?_ (lv_room (by rw [hm_catm]; exact hrest)) hd hk) kk
  · obtain ⟨cell, q1, q2, q3, -⟩ := hRep.obj ha hs hci
    exact ⟨cell, q1, by rw [q3]; rfl, by rw [q2]; exact (hK.1.1 ci _ hci).2.1⟩
  · rw [List.length_map]; exact hn
  · show st.map (hm_c s.heap.size) = _
    rw [hst]
    simp [hm_c]
theorem lq_callI {idx a n : Nat} {y : MethodName} {ccy : ByteArray} {nLy : Nat} {dy mcy msy : Nat} {As rest : List Value} {Qy : Option Value → hm_M → Prop} (hM : hm_MI RL idx y ccy nLy n) (hc : hm_Ct l y ccy nLy none dy mcy msy (.ref a :: As) σ Qy) (hst : st = As.reverse ++ .ref a :: rest) (hn : As.length = n)
    (hR : dy + 1 ≤ 9 ∧ 8 + (nLy + 11) + 36 * dy ≤ 332) (hk : kc + mcy ≤ 600000 ∧ ks + msy ≤ 7302250) (hrest : (rest.map fun v => v.category).sum ≤ 8) (hd : decode code pc = .ok (.invokespecial idx, 3))
    (kk : ∀ r τ, Qy r τ → lq_V l Ln xs (kc + mcy) (ks + msy) (pc + 3) lv (r.toList ++ rest) τ) : lq_V l Ln xs kc ks pc lv st σ := by
  intro p e s m b below meth c D dA H locs ls C0 hK hRep hlo hL
  have hts := lq_hts C0
  obtain ⟨⟨m1, m2, m3⟩, m4, m5, m6⟩ := hM
  refine lq_after (av := (Value.ref (s.heap.size + a) :: As.map (hm_c s.heap.size)).toArray) C0 hK hlo hL (va_runI (Ts := hm_T) (own := RL) (b := s.heap.size + a) (As := As.map (hm_c s.heap.size)) (n := n) (rm := hm_rm dy mcy msy) (ws := .code y ccy nLy none :: hm_T) ⟨C0.1, C0.2.1, C0.2.2.2.1, C0.2.2.2.2.1, hts⟩ (hc D dA s.heap.size) ⟨callB_of n hts (hm_good m1) rfl rfl rfl (hts _ m2) (hts _ m4) m3 ⟨hR.1, hR.2⟩, m6, hts _ m5⟩ ⟨hm_blind D dA s.heap.size _ σ, fun U hU hW => ⟨rfl, by rw [hU]; exact hRep, hK.warm hW⟩⟩ rfl ?_ hL.1 ?_ (lv_room (by rw [hm_catm]; exact hrest)) hd hk) kk
  · rw [List.length_map]; exact hn
  · show st.map (hm_c s.heap.size) = _
    rw [hst]
    simp [hm_c]
theorem lq_new {idx ci N : Nat} {C : String} {T : u_T} (hN : hm_NC RL idx C N) (hc : hm_Cl[ci]? = some (C, T, N)) (hs : hm_S (hm_n σ) = (ci, 0)) (h1 : kc + 1 ≤ 600000) (h2 : ks + N ≤ 7302250) (hd : decode code pc = .ok (.new idx, 3)) (kk : lq_V l Ln xs (kc + 1) (ks + N) (pc + 3) lv (.ref (hm_n σ) :: st) (hm_g σ)) : lq_V l Ln xs kc ks pc lv st σ := by
  intro p e s m b below meth c D dA H locs ls C0 hK hR hlo hL
  have hts := lq_hts C0
  have hKn := hK.1.1 ci _ hc
  obtain ⟨hin, hty, hnm⟩ := hm_lay hc
  refine W.newcK C0.1 C0.2.1 C0.2.2.2.2.1 (hts _ hN.1) (hts _ hN.2.1) (hts _ hN.2.2) rfl hd h1 h2 hKn.2.1 hR.1 fun H' kC hkC e1 z1 o1 => ?_
  refine kk p e s m b below meth c D dA H' locs ls C0 hK (hR.grow z1 o1 ?_) hlo hL
  unfold hm_cl
  rw [hs]
  rw [if_pos (show ci < 6 from (List.getElem?_eq_some_iff.mp hc).1)]
  refine ⟨_, hc, (u_born (hm_ty ci) hts hin hKn hkC e1 hty).to fun k hk => ?_⟩
  obtain ⟨z1, z2, z3⟩ := hR.2.2 (hm_n σ) k (Nat.le_refl _)
  have h7 := hm_okt_all hc k hk
  generalize hm_ty ci k = t at h7
  cases t <;> first | (simp [hm_okt] at h7; done) | simp [defaultValue, hm_v, hm_tag, z1, z2, z3, hm_rf]
end LQ
