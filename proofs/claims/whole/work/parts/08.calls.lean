/-! rows of hm_V: calls by contract -/
section HC
variable {l : Launch} {own : String} {cc : ByteArray} {nL : Nat} {ret : Option FieldType} {ini : Bool} {R : Room} {mc ms : Nat} {Q : Option Value → hm_M → Prop} {kc ks : Nat} {pc : Nat} {L : List Value} {st : List Value} {σ : hm_M}
theorem hm_after {p : Program} {e : Env} {s : State} {m : MethodId} {args : Array Value} {below : List Frame} {meth : Method} {c : Code} {D : va_G} {dA : Nat → ClassId} {base : Nat} {H : Heap} {locs : List Loc} {ls : Array Slot} {mcy msy : Nat} {rest : List Value} {Qy : Option Value → hm_M → Prop} {av : Array Value} {st' : List Value}
    (hC : hm_C D dA own cc nL ret ini p s m args meth c) (hlo : ∀ q ∈ locs, base ≤ q.base) (hL : hm_lo base nL ls L)
    (run : va_Run p l e R s m args below meth c H locs kc ks mcy msy (F0 m pc ls st') (rest.map (hm_c base)) (hm_Qc D dA base Qy av) (fun q => base ≤ q))
    (kk : ∀ r τ, Qy r τ → hm_V l own cc nL ret ini R mc ms Q (kc + mcy) (ks + msy) (pc + 3) L (r.toList ++ rest) τ) : W p l e R s m args below meth c H locs kc ks (MQ below (hm_Qc D dA base Q) args s mc ms (fun q => base ≤ q)) (F0 m pc ls st') := by
  intro T hT X
  obtain ⟨v, st₀, t, T', L', h0, X', hL', e1, e2, ⟨r, τ, ho, hQ, hRep⟩, go⟩ := run T hT X
  have hv : v = r.map (hm_c base) := Outcome.returned.inj ho
  subst hv
  obtain ⟨t2, a1, b1⟩ := kk r τ hQ p e s m args below meth c D dA base t.heap (locs ++ L') ls hC hRep (fun q hq => (List.mem_append.mp hq).elim (hlo q) (hL' q)) hL T' e1 X'
  refine ⟨t2, go t2 ?_, b1⟩
  have e3 : (r.map (hm_c base)).toList ++ rest.map (hm_c base) = (r.toList ++ rest).map (hm_c base) := by
    cases r <;> simp
  show Steps p.tables e below (T'.setTop (F0 m (pc + 3) ls ((r.map (hm_c base)).toList ++ rest.map (hm_c base)))) t2
  rw [e3]
  exact a1
theorem hm_catm (base : Nat) (st : List Value) : ((st.map (hm_c base)).map fun v => v.category) = st.map fun v => v.category := by
  rw [List.map_map]; exact List.map_congr_left fun v _ => hm_c_cat base v
theorem hm_callV {idx a n : Nat} {y : MethodName} {ccy : ByteArray} {nLy : Nat} {rety : Option FieldType} {dy mcy msy ci N : Nat} {T : u_T} {As rest : List Value} {Qy : Option Value → hm_M → Prop} (hM : hm_MV own idx y ccy nLy rety n) (hc : hm_Ct l y ccy nLy rety dy mcy msy (.ref a :: As) σ Qy) (hst : st = As.reverse ++ .ref a :: rest) (hn : As.length = n)
    (hs : hm_S a = (ci, 0)) (hci : hm_Cl[ci]? = some (y.cls, T, N)) (ha : a < hm_n σ) (hR : dy + 1 ≤ R.frames ∧ 8 + (nLy + 11) + 36 * dy ≤ R.locals) (hk : kc + mcy ≤ R.cells ∧ ks + msy ≤ R.slots) (hrest : (rest.map fun v => v.category).sum ≤ 8) (hd : decode cc pc = .ok (.invokevirtual idx, 3))
    (kk : ∀ r τ, Qy r τ → hm_V l own cc nL ret ini R mc ms Q (kc + mcy) (ks + msy) (pc + 3) L (r.toList ++ rest) τ) : hm_V l own cc nL ret ini R mc ms Q kc ks pc L st σ := by
  intro p e s m args below meth c D dA base H locs ls hC hRep hlo hL
  have hts := hC.2.2.2.2.2.2.1
  obtain ⟨⟨m1, m2, m3⟩, m4, m5, m6⟩ := hM
  refine hm_after (av := (Value.ref (base + a) :: As.map (hm_c base)).toArray) hC hlo hL (va_runV (Ts := hm_T) (own := own) (C := y.cls) (b := base + a) (As := As.map (hm_c base)) (n := n) (rm := hm_rm dy mcy msy) (ws := .code y ccy nLy rety :: hm_T) ⟨hC.1, hC.2.1, hC.2.2.1, hC.2.2.2.2.2.1, hts⟩ (hc D dA base) ⟨callB_of n hts (hm_good m1) rfl rfl rfl (hts _ m2) (hts _ m4) m3 ⟨hR.1, hR.2⟩, hts _ m5, hts _ m6⟩ ⟨hm_blind D dA base _ σ, ?_, fun U hU hW => ⟨rfl, by rw [hU]; exact hRep, hC.2.2.2.2.2.2.2.1.warm hW⟩⟩ rfl ?_ hL.1 ?_ (lv_room (by rw [hm_catm]; exact hrest)) hd hk) kk
  · obtain ⟨cell, q1, q2, q3, -⟩ := hRep.obj ha hs hci
    exact ⟨cell, q1, by rw [q3]; rfl, by rw [q2]; exact (hC.2.2.2.2.2.2.2.1.1.1 ci _ hci).2.1⟩
  · rw [List.length_map]; exact hn
  · show st.map (hm_c base) = _
    rw [hst]
    simp [hm_c]
theorem hm_callS {idx n : Nat} {y : MethodName} {ccy : ByteArray} {nLy : Nat} {rety : Option FieldType} {dy mcy msy : Nat} {As rest : List Value} {Qy : Option Value → hm_M → Prop} (hM : hm_MS own idx y ccy nLy rety n) (hc : hm_Ct l y ccy nLy rety dy mcy msy As σ Qy) (hst : st = As.reverse ++ rest) (hn : As.length = n)
    (hR : dy + 1 ≤ R.frames ∧ 8 + (nLy + 11) + 36 * dy ≤ R.locals) (hk : kc + mcy ≤ R.cells ∧ ks + msy ≤ R.slots) (hrest : (rest.map fun v => v.category).sum ≤ 8) (hd : decode cc pc = .ok (.invokestatic idx, 3))
    (kk : ∀ r τ, Qy r τ → hm_V l own cc nL ret ini R mc ms Q (kc + mcy) (ks + msy) (pc + 3) L (r.toList ++ rest) τ) : hm_V l own cc nL ret ini R mc ms Q kc ks pc L st σ := by
  intro p e s m args below meth c D dA base H locs ls hC hRep hlo hL
  have hts := hC.2.2.2.2.2.2.1
  obtain ⟨⟨m1, m2, m3⟩, m4, m5⟩ := hM
  refine hm_after (av := (As.map (hm_c base)).toArray) hC hlo hL (va_runS (Ts := hm_T) (own := own) (As := As.map (hm_c base)) (n := n) (rm := hm_rm dy mcy msy) (ws := .code y ccy nLy rety :: hm_T) ⟨hC.1, hC.2.1, hC.2.2.1, hC.2.2.2.2.2.1, hts⟩ (hc D dA base) ⟨callB_of n hts (hm_good m1) rfl rfl rfl (hts _ m2) (hts _ m4) m3 ⟨hR.1, hR.2⟩, hts _ m5⟩ ⟨hm_blind D dA base _ σ, fun U hU hW => ⟨rfl, by rw [hU]; exact hRep, hC.2.2.2.2.2.2.2.1.warm hW⟩⟩ rfl ?_ hL.1 ?_ (lv_room (by rw [hm_catm]; exact hrest)) hd hk) kk
  · rw [List.length_map]; exact hn
  · show st.map (hm_c base) = _
    rw [hst]
    simp
theorem hm_callI {idx a n : Nat} {y : MethodName} {ccy : ByteArray} {nLy : Nat} {dy mcy msy : Nat} {As rest : List Value} {Qy : Option Value → hm_M → Prop} (hM : hm_MI own idx y ccy nLy n) (hc : hm_Ct l y ccy nLy none dy mcy msy (.ref a :: As) σ Qy) (hst : st = As.reverse ++ .ref a :: rest) (hn : As.length = n)
    (hR : dy + 1 ≤ R.frames ∧ 8 + (nLy + 11) + 36 * dy ≤ R.locals) (hk : kc + mcy ≤ R.cells ∧ ks + msy ≤ R.slots) (hrest : (rest.map fun v => v.category).sum ≤ 8) (hd : decode cc pc = .ok (.invokespecial idx, 3))
    (kk : ∀ r τ, Qy r τ → hm_V l own cc nL ret ini R mc ms Q (kc + mcy) (ks + msy) (pc + 3) L (r.toList ++ rest) τ) : hm_V l own cc nL ret ini R mc ms Q kc ks pc L st σ := by
  intro p e s m args below meth c D dA base H locs ls hC hRep hlo hL
  have hts := hC.2.2.2.2.2.2.1
  obtain ⟨⟨m1, m2, m3⟩, m4, m5, m6⟩ := hM
  refine hm_after (av := (Value.ref (base + a) :: As.map (hm_c base)).toArray) hC hlo hL (va_runI (Ts := hm_T) (own := own) (b := base + a) (As := As.map (hm_c base)) (n := n) (rm := hm_rm dy mcy msy) (ws := .code y ccy nLy none :: hm_T) ⟨hC.1, hC.2.1, hC.2.2.1, hC.2.2.2.2.2.1, hts⟩ (hc D dA base) ⟨callB_of n hts (hm_good m1) rfl rfl rfl (hts _ m2) (hts _ m4) m3 ⟨hR.1, hR.2⟩, m6, hts _ m5⟩ ⟨hm_blind D dA base _ σ, fun U hU hW => ⟨rfl, by rw [hU]; exact hRep, hC.2.2.2.2.2.2.2.1.warm hW⟩⟩ rfl ?_ hL.1 ?_ (lv_room (by rw [hm_catm]; exact hrest)) hd hk) kk
  · rw [List.length_map]; exact hn
  · show st.map (hm_c base) = _
    rw [hst]
    simp [hm_c]
/-- the one constructor that is called as a nest mate's: Bearer's, by Radio -/
theorem hm_callB {a : Nat} {dy mcy msy : Nat} {rest : List Value} {Qy : Option Value → hm_M → Prop} (hi : Cond.instanceMethod yX0_init ∈ hm_T) (ho : own = RX3) (hc : hm_Ct l yX0_init cX0_init 1 none dy mcy msy [.ref a] σ Qy) (hst : st = .ref a :: rest)
    (hR : dy + 1 ≤ R.frames ∧ 8 + (1 + 11) + 36 * dy ≤ R.locals) (hk : kc + mcy ≤ R.cells ∧ ks + msy ≤ R.slots) (hrest : (rest.map fun v => v.category).sum ≤ 8) (hd : decode cc pc = .ok (.invokespecial 36, 3))
    (kk : ∀ r τ, Qy r τ → hm_V l own cc nL ret ini R mc ms Q (kc + mcy) (ks + msy) (pc + 3) L (r.toList ++ rest) τ) : hm_V l own cc nL ret ini R mc ms Q kc ks pc L st σ := by
  intro p e s m args below meth c D dA base H locs ls hC hRep hlo hL
  have hts := hC.2.2.2.2.2.2.1
  subst ho
  obtain ⟨m1, m2, m3⟩ := mc_yX0_init
  refine hm_after (av := (Value.ref (base + a) :: []).toArray) hC hlo hL (va_runIN (Ts := hm_T) (own := RX3) (host := RX4) (b := base + a) (As := []) (n := 0) (rm := hm_rm dy mcy msy) (ws := .code yX0_init cX0_init 1 none :: hm_T) ⟨hC.1, hC.2.1, hC.2.2.1, hC.2.2.2.2.2.1, hts⟩ (hc D dA base) ⟨va_cnB 0 hts (hm_good m1) rfl rfl rfl hC.2.2.2.2.2.2.2.1.2.2.2 (hts _ m2) m3 ⟨hR.1, hR.2⟩, rfl, hts _ hi⟩ ⟨hm_blind D dA base _ σ, fun U hU hW => ⟨rfl, by rw [hU]; exact hRep, hC.2.2.2.2.2.2.2.1.warm hW⟩⟩ rfl rfl hL.1 ?_ (lv_room (by rw [hm_catm]; exact hrest)) hd hk) kk
  show st.map (hm_c base) = _
  rw [hst]
  simp [hm_c]
end HC
