/-! the rows of hm_V, an instruction each (by program) -/
section RW
variable {l : Launch} {own : String} {cc : ByteArray} {nL : Nat} {ret : Option FieldType} {ini : Bool} {R : Room} {mc ms : Nat} {Q : Option Value → hm_M → Prop} {kc ks : Nat} {pc : Nat} {L : List Value} {st : List Value} {σ : hm_M}
theorem hm_iconst {n : Int} {v : Int32} (hd : decode cc pc = .ok (.iconst n, 1)) (hv : Int32.ofInt n = v) (kk : hm_V l own cc nL ret ini R mc ms Q kc ks (pc + 1) L (.int v :: st) σ) : hm_V l own cc nL ret ini R mc ms Q kc ks pc L (st) σ := by
  intro p e s m args below meth c D dA base H locs ls hC hR hlo hL
  exact lv_iconst hC.1 hC.2.1 hd hv (kk p e s m args below meth c D dA base H locs ls hC hR hlo hL)
theorem hm_bipush {n : Int} {v : Int32} (hd : decode cc pc = .ok (.bipush n, 2)) (hv : (Int8.ofInt n).toInt32 = v) (kk : hm_V l own cc nL ret ini R mc ms Q kc ks (pc + 2) L (.int v :: st) σ) : hm_V l own cc nL ret ini R mc ms Q kc ks pc L (st) σ := by
  intro p e s m args below meth c D dA base H locs ls hC hR hlo hL
  exact lv_bipush hC.1 hC.2.1 hd hv (kk p e s m args below meth c D dA base H locs ls hC hR hlo hL)
theorem hm_sipush {n : Int} {v : Int32} (hd : decode cc pc = .ok (.sipush n, 3)) (hv : (Int16.ofInt n).toInt32 = v) (kk : hm_V l own cc nL ret ini R mc ms Q kc ks (pc + 3) L (.int v :: st) σ) : hm_V l own cc nL ret ini R mc ms Q kc ks pc L (st) σ := by
  intro p e s m args below meth c D dA base H locs ls hC hR hlo hL
  exact lv_sipush hC.1 hC.2.1 hd hv (kk p e s m args below meth c D dA base H locs ls hC hR hlo hL)
theorem hm_lconst {n : Fin 2} {v : Int64} (hd : decode cc pc = .ok (.lconst n, 1)) (hv : Int64.ofNat (n : Nat) = v) (kk : hm_V l own cc nL ret ini R mc ms Q kc ks (pc + 1) L (.long v :: st) σ) : hm_V l own cc nL ret ini R mc ms Q kc ks pc L (st) σ := by
  intro p e s m args below meth c D dA base H locs ls hC hR hlo hL
  exact lv_lconst hC.1 hC.2.1 hd hv (kk p e s m args below meth c D dA base H locs ls hC hR hlo hL)
theorem hm_ldc {i : Nat} {v : Int32} (hd : decode cc pc = .ok (.ldc i, 2)) (hw : Cond.constant own i v ∈ hm_T) (kk : hm_V l own cc nL ret ini R mc ms Q kc ks (pc + 2) L (.int v :: st) σ) : hm_V l own cc nL ret ini R mc ms Q kc ks pc L (st) σ := by
  intro p e s m args below meth c D dA base H locs ls hC hR hlo hL
  exact lv_ldc hC.1 hC.2.1 hC.2.2.2.2.2.1 (hC.2.2.2.2.2.2.1 _ hw) hd (kk p e s m args below meth c D dA base H locs ls hC hR hlo hL)
theorem hm_ldcw {i : Nat} {v : Int32} (hd : decode cc pc = .ok (.ldc_w i, 3)) (hw : Cond.constant own i v ∈ hm_T) (kk : hm_V l own cc nL ret ini R mc ms Q kc ks (pc + 3) L (.int v :: st) σ) : hm_V l own cc nL ret ini R mc ms Q kc ks pc L (st) σ := by
  intro p e s m args below meth c D dA base H locs ls hC hR hlo hL
  exact lv_ldcw hC.1 hC.2.1 hC.2.2.2.2.2.1 (hC.2.2.2.2.2.2.1 _ hw) hd (kk p e s m args below meth c D dA base H locs ls hC hR hlo hL)
theorem hm_ldc2 {i : Nat} {v : Int64} (hd : decode cc pc = .ok (.ldc2_w i, 3)) (hw : Cond.constantLong own i v ∈ hm_T) (kk : hm_V l own cc nL ret ini R mc ms Q kc ks (pc + 3) L (.long v :: st) σ) : hm_V l own cc nL ret ini R mc ms Q kc ks pc L (st) σ := by
  intro p e s m args below meth c D dA base H locs ls hC hR hlo hL
  exact lv_ldc2 hC.1 hC.2.1 hC.2.2.2.2.2.1 (hC.2.2.2.2.2.2.1 _ hw) hd (kk p e s m args below meth c D dA base H locs ls hC hR hlo hL)
theorem hm_null  (hd : decode cc pc = .ok (.aconst_null, 1))  (kk : hm_V l own cc nL ret ini R mc ms Q kc ks (pc + 1) L (.null :: st) σ) : hm_V l own cc nL ret ini R mc ms Q kc ks pc L (st) σ := by
  intro p e s m args below meth c D dA base H locs ls hC hR hlo hL
  exact lv_null hC.1 hC.2.1 hd (kk p e s m args below meth c D dA base H locs ls hC hR hlo hL)
theorem hm_iload_n {k : Fin 4} {x : Int32} (hd : decode cc pc = .ok (.iload_n k, 1)) (hk : L[(k : Nat)]? = some (.int x)) (kk : hm_V l own cc nL ret ini R mc ms Q kc ks (pc + 1) L (.int x :: st) σ) : hm_V l own cc nL ret ini R mc ms Q kc ks pc L (st) σ := by
  intro p e s m args below meth c D dA base H locs ls hC hR hlo hL
  exact lv_iload_n hC.1 hC.2.1 hd rfl (hL.2.2 _ _ hk (fun h => by cases h)) (kk p e s m args below meth c D dA base H locs ls hC hR hlo hL)
theorem hm_iload {i : Nat} {x : Int32} (hd : decode cc pc = .ok (.iload i, 2)) (hk : L[i]? = some (.int x)) (kk : hm_V l own cc nL ret ini R mc ms Q kc ks (pc + 2) L (.int x :: st) σ) : hm_V l own cc nL ret ini R mc ms Q kc ks pc L (st) σ := by
  intro p e s m args below meth c D dA base H locs ls hC hR hlo hL
  exact lv_iload hC.1 hC.2.1 hd (hL.2.2 _ _ hk (fun h => by cases h)) (kk p e s m args below meth c D dA base H locs ls hC hR hlo hL)
theorem hm_lload_n {k : Fin 4} {x : Int64} (hd : decode cc pc = .ok (.lload_n k, 1)) (hk : L[(k : Nat)]? = some (.long x)) (kk : hm_V l own cc nL ret ini R mc ms Q kc ks (pc + 1) L (.long x :: st) σ) : hm_V l own cc nL ret ini R mc ms Q kc ks pc L (st) σ := by
  intro p e s m args below meth c D dA base H locs ls hC hR hlo hL
  exact lv_lload_n hC.1 hC.2.1 hd rfl (hL.2.2 _ _ hk (fun h => by cases h)) (kk p e s m args below meth c D dA base H locs ls hC hR hlo hL)
theorem hm_lload {i : Nat} {x : Int64} (hd : decode cc pc = .ok (.lload i, 2)) (hk : L[i]? = some (.long x)) (kk : hm_V l own cc nL ret ini R mc ms Q kc ks (pc + 2) L (.long x :: st) σ) : hm_V l own cc nL ret ini R mc ms Q kc ks pc L (st) σ := by
  intro p e s m args below meth c D dA base H locs ls hC hR hlo hL
  exact lv_lload hC.1 hC.2.1 hd (hL.2.2 _ _ hk (fun h => by cases h)) (kk p e s m args below meth c D dA base H locs ls hC hR hlo hL)
theorem hm_aload_n {k : Fin 4} {x : Nat} (hd : decode cc pc = .ok (.aload_n k, 1)) (hk : L[(k : Nat)]? = some (.ref x)) (kk : hm_V l own cc nL ret ini R mc ms Q kc ks (pc + 1) L (.ref x :: st) σ) : hm_V l own cc nL ret ini R mc ms Q kc ks pc L (st) σ := by
  intro p e s m args below meth c D dA base H locs ls hC hR hlo hL
  exact lv_aload_n hC.1 hC.2.1 hd rfl (hL.2.2 _ _ hk (fun h => by cases h)) (kk p e s m args below meth c D dA base H locs ls hC hR hlo hL)
theorem hm_aload {i : Nat} {x : Nat} (hd : decode cc pc = .ok (.aload i, 2)) (hk : L[i]? = some (.ref x)) (kk : hm_V l own cc nL ret ini R mc ms Q kc ks (pc + 2) L (.ref x :: st) σ) : hm_V l own cc nL ret ini R mc ms Q kc ks pc L (st) σ := by
  intro p e s m args below meth c D dA base H locs ls hC hR hlo hL
  exact lv_aload hC.1 hC.2.1 hd (hL.2.2 _ _ hk (fun h => by cases h)) (kk p e s m args below meth c D dA base H locs ls hC hR hlo hL)
theorem hm_aloadN_n {k : Fin 4} (hd : decode cc pc = .ok (.aload_n k, 1)) (hk : L[(k : Nat)]? = some .null) (kk : hm_V l own cc nL ret ini R mc ms Q kc ks (pc + 1) L (.null :: st) σ) : hm_V l own cc nL ret ini R mc ms Q kc ks pc L (st) σ := by
  intro p e s m args below meth c D dA base H locs ls hC hR hlo hL
  exact lv_aload_nN hC.1 hC.2.1 hd rfl (hL.2.2 _ _ hk (fun h => by cases h)) (kk p e s m args below meth c D dA base H locs ls hC hR hlo hL)
theorem hm_aloadN {i : Nat} (hd : decode cc pc = .ok (.aload i, 2)) (hk : L[i]? = some .null) (kk : hm_V l own cc nL ret ini R mc ms Q kc ks (pc + 2) L (.null :: st) σ) : hm_V l own cc nL ret ini R mc ms Q kc ks pc L (st) σ := by
  intro p e s m args below meth c D dA base H locs ls hC hR hlo hL
  exact lv_aloadN hC.1 hC.2.1 hd (hL.2.2 _ _ hk (fun h => by cases h)) (kk p e s m args below meth c D dA base H locs ls hC hR hlo hL)
/-- all that is known of the locals, as pairs -/
def hm_al (base : Nat) (L : List Value) : List (Nat × Value) := (List.range L.length).filterMap fun j => match L[j]? with
  | some v => if v = hm_u then none else some (j, hm_c base v)
  | none => none
theorem hm_al_mem {base : Nat} {L : List Value} {j : Nat} {v : Value} (h : L[j]? = some v) (hu : v ≠ hm_u) : (j, hm_c base v) ∈ hm_al base L := by
  refine List.mem_filterMap.mpr ⟨j, List.mem_range.mpr (List.getElem?_eq_some_iff.mp h).1, ?_⟩
  simp [h, hu]
theorem hm_al_of {base : Nat} {L : List Value} {q : Nat × Value} (h : q ∈ hm_al base L) : ∃ v, L[q.1]? = some v ∧ v ≠ hm_u ∧ q.2 = hm_c base v := by
  obtain ⟨j, -, hj⟩ := List.mem_filterMap.mp h
  cases hv : L[j]? with
  | none => simp [hv] at hj
  | some v =>
    by_cases hu : v = hm_u
    · simp [hv, hu] at hj
    · simp [hv, hu] at hj
      subst hj
      exact ⟨v, hv, hu, rfl⟩
theorem hm_lo.has {base nL : Nat} {ls : Array Slot} {L : List Value} (h : hm_lo base nL ls L) : lv_has ls nL (hm_al base L) := ⟨h.1, h.2.1, fun q hq => by
  obtain ⟨v, h1, h2, h3⟩ := hm_al_of hq
  rw [h3]
  exact h.2.2 _ _ h1 h2⟩
/-- the local ahead of i doesn't reach into it -/
def hm_pv (L : List Value) (i : Nat) : Bool := match i with
  | 0 => true
  | j + 1 => match L[j]? with
    | some v => v.category != 2
    | none => true
theorem hm_pv_spec {L : List Value} {i j : Nat} {v : Value} (h : hm_pv L i = true) (hj : j + 1 = i) (hv : L[j]? = some v) : ¬ v.category = 2 := by
  subst hj
  simp [hm_pv, hv] at h
  exact h
theorem hm_lo1 {base nL : Nat} {ls : Array Slot} {L : List Value} {i : Nat} {v : Value} (hp : hm_pv L i = true) (h : lv_has ls nL ((i, hm_c base v) :: (hm_al base L).filter (fun q => !(q.1 == i) && !(q.1 + 1 == i && q.2.category == 2)))) : hm_lo base nL ls (L.set i v) := by
  refine ⟨h.1, h.2.1, fun j w hj hu => ?_⟩
  rw [List.getElem?_set] at hj
  by_cases e : i = j
  · subst e
    rw [if_pos rfl] at hj
    by_cases hl : i < L.length
    · rw [if_pos hl] at hj
      cases hj
      exact h.2.2 _ List.mem_cons_self
    · rw [if_neg hl] at hj; cases hj
  · rw [if_neg e] at hj
    refine h.2.2 (j, hm_c base w) (List.mem_cons_of_mem _ (List.mem_filter.mpr ⟨hm_al_mem hj hu, ?_⟩))
    have h2 : ¬ (j + 1 = i ∧ w.category = 2) := fun q => hm_pv_spec hp q.1 hj q.2
    have h3 : ¬ j = i := fun q => e q.symm
    simp only [hm_c_cat]
    by_cases h4 : j + 1 = i
    · have : ¬ w.category = 2 := fun q => h2 ⟨h4, q⟩
      simp [h3, this]
    · simp [h3, h4]
theorem hm_lo2 {base nL : Nat} {ls : Array Slot} {L : List Value} {i : Nat} {v : Value} (hp : hm_pv L i = true) (h : lv_has ls nL ((i, hm_c base v) :: (hm_al base L).filter (fun q => !(q.1 == i) && (!(q.1 == i + 1) && !(q.1 + 1 == i && q.2.category == 2))))) : hm_lo base nL ls ((L.set i v).set (i + 1) hm_u) := by
  refine ⟨h.1, h.2.1, fun j w hj hu => ?_⟩
  rw [List.getElem?_set] at hj
  by_cases e1 : i + 1 = j
  · rw [if_pos e1] at hj
    split at hj
    · cases hj; exact absurd rfl hu
    · cases hj
  · rw [if_neg e1, List.getElem?_set] at hj
    by_cases e : i = j
    · subst e
      rw [if_pos rfl] at hj
      by_cases hl : i < L.length
      · rw [if_pos hl] at hj
        cases hj
        exact h.2.2 _ List.mem_cons_self
      · rw [if_neg hl] at hj; cases hj
    · rw [if_neg e] at hj
      refine h.2.2 (j, hm_c base w) (List.mem_cons_of_mem _ (List.mem_filter.mpr ⟨hm_al_mem hj hu, ?_⟩))
      have h2 : ¬ (j + 1 = i ∧ w.category = 2) := fun q => hm_pv_spec hp q.1 hj q.2
      have h3 : ¬ j = i := fun q => e q.symm
      have h5 : ¬ j = i + 1 := fun q => e1 q.symm
      simp only [hm_c_cat]
      by_cases h4 : j + 1 = i
      · have : ¬ w.category = 2 := fun q => h2 ⟨h4, q⟩
        simp [h3, h5, this]
      · simp [h3, h4, h5]
theorem hm_istore_n {k : Fin 4} {x : Int32} (hd : decode cc pc = .ok (.istore_n k, 1)) (hn : (k : Nat) < nL) (hp : hm_pv L (k : Nat) = true) (kk : hm_V l own cc nL ret ini R mc ms Q kc ks (pc + 1) (L.set (k : Nat) (.int x)) st σ) : hm_V l own cc nL ret ini R mc ms Q kc ks pc L (.int x :: st) σ := by
  intro p e s m args below meth c D dA base H locs ls hC hR hlo hL
  exact lv_istore_n hC.1 hC.2.1 hd rfl hL.has hn rfl (fun ls' h' => kk p e s m args below meth c D dA base H locs ls' hC hR hlo (hm_lo1 (v := .int x) hp h'))
theorem hm_istore {i : Nat} {x : Int32} (hd : decode cc pc = .ok (.istore i, 2)) (hn : i < nL) (hp : hm_pv L i = true) (kk : hm_V l own cc nL ret ini R mc ms Q kc ks (pc + 2) (L.set i (.int x)) st σ) : hm_V l own cc nL ret ini R mc ms Q kc ks pc L (.int x :: st) σ := by
  intro p e s m args below meth c D dA base H locs ls hC hR hlo hL
  exact lv_istore hC.1 hC.2.1 hd hL.has hn rfl (fun ls' h' => kk p e s m args below meth c D dA base H locs ls' hC hR hlo (hm_lo1 (v := .int x) hp h'))
theorem hm_astore_n {k : Fin 4} {x : Nat} (hd : decode cc pc = .ok (.astore_n k, 1)) (hn : (k : Nat) < nL) (hp : hm_pv L (k : Nat) = true) (kk : hm_V l own cc nL ret ini R mc ms Q kc ks (pc + 1) (L.set (k : Nat) (.ref x)) st σ) : hm_V l own cc nL ret ini R mc ms Q kc ks pc L (.ref x :: st) σ := by
  intro p e s m args below meth c D dA base H locs ls hC hR hlo hL
  exact lv_astore_n hC.1 hC.2.1 hd rfl hL.has hn rfl (fun ls' h' => kk p e s m args below meth c D dA base H locs ls' hC hR hlo (hm_lo1 (v := .ref x) hp h'))
theorem hm_astore {i : Nat} {x : Nat} (hd : decode cc pc = .ok (.astore i, 2)) (hn : i < nL) (hp : hm_pv L i = true) (kk : hm_V l own cc nL ret ini R mc ms Q kc ks (pc + 2) (L.set i (.ref x)) st σ) : hm_V l own cc nL ret ini R mc ms Q kc ks pc L (.ref x :: st) σ := by
  intro p e s m args below meth c D dA base H locs ls hC hR hlo hL
  exact lv_astore hC.1 hC.2.1 hd hL.has hn rfl (fun ls' h' => kk p e s m args below meth c D dA base H locs ls' hC hR hlo (hm_lo1 (v := .ref x) hp h'))
theorem hm_astoreN_n {k : Fin 4} (hd : decode cc pc = .ok (.astore_n k, 1)) (hn : (k : Nat) < nL) (hp : hm_pv L (k : Nat) = true) (kk : hm_V l own cc nL ret ini R mc ms Q kc ks (pc + 1) (L.set (k : Nat) (.null)) st σ) : hm_V l own cc nL ret ini R mc ms Q kc ks pc L (.null :: st) σ := by
  intro p e s m args below meth c D dA base H locs ls hC hR hlo hL
  exact lv_astore_nN hC.1 hC.2.1 hd rfl hL.has hn rfl (fun ls' h' => kk p e s m args below meth c D dA base H locs ls' hC hR hlo (hm_lo1 (v := .null) hp h'))
theorem hm_astoreN {i : Nat} (hd : decode cc pc = .ok (.astore i, 2)) (hn : i < nL) (hp : hm_pv L i = true) (kk : hm_V l own cc nL ret ini R mc ms Q kc ks (pc + 2) (L.set i (.null)) st σ) : hm_V l own cc nL ret ini R mc ms Q kc ks pc L (.null :: st) σ := by
  intro p e s m args below meth c D dA base H locs ls hC hR hlo hL
  exact lv_astoreN hC.1 hC.2.1 hd hL.has hn rfl (fun ls' h' => kk p e s m args below meth c D dA base H locs ls' hC hR hlo (hm_lo1 (v := .null) hp h'))
theorem hm_lstore_n {k : Fin 4} {x : Int64} (hd : decode cc pc = .ok (.lstore_n k, 1)) (hn : (k : Nat) + 1 < nL) (hp : hm_pv L (k : Nat) = true) (kk : hm_V l own cc nL ret ini R mc ms Q kc ks (pc + 1) ((L.set (k : Nat) (.long x)).set ((k : Nat) + 1) hm_u) st σ) : hm_V l own cc nL ret ini R mc ms Q kc ks pc L (.long x :: st) σ := by
  intro p e s m args below meth c D dA base H locs ls hC hR hlo hL
  exact lv_lstore_n hC.1 hC.2.1 hd rfl hL.has hn rfl (fun ls' h' => kk p e s m args below meth c D dA base H locs ls' hC hR hlo (hm_lo2 (v := .long x) hp h'))
theorem hm_lstore {i : Nat} {x : Int64} (hd : decode cc pc = .ok (.lstore i, 2)) (hn : i + 1 < nL) (hp : hm_pv L i = true) (kk : hm_V l own cc nL ret ini R mc ms Q kc ks (pc + 2) ((L.set i (.long x)).set (i + 1) hm_u) st σ) : hm_V l own cc nL ret ini R mc ms Q kc ks pc L (.long x :: st) σ := by
  intro p e s m args below meth c D dA base H locs ls hC hR hlo hL
  exact lv_lstore hC.1 hC.2.1 hd hL.has hn rfl (fun ls' h' => kk p e s m args below meth c D dA base H locs ls' hC hR hlo (hm_lo2 (v := .long x) hp h'))
theorem hm_iinc {i : Nat} {n : Int} {x : Int32} (hd : decode cc pc = .ok (.iinc i n, 3)) (hk : L[i]? = some (.int x)) (v : Int32) (hv : x + Int32.ofInt n = v) (hn : i < nL) (hp : hm_pv L i = true) (kk : hm_V l own cc nL ret ini R mc ms Q kc ks (pc + 3) (L.set i (.int v)) st σ) : hm_V l own cc nL ret ini R mc ms Q kc ks pc L st σ := by
  intro p e s m args below meth c D dA base H locs ls hC hR hlo hL
  obtain ⟨k, hk2⟩ := List.getElem?_of_mem (hm_al_mem (base := base) hk (fun h => by cases h))
  exact lv_iinc (v := v) hC.1 hC.2.1 hd hL.has hk2 hv hn rfl (fun ls' h' => kk p e s m args below meth c D dA base H locs ls' hC hR hlo (hm_lo1 (v := .int v) hp h'))
theorem hm_iadd {x y : Int32} (hd : decode cc pc = .ok (.iadd, 1))  (kk : hm_V l own cc nL ret ini R mc ms Q kc ks (pc + 1) L (.int (x + y) :: st) σ) : hm_V l own cc nL ret ini R mc ms Q kc ks pc L (.int y :: .int x :: st) σ := by
  intro p e s m args below meth c D dA base H locs ls hC hR hlo hL
  exact lv_iadd hC.1 hC.2.1 hd (kk p e s m args below meth c D dA base H locs ls hC hR hlo hL)
theorem hm_isub {x y : Int32} (hd : decode cc pc = .ok (.isub, 1))  (kk : hm_V l own cc nL ret ini R mc ms Q kc ks (pc + 1) L (.int (x - y) :: st) σ) : hm_V l own cc nL ret ini R mc ms Q kc ks pc L (.int y :: .int x :: st) σ := by
  intro p e s m args below meth c D dA base H locs ls hC hR hlo hL
  exact lv_isub hC.1 hC.2.1 hd (kk p e s m args below meth c D dA base H locs ls hC hR hlo hL)
theorem hm_imul {x y : Int32} (hd : decode cc pc = .ok (.imul, 1))  (kk : hm_V l own cc nL ret ini R mc ms Q kc ks (pc + 1) L (.int (x * y) :: st) σ) : hm_V l own cc nL ret ini R mc ms Q kc ks pc L (.int y :: .int x :: st) σ := by
  intro p e s m args below meth c D dA base H locs ls hC hR hlo hL
  exact lv_imul hC.1 hC.2.1 hd (kk p e s m args below meth c D dA base H locs ls hC hR hlo hL)
theorem hm_iand {x y : Int32} (hd : decode cc pc = .ok (.iand, 1))  (kk : hm_V l own cc nL ret ini R mc ms Q kc ks (pc + 1) L (.int (x &&& y) :: st) σ) : hm_V l own cc nL ret ini R mc ms Q kc ks pc L (.int y :: .int x :: st) σ := by
  intro p e s m args below meth c D dA base H locs ls hC hR hlo hL
  exact lv_iand hC.1 hC.2.1 hd (kk p e s m args below meth c D dA base H locs ls hC hR hlo hL)
theorem hm_ior {x y : Int32} (hd : decode cc pc = .ok (.ior, 1))  (kk : hm_V l own cc nL ret ini R mc ms Q kc ks (pc + 1) L (.int (x ||| y) :: st) σ) : hm_V l own cc nL ret ini R mc ms Q kc ks pc L (.int y :: .int x :: st) σ := by
  intro p e s m args below meth c D dA base H locs ls hC hR hlo hL
  exact lv_ior hC.1 hC.2.1 hd (kk p e s m args below meth c D dA base H locs ls hC hR hlo hL)
theorem hm_ixor {x y : Int32} (hd : decode cc pc = .ok (.ixor, 1))  (kk : hm_V l own cc nL ret ini R mc ms Q kc ks (pc + 1) L (.int (x ^^^ y) :: st) σ) : hm_V l own cc nL ret ini R mc ms Q kc ks pc L (.int y :: .int x :: st) σ := by
  intro p e s m args below meth c D dA base H locs ls hC hR hlo hL
  exact lv_ixor hC.1 hC.2.1 hd (kk p e s m args below meth c D dA base H locs ls hC hR hlo hL)
theorem hm_ishl {x y : Int32} (hd : decode cc pc = .ok (.ishl, 1))  (kk : hm_V l own cc nL ret ini R mc ms Q kc ks (pc + 1) L (.int (x <<< (y &&& 31)) :: st) σ) : hm_V l own cc nL ret ini R mc ms Q kc ks pc L (.int y :: .int x :: st) σ := by
  intro p e s m args below meth c D dA base H locs ls hC hR hlo hL
  exact lv_ishl hC.1 hC.2.1 hd (kk p e s m args below meth c D dA base H locs ls hC hR hlo hL)
theorem hm_ishr {x y : Int32} (hd : decode cc pc = .ok (.ishr, 1))  (kk : hm_V l own cc nL ret ini R mc ms Q kc ks (pc + 1) L (.int (x >>> (y &&& 31)) :: st) σ) : hm_V l own cc nL ret ini R mc ms Q kc ks pc L (.int y :: .int x :: st) σ := by
  intro p e s m args below meth c D dA base H locs ls hC hR hlo hL
  exact lv_ishr hC.1 hC.2.1 hd (kk p e s m args below meth c D dA base H locs ls hC hR hlo hL)
theorem hm_idiv {x y : Int32} (hd : decode cc pc = .ok (.idiv, 1)) (hne : ¬ y = 0) (kk : hm_V l own cc nL ret ini R mc ms Q kc ks (pc + 1) L (.int (x / y) :: st) σ) : hm_V l own cc nL ret ini R mc ms Q kc ks pc L (.int y :: .int x :: st) σ := by
  intro p e s m args below meth c D dA base H locs ls hC hR hlo hL
  exact lv_idiv hC.1 hC.2.1 hd hne (kk p e s m args below meth c D dA base H locs ls hC hR hlo hL)
theorem hm_irem {x y : Int32} (hd : decode cc pc = .ok (.irem, 1)) (hne : ¬ y = 0) (kk : hm_V l own cc nL ret ini R mc ms Q kc ks (pc + 1) L (.int (x - x / y * y) :: st) σ) : hm_V l own cc nL ret ini R mc ms Q kc ks pc L (.int y :: .int x :: st) σ := by
  intro p e s m args below meth c D dA base H locs ls hC hR hlo hL
  exact lv_irem hC.1 hC.2.1 hd hne (kk p e s m args below meth c D dA base H locs ls hC hR hlo hL)
theorem hm_iushr {x y : Int32} (hd : decode cc pc = .ok (.iushr, 1))  (kk : hm_V l own cc nL ret ini R mc ms Q kc ks (pc + 1) L (.int ((x.toUInt32 >>> (y.toUInt32 &&& Int32.toUInt32 31)).toInt32) :: st) σ) : hm_V l own cc nL ret ini R mc ms Q kc ks pc L (.int y :: .int x :: st) σ := by
  intro p e s m args below meth c D dA base H locs ls hC hR hlo hL
  exact lv_iushr hC.1 hC.2.1 hd rfl (kk p e s m args below meth c D dA base H locs ls hC hR hlo hL)
theorem hm_ineg {x : Int32} (hd : decode cc pc = .ok (.ineg, 1))  (kk : hm_V l own cc nL ret ini R mc ms Q kc ks (pc + 1) L (.int (-x) :: st) σ) : hm_V l own cc nL ret ini R mc ms Q kc ks pc L (.int x :: st) σ := by
  intro p e s m args below meth c D dA base H locs ls hC hR hlo hL
  exact lv_ineg hC.1 hC.2.1 hd (kk p e s m args below meth c D dA base H locs ls hC hR hlo hL)
theorem hm_ladd {x y : Int64} (hd : decode cc pc = .ok (.ladd, 1))  (kk : hm_V l own cc nL ret ini R mc ms Q kc ks (pc + 1) L (.long (x + y) :: st) σ) : hm_V l own cc nL ret ini R mc ms Q kc ks pc L (.long y :: .long x :: st) σ := by
  intro p e s m args below meth c D dA base H locs ls hC hR hlo hL
  exact lv_ladd hC.1 hC.2.1 hd (kk p e s m args below meth c D dA base H locs ls hC hR hlo hL)
theorem hm_lmul {x y : Int64} (hd : decode cc pc = .ok (.lmul, 1))  (kk : hm_V l own cc nL ret ini R mc ms Q kc ks (pc + 1) L (.long (x * y) :: st) σ) : hm_V l own cc nL ret ini R mc ms Q kc ks pc L (.long y :: .long x :: st) σ := by
  intro p e s m args below meth c D dA base H locs ls hC hR hlo hL
  exact lv_lmul hC.1 hC.2.1 hd (kk p e s m args below meth c D dA base H locs ls hC hR hlo hL)
theorem hm_land {x y : Int64} (hd : decode cc pc = .ok (.land, 1))  (kk : hm_V l own cc nL ret ini R mc ms Q kc ks (pc + 1) L (.long (x &&& y) :: st) σ) : hm_V l own cc nL ret ini R mc ms Q kc ks pc L (.long y :: .long x :: st) σ := by
  intro p e s m args below meth c D dA base H locs ls hC hR hlo hL
  exact lv_land hC.1 hC.2.1 hd (kk p e s m args below meth c D dA base H locs ls hC hR hlo hL)
theorem hm_lor {x y : Int64} (hd : decode cc pc = .ok (.lor, 1))  (kk : hm_V l own cc nL ret ini R mc ms Q kc ks (pc + 1) L (.long (x ||| y) :: st) σ) : hm_V l own cc nL ret ini R mc ms Q kc ks pc L (.long y :: .long x :: st) σ := by
  intro p e s m args below meth c D dA base H locs ls hC hR hlo hL
  exact lv_lor hC.1 hC.2.1 hd (kk p e s m args below meth c D dA base H locs ls hC hR hlo hL)
theorem hm_lxor {x y : Int64} (hd : decode cc pc = .ok (.lxor, 1))  (kk : hm_V l own cc nL ret ini R mc ms Q kc ks (pc + 1) L (.long (x ^^^ y) :: st) σ) : hm_V l own cc nL ret ini R mc ms Q kc ks pc L (.long y :: .long x :: st) σ := by
  intro p e s m args below meth c D dA base H locs ls hC hR hlo hL
  exact lv_lxor hC.1 hC.2.1 hd (kk p e s m args below meth c D dA base H locs ls hC hR hlo hL)
theorem hm_lushr {x : Int64} {y : Int32} (hd : decode cc pc = .ok (.lushr, 1))  (kk : hm_V l own cc nL ret ini R mc ms Q kc ks (pc + 1) L (.long ((x.toUInt64 >>> (y.toInt64.toUInt64 &&& Int64.toUInt64 63)).toInt64) :: st) σ) : hm_V l own cc nL ret ini R mc ms Q kc ks pc L (.int y :: .long x :: st) σ := by
  intro p e s m args below meth c D dA base H locs ls hC hR hlo hL
  exact lv_lushr hC.1 hC.2.1 hd rfl (kk p e s m args below meth c D dA base H locs ls hC hR hlo hL)
theorem hm_lshl {x : Int64} {y : Int32} (hd : decode cc pc = .ok (.lshl, 1))  (kk : hm_V l own cc nL ret ini R mc ms Q kc ks (pc + 1) L (.long (x <<< (y.toInt64 &&& 63)) :: st) σ) : hm_V l own cc nL ret ini R mc ms Q kc ks pc L (.int y :: .long x :: st) σ := by
  intro p e s m args below meth c D dA base H locs ls hC hR hlo hL
  exact lv_lshl hC.1 hC.2.1 hd rfl (kk p e s m args below meth c D dA base H locs ls hC hR hlo hL)
theorem hm_i2l {x : Int32} (hd : decode cc pc = .ok (.i2l, 1))  (kk : hm_V l own cc nL ret ini R mc ms Q kc ks (pc + 1) L (.long (x.toInt64) :: st) σ) : hm_V l own cc nL ret ini R mc ms Q kc ks pc L (.int x :: st) σ := by
  intro p e s m args below meth c D dA base H locs ls hC hR hlo hL
  exact lv_i2l hC.1 hC.2.1 hd rfl (kk p e s m args below meth c D dA base H locs ls hC hR hlo hL)
theorem hm_lcmp {x y : Int64} (hd : decode cc pc = .ok (.lcmp, 1))  (kk : hm_V l own cc nL ret ini R mc ms Q kc ks (pc + 1) L (.int (lg_cmp x y) :: st) σ) : hm_V l own cc nL ret ini R mc ms Q kc ks pc L (.long y :: .long x :: st) σ := by
  intro p e s m args below meth c D dA base H locs ls hC hR hlo hL
  exact W.lcmp hC.1 hC.2.1 hd (kk p e s m args below meth c D dA base H locs ls hC hR hlo hL)
theorem hm_dup {v : Value} (hd : decode cc pc = .ok (.dup, 1)) (hv : v.category = 1) (kk : hm_V l own cc nL ret ini R mc ms Q kc ks (pc + 1) L (v :: v :: st) σ) : hm_V l own cc nL ret ini R mc ms Q kc ks pc L (v :: st) σ := by
  intro p e s m args below meth c D dA base H locs ls hC hR hlo hL
  exact lv_dup hC.1 hC.2.1 hd (by rw [hm_c_cat]; exact hv) (kk p e s m args below meth c D dA base H locs ls hC hR hlo hL)
theorem hm_pop {v : Value} (hd : decode cc pc = .ok (.pop, 1)) (hv : v.category = 1) (kk : hm_V l own cc nL ret ini R mc ms Q kc ks (pc + 1) L (st) σ) : hm_V l own cc nL ret ini R mc ms Q kc ks pc L (v :: st) σ := by
  intro p e s m args below meth c D dA base H locs ls hC hR hlo hL
  exact lv_pop hC.1 hC.2.1 hd (by rw [hm_c_cat]; exact hv) (kk p e s m args below meth c D dA base H locs ls hC hR hlo hL)
theorem hm_pop2 {v : Value} (hd : decode cc pc = .ok (.pop2, 1)) (hv : v.category = 2) (kk : hm_V l own cc nL ret ini R mc ms Q kc ks (pc + 1) L (st) σ) : hm_V l own cc nL ret ini R mc ms Q kc ks pc L (v :: st) σ := by
  intro p e s m args below meth c D dA base H locs ls hC hR hlo hL
  exact lv_pop2_2 hC.1 hC.2.1 hd (by rw [hm_c_cat]; exact hv) (kk p e s m args below meth c D dA base H locs ls hC hR hlo hL)
theorem hm_dup2 {v w : Value} (hd : decode cc pc = .ok (.dup2, 1)) (hv : v.category = 1) (hw : w.category = 1) (kk : hm_V l own cc nL ret ini R mc ms Q kc ks (pc + 1) L (v :: w :: v :: w :: st) σ) : hm_V l own cc nL ret ini R mc ms Q kc ks pc L (v :: w :: st) σ := by
  intro p e s m args below meth c D dA base H locs ls hC hR hlo hL
  exact lv_dup2_11 hC.1 hC.2.1 hd (by rw [hm_c_cat]; exact hv) (by rw [hm_c_cat]; exact hw) (kk p e s m args below meth c D dA base H locs ls hC hR hlo hL)
theorem hm_if_eq {x : Int32} {off : Int} (tgt : Nat) (hd : decode cc pc = .ok (.ifCond .eq off, 3)) (ht : (pc : Int) + off = (tgt : Int)) (kt : (x = 0) → hm_V l own cc nL ret ini R mc ms Q kc ks tgt L st σ) (kf : ¬ (x = 0) → hm_V l own cc nL ret ini R mc ms Q kc ks (pc + 3) L st σ) : hm_V l own cc nL ret ini R mc ms Q kc ks pc L (.int x :: st) σ := by
  intro p e s m args below meth c D dA base H locs ls hC hR hlo hL
  exact lv_if_eq hC.1 hC.2.1 hd ht (fun h => kt h p e s m args below meth c D dA base H locs ls hC hR hlo hL) (fun h => kf h p e s m args below meth c D dA base H locs ls hC hR hlo hL)
theorem hm_icmp_eq {x y : Int32} {off : Int} (tgt : Nat) (hd : decode cc pc = .ok (.if_icmp .eq off, 3)) (ht : (pc : Int) + off = (tgt : Int)) (kt : (x = y) → hm_V l own cc nL ret ini R mc ms Q kc ks tgt L st σ) (kf : ¬ (x = y) → hm_V l own cc nL ret ini R mc ms Q kc ks (pc + 3) L st σ) : hm_V l own cc nL ret ini R mc ms Q kc ks pc L (.int y :: .int x :: st) σ := by
  intro p e s m args below meth c D dA base H locs ls hC hR hlo hL
  exact lv_icmp_eq hC.1 hC.2.1 hd ht (fun h => kt h p e s m args below meth c D dA base H locs ls hC hR hlo hL) (fun h => kf h p e s m args below meth c D dA base H locs ls hC hR hlo hL)
theorem hm_if_ne {x : Int32} {off : Int} (tgt : Nat) (hd : decode cc pc = .ok (.ifCond .ne off, 3)) (ht : (pc : Int) + off = (tgt : Int)) (kt : (¬ x = 0) → hm_V l own cc nL ret ini R mc ms Q kc ks tgt L st σ) (kf : (x = 0) → hm_V l own cc nL ret ini R mc ms Q kc ks (pc + 3) L st σ) : hm_V l own cc nL ret ini R mc ms Q kc ks pc L (.int x :: st) σ := by
  intro p e s m args below meth c D dA base H locs ls hC hR hlo hL
  exact lv_if_ne hC.1 hC.2.1 hd ht (fun h => kt h p e s m args below meth c D dA base H locs ls hC hR hlo hL) (fun h => kf h p e s m args below meth c D dA base H locs ls hC hR hlo hL)
theorem hm_icmp_ne {x y : Int32} {off : Int} (tgt : Nat) (hd : decode cc pc = .ok (.if_icmp .ne off, 3)) (ht : (pc : Int) + off = (tgt : Int)) (kt : (¬ x = y) → hm_V l own cc nL ret ini R mc ms Q kc ks tgt L st σ) (kf : (x = y) → hm_V l own cc nL ret ini R mc ms Q kc ks (pc + 3) L st σ) : hm_V l own cc nL ret ini R mc ms Q kc ks pc L (.int y :: .int x :: st) σ := by
  intro p e s m args below meth c D dA base H locs ls hC hR hlo hL
  exact lv_icmp_ne hC.1 hC.2.1 hd ht (fun h => kt h p e s m args below meth c D dA base H locs ls hC hR hlo hL) (fun h => kf h p e s m args below meth c D dA base H locs ls hC hR hlo hL)
theorem hm_if_lt {x : Int32} {off : Int} (tgt : Nat) (hd : decode cc pc = .ok (.ifCond .lt off, 3)) (ht : (pc : Int) + off = (tgt : Int)) (kt : (x < 0) → hm_V l own cc nL ret ini R mc ms Q kc ks tgt L st σ) (kf : ¬ (x < 0) → hm_V l own cc nL ret ini R mc ms Q kc ks (pc + 3) L st σ) : hm_V l own cc nL ret ini R mc ms Q kc ks pc L (.int x :: st) σ := by
  intro p e s m args below meth c D dA base H locs ls hC hR hlo hL
  exact lv_if_lt hC.1 hC.2.1 hd ht (fun h => kt h p e s m args below meth c D dA base H locs ls hC hR hlo hL) (fun h => kf h p e s m args below meth c D dA base H locs ls hC hR hlo hL)
theorem hm_icmp_lt {x y : Int32} {off : Int} (tgt : Nat) (hd : decode cc pc = .ok (.if_icmp .lt off, 3)) (ht : (pc : Int) + off = (tgt : Int)) (kt : (x < y) → hm_V l own cc nL ret ini R mc ms Q kc ks tgt L st σ) (kf : ¬ (x < y) → hm_V l own cc nL ret ini R mc ms Q kc ks (pc + 3) L st σ) : hm_V l own cc nL ret ini R mc ms Q kc ks pc L (.int y :: .int x :: st) σ := by
  intro p e s m args below meth c D dA base H locs ls hC hR hlo hL
  exact lv_icmp_lt hC.1 hC.2.1 hd ht (fun h => kt h p e s m args below meth c D dA base H locs ls hC hR hlo hL) (fun h => kf h p e s m args below meth c D dA base H locs ls hC hR hlo hL)
theorem hm_if_ge {x : Int32} {off : Int} (tgt : Nat) (hd : decode cc pc = .ok (.ifCond .ge off, 3)) (ht : (pc : Int) + off = (tgt : Int)) (kt : (0 ≤ x) → hm_V l own cc nL ret ini R mc ms Q kc ks tgt L st σ) (kf : ¬ (0 ≤ x) → hm_V l own cc nL ret ini R mc ms Q kc ks (pc + 3) L st σ) : hm_V l own cc nL ret ini R mc ms Q kc ks pc L (.int x :: st) σ := by
  intro p e s m args below meth c D dA base H locs ls hC hR hlo hL
  exact lv_if_ge hC.1 hC.2.1 hd ht (fun h => kt h p e s m args below meth c D dA base H locs ls hC hR hlo hL) (fun h => kf h p e s m args below meth c D dA base H locs ls hC hR hlo hL)
theorem hm_icmp_ge {x y : Int32} {off : Int} (tgt : Nat) (hd : decode cc pc = .ok (.if_icmp .ge off, 3)) (ht : (pc : Int) + off = (tgt : Int)) (kt : (y ≤ x) → hm_V l own cc nL ret ini R mc ms Q kc ks tgt L st σ) (kf : ¬ (y ≤ x) → hm_V l own cc nL ret ini R mc ms Q kc ks (pc + 3) L st σ) : hm_V l own cc nL ret ini R mc ms Q kc ks pc L (.int y :: .int x :: st) σ := by
  intro p e s m args below meth c D dA base H locs ls hC hR hlo hL
  exact lv_icmp_ge hC.1 hC.2.1 hd ht (fun h => kt h p e s m args below meth c D dA base H locs ls hC hR hlo hL) (fun h => kf h p e s m args below meth c D dA base H locs ls hC hR hlo hL)
theorem hm_if_gt {x : Int32} {off : Int} (tgt : Nat) (hd : decode cc pc = .ok (.ifCond .gt off, 3)) (ht : (pc : Int) + off = (tgt : Int)) (kt : (0 < x) → hm_V l own cc nL ret ini R mc ms Q kc ks tgt L st σ) (kf : ¬ (0 < x) → hm_V l own cc nL ret ini R mc ms Q kc ks (pc + 3) L st σ) : hm_V l own cc nL ret ini R mc ms Q kc ks pc L (.int x :: st) σ := by
  intro p e s m args below meth c D dA base H locs ls hC hR hlo hL
  exact lv_if_gt hC.1 hC.2.1 hd ht (fun h => kt h p e s m args below meth c D dA base H locs ls hC hR hlo hL) (fun h => kf h p e s m args below meth c D dA base H locs ls hC hR hlo hL)
theorem hm_icmp_gt {x y : Int32} {off : Int} (tgt : Nat) (hd : decode cc pc = .ok (.if_icmp .gt off, 3)) (ht : (pc : Int) + off = (tgt : Int)) (kt : (y < x) → hm_V l own cc nL ret ini R mc ms Q kc ks tgt L st σ) (kf : ¬ (y < x) → hm_V l own cc nL ret ini R mc ms Q kc ks (pc + 3) L st σ) : hm_V l own cc nL ret ini R mc ms Q kc ks pc L (.int y :: .int x :: st) σ := by
  intro p e s m args below meth c D dA base H locs ls hC hR hlo hL
  exact lv_icmp_gt hC.1 hC.2.1 hd ht (fun h => kt h p e s m args below meth c D dA base H locs ls hC hR hlo hL) (fun h => kf h p e s m args below meth c D dA base H locs ls hC hR hlo hL)
theorem hm_if_le {x : Int32} {off : Int} (tgt : Nat) (hd : decode cc pc = .ok (.ifCond .le off, 3)) (ht : (pc : Int) + off = (tgt : Int)) (kt : (x ≤ 0) → hm_V l own cc nL ret ini R mc ms Q kc ks tgt L st σ) (kf : ¬ (x ≤ 0) → hm_V l own cc nL ret ini R mc ms Q kc ks (pc + 3) L st σ) : hm_V l own cc nL ret ini R mc ms Q kc ks pc L (.int x :: st) σ := by
  intro p e s m args below meth c D dA base H locs ls hC hR hlo hL
  exact lv_if_le hC.1 hC.2.1 hd ht (fun h => kt h p e s m args below meth c D dA base H locs ls hC hR hlo hL) (fun h => kf h p e s m args below meth c D dA base H locs ls hC hR hlo hL)
theorem hm_icmp_le {x y : Int32} {off : Int} (tgt : Nat) (hd : decode cc pc = .ok (.if_icmp .le off, 3)) (ht : (pc : Int) + off = (tgt : Int)) (kt : (x ≤ y) → hm_V l own cc nL ret ini R mc ms Q kc ks tgt L st σ) (kf : ¬ (x ≤ y) → hm_V l own cc nL ret ini R mc ms Q kc ks (pc + 3) L st σ) : hm_V l own cc nL ret ini R mc ms Q kc ks pc L (.int y :: .int x :: st) σ := by
  intro p e s m args below meth c D dA base H locs ls hC hR hlo hL
  exact lv_icmp_le hC.1 hC.2.1 hd ht (fun h => kt h p e s m args below meth c D dA base H locs ls hC hR hlo hL) (fun h => kf h p e s m args below meth c D dA base H locs ls hC hR hlo hL)
theorem hm_goto {off : Int} (tgt : Nat) (hd : decode cc pc = .ok (.goto off, 3)) (ht : (pc : Int) + off = (tgt : Int)) (kk : hm_V l own cc nL ret ini R mc ms Q kc ks tgt L st σ) : hm_V l own cc nL ret ini R mc ms Q kc ks pc L st σ := by
  intro p e s m args below meth c D dA base H locs ls hC hR hlo hL
  exact lv_goto hC.1 hC.2.1 hd ht (kk p e s m args below meth c D dA base H locs ls hC hR hlo hL)
theorem hm_ifnonnull {x : Nat} {off : Int} (tgt : Nat) (hd : decode cc pc = .ok (.ifnonnull off, 3)) (ht : (pc : Int) + off = (tgt : Int)) (kk : hm_V l own cc nL ret ini R mc ms Q kc ks tgt L st σ) : hm_V l own cc nL ret ini R mc ms Q kc ks pc L (.ref x :: st) σ := by
  intro p e s m args below meth c D dA base H locs ls hC hR hlo hL
  exact lv_ifnonnull hC.1 hC.2.1 hd ht (kk p e s m args below meth c D dA base H locs ls hC hR hlo hL)
theorem hm_ifnonnullN {off : Int} (hd : decode cc pc = .ok (.ifnonnull off, 3)) (kk : hm_V l own cc nL ret ini R mc ms Q kc ks (pc + 3) L st σ) : hm_V l own cc nL ret ini R mc ms Q kc ks pc L (.null :: st) σ := by
  intro p e s m args below meth c D dA base H locs ls hC hR hlo hL
  exact lv_ifnonnullN hC.1 hC.2.1 hd (kk p e s m args below meth c D dA base H locs ls hC hR hlo hL)
theorem hm_ifnull {x : Nat} {off : Int} (hd : decode cc pc = .ok (.ifnull off, 3)) (kk : hm_V l own cc nL ret ini R mc ms Q kc ks (pc + 3) L st σ) : hm_V l own cc nL ret ini R mc ms Q kc ks pc L (.ref x :: st) σ := by
  intro p e s m args below meth c D dA base H locs ls hC hR hlo hL
  exact lv_ifnull hC.1 hC.2.1 hd (kk p e s m args below meth c D dA base H locs ls hC hR hlo hL)
theorem hm_ifnullN {off : Int} (tgt : Nat) (hd : decode cc pc = .ok (.ifnull off, 3)) (ht : (pc : Int) + off = (tgt : Int)) (kk : hm_V l own cc nL ret ini R mc ms Q kc ks tgt L st σ) : hm_V l own cc nL ret ini R mc ms Q kc ks pc L (.null :: st) σ := by
  intro p e s m args below meth c D dA base H locs ls hC hR hlo hL
  exact lv_ifnullN hC.1 hC.2.1 hd ht (kk p e s m args below meth c D dA base H locs ls hC hR hlo hL)
theorem hm_tableIn {dflt lo hi : Int} {offs : Array Int} {len : Nat} {x : Int32} {off : Int} (tgt : Nat) (hd : decode cc pc = .ok (.tableswitch dflt lo hi offs, len)) (h1 : ¬ x.toInt < lo) (h2 : ¬ hi < x.toInt) (ho : offs[(x.toInt - lo).toNat]? = some off) (ht : (pc : Int) + off = (tgt : Int)) (kk : hm_V l own cc nL ret ini R mc ms Q kc ks tgt L st σ) : hm_V l own cc nL ret ini R mc ms Q kc ks pc L (.int x :: st) σ := by
  intro p e s m args below meth c D dA base H locs ls hC hR hlo hL
  exact lv_tableIn hC.1 hC.2.1 hd h1 h2 ho ht (kk p e s m args below meth c D dA base H locs ls hC hR hlo hL)
theorem hm_tableOut {dflt lo hi : Int} {offs : Array Int} {len : Nat} {x : Int32} (tgt : Nat) (hd : decode cc pc = .ok (.tableswitch dflt lo hi offs, len)) (h : x.toInt < lo ∨ hi < x.toInt) (ht : (pc : Int) + dflt = (tgt : Int)) (kk : hm_V l own cc nL ret ini R mc ms Q kc ks tgt L st σ) : hm_V l own cc nL ret ini R mc ms Q kc ks pc L (.int x :: st) σ := by
  intro p e s m args below meth c D dA base H locs ls hC hR hlo hL
  exact lv_tableOut hC.1 hC.2.1 hd h ht (kk p e s m args below meth c D dA base H locs ls hC hR hlo hL)
theorem hm_lookup {dflt : Int} {ps : Array (Int × Int)} {len : Nat} {x : Int32} {off : Int} (tgt : Nat) (hd : decode cc pc = .ok (.lookupswitch dflt ps, len)) (hp : (ps.toList.zip (ps.toList.drop 1)).all (fun (a, next) => a.1 < next.1) = true) (ho : Op.lookupswitch.offset ps.toList dflt x.toInt = off) (ht : (pc : Int) + off = (tgt : Int)) (kk : hm_V l own cc nL ret ini R mc ms Q kc ks tgt L st σ) : hm_V l own cc nL ret ini R mc ms Q kc ks pc L (.int x :: st) σ := by
  intro p e s m args below meth c D dA base H locs ls hC hR hlo hL
  exact lv_lookup hC.1 hC.2.1 hd hp ho ht (kk p e s m args below meth c D dA base H locs ls hC hR hlo hL)
theorem hm_iret {x : Int32} (hd : decode cc pc = .ok (.ireturn, 1)) (hr : ret = some .int) (h1 : kc ≤ mc) (h2 : ks ≤ ms) (hq : Q (some (.int x)) σ) : hm_V l own cc nL ret ini R mc ms Q kc ks pc L [.int x] σ := by
  intro p e s m args below meth c D dA base H locs ls hC hR hlo hL
  refine W.widen (k := mc) (n := ms) h1 h2 ?_
  exact W.iret hC.1 hC.2.1 (hC.2.2.2.1.trans hr) (fun t ht hW => ⟨(some (.int x)), σ, rfl, hq, by rw [ht]; exact hR⟩) hlo hd hC.2.2.2.2.1
theorem hm_lret {x : Int64} (hd : decode cc pc = .ok (.lreturn, 1)) (hr : ret = some .long) (h1 : kc ≤ mc) (h2 : ks ≤ ms) (hq : Q (some (.long x)) σ) : hm_V l own cc nL ret ini R mc ms Q kc ks pc L [.long x] σ := by
  intro p e s m args below meth c D dA base H locs ls hC hR hlo hL
  refine W.widen (k := mc) (n := ms) h1 h2 ?_
  exact W.lret hC.1 hC.2.1 (hC.2.2.2.1.trans hr) (fun t ht hW => ⟨(some (.long x)), σ, rfl, hq, by rw [ht]; exact hR⟩) hlo hd hC.2.2.2.2.1
theorem hm_vret (hd : decode cc pc = .ok (.return_, 1)) (hr : ret = none) (h1 : kc ≤ mc) (h2 : ks ≤ ms) (hq : Q none σ) : hm_V l own cc nL ret ini R mc ms Q kc ks pc L [] σ := by
  intro p e s m args below meth c D dA base H locs ls hC hR hlo hL
  refine W.widen (k := mc) (n := ms) h1 h2 ?_
  exact W.vret hC.1 hC.2.1 (hC.2.2.2.1.trans hr) (fun t ht hW => ⟨none, σ, rfl, hq, by rw [ht]; exact hR⟩) hlo hd hC.2.2.2.2.1
theorem hm_zret {x : Int32} (hd : decode cc pc = .ok (.ireturn, 1)) (hr : ret = some .boolean) (h1 : kc ≤ mc) (h2 : ks ≤ ms) (hz : x = 0 ∨ x = 1) (hq : Q (some (.int x)) σ) : hm_V l own cc nL ret ini R mc ms Q kc ks pc L [.int x] σ := by
  intro p e s m args below meth c D dA base H locs ls hC hR hlo hL
  refine W.widen (k := mc) (n := ms) h1 h2 ?_
  exact W.zret hC.1 hC.2.1 (hC.2.2.2.1.trans hr) (by rcases hz with rfl | rfl <;> rfl) (fun t ht hW => ⟨(some (.int x)), σ, rfl, hq, by rw [ht]; exact hR⟩) hlo hd hC.2.2.2.2.1
theorem hm_aret {n : String} {v : Value} (hd : decode cc pc = .ok (.areturn, 1)) (hr : ret = some (.object n)) (h1 : kc ≤ mc) (h2 : ks ≤ ms) (hv : v = .null ∨ ∃ a, v = .ref a) (hq : Q (some v) σ) : hm_V l own cc nL ret ini R mc ms Q kc ks pc L [v] σ := by
  intro p e s m args below meth c D dA base H locs ls hC hR hlo hL
  refine W.widen (k := mc) (n := ms) h1 h2 ?_
  exact W.aret hC.1 hC.2.1 (hC.2.2.2.1.trans hr) (Or.inl ⟨n, rfl⟩) (by rcases hv with rfl | ⟨a, rfl⟩; exact Or.inl rfl; exact Or.inr ⟨_, rfl⟩) (fun t ht hW => ⟨some v, σ, rfl, hq, by rw [ht]; exact hR⟩) hlo hd hC.2.2.2.2.1
theorem hm_widen (kc' ks' : Nat) (h1 : kc ≤ kc') (h2 : ks ≤ ks') (kk : hm_V l own cc nL ret ini R mc ms Q kc' ks' pc L st σ) : hm_V l own cc nL ret ini R mc ms Q kc ks pc L st σ := by
  intro p e s m args below meth c D dA base H locs ls hC hR hlo hL
  exact W.widen h1 h2 (kk p e s m args below meth c D dA base H locs ls hC hR hlo hL)
theorem hm_sub (L' : List Value) (h : ∀ (j : Nat) (v : Value), L'[j]? = some v → v ≠ hm_u → L[j]? = some v) (kk : hm_V l own cc nL ret ini R mc ms Q kc ks pc L' st σ) : hm_V l own cc nL ret ini R mc ms Q kc ks pc L st σ := by
  intro p e s m args below meth c D dA base H locs ls hC hR hlo hL
  exact kk p e s m args below meth c D dA base H locs ls hC hR hlo ⟨hL.1, hL.2.1, fun j v hj hu => hL.2.2 j v (h j v hj hu) hu⟩
end RW
