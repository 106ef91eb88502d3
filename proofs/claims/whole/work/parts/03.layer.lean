/-! A LAYER OF MY OWN OVER THE KIT'S W: the whole made heap as one abstract memory by (relative) address and slot; a judgement hm_V that speaks of it alone. -/
abbrev hm_M : Type := (Nat → Nat → Int32) × (Nat → Nat → Int64) × (Nat → Nat → Option Nat) × Nat
def hm_I (σ : hm_M) : Nat → Nat → Int32 := σ.1
def hm_L (σ : hm_M) : Nat → Nat → Int64 := σ.2.1
def hm_R (σ : hm_M) : Nat → Nat → Option Nat := σ.2.2.1
def hm_n (σ : hm_M) : Nat := σ.2.2.2
def hm_wI (σ : hm_M) (a k : Nat) (v : Int32) : hm_M := (fun b j => if b = a ∧ j = k then v else σ.1 b j, σ.2)
def hm_wL (σ : hm_M) (a k : Nat) (v : Int64) : hm_M := (σ.1, fun b j => if b = a ∧ j = k then v else σ.2.1 b j, σ.2.2)
def hm_wR (σ : hm_M) (a k : Nat) (v : Option Nat) : hm_M := (σ.1, σ.2.1, fun b j => if b = a ∧ j = k then v else σ.2.2.1 b j, σ.2.2.2)
def hm_g (σ : hm_M) : hm_M := (σ.1, σ.2.1, σ.2.2.1, σ.2.2.2 + 1)
theorem hm_I_wI (σ : hm_M) (a k : Nat) (v : Int32) (b j : Nat) : hm_I (hm_wI σ a k v) b j = if b = a ∧ j = k then v else hm_I σ b j := rfl
theorem hm_L_wI (σ : hm_M) (a k : Nat) (v : Int32) : hm_L (hm_wI σ a k v) = hm_L σ := rfl
theorem hm_R_wI (σ : hm_M) (a k : Nat) (v : Int32) : hm_R (hm_wI σ a k v) = hm_R σ := rfl
theorem hm_n_wI (σ : hm_M) (a k : Nat) (v : Int32) : hm_n (hm_wI σ a k v) = hm_n σ := rfl
theorem hm_I_wL (σ : hm_M) (a k : Nat) (v : Int64) : hm_I (hm_wL σ a k v) = hm_I σ := rfl
theorem hm_L_wL (σ : hm_M) (a k : Nat) (v : Int64) (b j : Nat) : hm_L (hm_wL σ a k v) b j = if b = a ∧ j = k then v else hm_L σ b j := rfl
theorem hm_R_wL (σ : hm_M) (a k : Nat) (v : Int64) : hm_R (hm_wL σ a k v) = hm_R σ := rfl
theorem hm_n_wL (σ : hm_M) (a k : Nat) (v : Int64) : hm_n (hm_wL σ a k v) = hm_n σ := rfl
theorem hm_I_wR (σ : hm_M) (a k : Nat) (v : Option Nat) : hm_I (hm_wR σ a k v) = hm_I σ := rfl
theorem hm_L_wR (σ : hm_M) (a k : Nat) (v : Option Nat) : hm_L (hm_wR σ a k v) = hm_L σ := rfl
theorem hm_R_wR (σ : hm_M) (a k : Nat) (v : Option Nat) (b j : Nat) : hm_R (hm_wR σ a k v) b j = if b = a ∧ j = k then v else hm_R σ b j := rfl
theorem hm_n_wR (σ : hm_M) (a k : Nat) (v : Option Nat) : hm_n (hm_wR σ a k v) = hm_n σ := rfl
theorem hm_I_g (σ : hm_M) : hm_I (hm_g σ) = hm_I σ := rfl
theorem hm_L_g (σ : hm_M) : hm_L (hm_g σ) = hm_L σ := rfl
theorem hm_R_g (σ : hm_M) : hm_R (hm_g σ) = hm_R σ := rfl
theorem hm_n_g (σ : hm_M) : hm_n (hm_g σ) = hm_n σ + 1 := rfl
/-- the kinds of the cells by relative address: 0 .. 5 an object of that class; 10 int[], 11 long[], 12 boolean[], 13 Bearer[], 14 Portable[], with the length -/
def hm_T0 : List (Nat × Nat) := [(4, 0), (3, 0), (10, 4), (10, 8), (10, 16), (10, 120), (10, 120), (10, 120), (13, 16), (0, 0), (0, 0), (0, 0), (0, 0), (0, 0), (0, 0), (0, 0), (0, 0), (0, 0), (0, 0), (0, 0), (0, 0), (0, 0), (0, 0), (0, 0), (0, 0), (14, 8), (10, 7), (5, 0), (10, 4), (10, 8), (11, 8), (12, 8), (11, 8), (10, 8), (10, 8), (10, 8), (10, 16), (12, 2400), (10, 16), (10, 16), (10, 16), (10, 16), (12, 16), (10, 8), (11, 64), (10, 8), (11, 128), (10, 8), (11, 160), (10, 7), (10, 8), (10, 8)]
def hm_T1 : List (Nat × Nat) := [(2, 0), (1, 0), (11, 8), (1, 0), (11, 16), (1, 0), (11, 20)]
def hm_S (a : Nat) : Nat × Nat := if a < 52 then hm_T0.getD a (0, 0) else hm_T1.getD ((a - 52) % 7) (0, 0)
def hm_ty (ci k : Nat) : FieldType := match ci with
  | 0 => tyX0 k
  | 1 => tyX1 k
  | 2 => tyX2 k
  | 3 => tyX3 k
  | 4 => tyX4 k
  | _ => tyX5 k
def hm_tag (t : FieldType) : Nat := match t with
  | .int => 0
  | .boolean => 0
  | .long => 1
  | _ => 2
def hm_at (kd : Nat) : Nat := if kd = 11 then 1 else if kd < 13 then 0 else 2
def hm_rf (base : Nat) (r : Option Nat) : Value := match r with
  | none => .null
  | some a => .ref (base + a)
def hm_v (base : Nat) (σ : hm_M) (a t k : Nat) : Value := match t with
  | 0 => .int (hm_I σ a k)
  | 1 => .long (hm_L σ a k)
  | _ => hm_rf base (hm_R σ a k)
abbrev hm_Cl : List vw_C := [(RX0, TX0, 5), (RX1, TX1, 3), (RX2, TX2, 12), (RX3, TX3, 11), (RX4, TX4, 11), (RX5, TX5, 35)]
def hm_cl (D : va_G) (dA : Nat → ClassId) (base : Nat) (σ : hm_M) (H : Heap) (a : Nat) : Prop :=
  if (hm_S a).1 < 6 then ∃ r : vw_C, hm_Cl[(hm_S a).1]? = some r ∧ t_OB (base + a) (D.1 (hm_S a).1) r.2.2 (D.2 (hm_S a).1) H (fun k => hm_v base σ a (hm_tag (hm_ty (hm_S a).1 k)) k)
  else H[base + a]? = some (arrV (dA (hm_S a).1) (hm_S a).2 (fun j => hm_v base σ a (hm_at (hm_S a).1) j))
def hm_Rep (D : va_G) (dA : Nat → ClassId) (base : Nat) (σ : hm_M) (H : Heap) : Prop :=
  H.size = base + hm_n σ ∧ (∀ a, a < hm_n σ → hm_cl D dA base σ H a) ∧ ∀ a k, hm_n σ ≤ a → hm_I σ a k = 0 ∧ hm_L σ a k = 0 ∧ hm_R σ a k = none
/-- the words that all methods share -/
def hm_T : List Cond := lw_tbl.filter goodWord
theorem hm_in {w : Cond} (h : w ∈ lw_tbl) (g : goodWord w = true) : w ∈ hm_T := List.mem_filter.mpr ⟨h, g⟩
theorem hm_w {w : Cond} (i : Nat) (h : tables_1[i]? = some w) (g : goodWord w = true) : w ∈ hm_T := hm_in (List.mem_append_right _ (List.mem_of_getElem? h)) g
theorem hm_ws {w : Cond} (i : Nat) (h : (k2_sels lw_privs)[i]? = some w) (g : goodWord w = true) : w ∈ hm_T := hm_in (List.mem_append_left _ (List.mem_of_getElem? h)) g
theorem hm_good {y : MethodName} {cc : ByteArray} {n : Nat} {r : Option FieldType} (h : Cond.code y cc n r ∈ hm_T) : GoodIn hm_T (.code y cc n r :: hm_T) := by
  intro w hw
  have hm : w ∈ hm_T := by
    rcases List.mem_cons.mp hw with e | e
    · rw [e]; exact h
    · exact e
  exact ⟨hm, good_of_word (List.mem_filter.mp hm).2⟩
def hm_tys (dA : Nat → ClassId) : List (ClassId × FieldType) := [(dA 10, .int), (dA 11, .long), (dA 12, .boolean), (dA 13, .object RX0), (dA 14, .object RX2)]
def hm_K (D : va_G) (dA : Nat → ClassId) (s : State) : Prop := va_K D hm_Cl (hm_tys dA) s ∧ va_AO RX0 s ∧ va_AO RX2 s ∧ va_Nw (.methodLinkNest RX3 36 yX0_init RX4) s
theorem hm_K.warm {D : va_G} {dA : Nat → ClassId} {s U : State} (hW : s.WarmedH U.vm) (h : hm_K D dA s) : hm_K D dA U := ⟨va_K.moved hW.alike h.1, h.2.1.moved hW.alike, h.2.2.1.moved hW.alike, va_Nw.warmM hW h.2.2.2⟩
theorem hm_K.same {D : va_G} {dA : Nat → ClassId} {s U : State} (hW : s.vm = U.vm) (h : hm_K D dA s) : hm_K D dA U := ⟨va_K.moved (hW ▸ Vm.Alike.refl _) h.1, h.2.1.moved (hW ▸ Vm.Alike.refl _), h.2.2.1.moved (hW ▸ Vm.Alike.refl _), va_Nw.same rfl hW h.2.2.2⟩
def hm_c (base : Nat) (v : Value) : Value := match v with
  | .ref a => .ref (base + a)
  | w => w
theorem hm_c_cat (base : Nat) (v : Value) : (hm_c base v).category = v.category := by cases v <;> rfl
def hm_u : Value := .float 0
def hm_lo (base nL : Nat) (ls : Array Slot) (L : List Value) : Prop := ls.size = nL ∧ lv_wf ls ∧ ∀ (j : Nat) (v : Value), L[j]? = some v → v ≠ hm_u → ls[j]? = some (.val (hm_c base v))
def hm_Qc (D : va_G) (dA : Nat → ClassId) (base : Nat) (Q : Option Value → hm_M → Prop) : Array Value → State → Outcome → State → Prop := fun _ _ o t => ∃ (r : Option Value) (σ : hm_M), o = .returned (r.map (hm_c base)) ∧ Q r σ ∧ hm_Rep D dA base σ t.heap
def hm_C (D : va_G) (dA : Nat → ClassId) (own : String) (cc : ByteArray) (nL : Nat) (ret : Option FieldType) (ini : Bool) (p : Program) (s : State) (m : MethodId) (args : Array Value) (meth : Method) (c : Code) : Prop :=
  p.tables.exec = Jvm.exec ∧ c.code = cc ∧ c.maxLocals = nL ∧ meth.sig.returnType = ret ∧ meth.locks = false ∧ s.vm.findClass own = some m.cls ∧ (∀ w ∈ hm_T, w.before args s = true) ∧ hm_K D dA s ∧ (ini = true → meth.name = "<init>")
/-- from here, with these locals, this stack and this memory, the method comes to its end with Q -/
def hm_V (l : Launch) (own : String) (cc : ByteArray) (nL : Nat) (ret : Option FieldType) (ini : Bool) (R : Room) (mc ms : Nat) (Q : Option Value → hm_M → Prop) (kc ks : Nat) (pc : Nat) (L : List Value) (st : List Value) (σ : hm_M) : Prop :=
  ∀ (p : Program) (e : Env) (s : State) (m : MethodId) (args : Array Value) (below : List Frame) (meth : Method) (c : Code) (D : va_G) (dA : Nat → ClassId) (base : Nat) (H : Heap) (locs : List Loc) (ls : Array Slot),
    hm_C D dA own cc nL ret ini p s m args meth c → hm_Rep D dA base σ H → (∀ q ∈ locs, base ≤ q.base) → hm_lo base nL ls L →
    W p l e R s m args below meth c H locs kc ks (MQ below (hm_Qc D dA base Q) args s mc ms (fun q => base ≤ q)) (F0 m pc ls (st.map (hm_c base)))
def hm_rm (d mc ms : Nat) : Room := { frames := d, cells := mc, slots := ms, locals := 36 * d }
def hm_Pc (D : va_G) (dA : Nat → ClassId) (base : Nat) (As : List Value) (σ : hm_M) : Array Value → State → Prop := fun v U => v = (As.map (hm_c base)).toArray ∧ hm_Rep D dA base σ U.heap ∧ hm_K D dA U
/-- a method's contract at these arguments and this memory -/
def hm_Ct (l : Launch) (y : MethodName) (cc : ByteArray) (nL : Nat) (ret : Option FieldType) (d mc ms : Nat) (As : List Value) (σ : hm_M) (Q : Option Value → hm_M → Prop) : Prop :=
  ∀ (D : va_G) (dA : Nat → ClassId) (base : Nat), Met l y (.code y cc nL ret :: hm_T) (hm_rm d mc ms) (hm_Pc D dA base As σ) (hm_Qc D dA base Q) mc ms (fun q => base ≤ q)
theorem hm_blind (D : va_G) (dA : Nat → ClassId) (base : Nat) (As : List Value) (σ : hm_M) : FrameBlind (hm_Pc D dA base As σ) := fun _ _ _ _ h => ⟨h.1, h.2.1, hm_K.same rfl h.2.2⟩
theorem hm_Ct.mono {l : Launch} {y : MethodName} {cc : ByteArray} {nL : Nat} {ret : Option FieldType} {d mc ms : Nat} {As : List Value} {σ : hm_M} {Q Q' : Option Value → hm_M → Prop} (h : hm_Ct l y cc nL ret d mc ms As σ Q) (hq : ∀ r τ, Q r τ → Q' r τ) : hm_Ct l y cc nL ret d mc ms As σ Q' := by
  intro D dA base p e ha hc hk s m args below hf happ hP hK
  obtain ⟨k, o, h1, h2, h3, ⟨r, τ, e1, e2, e3⟩, h5⟩ := h D dA base p e ha hc hk s m args below hf happ hP hK
  exact ⟨k, o, h1, h2, h3, ⟨r, τ, e1, hq r τ e2, e3⟩, h5⟩
/-! the locals of a method's entry -/
def hm_sl : List Value → List Value
  | [] => []
  | v :: vs => if v.category = 2 then v :: hm_u :: hm_sl vs else v :: hm_sl vs
def hm_en (nL : Nat) (As : List Value) : List Value := hm_sl As ++ List.replicate (nL - (hm_sl As).length) hm_u
theorem hm_sl_in (base : Nat) : ∀ (As : List Value) (i j : Nat) (v : Value), (hm_sl As)[j]? = some v → v ≠ hm_u → (i + j, hm_c base v) ∈ lv_args i (As.map (hm_c base)) := by
  intro As
  induction As with
  | nil => intro i j v h; simp [hm_sl] at h
  | cons a t ih =>
    intro i j v h hu
    simp only [List.map_cons, lv_args, hm_c_cat]
    by_cases hc : a.category = 2
    · simp only [hm_sl, hc, if_true] at h ⊢
      match j, h with
      | 0, h => simp at h; subst h; exact List.mem_cons_self
      | 1, h => simp at h; exact absurd h.symm hu
      | j + 2, h =>
        have := ih (i + 2) j v (by simpa using h) hu
        refine List.mem_cons_of_mem _ ?_
        rw [show i + (j + 2) = i + 2 + j by omega]
        exact this
    · simp only [hm_sl, hc, if_false] at h ⊢
      match j, h with
      | 0, h => simp at h; subst h; exact List.mem_cons_self
      | j + 1, h =>
        have := ih (i + 1) j v (by simpa using h) hu
        refine List.mem_cons_of_mem _ ?_
        rw [show i + (j + 1) = i + 1 + j by omega]
        exact this
theorem hm_entry (base nL : Nat) (As : List Value) (h : (lg_sl (As.map (hm_c base))).length ≤ nL) : hm_lo base nL ((lg_sl (As.map (hm_c base)) ++ List.replicate (nL - (lg_sl (As.map (hm_c base))).length) Slot.unset).toArray) (hm_en nL As) := by
  obtain ⟨h1, h2, h3⟩ := lv_entry (As.map (hm_c base)) h
  refine ⟨h1, h2, fun j v hj hu => ?_⟩
  unfold hm_en at hj
  by_cases hl : j < (hm_sl As).length
  · rw [List.getElem?_append_left hl] at hj
    have := hm_sl_in base As 0 j v hj hu
    rw [Nat.zero_add] at this
    exact h3 _ this
  · rw [List.getElem?_append_right (by omega)] at hj
    have := List.mem_of_getElem? hj
    exact absurd (List.eq_of_mem_replicate this) hu
theorem hm_slen (base : Nat) (As : List Value) : (lg_sl (As.map (hm_c base))).length = (hm_sl As).length := by
  induction As with
  | nil => rfl
  | cons a t ih =>
    have e : lg_sl (List.map (hm_c base) (a :: t)) = (if a.category = 2 then [Slot.val (hm_c base a), .second] else [.val (hm_c base a)]) ++ lg_sl (t.map (hm_c base)) := by
      simp only [lg_sl, List.map_cons, List.flatMap_cons, hm_c_cat]
    rw [e]
    by_cases hc : a.category = 2
    · simp [hm_sl, hc, ih]
    · simp [hm_sl, hc, ih]
theorem hm_start {l : Launch} {y : MethodName} {cc : ByteArray} {nL : Nat} {ret : Option FieldType} {ini : Bool} {d mc ms : Nat} {As : List Value} {σ : hm_M} {Q : Option Value → hm_M → Prop} (L : List Value) (hy : plainName y.cls = true) (hi : ini = true → y.name = "<init>") (hL : hm_en nL As = L) (hn : (hm_sl As).length ≤ nL)
    (h : hm_V l y.cls cc nL ret ini (hm_rm d mc ms) mc ms Q 0 0 0 L [] σ) : hm_Ct l y cc nL ret d mc ms As σ Q := by
  intro D dA base
  refine Met.ofW (cc := cc) (maxL := nL) (ret := ret) hy rfl ?_
  intro p e s m args below meth c s₁ B hml hv
  obtain ⟨rfl, hRep, hK⟩ := hv
  have hts := atoms_spec (ws := .code y cc nL ret :: hm_T) B.pre
  have hown : s.vm.findClass y.cls = some m.cls := findClass_of_methodNamed B.named
  have hnm : meth.name = y.name := (name_of_methodNamed B.named B.method).1
  rw [lg_entry_eq]
  subst hL
  exact h p e s m _ below meth c D dA base s.heap [] _ ⟨B.exec, B.bytes, hml, B.returns, B.notSynchronized, hown, fun w hw => hts w (List.mem_cons_of_mem _ hw), hK, fun q => by rw [hnm]; exact hi q⟩ hRep (fun q h => by simp at h) (hm_entry base nL As (by rw [hm_slen]; exact hn))
