/-! rows of hm_V that touch the memory -/
theorem hm_Rep.set {D : va_G} {dA : Nat → ClassId} {base : Nat} {σ σ' : hm_M} {H H' : Heap} {a : Nat} (hR : hm_Rep D dA base σ H) (ha : a < hm_n σ) (hz : H'.size = H.size) (ho : ∀ q, q ≠ base + a → H'[q]? = H[q]?) (hn : hm_n σ' = hm_n σ)
    (hb : ∀ b t j, b ≠ a → hm_v base σ' b t j = hm_v base σ b t j) (hc : hm_cl D dA base σ' H' a) (hd : ∀ b j, hm_n σ ≤ b → hm_I σ' b j = hm_I σ b j ∧ hm_L σ' b j = hm_L σ b j ∧ hm_R σ' b j = hm_R σ b j) : hm_Rep D dA base σ' H' := by
  refine ⟨by rw [hz, hn]; exact hR.1, fun b hb' => ?_, fun b j hb' => ?_⟩
  · by_cases e : b = a
    · subst e; exact hc
    · have h := hR.2.1 b (by rw [hn] at hb'; exact hb')
      have hq : H'[base + b]? = H[base + b]? := ho _ (by omega)
      unfold hm_cl at h ⊢
      split
      · rename_i hk
        rw [if_pos hk] at h
        obtain ⟨r, h1, h2⟩ := h
        exact ⟨r, h1, (h2.kept hq).to (fun k _ => (hb b _ k e).symm)⟩
      · rename_i hk
        rw [if_neg hk] at h
        rw [hq, h]
        congr 2
        funext j
        exact (hb b _ j e).symm
  · rw [hn] at hb'
    obtain ⟨h1, h2, h3⟩ := hd b j hb'
    rw [h1, h2, h3]
    exact hR.2.2 b j hb'
theorem hm_Rep.obj {D : va_G} {dA : Nat → ClassId} {base : Nat} {σ : hm_M} {H : Heap} {a ci : Nat} {C : String} {T : u_T} {N : Nat} (hR : hm_Rep D dA base σ H) (ha : a < hm_n σ) (hs : hm_S a = (ci, 0)) (hc : hm_Cl[ci]? = some (C, T, N)) : t_OB (base + a) (D.1 ci) N (D.2 ci) H (fun k => hm_v base σ a (hm_tag (hm_ty ci k)) k) := by
  have h := hR.2.1 a ha
  have hci : ci < 6 := (List.getElem?_eq_some_iff.mp hc).1
  unfold hm_cl at h
  rw [hs] at h
  rw [if_pos hci] at h
  obtain ⟨r, h1, h2⟩ := h
  cases (h1.symm.trans hc)
  exact h2
theorem hm_Rep.arr {D : va_G} {dA : Nat → ClassId} {base : Nat} {σ : hm_M} {H : Heap} {a kd n : Nat} (hR : hm_Rep D dA base σ H) (ha : a < hm_n σ) (hs : hm_S a = (kd, n)) (hk : 6 ≤ kd) : H[base + a]? = some (arrV (dA kd) n (fun j => hm_v base σ a (hm_at kd) j)) := by
  have h := hR.2.1 a ha
  unfold hm_cl at h
  rw [hs] at h
  rw [if_neg (by show ¬ kd < 6; omega)] at h
  exact h
theorem hm_v_I (base : Nat) (σ : hm_M) (a k : Nat) (x : Int32) (b t j : Nat) (h : b ≠ a) : hm_v base (hm_wI σ a k x) b t j = hm_v base σ b t j := by
  unfold hm_v
  split
  · rw [hm_I_wI, if_neg (fun q => h q.1)]
  · rfl
  · rfl
theorem hm_v_L (base : Nat) (σ : hm_M) (a k : Nat) (x : Int64) (b t j : Nat) (h : b ≠ a) : hm_v base (hm_wL σ a k x) b t j = hm_v base σ b t j := by
  unfold hm_v
  split
  · rfl
  · rw [hm_L_wL, if_neg (fun q => h q.1)]
  · rfl
theorem hm_v_R (base : Nat) (σ : hm_M) (a k : Nat) (x : Option Nat) (b t j : Nat) (h : b ≠ a) : hm_v base (hm_wR σ a k x) b t j = hm_v base σ b t j := by
  unfold hm_v
  split
  · rfl
  · rfl
  · rw [hm_R_wR, if_neg (fun q => h q.1)]
/-- σ' is σ with the value v at slot k of the cell a -/
def hm_up (σ σ' : hm_M) (a k t : Nat) (v : Value) : Prop := hm_n σ' = hm_n σ ∧ (∀ base b t j, b ≠ a → hm_v base σ' b t j = hm_v base σ b t j) ∧ (∀ base, hm_v base σ' a t k = hm_c base v) ∧ (∀ base t j, j ≠ k → hm_v base σ' a t j = hm_v base σ a t j) ∧ ∀ b j, b ≠ a → hm_I σ' b j = hm_I σ b j ∧ hm_L σ' b j = hm_L σ b j ∧ hm_R σ' b j = hm_R σ b j
theorem hm_upI (σ : hm_M) (a k : Nat) (x : Int32) : hm_up σ (hm_wI σ a k x) a k 0 (.int x) := by
  refine ⟨rfl, fun base b t j h => hm_v_I base σ a k x b t j h, fun base => by simp [hm_v, hm_I_wI, hm_c], fun base t j h => ?_, fun b j h => ⟨by rw [hm_I_wI, if_neg (fun q => h q.1)], rfl, rfl⟩⟩
  unfold hm_v
  split
  · rw [hm_I_wI, if_neg (fun q => h q.2)]
  · rfl
  · rfl
theorem hm_upL (σ : hm_M) (a k : Nat) (x : Int64) : hm_up σ (hm_wL σ a k x) a k 1 (.long x) := by
  refine ⟨rfl, fun base b t j h => hm_v_L base σ a k x b t j h, fun base => by simp [hm_v, hm_L_wL, hm_c], fun base t j h => ?_, fun b j h => ⟨rfl, by rw [hm_L_wL, if_neg (fun q => h q.1)], rfl⟩⟩
  unfold hm_v
  split
  · rfl
  · rw [hm_L_wL, if_neg (fun q => h q.2)]
  · rfl
theorem hm_upR (σ : hm_M) (a k : Nat) (r : Nat) : hm_up σ (hm_wR σ a k (some r)) a k 2 (.ref r) := by
  refine ⟨rfl, fun base b t j h => hm_v_R base σ a k _ b t j h, fun base => by simp [hm_v, hm_R_wR, hm_c, hm_rf], fun base t j h => ?_, fun b j h => ⟨rfl, rfl, by rw [hm_R_wR, if_neg (fun q => h q.1)]⟩⟩
  unfold hm_v
  split
  · rfl
  · rfl
  · rw [hm_R_wR, if_neg (fun q => h q.2)]
section HP
variable {l : Launch} {own : String} {cc : ByteArray} {nL : Nat} {ret : Option FieldType} {ini : Bool} {R : Room} {mc ms : Nat} {Q : Option Value → hm_M → Prop} {kc ks : Nat} {pc : Nat} {L : List Value} {st : List Value} {σ : hm_M}
theorem hm_get {idx ci k a : Nat} {v : Value} (hF : hm_F own idx ci k) (hs : hm_S a = (ci, 0)) (ha : a < hm_n σ) (hv : ∀ base, hm_v base σ a (hm_tag (hm_ty ci k)) k = hm_c base v) (hd : decode cc pc = .ok (.getfield idx, 3)) (kk : hm_V l own cc nL ret ini R mc ms Q kc ks (pc + 3) L (v :: st) σ) : hm_V l own cc nL ret ini R mc ms Q kc ks pc L (.ref a :: st) σ := by
  intro p e s m args below meth c D dA base H locs ls hC hR hlo hL
  obtain ⟨C, T, N, hc, hk, hl⟩ := hF
  obtain ⟨cell, q1, q2, q3, q4⟩ := hR.obj ha hs hc
  have hts := hC.2.2.2.2.2.2.1
  have hKn := hC.2.2.2.2.2.2.2.1.1.1 ci _ hc
  obtain ⟨hS, hfc, kC, hkC, hkind⟩ := hKn
  obtain ⟨cf, kf, fi, f, hi, hsl⟩ := hS k hk
  refine W.getf hC.1 hC.2.1 hC.2.2.2.2.2.1 (hts _ hl) hi (u_facts hfc hkC (u_lays hts (hm_lay hc).1 hk) hi).1 q1 (by rw [q3]; exact fun h => by cases h) (v := hm_c base v) ?_ rfl rfl hd (kk p e s m args below meth c D dA base H locs ls hC hR hlo hL)
  rw [hsl, q4 k hk]
  exact congrArg some (hv base)
theorem hm_getI {idx ci k a : Nat} (hF : hm_F own idx ci k) (ht : hm_tag (hm_ty ci k) = 0) (hs : hm_S a = (ci, 0)) (ha : a < hm_n σ) (hd : decode cc pc = .ok (.getfield idx, 3)) (kk : hm_V l own cc nL ret ini R mc ms Q kc ks (pc + 3) L (.int (hm_I σ a k) :: st) σ) : hm_V l own cc nL ret ini R mc ms Q kc ks pc L (.ref a :: st) σ :=
  hm_get hF hs ha (fun base => by rw [ht]; rfl) hd kk
theorem hm_getL {idx ci k a : Nat} (hF : hm_F own idx ci k) (ht : hm_tag (hm_ty ci k) = 1) (hs : hm_S a = (ci, 0)) (ha : a < hm_n σ) (hd : decode cc pc = .ok (.getfield idx, 3)) (kk : hm_V l own cc nL ret ini R mc ms Q kc ks (pc + 3) L (.long (hm_L σ a k) :: st) σ) : hm_V l own cc nL ret ini R mc ms Q kc ks pc L (.ref a :: st) σ :=
  hm_get hF hs ha (fun base => by rw [ht]; rfl) hd kk
theorem hm_getR {idx ci k a r : Nat} (hF : hm_F own idx ci k) (ht : hm_tag (hm_ty ci k) = 2) (hs : hm_S a = (ci, 0)) (ha : a < hm_n σ) (hr : hm_R σ a k = some r) (hd : decode cc pc = .ok (.getfield idx, 3)) (kk : hm_V l own cc nL ret ini R mc ms Q kc ks (pc + 3) L (.ref r :: st) σ) : hm_V l own cc nL ret ini R mc ms Q kc ks pc L (.ref a :: st) σ :=
  hm_get hF hs ha (fun base => by rw [ht]; show hm_rf base (hm_R σ a k) = _; rw [hr]; rfl) hd kk
theorem hm_put {idx ci k a : Nat} {v : Value} {σ' : hm_M} (hF : hm_F own idx ci k) (hf : hm_fin ci k = false ∨ (hm_fin ci k = true ∧ ini = true ∧ ((hm_Cl.getD ci (RX0, TX0, 0)).2.1 k).1 = own)) (hs : hm_S a = (ci, 0)) (ha : a < hm_n σ) (hu : hm_up σ σ' a k (hm_tag (hm_ty ci k)) v) (hn : ∀ base, narrow (hm_ty ci k) (hm_c base v) = hm_c base v) (hft : ∀ base, fits (hm_ty ci k) (hm_c base v) = true) (hd : decode cc pc = .ok (.putfield idx, 3))
    (kk : hm_V l own cc nL ret ini R mc ms Q kc ks (pc + 3) L st σ') : hm_V l own cc nL ret ini R mc ms Q kc ks pc L (v :: .ref a :: st) σ := by
  intro p e s m args below meth c D dA base H locs ls hC hR hlo hL
  obtain ⟨C, T, N, hc, hk, hl⟩ := hF
  have hT : hm_Cl.getD ci (RX0, TX0, 0) = (C, T, N) := by rw [List.getD_eq_getElem?_getD, hc]; rfl
  obtain ⟨cell, q1, q2, q3, q4⟩ := hR.obj ha hs hc
  have hts := hC.2.2.2.2.2.2.1
  have hown := hC.2.2.2.2.2.1
  have hK := hC.2.2.2.2.2.2.2.1.1
  obtain ⟨hin, hty, hnm⟩ := hm_lay hc
  have hap := va_apart (own := own) hts hin (hm_ty ci) hty hnm hK hc
  obtain ⟨hS, hfc, kC, hkC, hkind⟩ := hK.1 ci _ hc
  obtain ⟨cf, kf, fi, f, hi, hsl⟩ := hS k hk
  have hst := (u_facts hfc hkC (u_lays hts hin hk) hi).1
  obtain ⟨u1, u2, u3, u4, u5⟩ := hu
  have fin : ∀ H' : Heap, H'[base + a]? = some (cell.setSlot f.slot (hm_c base v)) → H'.size = H.size → (∀ q, q ≠ base + a → H'[q]? = H[q]?) → hm_Rep D dA base σ' H' := by
    intro H' e1 e2 e3
    refine hR.set ha e2 e3 u1 (u2 base) ?_ (fun b j hb => u5 b j (by omega))
    unfold hm_cl
    rw [hs]
    rw [if_pos (show ci < 6 from (List.getElem?_eq_some_iff.mp hc).1)]
    refine ⟨_, hc, t_OB.to (V := updV (fun k => hm_v base σ a (hm_tag (hm_ty ci k)) k) k (hm_c base v)) ⟨_, e1, q2, q3, ?_⟩ (fun j _ => ?_)⟩
    · rw [hsl]; exact t_set q4 hap hk _
    · unfold updV
      by_cases ej : j = k
      · subst ej; rw [if_pos rfl]; exact (u3 base).symm
      · rw [if_neg ej]; exact (u4 base _ j ej).symm
  rcases hf with hf | ⟨hf, hi2, ho⟩
  · unfold hm_fin at hf
    rw [hT] at hf
    have hlay := hts _ (hin _ (u_in_lay hk))
    unfold u_lay at hlay
    rw [if_neg (by rw [hf]; decide)] at hlay
    have h6 := u_store hfc hkC hkind hlay hi (hty k hk) (hn base) (hft base)
    refine W.putK hC.1 hC.2.1 (f := f) ⟨hown, hts _ hl, ⟨_, _, _, hi⟩, hst⟩ (by rw [q2]; exact h6) q1 q3 (by rw [hsl]; exact k2_hasslot (q4 k hk)) rfl rfl hd fun H' e1 e2 e3 => ?_
    exact kk p e s m args below meth c D dA base H' _ ls hC (fin H' e1 e2 e3) (fun q hq => by
      rcases List.mem_append.mp hq with h | h
      · exact hlo q h
      · rw [List.mem_singleton.mp h]; exact Nat.le_add_right _ _) hL
  · unfold hm_fin at hf
    rw [hT] at hf ho
    have hlay := hts _ (hin _ (u_in_lay hk))
    unfold u_lay at hlay
    rw [if_pos hf] at hlay
    have hcf : m.cls = cf := by
      obtain ⟨_, _, c', _, _, _, -, -, hf', -, -, -, hown2, -⟩ := Cond.laysFinal_spec hlay
      have e1 : c' = cf := by have := hi.symm.trans hf'; simp at this; exact this.1.symm
      have ho' : (T k).1 = own := ho
      rw [ho'] at hown2
      rw [← e1]; exact Option.some.inj (hown.symm.trans hown2)
    have h6 := u_fits hfc hkC hkind (Or.inr hlay) hi (hty k hk) (hn base) (hft base)
    refine W.putFinK hC.1 hC.2.1 hown (hts _ hl) hi hst hcf (hC.2.2.2.2.2.2.2.2 hi2) (by rw [q2]; exact h6) q1 q3 (by rw [hsl]; exact k2_hasslot (q4 k hk)) rfl rfl hd fun H' e1 e2 e3 => ?_
    exact kk p e s m args below meth c D dA base H' _ ls hC (fin H' e1 e2 e3) (fun q hq => by
      rcases List.mem_append.mp hq with h | h
      · exact hlo q h
      · rw [List.mem_singleton.mp h]; exact Nat.le_add_right _ _) hL
theorem hm_putI {idx ci k a : Nat} {x : Int32} (hF : hm_F own idx ci k) (ht : hm_ty ci k = .int) (hf : hm_fin ci k = false) (hs : hm_S a = (ci, 0)) (ha : a < hm_n σ) (hd : decode cc pc = .ok (.putfield idx, 3)) (kk : hm_V l own cc nL ret ini R mc ms Q kc ks (pc + 3) L st (hm_wI σ a k x)) : hm_V l own cc nL ret ini R mc ms Q kc ks pc L (.int x :: .ref a :: st) σ :=
  hm_put hF (Or.inl hf) hs ha (by rw [ht]; exact hm_upI σ a k x) (fun _ => by rw [ht]; rfl) (fun _ => by rw [ht]; rfl) hd kk
theorem hm_putZ {idx ci k a : Nat} {x : Int32} (hF : hm_F own idx ci k) (ht : hm_ty ci k = .boolean) (hx : x = 0 ∨ x = 1) (hf : hm_fin ci k = false) (hs : hm_S a = (ci, 0)) (ha : a < hm_n σ) (hd : decode cc pc = .ok (.putfield idx, 3)) (kk : hm_V l own cc nL ret ini R mc ms Q kc ks (pc + 3) L st (hm_wI σ a k x)) : hm_V l own cc nL ret ini R mc ms Q kc ks pc L (.int x :: .ref a :: st) σ :=
  hm_put hF (Or.inl hf) hs ha (by rw [ht]; exact hm_upI σ a k x) (fun _ => by rw [ht]; rcases hx with rfl | rfl <;> rfl) (fun _ => by rw [ht]; rcases hx with rfl | rfl <;> rfl) hd kk
theorem hm_putL {idx ci k a : Nat} {x : Int64} (hF : hm_F own idx ci k) (ht : hm_ty ci k = .long) (hf : hm_fin ci k = false) (hs : hm_S a = (ci, 0)) (ha : a < hm_n σ) (hd : decode cc pc = .ok (.putfield idx, 3)) (kk : hm_V l own cc nL ret ini R mc ms Q kc ks (pc + 3) L st (hm_wL σ a k x)) : hm_V l own cc nL ret ini R mc ms Q kc ks pc L (.long x :: .ref a :: st) σ :=
  hm_put hF (Or.inl hf) hs ha (by rw [ht]; exact hm_upL σ a k x) (fun _ => by rw [ht]; rfl) (fun _ => by rw [ht]; rfl) hd kk
theorem hm_putIF {idx ci k a : Nat} {x : Int32} (hF : hm_F own idx ci k) (ht : hm_ty ci k = .int) (hf : hm_fin ci k = true) (hi : ini = true) (ho : ((hm_Cl.getD ci (RX0, TX0, 0)).2.1 k).1 = own) (hs : hm_S a = (ci, 0)) (ha : a < hm_n σ) (hd : decode cc pc = .ok (.putfield idx, 3)) (kk : hm_V l own cc nL ret ini R mc ms Q kc ks (pc + 3) L st (hm_wI σ a k x)) : hm_V l own cc nL ret ini R mc ms Q kc ks pc L (.int x :: .ref a :: st) σ :=
  hm_put hF (Or.inr ⟨hf, hi, ho⟩) hs ha (by rw [ht]; exact hm_upI σ a k x) (fun _ => by rw [ht]; rfl) (fun _ => by rw [ht]; rfl) hd kk
theorem hm_putLF {idx ci k a : Nat} {x : Int64} (hF : hm_F own idx ci k) (ht : hm_ty ci k = .long) (hf : hm_fin ci k = true) (hi : ini = true) (ho : ((hm_Cl.getD ci (RX0, TX0, 0)).2.1 k).1 = own) (hs : hm_S a = (ci, 0)) (ha : a < hm_n σ) (hd : decode cc pc = .ok (.putfield idx, 3)) (kk : hm_V l own cc nL ret ini R mc ms Q kc ks (pc + 3) L st (hm_wL σ a k x)) : hm_V l own cc nL ret ini R mc ms Q kc ks pc L (.long x :: .ref a :: st) σ :=
  hm_put hF (Or.inr ⟨hf, hi, ho⟩) hs ha (by rw [ht]; exact hm_upL σ a k x) (fun _ => by rw [ht]; rfl) (fun _ => by rw [ht]; rfl) hd kk
def hm_isR (t : FieldType) : Bool := match t with
  | .object _ => true
  | .array _ => true
  | _ => false
theorem hm_putRF {idx ci k a r : Nat} (hF : hm_F own idx ci k) (ht : hm_isR (hm_ty ci k) = true) (hf : hm_fin ci k = true) (hi : ini = true) (ho : ((hm_Cl.getD ci (RX0, TX0, 0)).2.1 k).1 = own) (hs : hm_S a = (ci, 0)) (ha : a < hm_n σ) (hd : decode cc pc = .ok (.putfield idx, 3)) (kk : hm_V l own cc nL ret ini R mc ms Q kc ks (pc + 3) L st (hm_wR σ a k (some r))) : hm_V l own cc nL ret ini R mc ms Q kc ks pc L (.ref r :: .ref a :: st) σ := by
  have h2 : hm_tag (hm_ty ci k) = 2 := by
    generalize hm_ty ci k = t at ht
    cases t <;> first | rfl | (simp [hm_isR] at ht)
  refine hm_put hF (Or.inr ⟨hf, hi, ho⟩) hs ha (by rw [h2]; exact hm_upR σ a k r) (fun _ => ?_) (fun _ => ?_) hd kk
  · generalize hm_ty ci k = t at ht
    cases t <;> first | rfl | (simp [hm_isR] at ht)
  · generalize hm_ty ci k = t at ht
    cases t <;> first | rfl | (simp [hm_isR] at ht)
end HP
