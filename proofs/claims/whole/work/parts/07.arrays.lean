/-! rows of hm_V: arrays, new cells, calls -/
theorem hm_ix {i : Int32} {j n : Nat} (hi : i = nI j) (hj : j < n) (hn : n < 2 ^ 31) : vp_in i n ∧ i.toNatClampNeg = j := by
  subst hi
  exact ⟨vp_in_nI hj hn, nI_clamp (by omega)⟩
def hm_okt (t : FieldType) : Bool := match t with
  | .int => true
  | .boolean => true
  | .long => true
  | .object _ => true
  | .array _ => true
  | _ => false
theorem hm_okt_all {ci : Nat} {C : String} {T : u_T} {N : Nat} (h : hm_Cl[ci]? = some (C, T, N)) : ∀ k, k < N → hm_okt (hm_ty ci k) = true := by
  match ci, h with
  | 0, h => cases h; decide
  | 1, h => cases h; decide
  | 2, h => cases h; decide
  | 3, h => cases h; decide
  | 4, h => cases h; decide
  | 5, h => cases h; decide
  | ci + 6, h => simp [hm_Cl] at h
section HA
variable {l : Launch} {own : String} {cc : ByteArray} {nL : Nat} {ret : Option FieldType} {ini : Bool} {R : Room} {mc ms : Nat} {Q : Option Value → hm_M → Prop} {kc ks : Nat} {pc : Nat} {L : List Value} {st : List Value} {σ : hm_M}
theorem hm_iald {i : Int32} {a n : Nat} (j : Nat) (hs : hm_S a = (10, n)) (ha : a < hm_n σ) (hi : i = nI j) (hj : j < n) (hn : n < 2 ^ 31) (hd : decode cc pc = .ok (.iaload, 1)) (kk : hm_V l own cc nL ret ini R mc ms Q kc ks (pc + 1) L (.int (hm_I σ a j) :: st) σ) : hm_V l own cc nL ret ini R mc ms Q kc ks pc L (.int i :: .ref a :: st) σ := by
  intro p e s m args below meth c D dA base H locs ls hC hR hlo hL
  obtain ⟨h1, h2⟩ := hm_ix hi hj hn
  have hc := hR.arr ha hs (by decide)
  exact W.iald (v := .int (hm_I σ a j)) hC.1 hC.2.1 hc ((hC.2.2.2.2.2.2.2.1.1.2 0 _ rfl).1 n _) (fun q => by cases q) (by rw [arrV_size]; exact h1) (by rw [arrV_read _ _ (by rw [h2]; exact hj), h2]; rfl) rfl rfl hd (kk p e s m args below meth c D dA base H locs ls hC hR hlo hL)
theorem hm_zald {i : Int32} {a n : Nat} (j : Nat) (hs : hm_S a = (12, n)) (ha : a < hm_n σ) (hi : i = nI j) (hj : j < n) (hn : n < 2 ^ 31) (hd : decode cc pc = .ok (.baload, 1)) (kk : hm_V l own cc nL ret ini R mc ms Q kc ks (pc + 1) L (.int (hm_I σ a j) :: st) σ) : hm_V l own cc nL ret ini R mc ms Q kc ks pc L (.int i :: .ref a :: st) σ := by
  intro p e s m args below meth c D dA base H locs ls hC hR hlo hL
  obtain ⟨h1, h2⟩ := hm_ix hi hj hn
  have hc := hR.arr ha hs (by decide)
  exact W.zald (v := .int (hm_I σ a j)) hC.1 hC.2.1 hc ((hC.2.2.2.2.2.2.2.1.1.2 2 _ rfl).1 n _) (fun q => by cases q) (by rw [arrV_size]; exact h1) (by rw [arrV_read _ _ (by rw [h2]; exact hj), h2]; rfl) rfl rfl hd (kk p e s m args below meth c D dA base H locs ls hC hR hlo hL)
theorem hm_lald {i : Int32} {a n : Nat} (j : Nat) (hs : hm_S a = (11, n)) (ha : a < hm_n σ) (hi : i = nI j) (hj : j < n) (hn : n < 2 ^ 31) (hd : decode cc pc = .ok (.laload, 1)) (kk : hm_V l own cc nL ret ini R mc ms Q kc ks (pc + 1) L (.long (hm_L σ a j) :: st) σ) : hm_V l own cc nL ret ini R mc ms Q kc ks pc L (.int i :: .ref a :: st) σ := by
  intro p e s m args below meth c D dA base H locs ls hC hR hlo hL
  obtain ⟨h1, h2⟩ := hm_ix hi hj hn
  have hc := hR.arr ha hs (by decide)
  exact W.lald (v := .long (hm_L σ a j)) hC.1 hC.2.1 hc ((hC.2.2.2.2.2.2.2.1.1.2 1 _ rfl).1 n _) (fun q => by cases q) (by rw [arrV_size]; exact h1) (by rw [arrV_read _ _ (by rw [h2]; exact hj), h2]; rfl) rfl rfl hd (kk p e s m args below meth c D dA base H locs ls hC hR hlo hL)
/-- an array of references: 13 of Bearers, 14 of Portables -/
theorem hm_aald {i : Int32} {a n kd : Nat} (j : Nat) (v : Value) (hs : hm_S a = (kd, n)) (hk : kd = 13 ∨ kd = 14) (ha : a < hm_n σ) (hi : i = nI j) (hj : j < n) (hn : n < 2 ^ 31) (hv : v = .null ∧ hm_R σ a j = none ∨ ∃ r, v = .ref r ∧ hm_R σ a j = some r) (hd : decode cc pc = .ok (.aaload, 1)) (kk : hm_V l own cc nL ret ini R mc ms Q kc ks (pc + 1) L (v :: st) σ) : hm_V l own cc nL ret ini R mc ms Q kc ks pc L (.int i :: .ref a :: st) σ := by
  intro p e s m args below meth c D dA base H locs ls hC hR hlo hL
  obtain ⟨h1, h2⟩ := hm_ix hi hj hn
  have hc := hR.arr ha hs (by omega)
  have hz : hm_v base σ a (hm_at kd) j = hm_c base v := by
    rcases hk with rfl | rfl <;> rcases hv with ⟨rfl, e⟩ | ⟨r, rfl, e⟩ <;> simp [hm_v, hm_at, e, hm_rf, hm_c]
  rcases hk with rfl | rfl
  · exact W.aald (ty := .object RX0) (v := hm_c base v) hC.1 hC.2.1 hc ((hC.2.2.2.2.2.2.2.1.1.2 3 _ rfl).1 n _) rfl (fun q => by cases q) (by rw [arrV_size]; exact h1) (by rw [arrV_read _ _ (by rw [h2]; exact hj), h2]; exact congrArg some hz) rfl rfl hd (kk p e s m args below meth c D dA base H locs ls hC hR hlo hL)
  · exact W.aald (ty := .object RX2) (v := hm_c base v) hC.1 hC.2.1 hc ((hC.2.2.2.2.2.2.2.1.1.2 4 _ rfl).1 n _) rfl (fun q => by cases q) (by rw [arrV_size]; exact h1) (by rw [arrV_read _ _ (by rw [h2]; exact hj), h2]; exact congrArg some hz) rfl rfl hd (kk p e s m args below meth c D dA base H locs ls hC hR hlo hL)
theorem hm_Rep.ast {D : va_G} {dA : Nat → ClassId} {base : Nat} {σ σ' : hm_M} {H H' : Heap} {a kd n j : Nat} {v : Value} (hR : hm_Rep D dA base σ H) (ha : a < hm_n σ) (hs : hm_S a = (kd, n)) (hk : 6 ≤ kd) (hu : hm_up σ σ' a j (hm_at kd) v)
    (e1 : H'[base + a]? = some ((arrV (dA kd) n (fun j => hm_v base σ a (hm_at kd) j)).setSlot j (hm_c base v))) (e2 : H'.size = H.size) (e3 : ∀ q, q ≠ base + a → H'[q]? = H[q]?) : hm_Rep D dA base σ' H' := by
  obtain ⟨u1, u2, u3, u4, u5⟩ := hu
  refine hR.set ha e2 e3 u1 (u2 base) ?_ (fun b j hb => u5 b j (by omega))
  unfold hm_cl
  rw [hs]
  rw [if_neg (show ¬ kd < 6 by omega), e1, arrV_store]
  congr 2
  funext q
  unfold updV
  by_cases ej : q = j
  · subst ej; rw [if_pos rfl]; exact (u3 base).symm
  · rw [if_neg ej]; exact (u4 base _ q ej).symm
theorem hm_locs {base a j : Nat} {locs : List Loc} (h : ∀ q ∈ locs, base ≤ q.base) : ∀ q ∈ locs ++ [(⟨base + a, j⟩ : Loc)], base ≤ q.base := fun q hq => by
  rcases List.mem_append.mp hq with h1 | h1
  · exact h q h1
  · rw [List.mem_singleton.mp h1]; exact Nat.le_add_right _ _
theorem hm_iast {i x : Int32} {a n : Nat} (j : Nat) (hs : hm_S a = (10, n)) (ha : a < hm_n σ) (hi : i = nI j) (hj : j < n) (hn : n < 2 ^ 31) (hd : decode cc pc = .ok (.iastore, 1)) (kk : hm_V l own cc nL ret ini R mc ms Q kc ks (pc + 1) L st (hm_wI σ a j x)) : hm_V l own cc nL ret ini R mc ms Q kc ks pc L (.int x :: .int i :: .ref a :: st) σ := by
  intro p e s m args below meth c D dA base H locs ls hC hR hlo hL
  obtain ⟨h1, h2⟩ := hm_ix hi hj hn
  have hc := hR.arr ha hs (by decide)
  refine W.iast hC.1 hC.2.1 hc ((hC.2.2.2.2.2.2.2.1.1.2 0 _ rfl).1 n _) (fun q => by cases q) (by rw [arrV_size]; exact h1) rfl rfl hd fun H' e1 e2 e3 => ?_
  rw [h2] at e1
  exact kk p e s m args below meth c D dA base H' _ ls hC (hR.ast ha hs (by decide) (hm_upI σ a j x) e1 e2 e3) (hm_locs hlo) hL
theorem hm_zast {i x : Int32} {a n : Nat} (j : Nat) (hx : x = 0 ∨ x = 1) (hs : hm_S a = (12, n)) (ha : a < hm_n σ) (hi : i = nI j) (hj : j < n) (hn : n < 2 ^ 31) (hd : decode cc pc = .ok (.bastore, 1)) (kk : hm_V l own cc nL ret ini R mc ms Q kc ks (pc + 1) L st (hm_wI σ a j x)) : hm_V l own cc nL ret ini R mc ms Q kc ks pc L (.int x :: .int i :: .ref a :: st) σ := by
  intro p e s m args below meth c D dA base H locs ls hC hR hlo hL
  obtain ⟨h1, h2⟩ := hm_ix hi hj hn
  have hc := hR.arr ha hs (by decide)
  refine W.zast hC.1 hC.2.1 hc ((hC.2.2.2.2.2.2.2.1.1.2 2 _ rfl).1 n _) (fun q => by cases q) (by rw [arrV_size]; exact h1) rfl rfl hd fun H' e1 e2 e3 => ?_
  rw [h2, show narrow .boolean (.int x) = .int x by rcases hx with rfl | rfl <;> rfl] at e1
  exact kk p e s m args below meth c D dA base H' _ ls hC (hR.ast ha hs (by decide) (hm_upI σ a j x) e1 e2 e3) (hm_locs hlo) hL
theorem hm_last {i : Int32} {x : Int64} {a n : Nat} (j : Nat) (hs : hm_S a = (11, n)) (ha : a < hm_n σ) (hi : i = nI j) (hj : j < n) (hn : n < 2 ^ 31) (hd : decode cc pc = .ok (.lastore, 1)) (kk : hm_V l own cc nL ret ini R mc ms Q kc ks (pc + 1) L st (hm_wL σ a j x)) : hm_V l own cc nL ret ini R mc ms Q kc ks pc L (.long x :: .int i :: .ref a :: st) σ := by
  intro p e s m args below meth c D dA base H locs ls hC hR hlo hL
  obtain ⟨h1, h2⟩ := hm_ix hi hj hn
  have hc := hR.arr ha hs (by decide)
  refine W.last hC.1 hC.2.1 hc ((hC.2.2.2.2.2.2.2.1.1.2 1 _ rfl).1 n _) (fun q => by cases q) (by rw [arrV_size]; exact h1) rfl rfl hd fun H' e1 e2 e3 => ?_
  rw [h2] at e1
  exact kk p e s m args below meth c D dA base H' _ ls hC (hR.ast ha hs (by decide) (hm_upL σ a j x) e1 e2 e3) (hm_locs hlo) hL
theorem hm_aast {i : Int32} {a n kd ci r : Nat} (j : Nat) (hs : hm_S a = (kd, n)) (hk : kd = 13 ∧ ci = 0 ∨ kd = 14 ∧ ci = 2) (ha : a < hm_n σ) (hsr : hm_S r = (ci, 0)) (hr : r < hm_n σ) (hi : i = nI j) (hj : j < n) (hn : n < 2 ^ 31) (hd : decode cc pc = .ok (.aastore, 1)) (kk : hm_V l own cc nL ret ini R mc ms Q kc ks (pc + 1) L st (hm_wR σ a j (some r))) : hm_V l own cc nL ret ini R mc ms Q kc ks pc L (.ref r :: .int i :: .ref a :: st) σ := by
  intro p e s m args below meth c D dA base H locs ls hC hR hlo hL
  obtain ⟨h1, h2⟩ := hm_ix hi hj hn
  have hc := hR.arr ha hs (by omega)
  have hK := hC.2.2.2.2.2.2.2.1.1
  have h0 : ¬ i < 0 := fun q => h1 (Or.inl q)
  have key : ∀ (T : u_T) (N t0 : Nat) (C : String), hm_Cl[ci]? = some (C, T, N) → (hm_tys dA)[t0]? = some (dA kd, .object C) → hm_at kd = 2 → W p l e R s m args below meth c H locs kc ks (MQ below (hm_Qc D dA base Q) args s mc ms (fun q => base ≤ q)) (F0 m pc ls (.ref (base + r) :: .int i :: .ref (base + a) :: st.map (hm_c base))) := by
    intro T N t0 C hCl ht hat
    obtain ⟨cellV, g1, g2, g3, -⟩ := hR.obj hr hsr hCl
    have hcls := (hK.1 ci _ hCl).2
    obtain ⟨kA, comp, k1, k2, k3, -⟩ := (hK.2 t0 _ ht).2
    have hcomp : comp = D.1 ci := Option.some.inj (k3.symm.trans hcls.1)
    subst hcomp
    obtain ⟨kC, hkC, -⟩ := hcls.2
    refine W.aast hC.1 hC.2.1 hc (fun q h => by cases h) (fun h => by cases h) k1 k2 rfl hkC ⟨h0, by rw [arrV_size, h2]; exact hj⟩ g1 (fun q h => by rw [g3] at h; cases h) (by rw [g2]; exact hkC) (by rw [g2]; exact va_assign hcls) rfl rfl hd fun H' e1 e2 e3 => ?_
    rw [h2] at e1
    exact kk p e s m args below meth c D dA base H' _ ls hC (hR.ast (v := .ref r) ha hs (by omega) (by rw [hat]; exact hm_upR σ a j r) e1 e2 e3) (hm_locs hlo) hL
  rcases hk with ⟨rfl, rfl⟩ | ⟨rfl, rfl⟩
  · exact key TX0 5 3 RX0 rfl rfl rfl
  · exact key TX2 12 4 RX2 rfl rfl rfl
theorem hm_alen {a n : Nat} {v : Int32} {kd : Nat} (hs : hm_S a = (kd, n)) (hk : kd = 10 ∨ kd = 11) (ha : a < hm_n σ) (hv : Int32.ofNat n = v) (hd : decode cc pc = .ok (.arraylength, 1)) (kk : hm_V l own cc nL ret ini R mc ms Q kc ks (pc + 1) L (.int v :: st) σ) : hm_V l own cc nL ret ini R mc ms Q kc ks pc L (.ref a :: st) σ := by
  intro p e s m args below meth c D dA base H locs ls hC hR hlo hL
  have hc := hR.arr ha hs (by omega)
  subst hv
  rcases hk with rfl | rfl
  · exact W.alen (n := Int32.ofNat n) hC.1 hC.2.1 hc ((hC.2.2.2.2.2.2.2.1.1.2 0 _ rfl).1 n _) (by rw [arrV_size]) rfl rfl hd (kk p e s m args below meth c D dA base H locs ls hC hR hlo hL)
  · exact W.alen (n := Int32.ofNat n) hC.1 hC.2.1 hc ((hC.2.2.2.2.2.2.2.1.1.2 1 _ rfl).1 n _) (by rw [arrV_size]) rfl rfl hd (kk p e s m args below meth c D dA base H locs ls hC hR hlo hL)
/-- one cell more -/
theorem hm_Rep.grow {D : va_G} {dA : Nat → ClassId} {base : Nat} {σ : hm_M} {H H' : Heap} (hR : hm_Rep D dA base σ H) (hz : H'.size = base + hm_n σ + 1) (ho : ∀ q, q < base + hm_n σ → H'[q]? = H[q]?) (hc : hm_cl D dA base σ H' (hm_n σ)) : hm_Rep D dA base (hm_g σ) H' := by
  refine ⟨by rw [hz, hm_n_g]; omega, fun b hb => ?_, fun b j hb => ?_⟩
  · rw [hm_n_g] at hb
    by_cases e : b = hm_n σ
    · subst e; exact hc
    · have h := hR.2.1 b (by omega)
      have hq : H'[base + b]? = H[base + b]? := ho _ (by omega)
      unfold hm_cl at h ⊢
      split
      · rename_i hk
        rw [if_pos hk] at h
        obtain ⟨r, h1, h2⟩ := h
        exact ⟨r, h1, h2.kept hq⟩
      · rename_i hk
        rw [if_neg hk] at h
        rw [hq, h]
        rfl
  · rw [hm_n_g] at hb
    exact hR.2.2 b j (by omega)
theorem hm_new {idx ci N : Nat} {C : String} {T : u_T} (hN : hm_NC own idx C N) (hc : hm_Cl[ci]? = some (C, T, N)) (hs : hm_S (hm_n σ) = (ci, 0)) (h1 : kc + 1 ≤ R.cells) (h2 : ks + N ≤ R.slots) (hd : decode cc pc = .ok (.new idx, 3)) (kk : hm_V l own cc nL ret ini R mc ms Q (kc + 1) (ks + N) (pc + 3) L (.ref (hm_n σ) :: st) (hm_g σ)) : hm_V l own cc nL ret ini R mc ms Q kc ks pc L st σ := by
  intro p e s m args below meth c D dA base H locs ls hC hR hlo hL
  have hts := hC.2.2.2.2.2.2.1
  have hKn := hC.2.2.2.2.2.2.2.1.1.1 ci _ hc
  obtain ⟨hin, hty, hnm⟩ := hm_lay hc
  refine W.newcK hC.1 hC.2.1 hC.2.2.2.2.2.1 (hts _ hN.1) (hts _ hN.2.1) (hts _ hN.2.2) rfl hd h1 h2 hKn.2.1 hR.1 fun H' kC hkC e1 z1 o1 => ?_
  refine kk p e s m args below meth c D dA base H' locs ls hC (hR.grow z1 o1 ?_) hlo hL
  unfold hm_cl
  rw [hs]
  rw [if_pos (show ci < 6 from (List.getElem?_eq_some_iff.mp hc).1)]
  refine ⟨_, hc, (u_born (hm_ty ci) hts hin hKn hkC e1 hty).to fun k hk => ?_⟩
  obtain ⟨z1, z2, z3⟩ := hR.2.2 (hm_n σ) k (Nat.le_refl _)
  have h7 := hm_okt_all hc k hk
  generalize hm_ty ci k = t at h7
  cases t <;> first | (simp [hm_okt] at h7; done) | simp [defaultValue, hm_v, hm_tag, z1, z2, z3, hm_rf]
theorem hm_newa {n : Int32} {N kd : Nat} {at_ : ArrayType} (hk : kd = 10 ∧ at_ = .int ∨ kd = 11 ∧ at_ = .long ∨ kd = 12 ∧ at_ = .boolean) (hn : n = nI N) (hN : N ≤ 4096) (hs : hm_S (hm_n σ) = (kd, N)) (h1 : kc + 1 ≤ R.cells) (h2 : ks + N ≤ R.slots) (hd : decode cc pc = .ok (.newarray at_, 2)) (kk : hm_V l own cc nL ret ini R mc ms Q (kc + 1) (ks + N) (pc + 2) L (.ref (hm_n σ) :: st) (hm_g σ)) : hm_V l own cc nL ret ini R mc ms Q kc ks pc L (.int n :: st) σ := by
  intro p e s m args below meth c D dA base H locs ls hC hR hlo hL
  have hts := hC.2.2.2.2.2.2.1
  have hK := hC.2.2.2.2.2.2.2.1.1
  have hn0 : ¬ n < 0 := by rw [hn]; exact nI_pos (by omega)
  have hnN : n.toNatClampNeg = N := by rw [hn]; exact nI_clamp (by omega)
  have key : ∀ (t0 : Nat), (Cond.arrayClass (newarray.typeOf at_)).before args s = true → (hm_tys dA)[t0]? = some (dA kd, newarray.typeOf at_) → (∀ cA : ClassId, va_RA s cA (newarray.typeOf at_) ↔ s.vm.findClass ("[" ++ (newarray.typeOf at_).toString) = some cA) → N * componentBytes (newarray.typeOf at_) ≤ 536870912 → 6 ≤ kd → (∀ j, hm_v base σ (hm_n σ) (hm_at kd) j = defaultValue (newarray.typeOf at_)) →
      W p l e R s m args below meth c H locs kc ks (MQ below (hm_Qc D dA base Q) args s mc ms (fun q => base ≤ q)) (F0 m pc ls (.int n :: st.map (hm_c base))) := by
    intro t0 ha ht hra hby hk6 hdv
    refine va_newaK hC.1 hC.2.1 ha rfl hd rfl hn0 hnN hby h1 h2 hR.1 fun H' cA e1 z1 o1 hAr hNm => ?_
    have hcA : cA = dA kd := Option.some.inj (hNm.symm.trans ((hra _).mp (hK.2 t0 _ ht).2))
    subst hcA
    refine kk p e s m args below meth c D dA base H' locs ls hC (hR.grow z1 o1 ?_) hlo hL
    unfold hm_cl
    rw [hs]
    rw [if_neg (show ¬ kd < 6 by omega), e1]
    congr 2
    funext j
    exact (hdv j).symm
  rcases hk with ⟨rfl, rfl⟩ | ⟨rfl, rfl⟩ | ⟨rfl, rfl⟩
  · exact key 0 (hts _ hm_ac_int) rfl (fun _ => Iff.rfl) (by show N * 4 ≤ _; omega) (by decide) (fun j => by show Value.int (hm_I σ (hm_n σ) j) = _; rw [(hR.2.2 (hm_n σ) j (Nat.le_refl _)).1]; rfl)
  · exact key 1 (hts _ hm_ac_long) rfl (fun _ => Iff.rfl) (by show N * 8 ≤ _; omega) (by decide) (fun j => by show Value.long (hm_L σ (hm_n σ) j) = _; rw [(hR.2.2 (hm_n σ) j (Nat.le_refl _)).2.1]; rfl)
  · exact key 2 (hts _ hm_ac_boolean) rfl (fun _ => Iff.rfl) (by show N * 1 ≤ _; omega) (by decide) (fun j => by show Value.int (hm_I σ (hm_n σ) j) = _; rw [(hR.2.2 (hm_n σ) j (Nat.le_refl _)).1]; rfl)
theorem hm_anew {n : Int32} {N kd idx : Nat} {C : String} (hk : kd = 13 ∧ C = RX0 ∨ kd = 14 ∧ C = RX2) (hw : Cond.classLink own idx C ∈ hm_T) (hn : n = nI N) (hN : N ≤ 4096) (hs : hm_S (hm_n σ) = (kd, N)) (h1 : kc + 1 ≤ R.cells) (h2 : ks + N ≤ R.slots) (hd : decode cc pc = .ok (.anewarray idx, 3)) (kk : hm_V l own cc nL ret ini R mc ms Q (kc + 1) (ks + N) (pc + 3) L (.ref (hm_n σ) :: st) (hm_g σ)) : hm_V l own cc nL ret ini R mc ms Q kc ks pc L (.int n :: st) σ := by
  intro p e s m args below meth c D dA base H locs ls hC hR hlo hL
  have hts := hC.2.2.2.2.2.2.1
  have hK := hC.2.2.2.2.2.2.2.1
  have hn0 : ¬ n < 0 := by rw [hn]; exact nI_pos (by omega)
  have hnN : n.toNatClampNeg = N := by rw [hn]; exact nI_clamp (by omega)
  subst hnN
  have key : ∀ (t0 : Nat), va_AO C s → (hm_tys dA)[t0]? = some (dA kd, .object C) → 6 ≤ kd → hm_at kd = 2 →
      W p l e R s m args below meth c H locs kc ks (MQ below (hm_Qc D dA base Q) args s mc ms (fun q => base ≤ q)) (F0 m pc ls (.int n :: st.map (hm_c base))) := by
    intro t0 ha ht hk6 hat
    refine W.anew hC.1 hC.2.1 hC.2.2.2.2.2.1 (hts _ hw) ha.use rfl hd rfl hn0 (by omega) h1 h2 fun cA kA comp f1 f2 f3 f4 => ?_
    obtain ⟨kA', comp', -, -, -, f5⟩ := (hK.1.2 t0 _ ht).2
    have hcA : cA = dA kd := Option.some.inj (f1.symm.trans f5)
    subst hcA
    have hz : (F0 m (pc + 3) ls (.ref H.size :: st.map (hm_c base))) = F0 m (pc + 3) ls ((Value.ref (hm_n σ) :: st).map (hm_c base)) := by
      show F0 m (pc + 3) ls (.ref H.size :: st.map (hm_c base)) = F0 m (pc + 3) ls (.ref (base + hm_n σ) :: st.map (hm_c base))
      rw [hR.1]
    refine W.eq hz (kk p e s m args below meth c D dA base _ locs ls hC (hR.grow (by rw [Array.size_push, hR.1]) (fun q hq => by rw [Array.getElem?_push, if_neg (by rw [hR.1]; omega)]) ?_) hlo hL)
    unfold hm_cl
    rw [hs]
    rw [if_neg (show ¬ kd < 6 by omega), arrV_new, ← hR.1]
    simp only [Array.getElem?_push_size]
    congr 2
    funext j
    rw [hat]
    show _ = hm_rf base (hm_R σ (hm_n σ) j)
    rw [(hR.2.2 (hm_n σ) j (Nat.le_refl _)).2.2]
    rfl
  rcases hk with ⟨rfl, rfl⟩ | ⟨rfl, rfl⟩
  · exact key 3 hK.2.1 rfl (by decide) rfl
  · exact key 4 hK.2.2.1 rfl (by decide) rfl
theorem hm_objInit {idx a : Nat} (hw : Cond.methodLink own idx objectInit ∈ hm_T ∧ Cond.instanceMethod objectInit ∈ hm_T ∧ Cond.code objectInit ⟨#[0xb1]⟩ 1 none ∈ hm_T) (hf : 1 ≤ R.frames) (hr : (st.map fun v => v.category).sum + 12 ≤ R.locals) (hd : decode cc pc = .ok (.invokespecial idx, 3)) (kk : hm_V l own cc nL ret ini R mc ms Q kc ks (pc + 3) L st σ) : hm_V l own cc nL ret ini R mc ms Q kc ks pc L (.ref a :: st) σ := by
  intro p e s m args below meth c D dA base H locs ls hC hR hlo hL
  have hts := hC.2.2.2.2.2.2.1
  have hcat : ((st.map (hm_c base)).map fun v => v.category) = st.map fun v => v.category := by
    rw [List.map_map]; exact List.map_congr_left fun v _ => hm_c_cat base v
  exact W.objInit hC.1 hC.2.1 hC.2.2.2.2.2.1 (hts _ hw.1) (hts _ hw.2.1) (hts _ hw.2.2) rfl (hL.1.trans hC.2.2.1.symm) rfl hd hf (by show 2 * 0 + _ + 12 ≤ _; rw [hcat]; omega) (kk p e s m args below meth c D dA base H locs ls hC hR hlo hL)
end HA
