/-! what one side does leaves the other -/
theorem rM.keep {α : sA} {σ τ : hm_M} (h : rM α σ) (f : cs_fr σ τ) : rM α τ := by
  obtain ⟨fn, fo⟩ := f
  have oI : ∀ a k, 27 ≤ a → a < 52 → hm_I τ a k = hm_I σ a k := fun a k h1 h2 => (fo a k h1 h2).1
  have oL : ∀ a k, 27 ≤ a → a < 52 → hm_L τ a k = hm_L σ a k := fun a k h1 h2 => (fo a k h1 h2).2.1
  refine ⟨⟨Nat.le_trans h.m.1 fn, fun k => (fo 27 k (by decide) (by decide)).2.2.trans (h.m.2 k)⟩, fun f i hi => ?_, fun f i hi => ?_, fun f i hi => ?_, ⟨(oI 27 12 (by decide) (by decide)).trans h.b.1, fun b x hb => ?_⟩, fun p hp => ?_⟩
  · obtain ⟨-, -, -, -, -, -, -, -, -, -, -, -, s1, s2, -⟩ := md_lN_sc hi
    exact (oI _ _ s1 s2).trans (h.n f i hi)
  · obtain ⟨-, -, -, -, -, -, -, -, -, -, -, -, s1, s2, -⟩ := md_lI_sc hi
    exact (oI _ _ s1 s2).trans (h.i f i hi)
  · obtain ⟨-, -, -, -, -, -, -, -, -, -, -, -, s1, s2, -⟩ := md_lL_sc hi
    exact (oL _ _ s1 s2).trans (h.l f i hi)
  · obtain ⟨e1, e2, e3, e4, e5⟩ := h.b.2 b x hb
    exact ⟨(oI 38 b (by decide) (by decide)).trans e1, (oI 39 b (by decide) (by decide)).trans e2, (oI 40 b (by decide) (by decide)).trans e3, (oI 41 b (by decide) (by decide)).trans e4, (oI 42 b (by decide) (by decide)).trans e5⟩
  · obtain ⟨e1, e2, e3, e4, e5⟩ := h.q p hp
    exact ⟨(oI 43 p (by decide) (by decide)).trans e1, (oI 45 p (by decide) (by decide)).trans e2, fun k v hv => (oL 44 _ (by decide) (by decide)).trans (e3 k v hv), fun k v hv => (oL 46 _ (by decide) (by decide)).trans (e4 k v hv), fun k v hv => (oL 48 _ (by decide) (by decide)).trans (e5 k v hv)⟩
theorem rC.keep {α : sA} {σ τ : hm_M} (h : rC α σ) (f : md_fo σ τ) : rC α τ := by
  obtain ⟨fn, fR, fo⟩ := f
  have oI : ∀ a k, (a < 27 ∨ 52 ≤ a) → hm_I τ a k = hm_I σ a k := fun a k ha => (fo a k ha).1
  have oL : ∀ a k, (a < 27 ∨ 52 ≤ a) → hm_L τ a k = hm_L σ a k := fun a k ha => (fo a k ha).2
  have sc : ∀ a k, cs_sc a k → a < 27 ∨ 52 ≤ a := fun a k hs => by
    obtain ⟨-, -, -, -, -, h | ⟨q, h1, -⟩⟩ := hs
    · exact Or.inl h
    · right; rw [h1]; unfold pA; omega
  have ebk : ∀ (a c g : Nat) (q : List Int64), 52 ≤ a → bk σ a c g q → bk τ a c g q := fun a c g q ha hb => by
    obtain ⟨b1, b2, b3, b4, b5⟩ := hb
    exact ⟨by rw [oI _ _ (by omega)]; exact b1, b2, by rw [oI _ _ (by omega)]; exact b3, b4, fun k v hv => by rw [oL _ _ (by omega)]; exact b5 k v hv⟩
  refine ⟨⟨by rw [fn]; exact h.r.1, fun k => by rw [fR]; exact h.r.2.1 k, fun k => by rw [fR]; exact h.r.2.2 k⟩, fun f i hi => by rw [oI _ _ (sc _ _ (cs_lN_sc hi))]; exact h.n f i hi, fun f i hi => by rw [oI _ _ (sc _ _ (cs_lI_sc hi))]; exact h.i f i hi, fun f i hi => by rw [oL _ _ (sc _ _ (cs_lL_sc hi))]; exact h.l f i hi, ⟨fun w ch h1 h2 => by rw [oI _ _ (by omega)]; exact h.z.1 w ch h1 h2, fun w ch h1 h2 => by rw [oI _ _ (by omega)]; exact h.z.2.1 w ch h1 h2, fun w ch h1 h2 => by rw [oI _ _ (by omega)]; exact h.z.2.2 w ch h1 h2⟩, ?_, fun p hp => ?_⟩
  · have hl := @cs_B.lt _ _ h.b
    obtain ⟨c1, π, c2, c3⟩ := h.b
    refine ⟨⟨by rw [oI _ _ (by omega)]; exact c1.1, c1.2⟩, π, ⟨fun k hk => ⟨by rw [fR]; exact (c2.1 k hk).1, (c2.1 k hk).2⟩, c2.2⟩, fun b x hb => ?_⟩
    obtain ⟨e1, e2, e3, e4, e5⟩ := c3 b x hb
    have hpi := (c2.1 b (hl hb)).2
    refine ⟨?_, ?_, ?_, ?_, ?_⟩ <;> rw [oI _ _ (by omega)] <;> assumption
  · obtain ⟨c1, c2, c3, ⟨f1, c4⟩, ⟨f2, c5⟩, f3, c6⟩ := h.p hp
    have hpA : pA p = 52 + 7 * p := rfl
    exact ⟨by rw [fR]; exact c1, by rw [fR]; exact c2, by rw [oI _ _ (by omega)]; exact c3, ⟨f1, ebk _ _ _ _ (by omega) c4⟩, ⟨f2, ebk _ _ _ _ (by omega) c5⟩, f3, ebk _ _ _ _ (by omega) c6⟩
theorem bt_0 (i : Nat) (hi : i < 32) : bt 0 i = false := (bt_ne0 0).mp rfl i hi
/-- a new house, and a new reference -/
theorem rC.born {τ : hm_M} (hI : ∀ a k, hm_I τ a k = 0) (hL : ∀ a k, hm_L τ a k = 0) (hn : hm_n τ = 52) (h0 : ∀ k, hm_R τ 0 k = hs_tab k) (h1 : ∀ k, hm_R τ 1 k = ra_tab k) (h8 : ∀ j, j < 16 → hm_R τ 8 j = some (9 + j)) : rC sA0 τ := by
  refine ⟨⟨hn, h0, h1⟩, fun f i hi => hI _ _, fun f i hi => hI _ _, fun f i hi => hL _ _, ⟨fun w ch h1 h2 => ?_, fun w ch h1 h2 => ?_, fun w ch h1 h2 => ?_⟩, ⟨⟨hI _ _, by show 0 ≤ 16; omega⟩, fun k => k, ⟨fun k hk => ⟨h8 k hk, hk⟩, fun j k _ _ e => e⟩, fun b x hb => (by cases hb)⟩, fun p hp => absurd hp (Nat.not_lt_zero _)⟩
  · rw [hI, bt_0 _ (by omega)]; rfl
  · rw [hI, bt_0 _ (by omega)]; rfl
  · rw [hI, bt_0 _ (by omega)]; rfl
theorem rM.born {τ : hm_M} (hI : ∀ a k, hm_I τ a k = 0) (hL : ∀ a k, hm_L τ a k = 0) (hn : hm_n τ = 52) (h27 : ∀ k, hm_R τ 27 k = md_tab k) : rM sA0 τ :=
  ⟨⟨by rw [hn]; exact Nat.le_refl _, h27⟩, fun f i hi => hI _ _, fun f i hi => hI _ _, fun f i hi => hL _ _, ⟨hI _ _, fun b x hb => (by cases hb)⟩, fun p hp => ⟨hI _ _, hI _ _, fun k v hv => (by cases hv), fun k v hv => (by cases hv), fun k v hv => (by cases hv)⟩⟩
