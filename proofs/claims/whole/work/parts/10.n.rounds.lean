/-! the reference goes by rounds -/
def dnP (a f : Nat) : Nat → Nat → Prop := fun g j => g < a ∨ (g = a ∧ j < f)
def RI (mm : Nat → Int32) (W : Nat) (wo : Option Nat) (k : Nat) (done : Nat → Nat → Prop) (far : Nat → Int32) (mo : Nat) : Prop :=
  mo ≤ 1 ∧ (mo = 1 → ∃ h, h < 200 ∧ far h = nI (k + 1) ∧ ∀ d, d ≤ k → ¬ Rch mm W wo d h) ∧
  ∀ h, h < 200 → (∃ d, d ≤ k ∧ far h = nI d ∧ Lst mm W wo d h) ∨ (far h = nI (k + 1) ∧ (∀ d, d ≤ k → ¬ Rch mm W wo d h) ∧ Rch mm W wo (k + 1) h ∧ mo = 1) ∨ (far h = eO none ∧ (∀ d, d ≤ k → ¬ Rch mm W wo d h) ∧ ∀ g j, done g j → Rch mm W wo k g → ¬ Eg mm W wo g j h)
theorem RI.exit {mm far : Nat → Int32} {W a f k mo : Nat} {wo : Option Nat} (H : WF mm W) (hk : k < 10000) (ha : a < W) (R : RI mm W wo k (dnP a f) far mo) (hx : ¬ 0 < zs mm a ∨ far a ≠ nI k ∨ zf mm a < f) : RI mm W wo k (dnP (a + 1) 1) far mo := by
  have hW := H.size
  obtain ⟨R1, R2, R3⟩ := R
  refine ⟨R1, R2, fun h hh => ?_⟩
  rcases R3 h hh with c | c | ⟨c1, c2, c3⟩
  · exact Or.inl c
  · exact Or.inr (Or.inl c)
  · refine Or.inr (Or.inr ⟨c1, c2, fun g j hd hr he => ?_⟩)
    rcases hd with hd | ⟨hd1, hd2⟩
    · by_cases hga : g < a
      · exact c3 g j (Or.inl hga) hr he
      · have : g = a := by omega
        subst this
        rcases hx with hx | hx | hx
        · exact hx (hr.hd H).2
        · rcases R3 g (by omega) with ⟨d, d1, d2, d3⟩ | ⟨_, d2, _, _⟩ | ⟨_, d2, _⟩
          · have hdk : d < k := by
              rcases Nat.lt_or_ge d k with q | q
              · exact q
              · have : d = k := by omega
                subst this
                exact absurd d2 hx
            exact c2 (d + 1) (by omega) ⟨g, j, d3.1, he⟩
          · exact d2 k (Nat.le_refl _) hr
          · exact d2 k (Nat.le_refl _) hr
        · exact c3 g j (Or.inr ⟨rfl, by have := he.2.1; omega⟩) hr he
    · have := he.1
      omega
theorem RI.same {mm far : Nat → Int32} {W a f k mo : Nat} {wo : Option Nat} (R : RI mm W wo k (dnP a f) far mo) (hx : ∀ h, h < 200 → far h = eO none → ¬ Eg mm W wo a f h) : RI mm W wo k (dnP a (f + 1)) far mo := by
  obtain ⟨R1, R2, R3⟩ := R
  refine ⟨R1, R2, fun h hh => ?_⟩
  rcases R3 h hh with c | c | ⟨c1, c2, c3⟩
  · exact Or.inl c
  · exact Or.inr (Or.inl c)
  · refine Or.inr (Or.inr ⟨c1, c2, fun g j hd hr he => ?_⟩)
    rcases hd with hd | ⟨hd1, hd2⟩
    · exact c3 g j (Or.inl hd) hr he
    · by_cases hjf : j = f
      · subst hjf; subst hd1
        exact hx h hh c1 he
      · exact c3 g j (Or.inr ⟨hd1, by omega⟩) hr he
theorem RI.new {mm far : Nat → Int32} {W a f k mo b : Nat} {wo : Option Nat} (hk : k < 10000) (ha : a < 200) (hb : b < 200) (R : RI mm W wo k (dnP a f) far mo) (hfa : far a = nI k) (he : Eg mm W wo a f b) (hfb : far b = eO none) : RI mm W wo k (dnP a (f + 1)) (upd far b (nI (k + 1))) 1 := by
  obtain ⟨R1, R2, R3⟩ := R
  have hra : Rch mm W wo k a := by
    rcases R3 a ha with ⟨d, d1, d2, d3⟩ | ⟨d1, _⟩ | ⟨d1, _⟩
    · rw [hfa] at d2
      have := (nI_eq (by omega) (by omega)).mp d2
      subst this
      exact d3.1
    · rw [hfa] at d1
      have := (nI_eq (by omega) (by omega)).mp d1
      omega
    · rw [hfa] at d1
      exact absurd d1 (n_ne_m1 (by omega))
  have hnb : ∀ d, d ≤ k → ¬ Rch mm W wo d b := by
    rcases R3 b hb with ⟨d, d1, d2, d3⟩ | ⟨d1, _⟩ | ⟨_, d2, _⟩
    · rw [hfb] at d2
      exact absurd d2.symm (n_ne_m1 (by omega))
    · rw [hfb] at d1
      exact absurd d1.symm (n_ne_m1 (by omega))
    · exact d2
  refine ⟨Nat.le_refl _, fun _ => ⟨b, hb, pk_us, hnb⟩, fun h hh => ?_⟩
  by_cases hhb : h = b
  · subst hhb
    exact Or.inr (Or.inl ⟨pk_us, hnb, ⟨a, f, hra, he⟩, rfl⟩)
  · rw [pk_un hhb]
    rcases R3 h hh with c | ⟨c1, c2, c3, _⟩ | ⟨c1, c2, c3⟩
    · exact Or.inl c
    · exact Or.inr (Or.inl ⟨c1, c2, c3, rfl⟩)
    · refine Or.inr (Or.inr ⟨c1, c2, fun g j hd hr he2 => ?_⟩)
      rcases hd with hd | ⟨hd1, hd2⟩
      · exact c3 g j (Or.inl hd) hr he2
      · by_cases hjf : j = f
        · subst hjf; subst hd1
          have e1 := he.2.2.1
          have e2 := he2.2.2.1
          rw [e1] at e2
          cases e2
          exact hhb rfl
        · exact c3 g j (Or.inr ⟨hd1, by omega⟩) hr he2
theorem FM_fields {mm far : Nat → Int32} {W a k mo : Nat} {wo : Option Nat} (H : WF mm W) (hw : ∀ w, wo = some w → w < 2147483648) (hk : k < 10000) (ha : a < W) (R : RI mm W wo k (dnP a 1) far mo) :
    ∃ mo' far', g_it (FX7_reaches_L135 mm (eO wo) (nI k) (nI a)) (nI mo, nI 1, far) = some (nI mo', far') ∧ RI mm W wo k (dnP (a + 1) 1) far' mo' := by
  have hW := H.size
  have h6 := H.sz (a := a) (by omega)
  have key := it_invg (f := FX7_reaches_L135 mm (eO wo) (nI k) (nI a)) (fun s => ∃ mo f far, s = (nI mo, nI f, far) ∧ 1 ≤ f ∧ f ≤ 7 ∧ RI mm W wo k (dnP a f) far mo)
    (fun s => 10 - s.2.1.toNatClampNeg) (fun r => ∃ mo' far', r = (nI mo', far') ∧ RI mm W wo k (dnP (a + 1) 1) far' mo') (fun s hs => ?_) (nI mo, nI 1, far) ⟨mo, 1, far, rfl, by omega, by omega, R⟩ (by
      show 10 - (nI 1).toNatClampNeg < 1000000
      omega)
  · obtain ⟨r, h1, mo', far', rfl, h2⟩ := key
    exact ⟨mo', far', h1, h2⟩
  · obtain ⟨mo, f, far, rfl, hf1, hf7, R⟩ := hs
    by_cases hc : mm (200 + a) < nI f
    · refine Or.inr ⟨(nI mo, far), ?_, mo, far, rfl, R.exit H hk ha ?_⟩
      · simp (disch := omega) only [FX7_reaches_L135, ↓lm1, n_ofN, l0, l1, l2, l3, l4, l5, l6, l7, l8, l10, l20, l47, l80, l100, l127, l200, l400, l600, l800, l1000, l1200, l1206, l1210, l1222, n_add, n_clamp, n_gd, n_le_t, n_le_f, n_lt_t, n_lt_f, n_eq_t, n_eq_f, n_no, n_on, n_oo, n_olt, n_nlo, n_ole, Option.bind_some, Option.bind_none, Nat.zero_add, if_true, if_false, if_pos hc]
      · by_cases h0 : 0 < zs mm a
        · have h9 := H.hd (a := a) (by omega) h0
          rw [h9.2.2.1] at hc
          exact Or.inr (Or.inr ((nI_ltI (by omega) (by omega)).mp hc))
        · exact Or.inl h0
    · by_cases h0 : 0 < zs mm a
      · have h9 := H.hd (a := a) (by omega) h0
        have hfz : f ≤ zf mm a := by
          rw [h9.2.2.1] at hc
          rcases Nat.lt_or_ge (zf mm a) f with q | q
          · exact absurd (nI_lt q (by omega)) hc
          · exact q
        by_cases hfa : far a = nI k
        · have e1 : (if mm (800 + a + f) = eO none then some (eO none) else some (eO (obI mm W (mm (800 + a + f))))) = some (eO (obI mm W (mm (800 + a + f)))) := by
            by_cases q : mm (800 + a + f) = eO none
            · rw [if_pos q, q, obI_none]
            · rw [if_neg q]
          have hgo : ∀ far2 mo2, RI mm W wo k (dnP a (f + 1)) far2 mo2 → FX7_reaches_L135 mm (eO wo) (nI k) (nI a) (nI mo, nI f, far) = some (.inl (nI mo2, nI (f + 1), far2)) → (∃ s', FX7_reaches_L135 mm (eO wo) (nI k) (nI a) (nI mo, nI f, far) = some (.inl s') ∧ (∃ mo f far, s' = (nI mo, nI f, far) ∧ 1 ≤ f ∧ f ≤ 7 ∧ RI mm W wo k (dnP a f) far mo) ∧ 10 - s'.2.1.toNatClampNeg < 10 - (nI f).toNatClampNeg) := by
            intro far2 mo2 hR he
            refine ⟨_, he, ⟨mo2, f + 1, far2, rfl, by omega, by omega, hR⟩, ?_⟩
            show 10 - (nI (f + 1)).toNatClampNeg < 10 - (nI f).toNatClampNeg
            rw [n_clamp (by omega), n_clamp (by omega)]
            omega
          cases e : obI mm W (mm (800 + a + f)) with
          | none =>
            rw [e] at e1
            refine Or.inl (hgo far mo (R.same (fun h hh hn he => ?_)) ?_)
            · have := he.2.2.1
              rw [e] at this
              cases this
            · simp (disch := omega) only [FX7_reaches_L135, ↓lm1, n_ofN, l0, l1, l2, l3, l4, l5, l6, l7, l8, l10, l20, l47, l80, l100, l127, l200, l400, l600, l800, l1000, l1200, l1206, l1210, l1222, n_add, n_clamp, n_gd, n_le_t, n_le_f, n_lt_t, n_lt_f, n_eq_t, n_eq_f, n_no, n_on, n_oo, n_olt, n_nlo, n_ole, Option.bind_some, Option.bind_none, Nat.zero_add, if_true, if_false, if_neg hc, h6.1, if_pos hfa, FM_objectOf H, e, ite_self]
          | some b =>
            obtain ⟨t', h1, h2, h3, h4, h5⟩ := obI_sm H e
            have ht : ¬ mm (800 + a + f) = eO none := fun z => by rw [z, obI_none] at e; cases e
            by_cases hwb : wo = some b
            · have hq : nI b = eO wo := (wo_eq (by omega) hw).mpr hwb
              refine Or.inl (hgo far mo (R.same (fun h hh hn he => ?_)) ?_)
              · have := he.2.2.1
                rw [e] at this
                cases this
                exact he.2.2.2 hwb
              · simp (disch := omega) only [FX7_reaches_L135, ↓lm1, n_ofN, l0, l1, l2, l3, l4, l5, l6, l7, l8, l10, l20, l47, l80, l100, l127, l200, l400, l600, l800, l1000, l1200, l1206, l1210, l1222, n_add, n_clamp, n_gd, n_le_t, n_le_f, n_lt_t, n_lt_f, n_eq_t, n_eq_f, n_no, n_on, n_oo, n_olt, n_nlo, n_ole, Option.bind_some, Option.bind_none, Nat.zero_add, if_true, if_false, if_neg hc, h6.1, if_pos hfa, FM_objectOf H, e, eO_some, if_neg ht, if_pos hq]
            · have hq : ¬ nI b = eO wo := fun z => hwb ((wo_eq (by omega) hw).mp z)
              by_cases hfb : far b = eO none
              · refine Or.inl (hgo (upd far b (nI (k + 1))) 1 (R.new hk (by omega) (by omega) hfa ⟨hf1, hfz, e, hwb⟩ hfb) ?_)
                simp (disch := omega) only [FX7_reaches_L135, ↓lm1, n_ofN, l0, l1, l2, l3, l4, l5, l6, l7, l8, l10, l20, l47, l80, l100, l127, l200, l400, l600, l800, l1000, l1200, l1206, l1210, l1222, n_add, n_clamp, n_gd, n_le_t, n_le_f, n_lt_t, n_lt_f, n_eq_t, n_eq_f, n_no, n_on, n_oo, n_olt, n_nlo, n_ole, Option.bind_some, Option.bind_none, Nat.zero_add, if_true, if_false, if_neg hc, h6.1, if_pos hfa, FM_objectOf H, e, eO_some, if_neg ht, if_neg hq, if_pos hfb]
              · refine Or.inl (hgo far mo (R.same (fun h hh hn he => ?_)) ?_)
                · have := he.2.2.1
                  rw [e] at this
                  cases this
                  exact hfb hn
                · simp (disch := omega) only [FX7_reaches_L135, ↓lm1, n_ofN, l0, l1, l2, l3, l4, l5, l6, l7, l8, l10, l20, l47, l80, l100, l127, l200, l400, l600, l800, l1000, l1200, l1206, l1210, l1222, n_add, n_clamp, n_gd, n_le_t, n_le_f, n_lt_t, n_lt_f, n_eq_t, n_eq_f, n_no, n_on, n_oo, n_olt, n_nlo, n_ole, Option.bind_some, Option.bind_none, Nat.zero_add, if_true, if_false, if_neg hc, h6.1, if_pos hfa, FM_objectOf H, e, eO_some, if_neg ht, if_neg hq, if_neg hfb]
        · refine Or.inr ⟨(nI mo, far), ?_, mo, far, rfl, R.exit H hk ha (Or.inr (Or.inl hfa))⟩
          simp (disch := omega) only [FX7_reaches_L135, ↓lm1, n_ofN, l0, l1, l2, l3, l4, l5, l6, l7, l8, l10, l20, l47, l80, l100, l127, l200, l400, l600, l800, l1000, l1200, l1206, l1210, l1222, n_add, n_clamp, n_gd, n_le_t, n_le_f, n_lt_t, n_lt_f, n_eq_t, n_eq_f, n_no, n_on, n_oo, n_olt, n_nlo, n_ole, Option.bind_some, Option.bind_none, Nat.zero_add, if_true, if_false, if_neg hc, h6.1, if_neg hfa]
      · refine Or.inr ⟨(nI mo, far), ?_, mo, far, rfl, R.exit H hk ha (Or.inl h0)⟩
        simp (disch := omega) only [FX7_reaches_L135, ↓lm1, n_ofN, l0, l1, l2, l3, l4, l5, l6, l7, l8, l10, l20, l47, l80, l100, l127, l200, l400, l600, l800, l1000, l1200, l1206, l1210, l1222, n_add, n_clamp, n_gd, n_le_t, n_le_f, n_lt_t, n_lt_f, n_eq_t, n_eq_f, n_no, n_on, n_oo, n_olt, n_nlo, n_ole, Option.bind_some, Option.bind_none, Nat.zero_add, if_true, if_false, if_neg hc, h6.1]
theorem FM_round {mm far : Nat → Int32} {W k : Nat} {wo : Option Nat} (H : WF mm W) (hw : ∀ w, wo = some w → w < 2147483648) (hk : k < 10000) (R : RI mm W wo k (dnP 0 1) far 0) :
    ∃ mo' far', g_it (FX7_reaches_L119 mm (eO wo) (nI k)) (nI 0, nI 0, far) = some (nI mo', far') ∧ RI mm W wo k (dnP W 1) far' mo' := by
  have hW := H.size
  have key := it_invg (f := FX7_reaches_L119 mm (eO wo) (nI k)) (fun s => ∃ mo a far, s = (nI mo, nI a, far) ∧ a ≤ W ∧ RI mm W wo k (dnP a 1) far mo)
    (fun s => W - s.2.1.toNatClampNeg) (fun r => ∃ mo' far', r = (nI mo', far') ∧ RI mm W wo k (dnP W 1) far' mo') (fun s hs => ?_) (nI 0, nI 0, far) ⟨0, 0, far, rfl, by omega, R⟩ (by
      show W - (nI 0).toNatClampNeg < 1000000
      omega)
  · obtain ⟨r, h1, mo', far', rfl, h2⟩ := key
    exact ⟨mo', far', h1, h2⟩
  · obtain ⟨mo, a, far, rfl, ha, R⟩ := hs
    by_cases haW : a < W
    · obtain ⟨mo2, far2, e1, e2⟩ := FM_fields H hw hk haW R
      refine Or.inl ⟨(nI mo2, nI (a + 1), far2), ?_, ⟨mo2, a + 1, far2, rfl, by omega, e2⟩, ?_⟩
      · simp (disch := omega) only [FX7_reaches_L119, H.hw, ↓lm1, n_ofN, l0, l1, l2, l3, l4, l5, l6, l7, l8, l10, l20, l47, l80, l100, l127, l200, l400, l600, l800, l1000, l1200, l1206, l1210, l1222, n_add, n_clamp, n_gd, n_le_t, n_le_f, n_lt_t, n_lt_f, n_eq_t, n_eq_f, n_no, n_on, n_oo, n_olt, n_nlo, n_ole, Option.bind_some, Option.bind_none, Nat.zero_add, if_true, if_false, e1]
      · show W - (nI (a + 1)).toNatClampNeg < W - (nI a).toNatClampNeg
        rw [n_clamp (by omega), n_clamp (by omega)]
        omega
    · have : a = W := by omega
      subst this
      refine Or.inr ⟨(nI mo, far), ?_, mo, far, rfl, R⟩
      simp (disch := omega) only [FX7_reaches_L119, H.hw, ↓lm1, n_ofN, l0, l1, l2, l3, l4, l5, l6, l7, l8, l10, l20, l47, l80, l100, l127, l200, l400, l600, l800, l1000, l1200, l1206, l1210, l1222, n_add, n_clamp, n_gd, n_le_t, n_le_f, n_lt_t, n_lt_f, n_eq_t, n_eq_f, n_no, n_on, n_oo, n_olt, n_nlo, n_ole, Option.bind_some, Option.bind_none, Nat.zero_add, if_true, if_false]
theorem cnt_mono {p q : Nat → Bool} : ∀ (n : Nat), (∀ i, i < n → p i = true → q i = true) → cnt p n ≤ cnt q n
  | 0, _ => Nat.le_refl _
  | n + 1, h => by
    have ih := cnt_mono n (fun i hi => h i (by omega))
    have h1 := h n (by omega)
    unfold cnt
    cases hp : p n with
    | false => simp only [Bool.false_eq_true, if_false]; split <;> omega
    | true =>
      rw [h1 hp]
      simp only [if_true]
      omega
theorem cnt_strict {p q : Nat → Bool} : ∀ (n : Nat), (∀ i, i < n → p i = true → q i = true) → (∃ i, i < n ∧ p i = false ∧ q i = true) → cnt p n < cnt q n
  | 0, _, ⟨i, h, _⟩ => absurd h (Nat.not_lt_zero _)
  | n + 1, h, ⟨i, h1, h2, h3⟩ => by
    have hm := cnt_mono n (fun i hi => h i (by omega))
    by_cases hi : i = n
    · subst hi
      unfold cnt
      rw [h2, h3]
      simp only [Bool.false_eq_true, if_false, if_true]
      omega
    · have ih := cnt_strict n (fun i hi => h i (by omega)) ⟨i, by omega, h2, h3⟩
      have h1 := h n (by omega)
      unfold cnt
      cases hp : p n with
      | false => simp only [Bool.false_eq_true, if_false]; split <;> omega
      | true =>
        rw [h1 hp]
        simp only [if_true]
        omega
def nn (far : Nat → Int32) : Nat := cnt (fun h => decide (far h = eO none)) 200
/-- at a round's beginning -/
def Hd (mm : Nat → Int32) (W : Nat) (wo : Option Nat) (k : Nat) (far : Nat → Int32) : Prop := ∀ h, h < 200 → (∃ d, d ≤ k ∧ far h = nI d ∧ Lst mm W wo d h) ∨ (far h = eO none ∧ ∀ d, d ≤ k → ¬ Rch mm W wo d h)
theorem Rch.stop {mm : Nat → Int32} {W k : Nat} {wo : Option Nat} (h0 : ∀ h, Rch mm W wo (k + 1) h → ∃ d, d ≤ k ∧ Rch mm W wo d h) : ∀ (d h : Nat), Rch mm W wo d h → ∃ d', d' ≤ k ∧ Rch mm W wo d' h
  | 0, h, r => ⟨0, Nat.zero_le _, r⟩
  | d + 1, h, ⟨g, j, r, e⟩ => by
    obtain ⟨d', h1, h2⟩ := Rch.stop h0 d g r
    by_cases hd : d' = k
    · subst hd
      exact h0 h ⟨g, j, h2, e⟩
    · exact ⟨d' + 1, by omega, g, j, h2, e⟩
theorem FM_reaches {mm : Nat → Int32} {W : Nat} {wo : Option Nat} (H : WF mm W) (hw : ∀ w, wo = some w → w < 2147483648) (far : Nat → Int32) : ∃ far', FX7_reaches mm far (eO wo) = some far' ∧ Far mm W wo far' := by
  have hW := H.size
  obtain ⟨f1, f2, k0, k1, k2, hs⟩ := FM_srcs H hw far
  have key := it_invg (f := FX7_reaches_L110 mm (eO wo)) (fun s => (∃ k far, s = (nI 1, nI k, far) ∧ k + nn far ≤ 200 ∧ Hd mm W wo k far) ∨ (∃ x far, s = (nI 0, x, far) ∧ Far mm W wo far))
    (fun s => nn s.2.2 + s.1.toNatClampNeg) (fun r => Far mm W wo r) (fun s hs => ?_) (nI 1, nI 0, f2) (Or.inl ⟨0, f2, rfl, by have := cnt_le (fun h => decide (f2 h = eO none)) 200; unfold nn; omega, fun h hh => ?_⟩) (by
      show nn f2 + (nI 1).toNatClampNeg < 1000000
      have := cnt_le (fun h => decide (f2 h = eO none)) 200
      rw [n_clamp (by omega)]
      unfold nn
      omega)
  · obtain ⟨r, h1, h2⟩ := key
    refine ⟨r, ?_, h2⟩
    simp (disch := omega) only [FX7_reaches, ↓lm1, n_ofN, l0, l1, l2, l3, l4, l5, l6, l7, l8, l10, l20, l47, l80, l100, l127, l200, l400, l600, l800, l1000, l1200, l1206, l1210, l1222, n_add, n_clamp, n_gd, n_le_t, n_le_f, n_lt_t, n_lt_f, n_eq_t, n_eq_f, n_no, n_on, n_oo, n_olt, n_nlo, n_ole, Option.bind_some, Option.bind_none, Nat.zero_add, if_true, if_false, k0, k1, k2, h1]
  · rcases hs with ⟨k, far, rfl, hkn, hh⟩ | ⟨x, far, rfl, hF⟩
    · have R : RI mm W wo k (dnP 0 1) far 0 := by
        refine ⟨by omega, fun z => by omega, fun h h200 => ?_⟩
        rcases hh h h200 with c | ⟨c1, c2⟩
        · exact Or.inl c
        · refine Or.inr (Or.inr ⟨c1, c2, fun g j hd _ he => ?_⟩)
          rcases hd with hd | ⟨_, hd⟩
          · omega
          · have := he.1; omega
      obtain ⟨mo', far', e1, R1, R2, R3⟩ := FM_round H hw (by omega) R
      have e : FX7_reaches_L110 mm (eO wo) (nI 1, nI k, far) = some (.inl (nI mo', nI (k + 1), far')) := by
        simp (disch := omega) only [FX7_reaches_L110, ↓lm1, n_ofN, l0, l1, l2, l3, l4, l5, l6, l7, l8, l10, l20, l47, l80, l100, l127, l200, l400, l600, l800, l1000, l1200, l1206, l1210, l1222, n_add, n_clamp, n_gd, n_le_t, n_le_f, n_lt_t, n_lt_f, n_eq_t, n_eq_f, n_no, n_on, n_oo, n_olt, n_nlo, n_ole, Option.bind_some, Option.bind_none, Nat.zero_add, if_true, if_false, e1]
      have hno : ∀ h, h < 200 → (∀ d, d ≤ k → ¬ Rch mm W wo d h) → far h = eO none := fun h h200 hn => by
        rcases hh h h200 with ⟨d, d1, d2, d3⟩ | ⟨c1, _⟩
        · exact absurd d3.1 (hn d d1)
        · exact c1
      have hmono : ∀ h, h < 200 → decide (far' h = eO none) = true → decide (far h = eO none) = true := fun h h200 hn => by
        simp only [decide_eq_true_eq] at hn ⊢
        rcases R3 h h200 with ⟨d, d1, d2, d3⟩ | ⟨d1, _⟩ | ⟨_, d2, _⟩
        · rw [hn] at d2; exact absurd d2.symm (n_ne_m1 (by omega))
        · rw [hn] at d1; exact absurd d1.symm (n_ne_m1 (by omega))
        · exact hno h h200 d2
      refine Or.inl ⟨_, e, ?_⟩
      have hmo : mo' = 0 ∨ mo' = 1 := by omega
      -- behind the round, nothing that a step more reaches is left out
      have hall : ∀ h, Rch mm W wo (k + 1) h → (∃ d, d ≤ k ∧ Rch mm W wo d h) ∨ (far' h = nI (k + 1) ∧ mo' = 1) := fun h r => by
        have h200 : h < 200 := by have := (r.hd H).1; omega
        rcases R3 h h200 with ⟨d, d1, d2, d3⟩ | ⟨d1, _, _, d4⟩ | ⟨_, d2, d3⟩
        · exact Or.inl ⟨d, d1, d3.1⟩
        · exact Or.inr ⟨d1, d4⟩
        · obtain ⟨g, j, r2, he⟩ := r
          exact absurd he (d3 g j (Or.inl (r2.hd H).1) r2)
      rcases hmo with rfl | rfl
      · refine ⟨Or.inr ⟨nI (k + 1), far', rfl, fun h h200 => ?_⟩, ?_⟩
        · have hst := Rch.stop (mm := mm) (W := W) (wo := wo) (k := k) (fun h r => by
            rcases hall h r with q | ⟨_, q⟩
            · exact q
            · omega)
          rcases R3 h h200 with ⟨d, d1, d2, d3⟩ | ⟨_, _, _, d4⟩ | ⟨d1, d2, _⟩
          · exact Or.inl ⟨d, by omega, d2, d3⟩
          · omega
          · exact Or.inr ⟨d1, fun d r => by
              obtain ⟨d', q1, q2⟩ := hst d h r
              exact d2 d' q1 q2⟩
        · show nn far' + (nI 0).toNatClampNeg < nn far + (nI 1).toNatClampNeg
          have := cnt_mono 200 hmono
          rw [n_clamp (by omega), n_clamp (by omega)]
          unfold nn
          omega
      · have hlt : nn far' < nn far := by
          obtain ⟨h, h1, h2, h3⟩ := R2 rfl
          refine cnt_strict 200 hmono ⟨h, h1, ?_, ?_⟩
          · simp only [decide_eq_false_iff_not, h2]
            exact n_ne_m1 (by omega)
          · simp only [decide_eq_true_eq]
            exact hno h h1 h3
        refine ⟨Or.inl ⟨k + 1, far', rfl, by omega, fun h h200 => ?_⟩, ?_⟩
        · rcases R3 h h200 with ⟨d, d1, d2, d3⟩ | ⟨d1, d2, d3, _⟩ | ⟨d1, d2, d3⟩
          · exact Or.inl ⟨d, by omega, d2, d3⟩
          · exact Or.inl ⟨k + 1, Nat.le_refl _, d1, d3, fun d' hd' => d2 d' (by omega)⟩
          · refine Or.inr ⟨d1, fun d hd r => ?_⟩
            by_cases hdk : d ≤ k
            · exact d2 d hdk r
            · have : d = k + 1 := by omega
              subst this
              obtain ⟨g, j, r2, he⟩ := r
              exact d3 g j (Or.inl (r2.hd H).1) r2 he
        · show nn far' + (nI 1).toNatClampNeg < nn far + (nI 1).toNatClampNeg
          omega
    · refine Or.inr ⟨far, ?_, hF⟩
      simp (disch := omega) only [FX7_reaches_L110, ↓lm1, n_ofN, l0, l1, l2, l3, l4, l5, l6, l7, l8, l10, l20, l47, l80, l100, l127, l200, l400, l600, l800, l1000, l1200, l1206, l1210, l1222, n_add, n_clamp, n_gd, n_le_t, n_le_f, n_lt_t, n_lt_f, n_eq_t, n_eq_f, n_no, n_on, n_oo, n_olt, n_nlo, n_ole, Option.bind_some, Option.bind_none, Nat.zero_add, if_true, if_false]
  · rcases hs h hh with ⟨a, b⟩ | ⟨a, b⟩
    · exact Or.inl ⟨0, Nat.le_refl _, a, b, fun d' hd' => absurd hd' (Nat.not_lt_zero _)⟩
    · refine Or.inr ⟨a, fun d hd => ?_⟩
      have : d = 0 := by omega
      subst this
      exact b
