/-! the first hole that is large enough -/
def Fr (mm : Nat → Int32) (b n : Nat) : Prop := ∀ i, i < n → ob mm (b + i) = none
def Fit (mm : Nat → Int32) (W n : Nat) : Option Nat → Prop
  | none => ∀ b, b + n ≤ W → ¬ Fr mm b n
  | some b => b + n ≤ W ∧ Fr mm b n ∧ ∀ c, c < b → ¬ Fr mm c n
theorem Fit.uniq {mm : Nat → Int32} {W n : Nat} : ∀ {r q : Option Nat}, Fit mm W n r → Fit mm W n q → r = q
  | none, none, _, _ => rfl
  | none, some b, h1, h2 => absurd h2.2.1 (h1 b h2.1)
  | some b, none, h1, h2 => absurd h1.2.1 (h2 b h1.1)
  | some b, some c, h1, h2 => by
    rcases Nat.lt_trichotomy b c with h | h | h
    · exact absurd h1.2.1 (h2.2.2 b h)
    · rw [h]
    · exact absurd h2.2.1 (h1.2.2 c h)
theorem ob_zs {mm : Nat → Int32} {t : Nat} (h : ob mm t = none) : zs mm t = 0 := by
  rcases Nat.eq_zero_or_pos (zs mm t) with z | z
  · exact z
  · rw [ob_self z] at h; cases h
/-- the class: the length of the free words just before a -/
theorem FX_room {mm owner : Nat → Int32} {W n : Nat} (hW : W ≤ 200) (hO : RO W mm owner) (hn : 0 < n) (hn2 : n ≤ 13) : ∃ r, FX1_roomFor (nI W) owner (nI n) = some (eO r) ∧ Fit mm W n r := by
  have key := it_invg (f := FX1_roomFor_L4 (nI W) owner (nI n)) (fun s => ∃ l a, s = (nI l, nI a) ∧ a ≤ W ∧ l ≤ a ∧ l < n ∧ Fr mm (a - l) l ∧ (l = a ∨ ob mm (a - l - 1) ≠ none) ∧ ∀ b, b + n ≤ a → ¬ Fr mm b n)
    (fun s => W - s.2.toNatClampNeg) (fun r => ∃ q, r = eO q ∧ Fit mm W n q) (fun s hs => ?_) (nI 0, nI 0) ⟨0, 0, rfl, by omega, by omega, hn, fun i hi => by omega, Or.inl rfl, fun b hb => by omega⟩ (by
      show W - (nI 0).toNatClampNeg < 1000000
      omega)
  · obtain ⟨r, h1, q, rfl, h2⟩ := key
    refine ⟨q, ?_, h2⟩
    simp (disch := omega) only [FX1_roomFor, ↓lm1, n_ofN, l0, l1, l2, l3, l4, l5, l6, l7, l8, l10, l20, l47, l80, l100, l127, l200, l400, l600, l800, l1000, l1200, l1206, l1210, l1222, n_add, n_clamp, n_gd, n_le_t, n_le_f, n_lt_t, n_lt_f, n_eq_t, n_eq_f, n_no, n_on, n_oo, n_olt, n_nlo, n_ole, Option.bind_some, Option.bind_none, Nat.zero_add, if_true, if_false]
    exact h1
  · obtain ⟨l, a, rfl, ha, hla, hl, hf, hb, hnone⟩ := hs
    by_cases haW : a < W
    · cases e : ob mm a with
      | none =>
        by_cases hln : l + 1 = n
        · refine Or.inr ⟨nI (a + 1 - n), ?_, some (a + 1 - n), rfl, by omega, fun i hi => ?_, fun c hc hcf => ?_⟩
          · simp (disch := omega) only [FX1_roomFor_L4, ↓lm1, n_ofN, l0, l1, l2, l3, l4, l5, l6, l7, l8, l10, l20, l47, l80, l100, l127, l200, l400, l600, l800, l1000, l1200, l1206, l1210, l1222, n_add, n_clamp, n_gd, n_le_t, n_le_f, n_lt_t, n_lt_f, n_eq_t, n_eq_f, n_no, n_on, n_oo, n_olt, n_nlo, n_ole, Option.bind_some, Option.bind_none, Nat.zero_add, if_true, if_false, hO a haW, e, n_sub]
          · by_cases hi2 : i = l
            · subst hi2
              rw [show a + 1 - n + i = a by omega]; exact e
            · rw [show a + 1 - n + i = a - l + i by omega]
              exact hf i (by omega)
          · exact hnone c (by omega) hcf
        · refine Or.inl ⟨(nI (l + 1), nI (a + 1)), ?_, ⟨l + 1, a + 1, rfl, by omega, by omega, by omega, fun i hi => ?_, ?_, fun b hbn hbf => ?_⟩, ?_⟩
          · simp (disch := omega) only [FX1_roomFor_L4, ↓lm1, n_ofN, l0, l1, l2, l3, l4, l5, l6, l7, l8, l10, l20, l47, l80, l100, l127, l200, l400, l600, l800, l1000, l1200, l1206, l1210, l1222, n_add, n_clamp, n_gd, n_le_t, n_le_f, n_lt_t, n_lt_f, n_eq_t, n_eq_f, n_no, n_on, n_oo, n_olt, n_nlo, n_ole, Option.bind_some, Option.bind_none, Nat.zero_add, if_true, if_false, hO a haW, e]
          · by_cases hi2 : i = l
            · subst hi2
              rw [show a + 1 - (i + 1) + i = a by omega]; exact e
            · rw [show a + 1 - (l + 1) + i = a - l + i by omega]
              exact hf i (by omega)
          · rcases hb with hb | hb
            · exact Or.inl (by omega)
            · refine Or.inr ?_
              rw [show a + 1 - (l + 1) - 1 = a - l - 1 by omega]
              exact hb
          · by_cases hbe : b + n ≤ a
            · exact hnone b hbe hbf
            · rcases hb with hb | hb
              · omega
              · apply hb
                have := hbf (a - l - 1 - b) (by omega)
                rw [show b + (a - l - 1 - b) = a - l - 1 by omega] at this
                exact this
          · show W - (nI (a + 1)).toNatClampNeg < W - (nI a).toNatClampNeg
            rw [n_clamp (by omega), n_clamp (by omega)]
            omega
      | some h =>
        have := ob_lt e
        refine Or.inl ⟨(nI 0, nI (a + 1)), ?_, ⟨0, a + 1, rfl, by omega, by omega, hn, fun i hi => by omega, Or.inr ?_, fun b hbn hbf => ?_⟩, ?_⟩
        · simp (disch := omega) only [FX1_roomFor_L4, ↓lm1, n_ofN, l0, l1, l2, l3, l4, l5, l6, l7, l8, l10, l20, l47, l80, l100, l127, l200, l400, l600, l800, l1000, l1200, l1206, l1210, l1222, n_add, n_clamp, n_gd, n_le_t, n_le_f, n_lt_t, n_lt_f, n_eq_t, n_eq_f, n_no, n_on, n_oo, n_olt, n_nlo, n_ole, Option.bind_some, Option.bind_none, Nat.zero_add, if_true, if_false, hO a haW, e, eO_some]
        · rw [show a + 1 - 0 - 1 = a by omega, e]
          intro z; cases z
        · by_cases hbe : b + n ≤ a
          · exact hnone b hbe hbf
          · have := hbf (a - b) (by omega)
            rw [show b + (a - b) = a by omega, e] at this
            cases this
        · show W - (nI (a + 1)).toNatClampNeg < W - (nI a).toNatClampNeg
          rw [n_clamp (by omega), n_clamp (by omega)]
          omega
    · refine Or.inr ⟨eO none, ?_, none, rfl, fun b hbn => hnone b (by omega)⟩
      simp (disch := omega) only [FX1_roomFor_L4, ↓lm1, n_ofN, l0, l1, l2, l3, l4, l5, l6, l7, l8, l10, l20, l47, l80, l100, l127, l200, l400, l600, l800, l1000, l1200, l1206, l1210, l1222, n_add, n_clamp, n_gd, n_le_t, n_le_f, n_lt_t, n_lt_f, n_eq_t, n_eq_f, n_no, n_on, n_oo, n_olt, n_nlo, n_ole, Option.bind_some, Option.bind_none, Nat.zero_add, if_true, if_false]
/-- free words from a boundary on are those without a size -/
def Bd (mm : Nat → Int32) (a : Nat) : Prop := ∀ h, h < a → h + zs mm h ≤ a
theorem ob_bd {mm : Nat → Int32} {a n : Nat} (hb : Bd mm a) (hz : ∀ i, i ≤ n → zs mm (a + i) = 0) : ob mm (a + n) = none := by
  cases e : ob mm (a + n) with
  | none => rfl
  | some h =>
    have h1 := ob_in e
    have h2 := h1.1
    have h3 := h1.2
    by_cases h4 : h < a
    · have := hb h h4
      omega
    · have := hz (h - a) (by omega)
      rw [show a + (h - a) = h by omega] at this
      omega
theorem bd_next {mm : Nat → Int32} {W a : Nat} (H : WF mm W) (hb : Bd mm a) {r : Nat} (hz : ∀ i, i < r → zs mm (a + i) = 0) (h0 : 0 < zs mm (a + r)) (hr : a + r < 200) : Bd mm (a + r + zs mm (a + r)) := by
  intro h hh
  by_cases h1 : h < a
  · have := hb h h1
    omega
  · by_cases h2 : h < a + r
    · have := hz (h - a) (by omega)
      rw [show a + (h - a) = h by omega] at this
      omega
    · by_cases h3 : h = a + r
      · subst h3; omega
      · have := (H.hd hr h0).2.1 h (by omega) hh
        omega
theorem FM_inner {mm : Nat → Int32} {W a n f d : Nat} (H : WF mm W) (hn : n = 1 + f + d) (hn2 : n ≤ 13) (ha : a + n ≤ W) :
    ∃ r, r ≤ n ∧ g_it (FX7_alloc_L50 mm (nI f) (nI d) (nI a)) (nI 0) = some (nI r) ∧ (∀ i, i < r → zs mm (a + i) = 0) ∧ (r < n → 0 < zs mm (a + r)) := by
  have hW := H.size
  have key := it_invg (f := FX7_alloc_L50 mm (nI f) (nI d) (nI a)) (fun s => ∃ r, s = nI r ∧ r ≤ n ∧ ∀ i, i < r → zs mm (a + i) = 0)
    (fun s => n - s.toNatClampNeg) (fun q => ∃ r, q = nI r ∧ r ≤ n ∧ (∀ i, i < r → zs mm (a + i) = 0) ∧ (r < n → 0 < zs mm (a + r))) (fun s hs => ?_) (nI 0) ⟨0, rfl, by omega, fun i hi => by omega⟩ (by
      show n - (nI 0).toNatClampNeg < 1000000
      omega)
  · obtain ⟨q, h1, r, rfl, h2, h3, h4⟩ := key
    exact ⟨r, h2, h1, h3, h4⟩
  · obtain ⟨r, rfl, hr, hz⟩ := hs
    by_cases hrn : r < n
    · have h6 := H.sz (a := a + r) (by omega)
      by_cases h0 : zs mm (a + r) = 0
      · refine Or.inl ⟨nI (r + 1), ?_, ⟨r + 1, rfl, by omega, fun i hi => ?_⟩, ?_⟩
        · simp (disch := omega) only [FX7_alloc_L50, ↓lm1, n_ofN, l0, l1, l2, l3, l4, l5, l6, l7, l8, l10, l20, l47, l80, l100, l127, l200, l400, l600, l800, l1000, l1200, l1206, l1210, l1222, n_add, n_clamp, n_gd, n_le_t, n_le_f, n_lt_t, n_lt_f, n_eq_t, n_eq_f, n_no, n_on, n_oo, n_olt, n_nlo, n_ole, Option.bind_some, Option.bind_none, Nat.zero_add, if_true, if_false, h6.1]
        · by_cases hi2 : i = r
          · subst hi2; exact h0
          · exact hz i (by omega)
        · show n - (nI (r + 1)).toNatClampNeg < n - (nI r).toNatClampNeg
          rw [n_clamp (by omega), n_clamp (by omega)]
          omega
      · refine Or.inr ⟨nI r, ?_, r, rfl, hr, hz, fun _ => by omega⟩
        simp (disch := omega) only [FX7_alloc_L50, ↓lm1, n_ofN, l0, l1, l2, l3, l4, l5, l6, l7, l8, l10, l20, l47, l80, l100, l127, l200, l400, l600, l800, l1000, l1200, l1206, l1210, l1222, n_add, n_clamp, n_gd, n_le_t, n_le_f, n_lt_t, n_lt_f, n_eq_t, n_eq_f, n_no, n_on, n_oo, n_olt, n_nlo, n_ole, Option.bind_some, Option.bind_none, Nat.zero_add, if_true, if_false, h6.1]
    · refine Or.inr ⟨nI r, ?_, r, rfl, hr, hz, fun h => by omega⟩
      simp (disch := omega) only [FX7_alloc_L50, ↓lm1, n_ofN, l0, l1, l2, l3, l4, l5, l6, l7, l8, l10, l20, l47, l80, l100, l127, l200, l400, l600, l800, l1000, l1200, l1206, l1210, l1222, n_add, n_clamp, n_gd, n_le_t, n_le_f, n_lt_t, n_lt_f, n_eq_t, n_eq_f, n_no, n_on, n_oo, n_olt, n_nlo, n_ole, Option.bind_some, Option.bind_none, Nat.zero_add, if_true, if_false]
/-- the reference: it goes from boundary to boundary -/
theorem FM_room {mm : Nat → Int32} {W n f d : Nat} (H : WF mm W) (hn : n = 1 + f + d) (hf : f ≤ 6) (hd : d ≤ 6) (lay : Nat → Nat → Int32) (hlay : ∀ b, b + n ≤ W → FX7_lays mm (nI b) (nI f) (nI d) = some (lay b)) :
    ∃ r, Fit mm W n r ∧ g_it (FX7_alloc_L32 mm (nI f) (nI d)) (nI 0) = some (match r with | none => (-1000004, mm) | some b => (nI b, lay b)) := by
  have hW := H.size
  have key := it_invg (f := FX7_alloc_L32 mm (nI f) (nI d)) (fun s => ∃ a, s = nI a ∧ a ≤ W ∧ Bd mm a ∧ ∀ b, b < a → ¬ Fr mm b n)
    (fun s => W - s.toNatClampNeg) (fun q => ∃ r, Fit mm W n r ∧ q = (match r with | none => (-1000004, mm) | some b => (nI b, lay b))) (fun s hs => ?_) (nI 0) ⟨0, rfl, by omega, fun h hh => by omega, fun b hb => by omega⟩ (by
      show W - (nI 0).toNatClampNeg < 1000000
      omega)
  · obtain ⟨q, h1, r, h2, rfl⟩ := key
    exact ⟨r, h2, h1⟩
  · obtain ⟨a, rfl, ha, hb, hno⟩ := hs
    by_cases hfit : a + n ≤ W
    · obtain ⟨r, hr, hin, hz, hp⟩ := FM_inner (a := a) H hn (by omega) hfit
      by_cases hrn : r = n
      · subst hrn
        refine Or.inr ⟨(nI a, lay a), ?_, some a, ⟨hfit, fun i hi => ob_bd hb (fun j hj => hz j (by omega)), fun c hc => hno c hc⟩, rfl⟩
        simp (disch := omega) only [FX7_alloc_L32, ↓lm1, n_ofN, l0, l1, l2, l3, l4, l5, l6, l7, l8, l10, l20, l47, l80, l100, l127, l200, l400, l600, l800, l1000, l1200, l1206, l1210, l1222, n_add, n_clamp, n_gd, n_le_t, n_le_f, n_lt_t, n_lt_f, n_eq_t, n_eq_f, n_no, n_on, n_oo, n_olt, n_nlo, n_ole, Option.bind_some, Option.bind_none, Nat.zero_add, if_true, if_false, H.hw, hin, hlay a hfit]
      · have h0 := hp (by omega)
        have h6 := H.sz (a := a + r) (by omega)
        have h7 := H.hd (a := a + r) (by omega) h0
        refine Or.inl ⟨nI (a + (r + zs mm (a + r))), ?_, ⟨a + (r + zs mm (a + r)), rfl, by omega, ?_, fun b hbl hbf => ?_⟩, ?_⟩
        · simp (disch := omega) only [FX7_alloc_L32, ↓lm1, n_ofN, l0, l1, l2, l3, l4, l5, l6, l7, l8, l10, l20, l47, l80, l100, l127, l200, l400, l600, l800, l1000, l1200, l1206, l1210, l1222, n_add, n_clamp, n_gd, n_le_t, n_le_f, n_lt_t, n_lt_f, n_eq_t, n_eq_f, n_no, n_on, n_oo, n_olt, n_nlo, n_ole, Option.bind_some, Option.bind_none, Nat.zero_add, if_true, if_false, H.hw, hin, h6.1]
        · rw [← Nat.add_assoc]
          exact bd_next H hb hz h0 (by omega)
        · by_cases hba : b < a
          · exact hno b hba hbf
          · by_cases hbr : b ≤ a + r
            · have := hbf (a + r - b) (by omega)
              rw [show b + (a + r - b) = a + r by omega, ob_self h0] at this
              cases this
            · have := hbf 0 (by omega)
              rw [Nat.add_zero, ob_of H (h := a + r) (by omega) ⟨by omega, by omega⟩] at this
              cases this
        · show W - (nI (a + (r + zs mm (a + r)))).toNatClampNeg < W - (nI a).toNatClampNeg
          rw [n_clamp (by omega), n_clamp (by omega)]
          omega
    · refine Or.inr ⟨(-1000004, mm), ?_, none, fun b hbn hbf => ?_, rfl⟩
      · simp (disch := omega) only [FX7_alloc_L32, ↓lm1, n_ofN, l0, l1, l2, l3, l4, l5, l6, l7, l8, l10, l20, l47, l80, l100, l127, l200, l400, l600, l800, l1000, l1200, l1206, l1210, l1222, n_add, n_clamp, n_gd, n_le_t, n_le_f, n_lt_t, n_lt_f, n_eq_t, n_eq_f, n_no, n_on, n_oo, n_olt, n_nlo, n_ole, Option.bind_some, Option.bind_none, Nat.zero_add, if_true, if_false, H.hw]
      · exact hno b (by omega) hbf
