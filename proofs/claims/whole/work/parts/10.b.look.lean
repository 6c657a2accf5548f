/-! the object of a word, in both -/
def obI (mm : Nat → Int32) (W : Nat) (p : Int32) : Option Nat := if p < nI 0 then none else if W ≤ p.toNatClampNeg then none else ob mm p.toNatClampNeg
theorem obI_neg {mm : Nat → Int32} {W : Nat} {p : Int32} (h : p < nI 0) : obI mm W p = none := if_pos h
theorem obI_nI {mm : Nat → Int32} {W t : Nat} (h : t < W) (hW : W ≤ 200) : obI mm W (nI t) = ob mm t := by
  unfold obI
  have h1 : ¬ W ≤ t := by omega
  simp (disch := omega) only [↓lm1, n_ofN, l0, l1, l2, l3, l4, l5, l6, l7, l8, l10, l20, l47, l80, l100, l127, l200, l400, l600, l800, l1000, l1200, l1206, l1210, l1222, n_add, n_clamp, n_gd, n_le_t, n_le_f, n_lt_t, n_lt_f, n_eq_t, n_eq_f, n_no, n_on, n_oo, n_olt, n_nlo, n_ole, Option.bind_some, Option.bind_none, Nat.zero_add, if_true, if_false, if_neg h1]
theorem obI_big {mm : Nat → Int32} {W t : Nat} (h : W ≤ t) (ht : t < 2147483648) : obI mm W (nI t) = none := by
  unfold obI
  simp (disch := omega) only [↓lm1, n_ofN, l0, l1, l2, l3, l4, l5, l6, l7, l8, l10, l20, l47, l80, l100, l127, l200, l400, l600, l800, l1000, l1200, l1206, l1210, l1222, n_add, n_clamp, n_gd, n_le_t, n_le_f, n_lt_t, n_lt_f, n_eq_t, n_eq_f, n_no, n_on, n_oo, n_olt, n_nlo, n_ole, Option.bind_some, Option.bind_none, Nat.zero_add, if_true, if_false, if_pos h]
theorem FM_objectOf {mm : Nat → Int32} {W : Nat} (H : WF mm W) (p : Int32) : FX7_objectOf mm p = some (eO (obI mm W p)) := by
  have hW := H.size
  rcases n_cases p with h | ⟨t, ht, rfl⟩
  · simp (disch := omega) only [FX7_objectOf, FX7_in, ↓lm1, n_ofN, l0, l1, l2, l3, l4, l5, l6, l7, l8, l10, l20, l47, l80, l100, l127, l200, l400, l600, l800, l1000, l1200, l1206, l1210, l1222, n_add, n_clamp, n_gd, n_le_t, n_le_f, n_lt_t, n_lt_f, n_eq_t, n_eq_f, n_no, n_on, n_oo, n_olt, n_nlo, n_ole, Option.bind_some, Option.bind_none, Nat.zero_add, if_true, if_false, H.hw, if_pos h, obI_neg h]
  · by_cases hb : t < W
    · rw [obI_nI hb hW.2]
      have hs : g_it (FX7_objectOf_L22 mm) (nI t) = some (eO (dn mm t)) := FM_seek H t g_fuel (by omega) (by unfold g_fuel; omega)
      simp (disch := omega) only [FX7_objectOf, FX7_in, ↓lm1, n_ofN, l0, l1, l2, l3, l4, l5, l6, l7, l8, l10, l20, l47, l80, l100, l127, l200, l400, l600, l800, l1000, l1200, l1206, l1210, l1222, n_add, n_clamp, n_gd, n_le_t, n_le_f, n_lt_t, n_lt_f, n_eq_t, n_eq_f, n_no, n_on, n_oo, n_olt, n_nlo, n_ole, Option.bind_some, Option.bind_none, Nat.zero_add, if_true, if_false, H.hw, n_sub, hs]
      unfold ob
      cases hd : dn mm t with
      | none => simp (disch := omega) only [↓lm1, n_ofN, l0, l1, l2, l3, l4, l5, l6, l7, l8, l10, l20, l47, l80, l100, l127, l200, l400, l600, l800, l1000, l1200, l1206, l1210, l1222, n_add, n_clamp, n_gd, n_le_t, n_le_f, n_lt_t, n_lt_f, n_eq_t, n_eq_f, n_no, n_on, n_oo, n_olt, n_nlo, n_ole, Option.bind_some, Option.bind_none, Nat.zero_add, if_true, if_false]
      | some h =>
        have h1 := dn_le hd
        have h2 := H.sz (a := h) (by omega)
        by_cases hl : t < h + zs mm h
        · simp (disch := omega) only [eO_some, ↓lm1, n_ofN, l0, l1, l2, l3, l4, l5, l6, l7, l8, l10, l20, l47, l80, l100, l127, l200, l400, l600, l800, l1000, l1200, l1206, l1210, l1222, n_add, n_clamp, n_gd, n_le_t, n_le_f, n_lt_t, n_lt_f, n_eq_t, n_eq_f, n_no, n_on, n_oo, n_olt, n_nlo, n_ole, Option.bind_some, Option.bind_none, Nat.zero_add, if_true, if_false, h2.1, if_pos hl]
        · simp (disch := omega) only [eO_some, ↓lm1, n_ofN, l0, l1, l2, l3, l4, l5, l6, l7, l8, l10, l20, l47, l80, l100, l127, l200, l400, l600, l800, l1000, l1200, l1206, l1210, l1222, n_add, n_clamp, n_gd, n_le_t, n_le_f, n_lt_t, n_lt_f, n_eq_t, n_eq_f, n_no, n_on, n_oo, n_olt, n_nlo, n_ole, Option.bind_some, Option.bind_none, Nat.zero_add, if_true, if_false, h2.1, if_neg hl]
    · rw [obI_big (by omega) ht]
      simp (disch := omega) only [FX7_objectOf, FX7_in, ↓lm1, n_ofN, l0, l1, l2, l3, l4, l5, l6, l7, l8, l10, l20, l47, l80, l100, l127, l200, l400, l600, l800, l1000, l1200, l1206, l1210, l1222, n_add, n_clamp, n_gd, n_le_t, n_le_f, n_lt_t, n_lt_f, n_eq_t, n_eq_f, n_no, n_on, n_oo, n_olt, n_nlo, n_ole, Option.bind_some, Option.bind_none, Nat.zero_add, if_true, if_false, H.hw, n_sub]
theorem FX_objectAt {mm : Nat → Int32} {W : Nat} {owner : Nat → Int32} (hW : W ≤ 200) (hO : ∀ t, t < W → owner t = eO (ob mm t)) (p : Int32) : FX1_objectAt (nI W) owner p = some (eO (obI mm W p)) := by
  rcases n_cases p with h | ⟨t, ht, rfl⟩
  · simp (disch := omega) only [FX1_objectAt, FX1_isAddress, ↓lm1, n_ofN, l0, l1, l2, l3, l4, l5, l6, l7, l8, l10, l20, l47, l80, l100, l127, l200, l400, l600, l800, l1000, l1200, l1206, l1210, l1222, n_add, n_clamp, n_gd, n_le_t, n_le_f, n_lt_t, n_lt_f, n_eq_t, n_eq_f, n_no, n_on, n_oo, n_olt, n_nlo, n_ole, Option.bind_some, Option.bind_none, Nat.zero_add, if_true, if_false, if_pos h, obI_neg h]
  · by_cases hb : t < W
    · rw [obI_nI hb hW]
      simp (disch := omega) only [FX1_objectAt, FX1_isAddress, ↓lm1, n_ofN, l0, l1, l2, l3, l4, l5, l6, l7, l8, l10, l20, l47, l80, l100, l127, l200, l400, l600, l800, l1000, l1200, l1206, l1210, l1222, n_add, n_clamp, n_gd, n_le_t, n_le_f, n_lt_t, n_lt_f, n_eq_t, n_eq_f, n_no, n_on, n_oo, n_olt, n_nlo, n_ole, Option.bind_some, Option.bind_none, Nat.zero_add, if_true, if_false, hO t hb]
    · rw [obI_big (by omega) ht]
      simp (disch := omega) only [FX1_objectAt, FX1_isAddress, ↓lm1, n_ofN, l0, l1, l2, l3, l4, l5, l6, l7, l8, l10, l20, l47, l80, l100, l127, l200, l400, l600, l800, l1000, l1200, l1206, l1210, l1222, n_add, n_clamp, n_gd, n_le_t, n_le_f, n_lt_t, n_lt_f, n_eq_t, n_eq_f, n_no, n_on, n_oo, n_olt, n_nlo, n_ole, Option.bind_some, Option.bind_none, Nat.zero_add, if_true, if_false]
theorem ob_self {mm : Nat → Int32} {a : Nat} (h : 0 < zs mm a) : ob mm a = some a := by
  have h1 : dn mm a = some a := dn_of h (Nat.le_refl a) (fun b h1 h2 => by omega)
  unfold ob
  rw [h1]
  exact if_pos (by omega)
theorem ob_ns {mm : Nat → Int32} {a : Nat} (h : zs mm a = 0) : ob mm a ≠ some a := fun e => by
  have := ob_in e
  unfold In at this
  omega
theorem ob_lt {mm : Nat → Int32} {t h : Nat} (e : ob mm t = some h) : h ≤ t := (ob_in e).1
theorem FX_isObject {mm : Nat → Int32} {W : Nat} {owner : Nat → Int32} (hW : W ≤ 200) (hO : ∀ t, t < W → owner t = eO (ob mm t)) {a : Nat} (ha : a < W) : FX1_isObject (nI W) owner (nI a) = some (nI (if 0 < zs mm a then 1 else 0)) := by
  simp (disch := omega) only [FX1_isObject, FX1_isAddress, ↓lm1, n_ofN, l0, l1, l2, l3, l4, l5, l6, l7, l8, l10, l20, l47, l80, l100, l127, l200, l400, l600, l800, l1000, l1200, l1206, l1210, l1222, n_add, n_clamp, n_gd, n_le_t, n_le_f, n_lt_t, n_lt_f, n_eq_t, n_eq_f, n_no, n_on, n_oo, n_olt, n_nlo, n_ole, Option.bind_some, Option.bind_none, Nat.zero_add, if_true, if_false, hO a ha]
  by_cases h : 0 < zs mm a
  · simp (disch := omega) only [ob_self h, if_pos h, eO_some, ↓lm1, n_ofN, l0, l1, l2, l3, l4, l5, l6, l7, l8, l10, l20, l47, l80, l100, l127, l200, l400, l600, l800, l1000, l1200, l1206, l1210, l1222, n_add, n_clamp, n_gd, n_le_t, n_le_f, n_lt_t, n_lt_f, n_eq_t, n_eq_f, n_no, n_on, n_oo, n_olt, n_nlo, n_ole, Option.bind_some, Option.bind_none, Nat.zero_add, if_true, if_false]
  · rw [if_neg h]
    cases e : ob mm a with
    | none => simp (disch := omega) only [↓lm1, n_ofN, l0, l1, l2, l3, l4, l5, l6, l7, l8, l10, l20, l47, l80, l100, l127, l200, l400, l600, l800, l1000, l1200, l1206, l1210, l1222, n_add, n_clamp, n_gd, n_le_t, n_le_f, n_lt_t, n_lt_f, n_eq_t, n_eq_f, n_no, n_on, n_oo, n_olt, n_nlo, n_ole, Option.bind_some, Option.bind_none, Nat.zero_add, if_true, if_false]
    | some b =>
      have h1 := ob_lt e
      have h2 : b ≠ a := fun z => ob_ns (by omega) (z ▸ e)
      simp (disch := omega) only [eO_some, ↓lm1, n_ofN, l0, l1, l2, l3, l4, l5, l6, l7, l8, l10, l20, l47, l80, l100, l127, l200, l400, l600, l800, l1000, l1200, l1206, l1210, l1222, n_add, n_clamp, n_gd, n_le_t, n_le_f, n_lt_t, n_lt_f, n_eq_t, n_eq_f, n_no, n_on, n_oo, n_olt, n_nlo, n_ole, Option.bind_some, Option.bind_none, Nat.zero_add, if_true, if_false]
/-- the first header from a on, below a + d -/
def fh (mm : Nat → Int32) : Nat → Nat → Option Nat
  | 0, _ => none
  | d + 1, a => if 0 < zs mm a then some a else fh mm d (a + 1)
theorem FM_from {mm : Nat → Int32} {W : Nat} (H : WF mm W) : ∀ (d a fu : Nat), a + d = W → d < fu → g_itn (FX7_objectFrom_L2 mm) fu (nI a) = some (eO (fh mm d a))
  | 0, a, fu + 1, h, _ => by
    have hW := H.size
    have e : FX7_objectFrom_L2 mm (nI a) = some (.inr (eO none)) := by
      simp (disch := omega) only [FX7_objectFrom_L2, H.hw, ↓lm1, n_ofN, l0, l1, l2, l3, l4, l5, l6, l7, l8, l10, l20, l47, l80, l100, l127, l200, l400, l600, l800, l1000, l1200, l1206, l1210, l1222, n_add, n_clamp, n_gd, n_le_t, n_le_f, n_lt_t, n_lt_f, n_eq_t, n_eq_f, n_no, n_on, n_oo, n_olt, n_nlo, n_ole, Option.bind_some, Option.bind_none, Nat.zero_add, if_true, if_false]
    simp only [g_itn, e, fh]
  | d + 1, a, fu + 1, h, hf => by
    have hW := H.size
    have hz := H.sz (a := a) (by omega)
    by_cases h0 : 0 < zs mm a
    · have e : FX7_objectFrom_L2 mm (nI a) = some (.inr (nI a)) := by
        simp (disch := omega) only [FX7_objectFrom_L2, H.hw, ↓lm1, n_ofN, l0, l1, l2, l3, l4, l5, l6, l7, l8, l10, l20, l47, l80, l100, l127, l200, l400, l600, l800, l1000, l1200, l1206, l1210, l1222, n_add, n_clamp, n_gd, n_le_t, n_le_f, n_lt_t, n_lt_f, n_eq_t, n_eq_f, n_no, n_on, n_oo, n_olt, n_nlo, n_ole, Option.bind_some, Option.bind_none, Nat.zero_add, if_true, if_false, hz.1]
      simp only [g_itn, e, fh, if_pos h0, eO_some]
    · have e : FX7_objectFrom_L2 mm (nI a) = some (.inl (nI (a + 1))) := by
        simp (disch := omega) only [FX7_objectFrom_L2, H.hw, ↓lm1, n_ofN, l0, l1, l2, l3, l4, l5, l6, l7, l8, l10, l20, l47, l80, l100, l127, l200, l400, l600, l800, l1000, l1200, l1206, l1210, l1222, n_add, n_clamp, n_gd, n_le_t, n_le_f, n_lt_t, n_lt_f, n_eq_t, n_eq_f, n_no, n_on, n_oo, n_olt, n_nlo, n_ole, Option.bind_some, Option.bind_none, Nat.zero_add, if_true, if_false, hz.1]
      simp only [g_itn, e, fh, if_neg h0]
      exact FM_from H d (a + 1) fu (by omega) (by omega)
theorem FX_from {mm : Nat → Int32} {W : Nat} {owner : Nat → Int32} (hW : W ≤ 200) (hO : ∀ t, t < W → owner t = eO (ob mm t)) : ∀ (d a fu : Nat), a + d = W → d < fu → g_itn (FX1_objectFrom_L2 (nI W) owner) fu (nI a) = some (eO (fh mm d a))
  | 0, a, fu + 1, h, _ => by
    have e : FX1_objectFrom_L2 (nI W) owner (nI a) = some (.inr (eO none)) := by
      simp (disch := omega) only [FX1_objectFrom_L2, ↓lm1, n_ofN, l0, l1, l2, l3, l4, l5, l6, l7, l8, l10, l20, l47, l80, l100, l127, l200, l400, l600, l800, l1000, l1200, l1206, l1210, l1222, n_add, n_clamp, n_gd, n_le_t, n_le_f, n_lt_t, n_lt_f, n_eq_t, n_eq_f, n_no, n_on, n_oo, n_olt, n_nlo, n_ole, Option.bind_some, Option.bind_none, Nat.zero_add, if_true, if_false]
    simp only [g_itn, e, fh]
  | d + 1, a, fu + 1, h, hf => by
    by_cases h0 : 0 < zs mm a
    · have e : FX1_objectFrom_L2 (nI W) owner (nI a) = some (.inr (nI a)) := by
        simp (disch := omega) only [FX1_objectFrom_L2, FX_isObject hW hO (a := a) (by omega), if_pos h0, ↓lm1, n_ofN, l0, l1, l2, l3, l4, l5, l6, l7, l8, l10, l20, l47, l80, l100, l127, l200, l400, l600, l800, l1000, l1200, l1206, l1210, l1222, n_add, n_clamp, n_gd, n_le_t, n_le_f, n_lt_t, n_lt_f, n_eq_t, n_eq_f, n_no, n_on, n_oo, n_olt, n_nlo, n_ole, Option.bind_some, Option.bind_none, Nat.zero_add, if_true, if_false]
      simp only [g_itn, e, fh, if_pos h0, eO_some]
    · have e : FX1_objectFrom_L2 (nI W) owner (nI a) = some (.inl (nI (a + 1))) := by
        simp (disch := omega) only [FX1_objectFrom_L2, FX_isObject hW hO (a := a) (by omega), if_neg h0, ↓lm1, n_ofN, l0, l1, l2, l3, l4, l5, l6, l7, l8, l10, l20, l47, l80, l100, l127, l200, l400, l600, l800, l1000, l1200, l1206, l1210, l1222, n_add, n_clamp, n_gd, n_le_t, n_le_f, n_lt_t, n_lt_f, n_eq_t, n_eq_f, n_no, n_on, n_oo, n_olt, n_nlo, n_ole, Option.bind_some, Option.bind_none, Nat.zero_add, if_true, if_false]
      simp only [g_itn, e, fh, if_neg h0]
      exact FX_from hW hO d (a + 1) fu (by omega) (by omega)
