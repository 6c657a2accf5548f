theorem hF_of {W : Nat} {mm fieldCount dataCount pinned age content : Nat → Int32} (hA : RA W mm fieldCount dataCount pinned age content) : ∀ a, a < W → 0 < zs mm a → fieldCount a = mm (200 + a) := fun a h1 h2 => (hA a h1 h2).1
theorem FM_fieldBad {mm : Nat → Int32} {W : Nat} (H : WF mm W) {p1 p2 : Int32} (h : (obI mm W p1 = none) ∨ ∃ h, obI mm W p1 = some h ∧ (p2 < nI 0 ∨ ∃ k, k < 2147483648 ∧ p2 = nI k ∧ zf mm h ≤ k)) :
    FX7_field mm p1 p2 = some (-1000002) ∧ ∀ p3, FX7_setField mm p1 p2 p3 = some (-1000002, mm) := by
  have hW := H.size
  rcases h with e | ⟨h, e, hp | ⟨k, hk, rfl, hz⟩⟩
  · exact ⟨by simp (disch := omega) only [FX7_field, FM_objectOf H, e, ↓lm1, n_ofN, l0, l1, l2, l3, l4, l5, l6, l7, l8, l10, l20, l47, l80, l100, l127, l200, l400, l600, l800, l1000, l1200, l1206, l1210, l1222, n_add, n_clamp, n_gd, n_le_t, n_le_f, n_lt_t, n_lt_f, n_eq_t, n_eq_f, n_no, n_on, n_oo, n_olt, n_nlo, n_ole, Option.bind_some, Option.bind_none, Nat.zero_add, if_true, if_false], fun p3 => by simp (disch := omega) only [FX7_setField, FM_objectOf H, e, ↓lm1, n_ofN, l0, l1, l2, l3, l4, l5, l6, l7, l8, l10, l20, l47, l80, l100, l127, l200, l400, l600, l800, l1000, l1200, l1206, l1210, l1222, n_add, n_clamp, n_gd, n_le_t, n_le_f, n_lt_t, n_lt_f, n_eq_t, n_eq_f, n_no, n_on, n_oo, n_olt, n_nlo, n_ole, Option.bind_some, Option.bind_none, Nat.zero_add, if_true, if_false]⟩
  · obtain ⟨t, h1, h2, h3, h4, h5⟩ := obI_sm H e
    exact ⟨by simp (disch := omega) only [FX7_field, FX7_in, FM_objectOf H, e, eO_some, ↓lm1, n_ofN, l0, l1, l2, l3, l4, l5, l6, l7, l8, l10, l20, l47, l80, l100, l127, l200, l400, l600, l800, l1000, l1200, l1206, l1210, l1222, n_add, n_clamp, n_gd, n_le_t, n_le_f, n_lt_t, n_lt_f, n_eq_t, n_eq_f, n_no, n_on, n_oo, n_olt, n_nlo, n_ole, Option.bind_some, Option.bind_none, Nat.zero_add, if_true, if_false, if_pos hp], fun p3 => by simp (disch := omega) only [FX7_setField, FX7_in, FM_objectOf H, e, eO_some, ↓lm1, n_ofN, l0, l1, l2, l3, l4, l5, l6, l7, l8, l10, l20, l47, l80, l100, l127, l200, l400, l600, l800, l1000, l1200, l1206, l1210, l1222, n_add, n_clamp, n_gd, n_le_t, n_le_f, n_lt_t, n_lt_f, n_eq_t, n_eq_f, n_no, n_on, n_oo, n_olt, n_nlo, n_ole, Option.bind_some, Option.bind_none, Nat.zero_add, if_true, if_false, if_pos hp]⟩
  · obtain ⟨t, h1, h2, h3, h4, h5⟩ := obI_sm H e
    have h6 := (H.hd (a := h) (by omega) h5).2.2
    rcases Nat.eq_zero_or_pos (zf mm h) with z0 | z0
    · have h7 : nI (zf mm h) - nI 1 = eO none := by rw [z0]; decide
      exact ⟨by simp (disch := omega) only [FX7_field, FX7_in, FM_objectOf H, e, eO_some, ↓lm1, n_ofN, l0, l1, l2, l3, l4, l5, l6, l7, l8, l10, l20, l47, l80, l100, l127, l200, l400, l600, l800, l1000, l1200, l1206, l1210, l1222, n_add, n_clamp, n_gd, n_le_t, n_le_f, n_lt_t, n_lt_f, n_eq_t, n_eq_f, n_no, n_on, n_oo, n_olt, n_nlo, n_ole, Option.bind_some, Option.bind_none, Nat.zero_add, if_true, if_false, h6.1, h7], fun p3 => by simp (disch := omega) only [FX7_setField, FX7_in, FM_objectOf H, e, eO_some, ↓lm1, n_ofN, l0, l1, l2, l3, l4, l5, l6, l7, l8, l10, l20, l47, l80, l100, l127, l200, l400, l600, l800, l1000, l1200, l1206, l1210, l1222, n_add, n_clamp, n_gd, n_le_t, n_le_f, n_lt_t, n_lt_f, n_eq_t, n_eq_f, n_no, n_on, n_oo, n_olt, n_nlo, n_ole, Option.bind_some, Option.bind_none, Nat.zero_add, if_true, if_false, h6.1, h7]⟩
    · exact ⟨by simp (disch := omega) only [FX7_field, FX7_in, FM_objectOf H, e, eO_some, ↓lm1, n_ofN, l0, l1, l2, l3, l4, l5, l6, l7, l8, l10, l20, l47, l80, l100, l127, l200, l400, l600, l800, l1000, l1200, l1206, l1210, l1222, n_add, n_clamp, n_gd, n_le_t, n_le_f, n_lt_t, n_lt_f, n_eq_t, n_eq_f, n_no, n_on, n_oo, n_olt, n_nlo, n_ole, Option.bind_some, Option.bind_none, Nat.zero_add, if_true, if_false, h6.1, n_sub], fun p3 => by simp (disch := omega) only [FX7_setField, FX7_in, FM_objectOf H, e, eO_some, ↓lm1, n_ofN, l0, l1, l2, l3, l4, l5, l6, l7, l8, l10, l20, l47, l80, l100, l127, l200, l400, l600, l800, l1000, l1200, l1206, l1210, l1222, n_add, n_clamp, n_gd, n_le_t, n_le_f, n_lt_t, n_lt_f, n_eq_t, n_eq_f, n_no, n_on, n_oo, n_olt, n_nlo, n_ole, Option.bind_some, Option.bind_none, Nat.zero_add, if_true, if_false, h6.1, n_sub]⟩
theorem sim_field : Sim_field Rel := by
  intro i words depth allocated collections freed owner fieldCount dataCount pinned age content roots weaks movedTo reports letters length_ latestRefusal s0 s1 zmm zsaved_ zisSaved ztext ztextLength zrefused p1 p2 hi h
  have hu := h.up
  obtain ⟨⟨W, H, ⟨⟨rfl, rfl, rfl, rfl, rfl⟩, hO, hA, hR, hK, hM⟩, hc⟩, hS0, hS1, hT, rfl⟩ := h
  have hW := H.size
  have hw := H.hw
  rcases FX_fieldWord H hO (hF_of hA) p1 p2 with ⟨hx, hbad⟩ | ⟨h, k, e, rfl, hk, hx⟩
  · exact ⟨-1000002, by simp (disch := omega) only [FX6_field, hw, hx, ↓lm1, n_ofN, l0, l1, l2, l3, l4, l5, l6, l7, l8, l10, l20, l47, l80, l100, l127, l200, l400, l600, l800, l1000, l1200, l1206, l1210, l1222, n_add, n_clamp, n_gd, n_le_t, n_le_f, n_lt_t, n_lt_f, n_eq_t, n_eq_f, n_no, n_on, n_oo, n_olt, n_nlo, n_ole, Option.bind_some, Option.bind_none, Nat.zero_add, if_true, if_false], (FM_fieldBad H hbad).1, hu⟩
  · obtain ⟨t, h1, h2, h3, h4, h5⟩ := obI_sm H e
    have h6 := H.hd (a := h) (by omega) h5
    have h7 := (hA h h4 h5).2.2.2.2 (k + 1) (by omega) (by omega)
    have e1 : h + 1 + k = h + (k + 1) := by omega
    have e2 : 800 + h + 1 + k = 800 + h + (k + 1) := by omega
    exact ⟨zmm (800 + h + (k + 1)), by simp (disch := omega) only [FX6_field, hw, hx, ↓lm1, n_ofN, l0, l1, l2, l3, l4, l5, l6, l7, l8, l10, l20, l47, l80, l100, l127, l200, l400, l600, l800, l1000, l1200, l1206, l1210, l1222, n_add, n_clamp, n_gd, n_le_t, n_le_f, n_lt_t, n_lt_f, n_eq_t, n_eq_f, n_no, n_on, n_oo, n_olt, n_nlo, n_ole, Option.bind_some, Option.bind_none, Nat.zero_add, if_true, if_false, e1, h7], by simp (disch := omega) only [FX7_field, FX7_in, FM_objectOf H, e, eO_some, ↓lm1, n_ofN, l0, l1, l2, l3, l4, l5, l6, l7, l8, l10, l20, l47, l80, l100, l127, l200, l400, l600, l800, l1000, l1200, l1206, l1210, l1222, n_add, n_clamp, n_gd, n_le_t, n_le_f, n_lt_t, n_lt_f, n_eq_t, n_eq_f, n_no, n_on, n_oo, n_olt, n_nlo, n_ole, Option.bind_some, Option.bind_none, Nat.zero_add, if_true, if_false, h6.2.2.1, n_sub, e2], hu⟩
/-! references as arguments -/
def rfB (mm : Nat → Int32) (W : Nat) (p : Int32) : Bool := decide (p = eO none) || (obI mm W p).isSome
theorem rfB_Rf {mm : Nat → Int32} {W : Nat} (H : WF mm W) {p : Int32} (h : rfB mm W p = true) : Rf mm W p := by
  refine (Rf_iff H).mpr ?_
  simp only [rfB, Bool.or_eq_true, decide_eq_true_eq] at h
  rcases h with h | h
  · exact Or.inl h
  · exact Or.inr (Option.isSome_iff_exists.mp h)
theorem FX_isReference {mm owner : Nat → Int32} {W : Nat} (H : WF mm W) (hO : RO W mm owner) (p : Int32) : FX1_isReference (nI W) owner p = some (nI (if rfB mm W p then 1 else 0)) := by
  have hW := H.size
  by_cases hp : p = eO none
  · have : rfB mm W p = true := by simp [rfB, hp]
    rw [this]
    simp (disch := omega) only [FX1_isReference, ↓lm1, n_ofN, l0, l1, l2, l3, l4, l5, l6, l7, l8, l10, l20, l47, l80, l100, l127, l200, l400, l600, l800, l1000, l1200, l1206, l1210, l1222, n_add, n_clamp, n_gd, n_le_t, n_le_f, n_lt_t, n_lt_f, n_eq_t, n_eq_f, n_no, n_on, n_oo, n_olt, n_nlo, n_ole, Option.bind_some, Option.bind_none, Nat.zero_add, if_true, if_false, if_pos hp]
  · cases e : obI mm W p with
    | none =>
      have : rfB mm W p = false := by simp [rfB, hp, e]
      rw [this]
      simp (disch := omega) only [FX1_isReference, FX_objectAt hW.2 hO, e, ↓lm1, n_ofN, l0, l1, l2, l3, l4, l5, l6, l7, l8, l10, l20, l47, l80, l100, l127, l200, l400, l600, l800, l1000, l1200, l1206, l1210, l1222, n_add, n_clamp, n_gd, n_le_t, n_le_f, n_lt_t, n_lt_f, n_eq_t, n_eq_f, n_no, n_on, n_oo, n_olt, n_nlo, n_ole, Option.bind_some, Option.bind_none, Nat.zero_add, if_true, if_false, if_neg hp, Bool.false_eq_true]
    | some h =>
      obtain ⟨t, h1, h2, h3, h4, h5⟩ := obI_sm H e
      have : rfB mm W p = true := by simp [rfB, e]
      rw [this]
      simp (disch := omega) only [FX1_isReference, FX_objectAt hW.2 hO, e, eO_some, ↓lm1, n_ofN, l0, l1, l2, l3, l4, l5, l6, l7, l8, l10, l20, l47, l80, l100, l127, l200, l400, l600, l800, l1000, l1200, l1206, l1210, l1222, n_add, n_clamp, n_gd, n_le_t, n_le_f, n_lt_t, n_lt_f, n_eq_t, n_eq_f, n_no, n_on, n_oo, n_olt, n_nlo, n_ole, Option.bind_some, Option.bind_none, Nat.zero_add, if_true, if_false, if_neg hp]
theorem FM_isReference {mm : Nat → Int32} {W : Nat} (H : WF mm W) (p : Int32) : FX7_isReference mm p = some (nI (if rfB mm W p then 1 else 0)) := by
  have hW := H.size
  by_cases hp : p = eO none
  · have : rfB mm W p = true := by simp [rfB, hp]
    rw [this]
    simp (disch := omega) only [FX7_isReference, ↓lm1, n_ofN, l0, l1, l2, l3, l4, l5, l6, l7, l8, l10, l20, l47, l80, l100, l127, l200, l400, l600, l800, l1000, l1200, l1206, l1210, l1222, n_add, n_clamp, n_gd, n_le_t, n_le_f, n_lt_t, n_lt_f, n_eq_t, n_eq_f, n_no, n_on, n_oo, n_olt, n_nlo, n_ole, Option.bind_some, Option.bind_none, Nat.zero_add, if_true, if_false, if_pos hp]
  · cases e : obI mm W p with
    | none =>
      have : rfB mm W p = false := by simp [rfB, hp, e]
      rw [this]
      simp (disch := omega) only [FX7_isReference, FM_objectOf H, e, ↓lm1, n_ofN, l0, l1, l2, l3, l4, l5, l6, l7, l8, l10, l20, l47, l80, l100, l127, l200, l400, l600, l800, l1000, l1200, l1206, l1210, l1222, n_add, n_clamp, n_gd, n_le_t, n_le_f, n_lt_t, n_lt_f, n_eq_t, n_eq_f, n_no, n_on, n_oo, n_olt, n_nlo, n_ole, Option.bind_some, Option.bind_none, Nat.zero_add, if_true, if_false, if_neg hp, Bool.false_eq_true]
    | some h =>
      obtain ⟨t, h1, h2, h3, h4, h5⟩ := obI_sm H e
      have : rfB mm W p = true := by simp [rfB, e]
      rw [this]
      simp (disch := omega) only [FX7_isReference, FM_objectOf H, e, eO_some, ↓lm1, n_ofN, l0, l1, l2, l3, l4, l5, l6, l7, l8, l10, l20, l47, l80, l100, l127, l200, l400, l600, l800, l1000, l1200, l1206, l1210, l1222, n_add, n_clamp, n_gd, n_le_t, n_le_f, n_lt_t, n_lt_f, n_eq_t, n_eq_f, n_no, n_on, n_oo, n_olt, n_nlo, n_ole, Option.bind_some, Option.bind_none, Nat.zero_add, if_true, if_false, if_neg hp]
/-! what stays in order when a place changes -/
theorem same_zf {mm mm' : Nat → Int32} {a : Nat} (h : mm' (200 + a) = mm (200 + a)) : zf mm' a = zf mm a := by unfold zf; rw [h]
theorem WF.congr {mm mm' : Nat → Int32} {W : Nat} (H : WF mm W) (h1 : ∀ a, a < 200 → mm' a = mm a) (h2 : mm' 1216 = mm 1216) (h3 : mm' 1217 = mm 1217) (h4 : ∀ a, a < 200 → mm' (200 + a) = mm (200 + a))
    (h5 : ∀ a, a < 200 → 0 < zs mm a → mm' (400 + a) = mm (400 + a) ∨ mm' (400 + a) = nI 0 ∨ mm' (400 + a) = nI 1) (h6 : ∀ a, a < 200 → 0 < zs mm a → ∀ k, 1 ≤ k → k ≤ zf mm a → mm' (800 + a + k) = mm (800 + a + k) ∨ Rf mm W (mm' (800 + a + k)))
    (h7 : ∀ k, k < 10 → mm' (1200 + k) = mm (1200 + k) ∨ Rf mm W (mm' (1200 + k))) : WF mm' W := by
  have hW := H.size
  obtain ⟨w1, w2, w3, ⟨d, d1, d2, d3⟩, w5, w6, w7⟩ := id H
  refine ⟨w1, w2, h2.trans w3, ⟨d, d1, d2, h3.trans d3⟩, fun a ha => ?_, fun a ha h0 => ?_, fun k hk => ?_⟩
  · rw [same_zs (h1 a ha), h1 a ha]
    exact w5 a ha
  · rw [same_zs (h1 a ha)] at h0 ⊢
    obtain ⟨a1, a2, a3, a4, a5, a6, a7⟩ := w6 a ha h0
    rw [same_zf (h4 a ha), h4 a ha]
    refine ⟨a1, fun b hb1 hb2 => ?_, a3, a4, a5, ?_, fun k k1 k2 => ?_⟩
    · rw [same_zs (h1 b (by omega))]
      exact a2 b hb1 hb2
    · rcases h5 a ha h0 with q | q
      · rw [q]; exact a6
      · exact q
    · rcases h6 a ha h0 k k1 k2 with q | q
      · rw [q]; exact same_Rf hW.2 h1 (a7 k k1 k2)
      · exact same_Rf hW.2 h1 q
  · rcases h7 k hk with q | q
    · rw [q]; exact same_Rf hW.2 h1 (w7 k hk)
    · exact same_Rf hW.2 h1 q
theorem RO.congr {mm mm' owner : Nat → Int32} {W : Nat} (hW : W ≤ 200) (h : RO W mm owner) (h1 : ∀ a, a < 200 → mm' a = mm a) : RO W mm' owner := fun t ht => by
  rw [same_ob h1 (by omega)]
  exact h t ht
theorem RA.congr {mm mm' fieldCount dataCount pinned age content : Nat → Int32} {W : Nat} (hW : W ≤ 200) (h : RA W mm fieldCount dataCount pinned age content) (h1 : ∀ j, j < 1000 → mm' j = mm j) (H : WF mm W) : RA W mm' fieldCount dataCount pinned age content := fun a ha h0 => by
  rw [same_zs (h1 a (by omega))] at h0 ⊢
  have h9 := H.hd (a := a) (by omega) h0
  obtain ⟨a1, a2, a3, a4, a5⟩ := h a ha h0
  rw [same_zf (h1 _ (by omega)), h1 _ (by omega), h1 _ (by omega), h1 _ (by omega)]
  refine ⟨a1, a2, a3, a4, fun k k1 k2 => ?_⟩
  rw [h1 _ (by omega)]
  exact a5 k k1 k2
theorem sim_setRoot : Sim_setRoot Rel := by
  intro i words depth allocated collections freed owner fieldCount dataCount pinned age content roots weaks movedTo reports letters length_ latestRefusal s0 s1 zmm zsaved_ zisSaved ztext ztextLength zrefused p1 p2 hi h
  have hu := h.up
  obtain ⟨⟨W, H, ⟨⟨rfl, rfl, rfl, rfl, rfl⟩, hO, hA, hR, hK, hM⟩, hc⟩, hS0, hS1, hT, rfl⟩ := h
  have hW := H.size
  have hw := H.hw
  rcases n_cases p1 with hp | ⟨t, ht, rfl⟩
  · exact ⟨-1000002, roots, zmm, by simp (disch := omega) only [FX6_setRoot, ↓lm1, n_ofN, l0, l1, l2, l3, l4, l5, l6, l7, l8, l10, l20, l47, l80, l100, l127, l200, l400, l600, l800, l1000, l1200, l1206, l1210, l1222, n_add, n_clamp, n_gd, n_le_t, n_le_f, n_lt_t, n_lt_f, n_eq_t, n_eq_f, n_no, n_on, n_oo, n_olt, n_nlo, n_ole, Option.bind_some, Option.bind_none, Nat.zero_add, if_true, if_false, if_pos hp], by simp (disch := omega) only [FX7_setRoot, FX7_in, ↓lm1, n_ofN, l0, l1, l2, l3, l4, l5, l6, l7, l8, l10, l20, l47, l80, l100, l127, l200, l400, l600, l800, l1000, l1200, l1206, l1210, l1222, n_add, n_clamp, n_gd, n_le_t, n_le_f, n_lt_t, n_lt_f, n_eq_t, n_eq_f, n_no, n_on, n_oo, n_olt, n_nlo, n_ole, Option.bind_some, Option.bind_none, Nat.zero_add, if_true, if_false, if_pos hp], hu⟩
  · by_cases hb : t < 6
    · by_cases hr : rfB zmm W p2 = true
      · refine ⟨zmm (1200 + t), upd roots t p2, upd zmm (1200 + t) p2, by simp (disch := omega) only [FX6_setRoot, FX6_exchange, hw, FX_isReference H hO, if_pos hr, ↓lm1, n_ofN, l0, l1, l2, l3, l4, l5, l6, l7, l8, l10, l20, l47, l80, l100, l127, l200, l400, l600, l800, l1000, l1200, l1206, l1210, l1222, n_add, n_clamp, n_gd, n_le_t, n_le_f, n_lt_t, n_lt_f, n_eq_t, n_eq_f, n_no, n_on, n_oo, n_olt, n_nlo, n_ole, Option.bind_some, Option.bind_none, Nat.zero_add, if_true, if_false, hR t hb], by simp (disch := omega) only [FX7_setRoot, FX7_setsSlot, FX7_in, FM_isReference H, if_pos hr, ↓lm1, n_ofN, l0, l1, l2, l3, l4, l5, l6, l7, l8, l10, l20, l47, l80, l100, l127, l200, l400, l600, l800, l1000, l1200, l1206, l1210, l1222, n_add, n_clamp, n_gd, n_le_t, n_le_f, n_lt_t, n_lt_f, n_eq_t, n_eq_f, n_no, n_on, n_oo, n_olt, n_nlo, n_ole, Option.bind_some, Option.bind_none, Nat.zero_add, if_true, if_false], ⟨W, ?_, ⟨⟨?_, ?_, ?_, ?_, ?_⟩, ?_, ?_, ?_, ?_, ?_⟩, ?_⟩, hu.2⟩
        · refine H.congr (fun a ha => pk_un (by omega)) (pk_un (by omega)) (pk_un (by omega)) (fun a ha => pk_un (by omega)) (fun a ha _ => Or.inl (pk_un (by omega))) (fun a ha h0 k k1 k2 => Or.inl (pk_un ?_)) (fun k hk => ?_)
          · have := (H.hd ha h0).2.2.2.1
            omega
          · by_cases hkt : k = t
            · subst hkt
              rw [pk_us]
              exact Or.inr (rfB_Rf H hr)
            · exact Or.inl (pk_un (by omega))
        all_goals first | exact (pk_un (by omega)).symm | skip
        · exact hO.congr hW.2 (fun a ha => pk_un (by omega))
        · exact hA.congr hW.2 (fun j hj => pk_un (by omega)) H
        · intro k hk
          by_cases hkt : k = t
          · subst hkt
            rw [pk_us, pk_us]
          · rw [pk_un hkt, pk_un (by omega)]
            exact hR k hk
        · intro k hk
          rw [pk_un (by omega)]
          exact hK k hk
        · rw [pk_un (by omega)]
          intro h9
          refine ⟨fun t' ht' => ?_, fun k hk => ?_⟩
          · rw [pk_un (by omega)]; exact (hM h9).1 t' ht'
          · rw [pk_un (by omega)]; exact (hM h9).2 k hk
        · obtain ⟨c, c1, c2, c3⟩ := hc
          exact ⟨c, by omega, (pk_un (by omega)).trans c2, (pk_un (by omega)).trans c3⟩
      · exact ⟨-1000002, roots, zmm, by simp (disch := omega) only [FX6_setRoot, FX6_exchange, hw, FX_isReference H hO, if_neg hr, ↓lm1, n_ofN, l0, l1, l2, l3, l4, l5, l6, l7, l8, l10, l20, l47, l80, l100, l127, l200, l400, l600, l800, l1000, l1200, l1206, l1210, l1222, n_add, n_clamp, n_gd, n_le_t, n_le_f, n_lt_t, n_lt_f, n_eq_t, n_eq_f, n_no, n_on, n_oo, n_olt, n_nlo, n_ole, Option.bind_some, Option.bind_none, Nat.zero_add, if_true, if_false], by simp (disch := omega) only [FX7_setRoot, FX7_setsSlot, FX7_in, FM_isReference H, if_neg hr, ↓lm1, n_ofN, l0, l1, l2, l3, l4, l5, l6, l7, l8, l10, l20, l47, l80, l100, l127, l200, l400, l600, l800, l1000, l1200, l1206, l1210, l1222, n_add, n_clamp, n_gd, n_le_t, n_le_f, n_lt_t, n_lt_f, n_eq_t, n_eq_f, n_no, n_on, n_oo, n_olt, n_nlo, n_ole, Option.bind_some, Option.bind_none, Nat.zero_add, if_true, if_false], hu⟩
    · exact ⟨-1000002, roots, zmm, by simp (disch := omega) only [FX6_setRoot, ↓lm1, n_ofN, l0, l1, l2, l3, l4, l5, l6, l7, l8, l10, l20, l47, l80, l100, l127, l200, l400, l600, l800, l1000, l1200, l1206, l1210, l1222, n_add, n_clamp, n_gd, n_le_t, n_le_f, n_lt_t, n_lt_f, n_eq_t, n_eq_f, n_no, n_on, n_oo, n_olt, n_nlo, n_ole, Option.bind_some, Option.bind_none, Nat.zero_add, if_true, if_false], by simp (disch := omega) only [FX7_setRoot, FX7_in, ↓lm1, n_ofN, l0, l1, l2, l3, l4, l5, l6, l7, l8, l10, l20, l47, l80, l100, l127, l200, l400, l600, l800, l1000, l1200, l1206, l1210, l1222, n_add, n_clamp, n_gd, n_le_t, n_le_f, n_lt_t, n_lt_f, n_eq_t, n_eq_f, n_no, n_on, n_oo, n_olt, n_nlo, n_ole, Option.bind_some, Option.bind_none, Nat.zero_add, if_true, if_false], hu⟩
