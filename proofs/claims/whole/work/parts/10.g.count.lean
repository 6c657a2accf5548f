theorem FX_sizeOf {mm fieldCount dataCount pinned age content : Nat → Int32} {W h : Nat} (H : WF mm W) (hA : RA W mm fieldCount dataCount pinned age content) (h4 : h < W) (h5 : 0 < zs mm h) : FX1_sizeOf fieldCount dataCount (nI h) = some (nI (zs mm h)) := by
  have hW := H.size
  have h6 := H.hd (a := h) (by omega) h5
  have h7 := H.sz (a := h) (by omega)
  obtain ⟨a1, a2, -⟩ := hA h h4 h5
  simp (disch := omega) only [FX1_sizeOf, ↓lm1, n_ofN, l0, l1, l2, l3, l4, l5, l6, l7, l8, l10, l20, l47, l80, l100, l127, l200, l400, l600, l800, l1000, l1200, l1206, l1210, l1222, n_add, n_clamp, n_gd, n_le_t, n_le_f, n_lt_t, n_lt_f, n_eq_t, n_eq_f, n_no, n_on, n_oo, n_olt, n_nlo, n_ole, Option.bind_some, Option.bind_none, Nat.zero_add, if_true, if_false, a1, a2, h6.2.2.1]
  rw [show 1 + zf mm h + (zs mm h - 1 - zf mm h) = zs mm h by omega]
theorem fh_skip {mm : Nat → Int32} {d : Nat} : ∀ (n a : Nat), (∀ i, i < n → zs mm (a + i) = 0) → fh mm (d + n) a = fh mm d (a + n)
  | 0, a, _ => rfl
  | n + 1, a, h => by
    have h0 := h 0 (by omega)
    rw [Nat.add_zero] at h0
    have e : fh mm (d + n + 1) a = fh mm (d + n) (a + 1) := by
      show (if 0 < zs mm a then some a else fh mm (d + n) (a + 1)) = _
      rw [if_neg (by omega)]
    show fh mm (d + n + 1) a = _
    rw [e, fh_skip n (a + 1) (fun i hi => by rw [show a + 1 + i = a + (i + 1) by omega]; exact h (i + 1) (by omega)), show a + 1 + n = a + (n + 1) by omega]
theorem sim_next : Sim_next Rel := by
  intro i words depth allocated collections freed owner fieldCount dataCount pinned age content roots weaks movedTo reports letters length_ latestRefusal s0 s1 zmm zsaved_ zisSaved ztext ztextLength zrefused p1 hi h
  have hu := h.up
  obtain ⟨⟨W, H, ⟨⟨rfl, rfl, rfl, rfl, rfl⟩, hO, hA, hR, hK, hM⟩, hc⟩, hS0, hS1, hT, rfl⟩ := h
  have hW := H.size
  have hw := H.hw
  by_cases hp : p1 = eO none
  · have hx : g_it (FX1_objectFrom_L2 (nI W) owner) (nI 0) = some (eO (fh zmm W 0)) := FX_from hW.2 hO W 0 g_fuel (by omega) (by unfold g_fuel; omega)
    have hm : g_it (FX7_objectFrom_L2 zmm) (nI 0) = some (eO (fh zmm W 0)) := FM_from H W 0 g_fuel (by omega) (by unfold g_fuel; omega)
    exact ⟨eO (fh zmm W 0), by simp (disch := omega) only [FX6_next, FX1_objectFrom, hw, hx, ↓lm1, n_ofN, l0, l1, l2, l3, l4, l5, l6, l7, l8, l10, l20, l47, l80, l100, l127, l200, l400, l600, l800, l1000, l1200, l1206, l1210, l1222, n_add, n_clamp, n_gd, n_le_t, n_le_f, n_lt_t, n_lt_f, n_eq_t, n_eq_f, n_no, n_on, n_oo, n_olt, n_nlo, n_ole, Option.bind_some, Option.bind_none, Nat.zero_add, if_true, if_false, if_pos hp], by simp (disch := omega) only [FX7_next, FX7_objectFrom, hm, ↓lm1, n_ofN, l0, l1, l2, l3, l4, l5, l6, l7, l8, l10, l20, l47, l80, l100, l127, l200, l400, l600, l800, l1000, l1200, l1206, l1210, l1222, n_add, n_clamp, n_gd, n_le_t, n_le_f, n_lt_t, n_lt_f, n_eq_t, n_eq_f, n_no, n_on, n_oo, n_olt, n_nlo, n_ole, Option.bind_some, Option.bind_none, Nat.zero_add, if_true, if_false, if_pos hp], hu⟩
  · cases e : obI zmm W p1 with
    | none => exact ⟨-1000002, by simp (disch := omega) only [FX6_next, hw, FX_objectAt hW.2 hO, e, ↓lm1, n_ofN, l0, l1, l2, l3, l4, l5, l6, l7, l8, l10, l20, l47, l80, l100, l127, l200, l400, l600, l800, l1000, l1200, l1206, l1210, l1222, n_add, n_clamp, n_gd, n_le_t, n_le_f, n_lt_t, n_lt_f, n_eq_t, n_eq_f, n_no, n_on, n_oo, n_olt, n_nlo, n_ole, Option.bind_some, Option.bind_none, Nat.zero_add, if_true, if_false, if_neg hp], by simp (disch := omega) only [FX7_next, FM_objectOf H, e, ↓lm1, n_ofN, l0, l1, l2, l3, l4, l5, l6, l7, l8, l10, l20, l47, l80, l100, l127, l200, l400, l600, l800, l1000, l1200, l1206, l1210, l1222, n_add, n_clamp, n_gd, n_le_t, n_le_f, n_lt_t, n_lt_f, n_eq_t, n_eq_f, n_no, n_on, n_oo, n_olt, n_nlo, n_ole, Option.bind_some, Option.bind_none, Nat.zero_add, if_true, if_false, if_neg hp], hu⟩
    | some h =>
      obtain ⟨t, h1, h2, h3, h4, h5⟩ := obI_sm H e
      have h6 := H.hd (a := h) (by omega) h5
      have hx : g_it (FX1_objectFrom_L2 (nI W) owner) (nI (h + zs zmm h)) = some (eO (fh zmm (W - (h + zs zmm h)) (h + zs zmm h))) := FX_from hW.2 hO (W - (h + zs zmm h)) (h + zs zmm h) g_fuel (by omega) (by unfold g_fuel; omega)
      have hm : g_it (FX7_objectFrom_L2 zmm) (nI (h + 1)) = some (eO (fh zmm (W - (h + 1)) (h + 1))) := FM_from H (W - (h + 1)) (h + 1) g_fuel (by omega) (by unfold g_fuel; omega)
      have hs : fh zmm (W - (h + 1)) (h + 1) = fh zmm (W - (h + zs zmm h)) (h + zs zmm h) := by
        rw [show W - (h + 1) = (W - (h + zs zmm h)) + (zs zmm h - 1) by omega, fh_skip (zs zmm h - 1) (h + 1) (fun i hi => h6.2.1 _ (by omega) (by omega)), show h + 1 + (zs zmm h - 1) = h + zs zmm h by omega]
      exact ⟨eO (fh zmm (W - (h + zs zmm h)) (h + zs zmm h)), by simp (disch := omega) only [FX6_next, FX1_objectFrom, hw, FX_objectAt hW.2 hO, e, eO_some, FX_sizeOf H hA h4 h5, hx, ↓lm1, n_ofN, l0, l1, l2, l3, l4, l5, l6, l7, l8, l10, l20, l47, l80, l100, l127, l200, l400, l600, l800, l1000, l1200, l1206, l1210, l1222, n_add, n_clamp, n_gd, n_le_t, n_le_f, n_lt_t, n_lt_f, n_eq_t, n_eq_f, n_no, n_on, n_oo, n_olt, n_nlo, n_ole, Option.bind_some, Option.bind_none, Nat.zero_add, if_true, if_false, if_neg hp], by simp (disch := omega) only [FX7_next, FX7_objectFrom, FM_objectOf H, e, eO_some, hm, hs, ↓lm1, n_ofN, l0, l1, l2, l3, l4, l5, l6, l7, l8, l10, l20, l47, l80, l100, l127, l200, l400, l600, l800, l1000, l1200, l1206, l1210, l1222, n_add, n_clamp, n_gd, n_le_t, n_le_f, n_lt_t, n_lt_f, n_eq_t, n_eq_f, n_no, n_on, n_oo, n_olt, n_nlo, n_ole, Option.bind_some, Option.bind_none, Nat.zero_add, if_true, if_false, if_neg hp], hu⟩
/-! counts -/
def cnt (p : Nat → Bool) : Nat → Nat
  | 0 => 0
  | n + 1 => cnt p n + if p n then 1 else 0
theorem cnt_le (p : Nat → Bool) : ∀ n, cnt p n ≤ n
  | 0 => Nat.le_refl _
  | n + 1 => by
    have := cnt_le p n
    unfold cnt
    split <;> omega
theorem cnt_t {p : Nat → Bool} {n : Nat} (h : p n = true) : cnt p (n + 1) = cnt p n + 1 := by simp [cnt, h]
theorem cnt_f {p : Nat → Bool} {n : Nat} (h : p n = false) : cnt p (n + 1) = cnt p n := by simp [cnt, h]
def hdB (mm : Nat → Int32) (a : Nat) : Bool := decide (0 < zs mm a)
def pnB (mm : Nat → Int32) (a : Nat) : Bool := decide (0 < zs mm a) && decide (mm (400 + a) = nI 1)
theorem FX_isPinned {mm owner pinned : Nat → Int32} {W a : Nat} (H : WF mm W) (hO : RO W mm owner) (hN : ∀ a, a < W → 0 < zs mm a → pinned a = mm (400 + a)) (ha : a < W) : FX1_isPinned (nI W) owner pinned (nI a) = some (nI (if pnB mm a then 1 else 0)) := by
  have hW := H.size
  by_cases h0 : 0 < zs mm a
  · have h6 := H.hd (a := a) (by omega) h0
    rcases h6.2.2.2.2.2.1 with q | q
    · have e : pnB mm a = false := by
        have : ¬ nI 0 = nI 1 := by decide
        simp [pnB, q, this]
      rw [e]
      simp (disch := omega) only [FX1_isPinned, FX_isObject hW.2 hO ha, if_pos h0, hN a ha h0, q, ↓lm1, n_ofN, l0, l1, l2, l3, l4, l5, l6, l7, l8, l10, l20, l47, l80, l100, l127, l200, l400, l600, l800, l1000, l1200, l1206, l1210, l1222, n_add, n_clamp, n_gd, n_le_t, n_le_f, n_lt_t, n_lt_f, n_eq_t, n_eq_f, n_no, n_on, n_oo, n_olt, n_nlo, n_ole, Option.bind_some, Option.bind_none, Nat.zero_add, if_true, if_false, Bool.false_eq_true]
    · have e : pnB mm a = true := by simp [pnB, q, h0]
      rw [e]
      simp (disch := omega) only [FX1_isPinned, FX_isObject hW.2 hO ha, if_pos h0, hN a ha h0, q, ↓lm1, n_ofN, l0, l1, l2, l3, l4, l5, l6, l7, l8, l10, l20, l47, l80, l100, l127, l200, l400, l600, l800, l1000, l1200, l1206, l1210, l1222, n_add, n_clamp, n_gd, n_le_t, n_le_f, n_lt_t, n_lt_f, n_eq_t, n_eq_f, n_no, n_on, n_oo, n_olt, n_nlo, n_ole, Option.bind_some, Option.bind_none, Nat.zero_add, if_true, if_false]
  · have e : pnB mm a = false := by simp [pnB, h0]
    rw [e]
    simp (disch := omega) only [FX1_isPinned, FX_isObject hW.2 hO ha, if_neg h0, ↓lm1, n_ofN, l0, l1, l2, l3, l4, l5, l6, l7, l8, l10, l20, l47, l80, l100, l127, l200, l400, l600, l800, l1000, l1200, l1206, l1210, l1222, n_add, n_clamp, n_gd, n_le_t, n_le_f, n_lt_t, n_lt_f, n_eq_t, n_eq_f, n_no, n_on, n_oo, n_olt, n_nlo, n_ole, Option.bind_some, Option.bind_none, Nat.zero_add, if_true, if_false, Bool.false_eq_true]
theorem FX_pinnedCount {mm owner pinned : Nat → Int32} {W : Nat} (H : WF mm W) (hO : RO W mm owner) (hN : ∀ a, a < W → 0 < zs mm a → pinned a = mm (400 + a)) : FX1_pinnedCount (nI W) owner pinned = some (nI (cnt (pnB mm) W)) := by
  have hW := H.size
  have hl : g_it (FX1_pinnedCount_L4 (nI W) owner pinned) (nI 0, nI 0) = some (nI (cnt (pnB mm) W)) := by
    refine it_to (fun i => (nI (cnt (pnB mm) i), nI i)) 0 W _ (by omega) (by omega) (fun i _ hi => ?_) ?_
    · have hc := cnt_le (pnB mm) i
      cases e : pnB mm i with
      | true => simp (disch := omega) only [FX1_pinnedCount_L4, FX_isPinned H hO hN hi, e, cnt_t e, ↓lm1, n_ofN, l0, l1, l2, l3, l4, l5, l6, l7, l8, l10, l20, l47, l80, l100, l127, l200, l400, l600, l800, l1000, l1200, l1206, l1210, l1222, n_add, n_clamp, n_gd, n_le_t, n_le_f, n_lt_t, n_lt_f, n_eq_t, n_eq_f, n_no, n_on, n_oo, n_olt, n_nlo, n_ole, Option.bind_some, Option.bind_none, Nat.zero_add, if_true, if_false]
      | false => simp (disch := omega) only [FX1_pinnedCount_L4, FX_isPinned H hO hN hi, e, cnt_f e, ↓lm1, n_ofN, l0, l1, l2, l3, l4, l5, l6, l7, l8, l10, l20, l47, l80, l100, l127, l200, l400, l600, l800, l1000, l1200, l1206, l1210, l1222, n_add, n_clamp, n_gd, n_le_t, n_le_f, n_lt_t, n_lt_f, n_eq_t, n_eq_f, n_no, n_on, n_oo, n_olt, n_nlo, n_ole, Option.bind_some, Option.bind_none, Nat.zero_add, if_true, if_false, Bool.false_eq_true]
    · simp (disch := omega) only [FX1_pinnedCount_L4, ↓lm1, n_ofN, l0, l1, l2, l3, l4, l5, l6, l7, l8, l10, l20, l47, l80, l100, l127, l200, l400, l600, l800, l1000, l1200, l1206, l1210, l1222, n_add, n_clamp, n_gd, n_le_t, n_le_f, n_lt_t, n_lt_f, n_eq_t, n_eq_f, n_no, n_on, n_oo, n_olt, n_nlo, n_ole, Option.bind_some, Option.bind_none, Nat.zero_add, if_true, if_false]
  simp (disch := omega) only [FX1_pinnedCount, ↓lm1, n_ofN, l0, l1, l2, l3, l4, l5, l6, l7, l8, l10, l20, l47, l80, l100, l127, l200, l400, l600, l800, l1000, l1200, l1206, l1210, l1222, n_add, n_clamp, n_gd, n_le_t, n_le_f, n_lt_t, n_lt_f, n_eq_t, n_eq_f, n_no, n_on, n_oo, n_olt, n_nlo, n_ole, Option.bind_some, Option.bind_none, Nat.zero_add, if_true, if_false, hl]
theorem FX_objectCount {mm owner : Nat → Int32} {W : Nat} (H : WF mm W) (hO : RO W mm owner) : FX1_objectCount (nI W) owner = some (nI (cnt (hdB mm) W)) := by
  have hW := H.size
  have hl : g_it (FX1_objectCount_L4 (nI W) owner) (nI 0, nI 0) = some (nI (cnt (hdB mm) W)) := by
    refine it_to (fun i => (nI (cnt (hdB mm) i), nI i)) 0 W _ (by omega) (by omega) (fun i _ hi => ?_) ?_
    · have hc := cnt_le (hdB mm) i
      by_cases e : 0 < zs mm i
      · simp (disch := omega) only [FX1_objectCount_L4, FX_isObject hW.2 hO hi, if_pos e, cnt_t (p := hdB mm) (n := i) (by simp [hdB, e]), ↓lm1, n_ofN, l0, l1, l2, l3, l4, l5, l6, l7, l8, l10, l20, l47, l80, l100, l127, l200, l400, l600, l800, l1000, l1200, l1206, l1210, l1222, n_add, n_clamp, n_gd, n_le_t, n_le_f, n_lt_t, n_lt_f, n_eq_t, n_eq_f, n_no, n_on, n_oo, n_olt, n_nlo, n_ole, Option.bind_some, Option.bind_none, Nat.zero_add, if_true, if_false]
      · simp (disch := omega) only [FX1_objectCount_L4, FX_isObject hW.2 hO hi, if_neg e, cnt_f (p := hdB mm) (n := i) (by simp [hdB, e]), ↓lm1, n_ofN, l0, l1, l2, l3, l4, l5, l6, l7, l8, l10, l20, l47, l80, l100, l127, l200, l400, l600, l800, l1000, l1200, l1206, l1210, l1222, n_add, n_clamp, n_gd, n_le_t, n_le_f, n_lt_t, n_lt_f, n_eq_t, n_eq_f, n_no, n_on, n_oo, n_olt, n_nlo, n_ole, Option.bind_some, Option.bind_none, Nat.zero_add, if_true, if_false]
    · simp (disch := omega) only [FX1_objectCount_L4, ↓lm1, n_ofN, l0, l1, l2, l3, l4, l5, l6, l7, l8, l10, l20, l47, l80, l100, l127, l200, l400, l600, l800, l1000, l1200, l1206, l1210, l1222, n_add, n_clamp, n_gd, n_le_t, n_le_f, n_lt_t, n_lt_f, n_eq_t, n_eq_f, n_no, n_on, n_oo, n_olt, n_nlo, n_ole, Option.bind_some, Option.bind_none, Nat.zero_add, if_true, if_false]
  simp (disch := omega) only [FX1_objectCount, ↓lm1, n_ofN, l0, l1, l2, l3, l4, l5, l6, l7, l8, l10, l20, l47, l80, l100, l127, l200, l400, l600, l800, l1000, l1200, l1206, l1210, l1222, n_add, n_clamp, n_gd, n_le_t, n_le_f, n_lt_t, n_lt_f, n_eq_t, n_eq_f, n_no, n_on, n_oo, n_olt, n_nlo, n_ole, Option.bind_some, Option.bind_none, Nat.zero_add, if_true, if_false, hl]
theorem FM_many0 {mm : Nat → Int32} {W : Nat} (H : WF mm W) : FX7_many mm (nI 0) = some (nI (cnt (hdB mm) W)) := by
  have hW := H.size
  have hl : g_it (FX7_many_L4 mm (nI 0)) (nI 0, nI 0) = some (nI (cnt (hdB mm) W)) := by
    refine it_to (fun i => (nI (cnt (hdB mm) i), nI i)) 0 W _ (by omega) (by omega) (fun i _ hi => ?_) ?_
    · have hc := cnt_le (hdB mm) i
      have hz := H.sz (a := i) (by omega)
      by_cases e : 0 < zs mm i
      · simp (disch := omega) only [FX7_many_L4, H.hw, hz.1, cnt_t (p := hdB mm) (n := i) (by simp [hdB, e]), ↓lm1, n_ofN, l0, l1, l2, l3, l4, l5, l6, l7, l8, l10, l20, l47, l80, l100, l127, l200, l400, l600, l800, l1000, l1200, l1206, l1210, l1222, n_add, n_clamp, n_gd, n_le_t, n_le_f, n_lt_t, n_lt_f, n_eq_t, n_eq_f, n_no, n_on, n_oo, n_olt, n_nlo, n_ole, Option.bind_some, Option.bind_none, Nat.zero_add, if_true, if_false]
      · simp (disch := omega) only [FX7_many_L4, H.hw, hz.1, cnt_f (p := hdB mm) (n := i) (by simp [hdB, e]), ↓lm1, n_ofN, l0, l1, l2, l3, l4, l5, l6, l7, l8, l10, l20, l47, l80, l100, l127, l200, l400, l600, l800, l1000, l1200, l1206, l1210, l1222, n_add, n_clamp, n_gd, n_le_t, n_le_f, n_lt_t, n_lt_f, n_eq_t, n_eq_f, n_no, n_on, n_oo, n_olt, n_nlo, n_ole, Option.bind_some, Option.bind_none, Nat.zero_add, if_true, if_false, Nat.add_zero]
    · simp (disch := omega) only [FX7_many_L4, H.hw, ↓lm1, n_ofN, l0, l1, l2, l3, l4, l5, l6, l7, l8, l10, l20, l47, l80, l100, l127, l200, l400, l600, l800, l1000, l1200, l1206, l1210, l1222, n_add, n_clamp, n_gd, n_le_t, n_le_f, n_lt_t, n_lt_f, n_eq_t, n_eq_f, n_no, n_on, n_oo, n_olt, n_nlo, n_ole, Option.bind_some, Option.bind_none, Nat.zero_add, if_true, if_false]
  simp (disch := omega) only [FX7_many, ↓lm1, n_ofN, l0, l1, l2, l3, l4, l5, l6, l7, l8, l10, l20, l47, l80, l100, l127, l200, l400, l600, l800, l1000, l1200, l1206, l1210, l1222, n_add, n_clamp, n_gd, n_le_t, n_le_f, n_lt_t, n_lt_f, n_eq_t, n_eq_f, n_no, n_on, n_oo, n_olt, n_nlo, n_ole, Option.bind_some, Option.bind_none, Nat.zero_add, if_true, if_false, hl]
theorem FM_many1 {mm : Nat → Int32} {W : Nat} (H : WF mm W) : FX7_many mm (nI 1) = some (nI (cnt (pnB mm) W)) := by
  have hW := H.size
  have hl : g_it (FX7_many_L4 mm (nI 1)) (nI 0, nI 0) = some (nI (cnt (pnB mm) W)) := by
    refine it_to (fun i => (nI (cnt (pnB mm) i), nI i)) 0 W _ (by omega) (by omega) (fun i _ hi => ?_) ?_
    · have hc := cnt_le (pnB mm) i
      have hz := H.sz (a := i) (by omega)
      by_cases h0 : 0 < zs mm i
      · have h6 := H.hd (a := i) (by omega) h0
        rcases h6.2.2.2.2.2.1 with q | q
        · have e : pnB mm i = false := by
            have : ¬ nI 0 = nI 1 := by decide
            simp [pnB, q, this]
          simp (disch := omega) only [FX7_many_L4, H.hw, hz.1, q, cnt_f e, ↓lm1, n_ofN, l0, l1, l2, l3, l4, l5, l6, l7, l8, l10, l20, l47, l80, l100, l127, l200, l400, l600, l800, l1000, l1200, l1206, l1210, l1222, n_add, n_clamp, n_gd, n_le_t, n_le_f, n_lt_t, n_lt_f, n_eq_t, n_eq_f, n_no, n_on, n_oo, n_olt, n_nlo, n_ole, Option.bind_some, Option.bind_none, Nat.zero_add, if_true, if_false, Nat.add_zero]
        · have e : pnB mm i = true := by simp [pnB, q, h0]
          simp (disch := omega) only [FX7_many_L4, H.hw, hz.1, q, cnt_t e, ↓lm1, n_ofN, l0, l1, l2, l3, l4, l5, l6, l7, l8, l10, l20, l47, l80, l100, l127, l200, l400, l600, l800, l1000, l1200, l1206, l1210, l1222, n_add, n_clamp, n_gd, n_le_t, n_le_f, n_lt_t, n_lt_f, n_eq_t, n_eq_f, n_no, n_on, n_oo, n_olt, n_nlo, n_ole, Option.bind_some, Option.bind_none, Nat.zero_add, if_true, if_false]
      · have e : pnB mm i = false := by simp [pnB, h0]
        simp (disch := omega) only [FX7_many_L4, H.hw, hz.1, cnt_f e, ↓lm1, n_ofN, l0, l1, l2, l3, l4, l5, l6, l7, l8, l10, l20, l47, l80, l100, l127, l200, l400, l600, l800, l1000, l1200, l1206, l1210, l1222, n_add, n_clamp, n_gd, n_le_t, n_le_f, n_lt_t, n_lt_f, n_eq_t, n_eq_f, n_no, n_on, n_oo, n_olt, n_nlo, n_ole, Option.bind_some, Option.bind_none, Nat.zero_add, if_true, if_false, Nat.add_zero]
    · simp (disch := omega) only [FX7_many_L4, H.hw, ↓lm1, n_ofN, l0, l1, l2, l3, l4, l5, l6, l7, l8, l10, l20, l47, l80, l100, l127, l200, l400, l600, l800, l1000, l1200, l1206, l1210, l1222, n_add, n_clamp, n_gd, n_le_t, n_le_f, n_lt_t, n_lt_f, n_eq_t, n_eq_f, n_no, n_on, n_oo, n_olt, n_nlo, n_ole, Option.bind_some, Option.bind_none, Nat.zero_add, if_true, if_false]
  simp (disch := omega) only [FX7_many, ↓lm1, n_ofN, l0, l1, l2, l3, l4, l5, l6, l7, l8, l10, l20, l47, l80, l100, l127, l200, l400, l600, l800, l1000, l1200, l1206, l1210, l1222, n_add, n_clamp, n_gd, n_le_t, n_le_f, n_lt_t, n_lt_f, n_eq_t, n_eq_f, n_no, n_on, n_oo, n_olt, n_nlo, n_ole, Option.bind_some, Option.bind_none, Nat.zero_add, if_true, if_false, hl]
theorem sim_count : Sim_count Rel := by
  intro i words depth allocated collections freed owner fieldCount dataCount pinned age content roots weaks movedTo reports letters length_ latestRefusal s0 s1 zmm zsaved_ zisSaved ztext ztextLength zrefused p1 hi h
  have hu := h.up
  obtain ⟨⟨W, H, ⟨⟨rfl, rfl, rfl, rfl, rfl⟩, hO, hA, hR, hK, hM⟩, hc⟩, hS0, hS1, hT, rfl⟩ := h
  have hW := H.size
  have hw := H.hw
  have hN : ∀ a, a < W → 0 < zs zmm a → pinned a = zmm (400 + a) := fun a h1 h2 => (hA a h1 h2).2.2.1
  have hl : length_ = ztextLength := by
    obtain ⟨n, -, h1, h2, -⟩ := hT
    rw [h1, h2]
  subst hl
  by_cases e0 : p1 = nI 0
  · exact ⟨nI W, by simp (disch := omega) only [FX6_count, ↓lm1, n_ofN, l0, l1, l2, l3, l4, l5, l6, l7, l8, l10, l20, l47, l80, l100, l127, l200, l400, l600, l800, l1000, l1200, l1206, l1210, l1222, n_add, n_clamp, n_gd, n_le_t, n_le_f, n_lt_t, n_lt_f, n_eq_t, n_eq_f, n_no, n_on, n_oo, n_olt, n_nlo, n_ole, Option.bind_some, Option.bind_none, Nat.zero_add, if_true, if_false, if_pos e0, hw], by simp (disch := omega) only [FX7_count, ↓lm1, n_ofN, l0, l1, l2, l3, l4, l5, l6, l7, l8, l10, l20, l47, l80, l100, l127, l200, l400, l600, l800, l1000, l1200, l1206, l1210, l1222, n_add, n_clamp, n_gd, n_le_t, n_le_f, n_lt_t, n_lt_f, n_eq_t, n_eq_f, n_no, n_on, n_oo, n_olt, n_nlo, n_ole, Option.bind_some, Option.bind_none, Nat.zero_add, if_true, if_false, if_pos e0, hw], hu⟩
  by_cases e1 : p1 = nI 1
  · exact ⟨zmm 1217, by simp (disch := omega) only [FX6_count, ↓lm1, n_ofN, l0, l1, l2, l3, l4, l5, l6, l7, l8, l10, l20, l47, l80, l100, l127, l200, l400, l600, l800, l1000, l1200, l1206, l1210, l1222, n_add, n_clamp, n_gd, n_le_t, n_le_f, n_lt_t, n_lt_f, n_eq_t, n_eq_f, n_no, n_on, n_oo, n_olt, n_nlo, n_ole, Option.bind_some, Option.bind_none, Nat.zero_add, if_true, if_false, if_neg e0, if_pos e1], by simp (disch := omega) only [FX7_count, ↓lm1, n_ofN, l0, l1, l2, l3, l4, l5, l6, l7, l8, l10, l20, l47, l80, l100, l127, l200, l400, l600, l800, l1000, l1200, l1206, l1210, l1222, n_add, n_clamp, n_gd, n_le_t, n_le_f, n_lt_t, n_lt_f, n_eq_t, n_eq_f, n_no, n_on, n_oo, n_olt, n_nlo, n_ole, Option.bind_some, Option.bind_none, Nat.zero_add, if_true, if_false, if_neg e0, if_pos e1], hu⟩
  by_cases e2 : p1 = nI 2
  · exact ⟨nI (cnt (hdB zmm) W), by simp (disch := omega) only [FX6_count, ↓lm1, n_ofN, l0, l1, l2, l3, l4, l5, l6, l7, l8, l10, l20, l47, l80, l100, l127, l200, l400, l600, l800, l1000, l1200, l1206, l1210, l1222, n_add, n_clamp, n_gd, n_le_t, n_le_f, n_lt_t, n_lt_f, n_eq_t, n_eq_f, n_no, n_on, n_oo, n_olt, n_nlo, n_ole, Option.bind_some, Option.bind_none, Nat.zero_add, if_true, if_false, if_neg e0, if_neg e1, if_pos e2, hw, FX_objectCount H hO], by simp (disch := omega) only [FX7_count, ↓lm1, n_ofN, l0, l1, l2, l3, l4, l5, l6, l7, l8, l10, l20, l47, l80, l100, l127, l200, l400, l600, l800, l1000, l1200, l1206, l1210, l1222, n_add, n_clamp, n_gd, n_le_t, n_le_f, n_lt_t, n_lt_f, n_eq_t, n_eq_f, n_no, n_on, n_oo, n_olt, n_nlo, n_ole, Option.bind_some, Option.bind_none, Nat.zero_add, if_true, if_false, if_neg e0, if_neg e1, if_pos e2, FM_many0 H], hu⟩
  by_cases e3 : p1 = nI 3
  · exact ⟨nI (cnt (pnB zmm) W), by simp (disch := omega) only [FX6_count, ↓lm1, n_ofN, l0, l1, l2, l3, l4, l5, l6, l7, l8, l10, l20, l47, l80, l100, l127, l200, l400, l600, l800, l1000, l1200, l1206, l1210, l1222, n_add, n_clamp, n_gd, n_le_t, n_le_f, n_lt_t, n_lt_f, n_eq_t, n_eq_f, n_no, n_on, n_oo, n_olt, n_nlo, n_ole, Option.bind_some, Option.bind_none, Nat.zero_add, if_true, if_false, if_neg e0, if_neg e1, if_neg e2, if_pos e3, hw, FX_pinnedCount H hO hN], by simp (disch := omega) only [FX7_count, ↓lm1, n_ofN, l0, l1, l2, l3, l4, l5, l6, l7, l8, l10, l20, l47, l80, l100, l127, l200, l400, l600, l800, l1000, l1200, l1206, l1210, l1222, n_add, n_clamp, n_gd, n_le_t, n_le_f, n_lt_t, n_lt_f, n_eq_t, n_eq_f, n_no, n_on, n_oo, n_olt, n_nlo, n_ole, Option.bind_some, Option.bind_none, Nat.zero_add, if_true, if_false, if_neg e0, if_neg e1, if_neg e2, if_pos e3, FM_many1 H], hu⟩
  by_cases e4 : p1 = nI 4
  · exact ⟨zmm 1218, by simp (disch := omega) only [FX6_count, ↓lm1, n_ofN, l0, l1, l2, l3, l4, l5, l6, l7, l8, l10, l20, l47, l80, l100, l127, l200, l400, l600, l800, l1000, l1200, l1206, l1210, l1222, n_add, n_clamp, n_gd, n_le_t, n_le_f, n_lt_t, n_lt_f, n_eq_t, n_eq_f, n_no, n_on, n_oo, n_olt, n_nlo, n_ole, Option.bind_some, Option.bind_none, Nat.zero_add, if_true, if_false, if_neg e0, if_neg e1, if_neg e2, if_neg e3, if_pos e4], by simp (disch := omega) only [FX7_count, ↓lm1, n_ofN, l0, l1, l2, l3, l4, l5, l6, l7, l8, l10, l20, l47, l80, l100, l127, l200, l400, l600, l800, l1000, l1200, l1206, l1210, l1222, n_add, n_clamp, n_gd, n_le_t, n_le_f, n_lt_t, n_lt_f, n_eq_t, n_eq_f, n_no, n_on, n_oo, n_olt, n_nlo, n_ole, Option.bind_some, Option.bind_none, Nat.zero_add, if_true, if_false, if_neg e0, if_neg e1, if_neg e2, if_neg e3, if_pos e4], hu⟩
  by_cases e5 : p1 = nI 5
  · exact ⟨zmm 1219, by simp (disch := omega) only [FX6_count, ↓lm1, n_ofN, l0, l1, l2, l3, l4, l5, l6, l7, l8, l10, l20, l47, l80, l100, l127, l200, l400, l600, l800, l1000, l1200, l1206, l1210, l1222, n_add, n_clamp, n_gd, n_le_t, n_le_f, n_lt_t, n_lt_f, n_eq_t, n_eq_f, n_no, n_on, n_oo, n_olt, n_nlo, n_ole, Option.bind_some, Option.bind_none, Nat.zero_add, if_true, if_false, if_neg e0, if_neg e1, if_neg e2, if_neg e3, if_neg e4, if_pos e5], by simp (disch := omega) only [FX7_count, ↓lm1, n_ofN, l0, l1, l2, l3, l4, l5, l6, l7, l8, l10, l20, l47, l80, l100, l127, l200, l400, l600, l800, l1000, l1200, l1206, l1210, l1222, n_add, n_clamp, n_gd, n_le_t, n_le_f, n_lt_t, n_lt_f, n_eq_t, n_eq_f, n_no, n_on, n_oo, n_olt, n_nlo, n_ole, Option.bind_some, Option.bind_none, Nat.zero_add, if_true, if_false, if_neg e0, if_neg e1, if_neg e2, if_neg e3, if_neg e4, if_pos e5], hu⟩
  by_cases e6 : p1 = nI 6
  · exact ⟨zmm 1220, by simp (disch := omega) only [FX6_count, ↓lm1, n_ofN, l0, l1, l2, l3, l4, l5, l6, l7, l8, l10, l20, l47, l80, l100, l127, l200, l400, l600, l800, l1000, l1200, l1206, l1210, l1222, n_add, n_clamp, n_gd, n_le_t, n_le_f, n_lt_t, n_lt_f, n_eq_t, n_eq_f, n_no, n_on, n_oo, n_olt, n_nlo, n_ole, Option.bind_some, Option.bind_none, Nat.zero_add, if_true, if_false, if_neg e0, if_neg e1, if_neg e2, if_neg e3, if_neg e4, if_neg e5, if_pos e6], by simp (disch := omega) only [FX7_count, ↓lm1, n_ofN, l0, l1, l2, l3, l4, l5, l6, l7, l8, l10, l20, l47, l80, l100, l127, l200, l400, l600, l800, l1000, l1200, l1206, l1210, l1222, n_add, n_clamp, n_gd, n_le_t, n_le_f, n_lt_t, n_lt_f, n_eq_t, n_eq_f, n_no, n_on, n_oo, n_olt, n_nlo, n_ole, Option.bind_some, Option.bind_none, Nat.zero_add, if_true, if_false, if_neg e0, if_neg e1, if_neg e2, if_neg e3, if_neg e4, if_neg e5, if_pos e6], hu⟩
  by_cases e7 : p1 = nI 7
  · exact ⟨length_, by simp (disch := omega) only [FX6_count, ↓lm1, n_ofN, l0, l1, l2, l3, l4, l5, l6, l7, l8, l10, l20, l47, l80, l100, l127, l200, l400, l600, l800, l1000, l1200, l1206, l1210, l1222, n_add, n_clamp, n_gd, n_le_t, n_le_f, n_lt_t, n_lt_f, n_eq_t, n_eq_f, n_no, n_on, n_oo, n_olt, n_nlo, n_ole, Option.bind_some, Option.bind_none, Nat.zero_add, if_true, if_false, if_neg e0, if_neg e1, if_neg e2, if_neg e3, if_neg e4, if_neg e5, if_neg e6, if_pos e7], by simp (disch := omega) only [FX7_count, ↓lm1, n_ofN, l0, l1, l2, l3, l4, l5, l6, l7, l8, l10, l20, l47, l80, l100, l127, l200, l400, l600, l800, l1000, l1200, l1206, l1210, l1222, n_add, n_clamp, n_gd, n_le_t, n_le_f, n_lt_t, n_lt_f, n_eq_t, n_eq_f, n_no, n_on, n_oo, n_olt, n_nlo, n_ole, Option.bind_some, Option.bind_none, Nat.zero_add, if_true, if_false, if_neg e0, if_neg e1, if_neg e2, if_neg e3, if_neg e4, if_neg e5, if_neg e6, if_pos e7], hu⟩
  · exact ⟨-1000002, by simp (disch := omega) only [FX6_count, ↓lm1, n_ofN, l0, l1, l2, l3, l4, l5, l6, l7, l8, l10, l20, l47, l80, l100, l127, l200, l400, l600, l800, l1000, l1200, l1206, l1210, l1222, n_add, n_clamp, n_gd, n_le_t, n_le_f, n_lt_t, n_lt_f, n_eq_t, n_eq_f, n_no, n_on, n_oo, n_olt, n_nlo, n_ole, Option.bind_some, Option.bind_none, Nat.zero_add, if_true, if_false, if_neg e0, if_neg e1, if_neg e2, if_neg e3, if_neg e4, if_neg e5, if_neg e6, if_neg e7], by simp (disch := omega) only [FX7_count, ↓lm1, n_ofN, l0, l1, l2, l3, l4, l5, l6, l7, l8, l10, l20, l47, l80, l100, l127, l200, l400, l600, l800, l1000, l1200, l1206, l1210, l1222, n_add, n_clamp, n_gd, n_le_t, n_le_f, n_lt_t, n_lt_f, n_eq_t, n_eq_f, n_no, n_on, n_oo, n_olt, n_nlo, n_ole, Option.bind_some, Option.bind_none, Nat.zero_add, if_true, if_false, if_neg e0, if_neg e1, if_neg e2, if_neg e3, if_neg e4, if_neg e5, if_neg e6, if_neg e7], hu⟩
