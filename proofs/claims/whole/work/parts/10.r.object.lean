/-! who refers to an object -/
def rfP (mm : Nat → Int32) (W h : Nat) (row : Nat → Int32) (j : Nat) : Bool := decide (obI mm W (row j) = some h)
theorem cnt_add {p : Nat → Bool} {a : Nat} : ∀ (n : Nat), cnt p (a + n) = cnt p a + cnt (fun j => p (a + j)) n
  | 0 => rfl
  | n + 1 => by
    show cnt p (a + n) + (if p (a + n) then 1 else 0) = _
    rw [cnt_add n]
    show _ = cnt p a + (cnt (fun j => p (a + j)) n + if p (a + n) then 1 else 0)
    omega
def refs (mm : Nat → Int32) (W h : Nat) : Nat := cnt (fun j => rfP mm W h (fun j => mm (1200 + j)) j) 10 + sm (fun a => if 0 < zs mm a then cnt (fun j => rfP mm W h (fun j => mm (800 + a + (j + 1))) j) (zf mm a) else 0) W
theorem FX_tallyRow {mm owner row : Nat → Int32} {W nr lo n : Nat} (H : WF mm W) (hO : RO W mm owner) (hn : lo + n ≤ nr) (hr : nr ≤ 200) (T : Nat → Int32) (g : Nat → Nat) (hT : ∀ h, h < 200 → T h = nI (g h)) :
    ∃ T', FX4_tallyRow T (nI W) owner row nr (nI lo) (nI (lo + n)) = some T' ∧ ∀ h, h < 200 → T' h = nI (g h + cnt (fun j => rfP mm W h (fun j => row (lo + j)) j) n) := by
  have hW := H.size
  have key := it_invg (f := FX4_tallyRow_L3 (nI W) owner row nr (nI (lo + n))) (fun s => ∃ j T, s = (nI (lo + j), T) ∧ j ≤ n ∧ ∀ h, h < 200 → T h = nI (g h + cnt (fun j => rfP mm W h (fun j => row (lo + j)) j) j))
    (fun s => lo + n - s.1.toNatClampNeg) (fun T' => ∀ h, h < 200 → T' h = nI (g h + cnt (fun j => rfP mm W h (fun j => row (lo + j)) j) n)) (fun s hs => ?_) (nI lo, T) ⟨0, T, rfl, by omega, fun h hh => hT h hh⟩ (by
      show lo + n - (nI lo).toNatClampNeg < 1000000
      omega)
  · obtain ⟨T', e1, e2⟩ := key
    exact ⟨T', by simp (disch := omega) only [FX4_tallyRow, e1, ↓lm1, n_ofN, l0, l1, l2, l3, l4, l5, l6, l7, l8, l10, l20, l47, l80, l100, l127, l200, l400, l600, l800, l1000, l1200, l1206, l1210, l1222, n_add, n_clamp, n_gd, n_le_t, n_le_f, n_lt_t, n_lt_f, n_eq_t, n_eq_f, n_no, n_on, n_oo, n_olt, n_nlo, n_ole, Option.bind_some, Option.bind_none, Nat.zero_add, if_true, if_false], e2⟩
  · obtain ⟨j, T, rfl, hj, hT⟩ := hs
    by_cases hjn : j < n
    · have hgo : ∀ T2, (∀ h, h < 200 → T2 h = nI (g h + cnt (fun j => rfP mm W h (fun j => row (lo + j)) j) (j + 1))) → FX4_tallyRow_L3 (nI W) owner row nr (nI (lo + n)) (nI (lo + j), T) = some (.inl (nI (lo + j + 1), T2)) → (∃ s', FX4_tallyRow_L3 (nI W) owner row nr (nI (lo + n)) (nI (lo + j), T) = some (.inl s') ∧ (∃ j T, s' = (nI (lo + j), T) ∧ j ≤ n ∧ ∀ h, h < 200 → T h = nI (g h + cnt (fun j => rfP mm W h (fun j => row (lo + j)) j) j)) ∧ lo + n - s'.1.toNatClampNeg < lo + n - (nI (lo + j)).toNatClampNeg) := by
        intro T2 h2 he
        refine ⟨_, he, ⟨j + 1, T2, rfl, by omega, h2⟩, ?_⟩
        show lo + n - (nI (lo + j + 1)).toNatClampNeg < lo + n - (nI (lo + j)).toNatClampNeg
        rw [n_clamp (by omega), n_clamp (by omega)]
        omega
      cases e : obI mm W (row (lo + j)) with
      | none =>
        refine Or.inl (hgo T (fun h hh => ?_) ?_)
        · rw [cnt_f (by simp [rfP, e])]
          exact hT h hh
        · simp (disch := omega) only [FX4_tallyRow_L3, FX_objectAt hW.2 hO, e, ↓lm1, n_ofN, l0, l1, l2, l3, l4, l5, l6, l7, l8, l10, l20, l47, l80, l100, l127, l200, l400, l600, l800, l1000, l1200, l1206, l1210, l1222, n_add, n_clamp, n_gd, n_le_t, n_le_f, n_lt_t, n_lt_f, n_eq_t, n_eq_f, n_no, n_on, n_oo, n_olt, n_nlo, n_ole, Option.bind_some, Option.bind_none, Nat.zero_add, if_true, if_false]
      | some b =>
        obtain ⟨t, _, _, _, hbW, hb0⟩ := obI_sm H e
        refine Or.inl (hgo (upd T b (T b + nI 1)) (fun h hh => ?_) ?_)
        · by_cases hb : h = b
          · subst hb
            rw [cnt_t (by simp [rfP, e]), pk_us, hT h hh, n_add, Nat.add_assoc]
          · rw [cnt_f (by simp [rfP, e]; omega), pk_un hb]
            exact hT h hh
        · simp (disch := omega) only [FX4_tallyRow_L3, FX_objectAt hW.2 hO, e, eO_some, ↓lm1, n_ofN, l0, l1, l2, l3, l4, l5, l6, l7, l8, l10, l20, l47, l80, l100, l127, l200, l400, l600, l800, l1000, l1200, l1206, l1210, l1222, n_add, n_clamp, n_gd, n_le_t, n_le_f, n_lt_t, n_lt_f, n_eq_t, n_eq_f, n_no, n_on, n_oo, n_olt, n_nlo, n_ole, Option.bind_some, Option.bind_none, Nat.zero_add, if_true, if_false]
    · have : j = n := by omega
      subst this
      refine Or.inr ⟨T, ?_, hT⟩
      simp (disch := omega) only [FX4_tallyRow_L3, ↓lm1, n_ofN, l0, l1, l2, l3, l4, l5, l6, l7, l8, l10, l20, l47, l80, l100, l127, l200, l400, l600, l800, l1000, l1200, l1206, l1210, l1222, n_add, n_clamp, n_gd, n_le_t, n_le_f, n_lt_t, n_lt_f, n_eq_t, n_eq_f, n_no, n_on, n_oo, n_olt, n_nlo, n_ole, Option.bind_some, Option.bind_none, Nat.zero_add, if_true, if_false]
theorem rfP_congr {mm row row' : Nat → Int32} {W h n : Nat} (e : ∀ j, j < n → row j = row' j) : cnt (fun j => rfP mm W h row j) n = cnt (fun j => rfP mm W h row' j) n := by
  refine Nat.le_antisymm (cnt_mono n (fun i hi q => ?_)) (cnt_mono n (fun i hi q => ?_))
  · unfold rfP at q ⊢
    rw [← e i hi]; exact q
  · unfold rfP at q ⊢
    rw [e i hi]; exact q
theorem FX_tally {mm owner fieldCount dataCount pinned age content roots weaks : Nat → Int32} {W : Nat} (H : WF mm W) (hO : RO W mm owner) (hA : RA W mm fieldCount dataCount pinned age content) (hR : ∀ k, k < 6 → roots k = mm (1200 + k)) (hK : ∀ k, k < 4 → weaks k = mm (1206 + k)) (T : Nat → Int32) :
    ∃ T', FX4_tally T (nI W) owner fieldCount content roots weaks = some T' ∧ ∀ h, h < 200 → T' h = nI (refs mm W h) := by
  have hW := H.size
  obtain ⟨T1, e1, h1⟩ := FX_tallyRow (row := roots) (nr := 6) (lo := 0) (n := 6) H hO (by omega) (by omega) (fl T 0 200 (nI 0)) (fun _ => 0) (fun h hh => fl_in (by omega) hh)
  obtain ⟨T2, e2, h2⟩ := FX_tallyRow (row := weaks) (nr := 4) (lo := 0) (n := 4) H hO (by omega) (by omega) T1 _ h1
  rw [Nat.zero_add] at e1 e2
  have h3 : ∀ h, h < 200 → T2 h = nI (cnt (fun j => rfP mm W h (fun j => mm (1200 + j)) j) 10 + sm (fun a => if 0 < zs mm a then cnt (fun j => rfP mm W h (fun j => mm (800 + a + (j + 1))) j) (zf mm a) else 0) 0) := fun h hh => by
    rw [h2 h hh]
    congr 1
    have q1 := rfP_congr (mm := mm) (W := W) (h := h) (row := fun j => roots (0 + j)) (row' := fun j => mm (1200 + j)) (n := 6) (fun j hj => by rw [Nat.zero_add]; exact hR j hj)
    have q2 := rfP_congr (mm := mm) (W := W) (h := h) (row := fun j => weaks (0 + j)) (row' := fun j => mm (1200 + (6 + j))) (n := 4) (fun j hj => by rw [Nat.zero_add, hK j hj, show 1206 + j = 1200 + (6 + j) by omega])
    have q3 := cnt_add (p := fun j => rfP mm W h (fun j => mm (1200 + j)) j) (a := 6) 4
    rw [q1, q2, show cnt (fun j => rfP mm W h (fun j => mm (1200 + j)) j) 10 = cnt (fun j => rfP mm W h (fun j => mm (1200 + j)) j) (6 + 4) from rfl, q3]
    show 0 + _ + _ = _ + _ + 0
    rw [Nat.zero_add]
    rfl
  have key := it_invg (f := FX4_tally_L33 (nI W) owner fieldCount content) (fun s => ∃ a T, s = (nI a, T) ∧ a ≤ W ∧ ∀ h, h < 200 → T h = nI (cnt (fun j => rfP mm W h (fun j => mm (1200 + j)) j) 10 + sm (fun a => if 0 < zs mm a then cnt (fun j => rfP mm W h (fun j => mm (800 + a + (j + 1))) j) (zf mm a) else 0) a))
    (fun s => W - s.1.toNatClampNeg) (fun T' => ∀ h, h < 200 → T' h = nI (refs mm W h)) (fun s hs => ?_) (nI 0, T2) ⟨0, T2, rfl, by omega, h3⟩ (by
      show W - (nI 0).toNatClampNeg < 1000000
      omega)
  · obtain ⟨T', e3, h4⟩ := key
    exact ⟨T', by simp (disch := omega) only [FX4_tally, F_fill, e1, e2, e3, ↓lm1, n_ofN, l0, l1, l2, l3, l4, l5, l6, l7, l8, l10, l20, l47, l80, l100, l127, l200, l400, l600, l800, l1000, l1200, l1206, l1210, l1222, n_add, n_clamp, n_gd, n_le_t, n_le_f, n_lt_t, n_lt_f, n_eq_t, n_eq_f, n_no, n_on, n_oo, n_olt, n_nlo, n_ole, Option.bind_some, Option.bind_none, Nat.zero_add, if_true, if_false], h4⟩
  · obtain ⟨a, T, rfl, ha, hT⟩ := hs
    by_cases haW : a < W
    · have hgo : ∀ T2, (∀ h, h < 200 → T2 h = nI (cnt (fun j => rfP mm W h (fun j => mm (1200 + j)) j) 10 + sm (fun a => if 0 < zs mm a then cnt (fun j => rfP mm W h (fun j => mm (800 + a + (j + 1))) j) (zf mm a) else 0) (a + 1))) → FX4_tally_L33 (nI W) owner fieldCount content (nI a, T) = some (.inl (nI (a + 1), T2)) → (∃ s', FX4_tally_L33 (nI W) owner fieldCount content (nI a, T) = some (.inl s') ∧ (∃ a T, s' = (nI a, T) ∧ a ≤ W ∧ ∀ h, h < 200 → T h = nI (cnt (fun j => rfP mm W h (fun j => mm (1200 + j)) j) 10 + sm (fun a => if 0 < zs mm a then cnt (fun j => rfP mm W h (fun j => mm (800 + a + (j + 1))) j) (zf mm a) else 0) a)) ∧ W - s'.1.toNatClampNeg < W - (nI a).toNatClampNeg) := by
        intro T2 h2 he
        refine ⟨_, he, ⟨a + 1, T2, rfl, by omega, h2⟩, ?_⟩
        show W - (nI (a + 1)).toNatClampNeg < W - (nI a).toNatClampNeg
        rw [n_clamp (by omega), n_clamp (by omega)]
        omega
      by_cases h0 : 0 < zs mm a
      · have h6 := H.hd (a := a) (by omega) h0
        obtain ⟨b1, -, -, -, b5⟩ := hA a haW h0
        obtain ⟨T2, e3, h4⟩ := FX_tallyRow (row := content) (nr := 200) (lo := a + 1) (n := zf mm a) H hO (by omega) (by omega) T _ hT
        refine Or.inl (hgo T2 (fun h hh => ?_) ?_)
        · rw [h4 h hh]
          congr 1
          show _ = _ + (sm _ a + if 0 < zs mm a then _ else 0)
          rw [if_pos h0, Nat.add_assoc]
          congr 2
          exact rfP_congr (fun j hj => by rw [show a + 1 + j = a + (j + 1) by omega, b5 (j + 1) (by omega) (by omega)])
        · simp (disch := omega) only [FX4_tally_L33, FX_isObject hW.2 hO haW, if_pos h0, ↓lm1, n_ofN, l0, l1, l2, l3, l4, l5, l6, l7, l8, l10, l20, l47, l80, l100, l127, l200, l400, l600, l800, l1000, l1200, l1206, l1210, l1222, n_add, n_clamp, n_gd, n_le_t, n_le_f, n_lt_t, n_lt_f, n_eq_t, n_eq_f, n_no, n_on, n_oo, n_olt, n_nlo, n_ole, Option.bind_some, Option.bind_none, Nat.zero_add, if_true, if_false, b1, h6.2.2.1, e3]
      · refine Or.inl (hgo T (fun h hh => ?_) ?_)
        · rw [hT h hh]
          congr 1
          show _ = _ + (sm _ a + if 0 < zs mm a then _ else 0)
          rw [if_neg h0]
          rfl
        · simp (disch := omega) only [FX4_tally_L33, FX_isObject hW.2 hO haW, if_neg h0, ↓lm1, n_ofN, l0, l1, l2, l3, l4, l5, l6, l7, l8, l10, l20, l47, l80, l100, l127, l200, l400, l600, l800, l1000, l1200, l1206, l1210, l1222, n_add, n_clamp, n_gd, n_le_t, n_le_f, n_lt_t, n_lt_f, n_eq_t, n_eq_f, n_no, n_on, n_oo, n_olt, n_nlo, n_ole, Option.bind_some, Option.bind_none, Nat.zero_add, if_true, if_false]
    · have : a = W := by omega
      subst this
      refine Or.inr ⟨T, ?_, hT⟩
      simp (disch := omega) only [FX4_tally_L33, ↓lm1, n_ofN, l0, l1, l2, l3, l4, l5, l6, l7, l8, l10, l20, l47, l80, l100, l127, l200, l400, l600, l800, l1000, l1200, l1206, l1210, l1222, n_add, n_clamp, n_gd, n_le_t, n_le_f, n_lt_t, n_lt_f, n_eq_t, n_eq_f, n_no, n_on, n_oo, n_olt, n_nlo, n_ole, Option.bind_some, Option.bind_none, Nat.zero_add, if_true, if_false]
theorem FM_refers {mm : Nat → Int32} {W h : Nat} (H : WF mm W) (hh : h < 200) (x : Int32) : (if x = eO none then some (nI 0) else (FX7_objectOf mm x).bind (fun r => if r = nI h then some (nI 1) else some (nI 0))) = some (nI (if decide (obI mm W x = some h) then 1 else 0)) := by
  have hW := H.size
  by_cases hx : x = eO none
  · subst hx
    rw [if_pos rfl, obI_none]
    rfl
  · rw [if_neg hx, FM_objectOf H]
    cases e : obI mm W x with
    | none => simp (disch := omega) only [↓lm1, n_ofN, l0, l1, l2, l3, l4, l5, l6, l7, l8, l10, l20, l47, l80, l100, l127, l200, l400, l600, l800, l1000, l1200, l1206, l1210, l1222, n_add, n_clamp, n_gd, n_le_t, n_le_f, n_lt_t, n_lt_f, n_eq_t, n_eq_f, n_no, n_on, n_oo, n_olt, n_nlo, n_ole, Option.bind_some, Option.bind_none, Nat.zero_add, if_true, if_false]; rfl
    | some b =>
      obtain ⟨t, _, _, _, hbW, hb0⟩ := obI_sm H e
      by_cases hb : b = h
      · subst hb
        simp (disch := omega) only [↓lm1, n_ofN, l0, l1, l2, l3, l4, l5, l6, l7, l8, l10, l20, l47, l80, l100, l127, l200, l400, l600, l800, l1000, l1200, l1206, l1210, l1222, n_add, n_clamp, n_gd, n_le_t, n_le_f, n_lt_t, n_lt_f, n_eq_t, n_eq_f, n_no, n_on, n_oo, n_olt, n_nlo, n_ole, Option.bind_some, Option.bind_none, Nat.zero_add, if_true, if_false, eO_some, decide_true]
      · simp (disch := omega) only [↓lm1, n_ofN, l0, l1, l2, l3, l4, l5, l6, l7, l8, l10, l20, l47, l80, l100, l127, l200, l400, l600, l800, l1000, l1200, l1206, l1210, l1222, n_add, n_clamp, n_gd, n_le_t, n_le_f, n_lt_t, n_lt_f, n_eq_t, n_eq_f, n_no, n_on, n_oo, n_olt, n_nlo, n_ole, Option.bind_some, Option.bind_none, Nat.zero_add, if_true, if_false, eO_some]
        rw [if_neg (by simp; omega)]
theorem FM_referring {mm : Nat → Int32} {W h : Nat} (H : WF mm W) (hh : h < 200) : FX7_referring mm (nI h) = some (nI (refs mm W h)) := by
  have hW := H.size
  have k1 : g_it (FX7_referring_L4 mm (nI h)) (nI 0, nI 0) = some (nI (cnt (fun j => rfP mm W h (fun j => mm (1200 + j)) j) 10)) := by
    refine it_to (fun i => (nI (cnt (fun j => rfP mm W h (fun j => mm (1200 + j)) j) i), nI i)) 0 10 _ (by omega) (by omega) (fun i _ hi => ?_) ?_
    · simp (disch := omega) only [FX7_referring_L4, ↓lm1, n_ofN, l0, l1, l2, l3, l4, l5, l6, l7, l8, l10, l20, l47, l80, l100, l127, l200, l400, l600, l800, l1000, l1200, l1206, l1210, l1222, n_add, n_clamp, n_gd, n_le_t, n_le_f, n_lt_t, n_lt_f, n_eq_t, n_eq_f, n_no, n_on, n_oo, n_olt, n_nlo, n_ole, Option.bind_some, Option.bind_none, Nat.zero_add, if_true, if_false, FM_refers H hh, cnt, rfP]
      rfl
    · simp (disch := omega) only [FX7_referring_L4, ↓lm1, n_ofN, l0, l1, l2, l3, l4, l5, l6, l7, l8, l10, l20, l47, l80, l100, l127, l200, l400, l600, l800, l1000, l1200, l1206, l1210, l1222, n_add, n_clamp, n_gd, n_le_t, n_le_f, n_lt_t, n_lt_f, n_eq_t, n_eq_f, n_no, n_on, n_oo, n_olt, n_nlo, n_ole, Option.bind_some, Option.bind_none, Nat.zero_add, if_true, if_false]
  have k2 : ∀ c a, a < W → g_it (FX7_referring_L73 mm (nI h) (nI a)) (nI c, nI 1) = some (nI (c + if 0 < zs mm a then cnt (fun j => rfP mm W h (fun j => mm (800 + a + (j + 1))) j) (zf mm a) else 0)) := by
    intro c a ha
    have h9 := H.sz (a := a) (by omega)
    by_cases h0 : 0 < zs mm a
    · have h6 := H.hd (a := a) (by omega) h0
      rw [if_pos h0]
      refine it_to (fun i => (nI (c + cnt (fun j => rfP mm W h (fun j => mm (800 + a + (j + 1))) j) i), nI (i + 1))) 0 (zf mm a) _ (by omega) (by omega) (fun i _ hi => ?_) ?_
      · simp (disch := omega) only [FX7_referring_L73, h6.2.2.1, h9.1, ↓lm1, n_ofN, l0, l1, l2, l3, l4, l5, l6, l7, l8, l10, l20, l47, l80, l100, l127, l200, l400, l600, l800, l1000, l1200, l1206, l1210, l1222, n_add, n_clamp, n_gd, n_le_t, n_le_f, n_lt_t, n_lt_f, n_eq_t, n_eq_f, n_no, n_on, n_oo, n_olt, n_nlo, n_ole, Option.bind_some, Option.bind_none, Nat.zero_add, if_true, if_false, FM_refers H hh, cnt, rfP]
        rw [Nat.add_assoc]
        rfl
      · simp (disch := omega) only [FX7_referring_L73, h6.2.2.1, ↓lm1, n_ofN, l0, l1, l2, l3, l4, l5, l6, l7, l8, l10, l20, l47, l80, l100, l127, l200, l400, l600, l800, l1000, l1200, l1206, l1210, l1222, n_add, n_clamp, n_gd, n_le_t, n_le_f, n_lt_t, n_lt_f, n_eq_t, n_eq_f, n_no, n_on, n_oo, n_olt, n_nlo, n_ole, Option.bind_some, Option.bind_none, Nat.zero_add, if_true, if_false]
    · rw [if_neg h0]
      have e : FX7_referring_L73 mm (nI h) (nI a) (nI c, nI 1) = some (.inr (nI (c + 0))) := by
        by_cases hc : mm (200 + a) < nI 1
        · simp (disch := omega) only [FX7_referring_L73, h9.1, ↓lm1, n_ofN, l0, l1, l2, l3, l4, l5, l6, l7, l8, l10, l20, l47, l80, l100, l127, l200, l400, l600, l800, l1000, l1200, l1206, l1210, l1222, n_add, n_clamp, n_gd, n_le_t, n_le_f, n_lt_t, n_lt_f, n_eq_t, n_eq_f, n_no, n_on, n_oo, n_olt, n_nlo, n_ole, Option.bind_some, Option.bind_none, Nat.zero_add, if_true, if_false, if_pos hc, Nat.add_zero]
        · simp (disch := omega) only [FX7_referring_L73, h9.1, ↓lm1, n_ofN, l0, l1, l2, l3, l4, l5, l6, l7, l8, l10, l20, l47, l80, l100, l127, l200, l400, l600, l800, l1000, l1200, l1206, l1210, l1222, n_add, n_clamp, n_gd, n_le_t, n_le_f, n_lt_t, n_lt_f, n_eq_t, n_eq_f, n_no, n_on, n_oo, n_olt, n_nlo, n_ole, Option.bind_some, Option.bind_none, Nat.zero_add, if_true, if_false, if_neg hc, Nat.add_zero]
      show g_itn _ g_fuel _ = _
      unfold g_fuel
      simp only [g_itn, e]
  have k3 : g_it (FX7_referring_L58 mm (nI h)) (nI (cnt (fun j => rfP mm W h (fun j => mm (1200 + j)) j) 10), nI 0) = some (nI (refs mm W h)) := by
    refine it_to (fun i => (nI (cnt (fun j => rfP mm W h (fun j => mm (1200 + j)) j) 10 + sm (fun a => if 0 < zs mm a then cnt (fun j => rfP mm W h (fun j => mm (800 + a + (j + 1))) j) (zf mm a) else 0) i), nI i)) 0 W _ (by omega) (by omega) (fun i _ hi => ?_) ?_
    · simp (disch := omega) only [FX7_referring_L58, H.hw, ↓lm1, n_ofN, l0, l1, l2, l3, l4, l5, l6, l7, l8, l10, l20, l47, l80, l100, l127, l200, l400, l600, l800, l1000, l1200, l1206, l1210, l1222, n_add, n_clamp, n_gd, n_le_t, n_le_f, n_lt_t, n_lt_f, n_eq_t, n_eq_f, n_no, n_on, n_oo, n_olt, n_nlo, n_ole, Option.bind_some, Option.bind_none, Nat.zero_add, if_true, if_false, k2 _ i hi, sm]
      rw [Nat.add_assoc]
    · simp (disch := omega) only [FX7_referring_L58, H.hw, ↓lm1, n_ofN, l0, l1, l2, l3, l4, l5, l6, l7, l8, l10, l20, l47, l80, l100, l127, l200, l400, l600, l800, l1000, l1200, l1206, l1210, l1222, n_add, n_clamp, n_gd, n_le_t, n_le_f, n_lt_t, n_lt_f, n_eq_t, n_eq_f, n_no, n_on, n_oo, n_olt, n_nlo, n_ole, Option.bind_some, Option.bind_none, Nat.zero_add, if_true, if_false, refs]
  simp (disch := omega) only [FX7_referring, ↓lm1, n_ofN, l0, l1, l2, l3, l4, l5, l6, l7, l8, l10, l20, l47, l80, l100, l127, l200, l400, l600, l800, l1000, l1200, l1206, l1210, l1222, n_add, n_clamp, n_gd, n_le_t, n_le_f, n_lt_t, n_lt_f, n_eq_t, n_eq_f, n_no, n_on, n_oo, n_olt, n_nlo, n_ole, Option.bind_some, Option.bind_none, Nat.zero_add, if_true, if_false, k1, k3]
/-- the eight properties -/
theorem prop_eq {mm fieldCount dataCount pinned age content steps T : Nat → Int32} {W b w : Nat} (H : WF mm W) (hA : RA W mm fieldCount dataCount pinned age content) {p : Int32} (e : obI mm W p = some b) (hw : w < 8) (hT : w = 6 → T b = nI (refs mm W b)) (hF : w = 7 → Far mm W none steps) (far : Nat → Int32) :
    ∃ r far', FX6_property fieldCount dataCount pinned age steps T (nI b) (nI w) = some r ∧ FX7_object mm far p (nI w) = some (r, far') := by
  have hW := H.size
  obtain ⟨t, h1, h2, h3, h4, h5⟩ := obI_sm H e
  have h6 := H.hd (a := b) (by omega) h5
  have h9 := H.sz (a := b) (by omega)
  obtain ⟨b1, b2, b3, b4, -⟩ := hA b h4 h5
  have : w = 0 ∨ w = 1 ∨ w = 2 ∨ w = 3 ∨ w = 4 ∨ w = 5 ∨ w = 6 ∨ w = 7 := by omega
  rcases this with rfl | rfl | rfl | rfl | rfl | rfl | rfl | rfl
  · exact ⟨nI b, far, by simp (disch := omega) only [FX6_property, ↓lm1, n_ofN, l0, l1, l2, l3, l4, l5, l6, l7, l8, l10, l20, l47, l80, l100, l127, l200, l400, l600, l800, l1000, l1200, l1206, l1210, l1222, n_add, n_clamp, n_gd, n_le_t, n_le_f, n_lt_t, n_lt_f, n_eq_t, n_eq_f, n_no, n_on, n_oo, n_olt, n_nlo, n_ole, Option.bind_some, Option.bind_none, Nat.zero_add, if_true, if_false], by simp (disch := omega) only [FX7_object, FX7_in, FM_objectOf H, e, eO_some, ↓lm1, n_ofN, l0, l1, l2, l3, l4, l5, l6, l7, l8, l10, l20, l47, l80, l100, l127, l200, l400, l600, l800, l1000, l1200, l1206, l1210, l1222, n_add, n_clamp, n_gd, n_le_t, n_le_f, n_lt_t, n_lt_f, n_eq_t, n_eq_f, n_no, n_on, n_oo, n_olt, n_nlo, n_ole, Option.bind_some, Option.bind_none, Nat.zero_add, if_true, if_false]⟩
  · exact ⟨nI (zs mm b), far, by simp (disch := omega) only [FX6_property, FX_sizeOf H hA h4 h5, ↓lm1, n_ofN, l0, l1, l2, l3, l4, l5, l6, l7, l8, l10, l20, l47, l80, l100, l127, l200, l400, l600, l800, l1000, l1200, l1206, l1210, l1222, n_add, n_clamp, n_gd, n_le_t, n_le_f, n_lt_t, n_lt_f, n_eq_t, n_eq_f, n_no, n_on, n_oo, n_olt, n_nlo, n_ole, Option.bind_some, Option.bind_none, Nat.zero_add, if_true, if_false], by simp (disch := omega) only [FX7_object, FX7_in, FM_objectOf H, e, eO_some, h9.1, ↓lm1, n_ofN, l0, l1, l2, l3, l4, l5, l6, l7, l8, l10, l20, l47, l80, l100, l127, l200, l400, l600, l800, l1000, l1200, l1206, l1210, l1222, n_add, n_clamp, n_gd, n_le_t, n_le_f, n_lt_t, n_lt_f, n_eq_t, n_eq_f, n_no, n_on, n_oo, n_olt, n_nlo, n_ole, Option.bind_some, Option.bind_none, Nat.zero_add, if_true, if_false]⟩
  · exact ⟨mm (200 + b), far, by simp (disch := omega) only [FX6_property, b1, ↓lm1, n_ofN, l0, l1, l2, l3, l4, l5, l6, l7, l8, l10, l20, l47, l80, l100, l127, l200, l400, l600, l800, l1000, l1200, l1206, l1210, l1222, n_add, n_clamp, n_gd, n_le_t, n_le_f, n_lt_t, n_lt_f, n_eq_t, n_eq_f, n_no, n_on, n_oo, n_olt, n_nlo, n_ole, Option.bind_some, Option.bind_none, Nat.zero_add, if_true, if_false], by simp (disch := omega) only [FX7_object, FX7_in, FM_objectOf H, e, eO_some, ↓lm1, n_ofN, l0, l1, l2, l3, l4, l5, l6, l7, l8, l10, l20, l47, l80, l100, l127, l200, l400, l600, l800, l1000, l1200, l1206, l1210, l1222, n_add, n_clamp, n_gd, n_le_t, n_le_f, n_lt_t, n_lt_f, n_eq_t, n_eq_f, n_no, n_on, n_oo, n_olt, n_nlo, n_ole, Option.bind_some, Option.bind_none, Nat.zero_add, if_true, if_false]⟩
  · exact ⟨nI (zs mm b - 1 - zf mm b), far, by simp (disch := omega) only [FX6_property, b2, ↓lm1, n_ofN, l0, l1, l2, l3, l4, l5, l6, l7, l8, l10, l20, l47, l80, l100, l127, l200, l400, l600, l800, l1000, l1200, l1206, l1210, l1222, n_add, n_clamp, n_gd, n_le_t, n_le_f, n_lt_t, n_lt_f, n_eq_t, n_eq_f, n_no, n_on, n_oo, n_olt, n_nlo, n_ole, Option.bind_some, Option.bind_none, Nat.zero_add, if_true, if_false], by simp (disch := omega) only [FX7_object, FX7_in, FM_objectOf H, FM_dataOf H (h := b) (by omega) h5, e, eO_some, ↓lm1, n_ofN, l0, l1, l2, l3, l4, l5, l6, l7, l8, l10, l20, l47, l80, l100, l127, l200, l400, l600, l800, l1000, l1200, l1206, l1210, l1222, n_add, n_clamp, n_gd, n_le_t, n_le_f, n_lt_t, n_lt_f, n_eq_t, n_eq_f, n_no, n_on, n_oo, n_olt, n_nlo, n_ole, Option.bind_some, Option.bind_none, Nat.zero_add, if_true, if_false]⟩
  · exact ⟨mm (400 + b), far, by simp (disch := omega) only [FX6_property, b3, ↓lm1, n_ofN, l0, l1, l2, l3, l4, l5, l6, l7, l8, l10, l20, l47, l80, l100, l127, l200, l400, l600, l800, l1000, l1200, l1206, l1210, l1222, n_add, n_clamp, n_gd, n_le_t, n_le_f, n_lt_t, n_lt_f, n_eq_t, n_eq_f, n_no, n_on, n_oo, n_olt, n_nlo, n_ole, Option.bind_some, Option.bind_none, Nat.zero_add, if_true, if_false], by simp (disch := omega) only [FX7_object, FX7_in, FM_objectOf H, e, eO_some, ↓lm1, n_ofN, l0, l1, l2, l3, l4, l5, l6, l7, l8, l10, l20, l47, l80, l100, l127, l200, l400, l600, l800, l1000, l1200, l1206, l1210, l1222, n_add, n_clamp, n_gd, n_le_t, n_le_f, n_lt_t, n_lt_f, n_eq_t, n_eq_f, n_no, n_on, n_oo, n_olt, n_nlo, n_ole, Option.bind_some, Option.bind_none, Nat.zero_add, if_true, if_false]⟩
  · exact ⟨mm (600 + b), far, by simp (disch := omega) only [FX6_property, b4, ↓lm1, n_ofN, l0, l1, l2, l3, l4, l5, l6, l7, l8, l10, l20, l47, l80, l100, l127, l200, l400, l600, l800, l1000, l1200, l1206, l1210, l1222, n_add, n_clamp, n_gd, n_le_t, n_le_f, n_lt_t, n_lt_f, n_eq_t, n_eq_f, n_no, n_on, n_oo, n_olt, n_nlo, n_ole, Option.bind_some, Option.bind_none, Nat.zero_add, if_true, if_false], by simp (disch := omega) only [FX7_object, FX7_in, FM_objectOf H, e, eO_some, ↓lm1, n_ofN, l0, l1, l2, l3, l4, l5, l6, l7, l8, l10, l20, l47, l80, l100, l127, l200, l400, l600, l800, l1000, l1200, l1206, l1210, l1222, n_add, n_clamp, n_gd, n_le_t, n_le_f, n_lt_t, n_lt_f, n_eq_t, n_eq_f, n_no, n_on, n_oo, n_olt, n_nlo, n_ole, Option.bind_some, Option.bind_none, Nat.zero_add, if_true, if_false]⟩
  · exact ⟨nI (refs mm W b), far, by simp (disch := omega) only [FX6_property, hT rfl, ↓lm1, n_ofN, l0, l1, l2, l3, l4, l5, l6, l7, l8, l10, l20, l47, l80, l100, l127, l200, l400, l600, l800, l1000, l1200, l1206, l1210, l1222, n_add, n_clamp, n_gd, n_le_t, n_le_f, n_lt_t, n_lt_f, n_eq_t, n_eq_f, n_no, n_on, n_oo, n_olt, n_nlo, n_ole, Option.bind_some, Option.bind_none, Nat.zero_add, if_true, if_false], by simp (disch := omega) only [FX7_object, FX7_in, FM_objectOf H, FM_referring H (h := b) (by omega), e, eO_some, ↓lm1, n_ofN, l0, l1, l2, l3, l4, l5, l6, l7, l8, l10, l20, l47, l80, l100, l127, l200, l400, l600, l800, l1000, l1200, l1206, l1210, l1222, n_add, n_clamp, n_gd, n_le_t, n_le_f, n_lt_t, n_lt_f, n_eq_t, n_eq_f, n_no, n_on, n_oo, n_olt, n_nlo, n_ole, Option.bind_some, Option.bind_none, Nat.zero_add, if_true, if_false]⟩
  · obtain ⟨far', e2, F2⟩ := FM_reaches (wo := none) H none_big far
    have hu := (hF rfl).uniq F2 (h := b) (by omega)
    by_cases hf : far' b = eO none
    · exact ⟨nI 0, far', by simp (disch := omega) only [FX6_property, hu, if_pos hf, ↓lm1, n_ofN, l0, l1, l2, l3, l4, l5, l6, l7, l8, l10, l20, l47, l80, l100, l127, l200, l400, l600, l800, l1000, l1200, l1206, l1210, l1222, n_add, n_clamp, n_gd, n_le_t, n_le_f, n_lt_t, n_lt_f, n_eq_t, n_eq_f, n_no, n_on, n_oo, n_olt, n_nlo, n_ole, Option.bind_some, Option.bind_none, Nat.zero_add, if_true, if_false], by simp (disch := omega) only [FX7_object, FX7_in, FM_objectOf H, e, eO_some, e2, if_pos hf, ↓lm1, n_ofN, l0, l1, l2, l3, l4, l5, l6, l7, l8, l10, l20, l47, l80, l100, l127, l200, l400, l600, l800, l1000, l1200, l1206, l1210, l1222, n_add, n_clamp, n_gd, n_le_t, n_le_f, n_lt_t, n_lt_f, n_eq_t, n_eq_f, n_no, n_on, n_oo, n_olt, n_nlo, n_ole, Option.bind_some, Option.bind_none, Nat.zero_add, if_true, if_false]⟩
    · exact ⟨nI 1, far', by simp (disch := omega) only [FX6_property, hu, if_neg hf, ↓lm1, n_ofN, l0, l1, l2, l3, l4, l5, l6, l7, l8, l10, l20, l47, l80, l100, l127, l200, l400, l600, l800, l1000, l1200, l1206, l1210, l1222, n_add, n_clamp, n_gd, n_le_t, n_le_f, n_lt_t, n_lt_f, n_eq_t, n_eq_f, n_no, n_on, n_oo, n_olt, n_nlo, n_ole, Option.bind_some, Option.bind_none, Nat.zero_add, if_true, if_false], by simp (disch := omega) only [FX7_object, FX7_in, FM_objectOf H, e, eO_some, e2, if_neg hf, ↓lm1, n_ofN, l0, l1, l2, l3, l4, l5, l6, l7, l8, l10, l20, l47, l80, l100, l127, l200, l400, l600, l800, l1000, l1200, l1206, l1210, l1222, n_add, n_clamp, n_gd, n_le_t, n_le_f, n_lt_t, n_lt_f, n_eq_t, n_eq_f, n_no, n_on, n_oo, n_olt, n_nlo, n_ole, Option.bind_some, Option.bind_none, Nat.zero_add, if_true, if_false]⟩
theorem sim_object : Sim_object Rel := by
  intro i words depth allocated collections freed owner fieldCount dataCount pinned age content roots weaks movedTo reports letters length_ latestRefusal s0 s1 zmm zsaved_ zisSaved ztext ztextLength zrefused queued steps queue tallies zfar p1 p2 hi h
  have hu := h.up
  obtain ⟨⟨W, H, ⟨⟨rfl, rfl, rfl, rfl, rfl⟩, hO, hA, hR, hK, hM⟩, hc⟩, hS0, hS1, hT, rfl⟩ := h
  have hW := H.size
  have hw := H.hw
  cases e : obI zmm W p1 with
  | none => exact ⟨-1000002, queued, steps, queue, tallies, zfar, by simp (disch := omega) only [FX6_object, hw, FX_objectAt hW.2 hO, e, ↓lm1, n_ofN, l0, l1, l2, l3, l4, l5, l6, l7, l8, l10, l20, l47, l80, l100, l127, l200, l400, l600, l800, l1000, l1200, l1206, l1210, l1222, n_add, n_clamp, n_gd, n_le_t, n_le_f, n_lt_t, n_lt_f, n_eq_t, n_eq_f, n_no, n_on, n_oo, n_olt, n_nlo, n_ole, Option.bind_some, Option.bind_none, Nat.zero_add, if_true, if_false], (by unfold FX7_object; rw [FM_objectOf H, e, Option.bind_some]; exact if_pos (show eO none = (-1 : Int32) from rfl)), hu⟩
  | some b =>
    obtain ⟨t, h1, h2, h3, h4, h5⟩ := obI_sm H e
    rcases n_cases p2 with hp | ⟨w, hw2, rfl⟩
    · exact ⟨-1000002, queued, steps, queue, tallies, zfar, by simp (disch := omega) only [FX6_object, hw, FX_objectAt hW.2 hO, e, eO_some, if_pos hp, ↓lm1, n_ofN, l0, l1, l2, l3, l4, l5, l6, l7, l8, l10, l20, l47, l80, l100, l127, l200, l400, l600, l800, l1000, l1200, l1206, l1210, l1222, n_add, n_clamp, n_gd, n_le_t, n_le_f, n_lt_t, n_lt_f, n_eq_t, n_eq_f, n_no, n_on, n_oo, n_olt, n_nlo, n_ole, Option.bind_some, Option.bind_none, Nat.zero_add, if_true, if_false], by simp (disch := omega) only [FX7_object, FX7_in, FM_objectOf H, e, eO_some, if_pos hp, ↓lm1, n_ofN, l0, l1, l2, l3, l4, l5, l6, l7, l8, l10, l20, l47, l80, l100, l127, l200, l400, l600, l800, l1000, l1200, l1206, l1210, l1222, n_add, n_clamp, n_gd, n_le_t, n_le_f, n_lt_t, n_lt_f, n_eq_t, n_eq_f, n_no, n_on, n_oo, n_olt, n_nlo, n_ole, Option.bind_some, Option.bind_none, Nat.zero_add, if_true, if_false], hu⟩
    · by_cases hw8 : w < 8
      · obtain ⟨T, e1, hT⟩ := FX_tally H hO hA hR hK tallies
        obtain ⟨n, s', q', e2, X, F⟩ := FX_trace H hO hA hR none_big queued steps queue
        by_cases h6 : w = 6
        · subst h6
          obtain ⟨r, far', a1, a2⟩ := prop_eq (steps := steps) (T := T) (w := 6) H hA e (by omega) (fun _ => hT b (by omega)) (fun z => by omega) zfar
          exact ⟨r, queued, steps, queue, T, far', by simp (disch := omega) only [FX6_object, hw, FX_objectAt hW.2 hO, e, eO_some, e1, a1, ↓lm1, n_ofN, l0, l1, l2, l3, l4, l5, l6, l7, l8, l10, l20, l47, l80, l100, l127, l200, l400, l600, l800, l1000, l1200, l1206, l1210, l1222, n_add, n_clamp, n_gd, n_le_t, n_le_f, n_lt_t, n_lt_f, n_eq_t, n_eq_f, n_no, n_on, n_oo, n_olt, n_nlo, n_ole, Option.bind_some, Option.bind_none, Nat.zero_add, if_true, if_false], a2, hu⟩
        · by_cases h7 : w = 7
          · subst h7
            obtain ⟨r, far', a1, a2⟩ := prop_eq (steps := s') (T := tallies) (w := 7) H hA e (by omega) (fun z => by omega) (fun _ => F) zfar
            exact ⟨r, nI n, s', q', tallies, far', by simp (disch := omega) only [FX6_object, hw, FX_objectAt hW.2 hO, e, eO_some, e2, a1, ↓lm1, n_ofN, l0, l1, l2, l3, l4, l5, l6, l7, l8, l10, l20, l47, l80, l100, l127, l200, l400, l600, l800, l1000, l1200, l1206, l1210, l1222, n_add, n_clamp, n_gd, n_le_t, n_le_f, n_lt_t, n_lt_f, n_eq_t, n_eq_f, n_no, n_on, n_oo, n_olt, n_nlo, n_ole, Option.bind_some, Option.bind_none, Nat.zero_add, if_true, if_false], a2, hu⟩
          · obtain ⟨r, far', a1, a2⟩ := prop_eq (steps := steps) (T := tallies) H hA e hw8 (fun z => absurd z h6) (fun z => absurd z h7) zfar
            exact ⟨r, queued, steps, queue, tallies, far', by simp (disch := omega) only [FX6_object, hw, FX_objectAt hW.2 hO, e, eO_some, a1, ↓lm1, n_ofN, l0, l1, l2, l3, l4, l5, l6, l7, l8, l10, l20, l47, l80, l100, l127, l200, l400, l600, l800, l1000, l1200, l1206, l1210, l1222, n_add, n_clamp, n_gd, n_le_t, n_le_f, n_lt_t, n_lt_f, n_eq_t, n_eq_f, n_no, n_on, n_oo, n_olt, n_nlo, n_ole, Option.bind_some, Option.bind_none, Nat.zero_add, if_true, if_false], a2, hu⟩
      · exact ⟨-1000002, queued, steps, queue, tallies, zfar, by simp (disch := omega) only [FX6_object, hw, FX_objectAt hW.2 hO, e, eO_some, ↓lm1, n_ofN, l0, l1, l2, l3, l4, l5, l6, l7, l8, l10, l20, l47, l80, l100, l127, l200, l400, l600, l800, l1000, l1200, l1206, l1210, l1222, n_add, n_clamp, n_gd, n_le_t, n_le_f, n_lt_t, n_lt_f, n_eq_t, n_eq_f, n_no, n_on, n_oo, n_olt, n_nlo, n_ole, Option.bind_some, Option.bind_none, Nat.zero_add, if_true, if_false], by simp (disch := omega) only [FX7_object, FX7_in, FM_objectOf H, e, eO_some, ↓lm1, n_ofN, l0, l1, l2, l3, l4, l5, l6, l7, l8, l10, l20, l47, l80, l100, l127, l200, l400, l600, l800, l1000, l1200, l1206, l1210, l1222, n_add, n_clamp, n_gd, n_le_t, n_le_f, n_lt_t, n_lt_f, n_eq_t, n_eq_f, n_no, n_on, n_oo, n_olt, n_nlo, n_ole, Option.bind_some, Option.bind_none, Nat.zero_add, if_true, if_false], hu⟩
