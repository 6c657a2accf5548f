theorem sim_pin : Sim_pin Rel := by
  intro i words depth allocated collections freed owner fieldCount dataCount pinned age content roots weaks movedTo reports letters length_ latestRefusal s0 s1 zmm zsaved_ zisSaved ztext ztextLength zrefused p1 p2 hi h
  have hu := h.up
  obtain ⟨⟨W, H, ⟨⟨rfl, rfl, rfl, rfl, rfl⟩, hO, hA, hR, hK, hM⟩, hc⟩, hS0, hS1, hT, rfl⟩ := h
  have hW := H.size
  have hw := H.hw
  cases e : obI zmm W p1 with
  | none => exact ⟨-1000002, pinned, zmm, by simp (disch := omega) only [FX6_pin, hw, FX_objectAt hW.2 hO, e, ↓lm1, n_ofN, l0, l1, l2, l3, l4, l5, l6, l7, l8, l10, l20, l47, l80, l100, l127, l200, l400, l600, l800, l1000, l1200, l1206, l1210, l1222, n_add, n_clamp, n_gd, n_le_t, n_le_f, n_lt_t, n_lt_f, n_eq_t, n_eq_f, n_no, n_on, n_oo, n_olt, n_nlo, n_ole, Option.bind_some, Option.bind_none, Nat.zero_add, if_true, if_false], by simp (disch := omega) only [FX7_pin, FM_objectOf H, e, ↓lm1, n_ofN, l0, l1, l2, l3, l4, l5, l6, l7, l8, l10, l20, l47, l80, l100, l127, l200, l400, l600, l800, l1000, l1200, l1206, l1210, l1222, n_add, n_clamp, n_gd, n_le_t, n_le_f, n_lt_t, n_lt_f, n_eq_t, n_eq_f, n_no, n_on, n_oo, n_olt, n_nlo, n_ole, Option.bind_some, Option.bind_none, Nat.zero_add, if_true, if_false], hu⟩
  | some h =>
    obtain ⟨t, h1, h2, h3, h4, h5⟩ := obI_sm H e
    have h6 := H.hd (a := h) (by omega) h5
    have hN : ∀ a, a < W → 0 < zs zmm a → pinned a = zmm (400 + a) := fun a h1 h2 => (hA a h1 h2).2.2.1
    have hp := hN h h4 h5
    obtain ⟨v, hv, hv2⟩ : ∃ v : Int32, v = (if p2 = nI 0 then nI 0 else nI 1) ∧ (v = nI 0 ∨ v = nI 1) := by
      by_cases q : p2 = nI 0
      · exact ⟨nI 0, by rw [if_pos q], Or.inl rfl⟩
      · exact ⟨nI 1, by rw [if_neg q], Or.inr rfl⟩
    have hv3 : (if p2 = nI 0 then some (nI 0) else some (nI 1)) = some v := by
      rw [hv]
      split <;> rfl
    by_cases q : zmm (400 + h) = v
    · exact ⟨-1000003, pinned, zmm, by simp (disch := omega) only [FX6_pin, hw, FX_objectAt hW.2 hO, e, eO_some, ↓lm1, n_ofN, l0, l1, l2, l3, l4, l5, l6, l7, l8, l10, l20, l47, l80, l100, l127, l200, l400, l600, l800, l1000, l1200, l1206, l1210, l1222, n_add, n_clamp, n_gd, n_le_t, n_le_f, n_lt_t, n_lt_f, n_eq_t, n_eq_f, n_no, n_on, n_oo, n_olt, n_nlo, n_ole, Option.bind_some, Option.bind_none, Nat.zero_add, if_true, if_false, hv3, hp, if_pos q], by simp (disch := omega) only [FX7_pin, FM_objectOf H, e, eO_some, ↓lm1, n_ofN, l0, l1, l2, l3, l4, l5, l6, l7, l8, l10, l20, l47, l80, l100, l127, l200, l400, l600, l800, l1000, l1200, l1206, l1210, l1222, n_add, n_clamp, n_gd, n_le_t, n_le_f, n_lt_t, n_lt_f, n_eq_t, n_eq_f, n_no, n_on, n_oo, n_olt, n_nlo, n_ole, Option.bind_some, Option.bind_none, Nat.zero_add, if_true, if_false, hv3, if_pos q], hu⟩
    · have H2 : WF (upd zmm (400 + h) v) W := by
        refine H.congr (fun a ha => pk_un (by omega)) (pk_un (by omega)) (pk_un (by omega)) (fun a ha => pk_un (by omega)) (fun a ha _ => ?_) (fun a ha h0 k k1 k2 => Or.inl (pk_un (by omega))) (fun k hk => Or.inl (pk_un (by omega)))
        by_cases ha2 : a = h
        · subst ha2
          rw [pk_us]
          exact Or.inr hv2
        · exact Or.inl (pk_un (by omega))
      have hs : ∀ a, a < 200 → upd zmm (400 + h) v a = zmm a := fun a ha => pk_un (by omega)
      have hO2 : RO W (upd zmm (400 + h) v) owner := hO.congr hW.2 hs
      have hA2 : RA W (upd zmm (400 + h) v) fieldCount dataCount (upd pinned h v) age content := by
        intro a ha h0
        rw [same_zs (mm := zmm) (pk_un (by omega))] at h0 ⊢
        have h9 := H.hd (a := a) (by omega) h0
        obtain ⟨a1, a2, a3, a4, a5⟩ := hA a ha h0
        rw [same_zf (mm := zmm) (pk_un (by omega)), pk_un (j := 200 + a) (by omega), pk_un (j := 600 + a) (by omega)]
        refine ⟨a1, a2, ?_, a4, fun k' k1 k2 => ?_⟩
        · by_cases ha2 : a = h
          · subst ha2
            rw [pk_us, pk_us]
          · rw [pk_un ha2, pk_un (by omega)]
            exact a3
        · rw [pk_un (by omega)]
          exact a5 k' k1 k2
      have hc1 := FX_pinnedCount H2 hO2 (fun a h1 h2 => (hA2 a h1 h2).2.2.1)
      have hc2 := FM_many1 H2
      refine ⟨nI (cnt (pnB (upd zmm (400 + h) v)) W), upd pinned h v, upd zmm (400 + h) v, by simp (disch := omega) only [FX6_pin, hw, FX_objectAt hW.2 hO, e, eO_some, ↓lm1, n_ofN, l0, l1, l2, l3, l4, l5, l6, l7, l8, l10, l20, l47, l80, l100, l127, l200, l400, l600, l800, l1000, l1200, l1206, l1210, l1222, n_add, n_clamp, n_gd, n_le_t, n_le_f, n_lt_t, n_lt_f, n_eq_t, n_eq_f, n_no, n_on, n_oo, n_olt, n_nlo, n_ole, Option.bind_some, Option.bind_none, Nat.zero_add, if_true, if_false, hv3, hp, if_neg q, hc1], by simp (disch := omega) only [FX7_pin, FM_objectOf H, e, eO_some, ↓lm1, n_ofN, l0, l1, l2, l3, l4, l5, l6, l7, l8, l10, l20, l47, l80, l100, l127, l200, l400, l600, l800, l1000, l1200, l1206, l1210, l1222, n_add, n_clamp, n_gd, n_le_t, n_le_f, n_lt_t, n_lt_f, n_eq_t, n_eq_f, n_no, n_on, n_oo, n_olt, n_nlo, n_ole, Option.bind_some, Option.bind_none, Nat.zero_add, if_true, if_false, hv3, if_neg q, hc2], ⟨W, H2, ⟨⟨?_, ?_, ?_, ?_, ?_⟩, hO2, hA2, ?_, ?_, ?_⟩, ?_⟩, hu.2⟩
      all_goals first | exact (pk_un (by omega)).symm | skip
      · intro k hk
        rw [pk_un (by omega)]
        exact hR k hk
      · intro k hk
        rw [pk_un (by omega)]
        exact hK k hk
      · rw [pk_un (by omega)]
        intro h9
        refine ⟨fun t' ht' => ?_, fun k hk => ?_⟩
        · rw [pk_un (by omega)]; exact (hM h9).1 t' ht'
        · rw [pk_un (by omega)]; exact (hM h9).2 k hk
      · obtain ⟨c, c1, c2, c3⟩ := hc
        exact ⟨c, by omega, (pk_un (by omega)).trans c2, (pk_un (by omega)).trans c3⟩
/-! rows filled -/
def fl (row : Nat → Int32) (a n : Nat) (v : Int32) : Nat → Int32 := fun j => if a ≤ j ∧ j < n then v else row j
theorem fl_in {row : Nat → Int32} {a n j : Nat} {v : Int32} (h1 : a ≤ j) (h2 : j < n) : fl row a n v j = v := if_pos ⟨h1, h2⟩
theorem fl_out {row : Nat → Int32} {a n j : Nat} {v : Int32} (h : j < a ∨ n ≤ j) : fl row a n v j = row j := if_neg (by omega)
theorem fl_s {row : Nat → Int32} {a i : Nat} {v : Int32} (h : a ≤ i) : upd (fl row a i v) i v = fl row a (i + 1) v := by
  funext j
  by_cases hj : j = i
  · subst hj
    rw [pk_us, fl_in h (by omega)]
  · rw [pk_un hj]
    by_cases h2 : a ≤ j ∧ j < i
    · rw [fl_in h2.1 h2.2, fl_in h2.1 (by omega)]
    · rw [fl_out (by omega), fl_out (by omega)]
theorem fl_0 {row : Nat → Int32} {a : Nat} {v : Int32} : fl row a a v = row := by
  funext j
  exact fl_out (by omega)
theorem F_fill {row : Nat → Int32} {n : Nat} {v : Int32} (hn : n < 100000) : FJ7_fill_53178 row n v = some (fl row 0 n v) := by
  have hl : g_it (FJ7_fill_53178_L5 n v) (nI 0, row) = some (fl row 0 n v) := by
    have h0 : (nI 0, row) = (fun i => (nI i, fl row 0 i v)) 0 := by
      show (nI 0, row) = (nI 0, fl row 0 0 v)
      rw [fl_0]
    rw [h0]
    refine it_to (fun i => (nI i, fl row 0 i v)) 0 n _ (by omega) (by omega) (fun i _ hi => ?_) ?_
    · simp (disch := omega) only [FJ7_fill_53178_L5, ↓lm1, n_ofN, l0, l1, l2, l3, l4, l5, l6, l7, l8, l10, l20, l47, l80, l100, l127, l200, l400, l600, l800, l1000, l1200, l1206, l1210, l1222, n_add, n_clamp, n_gd, n_le_t, n_le_f, n_lt_t, n_lt_f, n_eq_t, n_eq_f, n_no, n_on, n_oo, n_olt, n_nlo, n_ole, Option.bind_some, Option.bind_none, Nat.zero_add, if_true, if_false, fl_s (Nat.zero_le i)]
    · simp (disch := omega) only [FJ7_fill_53178_L5, ↓lm1, n_ofN, l0, l1, l2, l3, l4, l5, l6, l7, l8, l10, l20, l47, l80, l100, l127, l200, l400, l600, l800, l1000, l1200, l1206, l1210, l1222, n_add, n_clamp, n_gd, n_le_t, n_le_f, n_lt_t, n_lt_f, n_eq_t, n_eq_f, n_no, n_on, n_oo, n_olt, n_nlo, n_ole, Option.bind_some, Option.bind_none, Nat.zero_add, if_true, if_false]
  simp (disch := omega) only [FJ7_fill_53178, ↓lm1, n_ofN, l0, l1, l2, l3, l4, l5, l6, l7, l8, l10, l20, l47, l80, l100, l127, l200, l400, l600, l800, l1000, l1200, l1206, l1210, l1222, n_add, n_clamp, n_gd, n_le_t, n_le_f, n_lt_t, n_lt_f, n_eq_t, n_eq_f, n_no, n_on, n_oo, n_olt, n_nlo, n_ole, Option.bind_some, Option.bind_none, Nat.zero_add, if_true, if_false, hl]
theorem F_fill4 {row : Nat → Int32} {N a n : Nat} {v : Int32} (hN : N < 100000) (h1 : a ≤ n) (h2 : n ≤ N) : FJ7_fill_fda19 row N (nI a) (nI n) v = some (fl row a n v) := by
  have hl : g_it (FJ7_fill_fda19_L10 N (nI n) v) (nI a, row) = some (fl row a n v) := by
    have h0 : (nI a, row) = (fun i => (nI i, fl row a i v)) a := by
      show (nI a, row) = (nI a, fl row a a v)
      rw [fl_0]
    rw [h0]
    refine it_to (fun i => (nI i, fl row a i v)) a n _ (by omega) (by omega) (fun i hi1 hi => ?_) ?_
    · simp (disch := omega) only [FJ7_fill_fda19_L10, ↓lm1, n_ofN, l0, l1, l2, l3, l4, l5, l6, l7, l8, l10, l20, l47, l80, l100, l127, l200, l400, l600, l800, l1000, l1200, l1206, l1210, l1222, n_add, n_clamp, n_gd, n_le_t, n_le_f, n_lt_t, n_lt_f, n_eq_t, n_eq_f, n_no, n_on, n_oo, n_olt, n_nlo, n_ole, Option.bind_some, Option.bind_none, Nat.zero_add, if_true, if_false, fl_s hi1]
    · simp (disch := omega) only [FJ7_fill_fda19_L10, ↓lm1, n_ofN, l0, l1, l2, l3, l4, l5, l6, l7, l8, l10, l20, l47, l80, l100, l127, l200, l400, l600, l800, l1000, l1200, l1206, l1210, l1222, n_add, n_clamp, n_gd, n_le_t, n_le_f, n_lt_t, n_lt_f, n_eq_t, n_eq_f, n_no, n_on, n_oo, n_olt, n_nlo, n_ole, Option.bind_some, Option.bind_none, Nat.zero_add, if_true, if_false]
  simp (disch := omega) only [FJ7_fill_fda19, FJ7_rangeCheck_23922, ↓lm1, n_ofN, l0, l1, l2, l3, l4, l5, l6, l7, l8, l10, l20, l47, l80, l100, l127, l200, l400, l600, l800, l1000, l1200, l1206, l1210, l1222, n_add, n_clamp, n_gd, n_le_t, n_le_f, n_lt_t, n_lt_f, n_eq_t, n_eq_f, n_no, n_on, n_oo, n_olt, n_nlo, n_ole, Option.bind_some, Option.bind_none, Nat.zero_add, if_true, if_false, hl]
/-! a new heap -/
def bg (mm : Nat → Int32) (n : Nat) : Nat → Int32 := fun j => if j < n then (if 1200 ≤ j ∧ j < 1210 then eO none else nI 0) else mm j
theorem FM_begins (mm : Nat → Int32) (p1 p2 : Int32) : FX7_begins mm p1 p2 = some (upd (upd (bg mm 1222) 1216 p1) 1217 p2) := by
  have hl : g_it FX7_begins_L2 (nI 0, mm) = some (bg mm 1222) := by
    have h0 : (nI 0, mm) = (fun i => (nI i, bg mm i)) 0 := by
      show (nI 0, mm) = (nI 0, bg mm 0)
      have : bg mm 0 = mm := by funext j; exact if_neg (by omega)
      rw [this]
    rw [h0]
    refine it_to (fun i => (nI i, bg mm i)) 0 1222 _ (by omega) (by omega) (fun i _ hi => ?_) ?_
    · have hs : ∀ v : Int32, v = (if 1200 ≤ i ∧ i < 1210 then eO none else nI 0) → upd (bg mm i) i v = bg mm (i + 1) := by
        intro v hv
        funext j
        by_cases hj : j = i
        · subst hj
          rw [pk_us, hv]
          exact (if_pos (by omega)).symm
        · rw [pk_un hj]
          by_cases hl : j < i
          · exact (if_pos hl : bg mm i j = _).trans (if_pos (by omega) : bg mm (i + 1) j = _).symm
          · exact (if_neg hl : bg mm i j = _).trans (if_neg (by omega) : bg mm (i + 1) j = _).symm
      by_cases h1 : i < 1200
      · simp (disch := omega) only [FX7_begins_L2, ↓lm1, n_ofN, l0, l1, l2, l3, l4, l5, l6, l7, l8, l10, l20, l47, l80, l100, l127, l200, l400, l600, l800, l1000, l1200, l1206, l1210, l1222, n_add, n_clamp, n_gd, n_le_t, n_le_f, n_lt_t, n_lt_f, n_eq_t, n_eq_f, n_no, n_on, n_oo, n_olt, n_nlo, n_ole, Option.bind_some, Option.bind_none, Nat.zero_add, if_true, if_false]
        rw [hs (nI 0) (if_neg (by omega)).symm]
      · by_cases h2 : i < 1210
        · simp (disch := omega) only [FX7_begins_L2, ↓lm1, n_ofN, l0, l1, l2, l3, l4, l5, l6, l7, l8, l10, l20, l47, l80, l100, l127, l200, l400, l600, l800, l1000, l1200, l1206, l1210, l1222, n_add, n_clamp, n_gd, n_le_t, n_le_f, n_lt_t, n_lt_f, n_eq_t, n_eq_f, n_no, n_on, n_oo, n_olt, n_nlo, n_ole, Option.bind_some, Option.bind_none, Nat.zero_add, if_true, if_false]
          rw [hs (eO none) (if_pos (by omega)).symm]
        · simp (disch := omega) only [FX7_begins_L2, ↓lm1, n_ofN, l0, l1, l2, l3, l4, l5, l6, l7, l8, l10, l20, l47, l80, l100, l127, l200, l400, l600, l800, l1000, l1200, l1206, l1210, l1222, n_add, n_clamp, n_gd, n_le_t, n_le_f, n_lt_t, n_lt_f, n_eq_t, n_eq_f, n_no, n_on, n_oo, n_olt, n_nlo, n_ole, Option.bind_some, Option.bind_none, Nat.zero_add, if_true, if_false]
          rw [hs (nI 0) (if_neg (by omega)).symm]
    · simp (disch := omega) only [FX7_begins_L2, ↓lm1, n_ofN, l0, l1, l2, l3, l4, l5, l6, l7, l8, l10, l20, l47, l80, l100, l127, l200, l400, l600, l800, l1000, l1200, l1206, l1210, l1222, n_add, n_clamp, n_gd, n_le_t, n_le_f, n_lt_t, n_lt_f, n_eq_t, n_eq_f, n_no, n_on, n_oo, n_olt, n_nlo, n_ole, Option.bind_some, Option.bind_none, Nat.zero_add, if_true, if_false]
  simp (disch := omega) only [FX7_begins, ↓lm1, n_ofN, l0, l1, l2, l3, l4, l5, l6, l7, l8, l10, l20, l47, l80, l100, l127, l200, l400, l600, l800, l1000, l1200, l1206, l1210, l1222, n_add, n_clamp, n_gd, n_le_t, n_le_f, n_lt_t, n_lt_f, n_eq_t, n_eq_f, n_no, n_on, n_oo, n_olt, n_nlo, n_ole, Option.bind_some, Option.bind_none, Nat.zero_add, if_true, if_false, hl]
theorem FX_empty (words depth allocated collections freed : Int32) (owner roots weaks : Nat → Int32) (p1 p2 : Int32) : FX1_empty words depth allocated collections freed owner roots weaks p1 p2 = some (p1, p2, nI 0, nI 0, nI 0, fl owner 0 200 (eO none), fl roots 0 6 (eO none), fl weaks 0 4 (eO none)) := by
  simp (disch := omega) only [FX1_empty, ↓lm1, n_ofN, l0, l1, l2, l3, l4, l5, l6, l7, l8, l10, l20, l47, l80, l100, l127, l200, l400, l600, l800, l1000, l1200, l1206, l1210, l1222, n_add, n_clamp, n_gd, n_le_t, n_le_f, n_lt_t, n_lt_f, n_eq_t, n_eq_f, n_no, n_on, n_oo, n_olt, n_nlo, n_ole, Option.bind_some, Option.bind_none, Nat.zero_add, if_true, if_false, F_fill]
/-- what a new heap is, on both sides -/
theorem new_RH {i : Nat} {mm : Nat → Int32} {w d : Nat} (hw : 8 ≤ w ∧ w ≤ 200) (hd : 1 ≤ d ∧ d ≤ 20) (owner fieldCount dataCount pinned age content roots weaks movedTo reports : Nat → Int32) :
    RH i (nI w, nI d, nI 0, nI 0, nI 0, fl owner 0 200 (eO none), fieldCount, dataCount, pinned, age, content, fl roots 0 6 (eO none), fl weaks 0 4 (eO none), movedTo, reports) (upd (upd (bg mm 1222) 1216 (nI w)) 1217 (nI d)) := by
  have hb : ∀ j, j < 1222 → j ≠ 1216 → j ≠ 1217 → upd (upd (bg mm 1222) 1216 (nI w)) 1217 (nI d) j = if 1200 ≤ j ∧ j < 1210 then eO none else nI 0 := by
    intro j h1 h2 h3
    rw [pk_un h3, pk_un h2]
    exact if_pos h1
  have hz : ∀ a, a < 200 → zs (upd (upd (bg mm 1222) 1216 (nI w)) 1217 (nI d)) a = 0 := by
    intro a ha
    unfold zs
    rw [hb a (by omega) (by omega) (by omega), if_neg (by omega), n_clamp (by omega)]
  have e6 : upd (upd (bg mm 1222) 1216 (nI w)) 1217 (nI d) 1216 = nI w := by rw [pk_un (by omega), pk_us]
  have e7 : upd (upd (bg mm 1222) 1216 (nI w)) 1217 (nI d) 1217 = nI d := pk_us
  have hob : ∀ t, t < 200 → ob (upd (upd (bg mm 1222) 1216 (nI w)) 1217 (nI d)) t = none := by
    intro t ht
    cases e : ob (upd (upd (bg mm 1222) 1216 (nI w)) 1217 (nI d)) t with
    | none => rfl
    | some b =>
      have h1 := ob_in e
      have h2 := h1.1
      have h3 := h1.2
      rw [hz b (by omega)] at h3
      omega
  refine ⟨w, ⟨hw.1, hw.2, e6, ⟨d, hd.1, hd.2, e7⟩, fun a ha => ?_, fun a ha h0 => ?_, fun k hk => Or.inl ?_⟩, ⟨⟨e6.symm, e7.symm, ?_, ?_, ?_⟩, fun t ht => ?_, fun a ha h0 => ?_, fun k hk => ?_, fun k hk => ?_, fun h9 => ?_⟩, ⟨0, by omega, ?_, ?_⟩⟩
  · rw [hz a ha, hb a (by omega) (by omega) (by omega), if_neg (by omega)]
    exact ⟨rfl, by omega⟩
  · rw [hz a ha] at h0; omega
  · rw [hb _ (by omega) (by omega) (by omega), if_pos (by omega)]
  · rw [hb _ (by omega) (by omega) (by omega), if_neg (by omega)]
  · rw [hb _ (by omega) (by omega) (by omega), if_neg (by omega)]
  · rw [hb _ (by omega) (by omega) (by omega), if_neg (by omega)]
  · rw [hob t (by omega), fl_in (by omega) (by omega)]
  · rw [hz a (by omega)] at h0; omega
  · rw [hb _ (by omega) (by omega) (by omega), if_pos (by omega), fl_in (by omega) hk]
  · rw [hb _ (by omega) (by omega) (by omega), if_pos (by omega), fl_in (by omega) hk]
  · rw [hb _ (by omega) (by omega) (by omega), if_neg (by omega)] at h9
    exact absurd h9 (by decide)
  · rw [hb _ (by omega) (by omega) (by omega), if_neg (by omega)]
  · rw [hb _ (by omega) (by omega) (by omega), if_neg (by omega), if_pos rfl]
    rfl
theorem lt_of_neg {p : Int32} {n : Nat} (h : p < nI 0) (hn : n < 2147483648) : p < nI n := by
  rcases Nat.eq_zero_or_pos n with z | z
  · subst z; exact h
  · exact Int32.lt_trans h (nI_lt z (by omega))
theorem sim_reset : Sim_reset Rel := by
  intro i words depth allocated collections freed owner fieldCount dataCount pinned age content roots weaks movedTo reports letters length_ latestRefusal s0 s1 zmm zsaved_ zisSaved ztext ztextLength zrefused p1 p2 hi h
  have hu := h.up
  rcases n_cases p1 with hp | ⟨w, hw, rfl⟩
  · have hp8 := lt_of_neg hp (n := 8) (by omega)
    exact ⟨-1000002, words, depth, allocated, collections, freed, owner, roots, weaks, zmm, by simp (disch := omega) only [FX6_reset, ↓lm1, n_ofN, l0, l1, l2, l3, l4, l5, l6, l7, l8, l10, l20, l47, l80, l100, l127, l200, l400, l600, l800, l1000, l1200, l1206, l1210, l1222, n_add, n_clamp, n_gd, n_le_t, n_le_f, n_lt_t, n_lt_f, n_eq_t, n_eq_f, n_no, n_on, n_oo, n_olt, n_nlo, n_ole, Option.bind_some, Option.bind_none, Nat.zero_add, if_true, if_false, if_pos hp8], by simp (disch := omega) only [FX7_reset, FX7_in, ↓lm1, n_ofN, l0, l1, l2, l3, l4, l5, l6, l7, l8, l10, l20, l47, l80, l100, l127, l200, l400, l600, l800, l1000, l1200, l1206, l1210, l1222, n_add, n_clamp, n_gd, n_le_t, n_le_f, n_lt_t, n_lt_f, n_eq_t, n_eq_f, n_no, n_on, n_oo, n_olt, n_nlo, n_ole, Option.bind_some, Option.bind_none, Nat.zero_add, if_true, if_false, if_pos hp8], hu⟩
  by_cases w8 : 8 ≤ w
  rotate_left
  · exact ⟨-1000002, words, depth, allocated, collections, freed, owner, roots, weaks, zmm, by simp (disch := omega) only [FX6_reset, ↓lm1, n_ofN, l0, l1, l2, l3, l4, l5, l6, l7, l8, l10, l20, l47, l80, l100, l127, l200, l400, l600, l800, l1000, l1200, l1206, l1210, l1222, n_add, n_clamp, n_gd, n_le_t, n_le_f, n_lt_t, n_lt_f, n_eq_t, n_eq_f, n_no, n_on, n_oo, n_olt, n_nlo, n_ole, Option.bind_some, Option.bind_none, Nat.zero_add, if_true, if_false], by simp (disch := omega) only [FX7_reset, FX7_in, ↓lm1, n_ofN, l0, l1, l2, l3, l4, l5, l6, l7, l8, l10, l20, l47, l80, l100, l127, l200, l400, l600, l800, l1000, l1200, l1206, l1210, l1222, n_add, n_clamp, n_gd, n_le_t, n_le_f, n_lt_t, n_lt_f, n_eq_t, n_eq_f, n_no, n_on, n_oo, n_olt, n_nlo, n_ole, Option.bind_some, Option.bind_none, Nat.zero_add, if_true, if_false], hu⟩
  by_cases w2 : w ≤ 200
  rotate_left
  · exact ⟨-1000002, words, depth, allocated, collections, freed, owner, roots, weaks, zmm, by simp (disch := omega) only [FX6_reset, ↓lm1, n_ofN, l0, l1, l2, l3, l4, l5, l6, l7, l8, l10, l20, l47, l80, l100, l127, l200, l400, l600, l800, l1000, l1200, l1206, l1210, l1222, n_add, n_clamp, n_gd, n_le_t, n_le_f, n_lt_t, n_lt_f, n_eq_t, n_eq_f, n_no, n_on, n_oo, n_olt, n_nlo, n_ole, Option.bind_some, Option.bind_none, Nat.zero_add, if_true, if_false], by simp (disch := omega) only [FX7_reset, FX7_in, ↓lm1, n_ofN, l0, l1, l2, l3, l4, l5, l6, l7, l8, l10, l20, l47, l80, l100, l127, l200, l400, l600, l800, l1000, l1200, l1206, l1210, l1222, n_add, n_clamp, n_gd, n_le_t, n_le_f, n_lt_t, n_lt_f, n_eq_t, n_eq_f, n_no, n_on, n_oo, n_olt, n_nlo, n_ole, Option.bind_some, Option.bind_none, Nat.zero_add, if_true, if_false], hu⟩
  rcases n_cases p2 with hp | ⟨d, hd, rfl⟩
  · have hp1 := lt_of_neg hp (n := 1) (by omega)
    exact ⟨-1000002, words, depth, allocated, collections, freed, owner, roots, weaks, zmm, by simp (disch := omega) only [FX6_reset, ↓lm1, n_ofN, l0, l1, l2, l3, l4, l5, l6, l7, l8, l10, l20, l47, l80, l100, l127, l200, l400, l600, l800, l1000, l1200, l1206, l1210, l1222, n_add, n_clamp, n_gd, n_le_t, n_le_f, n_lt_t, n_lt_f, n_eq_t, n_eq_f, n_no, n_on, n_oo, n_olt, n_nlo, n_ole, Option.bind_some, Option.bind_none, Nat.zero_add, if_true, if_false, if_pos hp1], by simp (disch := omega) only [FX7_reset, FX7_in, ↓lm1, n_ofN, l0, l1, l2, l3, l4, l5, l6, l7, l8, l10, l20, l47, l80, l100, l127, l200, l400, l600, l800, l1000, l1200, l1206, l1210, l1222, n_add, n_clamp, n_gd, n_le_t, n_le_f, n_lt_t, n_lt_f, n_eq_t, n_eq_f, n_no, n_on, n_oo, n_olt, n_nlo, n_ole, Option.bind_some, Option.bind_none, Nat.zero_add, if_true, if_false, if_pos hp1], hu⟩
  by_cases d1 : 1 ≤ d
  rotate_left
  · exact ⟨-1000002, words, depth, allocated, collections, freed, owner, roots, weaks, zmm, by simp (disch := omega) only [FX6_reset, ↓lm1, n_ofN, l0, l1, l2, l3, l4, l5, l6, l7, l8, l10, l20, l47, l80, l100, l127, l200, l400, l600, l800, l1000, l1200, l1206, l1210, l1222, n_add, n_clamp, n_gd, n_le_t, n_le_f, n_lt_t, n_lt_f, n_eq_t, n_eq_f, n_no, n_on, n_oo, n_olt, n_nlo, n_ole, Option.bind_some, Option.bind_none, Nat.zero_add, if_true, if_false], by simp (disch := omega) only [FX7_reset, FX7_in, ↓lm1, n_ofN, l0, l1, l2, l3, l4, l5, l6, l7, l8, l10, l20, l47, l80, l100, l127, l200, l400, l600, l800, l1000, l1200, l1206, l1210, l1222, n_add, n_clamp, n_gd, n_le_t, n_le_f, n_lt_t, n_lt_f, n_eq_t, n_eq_f, n_no, n_on, n_oo, n_olt, n_nlo, n_ole, Option.bind_some, Option.bind_none, Nat.zero_add, if_true, if_false], hu⟩
  by_cases d2 : d ≤ 20
  rotate_left
  · exact ⟨-1000002, words, depth, allocated, collections, freed, owner, roots, weaks, zmm, by simp (disch := omega) only [FX6_reset, ↓lm1, n_ofN, l0, l1, l2, l3, l4, l5, l6, l7, l8, l10, l20, l47, l80, l100, l127, l200, l400, l600, l800, l1000, l1200, l1206, l1210, l1222, n_add, n_clamp, n_gd, n_le_t, n_le_f, n_lt_t, n_lt_f, n_eq_t, n_eq_f, n_no, n_on, n_oo, n_olt, n_nlo, n_ole, Option.bind_some, Option.bind_none, Nat.zero_add, if_true, if_false], by simp (disch := omega) only [FX7_reset, FX7_in, ↓lm1, n_ofN, l0, l1, l2, l3, l4, l5, l6, l7, l8, l10, l20, l47, l80, l100, l127, l200, l400, l600, l800, l1000, l1200, l1206, l1210, l1222, n_add, n_clamp, n_gd, n_le_t, n_le_f, n_lt_t, n_lt_f, n_eq_t, n_eq_f, n_no, n_on, n_oo, n_olt, n_nlo, n_ole, Option.bind_some, Option.bind_none, Nat.zero_add, if_true, if_false], hu⟩
  exact ⟨nI w, nI w, nI d, nI 0, nI 0, nI 0, fl owner 0 200 (eO none), fl roots 0 6 (eO none), fl weaks 0 4 (eO none), upd (upd (bg zmm 1222) 1216 (nI w)) 1217 (nI d), by simp (disch := omega) only [FX6_reset, ↓lm1, n_ofN, l0, l1, l2, l3, l4, l5, l6, l7, l8, l10, l20, l47, l80, l100, l127, l200, l400, l600, l800, l1000, l1200, l1206, l1210, l1222, n_add, n_clamp, n_gd, n_le_t, n_le_f, n_lt_t, n_lt_f, n_eq_t, n_eq_f, n_no, n_on, n_oo, n_olt, n_nlo, n_ole, Option.bind_some, Option.bind_none, Nat.zero_add, if_true, if_false, FX_empty], by simp (disch := omega) only [FX7_reset, FX7_in, ↓lm1, n_ofN, l0, l1, l2, l3, l4, l5, l6, l7, l8, l10, l20, l47, l80, l100, l127, l200, l400, l600, l800, l1000, l1200, l1206, l1210, l1222, n_add, n_clamp, n_gd, n_le_t, n_le_f, n_lt_t, n_lt_f, n_eq_t, n_eq_f, n_no, n_on, n_oo, n_olt, n_nlo, n_ole, Option.bind_some, Option.bind_none, Nat.zero_add, if_true, if_false, FM_begins], new_RH ⟨w8, w2⟩ ⟨d1, d2⟩ _ _ _ _ _ _ _ _ _ _, hu.2⟩
theorem sim_init : Sim_init Rel := by
  refine ⟨nI 100, nI 8, nI 0, nI 0, nI 0, fl (fun _ => 0) 0 200 (eO none), fl (fun _ => 0) 0 6 (eO none), fl (fun _ => 0) 0 4 (eO none), upd (upd (bg (fun _ => 0) 1222) 1216 (nI 100)) 1217 (nI 8), ?_, ?_, new_RH ⟨by omega, by omega⟩ ⟨by omega, by omega⟩ _ _ _ _ _ _ _ _ _ _, rfl, rfl, ⟨0, by omega, rfl, rfl, fun j hj => absurd hj (Nat.not_lt_zero _)⟩, rfl⟩
  · exact FX_empty _ _ _ _ _ _ _ _ _ _
  · exact FM_begins _ _ _
