/-! the commands on the heap alone -/
def AN (r : Int32) : Prop := r = -1000002 ∨ r = -1000003 ∨ r = -1000004 ∨ r = eO none ∨ ∃ t, t < 1000 ∧ r = nI t
theorem AN.bad : AN (-1000002) := Or.inl rfl
theorem AN.state : AN (-1000003) := Or.inr (Or.inl rfl)
theorem AN.full : AN (-1000004) := Or.inr (Or.inr (Or.inl rfl))
theorem AN.num {t : Nat} (h : t < 1000) : AN (nI t) := Or.inr (Or.inr (Or.inr (Or.inr ⟨t, h, rfl⟩)))
theorem Rf.an {mm : Nat → Int32} {W : Nat} {x : Int32} (h : Rf mm W x) (hW : W ≤ 200) : AN x := by
  rcases h with h | ⟨t, ht, h, -⟩
  · exact Or.inr (Or.inr (Or.inr (Or.inl h)))
  · rw [h]
    exact AN.num (by omega)
def RK (n : Nat) (h : HS) (mm : Nat → Int32) : Prop := match h with
  | (words, depth, allocated, collections, freed, owner, fieldCount, dataCount, pinned, age, content, roots, weaks, movedTo, reports) => ∃ W, WF mm W ∧ RX W mm words depth allocated collections freed owner fieldCount dataCount pinned age content roots weaks movedTo reports ∧ ∃ c, c ≤ n ∧ mm 1219 = nI c ∧ mm 1221 = if c = 0 then 0 else 1
theorem RK.up {n n' : Nat} {h : HS} {mm : Nat → Int32} (H : RK n h mm) (hn : n ≤ n') : RK n' h mm := by
  obtain ⟨words, depth, allocated, collections, freed, owner, fieldCount, dataCount, pinned, age, content, roots, weaks, movedTo, reports⟩ := h
  obtain ⟨W, h1, h2, c, h3, h4⟩ := H
  exact ⟨W, h1, h2, c, by omega, h4⟩
theorem sam_setRoot (n : Nat) : ∀ (words depth allocated collections freed : Int32) (owner fieldCount dataCount pinned age content roots weaks movedTo reports : Nat → Int32) (zmm : Nat → Int32) (p1 p2 : Int32), RK n (words, depth, allocated, collections, freed, owner, fieldCount, dataCount, pinned, age, content, roots, weaks, movedTo, reports) zmm → ∃ (r0 : Int32) (w_roots : Nat → Int32) (w_zmm : Nat → Int32), FX6_setRoot words owner roots p1 p2 = some (r0, w_roots) ∧ FX7_setRoot zmm p1 p2 = some (r0, w_zmm) ∧ AN r0 ∧ RK n (words, depth, allocated, collections, freed, owner, fieldCount, dataCount, pinned, age, content, w_roots, weaks, movedTo, reports) w_zmm := by
  intro words depth allocated collections freed owner fieldCount dataCount pinned age content roots weaks movedTo reports zmm p1 p2 h
  have hu := h
  obtain ⟨W, H, ⟨⟨rfl, rfl, rfl, rfl, rfl⟩, hO, hA, hR, hK, hM⟩, hc⟩ := h
  have hW := H.size
  have hw := H.hw
  rcases n_cases p1 with hp | ⟨t, ht, rfl⟩
  · exact ⟨-1000002, roots, zmm, by simp (disch := omega) only [FX6_setRoot, ↓lm1, n_ofN, l0, l1, l2, l3, l4, l5, l6, l7, l8, l10, l20, l47, l80, l100, l127, l200, l400, l600, l800, l1000, l1200, l1206, l1210, l1222, n_add, n_clamp, n_gd, n_le_t, n_le_f, n_lt_t, n_lt_f, n_eq_t, n_eq_f, n_no, n_on, n_oo, n_olt, n_nlo, n_ole, Option.bind_some, Option.bind_none, Nat.zero_add, if_true, if_false, if_pos hp], by simp (disch := omega) only [FX7_setRoot, FX7_in, ↓lm1, n_ofN, l0, l1, l2, l3, l4, l5, l6, l7, l8, l10, l20, l47, l80, l100, l127, l200, l400, l600, l800, l1000, l1200, l1206, l1210, l1222, n_add, n_clamp, n_gd, n_le_t, n_le_f, n_lt_t, n_lt_f, n_eq_t, n_eq_f, n_no, n_on, n_oo, n_olt, n_nlo, n_ole, Option.bind_some, Option.bind_none, Nat.zero_add, if_true, if_false, if_pos hp], AN.bad, hu⟩
  · by_cases hb : t < 6
    · by_cases hr : rfB zmm W p2 = true
      · refine ⟨zmm (1200 + t), upd roots t p2, upd zmm (1200 + t) p2, by simp (disch := omega) only [FX6_setRoot, FX6_exchange, hw, FX_isReference H hO, if_pos hr, ↓lm1, n_ofN, l0, l1, l2, l3, l4, l5, l6, l7, l8, l10, l20, l47, l80, l100, l127, l200, l400, l600, l800, l1000, l1200, l1206, l1210, l1222, n_add, n_clamp, n_gd, n_le_t, n_le_f, n_lt_t, n_lt_f, n_eq_t, n_eq_f, n_no, n_on, n_oo, n_olt, n_nlo, n_ole, Option.bind_some, Option.bind_none, Nat.zero_add, if_true, if_false, hR t hb], by simp (disch := omega) only [FX7_setRoot, FX7_setsSlot, FX7_in, FM_isReference H, if_pos hr, ↓lm1, n_ofN, l0, l1, l2, l3, l4, l5, l6, l7, l8, l10, l20, l47, l80, l100, l127, l200, l400, l600, l800, l1000, l1200, l1206, l1210, l1222, n_add, n_clamp, n_gd, n_le_t, n_le_f, n_lt_t, n_lt_f, n_eq_t, n_eq_f, n_no, n_on, n_oo, n_olt, n_nlo, n_ole, Option.bind_some, Option.bind_none, Nat.zero_add, if_true, if_false], (H.rt (by omega)).an hW.2, ⟨W, ?_, ⟨⟨?_, ?_, ?_, ?_, ?_⟩, ?_, ?_, ?_, ?_, ?_⟩, ?_⟩⟩
        · refine H.congr (fun a ha => pk_un (by omega)) (pk_un (by omega)) (pk_un (by omega)) (fun a ha => pk_un (by omega)) (fun a ha _ => Or.inl (pk_un (by omega))) (fun a ha h0 k k1 k2 => Or.inl (pk_un ?_)) (fun k hk => ?_)
          · have := (H.hd ha h0).2.2.2.1
            omega
          · by_cases hkt : k = t
            · subst hkt
              rw [pk_us]
              exact Or.inr (rfB_Rf H hr)
            · exact Or.inl (pk_un (by omega))
        all_goals first | exact (pk_un (by omega)).symm | skip
        · exact hO.congr hW.2 (fun a ha => pk_un (by omega))
        · exact hA.congr hW.2 (fun j hj => pk_un (by omega)) H
        · intro k hk
          by_cases hkt : k = t
          · subst hkt
            rw [pk_us, pk_us]
          · rw [pk_un hkt, pk_un (by omega)]
            exact hR k hk
        · intro k hk
          rw [pk_un (by omega)]
          exact hK k hk
        · rw [pk_un (by omega)]
          intro h9
          refine ⟨fun t' ht' => ?_, fun k hk => ?_⟩
          · rw [pk_un (by omega)]; exact (hM h9).1 t' ht'
          · rw [pk_un (by omega)]; exact (hM h9).2 k hk
        · obtain ⟨c, c1, c2, c3⟩ := hc
          exact ⟨c, by omega, (pk_un (by omega)).trans c2, (pk_un (by omega)).trans c3⟩
      · exact ⟨-1000002, roots, zmm, by simp (disch := omega) only [FX6_setRoot, FX6_exchange, hw, FX_isReference H hO, if_neg hr, ↓lm1, n_ofN, l0, l1, l2, l3, l4, l5, l6, l7, l8, l10, l20, l47, l80, l100, l127, l200, l400, l600, l800, l1000, l1200, l1206, l1210, l1222, n_add, n_clamp, n_gd, n_le_t, n_le_f, n_lt_t, n_lt_f, n_eq_t, n_eq_f, n_no, n_on, n_oo, n_olt, n_nlo, n_ole, Option.bind_some, Option.bind_none, Nat.zero_add, if_true, if_false], by simp (disch := omega) only [FX7_setRoot, FX7_setsSlot, FX7_in, FM_isReference H, if_neg hr, ↓lm1, n_ofN, l0, l1, l2, l3, l4, l5, l6, l7, l8, l10, l20, l47, l80, l100, l127, l200, l400, l600, l800, l1000, l1200, l1206, l1210, l1222, n_add, n_clamp, n_gd, n_le_t, n_le_f, n_lt_t, n_lt_f, n_eq_t, n_eq_f, n_no, n_on, n_oo, n_olt, n_nlo, n_ole, Option.bind_some, Option.bind_none, Nat.zero_add, if_true, if_false], AN.bad, hu⟩
    · exact ⟨-1000002, roots, zmm, by simp (disch := omega) only [FX6_setRoot, ↓lm1, n_ofN, l0, l1, l2, l3, l4, l5, l6, l7, l8, l10, l20, l47, l80, l100, l127, l200, l400, l600, l800, l1000, l1200, l1206, l1210, l1222, n_add, n_clamp, n_gd, n_le_t, n_le_f, n_lt_t, n_lt_f, n_eq_t, n_eq_f, n_no, n_on, n_oo, n_olt, n_nlo, n_ole, Option.bind_some, Option.bind_none, Nat.zero_add, if_true, if_false], by simp (disch := omega) only [FX7_setRoot, FX7_in, ↓lm1, n_ofN, l0, l1, l2, l3, l4, l5, l6, l7, l8, l10, l20, l47, l80, l100, l127, l200, l400, l600, l800, l1000, l1200, l1206, l1210, l1222, n_add, n_clamp, n_gd, n_le_t, n_le_f, n_lt_t, n_lt_f, n_eq_t, n_eq_f, n_no, n_on, n_oo, n_olt, n_nlo, n_ole, Option.bind_some, Option.bind_none, Nat.zero_add, if_true, if_false], AN.bad, hu⟩
theorem sam_setWeak (n : Nat) : ∀ (words depth allocated collections freed : Int32) (owner fieldCount dataCount pinned age content roots weaks movedTo reports : Nat → Int32) (zmm : Nat → Int32) (p1 p2 : Int32), RK n (words, depth, allocated, collections, freed, owner, fieldCount, dataCount, pinned, age, content, roots, weaks, movedTo, reports) zmm → ∃ (r0 : Int32) (w_weaks : Nat → Int32) (w_zmm : Nat → Int32), FX6_setWeak words owner weaks p1 p2 = some (r0, w_weaks) ∧ FX7_setWeak zmm p1 p2 = some (r0, w_zmm) ∧ AN r0 ∧ RK n (words, depth, allocated, collections, freed, owner, fieldCount, dataCount, pinned, age, content, roots, w_weaks, movedTo, reports) w_zmm := by
  intro words depth allocated collections freed owner fieldCount dataCount pinned age content roots weaks movedTo reports zmm p1 p2 h
  have hu := h
  obtain ⟨W, H, ⟨⟨rfl, rfl, rfl, rfl, rfl⟩, hO, hA, hR, hK, hM⟩, hc⟩ := h
  have hW := H.size
  have hw := H.hw
  rcases n_cases p1 with hp | ⟨t, ht, rfl⟩
  · exact ⟨-1000002, weaks, zmm, by simp (disch := omega) only [FX6_setWeak, ↓lm1, n_ofN, l0, l1, l2, l3, l4, l5, l6, l7, l8, l10, l20, l47, l80, l100, l127, l200, l400, l600, l800, l1000, l1200, l1206, l1210, l1222, n_add, n_clamp, n_gd, n_le_t, n_le_f, n_lt_t, n_lt_f, n_eq_t, n_eq_f, n_no, n_on, n_oo, n_olt, n_nlo, n_ole, Option.bind_some, Option.bind_none, Nat.zero_add, if_true, if_false, if_pos hp], by simp (disch := omega) only [FX7_setWeak, FX7_in, ↓lm1, n_ofN, l0, l1, l2, l3, l4, l5, l6, l7, l8, l10, l20, l47, l80, l100, l127, l200, l400, l600, l800, l1000, l1200, l1206, l1210, l1222, n_add, n_clamp, n_gd, n_le_t, n_le_f, n_lt_t, n_lt_f, n_eq_t, n_eq_f, n_no, n_on, n_oo, n_olt, n_nlo, n_ole, Option.bind_some, Option.bind_none, Nat.zero_add, if_true, if_false, if_pos hp], AN.bad, hu⟩
  · by_cases hb : t < 4
    · by_cases hr : rfB zmm W p2 = true
      · refine ⟨zmm (1206 + t), upd weaks t p2, upd zmm (1206 + t) p2, by simp (disch := omega) only [FX6_setWeak, FX6_exchange, hw, FX_isReference H hO, if_pos hr, ↓lm1, n_ofN, l0, l1, l2, l3, l4, l5, l6, l7, l8, l10, l20, l47, l80, l100, l127, l200, l400, l600, l800, l1000, l1200, l1206, l1210, l1222, n_add, n_clamp, n_gd, n_le_t, n_le_f, n_lt_t, n_lt_f, n_eq_t, n_eq_f, n_no, n_on, n_oo, n_olt, n_nlo, n_ole, Option.bind_some, Option.bind_none, Nat.zero_add, if_true, if_false, hK t hb], by simp (disch := omega) only [FX7_setWeak, FX7_setsSlot, FX7_in, FM_isReference H, if_pos hr, ↓lm1, n_ofN, l0, l1, l2, l3, l4, l5, l6, l7, l8, l10, l20, l47, l80, l100, l127, l200, l400, l600, l800, l1000, l1200, l1206, l1210, l1222, n_add, n_clamp, n_gd, n_le_t, n_le_f, n_lt_t, n_lt_f, n_eq_t, n_eq_f, n_no, n_on, n_oo, n_olt, n_nlo, n_ole, Option.bind_some, Option.bind_none, Nat.zero_add, if_true, if_false], (by rw [show 1206 + t = 1200 + (6 + t) by omega]; exact (H.rt (by omega)).an hW.2), ⟨W, ?_, ⟨⟨?_, ?_, ?_, ?_, ?_⟩, ?_, ?_, ?_, ?_, ?_⟩, ?_⟩⟩
        · refine H.congr (fun a ha => pk_un (by omega)) (pk_un (by omega)) (pk_un (by omega)) (fun a ha => pk_un (by omega)) (fun a ha _ => Or.inl (pk_un (by omega))) (fun a ha h0 k k1 k2 => Or.inl (pk_un ?_)) (fun k hk => ?_)
          · have := (H.hd ha h0).2.2.2.1
            omega
          · by_cases hkt : k = 6 + t
            · subst hkt
              rw [show 1200 + (6 + t) = 1206 + t by omega, pk_us]
              exact Or.inr (rfB_Rf H hr)
            · exact Or.inl (pk_un (by omega))
        all_goals first | exact (pk_un (by omega)).symm | skip
        · exact hO.congr hW.2 (fun a ha => pk_un (by omega))
        · exact hA.congr hW.2 (fun j hj => pk_un (by omega)) H
        · intro k hk
          rw [pk_un (by omega)]
          exact hR k hk
        · intro k hk
          by_cases hkt : k = t
          · subst hkt
            rw [pk_us, pk_us]
          · rw [pk_un hkt, pk_un (by omega)]
            exact hK k hk
        · rw [pk_un (by omega)]
          intro h9
          refine ⟨fun t' ht' => ?_, fun k hk => ?_⟩
          · rw [pk_un (by omega)]; exact (hM h9).1 t' ht'
          · rw [pk_un (by omega)]; exact (hM h9).2 k hk
        · obtain ⟨c, c1, c2, c3⟩ := hc
          exact ⟨c, by omega, (pk_un (by omega)).trans c2, (pk_un (by omega)).trans c3⟩
      · exact ⟨-1000002, weaks, zmm, by simp (disch := omega) only [FX6_setWeak, FX6_exchange, hw, FX_isReference H hO, if_neg hr, ↓lm1, n_ofN, l0, l1, l2, l3, l4, l5, l6, l7, l8, l10, l20, l47, l80, l100, l127, l200, l400, l600, l800, l1000, l1200, l1206, l1210, l1222, n_add, n_clamp, n_gd, n_le_t, n_le_f, n_lt_t, n_lt_f, n_eq_t, n_eq_f, n_no, n_on, n_oo, n_olt, n_nlo, n_ole, Option.bind_some, Option.bind_none, Nat.zero_add, if_true, if_false], by simp (disch := omega) only [FX7_setWeak, FX7_setsSlot, FX7_in, FM_isReference H, if_neg hr, ↓lm1, n_ofN, l0, l1, l2, l3, l4, l5, l6, l7, l8, l10, l20, l47, l80, l100, l127, l200, l400, l600, l800, l1000, l1200, l1206, l1210, l1222, n_add, n_clamp, n_gd, n_le_t, n_le_f, n_lt_t, n_lt_f, n_eq_t, n_eq_f, n_no, n_on, n_oo, n_olt, n_nlo, n_ole, Option.bind_some, Option.bind_none, Nat.zero_add, if_true, if_false], AN.bad, hu⟩
    · exact ⟨-1000002, weaks, zmm, by simp (disch := omega) only [FX6_setWeak, ↓lm1, n_ofN, l0, l1, l2, l3, l4, l5, l6, l7, l8, l10, l20, l47, l80, l100, l127, l200, l400, l600, l800, l1000, l1200, l1206, l1210, l1222, n_add, n_clamp, n_gd, n_le_t, n_le_f, n_lt_t, n_lt_f, n_eq_t, n_eq_f, n_no, n_on, n_oo, n_olt, n_nlo, n_ole, Option.bind_some, Option.bind_none, Nat.zero_add, if_true, if_false], by simp (disch := omega) only [FX7_setWeak, FX7_in, ↓lm1, n_ofN, l0, l1, l2, l3, l4, l5, l6, l7, l8, l10, l20, l47, l80, l100, l127, l200, l400, l600, l800, l1000, l1200, l1206, l1210, l1222, n_add, n_clamp, n_gd, n_le_t, n_le_f, n_lt_t, n_lt_f, n_eq_t, n_eq_f, n_no, n_on, n_oo, n_olt, n_nlo, n_ole, Option.bind_some, Option.bind_none, Nat.zero_add, if_true, if_false], AN.bad, hu⟩
theorem sam_setField (n : Nat) : ∀ (words depth allocated collections freed : Int32) (owner fieldCount dataCount pinned age content roots weaks movedTo reports : Nat → Int32) (zmm : Nat → Int32) (p1 p2 p3 : Int32), RK n (words, depth, allocated, collections, freed, owner, fieldCount, dataCount, pinned, age, content, roots, weaks, movedTo, reports) zmm → ∃ (r0 : Int32) (w_content : Nat → Int32) (w_zmm : Nat → Int32), FX6_setField words owner fieldCount content p1 p2 p3 = some (r0, w_content) ∧ FX7_setField zmm p1 p2 p3 = some (r0, w_zmm) ∧ AN r0 ∧ RK n (words, depth, allocated, collections, freed, owner, fieldCount, dataCount, pinned, age, w_content, roots, weaks, movedTo, reports) w_zmm := by
  intro words depth allocated collections freed owner fieldCount dataCount pinned age content roots weaks movedTo reports zmm p1 p2 p3 h
  have hu := h
  obtain ⟨W, H, ⟨⟨rfl, rfl, rfl, rfl, rfl⟩, hO, hA, hR, hK, hM⟩, hc⟩ := h
  have hW := H.size
  have hw := H.hw
  rcases FX_fieldWord H hO (hF_of hA) p1 p2 with ⟨hx, hbad⟩ | ⟨h, k, e, rfl, hk, hx⟩
  · exact ⟨-1000002, content, zmm, by simp (disch := omega) only [FX6_setField, hw, hx, ↓lm1, n_ofN, l0, l1, l2, l3, l4, l5, l6, l7, l8, l10, l20, l47, l80, l100, l127, l200, l400, l600, l800, l1000, l1200, l1206, l1210, l1222, n_add, n_clamp, n_gd, n_le_t, n_le_f, n_lt_t, n_lt_f, n_eq_t, n_eq_f, n_no, n_on, n_oo, n_olt, n_nlo, n_ole, Option.bind_some, Option.bind_none, Nat.zero_add, if_true, if_false], (FM_fieldBad H hbad).2 p3, AN.bad, hu⟩
  · obtain ⟨t, h1, h2, h3, h4, h5⟩ := obI_sm H e
    have h6 := H.hd (a := h) (by omega) h5
    have h7 := (hA h h4 h5).2.2.2.2 (k + 1) (by omega) (by omega)
    have e1 : h + 1 + k = h + (k + 1) := by omega
    have e2 : 800 + h + 1 + k = 800 + h + (k + 1) := by omega
    by_cases hr : rfB zmm W p3 = true
    · refine ⟨zmm (800 + h + (k + 1)), upd content (h + (k + 1)) p3, upd zmm (800 + h + (k + 1)) p3, by simp (disch := omega) only [FX6_setField, FX6_exchange, hw, hx, FX_isReference H hO, if_pos hr, ↓lm1, n_ofN, l0, l1, l2, l3, l4, l5, l6, l7, l8, l10, l20, l47, l80, l100, l127, l200, l400, l600, l800, l1000, l1200, l1206, l1210, l1222, n_add, n_clamp, n_gd, n_le_t, n_le_f, n_lt_t, n_lt_f, n_eq_t, n_eq_f, n_no, n_on, n_oo, n_olt, n_nlo, n_ole, Option.bind_some, Option.bind_none, Nat.zero_add, if_true, if_false, e1, h7], by simp (disch := omega) only [FX7_setField, FX7_in, FM_objectOf H, e, eO_some, ↓lm1, n_ofN, l0, l1, l2, l3, l4, l5, l6, l7, l8, l10, l20, l47, l80, l100, l127, l200, l400, l600, l800, l1000, l1200, l1206, l1210, l1222, n_add, n_clamp, n_gd, n_le_t, n_le_f, n_lt_t, n_lt_f, n_eq_t, n_eq_f, n_no, n_on, n_oo, n_olt, n_nlo, n_ole, Option.bind_some, Option.bind_none, Nat.zero_add, if_true, if_false, h6.2.2.1, n_sub, e2, FM_isReference H, if_pos hr], (H.rf (by omega) h5 (by omega) (by omega)).an hW.2, ⟨W, ?_, ⟨⟨?_, ?_, ?_, ?_, ?_⟩, ?_, ?_, ?_, ?_, ?_⟩, ?_⟩⟩
      · refine H.congr (fun a ha => pk_un (by omega)) (pk_un (by omega)) (pk_un (by omega)) (fun a ha => pk_un (by omega)) (fun a ha _ => Or.inl (pk_un (by omega))) (fun a ha h0 k' k1 k2 => ?_) (fun k hk => Or.inl (pk_un (by omega)))
        by_cases hq : 800 + a + k' = 800 + h + (k + 1)
        · rw [hq, pk_us]
          exact Or.inr (rfB_Rf H hr)
        · exact Or.inl (pk_un hq)
      all_goals first | exact (pk_un (by omega)).symm | skip
      · exact hO.congr hW.2 (fun a ha => pk_un (by omega))
      · intro a ha h0
        rw [same_zs (mm := zmm) (pk_un (by omega))] at h0 ⊢
        obtain ⟨a1, a2, a3, a4, a5⟩ := hA a ha h0
        rw [same_zf (mm := zmm) (pk_un (by omega)), pk_un (by omega), pk_un (by omega), pk_un (by omega)]
        refine ⟨a1, a2, a3, a4, fun k' k1 k2 => ?_⟩
        by_cases hq : a + k' = h + (k + 1)
        · rw [hq, show 800 + a + k' = 800 + h + (k + 1) by omega, pk_us, pk_us]
        · rw [pk_un hq, pk_un (by omega)]
          exact a5 k' k1 k2
      · intro k hk
        rw [pk_un (by omega)]
        exact hR k hk
      · intro k hk
        rw [pk_un (by omega)]
        exact hK k hk
      · rw [pk_un (by omega)]
        intro h9
        refine ⟨fun t' ht' => ?_, fun k hk => ?_⟩
        · rw [pk_un (by omega)]; exact (hM h9).1 t' ht'
        · rw [pk_un (by omega)]; exact (hM h9).2 k hk
      · obtain ⟨c, c1, c2, c3⟩ := hc
        exact ⟨c, by omega, (pk_un (by omega)).trans c2, (pk_un (by omega)).trans c3⟩
    · exact ⟨-1000002, content, zmm, by simp (disch := omega) only [FX6_setField, FX6_exchange, hw, hx, FX_isReference H hO, if_neg hr, ↓lm1, n_ofN, l0, l1, l2, l3, l4, l5, l6, l7, l8, l10, l20, l47, l80, l100, l127, l200, l400, l600, l800, l1000, l1200, l1206, l1210, l1222, n_add, n_clamp, n_gd, n_le_t, n_le_f, n_lt_t, n_lt_f, n_eq_t, n_eq_f, n_no, n_on, n_oo, n_olt, n_nlo, n_ole, Option.bind_some, Option.bind_none, Nat.zero_add, if_true, if_false], by simp (disch := omega) only [FX7_setField, FX7_in, FM_objectOf H, e, eO_some, ↓lm1, n_ofN, l0, l1, l2, l3, l4, l5, l6, l7, l8, l10, l20, l47, l80, l100, l127, l200, l400, l600, l800, l1000, l1200, l1206, l1210, l1222, n_add, n_clamp, n_gd, n_le_t, n_le_f, n_lt_t, n_lt_f, n_eq_t, n_eq_f, n_no, n_on, n_oo, n_olt, n_nlo, n_ole, Option.bind_some, Option.bind_none, Nat.zero_add, if_true, if_false, h6.2.2.1, n_sub, FM_isReference H, if_neg hr], AN.bad, hu⟩
theorem sam_pin (n : Nat) : ∀ (words depth allocated collections freed : Int32) (owner fieldCount dataCount pinned age content roots weaks movedTo reports : Nat → Int32) (zmm : Nat → Int32) (p1 p2 : Int32), RK n (words, depth, allocated, collections, freed, owner, fieldCount, dataCount, pinned, age, content, roots, weaks, movedTo, reports) zmm → ∃ (r0 : Int32) (w_pinned : Nat → Int32) (w_zmm : Nat → Int32), FX6_pin words owner pinned p1 p2 = some (r0, w_pinned) ∧ FX7_pin zmm p1 p2 = some (r0, w_zmm) ∧ AN r0 ∧ RK n (words, depth, allocated, collections, freed, owner, fieldCount, dataCount, w_pinned, age, content, roots, weaks, movedTo, reports) w_zmm := by
  intro words depth allocated collections freed owner fieldCount dataCount pinned age content roots weaks movedTo reports zmm p1 p2 h
  have hu := h
  obtain ⟨W, H, ⟨⟨rfl, rfl, rfl, rfl, rfl⟩, hO, hA, hR, hK, hM⟩, hc⟩ := h
  have hW := H.size
  have hw := H.hw
  cases e : obI zmm W p1 with
  | none => exact ⟨-1000002, pinned, zmm, by simp (disch := omega) only [FX6_pin, hw, FX_objectAt hW.2 hO, e, ↓lm1, n_ofN, l0, l1, l2, l3, l4, l5, l6, l7, l8, l10, l20, l47, l80, l100, l127, l200, l400, l600, l800, l1000, l1200, l1206, l1210, l1222, n_add, n_clamp, n_gd, n_le_t, n_le_f, n_lt_t, n_lt_f, n_eq_t, n_eq_f, n_no, n_on, n_oo, n_olt, n_nlo, n_ole, Option.bind_some, Option.bind_none, Nat.zero_add, if_true, if_false], by simp (disch := omega) only [FX7_pin, FM_objectOf H, e, ↓lm1, n_ofN, l0, l1, l2, l3, l4, l5, l6, l7, l8, l10, l20, l47, l80, l100, l127, l200, l400, l600, l800, l1000, l1200, l1206, l1210, l1222, n_add, n_clamp, n_gd, n_le_t, n_le_f, n_lt_t, n_lt_f, n_eq_t, n_eq_f, n_no, n_on, n_oo, n_olt, n_nlo, n_ole, Option.bind_some, Option.bind_none, Nat.zero_add, if_true, if_false], AN.bad, hu⟩
  | some h =>
    obtain ⟨t, h1, h2, h3, h4, h5⟩ := obI_sm H e
    have h6 := H.hd (a := h) (by omega) h5
    have hN : ∀ a, a < W → 0 < zs zmm a → pinned a = zmm (400 + a) := fun a h1 h2 => (hA a h1 h2).2.2.1
    have hp := hN h h4 h5
    obtain ⟨v, hv, hv2⟩ : ∃ v : Int32, v = (if p2 = nI 0 then nI 0 else nI 1) ∧ (v = nI 0 ∨ v = nI 1) := by
      by_cases q : p2 = nI 0
      · exact ⟨nI 0, by rw [if_pos q], Or.inl rfl⟩
      · exact ⟨nI 1, by rw [if_neg q], Or.inr rfl⟩
    have hv3 : (if p2 = nI 0 then some (nI 0) else some (nI 1)) = some v := by
      rw [hv]
      split <;> rfl
    by_cases q : zmm (400 + h) = v
    · exact ⟨-1000003, pinned, zmm, by simp (disch := omega) only [FX6_pin, hw, FX_objectAt hW.2 hO, e, eO_some, ↓lm1, n_ofN, l0, l1, l2, l3, l4, l5, l6, l7, l8, l10, l20, l47, l80, l100, l127, l200, l400, l600, l800, l1000, l1200, l1206, l1210, l1222, n_add, n_clamp, n_gd, n_le_t, n_le_f, n_lt_t, n_lt_f, n_eq_t, n_eq_f, n_no, n_on, n_oo, n_olt, n_nlo, n_ole, Option.bind_some, Option.bind_none, Nat.zero_add, if_true, if_false, hv3, hp, if_pos q], by simp (disch := omega) only [FX7_pin, FM_objectOf H, e, eO_some, ↓lm1, n_ofN, l0, l1, l2, l3, l4, l5, l6, l7, l8, l10, l20, l47, l80, l100, l127, l200, l400, l600, l800, l1000, l1200, l1206, l1210, l1222, n_add, n_clamp, n_gd, n_le_t, n_le_f, n_lt_t, n_lt_f, n_eq_t, n_eq_f, n_no, n_on, n_oo, n_olt, n_nlo, n_ole, Option.bind_some, Option.bind_none, Nat.zero_add, if_true, if_false, hv3, if_pos q], AN.state, hu⟩
    · have H2 : WF (upd zmm (400 + h) v) W := by
        refine H.congr (fun a ha => pk_un (by omega)) (pk_un (by omega)) (pk_un (by omega)) (fun a ha => pk_un (by omega)) (fun a ha _ => ?_) (fun a ha h0 k k1 k2 => Or.inl (pk_un (by omega))) (fun k hk => Or.inl (pk_un (by omega)))
        by_cases ha2 : a = h
        · subst ha2
          rw [pk_us]
          exact Or.inr hv2
        · exact Or.inl (pk_un (by omega))
      have hs : ∀ a, a < 200 → upd zmm (400 + h) v a = zmm a := fun a ha => pk_un (by omega)
      have hO2 : RO W (upd zmm (400 + h) v) owner := hO.congr hW.2 hs
      have hA2 : RA W (upd zmm (400 + h) v) fieldCount dataCount (upd pinned h v) age content := by
        intro a ha h0
        rw [same_zs (mm := zmm) (pk_un (by omega))] at h0 ⊢
        have h9 := H.hd (a := a) (by omega) h0
        obtain ⟨a1, a2, a3, a4, a5⟩ := hA a ha h0
        rw [same_zf (mm := zmm) (pk_un (by omega)), pk_un (j := 200 + a) (by omega), pk_un (j := 600 + a) (by omega)]
        refine ⟨a1, a2, ?_, a4, fun k' k1 k2 => ?_⟩
        · by_cases ha2 : a = h
          · subst ha2
            rw [pk_us, pk_us]
          · rw [pk_un ha2, pk_un (by omega)]
            exact a3
        · rw [pk_un (by omega)]
          exact a5 k' k1 k2
      have hc1 := FX_pinnedCount H2 hO2 (fun a h1 h2 => (hA2 a h1 h2).2.2.1)
      have hc2 := FM_many1 H2
      refine ⟨nI (cnt (pnB (upd zmm (400 + h) v)) W), upd pinned h v, upd zmm (400 + h) v, by simp (disch := omega) only [FX6_pin, hw, FX_objectAt hW.2 hO, e, eO_some, ↓lm1, n_ofN, l0, l1, l2, l3, l4, l5, l6, l7, l8, l10, l20, l47, l80, l100, l127, l200, l400, l600, l800, l1000, l1200, l1206, l1210, l1222, n_add, n_clamp, n_gd, n_le_t, n_le_f, n_lt_t, n_lt_f, n_eq_t, n_eq_f, n_no, n_on, n_oo, n_olt, n_nlo, n_ole, Option.bind_some, Option.bind_none, Nat.zero_add, if_true, if_false, hv3, hp, if_neg q, hc1], by simp (disch := omega) only [FX7_pin, FM_objectOf H, e, eO_some, ↓lm1, n_ofN, l0, l1, l2, l3, l4, l5, l6, l7, l8, l10, l20, l47, l80, l100, l127, l200, l400, l600, l800, l1000, l1200, l1206, l1210, l1222, n_add, n_clamp, n_gd, n_le_t, n_le_f, n_lt_t, n_lt_f, n_eq_t, n_eq_f, n_no, n_on, n_oo, n_olt, n_nlo, n_ole, Option.bind_some, Option.bind_none, Nat.zero_add, if_true, if_false, hv3, if_neg q, hc2], (AN.num (by have := cnt_le (pnB (upd zmm (400 + h) v)) W; omega)), ⟨W, H2, ⟨⟨?_, ?_, ?_, ?_, ?_⟩, hO2, hA2, ?_, ?_, ?_⟩, ?_⟩⟩
      all_goals first | exact (pk_un (by omega)).symm | skip
      · intro k hk
        rw [pk_un (by omega)]
        exact hR k hk
      · intro k hk
        rw [pk_un (by omega)]
        exact hK k hk
      · rw [pk_un (by omega)]
        intro h9
        refine ⟨fun t' ht' => ?_, fun k hk => ?_⟩
        · rw [pk_un (by omega)]; exact (hM h9).1 t' ht'
        · rw [pk_un (by omega)]; exact (hM h9).2 k hk
      · obtain ⟨c, c1, c2, c3⟩ := hc
        exact ⟨c, by omega, (pk_un (by omega)).trans c2, (pk_un (by omega)).trans c3⟩
theorem sam_alloc (n : Nat) : ∀ (words depth allocated collections freed : Int32) (owner fieldCount dataCount pinned age content roots weaks movedTo reports : Nat → Int32) (zmm : Nat → Int32) (p1 p2 : Int32), RK n (words, depth, allocated, collections, freed, owner, fieldCount, dataCount, pinned, age, content, roots, weaks, movedTo, reports) zmm → ∃ (r0 : Int32) (w_allocated : Int32) (w_owner : Nat → Int32) (w_fieldCount : Nat → Int32) (w_dataCount : Nat → Int32) (w_pinned : Nat → Int32) (w_age : Nat → Int32) (w_content : Nat → Int32) (w_zmm : Nat → Int32), FX6_alloc words allocated owner fieldCount dataCount pinned age content p1 p2 = some (r0, w_allocated, w_owner, w_fieldCount, w_dataCount, w_pinned, w_age, w_content) ∧ FX7_alloc zmm p1 p2 = some (r0, w_zmm) ∧ AN r0 ∧ RK n (words, depth, w_allocated, collections, freed, w_owner, w_fieldCount, w_dataCount, w_pinned, w_age, w_content, roots, weaks, movedTo, reports) w_zmm := by
  intro words depth allocated collections freed owner fieldCount dataCount pinned age content roots weaks movedTo reports zmm p1 p2 h
  have hu := h
  obtain ⟨W, H, ⟨⟨rfl, rfl, rfl, rfl, rfl⟩, hO, hA, hR, hK, hM⟩, hc⟩ := h
  have hW := H.size
  have hw := H.hw
  have bad : (FX6_alloc (zmm 1216) (zmm 1218) owner fieldCount dataCount pinned age content p1 p2 = some (-1000002, zmm 1218, owner, fieldCount, dataCount, pinned, age, content) ∧ FX7_alloc zmm p1 p2 = some (-1000002, zmm)) ∨ ∃ f d, p1 = nI f ∧ p2 = nI d ∧ f ≤ 6 ∧ d ≤ 6 := by
    rcases n_cases p1 with hp | ⟨f, hf, rfl⟩
    · exact Or.inl ⟨by simp (disch := omega) only [FX6_alloc, ↓lm1, n_ofN, l0, l1, l2, l3, l4, l5, l6, l7, l8, l10, l20, l47, l80, l100, l127, l200, l400, l600, l800, l1000, l1200, l1206, l1210, l1222, n_add, n_clamp, n_gd, n_le_t, n_le_f, n_lt_t, n_lt_f, n_eq_t, n_eq_f, n_no, n_on, n_oo, n_olt, n_nlo, n_ole, Option.bind_some, Option.bind_none, Nat.zero_add, if_true, if_false, if_pos hp], by simp (disch := omega) only [FX7_alloc, FX7_in, ↓lm1, n_ofN, l0, l1, l2, l3, l4, l5, l6, l7, l8, l10, l20, l47, l80, l100, l127, l200, l400, l600, l800, l1000, l1200, l1206, l1210, l1222, n_add, n_clamp, n_gd, n_le_t, n_le_f, n_lt_t, n_lt_f, n_eq_t, n_eq_f, n_no, n_on, n_oo, n_olt, n_nlo, n_ole, Option.bind_some, Option.bind_none, Nat.zero_add, if_true, if_false, if_pos hp]⟩
    by_cases f6 : f ≤ 6
    rotate_left
    · exact Or.inl ⟨by simp (disch := omega) only [FX6_alloc, ↓lm1, n_ofN, l0, l1, l2, l3, l4, l5, l6, l7, l8, l10, l20, l47, l80, l100, l127, l200, l400, l600, l800, l1000, l1200, l1206, l1210, l1222, n_add, n_clamp, n_gd, n_le_t, n_le_f, n_lt_t, n_lt_f, n_eq_t, n_eq_f, n_no, n_on, n_oo, n_olt, n_nlo, n_ole, Option.bind_some, Option.bind_none, Nat.zero_add, if_true, if_false], by simp (disch := omega) only [FX7_alloc, FX7_in, ↓lm1, n_ofN, l0, l1, l2, l3, l4, l5, l6, l7, l8, l10, l20, l47, l80, l100, l127, l200, l400, l600, l800, l1000, l1200, l1206, l1210, l1222, n_add, n_clamp, n_gd, n_le_t, n_le_f, n_lt_t, n_lt_f, n_eq_t, n_eq_f, n_no, n_on, n_oo, n_olt, n_nlo, n_ole, Option.bind_some, Option.bind_none, Nat.zero_add, if_true, if_false]⟩
    rcases n_cases p2 with hp | ⟨d, hd, rfl⟩
    · exact Or.inl ⟨by simp (disch := omega) only [FX6_alloc, ↓lm1, n_ofN, l0, l1, l2, l3, l4, l5, l6, l7, l8, l10, l20, l47, l80, l100, l127, l200, l400, l600, l800, l1000, l1200, l1206, l1210, l1222, n_add, n_clamp, n_gd, n_le_t, n_le_f, n_lt_t, n_lt_f, n_eq_t, n_eq_f, n_no, n_on, n_oo, n_olt, n_nlo, n_ole, Option.bind_some, Option.bind_none, Nat.zero_add, if_true, if_false, if_pos hp], by simp (disch := omega) only [FX7_alloc, FX7_in, ↓lm1, n_ofN, l0, l1, l2, l3, l4, l5, l6, l7, l8, l10, l20, l47, l80, l100, l127, l200, l400, l600, l800, l1000, l1200, l1206, l1210, l1222, n_add, n_clamp, n_gd, n_le_t, n_le_f, n_lt_t, n_lt_f, n_eq_t, n_eq_f, n_no, n_on, n_oo, n_olt, n_nlo, n_ole, Option.bind_some, Option.bind_none, Nat.zero_add, if_true, if_false, if_pos hp]⟩
    by_cases d6 : d ≤ 6
    · exact Or.inr ⟨f, d, rfl, rfl, f6, d6⟩
    · exact Or.inl ⟨by simp (disch := omega) only [FX6_alloc, ↓lm1, n_ofN, l0, l1, l2, l3, l4, l5, l6, l7, l8, l10, l20, l47, l80, l100, l127, l200, l400, l600, l800, l1000, l1200, l1206, l1210, l1222, n_add, n_clamp, n_gd, n_le_t, n_le_f, n_lt_t, n_lt_f, n_eq_t, n_eq_f, n_no, n_on, n_oo, n_olt, n_nlo, n_ole, Option.bind_some, Option.bind_none, Nat.zero_add, if_true, if_false], by simp (disch := omega) only [FX7_alloc, FX7_in, ↓lm1, n_ofN, l0, l1, l2, l3, l4, l5, l6, l7, l8, l10, l20, l47, l80, l100, l127, l200, l400, l600, l800, l1000, l1200, l1206, l1210, l1222, n_add, n_clamp, n_gd, n_le_t, n_le_f, n_lt_t, n_lt_f, n_eq_t, n_eq_f, n_no, n_on, n_oo, n_olt, n_nlo, n_ole, Option.bind_some, Option.bind_none, Nat.zero_add, if_true, if_false]⟩
  rcases bad with ⟨b1, b2⟩ | ⟨f, d, rfl, rfl, hf, hd⟩
  · exact ⟨-1000002, zmm 1218, owner, fieldCount, dataCount, pinned, age, content, zmm, b1, b2, AN.bad, hu⟩
  obtain ⟨r, hx, fx⟩ := FX_room (n := 1 + f + d) hW.2 hO (by omega) (by omega)
  obtain ⟨r', fm, hm⟩ := FM_room H (n := 1 + f + d) rfl hf hd (lay zmm f d) (fun b hb => FM_lays (by omega) hf hd (by omega))
  have hrr := fx.uniq fm
  subst hrr
  cases r with
  | none =>
    exact ⟨-1000004, zmm 1218, owner, fieldCount, dataCount, pinned, age, content, zmm, by simp (disch := omega) only [FX6_alloc, ↓lm1, n_ofN, l0, l1, l2, l3, l4, l5, l6, l7, l8, l10, l20, l47, l80, l100, l127, l200, l400, l600, l800, l1000, l1200, l1206, l1210, l1222, n_add, n_clamp, n_gd, n_le_t, n_le_f, n_lt_t, n_lt_f, n_eq_t, n_eq_f, n_no, n_on, n_oo, n_olt, n_nlo, n_ole, Option.bind_some, Option.bind_none, Nat.zero_add, if_true, if_false, hw, hx], by simp (disch := omega) only [FX7_alloc, FX7_in, ↓lm1, n_ofN, l0, l1, l2, l3, l4, l5, l6, l7, l8, l10, l20, l47, l80, l100, l127, l200, l400, l600, l800, l1000, l1200, l1206, l1210, l1222, n_add, n_clamp, n_gd, n_le_t, n_le_f, n_lt_t, n_lt_f, n_eq_t, n_eq_f, n_no, n_on, n_oo, n_olt, n_nlo, n_ole, Option.bind_some, Option.bind_none, Nat.zero_add, if_true, if_false, hm], AN.full, hu⟩
  | some b =>
    obtain ⟨hs, hfr, -⟩ := fx
    have hs2 : b + 1 + f + d ≤ 200 := by omega
    have hB := lay_b (mm := zmm) (b := b) (f := f) (d := d) (by omega) hs2
    have hz : ∀ a, a < 200 → zs (lay zmm f d b) a = if a = b then 1 + f + d else zs zmm a := fun a ha => lay_zs (by omega) hf hd hs2 ha
    refine ⟨nI b, zmm 1218 + nI 1, fl owner b (b + (1 + f + d)) (nI b), upd fieldCount b (nI f), upd dataCount b (nI d), upd pinned b (nI 0), upd age b (nI 0), fl (fl content (b + 1) (b + 1 + f) (eO none)) (b + 1 + f) (b + 1 + f + d) (nI 0), lay zmm f d b, by simp (disch := omega) only [FX6_alloc, ↓lm1, n_ofN, l0, l1, l2, l3, l4, l5, l6, l7, l8, l10, l20, l47, l80, l100, l127, l200, l400, l600, l800, l1000, l1200, l1206, l1210, l1222, n_add, n_clamp, n_gd, n_le_t, n_le_f, n_lt_t, n_lt_f, n_eq_t, n_eq_f, n_no, n_on, n_oo, n_olt, n_nlo, n_ole, Option.bind_some, Option.bind_none, Nat.zero_add, if_true, if_false, hw, hx, eO_some, FX_place (b := b) (f := f) (d := d) (by omega) hf hd hs2], by simp (disch := omega) only [FX7_alloc, FX7_in, ↓lm1, n_ofN, l0, l1, l2, l3, l4, l5, l6, l7, l8, l10, l20, l47, l80, l100, l127, l200, l400, l600, l800, l1000, l1200, l1206, l1210, l1222, n_add, n_clamp, n_gd, n_le_t, n_le_f, n_lt_t, n_lt_f, n_eq_t, n_eq_f, n_no, n_on, n_oo, n_olt, n_nlo, n_ole, Option.bind_some, Option.bind_none, Nat.zero_add, if_true, if_false, hm], (AN.num (by omega)), ⟨W, lay_WF H hf hd hs hfr, ⟨⟨?_, ?_, ?_, ?_, ?_⟩, ?_, ?_, ?_, ?_, ?_⟩, ?_⟩⟩
    · exact (lay_ot (by omega) hs2 (by omega)).symm
    · exact (lay_ot (by omega) hs2 (by omega)).symm
    · exact hB.2.2.2.2.1.symm
    · exact (lay_ot (by omega) hs2 (by omega)).symm
    · exact (lay_ot (by omega) hs2 (by omega)).symm
    · intro t ht
      rw [lay_ob H hf hd hs hfr (by omega)]
      by_cases hin : b ≤ t ∧ t < b + (1 + f + d)
      · rw [if_pos hin, fl_in hin.1 hin.2, eO_some]
      · rw [if_neg hin, fl_out (by omega)]
        exact hO t ht
    · intro a ha h0
      rw [hz a (by omega)] at h0 ⊢
      by_cases hab : a = b
      · subst hab
        have ezf : zf (lay zmm f d a) a = f := by
          unfold zf
          rw [hB.2.1, n_clamp (by omega)]
        rw [ezf, if_pos rfl, pk_us, pk_us, pk_us, pk_us]
        refine ⟨hB.2.1.symm, ?_, hB.2.2.1.symm, hB.2.2.2.1.symm, fun k k1 k2 => ?_⟩
        · rw [show 1 + f + d - 1 - f = d by omega]
        · by_cases hk : k ≤ f
          · rw [fl_out (by omega), fl_in (by omega) (by omega), hB.2.2.2.2.2.1 k k1 hk]
          · rw [fl_in (by omega) (by omega), hB.2.2.2.2.2.2 k (by omega) (by omega)]
      · rw [if_neg hab] at h0 ⊢
        have h9 := H.hd (a := a) (by omega) h0
        have ezf : zf (lay zmm f d b) a = zf zmm a := same_zf (lay_ot (by omega) hs2 (by omega))
        have hap : ∀ i j, i < zs zmm a → j < 1 + f + d → a + i ≠ b + j := fun i j hi hj z => by
          have := hfr j hj
          rw [← z, ob_of H (h := a) (by omega) ⟨by omega, by omega⟩] at this
          cases this
        obtain ⟨a1, a2, a3, a4, a5⟩ := hA a ha h0
        rw [ezf, pk_un hab, pk_un hab, pk_un hab, pk_un hab, lay_ot (by omega) hs2 (by omega), lay_ot (by omega) hs2 (by omega), lay_ot (by omega) hs2 (by omega)]
        refine ⟨a1, a2, a3, a4, fun k k1 k2 => ?_⟩
        have hin : ¬ (b + 1 ≤ a + k ∧ a + k < b + 1 + f + d) := fun z => hap k (a + k - b) (by omega) (by omega) (by omega)
        rw [lay_ot (by omega) hs2 (by omega), fl_out (by omega), fl_out (by omega)]
        exact a5 k k1 k2
    · intro k hk
      rw [lay_ot (by omega) hs2 (by omega)]
      exact hR k hk
    · intro k hk
      rw [lay_ot (by omega) hs2 (by omega)]
      exact hK k hk
    · rw [lay_ot (by omega) hs2 (by omega)]
      intro h9
      refine ⟨fun t ht => ?_, fun k hk => ?_⟩
      · rw [lay_ot (by omega) hs2 (by omega)]; exact (hM h9).1 t ht
      · rw [lay_ot (by omega) hs2 (by omega)]; exact (hM h9).2 k hk
    · obtain ⟨c, c1, c2, c3⟩ := hc
      exact ⟨c, by omega, (lay_ot (by omega) hs2 (by omega)).trans c2, (lay_ot (by omega) hs2 (by omega)).trans c3⟩
