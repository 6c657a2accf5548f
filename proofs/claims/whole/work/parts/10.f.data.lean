theorem sim_setWeak : Sim_setWeak Rel := by
  intro i words depth allocated collections freed owner fieldCount dataCount pinned age content roots weaks movedTo reports letters length_ latestRefusal s0 s1 zmm zsaved_ zisSaved ztext ztextLength zrefused p1 p2 hi h
  have hu := h.up
  obtain ⟨⟨W, H, ⟨⟨rfl, rfl, rfl, rfl, rfl⟩, hO, hA, hR, hK, hM⟩, hc⟩, hS0, hS1, hT, rfl⟩ := h
  have hW := H.size
  have hw := H.hw
  rcases n_cases p1 with hp | ⟨t, ht, rfl⟩
  · exact ⟨-1000002, weaks, zmm, by simp (disch := omega) only [FX6_setWeak, ↓lm1, n_ofN, l0, l1, l2, l3, l4, l5, l6, l7, l8, l10, l20, l47, l80, l100, l127, l200, l400, l600, l800, l1000, l1200, l1206, l1210, l1222, n_add, n_clamp, n_gd, n_le_t, n_le_f, n_lt_t, n_lt_f, n_eq_t, n_eq_f, n_no, n_on, n_oo, n_olt, n_nlo, n_ole, Option.bind_some, Option.bind_none, Nat.zero_add, if_true, if_false, if_pos hp], by simp (disch := omega) only [FX7_setWeak, FX7_in, ↓lm1, n_ofN, l0, l1, l2, l3, l4, l5, l6, l7, l8, l10, l20, l47, l80, l100, l127, l200, l400, l600, l800, l1000, l1200, l1206, l1210, l1222, n_add, n_clamp, n_gd, n_le_t, n_le_f, n_lt_t, n_lt_f, n_eq_t, n_eq_f, n_no, n_on, n_oo, n_olt, n_nlo, n_ole, Option.bind_some, Option.bind_none, Nat.zero_add, if_true, if_false, if_pos hp], hu⟩
  · by_cases hb : t < 4
    · by_cases hr : rfB zmm W p2 = true
      · refine ⟨zmm (1206 + t), upd weaks t p2, upd zmm (1206 + t) p2, by simp (disch := omega) only [FX6_setWeak, FX6_exchange, hw, FX_isReference H hO, if_pos hr, ↓lm1, n_ofN, l0, l1, l2, l3, l4, l5, l6, l7, l8, l10, l20, l47, l80, l100, l127, l200, l400, l600, l800, l1000, l1200, l1206, l1210, l1222, n_add, n_clamp, n_gd, n_le_t, n_le_f, n_lt_t, n_lt_f, n_eq_t, n_eq_f, n_no, n_on, n_oo, n_olt, n_nlo, n_ole, Option.bind_some, Option.bind_none, Nat.zero_add, if_true, if_false, hK t hb], by simp (disch := omega) only [FX7_setWeak, FX7_setsSlot, FX7_in, FM_isReference H, if_pos hr, ↓lm1, n_ofN, l0, l1, l2, l3, l4, l5, l6, l7, l8, l10, l20, l47, l80, l100, l127, l200, l400, l600, l800, l1000, l1200, l1206, l1210, l1222, n_add, n_clamp, n_gd, n_le_t, n_le_f, n_lt_t, n_lt_f, n_eq_t, n_eq_f, n_no, n_on, n_oo, n_olt, n_nlo, n_ole, Option.bind_some, Option.bind_none, Nat.zero_add, if_true, if_false], ⟨W, ?_, ⟨⟨?_, ?_, ?_, ?_, ?_⟩, ?_, ?_, ?_, ?_, ?_⟩, ?_⟩, hu.2⟩
        · refine H.congr (fun a ha => pk_un (by omega)) (pk_un (by omega)) (pk_un (by omega)) (fun a ha => pk_un (by omega)) (fun a ha _ => Or.inl (pk_un (by omega))) (fun a ha h0 k k1 k2 => Or.inl (pk_un ?_)) (fun k hk => ?_)
          · have := (H.hd ha h0).2.2.2.1
            omega
          · by_cases hkt : k = 6 + t
            · subst hkt
              rw [show 1200 + (6 + t) = 1206 + t by omega, pk_us]
              exact Or.inr (rfB_Rf H hr)
            · exact Or.inl (pk_un (by omega))
        all_goals first | exact (pk_un (by omega)).symm | skip
        · exact hO.congr hW.2 (fun a ha => pk_un (by omega))
        · exact hA.congr hW.2 (fun j hj => pk_un (by omega)) H
        · intro k hk
          rw [pk_un (by omega)]
          exact hR k hk
        · intro k hk
          by_cases hkt : k = t
          · subst hkt
            rw [pk_us, pk_us]
          · rw [pk_un hkt, pk_un (by omega)]
            exact hK k hk
        · rw [pk_un (by omega)]
          intro h9
          refine ⟨fun t' ht' => ?_, fun k hk => ?_⟩
          · rw [pk_un (by omega)]; exact (hM h9).1 t' ht'
          · rw [pk_un (by omega)]; exact (hM h9).2 k hk
        · obtain ⟨c, c1, c2, c3⟩ := hc
          exact ⟨c, by omega, (pk_un (by omega)).trans c2, (pk_un (by omega)).trans c3⟩
      · exact ⟨-1000002, weaks, zmm, by simp (disch := omega) only [FX6_setWeak, FX6_exchange, hw, FX_isReference H hO, if_neg hr, ↓lm1, n_ofN, l0, l1, l2, l3, l4, l5, l6, l7, l8, l10, l20, l47, l80, l100, l127, l200, l400, l600, l800, l1000, l1200, l1206, l1210, l1222, n_add, n_clamp, n_gd, n_le_t, n_le_f, n_lt_t, n_lt_f, n_eq_t, n_eq_f, n_no, n_on, n_oo, n_olt, n_nlo, n_ole, Option.bind_some, Option.bind_none, Nat.zero_add, if_true, if_false], by simp (disch := omega) only [FX7_setWeak, FX7_setsSlot, FX7_in, FM_isReference H, if_neg hr, ↓lm1, n_ofN, l0, l1, l2, l3, l4, l5, l6, l7, l8, l10, l20, l47, l80, l100, l127, l200, l400, l600, l800, l1000, l1200, l1206, l1210, l1222, n_add, n_clamp, n_gd, n_le_t, n_le_f, n_lt_t, n_lt_f, n_eq_t, n_eq_f, n_no, n_on, n_oo, n_olt, n_nlo, n_ole, Option.bind_some, Option.bind_none, Nat.zero_add, if_true, if_false], hu⟩
    · exact ⟨-1000002, weaks, zmm, by simp (disch := omega) only [FX6_setWeak, ↓lm1, n_ofN, l0, l1, l2, l3, l4, l5, l6, l7, l8, l10, l20, l47, l80, l100, l127, l200, l400, l600, l800, l1000, l1200, l1206, l1210, l1222, n_add, n_clamp, n_gd, n_le_t, n_le_f, n_lt_t, n_lt_f, n_eq_t, n_eq_f, n_no, n_on, n_oo, n_olt, n_nlo, n_ole, Option.bind_some, Option.bind_none, Nat.zero_add, if_true, if_false], by simp (disch := omega) only [FX7_setWeak, FX7_in, ↓lm1, n_ofN, l0, l1, l2, l3, l4, l5, l6, l7, l8, l10, l20, l47, l80, l100, l127, l200, l400, l600, l800, l1000, l1200, l1206, l1210, l1222, n_add, n_clamp, n_gd, n_le_t, n_le_f, n_lt_t, n_lt_f, n_eq_t, n_eq_f, n_no, n_on, n_oo, n_olt, n_nlo, n_ole, Option.bind_some, Option.bind_none, Nat.zero_add, if_true, if_false], hu⟩

/-- two objects have no word in common -/
theorem apart {mm : Nat → Int32} {W a b : Nat} (H : WF mm W) (ha : a < 200) (hb : b < 200) (h0 : 0 < zs mm a) (h1 : 0 < zs mm b) (hn : a ≠ b) {i j : Nat} (hi : i < zs mm a) (hj : j < zs mm b) : a + i ≠ b + j := by
  intro e
  rcases Nat.lt_or_gt_of_ne hn with h | h
  · have := (H.hd ha h0).2.1 b h (by omega)
    omega
  · have := (H.hd hb h1).2.1 a h (by omega)
    omega
theorem sim_setField : Sim_setField Rel := by
  intro i words depth allocated collections freed owner fieldCount dataCount pinned age content roots weaks movedTo reports letters length_ latestRefusal s0 s1 zmm zsaved_ zisSaved ztext ztextLength zrefused p1 p2 p3 hi h
  have hu := h.up
  obtain ⟨⟨W, H, ⟨⟨rfl, rfl, rfl, rfl, rfl⟩, hO, hA, hR, hK, hM⟩, hc⟩, hS0, hS1, hT, rfl⟩ := h
  have hW := H.size
  have hw := H.hw
  rcases FX_fieldWord H hO (hF_of hA) p1 p2 with ⟨hx, hbad⟩ | ⟨h, k, e, rfl, hk, hx⟩
  · exact ⟨-1000002, content, zmm, by simp (disch := omega) only [FX6_setField, hw, hx, ↓lm1, n_ofN, l0, l1, l2, l3, l4, l5, l6, l7, l8, l10, l20, l47, l80, l100, l127, l200, l400, l600, l800, l1000, l1200, l1206, l1210, l1222, n_add, n_clamp, n_gd, n_le_t, n_le_f, n_lt_t, n_lt_f, n_eq_t, n_eq_f, n_no, n_on, n_oo, n_olt, n_nlo, n_ole, Option.bind_some, Option.bind_none, Nat.zero_add, if_true, if_false], (FM_fieldBad H hbad).2 p3, hu⟩
  · obtain ⟨t, h1, h2, h3, h4, h5⟩ := obI_sm H e
    have h6 := H.hd (a := h) (by omega) h5
    have h7 := (hA h h4 h5).2.2.2.2 (k + 1) (by omega) (by omega)
    have e1 : h + 1 + k = h + (k + 1) := by omega
    have e2 : 800 + h + 1 + k = 800 + h + (k + 1) := by omega
    by_cases hr : rfB zmm W p3 = true
    · refine ⟨zmm (800 + h + (k + 1)), upd content (h + (k + 1)) p3, upd zmm (800 + h + (k + 1)) p3, by simp (disch := omega) only [FX6_setField, FX6_exchange, hw, hx, FX_isReference H hO, if_pos hr, ↓lm1, n_ofN, l0, l1, l2, l3, l4, l5, l6, l7, l8, l10, l20, l47, l80, l100, l127, l200, l400, l600, l800, l1000, l1200, l1206, l1210, l1222, n_add, n_clamp, n_gd, n_le_t, n_le_f, n_lt_t, n_lt_f, n_eq_t, n_eq_f, n_no, n_on, n_oo, n_olt, n_nlo, n_ole, Option.bind_some, Option.bind_none, Nat.zero_add, if_true, if_false, e1, h7], by simp (disch := omega) only [FX7_setField, FX7_in, FM_objectOf H, e, eO_some, ↓lm1, n_ofN, l0, l1, l2, l3, l4, l5, l6, l7, l8, l10, l20, l47, l80, l100, l127, l200, l400, l600, l800, l1000, l1200, l1206, l1210, l1222, n_add, n_clamp, n_gd, n_le_t, n_le_f, n_lt_t, n_lt_f, n_eq_t, n_eq_f, n_no, n_on, n_oo, n_olt, n_nlo, n_ole, Option.bind_some, Option.bind_none, Nat.zero_add, if_true, if_false, h6.2.2.1, n_sub, e2, FM_isReference H, if_pos hr], ⟨W, ?_, ⟨⟨?_, ?_, ?_, ?_, ?_⟩, ?_, ?_, ?_, ?_, ?_⟩, ?_⟩, hu.2⟩
      · refine H.congr (fun a ha => pk_un (by omega)) (pk_un (by omega)) (pk_un (by omega)) (fun a ha => pk_un (by omega)) (fun a ha _ => Or.inl (pk_un (by omega))) (fun a ha h0 k' k1 k2 => ?_) (fun k hk => Or.inl (pk_un (by omega)))
        by_cases hq : 800 + a + k' = 800 + h + (k + 1)
        · rw [hq, pk_us]
          exact Or.inr (rfB_Rf H hr)
        · exact Or.inl (pk_un hq)
      all_goals first | exact (pk_un (by omega)).symm | skip
      · exact hO.congr hW.2 (fun a ha => pk_un (by omega))
      · intro a ha h0
        rw [same_zs (mm := zmm) (pk_un (by omega))] at h0 ⊢
        obtain ⟨a1, a2, a3, a4, a5⟩ := hA a ha h0
        rw [same_zf (mm := zmm) (pk_un (by omega)), pk_un (by omega), pk_un (by omega), pk_un (by omega)]
        refine ⟨a1, a2, a3, a4, fun k' k1 k2 => ?_⟩
        by_cases hq : a + k' = h + (k + 1)
        · rw [hq, show 800 + a + k' = 800 + h + (k + 1) by omega, pk_us, pk_us]
        · rw [pk_un hq, pk_un (by omega)]
          exact a5 k' k1 k2
      · intro k hk
        rw [pk_un (by omega)]
        exact hR k hk
      · intro k hk
        rw [pk_un (by omega)]
        exact hK k hk
      · rw [pk_un (by omega)]
        intro h9
        refine ⟨fun t' ht' => ?_, fun k hk => ?_⟩
        · rw [pk_un (by omega)]; exact (hM h9).1 t' ht'
        · rw [pk_un (by omega)]; exact (hM h9).2 k hk
      · obtain ⟨c, c1, c2, c3⟩ := hc
        exact ⟨c, by omega, (pk_un (by omega)).trans c2, (pk_un (by omega)).trans c3⟩
    · exact ⟨-1000002, content, zmm, by simp (disch := omega) only [FX6_setField, FX6_exchange, hw, hx, FX_isReference H hO, if_neg hr, ↓lm1, n_ofN, l0, l1, l2, l3, l4, l5, l6, l7, l8, l10, l20, l47, l80, l100, l127, l200, l400, l600, l800, l1000, l1200, l1206, l1210, l1222, n_add, n_clamp, n_gd, n_le_t, n_le_f, n_lt_t, n_lt_f, n_eq_t, n_eq_f, n_no, n_on, n_oo, n_olt, n_nlo, n_ole, Option.bind_some, Option.bind_none, Nat.zero_add, if_true, if_false], by simp (disch := omega) only [FX7_setField, FX7_in, FM_objectOf H, e, eO_some, ↓lm1, n_ofN, l0, l1, l2, l3, l4, l5, l6, l7, l8, l10, l20, l47, l80, l100, l127, l200, l400, l600, l800, l1000, l1200, l1206, l1210, l1222, n_add, n_clamp, n_gd, n_le_t, n_le_f, n_lt_t, n_lt_f, n_eq_t, n_eq_f, n_no, n_on, n_oo, n_olt, n_nlo, n_ole, Option.bind_some, Option.bind_none, Nat.zero_add, if_true, if_false, h6.2.2.1, n_sub, FM_isReference H, if_neg hr], hu⟩
theorem FM_dataOf {mm : Nat → Int32} {W h : Nat} (H : WF mm W) (h4 : h < W) (h5 : 0 < zs mm h) : FX7_dataOf mm (nI h) = some (nI (zs mm h - 1 - zf mm h)) := by
  have hW := H.size
  have h6 := H.hd (a := h) (by omega) h5
  have h7 := H.sz (a := h) (by omega)
  simp (disch := omega) only [FX7_dataOf, ↓lm1, n_ofN, l0, l1, l2, l3, l4, l5, l6, l7, l8, l10, l20, l47, l80, l100, l127, l200, l400, l600, l800, l1000, l1200, l1206, l1210, l1222, n_add, n_clamp, n_gd, n_le_t, n_le_f, n_lt_t, n_lt_f, n_eq_t, n_eq_f, n_no, n_on, n_oo, n_olt, n_nlo, n_ole, Option.bind_some, Option.bind_none, Nat.zero_add, if_true, if_false, h7.1, h6.2.2.1, n_sub]
theorem FX_dataWord {mm owner fieldCount dataCount pinned age content : Nat → Int32} {W : Nat} (H : WF mm W) (hO : RO W mm owner) (hA : RA W mm fieldCount dataCount pinned age content) (p1 p2 : Int32) :
    (FX6_dataWord (nI W) owner fieldCount dataCount p1 p2 = some (eO none) ∧ ((obI mm W p1 = none) ∨ ∃ h, obI mm W p1 = some h ∧ (p2 < nI 0 ∨ ∃ k, k < 2147483648 ∧ p2 = nI k ∧ zs mm h - 1 - zf mm h ≤ k))) ∨ ∃ h k, obI mm W p1 = some h ∧ p2 = nI k ∧ k < zs mm h - 1 - zf mm h ∧ FX6_dataWord (nI W) owner fieldCount dataCount p1 p2 = some (nI (h + (1 + zf mm h + k))) := by
  have hW := H.size
  cases e : obI mm W p1 with
  | none => exact Or.inl ⟨by simp (disch := omega) only [FX6_dataWord, FX_objectAt hW.2 hO, e, ↓lm1, n_ofN, l0, l1, l2, l3, l4, l5, l6, l7, l8, l10, l20, l47, l80, l100, l127, l200, l400, l600, l800, l1000, l1200, l1206, l1210, l1222, n_add, n_clamp, n_gd, n_le_t, n_le_f, n_lt_t, n_lt_f, n_eq_t, n_eq_f, n_no, n_on, n_oo, n_olt, n_nlo, n_ole, Option.bind_some, Option.bind_none, Nat.zero_add, if_true, if_false], Or.inl rfl⟩
  | some h =>
    obtain ⟨t, h1, h2, h3, h4, h5⟩ := obI_sm H e
    have h6 := H.hd (a := h) (by omega) h5
    have h8 := H.sz (a := h) (by omega)
    obtain ⟨a1, a2, -⟩ := hA h h4 h5
    rcases n_cases p2 with hp | ⟨k, hk, rfl⟩
    · exact Or.inl ⟨by simp (disch := omega) only [FX6_dataWord, FX_objectAt hW.2 hO, e, eO_some, ↓lm1, n_ofN, l0, l1, l2, l3, l4, l5, l6, l7, l8, l10, l20, l47, l80, l100, l127, l200, l400, l600, l800, l1000, l1200, l1206, l1210, l1222, n_add, n_clamp, n_gd, n_le_t, n_le_f, n_lt_t, n_lt_f, n_eq_t, n_eq_f, n_no, n_on, n_oo, n_olt, n_nlo, n_ole, Option.bind_some, Option.bind_none, Nat.zero_add, if_true, if_false, if_pos hp], Or.inr ⟨h, rfl, Or.inl hp⟩⟩
    · by_cases hb : k < zs mm h - 1 - zf mm h
      · refine Or.inr ⟨h, k, rfl, rfl, hb, ?_⟩
        simp (disch := omega) only [FX6_dataWord, FX_objectAt hW.2 hO, e, eO_some, ↓lm1, n_ofN, l0, l1, l2, l3, l4, l5, l6, l7, l8, l10, l20, l47, l80, l100, l127, l200, l400, l600, l800, l1000, l1200, l1206, l1210, l1222, n_add, n_clamp, n_gd, n_le_t, n_le_f, n_lt_t, n_lt_f, n_eq_t, n_eq_f, n_no, n_on, n_oo, n_olt, n_nlo, n_ole, Option.bind_some, Option.bind_none, Nat.zero_add, if_true, if_false, a1, a2, h6.2.2.1]
        rw [show h + 1 + zf mm h + k = h + (1 + zf mm h + k) by omega]
      · exact Or.inl ⟨by simp (disch := omega) only [FX6_dataWord, FX_objectAt hW.2 hO, e, eO_some, ↓lm1, n_ofN, l0, l1, l2, l3, l4, l5, l6, l7, l8, l10, l20, l47, l80, l100, l127, l200, l400, l600, l800, l1000, l1200, l1206, l1210, l1222, n_add, n_clamp, n_gd, n_le_t, n_le_f, n_lt_t, n_lt_f, n_eq_t, n_eq_f, n_no, n_on, n_oo, n_olt, n_nlo, n_ole, Option.bind_some, Option.bind_none, Nat.zero_add, if_true, if_false, a1, a2, h6.2.2.1], Or.inr ⟨h, rfl, Or.inr ⟨k, hk, rfl, by omega⟩⟩⟩
theorem FM_dataBad {mm : Nat → Int32} {W : Nat} (H : WF mm W) {p1 p2 : Int32} (h : (obI mm W p1 = none) ∨ ∃ h, obI mm W p1 = some h ∧ (p2 < nI 0 ∨ ∃ k, k < 2147483648 ∧ p2 = nI k ∧ zs mm h - 1 - zf mm h ≤ k)) :
    FX7_data mm p1 p2 = some (-1000002) ∧ ∀ p3, FX7_setData mm p1 p2 p3 = some (-1000002, mm) := by
  have hW := H.size
  rcases h with e | ⟨h, e, hp | ⟨k, hk, rfl, hz⟩⟩
  · exact ⟨by simp (disch := omega) only [FX7_data, FM_objectOf H, e, ↓lm1, n_ofN, l0, l1, l2, l3, l4, l5, l6, l7, l8, l10, l20, l47, l80, l100, l127, l200, l400, l600, l800, l1000, l1200, l1206, l1210, l1222, n_add, n_clamp, n_gd, n_le_t, n_le_f, n_lt_t, n_lt_f, n_eq_t, n_eq_f, n_no, n_on, n_oo, n_olt, n_nlo, n_ole, Option.bind_some, Option.bind_none, Nat.zero_add, if_true, if_false], fun p3 => by simp (disch := omega) only [FX7_setData, FM_objectOf H, e, ↓lm1, n_ofN, l0, l1, l2, l3, l4, l5, l6, l7, l8, l10, l20, l47, l80, l100, l127, l200, l400, l600, l800, l1000, l1200, l1206, l1210, l1222, n_add, n_clamp, n_gd, n_le_t, n_le_f, n_lt_t, n_lt_f, n_eq_t, n_eq_f, n_no, n_on, n_oo, n_olt, n_nlo, n_ole, Option.bind_some, Option.bind_none, Nat.zero_add, if_true, if_false]⟩
  · obtain ⟨t, h1, h2, h3, h4, h5⟩ := obI_sm H e
    exact ⟨by simp (disch := omega) only [FX7_data, FX7_in, FM_objectOf H, e, eO_some, FM_dataOf H h4 h5, ↓lm1, n_ofN, l0, l1, l2, l3, l4, l5, l6, l7, l8, l10, l20, l47, l80, l100, l127, l200, l400, l600, l800, l1000, l1200, l1206, l1210, l1222, n_add, n_clamp, n_gd, n_le_t, n_le_f, n_lt_t, n_lt_f, n_eq_t, n_eq_f, n_no, n_on, n_oo, n_olt, n_nlo, n_ole, Option.bind_some, Option.bind_none, Nat.zero_add, if_true, if_false, if_pos hp], fun p3 => by simp (disch := omega) only [FX7_setData, FX7_in, FM_objectOf H, e, eO_some, FM_dataOf H h4 h5, ↓lm1, n_ofN, l0, l1, l2, l3, l4, l5, l6, l7, l8, l10, l20, l47, l80, l100, l127, l200, l400, l600, l800, l1000, l1200, l1206, l1210, l1222, n_add, n_clamp, n_gd, n_le_t, n_le_f, n_lt_t, n_lt_f, n_eq_t, n_eq_f, n_no, n_on, n_oo, n_olt, n_nlo, n_ole, Option.bind_some, Option.bind_none, Nat.zero_add, if_true, if_false, if_pos hp]⟩
  · obtain ⟨t, h1, h2, h3, h4, h5⟩ := obI_sm H e
    have h6 := H.sz (a := h) (by omega)
    rcases Nat.eq_zero_or_pos (zs mm h - 1 - zf mm h) with z0 | z0
    · have h7 : nI (zs mm h - 1 - zf mm h) - nI 1 = eO none := by rw [z0]; decide
      exact ⟨by simp (disch := omega) only [FX7_data, FX7_in, FM_objectOf H, e, eO_some, FM_dataOf H h4 h5, ↓lm1, n_ofN, l0, l1, l2, l3, l4, l5, l6, l7, l8, l10, l20, l47, l80, l100, l127, l200, l400, l600, l800, l1000, l1200, l1206, l1210, l1222, n_add, n_clamp, n_gd, n_le_t, n_le_f, n_lt_t, n_lt_f, n_eq_t, n_eq_f, n_no, n_on, n_oo, n_olt, n_nlo, n_ole, Option.bind_some, Option.bind_none, Nat.zero_add, if_true, if_false, h7], fun p3 => by simp (disch := omega) only [FX7_setData, FX7_in, FM_objectOf H, e, eO_some, FM_dataOf H h4 h5, ↓lm1, n_ofN, l0, l1, l2, l3, l4, l5, l6, l7, l8, l10, l20, l47, l80, l100, l127, l200, l400, l600, l800, l1000, l1200, l1206, l1210, l1222, n_add, n_clamp, n_gd, n_le_t, n_le_f, n_lt_t, n_lt_f, n_eq_t, n_eq_f, n_no, n_on, n_oo, n_olt, n_nlo, n_ole, Option.bind_some, Option.bind_none, Nat.zero_add, if_true, if_false, h7]⟩
    · exact ⟨by simp (disch := omega) only [FX7_data, FX7_in, FM_objectOf H, e, eO_some, FM_dataOf H h4 h5, ↓lm1, n_ofN, l0, l1, l2, l3, l4, l5, l6, l7, l8, l10, l20, l47, l80, l100, l127, l200, l400, l600, l800, l1000, l1200, l1206, l1210, l1222, n_add, n_clamp, n_gd, n_le_t, n_le_f, n_lt_t, n_lt_f, n_eq_t, n_eq_f, n_no, n_on, n_oo, n_olt, n_nlo, n_ole, Option.bind_some, Option.bind_none, Nat.zero_add, if_true, if_false, n_sub], fun p3 => by simp (disch := omega) only [FX7_setData, FX7_in, FM_objectOf H, e, eO_some, FM_dataOf H h4 h5, ↓lm1, n_ofN, l0, l1, l2, l3, l4, l5, l6, l7, l8, l10, l20, l47, l80, l100, l127, l200, l400, l600, l800, l1000, l1200, l1206, l1210, l1222, n_add, n_clamp, n_gd, n_le_t, n_le_f, n_lt_t, n_lt_f, n_eq_t, n_eq_f, n_no, n_on, n_oo, n_olt, n_nlo, n_ole, Option.bind_some, Option.bind_none, Nat.zero_add, if_true, if_false, n_sub]⟩
theorem sim_data : Sim_data Rel := by
  intro i words depth allocated collections freed owner fieldCount dataCount pinned age content roots weaks movedTo reports letters length_ latestRefusal s0 s1 zmm zsaved_ zisSaved ztext ztextLength zrefused p1 p2 hi h
  have hu := h.up
  obtain ⟨⟨W, H, ⟨⟨rfl, rfl, rfl, rfl, rfl⟩, hO, hA, hR, hK, hM⟩, hc⟩, hS0, hS1, hT, rfl⟩ := h
  have hW := H.size
  have hw := H.hw
  rcases FX_dataWord H hO hA p1 p2 with ⟨hx, hbad⟩ | ⟨h, k, e, rfl, hk, hx⟩
  · exact ⟨-1000002, by simp (disch := omega) only [FX6_data, hw, hx, ↓lm1, n_ofN, l0, l1, l2, l3, l4, l5, l6, l7, l8, l10, l20, l47, l80, l100, l127, l200, l400, l600, l800, l1000, l1200, l1206, l1210, l1222, n_add, n_clamp, n_gd, n_le_t, n_le_f, n_lt_t, n_lt_f, n_eq_t, n_eq_f, n_no, n_on, n_oo, n_olt, n_nlo, n_ole, Option.bind_some, Option.bind_none, Nat.zero_add, if_true, if_false], (FM_dataBad H hbad).1, hu⟩
  · obtain ⟨t, h1, h2, h3, h4, h5⟩ := obI_sm H e
    have h6 := H.hd (a := h) (by omega) h5
    have h8 := H.sz (a := h) (by omega)
    have h7 := (hA h h4 h5).2.2.2.2 (1 + zf zmm h + k) (by omega) (by omega)
    have e2 : 800 + h + 1 + zf zmm h + k = 800 + h + (1 + zf zmm h + k) := by omega
    exact ⟨zmm (800 + h + (1 + zf zmm h + k)), by simp (disch := omega) only [FX6_data, hw, hx, ↓lm1, n_ofN, l0, l1, l2, l3, l4, l5, l6, l7, l8, l10, l20, l47, l80, l100, l127, l200, l400, l600, l800, l1000, l1200, l1206, l1210, l1222, n_add, n_clamp, n_gd, n_le_t, n_le_f, n_lt_t, n_lt_f, n_eq_t, n_eq_f, n_no, n_on, n_oo, n_olt, n_nlo, n_ole, Option.bind_some, Option.bind_none, Nat.zero_add, if_true, if_false, h7], by simp (disch := omega) only [FX7_data, FX7_in, FM_objectOf H, e, eO_some, FM_dataOf H h4 h5, ↓lm1, n_ofN, l0, l1, l2, l3, l4, l5, l6, l7, l8, l10, l20, l47, l80, l100, l127, l200, l400, l600, l800, l1000, l1200, l1206, l1210, l1222, n_add, n_clamp, n_gd, n_le_t, n_le_f, n_lt_t, n_lt_f, n_eq_t, n_eq_f, n_no, n_on, n_oo, n_olt, n_nlo, n_ole, Option.bind_some, Option.bind_none, Nat.zero_add, if_true, if_false, h6.2.2.1, n_sub, e2], hu⟩
theorem sim_setData : Sim_setData Rel := by
  intro i words depth allocated collections freed owner fieldCount dataCount pinned age content roots weaks movedTo reports letters length_ latestRefusal s0 s1 zmm zsaved_ zisSaved ztext ztextLength zrefused p1 p2 p3 hi h
  have hu := h.up
  obtain ⟨⟨W, H, ⟨⟨rfl, rfl, rfl, rfl, rfl⟩, hO, hA, hR, hK, hM⟩, hc⟩, hS0, hS1, hT, rfl⟩ := h
  have hW := H.size
  have hw := H.hw
  rcases FX_dataWord H hO hA p1 p2 with ⟨hx, hbad⟩ | ⟨h, k, e, rfl, hk, hx⟩
  · exact ⟨-1000002, content, zmm, by simp (disch := omega) only [FX6_setData, hw, hx, ↓lm1, n_ofN, l0, l1, l2, l3, l4, l5, l6, l7, l8, l10, l20, l47, l80, l100, l127, l200, l400, l600, l800, l1000, l1200, l1206, l1210, l1222, n_add, n_clamp, n_gd, n_le_t, n_le_f, n_lt_t, n_lt_f, n_eq_t, n_eq_f, n_no, n_on, n_oo, n_olt, n_nlo, n_ole, Option.bind_some, Option.bind_none, Nat.zero_add, if_true, if_false], (FM_dataBad H hbad).2 p3, hu⟩
  · obtain ⟨t, h1, h2, h3, h4, h5⟩ := obI_sm H e
    have h6 := H.hd (a := h) (by omega) h5
    have h8 := H.sz (a := h) (by omega)
    have h7 := (hA h h4 h5).2.2.2.2 (1 + zf zmm h + k) (by omega) (by omega)
    have e2 : 800 + h + 1 + zf zmm h + k = 800 + h + (1 + zf zmm h + k) := by omega
    by_cases hl : p3 < (-1000000 : Int32)
    · exact ⟨-1000002, content, zmm, by simp (disch := omega) only [FX6_setData, FX6_exchange, hw, hx, if_pos hl, ↓lm1, n_ofN, l0, l1, l2, l3, l4, l5, l6, l7, l8, l10, l20, l47, l80, l100, l127, l200, l400, l600, l800, l1000, l1200, l1206, l1210, l1222, n_add, n_clamp, n_gd, n_le_t, n_le_f, n_lt_t, n_lt_f, n_eq_t, n_eq_f, n_no, n_on, n_oo, n_olt, n_nlo, n_ole, Option.bind_some, Option.bind_none, Nat.zero_add, if_true, if_false], by simp (disch := omega) only [FX7_setData, FX7_in, FM_objectOf H, e, eO_some, FM_dataOf H h4 h5, if_pos hl, ↓lm1, n_ofN, l0, l1, l2, l3, l4, l5, l6, l7, l8, l10, l20, l47, l80, l100, l127, l200, l400, l600, l800, l1000, l1200, l1206, l1210, l1222, n_add, n_clamp, n_gd, n_le_t, n_le_f, n_lt_t, n_lt_f, n_eq_t, n_eq_f, n_no, n_on, n_oo, n_olt, n_nlo, n_ole, Option.bind_some, Option.bind_none, Nat.zero_add, if_true, if_false, n_sub], hu⟩
    · by_cases hg : p3 ≤ (1000000 : Int32)
      · have hg2 : ¬ (1000000 : Int32) < p3 := Int32.not_lt.mpr hg
        refine ⟨zmm (800 + h + (1 + zf zmm h + k)), upd content (h + (1 + zf zmm h + k)) p3, upd zmm (800 + h + (1 + zf zmm h + k)) p3, by simp (disch := omega) only [FX6_setData, FX6_exchange, hw, hx, if_neg hl, if_pos hg, ↓lm1, n_ofN, l0, l1, l2, l3, l4, l5, l6, l7, l8, l10, l20, l47, l80, l100, l127, l200, l400, l600, l800, l1000, l1200, l1206, l1210, l1222, n_add, n_clamp, n_gd, n_le_t, n_le_f, n_lt_t, n_lt_f, n_eq_t, n_eq_f, n_no, n_on, n_oo, n_olt, n_nlo, n_ole, Option.bind_some, Option.bind_none, Nat.zero_add, if_true, if_false, h7], by simp (disch := omega) only [FX7_setData, FX7_in, FM_objectOf H, e, eO_some, FM_dataOf H h4 h5, if_neg hl, if_neg hg2, ↓lm1, n_ofN, l0, l1, l2, l3, l4, l5, l6, l7, l8, l10, l20, l47, l80, l100, l127, l200, l400, l600, l800, l1000, l1200, l1206, l1210, l1222, n_add, n_clamp, n_gd, n_le_t, n_le_f, n_lt_t, n_lt_f, n_eq_t, n_eq_f, n_no, n_on, n_oo, n_olt, n_nlo, n_ole, Option.bind_some, Option.bind_none, Nat.zero_add, if_true, if_false, h6.2.2.1, n_sub, e2], ⟨W, ?_, ⟨⟨?_, ?_, ?_, ?_, ?_⟩, ?_, ?_, ?_, ?_, ?_⟩, ?_⟩, hu.2⟩
        · refine H.congr (fun a ha => pk_un (by omega)) (pk_un (by omega)) (pk_un (by omega)) (fun a ha => pk_un (by omega)) (fun a ha _ => Or.inl (pk_un (by omega))) (fun a ha h0 k' k1 k2 => Or.inl (pk_un (fun z => ?_))) (fun k hk => Or.inl (pk_un (by omega)))
          have h9 := H.hd ha h0
          by_cases hah : a = h
          · subst hah
            omega
          · exact apart H ha (by omega) h0 h5 hah (i := k') (j := 1 + zf zmm h + k) (by omega) (by omega) (by omega)
        all_goals first | exact (pk_un (by omega)).symm | skip
        · exact hO.congr hW.2 (fun a ha => pk_un (by omega))
        · intro a ha h0
          rw [same_zs (mm := zmm) (pk_un (by omega))] at h0 ⊢
          obtain ⟨a1, a2, a3, a4, a5⟩ := hA a ha h0
          rw [same_zf (mm := zmm) (pk_un (by omega)), pk_un (by omega), pk_un (by omega), pk_un (by omega)]
          refine ⟨a1, a2, a3, a4, fun k' k1 k2 => ?_⟩
          by_cases hq : a + k' = h + (1 + zf zmm h + k)
          · rw [hq, show 800 + a + k' = 800 + h + (1 + zf zmm h + k) by omega, pk_us, pk_us]
          · rw [pk_un hq, pk_un (by omega)]
            exact a5 k' k1 k2
        · intro k hk
          rw [pk_un (by omega)]
          exact hR k hk
        · intro k hk
          rw [pk_un (by omega)]
          exact hK k hk
        · rw [pk_un (by omega)]
          intro h9
          refine ⟨fun t' ht' => ?_, fun k hk => ?_⟩
          · rw [pk_un (by omega)]; exact (hM h9).1 t' ht'
          · rw [pk_un (by omega)]; exact (hM h9).2 k hk
        · obtain ⟨c, c1, c2, c3⟩ := hc
          exact ⟨c, by omega, (pk_un (by omega)).trans c2, (pk_un (by omega)).trans c3⟩
      · have hg2 : (1000000 : Int32) < p3 := Int32.not_le.mp hg
        exact ⟨-1000002, content, zmm, by simp (disch := omega) only [FX6_setData, FX6_exchange, hw, hx, if_neg hl, if_neg hg, ↓lm1, n_ofN, l0, l1, l2, l3, l4, l5, l6, l7, l8, l10, l20, l47, l80, l100, l127, l200, l400, l600, l800, l1000, l1200, l1206, l1210, l1222, n_add, n_clamp, n_gd, n_le_t, n_le_f, n_lt_t, n_lt_f, n_eq_t, n_eq_f, n_no, n_on, n_oo, n_olt, n_nlo, n_ole, Option.bind_some, Option.bind_none, Nat.zero_add, if_true, if_false], by simp (disch := omega) only [FX7_setData, FX7_in, FM_objectOf H, e, eO_some, FM_dataOf H h4 h5, if_neg hl, if_pos hg2, ↓lm1, n_ofN, l0, l1, l2, l3, l4, l5, l6, l7, l8, l10, l20, l47, l80, l100, l127, l200, l400, l600, l800, l1000, l1200, l1206, l1210, l1222, n_add, n_clamp, n_gd, n_le_t, n_le_f, n_lt_t, n_lt_f, n_eq_t, n_eq_f, n_no, n_on, n_oo, n_olt, n_nlo, n_ole, Option.bind_some, Option.bind_none, Nat.zero_add, if_true, if_false, n_sub], hu⟩
