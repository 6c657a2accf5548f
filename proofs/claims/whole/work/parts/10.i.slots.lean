/-! the slots -/
theorem RH.congr {i : Nat} {words depth allocated collections freed : Int32} {owner fieldCount dataCount pinned age content roots weaks movedTo reports : Nat → Int32} {owner' fieldCount' dataCount' pinned' age' content' roots' weaks' movedTo' reports' : Nat → Int32} {mm mm' : Nat → Int32}
    (h : RH i (words, depth, allocated, collections, freed, owner, fieldCount, dataCount, pinned, age, content, roots, weaks, movedTo, reports) mm) (hm : ∀ j, j < 1222 → mm' j = mm j)
    (q1 : ∀ j, j < 200 → owner' j = owner j) (q2 : ∀ j, j < 200 → fieldCount' j = fieldCount j) (q3 : ∀ j, j < 200 → dataCount' j = dataCount j) (q4 : ∀ j, j < 200 → pinned' j = pinned j) (q5 : ∀ j, j < 200 → age' j = age j) (q6 : ∀ j, j < 200 → content' j = content j) (q7 : ∀ j, j < 6 → roots' j = roots j) (q8 : ∀ j, j < 4 → weaks' j = weaks j) (q9 : ∀ j, j < 200 → movedTo' j = movedTo j) (q10 : ∀ j, j < 6 → reports' j = reports j) :
    RH i (words, depth, allocated, collections, freed, owner', fieldCount', dataCount', pinned', age', content', roots', weaks', movedTo', reports') mm' := by
  obtain ⟨W, H, ⟨⟨h1, h2, h3, h4, h5⟩, hO, hA, hR, hK, hM⟩, c, c1, c2, c3⟩ := h
  have hW := H.size
  refine ⟨W, H.congr (fun a ha => hm _ (by omega)) (hm _ (by omega)) (hm _ (by omega)) (fun a ha => hm _ (by omega)) (fun a ha _ => Or.inl (hm _ (by omega))) (fun a ha h0 k k1 k2 => Or.inl (hm _ ?_)) (fun k hk => Or.inl (hm _ (by omega))), ⟨⟨?_, ?_, ?_, ?_, ?_⟩, ?_, ?_, ?_, ?_, ?_⟩, c, c1, ?_, ?_⟩
  · have := (H.hd ha h0).2.2.2.1
    omega
  · rw [hm _ (by omega)]; exact h1
  · rw [hm _ (by omega)]; exact h2
  · rw [hm _ (by omega)]; exact h3
  · rw [hm _ (by omega)]; exact h4
  · rw [hm _ (by omega)]; exact h5
  · intro t ht
    rw [q1 t (by omega), same_ob (mm := mm) (fun a ha => hm _ (by omega)) (by omega)]
    exact hO t ht
  · intro a ha h0
    rw [same_zs (mm := mm) (hm _ (by omega))] at h0 ⊢
    have h9 := H.hd (a := a) (by omega) h0
    obtain ⟨a1, a2, a3, a4, a5⟩ := hA a ha h0
    rw [same_zf (mm := mm) (hm _ (by omega)), hm _ (by omega), hm _ (by omega), hm _ (by omega), q2 a (by omega), q3 a (by omega), q4 a (by omega), q5 a (by omega)]
    refine ⟨a1, a2, a3, a4, fun k k1 k2 => ?_⟩
    rw [hm _ (by omega), q6 _ (by omega)]
    exact a5 k k1 k2
  · intro k hk
    rw [q7 k hk, hm _ (by omega)]
    exact hR k hk
  · intro k hk
    rw [q8 k hk, hm _ (by omega)]
    exact hK k hk
  · rw [hm _ (by omega)]
    intro h9
    refine ⟨fun t ht => ?_, fun k hk => ?_⟩
    · rw [q9 t (by omega), hm _ (by omega)]; exact (hM h9).1 t ht
    · rw [q10 k hk, hm _ (by omega)]; exact (hM h9).2 k hk
  · rw [hm _ (by omega)]; exact c2
  · rw [hm _ (by omega)]; exact c3
theorem RS.congr {i k : Nat} {o : Option HS} {sv isv sv' isv' : Nat → Int32} (h : RS i o sv isv k) (h1 : isv' k = isv k) (h2 : ∀ j, j < 1222 → sv' (1222 * k + j) = sv (1222 * k + j)) : RS i o sv' isv' k := by
  cases o with
  | none => exact h1.trans h
  | some x =>
    obtain ⟨words, depth, allocated, collections, freed, owner, fieldCount, dataCount, pinned, age, content, roots, weaks, movedTo, reports⟩ := x
    exact ⟨h1.trans h.1, RH.congr h.2 h2 (fun _ _ => rfl) (fun _ _ => rfl) (fun _ _ => rfl) (fun _ _ => rfl) (fun _ _ => rfl) (fun _ _ => rfl) (fun _ _ => rfl) (fun _ _ => rfl) (fun _ _ => rfl) (fun _ _ => rfl)⟩
theorem cpin200 : g_cpin (nI 0) (nI 0) (nI 200) 200 200 = true := by decide +kernel
theorem cpin6 : g_cpin (nI 0) (nI 0) (nI 6) 6 6 = true := by decide +kernel
theorem cpin4 : g_cpin (nI 0) (nI 0) (nI 4) 4 4 = true := by decide +kernel
theorem gd_true {α : Type} (x : Option α) : g_gd true x = x := rfl
theorem cpy_in {f g : Nat → Int32} {n j : Nat} (h : j < n) : va_cpy f g 0 0 n j = f j := by
  unfold va_cpy
  rw [if_pos (by omega)]
  congr 1
  omega
theorem FX_copyFrom (words depth allocated collections freed : Int32) (owner fieldCount dataCount pinned age content roots weaks movedTo reports : Nat → Int32) (o_words o_depth o_allocated o_collections o_freed : Int32) (o_owner o_fieldCount o_dataCount o_pinned o_age o_content o_roots o_weaks o_movedTo o_reports : Nat → Int32) :
    FX1_copyFrom words depth allocated collections freed owner fieldCount dataCount pinned age content roots weaks movedTo reports o_words o_depth o_allocated o_collections o_freed o_owner o_fieldCount o_dataCount o_pinned o_age o_content o_roots o_weaks o_movedTo o_reports = some (o_words, o_depth, o_allocated, o_collections, o_freed, va_cpy o_owner owner 0 0 200, va_cpy o_fieldCount fieldCount 0 0 200, va_cpy o_dataCount dataCount 0 0 200, va_cpy o_pinned pinned 0 0 200, va_cpy o_age age 0 0 200, va_cpy o_content content 0 0 200, va_cpy o_roots roots 0 0 6, va_cpy o_weaks weaks 0 0 4, va_cpy o_movedTo movedTo 0 0 200, va_cpy o_reports reports 0 0 6) := by
  simp (disch := omega) only [FX1_copyFrom, ↓lm1, n_ofN, l0, l1, l2, l3, l4, l5, l6, l7, l8, l10, l20, l47, l80, l100, l127, l200, l400, l600, l800, l1000, l1200, l1206, l1210, l1222, n_add, n_clamp, n_gd, n_le_t, n_le_f, n_lt_t, n_lt_f, n_eq_t, n_eq_f, n_no, n_on, n_oo, n_olt, n_nlo, n_ole, Option.bind_some, Option.bind_none, Nat.zero_add, if_true, if_false, cpin200, cpin6, cpin4, gd_true]
/-- a part of a long row, written over -/
def sg (sv mm : Nat → Int32) (b n : Nat) : Nat → Int32 := fun j => if b ≤ j ∧ j < b + n then mm (j - b) else sv j
theorem sg_in {sv mm : Nat → Int32} {b n j : Nat} (h : j < n) : sg sv mm b n (b + j) = mm j := by
  unfold sg
  rw [if_pos (by omega)]
  congr 1
  omega
theorem sg_out {sv mm : Nat → Int32} {b n j : Nat} (h : j < b ∨ b + n ≤ j) : sg sv mm b n j = sv j := if_neg (by omega)
theorem sg_s {sv mm : Nat → Int32} {b i : Nat} : upd (sg sv mm b i) (b + i) (mm i) = sg sv mm b (i + 1) := by
  funext j
  by_cases hj : j = b + i
  · subst hj
    rw [pk_us, sg_in (by omega)]
  · rw [pk_un hj]
    unfold sg
    by_cases h2 : b ≤ j ∧ j < b + i
    · rw [if_pos h2, if_pos (by omega)]
    · rw [if_neg h2, if_neg (by omega)]
theorem sg_0 {sv mm : Nat → Int32} {b : Nat} : sg sv mm b 0 = sv := by
  funext j
  exact sg_out (by omega)
theorem mul_k (k : Nat) : nI 1222 * nI k = nI (1222 * k) := by
  unfold nI
  exact (Int32.ofNat_mul 1222 k).symm
theorem sim_saveB : Sim_saveB Rel := by
  intro i words depth allocated collections freed owner fieldCount dataCount pinned age content roots weaks movedTo reports letters length_ latestRefusal s0 s1 zmm zsaved_ zisSaved ztext ztextLength zrefused p1 hb hi h
  have hu := h.up
  refine ⟨?_, hu⟩
  rcases hb with hb | hb
  · have hb : p1 < nI 0 := hb
    simp (disch := omega) only [FX7_save, FX7_in, ↓lm1, n_ofN, l0, l1, l2, l3, l4, l5, l6, l7, l8, l10, l20, l47, l80, l100, l127, l200, l400, l600, l800, l1000, l1200, l1206, l1210, l1222, n_add, n_clamp, n_gd, n_le_t, n_le_f, n_lt_t, n_lt_f, n_eq_t, n_eq_f, n_no, n_on, n_oo, n_olt, n_nlo, n_ole, Option.bind_some, Option.bind_none, Nat.zero_add, if_true, if_false, if_pos hb]
  · rcases n_cases p1 with hp | ⟨t, ht, rfl⟩
    · simp (disch := omega) only [FX7_save, FX7_in, ↓lm1, n_ofN, l0, l1, l2, l3, l4, l5, l6, l7, l8, l10, l20, l47, l80, l100, l127, l200, l400, l600, l800, l1000, l1200, l1206, l1210, l1222, n_add, n_clamp, n_gd, n_le_t, n_le_f, n_lt_t, n_lt_f, n_eq_t, n_eq_f, n_no, n_on, n_oo, n_olt, n_nlo, n_ole, Option.bind_some, Option.bind_none, Nat.zero_add, if_true, if_false, if_pos hp]
    · have h2 : ¬ t < 2 := fun z => hb (nI_lt (b := 2) z (by omega))
      simp (disch := omega) only [FX7_save, FX7_in, ↓lm1, n_ofN, l0, l1, l2, l3, l4, l5, l6, l7, l8, l10, l20, l47, l80, l100, l127, l200, l400, l600, l800, l1000, l1200, l1206, l1210, l1222, n_add, n_clamp, n_gd, n_le_t, n_le_f, n_lt_t, n_lt_f, n_eq_t, n_eq_f, n_no, n_on, n_oo, n_olt, n_nlo, n_ole, Option.bind_some, Option.bind_none, Nat.zero_add, if_true, if_false]
theorem sim_restoreB : Sim_restoreB Rel := by
  intro i words depth allocated collections freed owner fieldCount dataCount pinned age content roots weaks movedTo reports letters length_ latestRefusal s0 s1 zmm zsaved_ zisSaved ztext ztextLength zrefused p1 hb hi h
  have hu := h.up
  refine ⟨?_, hu⟩
  rcases hb with hb | hb
  · have hb : p1 < nI 0 := hb
    simp (disch := omega) only [FX7_restore, FX7_in, ↓lm1, n_ofN, l0, l1, l2, l3, l4, l5, l6, l7, l8, l10, l20, l47, l80, l100, l127, l200, l400, l600, l800, l1000, l1200, l1206, l1210, l1222, n_add, n_clamp, n_gd, n_le_t, n_le_f, n_lt_t, n_lt_f, n_eq_t, n_eq_f, n_no, n_on, n_oo, n_olt, n_nlo, n_ole, Option.bind_some, Option.bind_none, Nat.zero_add, if_true, if_false, if_pos hb]
  · rcases n_cases p1 with hp | ⟨t, ht, rfl⟩
    · simp (disch := omega) only [FX7_restore, FX7_in, ↓lm1, n_ofN, l0, l1, l2, l3, l4, l5, l6, l7, l8, l10, l20, l47, l80, l100, l127, l200, l400, l600, l800, l1000, l1200, l1206, l1210, l1222, n_add, n_clamp, n_gd, n_le_t, n_le_f, n_lt_t, n_lt_f, n_eq_t, n_eq_f, n_no, n_on, n_oo, n_olt, n_nlo, n_ole, Option.bind_some, Option.bind_none, Nat.zero_add, if_true, if_false, if_pos hp]
    · have h2 : ¬ t < 2 := fun z => hb (nI_lt (b := 2) z (by omega))
      simp (disch := omega) only [FX7_restore, FX7_in, ↓lm1, n_ofN, l0, l1, l2, l3, l4, l5, l6, l7, l8, l10, l20, l47, l80, l100, l127, l200, l400, l600, l800, l1000, l1200, l1206, l1210, l1222, n_add, n_clamp, n_gd, n_le_t, n_le_f, n_lt_t, n_lt_f, n_eq_t, n_eq_f, n_no, n_on, n_oo, n_olt, n_nlo, n_ole, Option.bind_some, Option.bind_none, Nat.zero_add, if_true, if_false]
theorem RS_of {i k : Nat} {s0 s1 o : Option HS} {sv isv : Nat → Int32} (hk : k < 2) (ho : o = if k = 0 then s0 else s1) (h0 : RS i s0 sv isv 0) (h1 : RS i s1 sv isv 1) : RS i o sv isv k := by
  have : k = 0 ∨ k = 1 := by omega
  rcases this with rfl | rfl
  · rw [ho]; exact h0
  · rw [ho]; exact h1
theorem sim_restoreN : Sim_restoreN Rel := by
  intro i words depth allocated collections freed owner fieldCount dataCount pinned age content roots weaks movedTo reports letters length_ latestRefusal s0 s1 zmm zsaved_ zisSaved ztext ztextLength zrefused k hk ho hi h
  have hu := h.up
  have hs := RS_of hk ho h.2.1 h.2.2.1
  have hz : zisSaved k = nI 0 := hs
  exact ⟨by simp (disch := omega) only [FX7_restore, FX7_in, ↓lm1, n_ofN, l0, l1, l2, l3, l4, l5, l6, l7, l8, l10, l20, l47, l80, l100, l127, l200, l400, l600, l800, l1000, l1200, l1206, l1210, l1222, n_add, n_clamp, n_gd, n_le_t, n_le_f, n_lt_t, n_lt_f, n_eq_t, n_eq_f, n_no, n_on, n_oo, n_olt, n_nlo, n_ole, Option.bind_some, Option.bind_none, Nat.zero_add, if_true, if_false, hz], hu⟩
theorem FM_save {mm sv isv : Nat → Int32} {W k : Nat} (H : WF mm W) (hk : k < 2) : FX7_save mm sv isv (nI k) = some (nI (cnt (hdB mm) W), sg sv mm (1222 * k) 1222, upd isv k (nI 1)) := by
  have hl : g_it (FX7_save_L14 mm (nI k)) (nI 0, sv) = some (sg sv mm (1222 * k) 1222) := by
    have h0 : (nI 0, sv) = (fun i => (nI i, sg sv mm (1222 * k) i)) 0 := by
      show (nI 0, sv) = (nI 0, sg sv mm (1222 * k) 0)
      rw [sg_0]
    rw [h0]
    refine it_to (fun i => (nI i, sg sv mm (1222 * k) i)) 0 1222 _ (by omega) (by omega) (fun i _ hi => ?_) ?_
    · simp (disch := omega) only [FX7_save_L14, ↓lm1, n_ofN, l0, l1, l2, l3, l4, l5, l6, l7, l8, l10, l20, l47, l80, l100, l127, l200, l400, l600, l800, l1000, l1200, l1206, l1210, l1222, n_add, n_clamp, n_gd, n_le_t, n_le_f, n_lt_t, n_lt_f, n_eq_t, n_eq_f, n_no, n_on, n_oo, n_olt, n_nlo, n_ole, Option.bind_some, Option.bind_none, Nat.zero_add, if_true, if_false, mul_k, sg_s]
    · simp (disch := omega) only [FX7_save_L14, ↓lm1, n_ofN, l0, l1, l2, l3, l4, l5, l6, l7, l8, l10, l20, l47, l80, l100, l127, l200, l400, l600, l800, l1000, l1200, l1206, l1210, l1222, n_add, n_clamp, n_gd, n_le_t, n_le_f, n_lt_t, n_lt_f, n_eq_t, n_eq_f, n_no, n_on, n_oo, n_olt, n_nlo, n_ole, Option.bind_some, Option.bind_none, Nat.zero_add, if_true, if_false]
  simp (disch := omega) only [FX7_save, FX7_in, ↓lm1, n_ofN, l0, l1, l2, l3, l4, l5, l6, l7, l8, l10, l20, l47, l80, l100, l127, l200, l400, l600, l800, l1000, l1200, l1206, l1210, l1222, n_add, n_clamp, n_gd, n_le_t, n_le_f, n_lt_t, n_lt_f, n_eq_t, n_eq_f, n_no, n_on, n_oo, n_olt, n_nlo, n_ole, Option.bind_some, Option.bind_none, Nat.zero_add, if_true, if_false, hl, FM_many0 H]
theorem sim_save : Sim_save Rel := by
  intro i words depth allocated collections freed owner fieldCount dataCount pinned age content roots weaks movedTo reports letters length_ latestRefusal s0 s1 zmm zsaved_ zisSaved ztext ztextLength zrefused k o o_words o_depth o_allocated o_collections o_freed o_owner o_fieldCount o_dataCount o_pinned o_age o_content o_roots o_weaks o_movedTo o_reports hk ho hz hi h
  have hu := h.up
  obtain ⟨hh, h0, h1, hT, he⟩ := h
  obtain ⟨W, H, hX, hc⟩ := id hh
  have hw : words = nI W := hX.1.1.trans H.hw
  have hn : ∀ j, j < 1222 → sg zsaved_ zmm (1222 * k) 1222 (1222 * k + j) = zmm j := fun j hj => sg_in hj
  have hnew : RS (i + 1) (some (words, depth, allocated, collections, freed, va_cpy owner o_owner 0 0 200, va_cpy fieldCount o_fieldCount 0 0 200, va_cpy dataCount o_dataCount 0 0 200, va_cpy pinned o_pinned 0 0 200, va_cpy age o_age 0 0 200, va_cpy content o_content 0 0 200, va_cpy roots o_roots 0 0 6, va_cpy weaks o_weaks 0 0 4, va_cpy movedTo o_movedTo 0 0 200, va_cpy reports o_reports 0 0 6)) (sg zsaved_ zmm (1222 * k) 1222) (upd zisSaved k (nI 1)) k :=
    ⟨pk_us, RH.congr hh.up hn (fun j hj => cpy_in hj) (fun j hj => cpy_in hj) (fun j hj => cpy_in hj) (fun j hj => cpy_in hj) (fun j hj => cpy_in hj) (fun j hj => cpy_in hj) (fun j hj => cpy_in hj) (fun j hj => cpy_in hj) (fun j hj => cpy_in hj) (fun j hj => cpy_in hj)⟩
  refine ⟨_, _, _, _, _, _, _, _, _, _, _, _, _, _, _, _, _, _, FX_copyFrom _ _ _ _ _ _ _ _ _ _ _ _ _ _ _ _ _ _ _ _ _ _ _ _ _ _ _ _ _ _, ?_, FM_save H hk, ?_⟩
  · rw [hw]
    exact FX_objectCount H hX.2.1
  · have : k = 0 ∨ k = 1 := by omega
    rcases this with rfl | rfl
    · exact ⟨hh.up, hnew, hu.2.2.1.congr (pk_un (by omega)) (fun j hj => sg_out (by omega)), hT, he⟩
    · exact ⟨hh.up, hu.2.1.congr (pk_un (by omega)) (fun j hj => sg_out (by omega)), hnew, hT, he⟩
theorem sim_restore : Sim_restore Rel := by
  intro i words depth allocated collections freed owner fieldCount dataCount pinned age content roots weaks movedTo reports letters length_ latestRefusal s0 s1 zmm zsaved_ zisSaved ztext ztextLength zrefused k o_words o_depth o_allocated o_collections o_freed o_owner o_fieldCount o_dataCount o_pinned o_age o_content o_roots o_weaks o_movedTo o_reports hk ho hi h
  have hu := h.up
  obtain ⟨hh, h0, h1, hT, he⟩ := h
  obtain ⟨hy, hs⟩ := RS_of hk ho h0 h1
  have hn : ∀ j, j < 1222 → sg zmm (fun j => zsaved_ (1222 * k + j)) 0 1222 j = zsaved_ (1222 * k + j) := fun j hj => by
    have := sg_in (sv := zmm) (mm := fun j => zsaved_ (1222 * k + j)) (b := 0) (n := 1222) hj
    rw [Nat.zero_add] at this
    exact this
  have hnew := RH.congr (owner' := va_cpy o_owner owner 0 0 200) (fieldCount' := va_cpy o_fieldCount fieldCount 0 0 200) (dataCount' := va_cpy o_dataCount dataCount 0 0 200) (pinned' := va_cpy o_pinned pinned 0 0 200) (age' := va_cpy o_age age 0 0 200) (content' := va_cpy o_content content 0 0 200) (roots' := va_cpy o_roots roots 0 0 6) (weaks' := va_cpy o_weaks weaks 0 0 4) (movedTo' := va_cpy o_movedTo movedTo 0 0 200) (reports' := va_cpy o_reports reports 0 0 6) hs.up hn (fun j hj => cpy_in hj) (fun j hj => cpy_in hj) (fun j hj => cpy_in hj) (fun j hj => cpy_in hj) (fun j hj => cpy_in hj) (fun j hj => cpy_in hj) (fun j hj => cpy_in hj) (fun j hj => cpy_in hj) (fun j hj => cpy_in hj) (fun j hj => cpy_in hj)
  obtain ⟨W, H, hX, hc⟩ := id hnew
  have hw : o_words = nI W := hX.1.1.trans H.hw
  have hl : g_it (FX7_restore_L26 zsaved_ (nI k)) (nI 0, zmm) = some (sg zmm (fun j => zsaved_ (1222 * k + j)) 0 1222) := by
    have h0 : (nI 0, zmm) = (fun i => (nI i, sg zmm (fun j => zsaved_ (1222 * k + j)) 0 i)) 0 := by
      show (nI 0, zmm) = (nI 0, sg zmm (fun j => zsaved_ (1222 * k + j)) 0 0)
      rw [sg_0]
    rw [h0]
    refine it_to (fun i => (nI i, sg zmm (fun j => zsaved_ (1222 * k + j)) 0 i)) 0 1222 _ (by omega) (by omega) (fun i _ hi => ?_) ?_
    · have hs := sg_s (sv := zmm) (mm := fun j => zsaved_ (1222 * k + j)) (b := 0) (i := i)
      rw [Nat.zero_add] at hs
      simp (disch := omega) only [FX7_restore_L26, ↓lm1, n_ofN, l0, l1, l2, l3, l4, l5, l6, l7, l8, l10, l20, l47, l80, l100, l127, l200, l400, l600, l800, l1000, l1200, l1206, l1210, l1222, n_add, n_clamp, n_gd, n_le_t, n_le_f, n_lt_t, n_lt_f, n_eq_t, n_eq_f, n_no, n_on, n_oo, n_olt, n_nlo, n_ole, Option.bind_some, Option.bind_none, Nat.zero_add, if_true, if_false, mul_k]
      rw [hs]
    · simp (disch := omega) only [FX7_restore_L26, ↓lm1, n_ofN, l0, l1, l2, l3, l4, l5, l6, l7, l8, l10, l20, l47, l80, l100, l127, l200, l400, l600, l800, l1000, l1200, l1206, l1210, l1222, n_add, n_clamp, n_gd, n_le_t, n_le_f, n_lt_t, n_lt_f, n_eq_t, n_eq_f, n_no, n_on, n_oo, n_olt, n_nlo, n_ole, Option.bind_some, Option.bind_none, Nat.zero_add, if_true, if_false]
  have hy1 : zisSaved k = nI 1 := hy
  refine ⟨nI (cnt (hdB (sg zmm (fun j => zsaved_ (1222 * k + j)) 0 1222)) W), _, _, _, _, _, _, _, _, _, _, _, _, _, _, _, sg zmm (fun j => zsaved_ (1222 * k + j)) 0 1222, FX_copyFrom _ _ _ _ _ _ _ _ _ _ _ _ _ _ _ _ _ _ _ _ _ _ _ _ _ _ _ _ _ _, ?_, ?_, hnew, hu.2⟩
  · rw [hw]
    exact FX_objectCount H hX.2.1
  · simp (disch := omega) only [FX7_restore, FX7_in, ↓lm1, n_ofN, l0, l1, l2, l3, l4, l5, l6, l7, l8, l10, l20, l47, l80, l100, l127, l200, l400, l600, l800, l1000, l1200, l1206, l1210, l1222, n_add, n_clamp, n_gd, n_le_t, n_le_f, n_lt_t, n_lt_f, n_eq_t, n_eq_f, n_no, n_on, n_oo, n_olt, n_nlo, n_ole, Option.bind_some, Option.bind_none, Nat.zero_add, if_true, if_false, hy1, hl, FM_many0 H]
