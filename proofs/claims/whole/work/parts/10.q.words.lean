/-! words: in use, live -/
def ocB (mm : Nat → Int32) (a : Nat) : Bool := (ob mm a).isSome
theorem cnt_all {p : Nat → Bool} {a : Nat} : ∀ (n : Nat), (∀ i, i < n → p (a + i) = true) → cnt p (a + n) = cnt p a + n
  | 0, _ => rfl
  | n + 1, h => by
    rw [show a + (n + 1) = a + n + 1 by omega, cnt_t (h n (by omega)), cnt_all n (fun i hi => h i (by omega))]
    omega
theorem sm_zero {f : Nat → Nat} {a : Nat} : ∀ (n : Nat), (∀ i, i < n → f (a + i) = 0) → sm f (a + n) = sm f a
  | 0, _ => rfl
  | n + 1, h => by
    show sm f (a + n) + f (a + n) = _
    rw [sm_zero n (fun i hi => h i (by omega)), h n (by omega)]
    omega
theorem occ_eq {mm : Nat → Int32} {W : Nat} (H : WF mm W) : ∀ (k a : Nat), a ≤ W → Bd mm a → W - a < k → cnt (ocB mm) a = sm (zs mm) a → cnt (ocB mm) W = sm (zs mm) W
  | 0, a, _, _, h, _ => absurd h (Nat.not_lt_zero _)
  | k + 1, a, ha, hb, hk, e => by
    have hW := H.size
    by_cases haW : a < W
    · by_cases h0 : zs mm a = 0
      · refine occ_eq H k (a + 1) (by omega) (fun h hh => ?_) (by omega) ?_
        · by_cases h1 : h < a
          · have := hb h h1
            omega
          · have : h = a := by omega
            subst this
            omega
        · have h1 : ocB mm a = false := by
            have := ob_bd (n := 0) hb (fun i hi => by rw [show a + i = a by omega]; exact h0)
            rw [Nat.add_zero] at this
            simp [ocB, this]
          rw [cnt_f h1, e]
          show _ = sm (zs mm) a + zs mm a
          omega
      · have h0 : 0 < zs mm a := by omega
        have h6 := H.hd (a := a) (by omega) h0
        have hn := bd_next (r := 0) H hb (fun i hi => by omega) h0 (by omega)
        rw [Nat.add_zero] at hn
        refine occ_eq H k (a + zs mm a) (by omega) hn (by omega) ?_
        rw [cnt_all (zs mm a) (fun i hi => by simp [ocB, ob_of H (by omega : a < 200) (show In mm a (a + i) from ⟨by omega, by omega⟩)]), e]
        rw [show a + zs mm a = (a + 1) + (zs mm a - 1) by omega, sm_zero (zs mm a - 1) (fun i hi => h6.2.1 _ (by omega) (by omega))]
        show _ = sm (zs mm) a + zs mm a
        rfl
    · have : a = W := by omega
      subst this
      exact e
theorem FX_used {mm owner : Nat → Int32} {W : Nat} (H : WF mm W) (hO : RO W mm owner) : FX1_usedWords (nI W) owner = some (nI (sm (zs mm) W)) := by
  have hW := H.size
  rw [← occ_eq H (W + 1) 0 (by omega) (bd_0 mm) (by omega) rfl]
  have hl : g_it (FX1_usedWords_L4 (nI W) owner) (nI 0, nI 0) = some (nI (cnt (ocB mm) W)) := by
    refine it_to (fun i => (nI (cnt (ocB mm) i), nI i)) 0 W _ (by omega) (by omega) (fun i _ hi => ?_) ?_
    · cases e : ob mm i with
      | none => simp (disch := omega) only [FX1_usedWords_L4, hO i hi, e, cnt_f (p := ocB mm) (n := i) (by simp [ocB, e]), ↓lm1, n_ofN, l0, l1, l2, l3, l4, l5, l6, l7, l8, l10, l20, l47, l80, l100, l127, l200, l400, l600, l800, l1000, l1200, l1206, l1210, l1222, n_add, n_clamp, n_gd, n_le_t, n_le_f, n_lt_t, n_lt_f, n_eq_t, n_eq_f, n_no, n_on, n_oo, n_olt, n_nlo, n_ole, Option.bind_some, Option.bind_none, Nat.zero_add, if_true, if_false]
      | some h =>
        have := ob_lt e
        simp (disch := omega) only [FX1_usedWords_L4, hO i hi, e, eO_some, cnt_t (p := ocB mm) (n := i) (by simp [ocB, e]), ↓lm1, n_ofN, l0, l1, l2, l3, l4, l5, l6, l7, l8, l10, l20, l47, l80, l100, l127, l200, l400, l600, l800, l1000, l1200, l1206, l1210, l1222, n_add, n_clamp, n_gd, n_le_t, n_le_f, n_lt_t, n_lt_f, n_eq_t, n_eq_f, n_no, n_on, n_oo, n_olt, n_nlo, n_ole, Option.bind_some, Option.bind_none, Nat.zero_add, if_true, if_false]
    · simp (disch := omega) only [FX1_usedWords_L4, ↓lm1, n_ofN, l0, l1, l2, l3, l4, l5, l6, l7, l8, l10, l20, l47, l80, l100, l127, l200, l400, l600, l800, l1000, l1200, l1206, l1210, l1222, n_add, n_clamp, n_gd, n_le_t, n_le_f, n_lt_t, n_lt_f, n_eq_t, n_eq_f, n_no, n_on, n_oo, n_olt, n_nlo, n_ole, Option.bind_some, Option.bind_none, Nat.zero_add, if_true, if_false]
  simp (disch := omega) only [FX1_usedWords, ↓lm1, n_ofN, l0, l1, l2, l3, l4, l5, l6, l7, l8, l10, l20, l47, l80, l100, l127, l200, l400, l600, l800, l1000, l1200, l1206, l1210, l1222, n_add, n_clamp, n_gd, n_le_t, n_le_f, n_lt_t, n_lt_f, n_eq_t, n_eq_f, n_no, n_on, n_oo, n_olt, n_nlo, n_ole, Option.bind_some, Option.bind_none, Nat.zero_add, if_true, if_false, hl]
theorem FM_used {mm : Nat → Int32} {W : Nat} (H : WF mm W) : FX7_occupied mm = some (nI (sm (zs mm) W)) := by
  have hW := H.size
  have hl : g_it (FX7_occupied_L4 mm) (nI 0, nI 0) = some (nI (sm (zs mm) W)) := by
    refine it_to (fun i => (nI (sm (zs mm) i), nI i)) 0 W _ (by omega) (by omega) (fun i _ hi => ?_) ?_
    · have hz := H.sz (a := i) (by omega)
      simp (disch := omega) only [FX7_occupied_L4, H.hw, hz.1, ↓lm1, n_ofN, l0, l1, l2, l3, l4, l5, l6, l7, l8, l10, l20, l47, l80, l100, l127, l200, l400, l600, l800, l1000, l1200, l1206, l1210, l1222, n_add, n_clamp, n_gd, n_le_t, n_le_f, n_lt_t, n_lt_f, n_eq_t, n_eq_f, n_no, n_on, n_oo, n_olt, n_nlo, n_ole, Option.bind_some, Option.bind_none, Nat.zero_add, if_true, if_false, sm]
    · simp (disch := omega) only [FX7_occupied_L4, H.hw, ↓lm1, n_ofN, l0, l1, l2, l3, l4, l5, l6, l7, l8, l10, l20, l47, l80, l100, l127, l200, l400, l600, l800, l1000, l1200, l1206, l1210, l1222, n_add, n_clamp, n_gd, n_le_t, n_le_f, n_lt_t, n_lt_f, n_eq_t, n_eq_f, n_no, n_on, n_oo, n_olt, n_nlo, n_ole, Option.bind_some, Option.bind_none, Nat.zero_add, if_true, if_false]
  simp (disch := omega) only [FX7_occupied, ↓lm1, n_ofN, l0, l1, l2, l3, l4, l5, l6, l7, l8, l10, l20, l47, l80, l100, l127, l200, l400, l600, l800, l1000, l1200, l1206, l1210, l1222, n_add, n_clamp, n_gd, n_le_t, n_le_f, n_lt_t, n_lt_f, n_eq_t, n_eq_f, n_no, n_on, n_oo, n_olt, n_nlo, n_ole, Option.bind_some, Option.bind_none, Nat.zero_add, if_true, if_false, hl]
theorem FX_live {mm fieldCount dataCount pinned age content steps queue : Nat → Int32} {W n : Nat} {wo : Option Nat} (H : WF mm W) (hA : RA W mm fieldCount dataCount pinned age content) (X : XQ mm W wo n steps queue) : FX3_liveWords (nI n) queue fieldCount dataCount = some (nI (live mm steps W)) := by
  have hW := H.size
  have hle := X.le
  rw [← X.2.2.2.1]
  have hl : g_it (FX3_liveWords_L4 (nI n) queue fieldCount dataCount) (nI 0, nI 0) = some (nI (sm (qz mm queue) n)) := by
    refine it_to (fun i => (nI (sm (qz mm queue) i), nI i)) 0 n _ (by omega) (by omega) (fun i _ hi => ?_) ?_
    · obtain ⟨h, d, a1, a2, a3, a4, a5⟩ := X.1 i hi
      have e : qz mm queue i = zs mm h := by
        unfold qz
        rw [a3, n_clamp (by omega)]
      simp (disch := omega) only [FX3_liveWords_L4, a3, FX_sizeOf H hA a1 (a5.1.hd H).2, ↓lm1, n_ofN, l0, l1, l2, l3, l4, l5, l6, l7, l8, l10, l20, l47, l80, l100, l127, l200, l400, l600, l800, l1000, l1200, l1206, l1210, l1222, n_add, n_clamp, n_gd, n_le_t, n_le_f, n_lt_t, n_lt_f, n_eq_t, n_eq_f, n_no, n_on, n_oo, n_olt, n_nlo, n_ole, Option.bind_some, Option.bind_none, Nat.zero_add, if_true, if_false, sm, e]
    · simp (disch := omega) only [FX3_liveWords_L4, ↓lm1, n_ofN, l0, l1, l2, l3, l4, l5, l6, l7, l8, l10, l20, l47, l80, l100, l127, l200, l400, l600, l800, l1000, l1200, l1206, l1210, l1222, n_add, n_clamp, n_gd, n_le_t, n_le_f, n_lt_t, n_lt_f, n_eq_t, n_eq_f, n_no, n_on, n_oo, n_olt, n_nlo, n_ole, Option.bind_some, Option.bind_none, Nat.zero_add, if_true, if_false]
  simp (disch := omega) only [FX3_liveWords, ↓lm1, n_ofN, l0, l1, l2, l3, l4, l5, l6, l7, l8, l10, l20, l47, l80, l100, l127, l200, l400, l600, l800, l1000, l1200, l1206, l1210, l1222, n_add, n_clamp, n_gd, n_le_t, n_le_f, n_lt_t, n_lt_f, n_eq_t, n_eq_f, n_no, n_on, n_oo, n_olt, n_nlo, n_ole, Option.bind_some, Option.bind_none, Nat.zero_add, if_true, if_false, hl]
theorem FM_live {mm far : Nat → Int32} {W : Nat} (H : WF mm W) : FX7_reachedWords mm far = some (nI (live mm far W)) := by
  have hW := H.size
  have hl : g_it (FX7_reachedWords_L4 mm far) (nI 0, nI 0) = some (nI (live mm far W)) := by
    refine it_to (fun i => (nI (live mm far i), nI i)) 0 W _ (by omega) (by omega) (fun i _ hi => ?_) ?_
    · have hz := H.sz (a := i) (by omega)
      by_cases e : far i = eO none
      · have e2 : live mm far (i + 1) = live mm far i + 0 := by
          show _ + (if far i = eO none then 0 else zs mm i) = _
          rw [if_pos e]; rfl
        simp (disch := omega) only [FX7_reachedWords_L4, H.hw, ↓lm1, n_ofN, l0, l1, l2, l3, l4, l5, l6, l7, l8, l10, l20, l47, l80, l100, l127, l200, l400, l600, l800, l1000, l1200, l1206, l1210, l1222, n_add, n_clamp, n_gd, n_le_t, n_le_f, n_lt_t, n_lt_f, n_eq_t, n_eq_f, n_no, n_on, n_oo, n_olt, n_nlo, n_ole, Option.bind_some, Option.bind_none, Nat.zero_add, if_true, if_false, if_pos e, e2]
      · have e2 : live mm far (i + 1) = live mm far i + zs mm i := by
          show _ + (if far i = eO none then 0 else zs mm i) = _
          rw [if_neg e]; rfl
        simp (disch := omega) only [FX7_reachedWords_L4, H.hw, hz.1, ↓lm1, n_ofN, l0, l1, l2, l3, l4, l5, l6, l7, l8, l10, l20, l47, l80, l100, l127, l200, l400, l600, l800, l1000, l1200, l1206, l1210, l1222, n_add, n_clamp, n_gd, n_le_t, n_le_f, n_lt_t, n_lt_f, n_eq_t, n_eq_f, n_no, n_on, n_oo, n_olt, n_nlo, n_ole, Option.bind_some, Option.bind_none, Nat.zero_add, if_true, if_false, if_neg e, e2]
    · simp (disch := omega) only [FX7_reachedWords_L4, H.hw, ↓lm1, n_ofN, l0, l1, l2, l3, l4, l5, l6, l7, l8, l10, l20, l47, l80, l100, l127, l200, l400, l600, l800, l1000, l1200, l1206, l1210, l1222, n_add, n_clamp, n_gd, n_le_t, n_le_f, n_lt_t, n_lt_f, n_eq_t, n_eq_f, n_no, n_on, n_oo, n_olt, n_nlo, n_ole, Option.bind_some, Option.bind_none, Nat.zero_add, if_true, if_false]
  simp (disch := omega) only [FX7_reachedWords, ↓lm1, n_ofN, l0, l1, l2, l3, l4, l5, l6, l7, l8, l10, l20, l47, l80, l100, l127, l200, l400, l600, l800, l1000, l1200, l1206, l1210, l1222, n_add, n_clamp, n_gd, n_le_t, n_le_f, n_lt_t, n_lt_f, n_eq_t, n_eq_f, n_no, n_on, n_oo, n_olt, n_nlo, n_ole, Option.bind_some, Option.bind_none, Nat.zero_add, if_true, if_false, hl]
theorem live_eq {mm far far' : Nat → Int32} {W : Nat} {wo : Option Nat} (hW : W ≤ 200) (h1 : Far mm W wo far) (h2 : Far mm W wo far') : live mm far W = live mm far' W := sm_congr W (fun i hi => by rw [h1.uniq h2 (h := i) (by omega)])
theorem none_big : ∀ w, (none : Option Nat) = some w → w < 2147483648 := fun w h => by cases h
theorem sim_garbage : Sim_garbage Rel := by
  intro i words depth allocated collections freed owner fieldCount dataCount pinned age content roots weaks movedTo reports letters length_ latestRefusal s0 s1 zmm zsaved_ zisSaved ztext ztextLength zrefused queued steps queue zfar hi h
  have hu := h.up
  obtain ⟨⟨W, H, ⟨⟨rfl, rfl, rfl, rfl, rfl⟩, hO, hA, hR, hK, hM⟩, hc⟩, hS0, hS1, hT, rfl⟩ := h
  have hW := H.size
  have hw := H.hw
  obtain ⟨n, s', q', e1, X, F⟩ := FX_trace H hO hA hR none_big queued steps queue
  obtain ⟨far', e2, F2⟩ := FM_reaches (wo := none) H none_big zfar
  refine ⟨nI (sm (zs zmm) W) - nI (live zmm s' W), nI n, s', q', far', ?_, ?_, hu⟩
  · simp (disch := omega) only [FX6_garbage, hw, e1, ↓lm1, n_ofN, l0, l1, l2, l3, l4, l5, l6, l7, l8, l10, l20, l47, l80, l100, l127, l200, l400, l600, l800, l1000, l1200, l1206, l1210, l1222, n_add, n_clamp, n_gd, n_le_t, n_le_f, n_lt_t, n_lt_f, n_eq_t, n_eq_f, n_no, n_on, n_oo, n_olt, n_nlo, n_ole, Option.bind_some, Option.bind_none, Nat.zero_add, if_true, if_false, FX_used H hO, FX_live H hA X]
  · simp (disch := omega) only [FX7_garbage, e2, ↓lm1, n_ofN, l0, l1, l2, l3, l4, l5, l6, l7, l8, l10, l20, l47, l80, l100, l127, l200, l400, l600, l800, l1000, l1200, l1206, l1210, l1222, n_add, n_clamp, n_gd, n_le_t, n_le_f, n_lt_t, n_lt_f, n_eq_t, n_eq_f, n_no, n_on, n_oo, n_olt, n_nlo, n_ole, Option.bind_some, Option.bind_none, Nat.zero_add, if_true, if_false, FM_used H, FM_live H, live_eq hW.2 F F2]
theorem sim_distance : Sim_distance Rel := by
  intro i words depth allocated collections freed owner fieldCount dataCount pinned age content roots weaks movedTo reports letters length_ latestRefusal s0 s1 zmm zsaved_ zisSaved ztext ztextLength zrefused queued steps queue zfar p1 hi h
  have hu := h.up
  obtain ⟨⟨W, H, ⟨⟨rfl, rfl, rfl, rfl, rfl⟩, hO, hA, hR, hK, hM⟩, hc⟩, hS0, hS1, hT, rfl⟩ := h
  have hW := H.size
  have hw := H.hw
  cases e : obI zmm W p1 with
  | none => exact ⟨-1000002, queued, steps, queue, zfar, by simp (disch := omega) only [FX6_distance, hw, FX_objectAt hW.2 hO, e, ↓lm1, n_ofN, l0, l1, l2, l3, l4, l5, l6, l7, l8, l10, l20, l47, l80, l100, l127, l200, l400, l600, l800, l1000, l1200, l1206, l1210, l1222, n_add, n_clamp, n_gd, n_le_t, n_le_f, n_lt_t, n_lt_f, n_eq_t, n_eq_f, n_no, n_on, n_oo, n_olt, n_nlo, n_ole, Option.bind_some, Option.bind_none, Nat.zero_add, if_true, if_false], by simp (disch := omega) only [FX7_distance, FM_objectOf H, e, ↓lm1, n_ofN, l0, l1, l2, l3, l4, l5, l6, l7, l8, l10, l20, l47, l80, l100, l127, l200, l400, l600, l800, l1000, l1200, l1206, l1210, l1222, n_add, n_clamp, n_gd, n_le_t, n_le_f, n_lt_t, n_lt_f, n_eq_t, n_eq_f, n_no, n_on, n_oo, n_olt, n_nlo, n_ole, Option.bind_some, Option.bind_none, Nat.zero_add, if_true, if_false], hu⟩
  | some b =>
    obtain ⟨t, h1, h2, h3, h4, h5⟩ := obI_sm H e
    obtain ⟨n, s', q', e1, X, F⟩ := FX_trace H hO hA hR none_big queued steps queue
    obtain ⟨far', e2, F2⟩ := FM_reaches (wo := none) H none_big zfar
    refine ⟨s' b, nI n, s', q', far', ?_, ?_, hu⟩
    · simp (disch := omega) only [FX6_distance, hw, FX_objectAt hW.2 hO, e, eO_some, e1, ↓lm1, n_ofN, l0, l1, l2, l3, l4, l5, l6, l7, l8, l10, l20, l47, l80, l100, l127, l200, l400, l600, l800, l1000, l1200, l1206, l1210, l1222, n_add, n_clamp, n_gd, n_le_t, n_le_f, n_lt_t, n_lt_f, n_eq_t, n_eq_f, n_no, n_on, n_oo, n_olt, n_nlo, n_ole, Option.bind_some, Option.bind_none, Nat.zero_add, if_true, if_false]
    · simp (disch := omega) only [FX7_distance, FM_objectOf H, e, eO_some, e2, ↓lm1, n_ofN, l0, l1, l2, l3, l4, l5, l6, l7, l8, l10, l20, l47, l80, l100, l127, l200, l400, l600, l800, l1000, l1200, l1206, l1210, l1222, n_add, n_clamp, n_gd, n_le_t, n_le_f, n_lt_t, n_lt_f, n_eq_t, n_eq_f, n_no, n_on, n_oo, n_olt, n_nlo, n_ole, Option.bind_some, Option.bind_none, Nat.zero_add, if_true, if_false, F.uniq F2 (h := b) (by omega)]
theorem Rch.wo {mm : Nat → Int32} {W b : Nat} (hn : ∀ d, ¬ Rch mm W none d b) : ∀ (d h : Nat), Rch mm W none d h ↔ Rch mm W (some b) d h
  | 0, h => by
    constructor
    · intro r
      refine ⟨fun z => ?_, r.2⟩
      cases z
      exact hn 0 r
    · intro r
      exact ⟨(fun z => by cases z), r.2⟩
  | d + 1, h => by
    constructor
    · intro r
      have r0 := r
      obtain ⟨g, j, r, e1, e2, e3, e4⟩ := r
      refine ⟨g, j, (Rch.wo hn d g).mp r, e1, e2, e3, fun z => ?_⟩
      cases z
      exact hn (d + 1) r0
    · intro ⟨g, j, r, e1, e2, e3, e4⟩
      exact ⟨g, j, (Rch.wo hn d g).mpr r, e1, e2, e3, fun z => by cases z⟩
theorem Far.wo {mm far : Nat → Int32} {W b : Nat} (hW : W ≤ 200) (F : Far mm W none far) (hb : b < 200) (he : far b = eO none) : Far mm W (some b) far := by
  have hn : ∀ d, ¬ Rch mm W none d b := by
    rcases F b hb with ⟨d, d1, d2, _⟩ | ⟨_, d2⟩
    · rw [he] at d2
      exact absurd d2.symm (n_ne_m1 (by omega))
    · exact d2
  intro h hh
  rcases F h hh with ⟨d, d1, d2, d3, d4⟩ | ⟨d1, d2⟩
  · exact Or.inl ⟨d, d1, d2, (Rch.wo hn d h).mp d3, fun d' hd' r => d4 d' hd' ((Rch.wo hn d' h).mpr r)⟩
  · exact Or.inr ⟨d1, fun d r => d2 d ((Rch.wo hn d h).mpr r)⟩
theorem sim_retained : Sim_retained Rel := by
  intro i words depth allocated collections freed owner fieldCount dataCount pinned age content roots weaks movedTo reports letters length_ latestRefusal s0 s1 zmm zsaved_ zisSaved ztext ztextLength zrefused queued steps queue zfar p1 hi h
  have hu := h.up
  obtain ⟨⟨W, H, ⟨⟨rfl, rfl, rfl, rfl, rfl⟩, hO, hA, hR, hK, hM⟩, hc⟩, hS0, hS1, hT, rfl⟩ := h
  have hW := H.size
  have hw := H.hw
  cases e : obI zmm W p1 with
  | none => exact ⟨-1000002, queued, steps, queue, zfar, by simp (disch := omega) only [FX6_retained, hw, FX_objectAt hW.2 hO, e, ↓lm1, n_ofN, l0, l1, l2, l3, l4, l5, l6, l7, l8, l10, l20, l47, l80, l100, l127, l200, l400, l600, l800, l1000, l1200, l1206, l1210, l1222, n_add, n_clamp, n_gd, n_le_t, n_le_f, n_lt_t, n_lt_f, n_eq_t, n_eq_f, n_no, n_on, n_oo, n_olt, n_nlo, n_ole, Option.bind_some, Option.bind_none, Nat.zero_add, if_true, if_false], by simp (disch := omega) only [FX7_retained, FM_objectOf H, e, ↓lm1, n_ofN, l0, l1, l2, l3, l4, l5, l6, l7, l8, l10, l20, l47, l80, l100, l127, l200, l400, l600, l800, l1000, l1200, l1206, l1210, l1222, n_add, n_clamp, n_gd, n_le_t, n_le_f, n_lt_t, n_lt_f, n_eq_t, n_eq_f, n_no, n_on, n_oo, n_olt, n_nlo, n_ole, Option.bind_some, Option.bind_none, Nat.zero_add, if_true, if_false], hu⟩
  | some b =>
    obtain ⟨t, h1, h2, h3, h4, h5⟩ := obI_sm H e
    have hb : ∀ w, some b = some w → w < 2147483648 := fun w z => by cases z; omega
    obtain ⟨n, s', q', e1, X, F⟩ := FX_trace H hO hA hR none_big queued steps queue
    obtain ⟨n2, s2, q2, e3, X2, F3⟩ := FX_trace H hO hA hR hb (nI n) s' q'
    rw [eO_some] at e3
    obtain ⟨far', e2, F2⟩ := FM_reaches (wo := none) H none_big zfar
    by_cases hf : far' b = eO none
    · have F4 := F2.wo hW.2 (by omega) hf
      have l1 := live_eq hW.2 F F2
      have l2 := live_eq hW.2 F3 F4
      refine ⟨nI 0, nI n2, s2, q2, far', ?_, ?_, hu⟩
      · simp (disch := omega) only [FX6_retained, hw, FX_objectAt hW.2 hO, e, eO_some, e1, e3, ↓lm1, n_ofN, l0, l1, l2, l3, l4, l5, l6, l7, l8, l10, l20, l47, l80, l100, l127, l200, l400, l600, l800, l1000, l1200, l1206, l1210, l1222, n_add, n_clamp, n_gd, n_le_t, n_le_f, n_lt_t, n_lt_f, n_eq_t, n_eq_f, n_no, n_on, n_oo, n_olt, n_nlo, n_ole, Option.bind_some, Option.bind_none, Nat.zero_add, if_true, if_false, FX_live H hA X, FX_live H hA X2, l1, l2, n_sub, Nat.sub_self]
      · simp (disch := omega) only [FX7_retained, FM_objectOf H, e, eO_some, e2, ↓lm1, n_ofN, l0, l1, l2, l3, l4, l5, l6, l7, l8, l10, l20, l47, l80, l100, l127, l200, l400, l600, l800, l1000, l1200, l1206, l1210, l1222, n_add, n_clamp, n_gd, n_le_t, n_le_f, n_lt_t, n_lt_f, n_eq_t, n_eq_f, n_no, n_on, n_oo, n_olt, n_nlo, n_ole, Option.bind_some, Option.bind_none, Nat.zero_add, if_true, if_false, FM_live H, if_pos hf]
    · obtain ⟨far2, e4, F4⟩ := FM_reaches H hb far'
      rw [eO_some] at e4
      have l1 := live_eq hW.2 F F2
      have l2 := live_eq hW.2 F3 F4
      refine ⟨nI (live zmm far' W) - nI (live zmm far2 W), nI n2, s2, q2, far2, ?_, ?_, hu⟩
      · simp (disch := omega) only [FX6_retained, hw, FX_objectAt hW.2 hO, e, eO_some, e1, e3, ↓lm1, n_ofN, l0, l1, l2, l3, l4, l5, l6, l7, l8, l10, l20, l47, l80, l100, l127, l200, l400, l600, l800, l1000, l1200, l1206, l1210, l1222, n_add, n_clamp, n_gd, n_le_t, n_le_f, n_lt_t, n_lt_f, n_eq_t, n_eq_f, n_no, n_on, n_oo, n_olt, n_nlo, n_ole, Option.bind_some, Option.bind_none, Nat.zero_add, if_true, if_false, FX_live H hA X, FX_live H hA X2, l1, l2]
      · simp (disch := omega) only [FX7_retained, FM_objectOf H, e, eO_some, e2, e4, ↓lm1, n_ofN, l0, l1, l2, l3, l4, l5, l6, l7, l8, l10, l20, l47, l80, l100, l127, l200, l400, l600, l800, l1000, l1200, l1206, l1210, l1222, n_add, n_clamp, n_gd, n_le_t, n_le_f, n_lt_t, n_lt_f, n_eq_t, n_eq_f, n_no, n_on, n_oo, n_olt, n_nlo, n_ole, Option.bind_some, Option.bind_none, Nat.zero_add, if_true, if_false, FM_live H, if_neg hf]
