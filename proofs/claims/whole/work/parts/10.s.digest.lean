/-! the digest, value by value -/
def hq (f : Nat → Int32) (h : Int64) : Nat → Int64
  | 0 => h
  | n + 1 => 31 * hq f h n + (f n).toInt64
theorem hq_congr {f g : Nat → Int32} {h : Int64} : ∀ (n : Nat), (∀ i, i < n → f i = g i) → hq f h n = hq g h n
  | 0, _ => rfl
  | n + 1, e => by
    show 31 * hq f h n + _ = 31 * hq g h n + _
    rw [hq_congr n (fun i hi => e i (by omega)), e n (by omega)]
theorem hq_add {f : Nat → Int32} {h : Int64} {a : Nat} : ∀ (n : Nat), hq f h (a + n) = hq (fun j => f (a + j)) (hq f h a) n
  | 0 => rfl
  | n + 1 => by
    show 31 * hq f h (a + n) + _ = 31 * hq _ _ n + _
    rw [hq_add n]
    rfl
theorem FX_row {row : Nat → Int32} {nr lo n : Nat} (hn : lo + n ≤ nr) (hr : nr ≤ 200) (h : Int64) : FX6_absorbRow row nr h (nI lo) (nI (lo + n)) = some (hq (fun j => row (lo + j)) h n) := by
  have key : g_it (FX6_absorbRow_L6 row nr (nI (lo + n))) (h, nI lo) = some (hq (fun j => row (lo + j)) h n) := by
    refine it_to (fun j => (hq (fun j => row (lo + j)) h j, nI (lo + j))) 0 n _ (by omega) (by omega) (fun i _ hi => ?_) ?_
    · simp (disch := omega) only [FX6_absorbRow_L6, FX6_absorb, ↓lm1, n_ofN, l0, l1, l2, l3, l4, l5, l6, l7, l8, l10, l20, l47, l80, l100, l127, l200, l400, l600, l800, l1000, l1200, l1206, l1210, l1222, n_add, n_clamp, n_gd, n_le_t, n_le_f, n_lt_t, n_lt_f, n_eq_t, n_eq_f, n_no, n_on, n_oo, n_olt, n_nlo, n_ole, Option.bind_some, Option.bind_none, Nat.zero_add, if_true, if_false, hq]
      rfl
    · simp (disch := omega) only [FX6_absorbRow_L6, ↓lm1, n_ofN, l0, l1, l2, l3, l4, l5, l6, l7, l8, l10, l20, l47, l80, l100, l127, l200, l400, l600, l800, l1000, l1200, l1206, l1210, l1222, n_add, n_clamp, n_gd, n_le_t, n_le_f, n_lt_t, n_lt_f, n_eq_t, n_eq_f, n_no, n_on, n_oo, n_olt, n_nlo, n_ole, Option.bind_some, Option.bind_none, Nat.zero_add, if_true, if_false]
  simp (disch := omega) only [FX6_absorbRow, key, ↓lm1, n_ofN, l0, l1, l2, l3, l4, l5, l6, l7, l8, l10, l20, l47, l80, l100, l127, l200, l400, l600, l800, l1000, l1200, l1206, l1210, l1222, n_add, n_clamp, n_gd, n_le_t, n_le_f, n_lt_t, n_lt_f, n_eq_t, n_eq_f, n_no, n_on, n_oo, n_olt, n_nlo, n_ole, Option.bind_some, Option.bind_none, Nat.zero_add, if_true, if_false]
def ov (mm : Nat → Int32) (pv : Nat → Nat → Int32) (h : Int64) (a : Nat) : Int64 := hq (fun j => mm (800 + a + (j + 1))) (hq (pv a) h 8) (zs mm a - 1)
def og (mm : Nat → Int32) (pv : Nat → Nat → Int32) : Nat → Nat → Int64 → Int64
  | 0, _, h => h
  | k + 1, a, h => og mm pv k (a + 1) (if 0 < zs mm a then ov mm pv h a else h)
theorem FX_objs {mm owner fieldCount dataCount pinned age content T s : Nat → Int32} {W : Nat} (H : WF mm W) (hO : RO W mm owner) (hA : RA W mm fieldCount dataCount pinned age content) {pv : Nat → Nat → Int32} (hp : ∀ a, a < W → 0 < zs mm a → ∀ w, w < 8 → FX6_property fieldCount dataCount pinned age s T (nI a) (nI w) = some (pv a w)) : ∀ (k a fu : Nat) (h : Int64), a + k = W → k < fu → g_itn (FX6_absorbObjects_L28 (nI W) owner fieldCount dataCount pinned age content T s) fu (h, nI a) = some (og mm pv k a h)
  | 0, a, fu + 1, h, ha, _ => by
    have hW := H.size
    have : a = W := by omega
    subst this
    have e : FX6_absorbObjects_L28 (nI a) owner fieldCount dataCount pinned age content T s (h, nI a) = some (.inr h) := by
      simp (disch := omega) only [FX6_absorbObjects_L28, ↓lm1, n_ofN, l0, l1, l2, l3, l4, l5, l6, l7, l8, l10, l20, l47, l80, l100, l127, l200, l400, l600, l800, l1000, l1200, l1206, l1210, l1222, n_add, n_clamp, n_gd, n_le_t, n_le_f, n_lt_t, n_lt_f, n_eq_t, n_eq_f, n_no, n_on, n_oo, n_olt, n_nlo, n_ole, Option.bind_some, Option.bind_none, Nat.zero_add, if_true, if_false]
    simp only [g_itn, e, og]
  | k + 1, a, fu + 1, h, ha, hf => by
    have hW := H.size
    have haW : a < W := by omega
    have e : FX6_absorbObjects_L28 (nI W) owner fieldCount dataCount pinned age content T s (h, nI a) = some (.inl (if 0 < zs mm a then ov mm pv h a else h, nI (a + 1))) := by
      by_cases h0 : 0 < zs mm a
      · have h6 := H.hd (a := a) (by omega) h0
        obtain ⟨-, -, -, -, b5⟩ := hA a haW h0
        have k1 : g_it (FX6_absorbObjects_L55 fieldCount dataCount pinned age T s (nI a)) (h, nI 0) = some (hq (pv a) h 8) := by
          refine it_to (fun j => (hq (pv a) h j, nI j)) 0 8 _ (by omega) (by omega) (fun i _ hi => ?_) ?_
          · simp (disch := omega) only [FX6_absorbObjects_L55, hp a haW h0 i hi, FX6_absorb, ↓lm1, n_ofN, l0, l1, l2, l3, l4, l5, l6, l7, l8, l10, l20, l47, l80, l100, l127, l200, l400, l600, l800, l1000, l1200, l1206, l1210, l1222, n_add, n_clamp, n_gd, n_le_t, n_le_f, n_lt_t, n_lt_f, n_eq_t, n_eq_f, n_no, n_on, n_oo, n_olt, n_nlo, n_ole, Option.bind_some, Option.bind_none, Nat.zero_add, if_true, if_false, hq]
          · simp (disch := omega) only [FX6_absorbObjects_L55, ↓lm1, n_ofN, l0, l1, l2, l3, l4, l5, l6, l7, l8, l10, l20, l47, l80, l100, l127, l200, l400, l600, l800, l1000, l1200, l1206, l1210, l1222, n_add, n_clamp, n_gd, n_le_t, n_le_f, n_lt_t, n_lt_f, n_eq_t, n_eq_f, n_no, n_on, n_oo, n_olt, n_nlo, n_ole, Option.bind_some, Option.bind_none, Nat.zero_add, if_true, if_false]
        have k2 := FX_row (row := content) (nr := 200) (lo := a + 1) (n := zs mm a - 1) (by omega) (by omega) (hq (pv a) h 8)
        rw [show a + 1 + (zs mm a - 1) = a + zs mm a by omega, hq_congr (g := fun j => mm (800 + a + (j + 1))) (zs mm a - 1) (fun j hj => by rw [show a + 1 + j = a + (j + 1) by omega, b5 (j + 1) (by omega) (by omega)])] at k2
        simp (disch := omega) only [FX6_absorbObjects_L28, FX_isObject hW.2 hO haW, if_pos h0, ↓lm1, n_ofN, l0, l1, l2, l3, l4, l5, l6, l7, l8, l10, l20, l47, l80, l100, l127, l200, l400, l600, l800, l1000, l1200, l1206, l1210, l1222, n_add, n_clamp, n_gd, n_le_t, n_le_f, n_lt_t, n_lt_f, n_eq_t, n_eq_f, n_no, n_on, n_oo, n_olt, n_nlo, n_ole, Option.bind_some, Option.bind_none, Nat.zero_add, if_true, if_false, k1, FX_sizeOf H hA haW h0, k2, ov]
      · simp (disch := omega) only [FX6_absorbObjects_L28, FX_isObject hW.2 hO haW, if_neg h0, ↓lm1, n_ofN, l0, l1, l2, l3, l4, l5, l6, l7, l8, l10, l20, l47, l80, l100, l127, l200, l400, l600, l800, l1000, l1200, l1206, l1210, l1222, n_add, n_clamp, n_gd, n_le_t, n_le_f, n_lt_t, n_lt_f, n_eq_t, n_eq_f, n_no, n_on, n_oo, n_olt, n_nlo, n_ole, Option.bind_some, Option.bind_none, Nat.zero_add, if_true, if_false]
    simp only [g_itn, e, og]
    exact FX_objs H hO hA hp k (a + 1) fu _ (by omega) (by omega)
theorem FM_objs {mm : Nat → Int32} {W : Nat} (H : WF mm W) {pv : Nat → Nat → Int32} (hp : ∀ a, a < W → 0 < zs mm a → ∀ w, w < 8 → ∀ far, ∃ far', FX7_object mm far (nI a) (nI w) = some (pv a w, far')) : ∀ (k a fu : Nat) (h : Int64) (far : Nat → Int32), a + k = W → k < fu → ∃ far', g_itn (FX7_digest_L64 mm) fu (eO (fh mm k a), h, far) = some (og mm pv k a h, far')
  | 0, a, fu + 1, h, far, ha, _ => by
    have e : FX7_digest_L64 mm (eO (fh mm 0 a), h, far) = some (.inr (h, far)) := by
      unfold FX7_digest_L64
      exact if_pos rfl
    exact ⟨far, by simp only [g_itn, e, og]⟩
  | k + 1, a, fu + 1, h, far, ha, hf => by
    have hW := H.size
    have haW : a < W := by omega
    by_cases h0 : 0 < zs mm a
    · have h6 := H.hd (a := a) (by omega) h0
      have h9 := H.sz (a := a) (by omega)
      have k1 := it_invg (f := FX7_digest_L71 mm (nI a)) (fun s => ∃ w far, s = (nI w, hq (pv a) h w, far) ∧ w ≤ 8) (fun s => 8 - s.1.toNatClampNeg) (fun r => ∃ far', r = (hq (pv a) h 8, far')) (fun s hs => ?_) (nI 0, h, far) ⟨0, far, rfl, by omega⟩ (by
        show 8 - (nI 0).toNatClampNeg < 1000000
        omega)
      · obtain ⟨r, k1, far1, rfl⟩ := k1
        have k2 : g_it (FX7_digest_L95 mm (nI a)) (nI 1, hq (pv a) h 8) = some (ov mm pv h a) := by
          refine it_to (fun j => (nI (j + 1), hq (fun j => mm (800 + a + (j + 1))) (hq (pv a) h 8) j)) 0 (zs mm a - 1) _ (by omega) (by omega) (fun i _ hi => ?_) ?_
          · simp (disch := omega) only [FX7_digest_L95, h9.1, FX7_mixes, ↓lm1, n_ofN, l0, l1, l2, l3, l4, l5, l6, l7, l8, l10, l20, l47, l80, l100, l127, l200, l400, l600, l800, l1000, l1200, l1206, l1210, l1222, n_add, n_clamp, n_gd, n_le_t, n_le_f, n_lt_t, n_lt_f, n_eq_t, n_eq_f, n_no, n_on, n_oo, n_olt, n_nlo, n_ole, Option.bind_some, Option.bind_none, Nat.zero_add, if_true, if_false, hq]
          · simp (disch := omega) only [FX7_digest_L95, h9.1, ↓lm1, n_ofN, l0, l1, l2, l3, l4, l5, l6, l7, l8, l10, l20, l47, l80, l100, l127, l200, l400, l600, l800, l1000, l1200, l1206, l1210, l1222, n_add, n_clamp, n_gd, n_le_t, n_le_f, n_lt_t, n_lt_f, n_eq_t, n_eq_f, n_no, n_on, n_oo, n_olt, n_nlo, n_ole, Option.bind_some, Option.bind_none, Nat.zero_add, if_true, if_false, ov]
        have k3 : g_it (FX7_objectFrom_L2 mm) (nI (a + 1)) = some (eO (fh mm k (a + 1))) := FM_from H k (a + 1) g_fuel (by omega) (by unfold g_fuel; omega)
        have hfh : fh mm (k + 1) a = some a := by
          show (if 0 < zs mm a then some a else fh mm k (a + 1)) = _
          rw [if_pos h0]
        have e : FX7_digest_L64 mm (eO (fh mm (k + 1) a), h, far) = some (.inl (eO (fh mm k (a + 1)), ov mm pv h a, far1)) := by
          rw [hfh]
          simp (disch := omega) only [FX7_digest_L64, FX7_objectFrom, eO_some, ↓lm1, n_ofN, l0, l1, l2, l3, l4, l5, l6, l7, l8, l10, l20, l47, l80, l100, l127, l200, l400, l600, l800, l1000, l1200, l1206, l1210, l1222, n_add, n_clamp, n_gd, n_le_t, n_le_f, n_lt_t, n_lt_f, n_eq_t, n_eq_f, n_no, n_on, n_oo, n_olt, n_nlo, n_ole, Option.bind_some, Option.bind_none, Nat.zero_add, if_true, if_false, k1, k2, k3]
        simp only [g_itn, e, og, if_pos h0]
        exact FM_objs H hp k (a + 1) fu _ far1 (by omega) (by omega)
      · obtain ⟨w, far, rfl, hw⟩ := hs
        by_cases hw8 : w < 8
        · obtain ⟨far2, e2⟩ := hp a haW h0 w hw8 far
          refine Or.inl ⟨(nI (w + 1), hq (pv a) h (w + 1), far2), ?_, ⟨w + 1, far2, rfl, by omega⟩, ?_⟩
          · simp (disch := omega) only [FX7_digest_L71, FX7_mixes, e2, ↓lm1, n_ofN, l0, l1, l2, l3, l4, l5, l6, l7, l8, l10, l20, l47, l80, l100, l127, l200, l400, l600, l800, l1000, l1200, l1206, l1210, l1222, n_add, n_clamp, n_gd, n_le_t, n_le_f, n_lt_t, n_lt_f, n_eq_t, n_eq_f, n_no, n_on, n_oo, n_olt, n_nlo, n_ole, Option.bind_some, Option.bind_none, Nat.zero_add, if_true, if_false, hq]
          · show 8 - (nI (w + 1)).toNatClampNeg < 8 - (nI w).toNatClampNeg
            rw [n_clamp (by omega), n_clamp (by omega)]
            omega
        · have : w = 8 := by omega
          subst this
          refine Or.inr ⟨_, ?_, far, rfl⟩
          simp (disch := omega) only [FX7_digest_L71, ↓lm1, n_ofN, l0, l1, l2, l3, l4, l5, l6, l7, l8, l10, l20, l47, l80, l100, l127, l200, l400, l600, l800, l1000, l1200, l1206, l1210, l1222, n_add, n_clamp, n_gd, n_le_t, n_le_f, n_lt_t, n_lt_f, n_eq_t, n_eq_f, n_no, n_on, n_oo, n_olt, n_nlo, n_ole, Option.bind_some, Option.bind_none, Nat.zero_add, if_true, if_false]
    · have hfh : fh mm (k + 1) a = fh mm k (a + 1) := by
        show (if 0 < zs mm a then some a else fh mm k (a + 1)) = _
        rw [if_neg h0]
      rw [hfh]
      simp only [og, if_neg h0]
      exact FM_objs H hp k (a + 1) (fu + 1) h far (by omega) (by omega)
theorem sim_digest : Sim_digest Rel := by
  intro i words depth allocated collections freed owner fieldCount dataCount pinned age content roots weaks movedTo reports letters length_ latestRefusal s0 s1 zmm zsaved_ zisSaved ztext ztextLength zrefused queued steps queue tallies numbers zhash zfar hi h
  have hcnt := fun p1 => sim_count i words depth allocated collections freed owner fieldCount dataCount pinned age content roots weaks movedTo reports letters length_ latestRefusal s0 s1 zmm zsaved_ zisSaved ztext ztextLength zrefused p1 hi h
  have hu := h.up
  obtain ⟨⟨W, H, ⟨⟨rfl, rfl, rfl, rfl, rfl⟩, hO, hA, hR, hK, hM⟩, hc⟩, hS0, hS1, hT, rfl⟩ := h
  have hW := H.size
  have hw := H.hw
  obtain ⟨n, hn, rfl, rfl, hl⟩ := hT
  obtain ⟨cv, hcv⟩ : ∃ cv : Nat → Int32, ∀ k, FX6_count (nI W) (zmm 1217) (zmm 1218) (zmm 1219) (zmm 1220) owner pinned (nI n) (nI k) = some (cv k) ∧ FX7_count (nI n) zmm (nI k) = some (cv k) := by
    refine ⟨fun k => Classical.choose (hcnt (nI k)), fun k => ?_⟩
    have := Classical.choose_spec (hcnt (nI k))
    exact ⟨by rw [← hw]; exact this.1, this.2.1⟩
  obtain ⟨T, e1, hTT⟩ := FX_tally H hO hA hR hK tallies
  obtain ⟨nq, s', q', e2, X, F⟩ := FX_trace H hO hA hR none_big queued steps queue
  obtain ⟨pv, hpv⟩ : ∃ pv : Nat → Nat → Int32, ∀ a, a < W → 0 < zs zmm a → ∀ w, w < 8 → FX6_property fieldCount dataCount pinned age s' T (nI a) (nI w) = some (pv a w) ∧ ∀ far, ∃ far', FX7_object zmm far (nI a) (nI w) = some (pv a w, far') := by
    refine ⟨fun a w => (FX6_property fieldCount dataCount pinned age s' T (nI a) (nI w)).getD 0, fun a ha h0 w hw8 => ?_⟩
    have eob : obI zmm W (nI a) = some a := by rw [obI_nI ha hW.2, ob_self h0]
    obtain ⟨r, far', a1, a2⟩ := prop_eq (steps := s') (T := T) H hA eob hw8 (fun _ => hTT a (by omega)) (fun _ => F) zfar
    refine ⟨by simp only [a1, Option.getD_some], fun far => ?_⟩
    obtain ⟨r2, far2, b1, b2⟩ := prop_eq (steps := s') (T := T) H hA eob hw8 (fun _ => hTT a (by omega)) (fun _ => F) far
    exact ⟨far2, by simp only [b1, Option.getD_some]; exact b2⟩
  obtain ⟨N, m1, m2⟩ := FX_measure H hO numbers
  -- the hashes, phase by phase
  obtain ⟨h1, hh1⟩ : ∃ h1, h1 = hq cv 47 8 := ⟨_, rfl⟩
  obtain ⟨h2, hh2⟩ : ∃ h2, h2 = hq (fun j => zmm (1200 + j)) h1 10 := ⟨_, rfl⟩
  obtain ⟨h3, hh3⟩ : ∃ h3, h3 = og zmm pv W 0 h2 := ⟨_, rfl⟩
  obtain ⟨h4, hh4⟩ : ∃ h4, h4 = hq (fun j => pick5 (fives zmm W) j) h3 5 := ⟨_, rfl⟩
  obtain ⟨h5, hh5⟩ : ∃ h5, h5 = if zmm 1219 = nI 0 then h4 else hq (fun j => zmm (1210 + j)) h4 6 := ⟨_, rfl⟩
  obtain ⟨h6, hh6⟩ : ∃ h6, h6 = hq (fun j => ztext j) h5 n := ⟨_, rfl⟩
  have x1 : g_it (FX6_digest_L6 (nI W) (zmm 1217) (zmm 1218) (zmm 1219) (zmm 1220) owner pinned (nI n)) ((47 : Int64), nI 0) = some h1 := by
    rw [hh1]
    refine it_to (fun j => (hq cv 47 j, nI j)) 0 8 _ (by omega) (by omega) (fun i _ hi => ?_) ?_
    · simp (disch := omega) only [FX6_digest_L6, (hcv i).1, FX6_absorb, ↓lm1, n_ofN, l0, l1, l2, l3, l4, l5, l6, l7, l8, l10, l20, l47, l80, l100, l127, l200, l400, l600, l800, l1000, l1200, l1206, l1210, l1222, n_add, n_clamp, n_gd, n_le_t, n_le_f, n_lt_t, n_lt_f, n_eq_t, n_eq_f, n_no, n_on, n_oo, n_olt, n_nlo, n_ole, Option.bind_some, Option.bind_none, Nat.zero_add, if_true, if_false, hq]
    · simp (disch := omega) only [FX6_digest_L6, ↓lm1, n_ofN, l0, l1, l2, l3, l4, l5, l6, l7, l8, l10, l20, l47, l80, l100, l127, l200, l400, l600, l800, l1000, l1200, l1206, l1210, l1222, n_add, n_clamp, n_gd, n_le_t, n_le_f, n_lt_t, n_lt_f, n_eq_t, n_eq_f, n_no, n_on, n_oo, n_olt, n_nlo, n_ole, Option.bind_some, Option.bind_none, Nat.zero_add, if_true, if_false]
  have y1 : g_it (FX7_digest_L9 (nI n) zmm) (nI 0, (47 : Int64)) = some h1 := by
    rw [hh1]
    refine it_to (fun j => (nI j, hq cv 47 j)) 0 8 _ (by omega) (by omega) (fun i _ hi => ?_) ?_
    · simp (disch := omega) only [FX7_digest_L9, (hcv i).2, FX7_mixes, ↓lm1, n_ofN, l0, l1, l2, l3, l4, l5, l6, l7, l8, l10, l20, l47, l80, l100, l127, l200, l400, l600, l800, l1000, l1200, l1206, l1210, l1222, n_add, n_clamp, n_gd, n_le_t, n_le_f, n_lt_t, n_lt_f, n_eq_t, n_eq_f, n_no, n_on, n_oo, n_olt, n_nlo, n_ole, Option.bind_some, Option.bind_none, Nat.zero_add, if_true, if_false, hq]
    · simp (disch := omega) only [FX7_digest_L9, ↓lm1, n_ofN, l0, l1, l2, l3, l4, l5, l6, l7, l8, l10, l20, l47, l80, l100, l127, l200, l400, l600, l800, l1000, l1200, l1206, l1210, l1222, n_add, n_clamp, n_gd, n_le_t, n_le_f, n_lt_t, n_lt_f, n_eq_t, n_eq_f, n_no, n_on, n_oo, n_olt, n_nlo, n_ole, Option.bind_some, Option.bind_none, Nat.zero_add, if_true, if_false]
  have x2 : ∃ h', FX6_absorbRow roots 6 h1 (nI 0) (nI 6) = some h' ∧ FX6_absorbRow weaks 4 h' (nI 0) (nI 4) = some h2 := by
    have z1 := FX_row (row := roots) (nr := 6) (lo := 0) (n := 6) (by omega) (by omega) h1
    have z2 := fun h => FX_row (row := weaks) (nr := 4) (lo := 0) (n := 4) (by omega) (by omega) h
    rw [Nat.zero_add] at z1
    simp only [Nat.zero_add] at z2
    have q0 : hq (fun j => zmm (1200 + j)) h1 10 = hq (fun j => zmm (1200 + (6 + j))) (hq (fun j => zmm (1200 + j)) h1 6) 4 := hq_add (a := 6) 4
    have q1 : hq (fun j => roots (0 + j)) h1 6 = hq (fun j => zmm (1200 + j)) h1 6 := hq_congr 6 (fun j hj => by rw [Nat.zero_add]; exact hR j hj)
    have q2 : hq (fun j => weaks j) (hq (fun j => zmm (1200 + j)) h1 6) 4 = hq (fun j => zmm (1200 + (6 + j))) (hq (fun j => zmm (1200 + j)) h1 6) 4 := hq_congr 4 (fun j hj => by rw [hK j hj, show 1206 + j = 1200 + (6 + j) by omega])
    refine ⟨_, z1, ?_⟩
    rw [z2, hh2, q0, q1, q2]
  obtain ⟨h1', x2a, x2b⟩ := x2
  have y2 : g_it (FX7_digest_L32 zmm) (nI 0, h1) = some h2 := by
    rw [hh2]
    refine it_to (fun j => (nI j, hq (fun j => zmm (1200 + j)) h1 j)) 0 10 _ (by omega) (by omega) (fun i _ hi => ?_) ?_
    · simp (disch := omega) only [FX7_digest_L32, FX7_mixes, ↓lm1, n_ofN, l0, l1, l2, l3, l4, l5, l6, l7, l8, l10, l20, l47, l80, l100, l127, l200, l400, l600, l800, l1000, l1200, l1206, l1210, l1222, n_add, n_clamp, n_gd, n_le_t, n_le_f, n_lt_t, n_lt_f, n_eq_t, n_eq_f, n_no, n_on, n_oo, n_olt, n_nlo, n_ole, Option.bind_some, Option.bind_none, Nat.zero_add, if_true, if_false, hq]
    · simp (disch := omega) only [FX7_digest_L32, ↓lm1, n_ofN, l0, l1, l2, l3, l4, l5, l6, l7, l8, l10, l20, l47, l80, l100, l127, l200, l400, l600, l800, l1000, l1200, l1206, l1210, l1222, n_add, n_clamp, n_gd, n_le_t, n_le_f, n_lt_t, n_lt_f, n_eq_t, n_eq_f, n_no, n_on, n_oo, n_olt, n_nlo, n_ole, Option.bind_some, Option.bind_none, Nat.zero_add, if_true, if_false]
  have x3 : g_it (FX6_absorbObjects_L28 (nI W) owner fieldCount dataCount pinned age content T s') (h2, nI 0) = some h3 := by
    rw [hh3]
    exact FX_objs H hO hA (fun a ha h0 w hw8 => (hpv a ha h0 w hw8).1) W 0 g_fuel h2 (by omega) (by unfold g_fuel; omega)
  have x3' : FX6_absorbObjects (nI W) owner fieldCount dataCount pinned age content roots weaks queued steps queue tallies h2 = some (h3, nI nq, s', q', T) := by
    simp (disch := omega) only [FX6_absorbObjects, e1, e2, x3, ↓lm1, n_ofN, l0, l1, l2, l3, l4, l5, l6, l7, l8, l10, l20, l47, l80, l100, l127, l200, l400, l600, l800, l1000, l1200, l1206, l1210, l1222, n_add, n_clamp, n_gd, n_le_t, n_le_f, n_lt_t, n_lt_f, n_eq_t, n_eq_f, n_no, n_on, n_oo, n_olt, n_nlo, n_ole, Option.bind_some, Option.bind_none, Nat.zero_add, if_true, if_false]
  have y3a : g_it (FX7_objectFrom_L2 zmm) (nI 0) = some (eO (fh zmm W 0)) := FM_from H W 0 g_fuel (by omega) (by unfold g_fuel; omega)
  obtain ⟨far3, y3⟩ : ∃ far3, g_it (FX7_digest_L64 zmm) (eO (fh zmm W 0), h2, zfar) = some (h3, far3) := by
    rw [hh3]
    exact FM_objs H (fun a ha h0 w hw8 => (hpv a ha h0 w hw8).2) W 0 g_fuel h2 zfar (by omega) (by unfold g_fuel; omega)
  have x4 : FX6_absorbRow N 5 h3 (nI 0) (nI 5) = some h4 := by
    have z1 := FX_row (row := N) (nr := 5) (lo := 0) (n := 5) (by omega) (by omega) h3
    rw [Nat.zero_add] at z1
    rw [z1, hh4]
    exact congrArg some (hq_congr 5 (fun j hj => by rw [Nat.zero_add, rd5_pick (N := N) hj, m2]))
  have y4 : g_it (FX7_digest_L142 zmm) (nI 0, h3) = some h4 := by
    rw [hh4]
    refine it_to (fun j => (nI j, hq (fun j => pick5 (fives zmm W) j) h3 j)) 0 5 _ (by omega) (by omega) (fun i _ hi => ?_) ?_
    · simp (disch := omega) only [FX7_digest_L142, FM_free H (k := i) hi, FX7_mixes, ↓lm1, n_ofN, l0, l1, l2, l3, l4, l5, l6, l7, l8, l10, l20, l47, l80, l100, l127, l200, l400, l600, l800, l1000, l1200, l1206, l1210, l1222, n_add, n_clamp, n_gd, n_le_t, n_le_f, n_lt_t, n_lt_f, n_eq_t, n_eq_f, n_no, n_on, n_oo, n_olt, n_nlo, n_ole, Option.bind_some, Option.bind_none, Nat.zero_add, if_true, if_false, hq]
    · simp (disch := omega) only [FX7_digest_L142, ↓lm1, n_ofN, l0, l1, l2, l3, l4, l5, l6, l7, l8, l10, l20, l47, l80, l100, l127, l200, l400, l600, l800, l1000, l1200, l1206, l1210, l1222, n_add, n_clamp, n_gd, n_le_t, n_le_f, n_lt_t, n_lt_f, n_eq_t, n_eq_f, n_no, n_on, n_oo, n_olt, n_nlo, n_ole, Option.bind_some, Option.bind_none, Nat.zero_add, if_true, if_false]
  have xy5 : (if zmm 1219 ≤ nI 0 then some h4 else (FX6_absorbRow reports 6 h4 (nI 0) (nI 6)).bind (fun r22 => some r22)) = some h5 ∧ g_it (FX7_digest_L164 zmm) (nI 0, h4) = some h5 := by
    rcases hc.had hi with ⟨c1, c2⟩ | ⟨c, c0, cl, c1, c2⟩
    · rw [hh5, if_pos c1, c1]
      refine ⟨if_pos (nI_le (Nat.le_refl 0) (by omega)), ?_⟩
      have e : FX7_digest_L164 zmm (nI 0, h4) = some (.inr h4) := by
        have : ¬ zmm 1221 = nI 1 := by rw [c2]; decide
        simp (disch := omega) only [FX7_digest_L164, ↓lm1, n_ofN, l0, l1, l2, l3, l4, l5, l6, l7, l8, l10, l20, l47, l80, l100, l127, l200, l400, l600, l800, l1000, l1200, l1206, l1210, l1222, n_add, n_clamp, n_gd, n_le_t, n_le_f, n_lt_t, n_lt_f, n_eq_t, n_eq_f, n_no, n_on, n_oo, n_olt, n_nlo, n_ole, Option.bind_some, Option.bind_none, Nat.zero_add, if_true, if_false, if_neg this]
      show g_itn _ g_fuel _ = _
      unfold g_fuel
      simp only [g_itn, e]
    · have cne : ¬ zmm 1219 = nI 0 := by
        rw [c1]
        intro z
        have := (nI_eq (by omega) (by omega)).mp z
        omega
      have hrep := (hM (by rw [c2]; rfl)).2
      rw [hh5, if_neg cne]
      constructor
      · rw [c1, if_neg (fun z => nI_nlt (Nat.le_of_lt c0) (by omega) (Int32.lt_of_le_of_ne z (fun y => cne (by rw [c1]; exact y))))]
        have z1 := FX_row (row := reports) (nr := 6) (lo := 0) (n := 6) (by omega) (by omega) h4
        rw [Nat.zero_add] at z1
        rw [z1, Option.bind_some]
        exact congrArg some (hq_congr 6 (fun j hj => by rw [Nat.zero_add]; exact hrep j hj))
      · refine it_to (fun j => (nI j, hq (fun j => zmm (1210 + j)) h4 j)) 0 6 _ (by omega) (by omega) (fun i _ hi => ?_) ?_
        · simp (disch := omega) only [FX7_digest_L164, FX7_mixes, ↓lm1, n_ofN, l0, l1, l2, l3, l4, l5, l6, l7, l8, l10, l20, l47, l80, l100, l127, l200, l400, l600, l800, l1000, l1200, l1206, l1210, l1222, n_add, n_clamp, n_gd, n_le_t, n_le_f, n_lt_t, n_lt_f, n_eq_t, n_eq_f, n_no, n_on, n_oo, n_olt, n_nlo, n_ole, Option.bind_some, Option.bind_none, Nat.zero_add, if_true, if_false, if_pos c2, hq]
        · simp (disch := omega) only [FX7_digest_L164, ↓lm1, n_ofN, l0, l1, l2, l3, l4, l5, l6, l7, l8, l10, l20, l47, l80, l100, l127, l200, l400, l600, l800, l1000, l1200, l1206, l1210, l1222, n_add, n_clamp, n_gd, n_le_t, n_le_f, n_lt_t, n_lt_f, n_eq_t, n_eq_f, n_no, n_on, n_oo, n_olt, n_nlo, n_ole, Option.bind_some, Option.bind_none, Nat.zero_add, if_true, if_false]
  obtain ⟨x5, y5⟩ := xy5
  have x6 : FX6_absorbRow letters 80 h5 (nI 0) (nI n) = some h6 := by
    have z1 := FX_row (row := letters) (nr := 80) (lo := 0) (n := n) (by omega) (by omega) h5
    rw [Nat.zero_add] at z1
    rw [z1, hh6]
    exact congrArg some (hq_congr n (fun j hj => by rw [Nat.zero_add]; exact (hl j hj).1))
  have y6 : g_it (FX7_digest_L204 (nI n) ztext) (nI 0, h5) = some h6 := by
    rw [hh6]
    refine it_to (fun j => (nI j, hq (fun j => ztext j) h5 j)) 0 n _ (by omega) (by omega) (fun i _ hi => ?_) ?_
    · simp (disch := omega) only [FX7_digest_L204, FX7_mixes, ↓lm1, n_ofN, l0, l1, l2, l3, l4, l5, l6, l7, l8, l10, l20, l47, l80, l100, l127, l200, l400, l600, l800, l1000, l1200, l1206, l1210, l1222, n_add, n_clamp, n_gd, n_le_t, n_le_f, n_lt_t, n_lt_f, n_eq_t, n_eq_f, n_no, n_on, n_oo, n_olt, n_nlo, n_ole, Option.bind_some, Option.bind_none, Nat.zero_add, if_true, if_false, hq]
    · simp (disch := omega) only [FX7_digest_L204, ↓lm1, n_ofN, l0, l1, l2, l3, l4, l5, l6, l7, l8, l10, l20, l47, l80, l100, l127, l200, l400, l600, l800, l1000, l1200, l1206, l1210, l1222, n_add, n_clamp, n_gd, n_le_t, n_le_f, n_lt_t, n_lt_f, n_eq_t, n_eq_f, n_no, n_on, n_oo, n_olt, n_nlo, n_ole, Option.bind_some, Option.bind_none, Nat.zero_add, if_true, if_false]
  refine ⟨h6, nI nq, s', q', T, N, h6, far3, ?_, ?_, hu⟩
  · simp (disch := omega) only [FX6_digest, ↓lm1, n_ofN, l0, l1, l2, l3, l4, l5, l6, l7, l8, l10, l20, l47, l80, l100, l127, l200, l400, l600, l800, l1000, l1200, l1206, l1210, l1222, n_add, n_clamp, n_gd, n_le_t, n_le_f, n_lt_t, n_lt_f, n_eq_t, n_eq_f, n_no, n_on, n_oo, n_olt, n_nlo, n_ole, Option.bind_some, Option.bind_none, Nat.zero_add, if_true, if_false, hw, x1, x2a, x2b, x3', m1, x4, x5, x6]
  · simp (disch := omega) only [FX7_digest, FX7_objectFrom, ↓lm1, n_ofN, l0, l1, l2, l3, l4, l5, l6, l7, l8, l10, l20, l47, l80, l100, l127, l200, l400, l600, l800, l1000, l1200, l1206, l1210, l1222, n_add, n_clamp, n_gd, n_le_t, n_le_f, n_lt_t, n_lt_f, n_eq_t, n_eq_f, n_no, n_on, n_oo, n_olt, n_nlo, n_ole, Option.bind_some, Option.bind_none, Nat.zero_add, if_true, if_false, y1, y2, y3a, y3, y4, y5, y6]
