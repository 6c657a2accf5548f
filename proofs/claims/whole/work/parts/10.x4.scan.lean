/-! a scan -/
theorem MZ.at_ {mm : Nat → Int32} {W D U : Nat} {P : Nat → Prop} {c1 c2 c3 r1 r2 r3 : Int32} {c4 c5 r4 r5 : Nat → Int32} (M : MZ mm W D U P (c1, c2, c3, c4, c5) (r1, r2, r3, r4, r5)) {a : Nat} (ha : a < 200) (hP : P a) : r4 a = nI 1 := by
  obtain ⟨hi, ov, mk, mk', st, st', e1, e2, m2, m3, m4, m7, m8⟩ := M
  cases e1
  cases e2
  rw [← (m4 a ha).1]
  exact m8 a hP
theorem MZ.cells {mm owner fieldCount dataCount pinned age content : Nat → Int32} {W D U : Nat} {P : Nat → Prop} (H : WF mm W) (hO : RO W mm owner) (hA : RA W mm fieldCount dataCount pinned age content) (hD : mm 1217 = nI D) (hD2 : D ≤ 20) {a : Nat} (ha : a < W) (h0 : 0 < zs mm a) (hP : P a) {c r : S5} (M : MZ mm W D U P c r) :
    ∃ c' r', g_it (FX0_scan_L36 (nI W) (nI D) owner fieldCount content (nI a)) (nI 0, c) = some c' ∧ g_it (FX7_scans_L16 mm (nI a)) (nI 1, r) = some r' ∧ MZ mm W D U P c' r' := by
  have hW := H.size
  have h6 := (H.hd (a := a) (by omega) h0).2.2
  obtain ⟨b1, -, -, -, b5⟩ := hA a ha h0
  have hz := (H.sz (a := a) (by omega)).1
  have hf := h6.1
  have hz6 := h6.2.1
  have hz1 := h6.2.2.1
  have hz2 := (H.hd (a := a) (by omega) h0).1
  have hz3 := (H.sz (a := a) (by omega)).2
  clear h6
  refine lock_ix (fun f s u => ∃ c r, s = (nI f, c) ∧ u = (nI (f + 1), r) ∧ MZ mm W D U P c r) (zf mm a) (fun c r => MZ mm W D U P c r) (nI 0, c) (nI 1, r) (by omega) ⟨c, r, rfl, rfl, M⟩ (fun f s u hlt hJ => ?_) (fun s u hJ => ?_)
  · obtain ⟨⟨c1, c2, c3, c4, c5⟩, ⟨r1, r2, r3, r4, r5⟩, rfl, rfl, M⟩ := hJ
    obtain ⟨x1, x2, x3, x4, x5, y1, y2, y3, y4, y5, d1, d2, d3, d4, d5, q1, q2, q3, q4, q5, e1, e3, e2, e4, M2⟩ := M.go H hO hA hD hD2 (mm (800 + a + (f + 1)))
    have hc := b5 (f + 1) (by omega) (by omega)
    rw [show a + (f + 1) = a + 1 + f by omega] at hc
    have hm := M.at_ (a := a) (by omega) hP
    refine ⟨(nI (f + 1), d1, d2, d3, d4, d5), (nI (f + 1 + 1), q1, q2, q3, q4, q5), ?_, ?_, (d1, d2, d3, d4, d5), (q1, q2, q3, q4, q5), rfl, rfl, M2⟩
    · clear e2 e4 M M2 b5 hm
      simp (disch := omega) only [FX0_scan_L36, ↓lm1, n_ofN, l0, l1, l2, l3, l4, l5, l6, l7, l8, l10, l20, l47, l80, l100, l127, l200, l400, l600, l800, l1000, l1200, l1206, l1210, l1222, n_add, n_clamp, n_gd, n_le_t, n_le_f, n_lt_t, n_lt_f, n_eq_t, n_eq_f, n_no, n_on, n_oo, n_olt, n_nlo, n_ole, Option.bind_some, Option.bind_none, Nat.zero_add, if_true, if_false, b1, hf, hc, FX_objectAt hW.2 hO, e1, e3]
    · clear e1 e3 M M2 b5
      simp (disch := omega) only [FX7_scans_L16, ↓lm1, n_ofN, l0, l1, l2, l3, l4, l5, l6, l7, l8, l10, l20, l47, l80, l100, l127, l200, l400, l600, l800, l1000, l1200, l1206, l1210, l1222, n_add, n_clamp, n_gd, n_le_t, n_le_f, n_lt_t, n_lt_f, n_eq_t, n_eq_f, n_no, n_on, n_oo, n_olt, n_nlo, n_ole, Option.bind_some, Option.bind_none, Nat.zero_add, if_true, if_false, hz, hf, hm, e2, e4]
  · obtain ⟨⟨c1, c2, c3, c4, c5⟩, ⟨r1, r2, r3, r4, r5⟩, rfl, rfl, M⟩ := hJ
    refine ⟨_, _, ?_, ?_, M⟩
    · clear M b5
      simp (disch := omega) only [FX0_scan_L36, ↓lm1, n_ofN, l0, l1, l2, l3, l4, l5, l6, l7, l8, l10, l20, l47, l80, l100, l127, l200, l400, l600, l800, l1000, l1200, l1206, l1210, l1222, n_add, n_clamp, n_gd, n_le_t, n_le_f, n_lt_t, n_lt_f, n_eq_t, n_eq_f, n_no, n_on, n_oo, n_olt, n_nlo, n_ole, Option.bind_some, Option.bind_none, Nat.zero_add, if_true, if_false, b1, hf]
    · clear M b5
      simp (disch := omega) only [FX7_scans_L16, ↓lm1, n_ofN, l0, l1, l2, l3, l4, l5, l6, l7, l8, l10, l20, l47, l80, l100, l127, l200, l400, l600, l800, l1000, l1200, l1206, l1210, l1222, n_add, n_clamp, n_gd, n_le_t, n_le_f, n_lt_t, n_lt_f, n_eq_t, n_eq_f, n_no, n_on, n_oo, n_olt, n_nlo, n_ole, Option.bind_some, Option.bind_none, Nat.zero_add, if_true, if_false, hf]
theorem FM_cells0 {mm : Nat → Int32} {W a : Nat} (H : WF mm W) (ha : a < 200) {r1 r2 r3 : Int32} {r4 r5 : Nat → Int32} (hm : r4 a = nI 0) : g_it (FX7_scans_L16 mm (nI a)) (nI 1, r1, r2, r3, r4, r5) = some (r1, r2, r3, r4, r5) := by
  have hz := H.sz ha
  have hz1 := hz.1
  have hz2 := hz.2
  refine it_now ?_
  by_cases hc : mm (200 + a) < nI 1
  · simp (disch := omega) only [FX7_scans_L16, ↓lm1, n_ofN, l0, l1, l2, l3, l4, l5, l6, l7, l8, l10, l20, l47, l80, l100, l127, l200, l400, l600, l800, l1000, l1200, l1206, l1210, l1222, n_add, n_clamp, n_gd, n_le_t, n_le_f, n_lt_t, n_lt_f, n_eq_t, n_eq_f, n_no, n_on, n_oo, n_olt, n_nlo, n_ole, Option.bind_some, Option.bind_none, Nat.zero_add, if_true, if_false, if_pos hc]
  · by_cases h0 : zs mm a = 0
    · simp (disch := omega) only [FX7_scans_L16, ↓lm1, n_ofN, l0, l1, l2, l3, l4, l5, l6, l7, l8, l10, l20, l47, l80, l100, l127, l200, l400, l600, l800, l1000, l1200, l1206, l1210, l1222, n_add, n_clamp, n_gd, n_le_t, n_le_f, n_lt_t, n_lt_f, n_eq_t, n_eq_f, n_no, n_on, n_oo, n_olt, n_nlo, n_ole, Option.bind_some, Option.bind_none, Nat.zero_add, if_true, if_false, if_neg hc, hz1]
    · simp (disch := omega) only [FX7_scans_L16, ↓lm1, n_ofN, l0, l1, l2, l3, l4, l5, l6, l7, l8, l10, l20, l47, l80, l100, l127, l200, l400, l600, l800, l1000, l1200, l1206, l1210, l1222, n_add, n_clamp, n_gd, n_le_t, n_le_f, n_lt_t, n_lt_f, n_eq_t, n_eq_f, n_no, n_on, n_oo, n_olt, n_nlo, n_ole, Option.bind_some, Option.bind_none, Nat.zero_add, if_true, if_false, if_neg hc, hz1, hm]
theorem scan_eq {mm owner fieldCount dataCount pinned age content : Nat → Int32} {W D U : Nat} (H : WF mm W) (hO : RO W mm owner) (hA : RA W mm fieldCount dataCount pinned age content) (hD : mm 1217 = nI D) (hD2 : D ≤ 20) {hi : Nat} {sc ov : Int32} {mk mk' st st' : Nat → Int32} (hh : hi ≤ 20) (m4 : MK mm W mk mk') (m7 : um mk ≤ U) :
    ∃ c1 c2 c3 c4 c5 r1 r2 r3 r4 r5, FX0_scan (nI 0) (nI hi) sc ov mk st (nI W) (nI D) owner fieldCount content = some (c1, c2, sc + nI 1, c3, c4, c5) ∧ FX7_scans (nI 0) (nI hi) (nI 0) mm mk' st' = some (r1, r2, r3, r4, r5) ∧ MZ mm W D U (fun _ => False) (c1, c2, c3, c4, c5) (r1, r2, r3, r4, r5) := by
  have hW := H.size
  have hw := H.hw
  have M0 : MZ mm W D U (fun _ => False) (nI 0, nI hi, nI 0, mk, st) (nI 0, nI hi, nI 0, mk', st') := ⟨hi, 0, mk, mk', st, st', rfl, rfl, hh, by omega, m4, by omega, fun h z => z.elim⟩
  have key := lock_ix (f := FX0_scan_L17 (nI W) (nI D) owner fieldCount content) (g := FX7_scans_L2 mm) (fun a s u => ∃ c r, s = (nI a, c) ∧ u = (nI a, r) ∧ MZ mm W D U (fun _ => False) c r) W (fun c r => MZ mm W D U (fun _ => False) c r) (nI 0, nI 0, nI hi, nI 0, mk, st) (nI 0, nI 0, nI hi, nI 0, mk', st') (by omega) ⟨_, _, rfl, rfl, M0⟩ (fun a s u ha hJ => ?_) (fun s u hJ => ?_)
  · obtain ⟨⟨c1, c2, c3, c4, c5⟩, ⟨r1, r2, r3, r4, r5⟩, k1, k2, k3⟩ := key
    refine ⟨c1, c2, c3, c4, c5, r1, r2, r3, r4, r5, ?_, ?_, k3⟩
    · unfold FX0_scan
      rw [l0, k1]
      rfl
    · unfold FX7_scans
      rw [l0, k2]
      rfl
  · obtain ⟨c, r, rfl, rfl, hi, ov, mk, mk', st, st', rfl, rfl, m2, m3, m4, m7, m8⟩ := hJ
    obtain ⟨q1, q2⟩ := m4 a (by omega)
    rcases q2 with q2 | ⟨q2, q3, q4⟩
    · have e := FM_cells0 H (a := a) (by omega) (r1 := nI 0) (r2 := nI hi) (r3 := nI ov) (r4 := mk') (r5 := st') (q1.symm.trans q2)
      refine ⟨(nI (a + 1), nI 0, nI hi, nI ov, mk, st), (nI (a + 1), nI 0, nI hi, nI ov, mk', st'), ?_, ?_, _, _, rfl, rfl, hi, ov, mk, mk', st, st', rfl, rfl, m2, m3, m4, m7, m8⟩
      · clear e
        simp (disch := omega) only [FX0_scan_L17, ↓lm1, n_ofN, l0, l1, l2, l3, l4, l5, l6, l7, l8, l10, l20, l47, l80, l100, l127, l200, l400, l600, l800, l1000, l1200, l1206, l1210, l1222, n_add, n_clamp, n_gd, n_le_t, n_le_f, n_lt_t, n_lt_f, n_eq_t, n_eq_f, n_no, n_on, n_oo, n_olt, n_nlo, n_ole, Option.bind_some, Option.bind_none, Nat.zero_add, if_true, if_false, q2]
      · simp (disch := omega) only [FX7_scans_L2, hw, ↓lm1, n_ofN, l0, l1, l2, l3, l4, l5, l6, l7, l8, l10, l20, l47, l80, l100, l127, l200, l400, l600, l800, l1000, l1200, l1206, l1210, l1222, n_add, n_clamp, n_gd, n_le_t, n_le_f, n_lt_t, n_lt_f, n_eq_t, n_eq_f, n_no, n_on, n_oo, n_olt, n_nlo, n_ole, Option.bind_some, Option.bind_none, Nat.zero_add, if_true, if_false, e]
    · have M1 : MZ mm W D U (fun h => h = a) (nI 0, nI hi, nI ov, mk, st) (nI 0, nI hi, nI ov, mk', st') := ⟨hi, ov, mk, mk', st, st', rfl, rfl, m2, m3, m4, m7, fun h z => z ▸ q2⟩
      obtain ⟨⟨c1, c2, c3, c4, c5⟩, ⟨r1, r2, r3, r4, r5⟩, k1, k2, k3⟩ := MZ.cells (P := fun h => h = a) H hO hA hD hD2 ha q4 rfl M1
      refine ⟨(nI (a + 1), c1, c2, c3, c4, c5), (nI (a + 1), r1, r2, r3, r4, r5), ?_, ?_, _, _, rfl, rfl, k3.weak (fun x z => z.elim)⟩
      · clear k2 k3 M1
        simp (disch := omega) only [FX0_scan_L17, ↓lm1, n_ofN, l0, l1, l2, l3, l4, l5, l6, l7, l8, l10, l20, l47, l80, l100, l127, l200, l400, l600, l800, l1000, l1200, l1206, l1210, l1222, n_add, n_clamp, n_gd, n_le_t, n_le_f, n_lt_t, n_lt_f, n_eq_t, n_eq_f, n_no, n_on, n_oo, n_olt, n_nlo, n_ole, Option.bind_some, Option.bind_none, Nat.zero_add, if_true, if_false, q2, k1]
      · clear k1 k3 M1
        simp (disch := omega) only [FX7_scans_L2, hw, ↓lm1, n_ofN, l0, l1, l2, l3, l4, l5, l6, l7, l8, l10, l20, l47, l80, l100, l127, l200, l400, l600, l800, l1000, l1200, l1206, l1210, l1222, n_add, n_clamp, n_gd, n_le_t, n_le_f, n_lt_t, n_lt_f, n_eq_t, n_eq_f, n_no, n_on, n_oo, n_olt, n_nlo, n_ole, Option.bind_some, Option.bind_none, Nat.zero_add, if_true, if_false, k2]
  · obtain ⟨⟨c1, c2, c3, c4, c5⟩, ⟨r1, r2, r3, r4, r5⟩, rfl, rfl, M⟩ := hJ
    refine ⟨_, _, ?_, ?_, M⟩
    · clear M
      simp (disch := omega) only [FX0_scan_L17, ↓lm1, n_ofN, l0, l1, l2, l3, l4, l5, l6, l7, l8, l10, l20, l47, l80, l100, l127, l200, l400, l600, l800, l1000, l1200, l1206, l1210, l1222, n_add, n_clamp, n_gd, n_le_t, n_le_f, n_lt_t, n_lt_f, n_eq_t, n_eq_f, n_no, n_on, n_oo, n_olt, n_nlo, n_ole, Option.bind_some, Option.bind_none, Nat.zero_add, if_true, if_false]
    · clear M
      simp (disch := omega) only [FX7_scans_L2, hw, ↓lm1, n_ofN, l0, l1, l2, l3, l4, l5, l6, l7, l8, l10, l20, l47, l80, l100, l127, l200, l400, l600, l800, l1000, l1200, l1206, l1210, l1222, n_add, n_clamp, n_gd, n_le_t, n_le_f, n_lt_t, n_lt_f, n_eq_t, n_eq_f, n_no, n_on, n_oo, n_olt, n_nlo, n_ole, Option.bind_some, Option.bind_none, Nat.zero_add, if_true, if_false]
