/-! the whole marking -/
theorem FX_begin (a b c d : Int32) (mk : Nat → Int32) : FX0_begin a b c d mk = some (nI 0, nI 0, nI 0, nI 0, fl mk 0 200 (nI 0)) := by
  have hl : g_it FX0_begin_L2 (nI 0, mk) = some (fl mk 0 200 (nI 0)) := by
    have h0 : (nI 0, mk) = (fun i => (nI i, fl mk 0 i (nI 0))) 0 := by
      show (nI 0, mk) = (nI 0, fl mk 0 0 (nI 0))
      rw [fl_0]
    rw [h0]
    refine it_to (fun i => (nI i, fl mk 0 i (nI 0))) 0 200 _ (by omega) (by omega) (fun i _ hi => ?_) ?_
    · simp (disch := omega) only [FX0_begin_L2, ↓lm1, n_ofN, l0, l1, l2, l3, l4, l5, l6, l7, l8, l10, l20, l47, l80, l100, l127, l200, l400, l600, l800, l1000, l1200, l1206, l1210, l1222, n_add, n_clamp, n_gd, n_le_t, n_le_f, n_lt_t, n_lt_f, n_eq_t, n_eq_f, n_no, n_on, n_oo, n_olt, n_nlo, n_ole, Option.bind_some, Option.bind_none, Nat.zero_add, if_true, if_false, fl_s (Nat.zero_le i)]
    · simp (disch := omega) only [FX0_begin_L2, ↓lm1, n_ofN, l0, l1, l2, l3, l4, l5, l6, l7, l8, l10, l20, l47, l80, l100, l127, l200, l400, l600, l800, l1000, l1200, l1206, l1210, l1222, n_add, n_clamp, n_gd, n_le_t, n_le_f, n_lt_t, n_lt_f, n_eq_t, n_eq_f, n_no, n_on, n_oo, n_olt, n_nlo, n_ole, Option.bind_some, Option.bind_none, Nat.zero_add, if_true, if_false]
  simp (disch := omega) only [FX0_begin, ↓lm1, n_ofN, l0, l1, l2, l3, l4, l5, l6, l7, l8, l10, l20, l47, l80, l100, l127, l200, l400, l600, l800, l1000, l1200, l1206, l1210, l1222, n_add, n_clamp, n_gd, n_le_t, n_le_f, n_lt_t, n_lt_f, n_eq_t, n_eq_f, n_no, n_on, n_oo, n_olt, n_nlo, n_ole, Option.bind_some, Option.bind_none, Nat.zero_add, if_true, if_false, hl]
theorem FM_begin (mk : Nat → Int32) : g_it FX7_marks_L2 (nI 0, mk) = some (fl mk 0 200 (nI 0)) := by
  have h0 : (nI 0, mk) = (fun i => (nI i, fl mk 0 i (nI 0))) 0 := by
    show (nI 0, mk) = (nI 0, fl mk 0 0 (nI 0))
    rw [fl_0]
  rw [h0]
  refine it_to (fun i => (nI i, fl mk 0 i (nI 0))) 0 200 _ (by omega) (by omega) (fun i _ hi => ?_) ?_
  · simp (disch := omega) only [FX7_marks_L2, ↓lm1, n_ofN, l0, l1, l2, l3, l4, l5, l6, l7, l8, l10, l20, l47, l80, l100, l127, l200, l400, l600, l800, l1000, l1200, l1206, l1210, l1222, n_add, n_clamp, n_gd, n_le_t, n_le_f, n_lt_t, n_lt_f, n_eq_t, n_eq_f, n_no, n_on, n_oo, n_olt, n_nlo, n_ole, Option.bind_some, Option.bind_none, Nat.zero_add, if_true, if_false, fl_s (Nat.zero_le i)]
  · simp (disch := omega) only [FX7_marks_L2, ↓lm1, n_ofN, l0, l1, l2, l3, l4, l5, l6, l7, l8, l10, l20, l47, l80, l100, l127, l200, l400, l600, l800, l1000, l1200, l1206, l1210, l1222, n_add, n_clamp, n_gd, n_le_t, n_le_f, n_lt_t, n_lt_f, n_eq_t, n_eq_f, n_no, n_on, n_oo, n_olt, n_nlo, n_ole, Option.bind_some, Option.bind_none, Nat.zero_add, if_true, if_false]
abbrev noP : Nat → Prop := fun _ => False
theorem mark_roots {mm owner fieldCount dataCount pinned age content roots : Nat → Int32} {W D U : Nat} (H : WF mm W) (hO : RO W mm owner) (hA : RA W mm fieldCount dataCount pinned age content) (hR : ∀ k, k < 6 → roots k = mm (1200 + k)) (hD : mm 1217 = nI D) (hD2 : D ≤ 20) {c r : S5} (M : MZ mm W D U noP c r) :
    ∃ c' r', g_it (FX0_mark_L6 (nI W) (nI D) owner fieldCount content roots) (nI 0, c) = some c' ∧ g_it (FX7_marks_L39 mm) (nI 0, r) = some r' ∧ MZ mm W D U noP c' r' := by
  have hW := H.size
  refine lock_ix (fun f s u => ∃ c r, s = (nI f, c) ∧ u = (nI f, r) ∧ MZ mm W D U noP c r) 6 (fun c r => MZ mm W D U noP c r) (nI 0, c) (nI 0, r) (by omega) ⟨c, r, rfl, rfl, M⟩ (fun f s u hlt hJ => ?_) (fun s u hJ => ?_)
  · obtain ⟨⟨c1, c2, c3, c4, c5⟩, ⟨r1, r2, r3, r4, r5⟩, rfl, rfl, M⟩ := hJ
    obtain ⟨x1, x2, x3, x4, x5, y1, y2, y3, y4, y5, d1, d2, d3, d4, d5, q1, q2, q3, q4, q5, e1, e3, e2, e4, M2⟩ := M.go H hO hA hD hD2 (mm (1200 + f))
    have hc := hR f hlt
    refine ⟨(nI (f + 1), d1, d2, d3, d4, d5), (nI (f + 1), q1, q2, q3, q4, q5), ?_, ?_, (d1, d2, d3, d4, d5), (q1, q2, q3, q4, q5), rfl, rfl, M2⟩
    · clear e2 e4 M M2
      simp (disch := omega) only [FX0_mark_L6, ↓lm1, n_ofN, l0, l1, l2, l3, l4, l5, l6, l7, l8, l10, l20, l47, l80, l100, l127, l200, l400, l600, l800, l1000, l1200, l1206, l1210, l1222, n_add, n_clamp, n_gd, n_le_t, n_le_f, n_lt_t, n_lt_f, n_eq_t, n_eq_f, n_no, n_on, n_oo, n_olt, n_nlo, n_ole, Option.bind_some, Option.bind_none, Nat.zero_add, if_true, if_false, hc, FX_objectAt hW.2 hO, e1, e3]
    · clear e1 e3 M M2
      simp (disch := omega) only [FX7_marks_L39, ↓lm1, n_ofN, l0, l1, l2, l3, l4, l5, l6, l7, l8, l10, l20, l47, l80, l100, l127, l200, l400, l600, l800, l1000, l1200, l1206, l1210, l1222, n_add, n_clamp, n_gd, n_le_t, n_le_f, n_lt_t, n_lt_f, n_eq_t, n_eq_f, n_no, n_on, n_oo, n_olt, n_nlo, n_ole, Option.bind_some, Option.bind_none, Nat.zero_add, if_true, if_false, e2, e4]
  · obtain ⟨⟨c1, c2, c3, c4, c5⟩, ⟨r1, r2, r3, r4, r5⟩, rfl, rfl, M⟩ := hJ
    refine ⟨_, _, ?_, ?_, M⟩
    · clear M
      simp (disch := omega) only [FX0_mark_L6, ↓lm1, n_ofN, l0, l1, l2, l3, l4, l5, l6, l7, l8, l10, l20, l47, l80, l100, l127, l200, l400, l600, l800, l1000, l1200, l1206, l1210, l1222, n_add, n_clamp, n_gd, n_le_t, n_le_f, n_lt_t, n_lt_f, n_eq_t, n_eq_f, n_no, n_on, n_oo, n_olt, n_nlo, n_ole, Option.bind_some, Option.bind_none, Nat.zero_add, if_true, if_false]
    · clear M
      simp (disch := omega) only [FX7_marks_L39, ↓lm1, n_ofN, l0, l1, l2, l3, l4, l5, l6, l7, l8, l10, l20, l47, l80, l100, l127, l200, l400, l600, l800, l1000, l1200, l1206, l1210, l1222, n_add, n_clamp, n_gd, n_le_t, n_le_f, n_lt_t, n_lt_f, n_eq_t, n_eq_f, n_no, n_on, n_oo, n_olt, n_nlo, n_ole, Option.bind_some, Option.bind_none, Nat.zero_add, if_true, if_false]
theorem mark_pins {mm owner fieldCount dataCount pinned age content : Nat → Int32} {W D U : Nat} (H : WF mm W) (hO : RO W mm owner) (hA : RA W mm fieldCount dataCount pinned age content) (hD : mm 1217 = nI D) (hD2 : D ≤ 20) {c r : S5} (M : MZ mm W D U noP c r) :
    ∃ c' r', g_it (FX0_mark_L43 (nI W) (nI D) owner fieldCount pinned content) (nI 0, c) = some c' ∧ g_it (FX7_marks_L71 mm) (nI 0, r) = some r' ∧ MZ mm W D U noP c' r' := by
  have hW := H.size
  have hw := H.hw
  have hN : ∀ a, a < W → 0 < zs mm a → pinned a = mm (400 + a) := fun a h1 h2 => (hA a h1 h2).2.2.1
  refine lock_ix (fun f s u => ∃ c r, s = (nI f, c) ∧ u = (nI f, r) ∧ MZ mm W D U noP c r) W (fun c r => MZ mm W D U noP c r) (nI 0, c) (nI 0, r) (by omega) ⟨c, r, rfl, rfl, M⟩ (fun a s u ha hJ => ?_) (fun s u hJ => ?_)
  · obtain ⟨⟨c1, c2, c3, c4, c5⟩, ⟨r1, r2, r3, r4, r5⟩, rfl, rfl, M⟩ := hJ
    have hz := H.sz (a := a) (by omega)
    have hz1 := hz.1
    have hz2 := hz.2
    have hp := FX_isPinned H hO hN ha
    cases hpn : pnB mm a with
    | true =>
      have hp2 : 0 < zs mm a ∧ mm (400 + a) = nI 1 := by simpa [pnB] using hpn
      have h0 := hp2.1
      have h4 := hp2.2
      rw [hpn] at hp
      have eo : eO (obI mm W (nI a)) = nI a := by
        rw [obI_nI ha hW.2, ob_self h0]
        rfl
      obtain ⟨x1, x2, x3, x4, x5, y1, y2, y3, y4, y5, d1, d2, d3, d4, d5, q1, q2, q3, q4, q5, e1, e3, e2, e4, M2⟩ := M.go H hO hA hD hD2 (nI a)
      rw [eo] at e1
      refine ⟨(nI (a + 1), d1, d2, d3, d4, d5), (nI (a + 1), q1, q2, q3, q4, q5), ?_, ?_, (d1, d2, d3, d4, d5), (q1, q2, q3, q4, q5), rfl, rfl, M2⟩
      · clear e2 e4 M M2 eo
        simp (disch := omega) only [FX0_mark_L43, hp, ↓lm1, n_ofN, l0, l1, l2, l3, l4, l5, l6, l7, l8, l10, l20, l47, l80, l100, l127, l200, l400, l600, l800, l1000, l1200, l1206, l1210, l1222, n_add, n_clamp, n_gd, n_le_t, n_le_f, n_lt_t, n_lt_f, n_eq_t, n_eq_f, n_no, n_on, n_oo, n_olt, n_nlo, n_ole, Option.bind_some, Option.bind_none, Nat.zero_add, if_true, if_false, e1, e3]
      · clear e1 e3 M M2 eo
        simp (disch := omega) only [FX7_marks_L71, hw, hz1, h4, ↓lm1, n_ofN, l0, l1, l2, l3, l4, l5, l6, l7, l8, l10, l20, l47, l80, l100, l127, l200, l400, l600, l800, l1000, l1200, l1206, l1210, l1222, n_add, n_clamp, n_gd, n_le_t, n_le_f, n_lt_t, n_lt_f, n_eq_t, n_eq_f, n_no, n_on, n_oo, n_olt, n_nlo, n_ole, Option.bind_some, Option.bind_none, Nat.zero_add, if_true, if_false, e2, e4]
    | false =>
      rw [hpn] at hp
      have e2 : FX7_reach r1 r2 r3 mm r4 r5 (eO none) = some (r1, r2, r3, r4, r5) := FM_reach0 H obI_none
      have hr : r1 = nI 0 := by
        obtain ⟨hi, ov, mk, mk', st, st', z1, z2, -⟩ := M
        cases z2
        rfl
      subst hr
      have e4 : FX7_drains (nI 0) r2 r3 mm r4 r5 = some (nI 0, r2, r3, r4, r5) := FM_drain0
      refine ⟨(nI (a + 1), c1, c2, c3, c4, c5), (nI (a + 1), nI 0, r2, r3, r4, r5), ?_, ?_, (c1, c2, c3, c4, c5), (nI 0, r2, r3, r4, r5), rfl, rfl, M⟩
      · clear e2 e4 M
        simp (disch := omega) only [FX0_mark_L43, hp, ↓lm1, n_ofN, l0, l1, l2, l3, l4, l5, l6, l7, l8, l10, l20, l47, l80, l100, l127, l200, l400, l600, l800, l1000, l1200, l1206, l1210, l1222, n_add, n_clamp, n_gd, n_le_t, n_le_f, n_lt_t, n_lt_f, n_eq_t, n_eq_f, n_no, n_on, n_oo, n_olt, n_nlo, n_ole, Option.bind_some, Option.bind_none, Nat.zero_add, if_true, if_false, Bool.false_eq_true]
      · by_cases h0 : zs mm a = 0
        · clear M hp
          simp (disch := omega) only [FX7_marks_L71, hw, hz1, ↓lm1, n_ofN, l0, l1, l2, l3, l4, l5, l6, l7, l8, l10, l20, l47, l80, l100, l127, l200, l400, l600, l800, l1000, l1200, l1206, l1210, l1222, n_add, n_clamp, n_gd, n_le_t, n_le_f, n_lt_t, n_lt_f, n_eq_t, n_eq_f, n_no, n_on, n_oo, n_olt, n_nlo, n_ole, Option.bind_some, Option.bind_none, Nat.zero_add, if_true, if_false, e2, e4]
        · have h4 : ¬ mm (400 + a) = nI 1 := fun z => by
            have : pnB mm a = true := by simp [pnB, z]; omega
            rw [hpn] at this
            cases this
          clear M hp
          simp (disch := omega) only [FX7_marks_L71, hw, hz1, ↓lm1, n_ofN, l0, l1, l2, l3, l4, l5, l6, l7, l8, l10, l20, l47, l80, l100, l127, l200, l400, l600, l800, l1000, l1200, l1206, l1210, l1222, n_add, n_clamp, n_gd, n_le_t, n_le_f, n_lt_t, n_lt_f, n_eq_t, n_eq_f, n_no, n_on, n_oo, n_olt, n_nlo, n_ole, Option.bind_some, Option.bind_none, Nat.zero_add, if_true, if_false, if_neg h4, e2, e4]
  · obtain ⟨⟨c1, c2, c3, c4, c5⟩, ⟨r1, r2, r3, r4, r5⟩, rfl, rfl, M⟩ := hJ
    refine ⟨_, _, ?_, ?_, M⟩
    · clear M
      simp (disch := omega) only [FX0_mark_L43, ↓lm1, n_ofN, l0, l1, l2, l3, l4, l5, l6, l7, l8, l10, l20, l47, l80, l100, l127, l200, l400, l600, l800, l1000, l1200, l1206, l1210, l1222, n_add, n_clamp, n_gd, n_le_t, n_le_f, n_lt_t, n_lt_f, n_eq_t, n_eq_f, n_no, n_on, n_oo, n_olt, n_nlo, n_ole, Option.bind_some, Option.bind_none, Nat.zero_add, if_true, if_false]
    · clear M
      simp (disch := omega) only [FX7_marks_L71, hw, ↓lm1, n_ofN, l0, l1, l2, l3, l4, l5, l6, l7, l8, l10, l20, l47, l80, l100, l127, l200, l400, l600, l800, l1000, l1200, l1206, l1210, l1222, n_add, n_clamp, n_gd, n_le_t, n_le_f, n_lt_t, n_lt_f, n_eq_t, n_eq_f, n_no, n_on, n_oo, n_olt, n_nlo, n_ole, Option.bind_some, Option.bind_none, Nat.zero_add, if_true, if_false]
theorem mark_scans {mm owner fieldCount dataCount pinned age content : Nat → Int32} {W D : Nat} (H : WF mm W) (hO : RO W mm owner) (hA : RA W mm fieldCount dataCount pinned age content) (hD : mm 1217 = nI D) (hD2 : D ≤ 20) {hi ov : Nat} {mk mk' st st' : Nat → Int32} (m2 : hi ≤ 20) (m3 : ov ≤ 1) (m4 : MK mm W mk mk') (m7 : um mk + ov ≤ 200) :
    ∃ (n hi2 ov2 : Nat) (mk2 mk2' st2 st2' : Nat → Int32), g_it (FX0_mark_L81 (nI W) (nI D) owner fieldCount content) (nI 0, nI 0, nI hi, nI 0, nI ov, mk, st) = some (nI 0, nI hi2, nI n, nI ov2, mk2, st2) ∧ g_it (FX7_marks_L129 mm) (nI 0, nI 0, nI hi, nI ov, mk', st') = some (nI n, nI 0, nI hi2, nI ov2, mk2', st2') ∧ MK mm W mk2 mk2' := by
  have hW := H.size
  have key := lockg (f := FX0_mark_L81 (nI W) (nI D) owner fieldCount content) (g := FX7_marks_L129 mm) (fun s u => ∃ (i hi ov : Nat) (mk mk' st st' : Nat → Int32), s = (nI i, nI 0, nI hi, nI i, nI ov, mk, st) ∧ u = (nI i, nI 0, nI hi, nI ov, mk', st') ∧ i ≤ 200 ∧ hi ≤ 20 ∧ ov ≤ 1 ∧ MK mm W mk mk' ∧ um mk + ov ≤ 200 - i) (fun s => 200 - s.1.toNatClampNeg)
    (fun s u => ∃ (n hi2 ov2 : Nat) (mk2 mk2' st2 st2' : Nat → Int32), s = (nI 0, nI hi2, nI n, nI ov2, mk2, st2) ∧ u = (nI n, nI 0, nI hi2, nI ov2, mk2', st2') ∧ MK mm W mk2 mk2') (fun s u hI => ?_) (nI 0, nI 0, nI hi, nI 0, nI ov, mk, st) (nI 0, nI 0, nI hi, nI ov, mk', st') ⟨0, hi, ov, mk, mk', st, st', rfl, rfl, by omega, m2, m3, m4, m7⟩ (by
    show 200 - (nI 0).toNatClampNeg < 1000000
    omega)
  · obtain ⟨s, u, k1, k2, n, hi2, ov2, mk2, mk2', st2, st2', rfl, rfl, k3⟩ := key
    exact ⟨n, hi2, ov2, mk2, mk2', st2, st2', k1, k2, k3⟩
  · obtain ⟨i, hi, ov, mk, mk', st, st', rfl, rfl, hi1, m2, m3, m4, m7⟩ := hI
    by_cases h0 : ov = 0
    · subst h0
      refine Or.inr ⟨(nI 0, nI hi, nI i, nI 0, mk, st), (nI i, nI 0, nI hi, nI 0, mk', st'), ?_, ?_, i, hi, 0, mk, mk', st, st', rfl, rfl, m4⟩
      · clear m4 m7
        by_cases hq : i = 200
        · simp (disch := omega) only [FX0_mark_L81, ↓lm1, n_ofN, l0, l1, l2, l3, l4, l5, l6, l7, l8, l10, l20, l47, l80, l100, l127, l200, l400, l600, l800, l1000, l1200, l1206, l1210, l1222, n_add, n_clamp, n_gd, n_le_t, n_le_f, n_lt_t, n_lt_f, n_eq_t, n_eq_f, n_no, n_on, n_oo, n_olt, n_nlo, n_ole, Option.bind_some, Option.bind_none, Nat.zero_add, if_true, if_false]
        · simp (disch := omega) only [FX0_mark_L81, ↓lm1, n_ofN, l0, l1, l2, l3, l4, l5, l6, l7, l8, l10, l20, l47, l80, l100, l127, l200, l400, l600, l800, l1000, l1200, l1206, l1210, l1222, n_add, n_clamp, n_gd, n_le_t, n_le_f, n_lt_t, n_lt_f, n_eq_t, n_eq_f, n_no, n_on, n_oo, n_olt, n_nlo, n_ole, Option.bind_some, Option.bind_none, Nat.zero_add, if_true, if_false]
      · clear m4 m7
        simp (disch := omega) only [FX7_marks_L129, ↓lm1, n_ofN, l0, l1, l2, l3, l4, l5, l6, l7, l8, l10, l20, l47, l80, l100, l127, l200, l400, l600, l800, l1000, l1200, l1206, l1210, l1222, n_add, n_clamp, n_gd, n_le_t, n_le_f, n_lt_t, n_lt_f, n_eq_t, n_eq_f, n_no, n_on, n_oo, n_olt, n_nlo, n_ole, Option.bind_some, Option.bind_none, Nat.zero_add, if_true, if_false]
    · have h1 : ov = 1 := by omega
      subst h1
      have hlt : i < 200 := by omega
      obtain ⟨c1, c2, c3, c4, c5, r1, r2, r3, r4, r5, k1, k2, k3⟩ := scan_eq H hO hA hD hD2 (U := 200 - (i + 1)) (sc := nI i) (ov := nI 1) (st := st) (st' := st') m2 m4 (by omega)
      refine Or.inl ⟨(nI (i + 1), c1, c2, nI (i + 1), c3, c4, c5), (nI (i + 1), r1, r2, r3, r4, r5), ?_, ?_, ?_, ?_⟩
      · clear k2 k3 m4 m7
        simp (disch := omega) only [FX0_mark_L81, ↓lm1, n_ofN, l0, l1, l2, l3, l4, l5, l6, l7, l8, l10, l20, l47, l80, l100, l127, l200, l400, l600, l800, l1000, l1200, l1206, l1210, l1222, n_add, n_clamp, n_gd, n_le_t, n_le_f, n_lt_t, n_lt_f, n_eq_t, n_eq_f, n_no, n_on, n_oo, n_olt, n_nlo, n_ole, Option.bind_some, Option.bind_none, Nat.zero_add, if_true, if_false, k1]
      · clear k1 k3 m4 m7
        simp (disch := omega) only [FX7_marks_L129, ↓lm1, n_ofN, l0, l1, l2, l3, l4, l5, l6, l7, l8, l10, l20, l47, l80, l100, l127, l200, l400, l600, l800, l1000, l1200, l1206, l1210, l1222, n_add, n_clamp, n_gd, n_le_t, n_le_f, n_lt_t, n_lt_f, n_eq_t, n_eq_f, n_no, n_on, n_oo, n_olt, n_nlo, n_ole, Option.bind_some, Option.bind_none, Nat.zero_add, if_true, if_false, k2]
      · obtain ⟨hi2, ov2, mk2, mk2', st2, st2', z1, z2, p2, p3, p4, p7, p8⟩ := k3
        cases z1
        cases z2
        exact ⟨i + 1, hi2, ov2, _, _, _, _, rfl, rfl, by omega, p2, p3, p4, p7⟩
      · show 200 - (nI (i + 1)).toNatClampNeg < 200 - (nI i).toNatClampNeg
        rw [n_clamp (by omega), n_clamp (by omega)]
        omega
theorem mark_eq {mm owner fieldCount dataCount pinned age content roots : Nat → Int32} {W D : Nat} (H : WF mm W) (hO : RO W mm owner) (hA : RA W mm fieldCount dataCount pinned age content) (hR : ∀ k, k < 6 → roots k = mm (1200 + k)) (hD : mm 1217 = nI D) (hD2 : D ≤ 20) (stacked deepest scans overflow ztop zhi zov : Int32) (marked stack zmarked zstack : Nat → Int32) :
    ∃ hi sc ov mk mk' st st', FX0_mark stacked deepest scans overflow marked stack (nI W) (nI D) owner fieldCount pinned content roots = some (nI 0, nI hi, nI sc, nI ov, mk, st) ∧ FX7_marks ztop zhi zov mm zmarked zstack = some (nI sc, nI 0, nI hi, nI ov, mk', st') ∧ MK mm W mk mk' := by
  have hW := H.size
  have M0 : MZ mm W D 200 noP (nI 0, nI 0, nI 0, fl marked 0 200 (nI 0), stack) (nI 0, nI 0, nI 0, fl zmarked 0 200 (nI 0), zstack) := by
    have := um_le (fl marked 0 200 (nI 0))
    refine ⟨0, 0, _, _, stack, zstack, rfl, rfl, by omega, by omega, fun h hh => ?_, by omega, fun h z => z.elim⟩
    rw [fl_in (Nat.zero_le h) hh, fl_in (Nat.zero_le h) hh]
    exact ⟨rfl, Or.inl rfl⟩
  obtain ⟨⟨c1, c2, c3, c4, c5⟩, ⟨r1, r2, r3, r4, r5⟩, k1, k2, M1⟩ := mark_roots H hO hA hR hD hD2 M0
  obtain ⟨⟨d1, d2, d3, d4, d5⟩, ⟨q1, q2, q3, q4, q5⟩, k3, k4, M2⟩ := mark_pins H hO hA hD hD2 M1
  obtain ⟨hi1, ov1, mk1, mk1', st1, st1', z1, z2, m2, m3, m4, m7, m8⟩ := M2
  obtain ⟨n, hi, ov, mk, mk', st, st', k5, k6, M3⟩ := mark_scans H hO hA hD hD2 (st := st1) (st' := st1') m2 m3 m4 m7
  rw [z1] at k3
  rw [z2] at k4
  refine ⟨hi, n, ov, mk, mk', st, st', ?_, ?_, M3⟩
  · clear k2 k4 k6 M0 M1 m4 m8
    simp only [FX0_mark, FX_begin, Option.bind_some, l0, k1, k3, k5]
  · clear k1 k3 k5 M0 M1 m4 m8
    simp only [FX7_marks, l0, FM_begin, Option.bind_some, k2, k4, k6]
