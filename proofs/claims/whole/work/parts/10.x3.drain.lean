/-! draining the stack -/
def MZ (mm : Nat → Int32) (W D U : Nat) (P : Nat → Prop) (c r : S5) : Prop := ∃ (hi ov : Nat) (mk mk' st st' : Nat → Int32), c = (nI 0, nI hi, nI ov, mk, st) ∧ r = (nI 0, nI hi, nI ov, mk', st') ∧ hi ≤ 20 ∧ ov ≤ 1 ∧ MK mm W mk mk' ∧ um mk + ov ≤ U ∧ ∀ h, P h → mk h = nI 1
theorem MZ.mb {mm : Nat → Int32} {W D U : Nat} {P : Nat → Prop} {c r : S5} (M : MZ mm W D U P c r) : MB mm W D 200 U P c r := by
  obtain ⟨hi, ov, mk, mk', st, st', e1, e2, m2, m3, m4, m7, m8⟩ := M
  have := um_le mk
  exact ⟨0, hi, ov, mk, mk', st, st', e1, e2, Nat.zero_le _, m2, m3, m4, fun j hj => absurd hj (Nat.not_lt_zero _), by omega, m7, m8⟩
theorem MZ.weak {mm : Nat → Int32} {W D U : Nat} {P Q : Nat → Prop} {c r : S5} (M : MZ mm W D U P c r) (h : ∀ x, Q x → P x) : MZ mm W D U Q c r := by
  obtain ⟨hi, ov, mk, mk', st, st', e1, e2, m2, m3, m4, m7, m8⟩ := M
  exact ⟨hi, ov, mk, mk', st, st', e1, e2, m2, m3, m4, m7, fun x hx => m8 x (h x hx)⟩
theorem MB.fields {mm owner fieldCount dataCount pinned age content : Nat → Int32} {W D B U : Nat} {P : Nat → Prop} (H : WF mm W) (hO : RO W mm owner) (hA : RA W mm fieldCount dataCount pinned age content) (hD : mm 1217 = nI D) (hD2 : D ≤ 20) {T h : Nat} {st st' : Nat → Int32} (hT : 1 ≤ T) (hT2 : T ≤ 20) (hs : st (T - 1) = nI h) (hs' : st' (T - 1) = nI h) (hh : h < W) (h0 : 0 < zs mm h) {c r : S5} (M : MB mm W D B U P c r) :
    ∃ c' r', g_it (FX0_drain_L39 (nI W) (nI D) owner fieldCount content (nI T) st) (nI 0, c) = some c' ∧ g_it (FX7_drains_L29 mm (nI T) st') (nI 1, r) = some r' ∧ MB mm W D B U P c' r' := by
  have hW := H.size
  have h6 := (H.hd (a := h) (by omega) h0).2.2
  obtain ⟨b1, -, -, -, b5⟩ := hA h hh h0
  have hf := h6.1
  have hz6 := h6.2.1
  have hz1 := h6.2.2.1
  have hz2 := (H.hd (a := h) (by omega) h0).1
  clear h6
  refine lock_ix (fun f s u => ∃ c r, s = (nI f, c) ∧ u = (nI (f + 1), r) ∧ MB mm W D B U P c r) (zf mm h) (fun c r => MB mm W D B U P c r) (nI 0, c) (nI 1, r) (by omega) ⟨c, r, rfl, rfl, M⟩ (fun f s u hlt hJ => ?_) (fun s u hJ => ?_)
  · obtain ⟨⟨c1, c2, c3, c4, c5⟩, ⟨r1, r2, r3, r4, r5⟩, rfl, rfl, M⟩ := hJ
    obtain ⟨⟨d1, d2, d3, d4, d5⟩, ⟨q1, q2, q3, q4, q5⟩, e1, e2, M2⟩ := M.visit H hD hD2 (mm (800 + h + (f + 1)))
    have hc := b5 (f + 1) (by omega) (by omega)
    rw [show h + (f + 1) = h + 1 + f by omega] at hc
    refine ⟨(nI (f + 1), d1, d2, d3, d4, d5), (nI (f + 1 + 1), q1, q2, q3, q4, q5), ?_, ?_, (d1, d2, d3, d4, d5), (q1, q2, q3, q4, q5), rfl, rfl, M2⟩
    · clear e2 M M2 b5
      simp (disch := omega) only [FX0_drain_L39, n_sub, ↓lm1, n_ofN, l0, l1, l2, l3, l4, l5, l6, l7, l8, l10, l20, l47, l80, l100, l127, l200, l400, l600, l800, l1000, l1200, l1206, l1210, l1222, n_add, n_clamp, n_gd, n_le_t, n_le_f, n_lt_t, n_lt_f, n_eq_t, n_eq_f, n_no, n_on, n_oo, n_olt, n_nlo, n_ole, Option.bind_some, Option.bind_none, Nat.zero_add, if_true, if_false, hs, b1, hf, hc, FX_objectAt hW.2 hO, e1]
    · clear e1 M M2 b5
      simp (disch := omega) only [FX7_drains_L29, n_sub, ↓lm1, n_ofN, l0, l1, l2, l3, l4, l5, l6, l7, l8, l10, l20, l47, l80, l100, l127, l200, l400, l600, l800, l1000, l1200, l1206, l1210, l1222, n_add, n_clamp, n_gd, n_le_t, n_le_f, n_lt_t, n_lt_f, n_eq_t, n_eq_f, n_no, n_on, n_oo, n_olt, n_nlo, n_ole, Option.bind_some, Option.bind_none, Nat.zero_add, if_true, if_false, hs', hf, e2]
  · obtain ⟨⟨c1, c2, c3, c4, c5⟩, ⟨r1, r2, r3, r4, r5⟩, rfl, rfl, M⟩ := hJ
    refine ⟨_, _, ?_, ?_, M⟩
    · clear M b5
      simp (disch := omega) only [FX0_drain_L39, n_sub, ↓lm1, n_ofN, l0, l1, l2, l3, l4, l5, l6, l7, l8, l10, l20, l47, l80, l100, l127, l200, l400, l600, l800, l1000, l1200, l1206, l1210, l1222, n_add, n_clamp, n_gd, n_le_t, n_le_f, n_lt_t, n_lt_f, n_eq_t, n_eq_f, n_no, n_on, n_oo, n_olt, n_nlo, n_ole, Option.bind_some, Option.bind_none, Nat.zero_add, if_true, if_false, hs, b1, hf]
    · clear M b5
      simp (disch := omega) only [FX7_drains_L29, n_sub, ↓lm1, n_ofN, l0, l1, l2, l3, l4, l5, l6, l7, l8, l10, l20, l47, l80, l100, l127, l200, l400, l600, l800, l1000, l1200, l1206, l1210, l1222, n_add, n_clamp, n_gd, n_le_t, n_le_f, n_lt_t, n_lt_f, n_eq_t, n_eq_f, n_no, n_on, n_oo, n_olt, n_nlo, n_ole, Option.bind_some, Option.bind_none, Nat.zero_add, if_true, if_false, hs', hf]
theorem FX_drainX {owner fieldCount content : Nat → Int32} {W D i top : Nat} {a2 a3 : Int32} {a4 a5 : Nat → Int32} {d1 d2 d3 : Int32} {d4 d5 : Nat → Int32} (hi : i < 200) (ht : 1 ≤ top) (ht2 : top ≤ 20) (e : g_it (FX0_drain_L39 (nI W) (nI D) owner fieldCount content (nI top) a5) (nI 0, nI (top - 1), a2, a3, a4, a5) = some (d1, d2, d3, d4, d5)) : FX0_drain_L2 (nI W) (nI D) owner fieldCount content (nI i, nI top, a2, a3, a4, a5) = some (.inl (nI (i + 1), d1, d2, d3, d4, d5)) := by
  simp (disch := omega) only [FX0_drain_L2, n_sub, ↓lm1, n_ofN, l0, l1, l2, l3, l4, l5, l6, l7, l8, l10, l20, l47, l80, l100, l127, l200, l400, l600, l800, l1000, l1200, l1206, l1210, l1222, n_add, n_clamp, n_gd, n_le_t, n_le_f, n_lt_t, n_lt_f, n_eq_t, n_eq_f, n_no, n_on, n_oo, n_olt, n_nlo, n_ole, Option.bind_some, Option.bind_none, Nat.zero_add, if_true, if_false, e]
theorem FX_drainO {owner fieldCount content : Nat → Int32} {W D i top : Nat} {a2 a3 : Int32} {a4 a5 : Nat → Int32} (hi : i ≤ 200) (h : top = 0 ∨ i = 200) (ht : top ≤ 20) : FX0_drain_L2 (nI W) (nI D) owner fieldCount content (nI i, nI top, a2, a3, a4, a5) = some (.inr (nI top, a2, a3, a4, a5)) := by
  by_cases q : i = 200
  · simp (disch := omega) only [FX0_drain_L2, ↓lm1, n_ofN, l0, l1, l2, l3, l4, l5, l6, l7, l8, l10, l20, l47, l80, l100, l127, l200, l400, l600, l800, l1000, l1200, l1206, l1210, l1222, n_add, n_clamp, n_gd, n_le_t, n_le_f, n_lt_t, n_lt_f, n_eq_t, n_eq_f, n_no, n_on, n_oo, n_olt, n_nlo, n_ole, Option.bind_some, Option.bind_none, Nat.zero_add, if_true, if_false]
  · simp (disch := omega) only [FX0_drain_L2, ↓lm1, n_ofN, l0, l1, l2, l3, l4, l5, l6, l7, l8, l10, l20, l47, l80, l100, l127, l200, l400, l600, l800, l1000, l1200, l1206, l1210, l1222, n_add, n_clamp, n_gd, n_le_t, n_le_f, n_lt_t, n_lt_f, n_eq_t, n_eq_f, n_no, n_on, n_oo, n_olt, n_nlo, n_ole, Option.bind_some, Option.bind_none, Nat.zero_add, if_true, if_false]
theorem FM_drainX {mm : Nat → Int32} {top : Nat} {a2 a3 : Int32} {a4 a5 : Nat → Int32} {d1 d2 d3 : Int32} {d4 d5 : Nat → Int32} (ht : 1 ≤ top) (ht2 : top ≤ 20) (e : g_it (FX7_drains_L29 mm (nI top) a5) (nI 1, nI (top - 1), a2, a3, a4, a5) = some (d1, d2, d3, d4, d5)) : FX7_drains_L0 mm (nI top, a2, a3, a4, a5) = some (.inl (d1, d2, d3, d4, d5)) := by
  simp (disch := omega) only [FX7_drains_L0, n_sub, ↓lm1, n_ofN, l0, l1, l2, l3, l4, l5, l6, l7, l8, l10, l20, l47, l80, l100, l127, l200, l400, l600, l800, l1000, l1200, l1206, l1210, l1222, n_add, n_clamp, n_gd, n_le_t, n_le_f, n_lt_t, n_lt_f, n_eq_t, n_eq_f, n_no, n_on, n_oo, n_olt, n_nlo, n_ole, Option.bind_some, Option.bind_none, Nat.zero_add, if_true, if_false, e]
theorem FM_drainO {mm : Nat → Int32} {a2 a3 : Int32} {a4 a5 : Nat → Int32} : FX7_drains_L0 mm (nI 0, a2, a3, a4, a5) = some (.inr (nI 0, a2, a3, a4, a5)) := by
  simp (disch := omega) only [FX7_drains_L0, ↓lm1, n_ofN, l0, l1, l2, l3, l4, l5, l6, l7, l8, l10, l20, l47, l80, l100, l127, l200, l400, l600, l800, l1000, l1200, l1206, l1210, l1222, n_add, n_clamp, n_gd, n_le_t, n_le_f, n_lt_t, n_lt_f, n_eq_t, n_eq_f, n_no, n_on, n_oo, n_olt, n_nlo, n_ole, Option.bind_some, Option.bind_none, Nat.zero_add, if_true, if_false]
theorem FM_drain0 {mm : Nat → Int32} {a2 a3 : Int32} {a4 a5 : Nat → Int32} : FX7_drains (nI 0) a2 a3 mm a4 a5 = some (nI 0, a2, a3, a4, a5) := by
  unfold FX7_drains
  rw [it_now FM_drainO]
  rfl
theorem MB.drain {mm owner fieldCount dataCount pinned age content : Nat → Int32} {W D U : Nat} {P : Nat → Prop} (H : WF mm W) (hO : RO W mm owner) (hA : RA W mm fieldCount dataCount pinned age content) (hD : mm 1217 = nI D) (hD2 : D ≤ 20) {a1 a2 a3 b1 b2 b3 : Int32} {a4 a5 b4 b5 : Nat → Int32} (M : MB mm W D 200 U P (a1, a2, a3, a4, a5) (b1, b2, b3, b4, b5)) :
    ∃ c r, FX0_drain a1 a2 a3 a4 a5 (nI W) (nI D) owner fieldCount content = some c ∧ FX7_drains b1 b2 b3 mm b4 b5 = some r ∧ MZ mm W D U P c r := by
  have key := lockg (f := FX0_drain_L2 (nI W) (nI D) owner fieldCount content) (g := FX7_drains_L0 mm) (fun s u => ∃ i c, s = (nI i, c) ∧ i ≤ 200 ∧ MB mm W D (200 - i) U P c u) (fun s => 200 - s.1.toNatClampNeg) (fun c r => MZ mm W D U P c r) (fun s u hI => ?_) (nI 0, a1, a2, a3, a4, a5) (b1, b2, b3, b4, b5) ⟨0, _, rfl, by omega, M⟩ (by
    show 200 - (nI 0).toNatClampNeg < 1000000
    omega)
  · obtain ⟨⟨c1, c2, c3, c4, c5⟩, ⟨r1, r2, r3, r4, r5⟩, k1, k2, k3⟩ := key
    refine ⟨_, _, ?_, ?_, k3⟩
    · unfold FX0_drain
      rw [l0, k1]
      rfl
    · unfold FX7_drains
      rw [k2]
      rfl
  · obtain ⟨i, c, rfl, hi, top, hi2, ov, mk, mk', st, st', rfl, rfl, m1, m2, m3, m4, m5, m6, m7, m8⟩ := hI
    by_cases h0 : top = 0 ∨ i = 200
    · have ht : top = 0 := by omega
      subst ht
      exact Or.inr ⟨_, _, FX_drainO hi h0 (by omega), FM_drainO, hi2, ov, mk, mk', st, st', rfl, rfl, m2, m3, m4, m7, m8⟩
    · obtain ⟨h, p1, p2, p3, p4⟩ := m5 (top - 1) (by omega)
      have M1 : MB mm W D (200 - (i + 1)) U P (nI (top - 1), nI hi2, nI ov, mk, st) (nI (top - 1), nI hi2, nI ov, mk', st') := ⟨top - 1, hi2, ov, mk, mk', st, st', rfl, rfl, by omega, m2, m3, m4, fun j hj => m5 j (by omega), by omega, m7, m8⟩
      obtain ⟨⟨c1, c2, c3, c4, c5⟩, ⟨r1, r2, r3, r4, r5⟩, k1, k2, k3⟩ := M1.fields H hO hA hD hD2 (T := top) (by omega) (by omega) p3 p4 p1 p2
      refine Or.inl ⟨_, _, FX_drainX (by omega) (by omega) (by omega) k1, FM_drainX (by omega) (by omega) k2, ⟨i + 1, _, rfl, by omega, k3⟩, ?_⟩
      show 200 - (nI (i + 1)).toNatClampNeg < 200 - (nI i).toNatClampNeg
      rw [n_clamp (by omega), n_clamp (by omega)]
      omega
theorem MZ.go {mm owner fieldCount dataCount pinned age content : Nat → Int32} {W D U : Nat} {P : Nat → Prop} (H : WF mm W) (hO : RO W mm owner) (hA : RA W mm fieldCount dataCount pinned age content) (hD : mm 1217 = nI D) (hD2 : D ≤ 20) {a1 a2 a3 b1 b2 b3 : Int32} {a4 a5 b4 b5 : Nat → Int32} (M : MZ mm W D U P (a1, a2, a3, a4, a5) (b1, b2, b3, b4, b5)) (p : Int32) :
    ∃ x1 x2 x3 x4 x5 y1 y2 y3 y4 y5 c1 c2 c3 c4 c5 r1 r2 r3 r4 r5, FX0_visit a1 a2 a3 a4 a5 (eO (obI mm W p)) (nI D) = some (x1, x2, x3, x4, x5) ∧ FX0_drain x1 x2 x3 x4 x5 (nI W) (nI D) owner fieldCount content = some (c1, c2, c3, c4, c5) ∧ FX7_reach b1 b2 b3 mm b4 b5 p = some (y1, y2, y3, y4, y5) ∧ FX7_drains y1 y2 y3 mm y4 y5 = some (r1, r2, r3, r4, r5) ∧ MZ mm W D U P (c1, c2, c3, c4, c5) (r1, r2, r3, r4, r5) := by
  obtain ⟨⟨x1, x2, x3, x4, x5⟩, ⟨y1, y2, y3, y4, y5⟩, e1, e2, M1⟩ := M.mb.visit H hD hD2 p
  obtain ⟨⟨c1, c2, c3, c4, c5⟩, ⟨r1, r2, r3, r4, r5⟩, e3, e4, M2⟩ := M1.drain H hO hA hD hD2
  exact ⟨x1, x2, x3, x4, x5, y1, y2, y3, y4, y5, c1, c2, c3, c4, c5, r1, r2, r3, r4, r5, e1, e3, e2, e4, M2⟩
