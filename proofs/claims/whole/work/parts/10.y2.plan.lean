/-! the plan, in both -/
theorem n_addz (x : Int32) : x + nI 0 = x := Int32.add_zero x
theorem n_dz (x y z : Int32) : x + (y - y) * z = x := by rw [Int32.sub_self, Int32.zero_mul, Int32.add_zero]
theorem FX_planRow {mv : Nat → Int32} {a to n : Nat} (h : a + n ≤ 200) (h2 : to + n ≤ 200) : g_it (FX0_planObject_L10 (nI a) (nI to) (nI n)) (nI 0, mv) = some (fw mv a to n) := by
  have h0 : (nI 0, mv) = (fun k => (nI k, fw mv a to k)) 0 := by
    show (nI 0, mv) = (nI 0, fw mv a to 0)
    rw [fw_0]
  rw [h0]
  refine it_to (fun k => (nI k, fw mv a to k)) 0 n _ (by omega) (by omega) (fun k _ hk => ?_) ?_
  · simp (disch := omega) only [FX0_planObject_L10, ↓lm1, n_ofN, l0, l1, l2, l3, l4, l5, l6, l7, l8, l10, l20, l47, l80, l100, l127, l200, l400, l600, l800, l1000, l1200, l1206, l1210, l1222, n_add, n_clamp, n_gd, n_le_t, n_le_f, n_lt_t, n_lt_f, n_eq_t, n_eq_f, n_no, n_on, n_oo, n_olt, n_nlo, n_ole, Option.bind_some, Option.bind_none, Nat.zero_add, if_true, if_false, fw_s]
  · simp (disch := omega) only [FX0_planObject_L10, ↓lm1, n_ofN, l0, l1, l2, l3, l4, l5, l6, l7, l8, l10, l20, l47, l80, l100, l127, l200, l400, l600, l800, l1000, l1200, l1206, l1210, l1222, n_add, n_clamp, n_gd, n_le_t, n_le_f, n_lt_t, n_lt_f, n_eq_t, n_eq_f, n_no, n_on, n_oo, n_olt, n_nlo, n_ole, Option.bind_some, Option.bind_none, Nat.zero_add, if_true, if_false]
theorem FM_planRow {m old : Nat → Int32} {a to n : Nat} (h : a + n ≤ 200) (h2 : to + n ≤ 200) (hz : old a = nI n) : g_it (FX7_collect_L141 old (nI a) (nI to)) (nI 0, m) = some (fw m (1000 + a) to n) := by
  have h0 : (nI 0, m) = (fun k => (nI k, fw m (1000 + a) to k)) 0 := by
    show (nI 0, m) = (nI 0, fw m (1000 + a) to 0)
    rw [fw_0]
  rw [h0]
  refine it_to (fun k => (nI k, fw m (1000 + a) to k)) 0 n _ (by omega) (by omega) (fun k _ hk => ?_) ?_
  · simp (disch := omega) only [FX7_collect_L141, ↓lm1, n_ofN, l0, l1, l2, l3, l4, l5, l6, l7, l8, l10, l20, l47, l80, l100, l127, l200, l400, l600, l800, l1000, l1200, l1206, l1210, l1222, n_add, n_clamp, n_gd, n_le_t, n_le_f, n_lt_t, n_lt_f, n_eq_t, n_eq_f, n_no, n_on, n_oo, n_olt, n_nlo, n_ole, Option.bind_some, Option.bind_none, Nat.zero_add, if_true, if_false, hz, fw_s]
  · simp (disch := omega) only [FX7_collect_L141, ↓lm1, n_ofN, l0, l1, l2, l3, l4, l5, l6, l7, l8, l10, l20, l47, l80, l100, l127, l200, l400, l600, l800, l1000, l1200, l1206, l1210, l1222, n_add, n_clamp, n_gd, n_le_t, n_le_f, n_lt_t, n_lt_f, n_eq_t, n_eq_f, n_no, n_on, n_oo, n_olt, n_nlo, n_ole, Option.bind_some, Option.bind_none, Nat.zero_add, if_true, if_false, hz]
def rpA (rp : Nat → Int32) (n : Nat) : Nat → Int32 := upd (upd rp 0 (rp 0 + nI 1)) 1 ((upd rp 0 (rp 0 + nI 1)) 1 + nI n)
def rpB (rp : Nat → Int32) (n a to : Nat) : Nat → Int32 := upd (upd (rpA rp n) 4 (rpA rp n 4 + nI 1)) 5 ((upd (rpA rp n) 4 (rpA rp n 4 + nI 1)) 5 + nI n * (nI a - nI to))
theorem rpA_at (rp : Nat → Int32) (n : Nat) : rpA rp n 0 = rp 0 + nI 1 ∧ rpA rp n 1 = rp 1 + nI n ∧ rpA rp n 2 = rp 2 ∧ rpA rp n 3 = rp 3 ∧ rpA rp n 4 = rp 4 ∧ rpA rp n 5 = rp 5 := ⟨rfl, rfl, rfl, rfl, rfl, rfl⟩
theorem rpB_at (rp : Nat → Int32) (n a to : Nat) : rpB rp n a to 0 = rp 0 + nI 1 ∧ rpB rp n a to 1 = rp 1 + nI n ∧ rpB rp n a to 2 = rp 2 ∧ rpB rp n a to 3 = rp 3 ∧ rpB rp n a to 4 = rp 4 + nI 1 ∧ rpB rp n a to 5 = rp 5 + (nI a - nI to) * nI n := ⟨rfl, rfl, rfl, rfl, rfl, by rw [Int32.mul_comm (nI a - nI to)]; rfl⟩
theorem FX_planObject {mm fieldCount dataCount pinned age content : Nat → Int32} {W a to : Nat} (H : WF mm W) (hA : RA W mm fieldCount dataCount pinned age content) (ha : a < W) (h0 : 0 < zs mm a) (hto : to ≤ a) (mv rp : Nat → Int32) :
    FX0_planObject fieldCount dataCount mv rp (nI a) (nI to) = some (fw mv a to (zs mm a), if to = a then rpA rp (zs mm a) else rpB rp (zs mm a) a to) := by
  have hW := H.size
  have h3 := (H.hd (a := a) (by omega) h0).1
  have hs := FX_sizeOf H hA ha h0
  have hr := FX_planRow (mv := mv) (a := a) (to := to) (n := zs mm a) (by omega) (by omega)
  by_cases q : to = a
  · rw [if_pos q]
    simp (disch := omega) only [FX0_planObject, hs, ↓lm1, n_ofN, l0, l1, l2, l3, l4, l5, l6, l7, l8, l10, l20, l47, l80, l100, l127, l200, l400, l600, l800, l1000, l1200, l1206, l1210, l1222, n_add, n_clamp, n_gd, n_le_t, n_le_f, n_lt_t, n_lt_f, n_eq_t, n_eq_f, n_no, n_on, n_oo, n_olt, n_nlo, n_ole, Option.bind_some, Option.bind_none, Nat.zero_add, if_true, if_false, hr]
    rfl
  · rw [if_neg q]
    simp (disch := omega) only [FX0_planObject, hs, ↓lm1, n_ofN, l0, l1, l2, l3, l4, l5, l6, l7, l8, l10, l20, l47, l80, l100, l127, l200, l400, l600, l800, l1000, l1200, l1206, l1210, l1222, n_add, n_clamp, n_gd, n_le_t, n_le_f, n_lt_t, n_lt_f, n_eq_t, n_eq_f, n_no, n_on, n_oo, n_olt, n_nlo, n_ole, Option.bind_some, Option.bind_none, Nat.zero_add, if_true, if_false, hr]
    rfl
def RQ (mm mk rp : Nat → Int32) (x2 x3 : Int32) (a : Nat) : Prop := rp 0 = (rq mm mk a).1 ∧ rp 1 = (rq mm mk a).2.1 ∧ rp 2 = x2 ∧ rp 3 = x3 ∧ rp 4 = (rq mm mk a).2.2.1 ∧ rp 5 = (rq mm mk a).2.2.2
theorem RQ.put {mm mk rp : Nat → Int32} {x2 x3 : Int32} {a : Nat} (R : RQ mm mk rp x2 x3 a) (h : mk a = nI 1) : RQ mm mk (if tg mm mk a = a then rpA rp (zs mm a) else rpB rp (zs mm a) a (tg mm mk a)) x2 x3 (a + 1) := by
  obtain ⟨r0, r1, r2, r3, r4, r5⟩ := R
  unfold RQ
  rw [rq_t h]
  by_cases q : tg mm mk a = a
  · obtain ⟨b0, b1, b2, b3, b4, b5⟩ := rpA_at rp (zs mm a)
    rw [if_pos q, if_pos q, if_pos q, b0, b1, b2, b3, b4, b5, r0, r1, r2, r3, r4, r5]
    exact ⟨rfl, rfl, rfl, rfl, rfl, rfl⟩
  · obtain ⟨b0, b1, b2, b3, b4, b5⟩ := rpB_at rp (zs mm a) a (tg mm mk a)
    rw [if_neg q, if_neg q, if_neg q, b0, b1, b2, b3, b4, b5, r0, r1, r2, r3, r4, r5]
    exact ⟨rfl, rfl, rfl, rfl, rfl, rfl⟩
theorem pn_live {mm : Nat → Int32} {a : Nat} (h0 : 0 < zs mm a) : pnB mm a = decide (mm (400 + a) = nI 1) := by
  unfold pnB
  rw [decide_eq_true h0]
  exact Bool.true_and _
theorem FX_planned {mm owner fieldCount dataCount pinned age content mk : Nat → Int32} {W : Nat} (H : WF mm W) (hO : RO W mm owner) (hA : RA W mm fieldCount dataCount pinned age content) (L : LV mm W mk) (x2 x3 : Int32) (mv0 rp0 : Nat → Int32) :
    ∃ mv rp, FX0_plan x3 x2 mk (nI W) owner fieldCount dataCount pinned mv0 rp0 = some (mv, rp) ∧ (∀ t, t < 200 → mv t = wt mm mk W t) ∧ RQ mm mk rp x2 x3 W := by
  have hW := H.size
  have hN : ∀ a, a < W → 0 < zs mm a → pinned a = mm (400 + a) := fun a h1 h2 => (hA a h1 h2).2.2.1
  have key := it_ix (f := FX0_plan_L40 mk (nI W) owner fieldCount dataCount pinned) (fun a s => ∃ mv rp, s = (nI (pl mm mk a), nI a, mv, rp) ∧ (∀ t, t < 200 → mv t = wt mm mk a t) ∧ RQ mm mk rp x2 x3 a) 0 W (fun r => ∃ mv rp, r = (mv, rp) ∧ (∀ t, t < 200 → mv t = wt mm mk W t) ∧ RQ mm mk rp x2 x3 W) (nI 0, nI 0, fl mv0 0 200 (eO none), upd (upd (fl rp0 0 6 (nI 0)) 2 x2) 3 x3) (by omega) (by omega) ⟨_, _, rfl, fun t ht => ?_, ?_⟩ (fun a s ha hJ => ?_) (fun s hJ => ?_)
  · obtain ⟨r, k1, mv, rp, rfl, k2, k3⟩ := key
    refine ⟨mv, rp, ?_, k2, k3⟩
    simp (disch := omega) only [FX0_plan, F_fill, ↓lm1, n_ofN, l0, l1, l2, l3, l4, l5, l6, l7, l8, l10, l20, l47, l80, l100, l127, l200, l400, l600, l800, l1000, l1200, l1206, l1210, l1222, n_add, n_clamp, n_gd, n_le_t, n_le_f, n_lt_t, n_lt_f, n_eq_t, n_eq_f, n_no, n_on, n_oo, n_olt, n_nlo, n_ole, Option.bind_some, Option.bind_none, Nat.zero_add, if_true, if_false, k1]
  · rw [fl_in (Nat.zero_le t) ht, wt_0]
  · exact ⟨rfl, rfl, rfl, rfl, rfl, rfl⟩
  · obtain ⟨mv, rp, rfl, k2, k3⟩ := hJ
    by_cases hm : mk a = nI 1
    · have h0 := (L.of (a := a) (by omega) hm).2
      have ht := tg_fit H L (a := a) (by omega) hm
      have htl := (tg_le H L (a := a) (by omega) hm).2
      have hp := FX_isPinned H hO hN ha
      have hs := FX_sizeOf H hA ha h0
      have ho := FX_planObject H hA ha h0 htl mv rp
      refine ⟨(nI (pl mm mk (a + 1)), nI (a + 1), fw mv a (tg mm mk a) (zs mm a), if tg mm mk a = a then rpA rp (zs mm a) else rpB rp (zs mm a) a (tg mm mk a)), ?_, _, _, rfl, fun t ht2 => ?_, k3.put hm⟩
      · clear k2 k3
        rw [pl_t hm]
        by_cases h4 : mm (400 + a) = nI 1
        · have e : tg mm mk a = a := if_pos h4
          rw [e] at ho ⊢
          rw [pn_live h0, decide_eq_true h4] at hp
          simp (disch := omega) only [FX0_plan_L40, hm, ↓lm1, n_ofN, l0, l1, l2, l3, l4, l5, l6, l7, l8, l10, l20, l47, l80, l100, l127, l200, l400, l600, l800, l1000, l1200, l1206, l1210, l1222, n_add, n_clamp, n_gd, n_le_t, n_le_f, n_lt_t, n_lt_f, n_eq_t, n_eq_f, n_no, n_on, n_oo, n_olt, n_nlo, n_ole, Option.bind_some, Option.bind_none, Nat.zero_add, if_true, if_false, hp, ho, hs]
        · have e : tg mm mk a = pl mm mk a := if_neg h4
          rw [e] at ho ⊢
          rw [pn_live h0, decide_eq_false h4] at hp
          simp (disch := omega) only [FX0_plan_L40, hm, ↓lm1, n_ofN, l0, l1, l2, l3, l4, l5, l6, l7, l8, l10, l20, l47, l80, l100, l127, l200, l400, l600, l800, l1000, l1200, l1206, l1210, l1222, n_add, n_clamp, n_gd, n_le_t, n_le_f, n_lt_t, n_lt_f, n_eq_t, n_eq_f, n_no, n_on, n_oo, n_olt, n_nlo, n_ole, Option.bind_some, Option.bind_none, Nat.zero_add, if_true, if_false, hp, Bool.false_eq_true, ho, hs]
      · rw [wt_put H (by omega) h0 hm]
        by_cases q : a ≤ t ∧ t < a + zs mm a
        · rw [if_pos q, fw_in q.1 q.2]
        · rw [if_neg q, fw_out (by omega)]
          exact k2 t ht2
    · have hm0 := L.no (a := a) (by omega) hm
      refine ⟨(nI (pl mm mk a), nI (a + 1), mv, rp), ?_, mv, rp, ?_, fun t ht2 => ?_, ?_⟩
      · clear k2 k3
        simp (disch := omega) only [FX0_plan_L40, hm0, ↓lm1, n_ofN, l0, l1, l2, l3, l4, l5, l6, l7, l8, l10, l20, l47, l80, l100, l127, l200, l400, l600, l800, l1000, l1200, l1206, l1210, l1222, n_add, n_clamp, n_gd, n_le_t, n_le_f, n_lt_t, n_lt_f, n_eq_t, n_eq_f, n_no, n_on, n_oo, n_olt, n_nlo, n_ole, Option.bind_some, Option.bind_none, Nat.zero_add, if_true, if_false]
      · rw [pl_f hm]
      · rw [wt_skip hm]
        exact k2 t ht2
      · unfold RQ
        rw [rq_f hm]
        exact k3
  · obtain ⟨mv, rp, rfl, k2, k3⟩ := hJ
    refine ⟨(mv, rp), ?_, mv, rp, rfl, k2, k3⟩
    clear k2 k3
    simp (disch := omega) only [FX0_plan_L40, ↓lm1, n_ofN, l0, l1, l2, l3, l4, l5, l6, l7, l8, l10, l20, l47, l80, l100, l127, l200, l400, l600, l800, l1000, l1200, l1206, l1210, l1222, n_add, n_clamp, n_gd, n_le_t, n_le_f, n_lt_t, n_lt_f, n_eq_t, n_eq_f, n_no, n_on, n_oo, n_olt, n_nlo, n_ole, Option.bind_some, Option.bind_none, Nat.zero_add, if_true, if_false]
def cp (old mm : Nat → Int32) (n : Nat) : Nat → Int32 := fun j => if j < n then mm j else old j
theorem cp_in {old mm : Nat → Int32} {n j : Nat} (h : j < n) : cp old mm n j = mm j := if_pos h
theorem cp_s {old mm : Nat → Int32} {n : Nat} : upd (cp old mm n) n (mm n) = cp old mm (n + 1) := by
  funext j
  by_cases h : j = n
  · subst h
    rw [pk_us, cp_in (Nat.lt_succ_self j)]
  · rw [pk_un h]
    by_cases q : j < n
    · rw [cp_in q, cp_in (by omega)]
    · unfold cp
      rw [if_neg q, if_neg (by omega)]
theorem FM_copies (mm old : Nat → Int32) : g_it (FX7_collect_L12 mm) (nI 0, old) = some (cp old mm 1222) := by
  have h0 : (nI 0, old) = (fun i => (nI i, cp old mm i)) 0 := by
    have e : cp old mm 0 = old := funext fun j => if_neg (Nat.not_lt_zero j)
    show (nI 0, old) = (nI 0, cp old mm 0)
    rw [e]
  rw [h0]
  refine it_to (fun i => (nI i, cp old mm i)) 0 1222 _ (by omega) (by omega) (fun i _ hi => ?_) ?_
  · simp (disch := omega) only [FX7_collect_L12, ↓lm1, n_ofN, l0, l1, l2, l3, l4, l5, l6, l7, l8, l10, l20, l47, l80, l100, l127, l200, l400, l600, l800, l1000, l1200, l1206, l1210, l1222, n_add, n_clamp, n_gd, n_le_t, n_le_f, n_lt_t, n_lt_f, n_eq_t, n_eq_f, n_no, n_on, n_oo, n_olt, n_nlo, n_ole, Option.bind_some, Option.bind_none, Nat.zero_add, if_true, if_false, cp_s]
  · simp (disch := omega) only [FX7_collect_L12, ↓lm1, n_ofN, l0, l1, l2, l3, l4, l5, l6, l7, l8, l10, l20, l47, l80, l100, l127, l200, l400, l600, l800, l1000, l1200, l1206, l1210, l1222, n_add, n_clamp, n_gd, n_le_t, n_le_f, n_lt_t, n_lt_f, n_eq_t, n_eq_f, n_no, n_on, n_oo, n_olt, n_nlo, n_ole, Option.bind_some, Option.bind_none, Nat.zero_add, if_true, if_false]
theorem FM_clears (mm : Nat → Int32) : g_it FX7_collect_L39 (nI 0, mm) = some (fl mm 1000 1200 (eO none)) := by
  have h0 : (nI 0, mm) = (fun i => (nI i, fl mm 1000 (1000 + i) (eO none))) 0 := by
    show (nI 0, mm) = (nI 0, fl mm 1000 1000 (eO none))
    rw [fl_0]
  rw [h0]
  refine it_to (fun i => (nI i, fl mm 1000 (1000 + i) (eO none))) 0 200 _ (by omega) (by omega) (fun i _ hi => ?_) ?_
  · have e := fl_s (row := mm) (a := 1000) (i := 1000 + i) (v := eO none) (by omega)
    rw [show 1000 + i + 1 = 1000 + (i + 1) by omega] at e
    simp (disch := omega) only [FX7_collect_L39, ↓lm1, n_ofN, l0, l1, l2, l3, l4, l5, l6, l7, l8, l10, l20, l47, l80, l100, l127, l200, l400, l600, l800, l1000, l1200, l1206, l1210, l1222, n_add, n_clamp, n_gd, n_le_t, n_le_f, n_lt_t, n_lt_f, n_eq_t, n_eq_f, n_no, n_on, n_oo, n_olt, n_nlo, n_ole, Option.bind_some, Option.bind_none, Nat.zero_add, if_true, if_false, e]
  · simp (disch := omega) only [FX7_collect_L39, ↓lm1, n_ofN, l0, l1, l2, l3, l4, l5, l6, l7, l8, l10, l20, l47, l80, l100, l127, l200, l400, l600, l800, l1000, l1200, l1206, l1210, l1222, n_add, n_clamp, n_gd, n_le_t, n_le_f, n_lt_t, n_lt_f, n_eq_t, n_eq_f, n_no, n_on, n_oo, n_olt, n_nlo, n_ole, Option.bind_some, Option.bind_none, Nat.zero_add, if_true, if_false]
theorem FM_planned {mm mk mk' : Nat → Int32} {W : Nat} (H : WF mm W) (L : LV mm W mk) (hk : ∀ h, h < 200 → mk' h = mk h) (old : Nat → Int32) :
    ∃ m, g_it (FX7_collect_L80 mk' (cp old mm 1222)) (nI 0, nI 0, nI 0, nI 0, nI 0, nI 0, fl mm 1000 1200 (eO none)) = some ((rq mm mk W).1, (rq mm mk W).2.1, (rq mm mk W).2.2.1, (rq mm mk W).2.2.2, m) ∧ (∀ t, t < 200 → m (1000 + t) = wt mm mk W t) ∧ ∀ j, j < 1000 ∨ 1200 ≤ j → m j = mm j := by
  have hW := H.size
  have ho : ∀ j, j < 1222 → cp old mm 1222 j = mm j := fun j hj => cp_in hj
  have key := it_ix (f := FX7_collect_L80 mk' (cp old mm 1222)) (fun a s => ∃ m, s = (nI (pl mm mk a), (rq mm mk a).1, (rq mm mk a).2.1, (rq mm mk a).2.2.1, (rq mm mk a).2.2.2, nI a, m) ∧ (∀ t, t < 200 → m (1000 + t) = wt mm mk a t) ∧ ∀ j, j < 1000 ∨ 1200 ≤ j → m j = mm j) 0 W (fun r => ∃ m, r = ((rq mm mk W).1, (rq mm mk W).2.1, (rq mm mk W).2.2.1, (rq mm mk W).2.2.2, m) ∧ (∀ t, t < 200 → m (1000 + t) = wt mm mk W t) ∧ ∀ j, j < 1000 ∨ 1200 ≤ j → m j = mm j) (nI 0, nI 0, nI 0, nI 0, nI 0, nI 0, fl mm 1000 1200 (eO none)) (by omega) (by omega) ⟨_, rfl, fun t ht => ?_, fun j hj => ?_⟩ (fun a s ha hJ => ?_) (fun s hJ => ?_)
  · obtain ⟨r, k1, m, rfl, k2, k3⟩ := key
    exact ⟨m, k1, k2, k3⟩
  · rw [fl_in (by omega) (by omega), wt_0]
  · exact fl_out hj
  · obtain ⟨m, rfl, k2, k3⟩ := hJ
    have hw : m 1216 = nI W := (k3 1216 (by omega)).trans H.hw
    have hz := H.sz (a := a) (by omega)
    have hz1 := hz.1
    have hz2 := hz.2
    have hoz : cp old mm 1222 a = nI (zs mm a) := (ho a (by omega)).trans hz1
    have hop := ho (400 + a) (by omega)
    by_cases hm : mk a = nI 1
    · have hm' := (hk a (by omega)).trans hm
      have h0 := (L.of (a := a) (by omega) hm).2
      have ht := tg_fit H L (a := a) (by omega) hm
      have htl := (tg_le H L (a := a) (by omega) hm).2
      have hrow := FM_planRow (m := m) (old := cp old mm 1222) (a := a) (to := tg mm mk a) (n := zs mm a) (by omega) (by omega) hoz
      refine ⟨(nI (pl mm mk (a + 1)), (rq mm mk (a + 1)).1, (rq mm mk (a + 1)).2.1, (rq mm mk (a + 1)).2.2.1, (rq mm mk (a + 1)).2.2.2, nI (a + 1), fw m (1000 + a) (tg mm mk a) (zs mm a)), ?_, _, rfl, fun t ht2 => ?_, fun j hj => ?_⟩
      · clear k2 k3
        rw [pl_t hm, rq_t hm]
        by_cases h4 : mm (400 + a) = nI 1
        · have e : tg mm mk a = a := if_pos h4
          rw [e] at hrow ⊢
          simp (disch := omega) only [FX7_collect_L80, hw, hm', hoz, hop, h4, ↓lm1, n_ofN, l0, l1, l2, l3, l4, l5, l6, l7, l8, l10, l20, l47, l80, l100, l127, l200, l400, l600, l800, l1000, l1200, l1206, l1210, l1222, n_add, n_clamp, n_gd, n_le_t, n_le_f, n_lt_t, n_lt_f, n_eq_t, n_eq_f, n_no, n_on, n_oo, n_olt, n_nlo, n_ole, Option.bind_some, Option.bind_none, Nat.zero_add, if_true, if_false, hrow, n_addz, n_dz, if_true]
        · have e : tg mm mk a = pl mm mk a := if_neg h4
          rw [e] at hrow ⊢
          by_cases q : pl mm mk a = a
          · have hdz : ∀ x z : Int32, x + (nI a - nI (pl mm mk a)) * z = x := fun x z => by rw [q]; exact n_dz x (nI a) z
            simp (disch := omega) only [FX7_collect_L80, hw, hm', hoz, hop, if_neg h4, ↓lm1, n_ofN, l0, l1, l2, l3, l4, l5, l6, l7, l8, l10, l20, l47, l80, l100, l127, l200, l400, l600, l800, l1000, l1200, l1206, l1210, l1222, n_add, n_clamp, n_gd, n_le_t, n_le_f, n_lt_t, n_lt_f, n_eq_t, n_eq_f, n_no, n_on, n_oo, n_olt, n_nlo, n_ole, Option.bind_some, Option.bind_none, Nat.zero_add, if_true, if_false, hrow, n_addz, hdz, if_pos q]
          · rw [if_neg q, if_neg q]
            simp (disch := omega) only [FX7_collect_L80, hw, hm', hoz, hop, if_neg h4, ↓lm1, n_ofN, l0, l1, l2, l3, l4, l5, l6, l7, l8, l10, l20, l47, l80, l100, l127, l200, l400, l600, l800, l1000, l1200, l1206, l1210, l1222, n_add, n_clamp, n_gd, n_le_t, n_le_f, n_lt_t, n_lt_f, n_eq_t, n_eq_f, n_no, n_on, n_oo, n_olt, n_nlo, n_ole, Option.bind_some, Option.bind_none, Nat.zero_add, if_true, if_false, hrow]
      · rw [wt_put H (by omega) h0 hm]
        by_cases q : a ≤ t ∧ t < a + zs mm a
        · rw [if_pos q, fw_in (by omega) (by omega), show 1000 + t - (1000 + a) = t - a by omega]
        · rw [if_neg q, fw_out (by omega)]
          exact k2 t ht2
      · rw [fw_out (by omega)]
        exact k3 j hj
    · have hm0 := (hk a (by omega)).trans (L.no (a := a) (by omega) hm)
      refine ⟨(nI (pl mm mk a), (rq mm mk a).1, (rq mm mk a).2.1, (rq mm mk a).2.2.1, (rq mm mk a).2.2.2, nI (a + 1), m), ?_, m, ?_, fun t ht2 => ?_, k3⟩
      · clear k2 k3
        by_cases h0 : zs mm a = 0
        · simp (disch := omega) only [FX7_collect_L80, hw, hoz, ↓lm1, n_ofN, l0, l1, l2, l3, l4, l5, l6, l7, l8, l10, l20, l47, l80, l100, l127, l200, l400, l600, l800, l1000, l1200, l1206, l1210, l1222, n_add, n_clamp, n_gd, n_le_t, n_le_f, n_lt_t, n_lt_f, n_eq_t, n_eq_f, n_no, n_on, n_oo, n_olt, n_nlo, n_ole, Option.bind_some, Option.bind_none, Nat.zero_add, if_true, if_false]
        · simp (disch := omega) only [FX7_collect_L80, hw, hoz, hm0, ↓lm1, n_ofN, l0, l1, l2, l3, l4, l5, l6, l7, l8, l10, l20, l47, l80, l100, l127, l200, l400, l600, l800, l1000, l1200, l1206, l1210, l1222, n_add, n_clamp, n_gd, n_le_t, n_le_f, n_lt_t, n_lt_f, n_eq_t, n_eq_f, n_no, n_on, n_oo, n_olt, n_nlo, n_ole, Option.bind_some, Option.bind_none, Nat.zero_add, if_true, if_false]
      · rw [pl_f hm, rq_f hm]
      · rw [wt_skip hm]
        exact k2 t ht2
  · obtain ⟨m, rfl, k2, k3⟩ := hJ
    have hw : m 1216 = nI W := (k3 1216 (by omega)).trans H.hw
    refine ⟨_, ?_, m, rfl, k2, k3⟩
    clear k2 k3
    simp (disch := omega) only [FX7_collect_L80, hw, ↓lm1, n_ofN, l0, l1, l2, l3, l4, l5, l6, l7, l8, l10, l20, l47, l80, l100, l127, l200, l400, l600, l800, l1000, l1200, l1206, l1210, l1222, n_add, n_clamp, n_gd, n_le_t, n_le_f, n_lt_t, n_lt_f, n_eq_t, n_eq_f, n_no, n_on, n_oo, n_olt, n_nlo, n_ole, Option.bind_some, Option.bind_none, Nat.zero_add, if_true, if_false]
