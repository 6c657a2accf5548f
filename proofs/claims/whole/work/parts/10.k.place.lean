theorem fl_e {row : Nat → Int32} {a n : Nat} {v : Int32} (h : n ≤ a) : fl row a n v = row := by
  funext j
  exact fl_out (by omega)
/-- a new object in the reference -/
def la (mm : Nat → Int32) (b f d : Nat) : Nat → Int32 := fl (fl (upd (upd (upd (upd mm b (nI (1 + f + d))) (200 + b) (nI f)) (400 + b) (nI 0)) (600 + b) (nI 0)) (801 + b) (801 + b + f) (eO none)) (801 + b + f) (801 + b + f + d) (nI 0)
def lay (mm : Nat → Int32) (f d b : Nat) : Nat → Int32 := upd (la mm b f d) 1218 (la mm b f d 1218 + nI 1)
theorem FM_lays {mm : Nat → Int32} {b f d : Nat} (hb : b < 200) (hf : f ≤ 6) (hd : d ≤ 6) (hs : b + 1 + f + d ≤ 200) : FX7_lays mm (nI b) (nI f) (nI d) = some (lay mm f d b) := by
  obtain ⟨m4, hm4⟩ : ∃ m4, m4 = upd (upd (upd (upd mm b (nI (1 + f + d))) (200 + b) (nI f)) (400 + b) (nI 0)) (600 + b) (nI 0) := ⟨_, rfl⟩
  have hl : g_it (FX7_lays_L49 (nI b) (nI f) (nI d)) (nI 1, m4) = some (fl (fl m4 (801 + b) (801 + b + f) (eO none)) (801 + b + f) (801 + b + f + d) (nI 0)) := by
    have h0 : (nI 1, m4) = (fun k => (nI k, if k ≤ f + 1 then fl m4 (801 + b) (800 + b + k) (eO none) else fl (fl m4 (801 + b) (801 + b + f) (eO none)) (801 + b + f) (800 + b + k) (nI 0))) 1 := by
      show (nI 1, m4) = (nI 1, if 1 ≤ f + 1 then fl m4 (801 + b) (800 + b + 1) (eO none) else _)
      rw [if_pos (by omega), fl_e (by omega)]
    rw [h0]
    refine it_to (fun k => (nI k, if k ≤ f + 1 then fl m4 (801 + b) (800 + b + k) (eO none) else fl (fl m4 (801 + b) (801 + b + f) (eO none)) (801 + b + f) (800 + b + k) (nI 0))) 1 (f + d + 1) _ (by omega) (by omega) (fun k hk1 hk => ?_) ?_
    · by_cases h1 : k ≤ f
      · have e1 : k ≤ f + 1 := by omega
        have e2 : k + 1 ≤ f + 1 := by omega
        simp (disch := omega) only [FX7_lays_L49, ↓lm1, n_ofN, l0, l1, l2, l3, l4, l5, l6, l7, l8, l10, l20, l47, l80, l100, l127, l200, l400, l600, l800, l1000, l1200, l1206, l1210, l1222, n_add, n_clamp, n_gd, n_le_t, n_le_f, n_lt_t, n_lt_f, n_eq_t, n_eq_f, n_no, n_on, n_oo, n_olt, n_nlo, n_ole, Option.bind_some, Option.bind_none, Nat.zero_add, if_true, if_false, if_pos e1, if_pos e2, fl_s]
        rw [show 800 + b + k + 1 = 800 + b + (k + 1) by omega]
      · have e2 : ¬ k + 1 ≤ f + 1 := by omega
        have e3 : (if k ≤ f + 1 then fl m4 (801 + b) (800 + b + k) (eO none) else fl (fl m4 (801 + b) (801 + b + f) (eO none)) (801 + b + f) (800 + b + k) (nI 0)) = fl (fl m4 (801 + b) (801 + b + f) (eO none)) (801 + b + f) (800 + b + k) (nI 0) := by
          by_cases e1 : k ≤ f + 1
          · rw [if_pos e1, fl_e (n := 800 + b + k) (a := 801 + b + f) (by omega), show 800 + b + k = 801 + b + f by omega]
          · rw [if_neg e1]
        simp (disch := omega) only [FX7_lays_L49, e3, ↓lm1, n_ofN, l0, l1, l2, l3, l4, l5, l6, l7, l8, l10, l20, l47, l80, l100, l127, l200, l400, l600, l800, l1000, l1200, l1206, l1210, l1222, n_add, n_clamp, n_gd, n_le_t, n_le_f, n_lt_t, n_lt_f, n_eq_t, n_eq_f, n_no, n_on, n_oo, n_olt, n_nlo, n_ole, Option.bind_some, Option.bind_none, Nat.zero_add, if_true, if_false, if_neg e2, fl_s]
        rw [show 800 + b + k + 1 = 800 + b + (k + 1) by omega]
    · have e3 : (if f + d + 1 ≤ f + 1 then fl m4 (801 + b) (800 + b + (f + d + 1)) (eO none) else fl (fl m4 (801 + b) (801 + b + f) (eO none)) (801 + b + f) (800 + b + (f + d + 1)) (nI 0)) = fl (fl m4 (801 + b) (801 + b + f) (eO none)) (801 + b + f) (801 + b + f + d) (nI 0) := by
        by_cases e1 : f + d + 1 ≤ f + 1
        · rw [if_pos e1, fl_e (n := 801 + b + f + d) (a := 801 + b + f) (by omega), show 800 + b + (f + d + 1) = 801 + b + f by omega]
        · rw [if_neg e1, show 800 + b + (f + d + 1) = 801 + b + f + d by omega]
      simp (disch := omega) only [FX7_lays_L49, e3, ↓lm1, n_ofN, l0, l1, l2, l3, l4, l5, l6, l7, l8, l10, l20, l47, l80, l100, l127, l200, l400, l600, l800, l1000, l1200, l1206, l1210, l1222, n_add, n_clamp, n_gd, n_le_t, n_le_f, n_lt_t, n_lt_f, n_eq_t, n_eq_f, n_no, n_on, n_oo, n_olt, n_nlo, n_ole, Option.bind_some, Option.bind_none, Nat.zero_add, if_true, if_false]
  simp (disch := omega) only [FX7_lays, ↓lm1, n_ofN, l0, l1, l2, l3, l4, l5, l6, l7, l8, l10, l20, l47, l80, l100, l127, l200, l400, l600, l800, l1000, l1200, l1206, l1210, l1222, n_add, n_clamp, n_gd, n_le_t, n_le_f, n_lt_t, n_lt_f, n_eq_t, n_eq_f, n_no, n_on, n_oo, n_olt, n_nlo, n_ole, Option.bind_some, Option.bind_none, Nat.zero_add, if_true, if_false, ← hm4, hl]
  unfold lay la
  rw [← hm4]
theorem FX_own {owner fieldCount dataCount : Nat → Int32} {b n : Nat} (hs : FX1_sizeOf fieldCount dataCount (nI b) = some (nI n)) (hb : b + n ≤ 200) : FX1_own owner fieldCount dataCount (nI b) = some (fl owner b (b + n) (nI b)) := by
  simp (disch := omega) only [FX1_own, hs, ↓lm1, n_ofN, l0, l1, l2, l3, l4, l5, l6, l7, l8, l10, l20, l47, l80, l100, l127, l200, l400, l600, l800, l1000, l1200, l1206, l1210, l1222, n_add, n_clamp, n_gd, n_le_t, n_le_f, n_lt_t, n_lt_f, n_eq_t, n_eq_f, n_no, n_on, n_oo, n_olt, n_nlo, n_ole, Option.bind_some, Option.bind_none, Nat.zero_add, if_true, if_false, F_fill4]
theorem FX_place {allocated : Int32} {owner fieldCount dataCount pinned age content : Nat → Int32} {b f d : Nat} (hb : b < 200) (hf : f ≤ 6) (hd : d ≤ 6) (hs : b + 1 + f + d ≤ 200) : FX1_place allocated owner fieldCount dataCount pinned age content (nI b) (nI f) (nI d) = some (allocated + nI 1, fl owner b (b + (1 + f + d)) (nI b), upd fieldCount b (nI f), upd dataCount b (nI d), upd pinned b (nI 0), upd age b (nI 0), fl (fl content (b + 1) (b + 1 + f) (eO none)) (b + 1 + f) (b + 1 + f + d) (nI 0)) := by
  have h1 : FX1_sizeOf (upd fieldCount b (nI f)) (upd dataCount b (nI d)) (nI b) = some (nI (1 + f + d)) := by
    simp (disch := omega) only [FX1_sizeOf, ↓lm1, n_ofN, l0, l1, l2, l3, l4, l5, l6, l7, l8, l10, l20, l47, l80, l100, l127, l200, l400, l600, l800, l1000, l1200, l1206, l1210, l1222, n_add, n_clamp, n_gd, n_le_t, n_le_f, n_lt_t, n_lt_f, n_eq_t, n_eq_f, n_no, n_on, n_oo, n_olt, n_nlo, n_ole, Option.bind_some, Option.bind_none, Nat.zero_add, if_true, if_false, pk_us]
  simp (disch := omega) only [FX1_place, ↓lm1, n_ofN, l0, l1, l2, l3, l4, l5, l6, l7, l8, l10, l20, l47, l80, l100, l127, l200, l400, l600, l800, l1000, l1200, l1206, l1210, l1222, n_add, n_clamp, n_gd, n_le_t, n_le_f, n_lt_t, n_lt_f, n_eq_t, n_eq_f, n_no, n_on, n_oo, n_olt, n_nlo, n_ole, Option.bind_some, Option.bind_none, Nat.zero_add, if_true, if_false, F_fill4, FX_own h1]
/-- the reference's heap with a new object at b -/
theorem lay_at {mm : Nat → Int32} {b f d j : Nat} (hb : b < 200) (hs : b + 1 + f + d ≤ 200) : lay mm f d b j = if j = 1218 then mm 1218 + nI 1 else if j = b then nI (1 + f + d) else if j = 200 + b then nI f else if j = 400 + b then nI 0 else if j = 600 + b then nI 0 else if 801 + b ≤ j ∧ j < 801 + b + f then eO none else if 801 + b + f ≤ j ∧ j < 801 + b + f + d then nI 0 else mm j := by
  have e : ∀ j, j < 801 + b ∨ 801 + b + f + d ≤ j → la mm b f d j = (upd (upd (upd (upd mm b (nI (1 + f + d))) (200 + b) (nI f)) (400 + b) (nI 0)) (600 + b) (nI 0)) j := fun j hj => by
    unfold la
    rw [fl_out (by omega), fl_out (by omega)]
  unfold lay
  by_cases h1 : j = 1218
  · rw [if_pos h1, h1, pk_us, e 1218 (by omega), pk_un (by omega), pk_un (by omega), pk_un (by omega), pk_un (by omega)]
  rw [if_neg h1, pk_un h1]
  by_cases h2 : j = b
  · rw [if_pos h2, e j (by omega), pk_un (by omega), pk_un (by omega), pk_un (by omega), h2, pk_us]
  rw [if_neg h2]
  by_cases h3 : j = 200 + b
  · rw [if_pos h3, e j (by omega), pk_un (by omega), pk_un (by omega), h3, pk_us]
  rw [if_neg h3]
  by_cases h4 : j = 400 + b
  · rw [if_pos h4, e j (by omega), pk_un (by omega), h4, pk_us]
  rw [if_neg h4]
  by_cases h5 : j = 600 + b
  · rw [if_pos h5, e j (by omega), h5, pk_us]
  rw [if_neg h5]
  by_cases h6 : 801 + b ≤ j ∧ j < 801 + b + f
  · rw [if_pos h6]
    unfold la
    rw [fl_out (by omega), fl_in h6.1 h6.2]
  rw [if_neg h6]
  by_cases h7 : 801 + b + f ≤ j ∧ j < 801 + b + f + d
  · rw [if_pos h7]
    unfold la
    rw [fl_in h7.1 h7.2]
  rw [if_neg h7, e j (by omega), pk_un h5, pk_un h4, pk_un h3, pk_un h2]
theorem lay_ot {mm : Nat → Int32} {b f d j : Nat} (hb : b < 200) (hs : b + 1 + f + d ≤ 200) (h : j ≠ 1218 ∧ j ≠ b ∧ j ≠ 200 + b ∧ j ≠ 400 + b ∧ j ≠ 600 + b ∧ (j < 801 + b ∨ 801 + b + f + d ≤ j)) : lay mm f d b j = mm j := by
  rw [lay_at hb hs, if_neg h.1, if_neg h.2.1, if_neg h.2.2.1, if_neg h.2.2.2.1, if_neg h.2.2.2.2.1, if_neg (by omega), if_neg (by omega)]
theorem lay_b {mm : Nat → Int32} {b f d : Nat} (hb : b < 200) (hs : b + 1 + f + d ≤ 200) : lay mm f d b b = nI (1 + f + d) ∧ lay mm f d b (200 + b) = nI f ∧ lay mm f d b (400 + b) = nI 0 ∧ lay mm f d b (600 + b) = nI 0 ∧ lay mm f d b 1218 = mm 1218 + nI 1 ∧ (∀ k, 1 ≤ k → k ≤ f → lay mm f d b (800 + b + k) = eO none) ∧ ∀ k, f < k → k ≤ f + d → lay mm f d b (800 + b + k) = nI 0 := by
  refine ⟨?_, ?_, ?_, ?_, ?_, fun k h1 h2 => ?_, fun k h1 h2 => ?_⟩
  · rw [lay_at hb hs, if_neg (by omega), if_pos rfl]
  · rw [lay_at hb hs, if_neg (by omega), if_neg (by omega), if_pos rfl]
  · rw [lay_at hb hs, if_neg (by omega), if_neg (by omega), if_neg (by omega), if_pos rfl]
  · rw [lay_at hb hs, if_neg (by omega), if_neg (by omega), if_neg (by omega), if_neg (by omega), if_pos rfl]
  · rw [lay_at hb hs, if_pos rfl]
  · rw [lay_at hb hs, if_neg (by omega), if_neg (by omega), if_neg (by omega), if_neg (by omega), if_neg (by omega), if_pos (by omega)]
  · rw [lay_at hb hs, if_neg (by omega), if_neg (by omega), if_neg (by omega), if_neg (by omega), if_neg (by omega), if_neg (by omega), if_pos (by omega)]
theorem lay_zs {mm : Nat → Int32} {b f d a : Nat} (hb : b < 200) (hf : f ≤ 6) (hd : d ≤ 6) (hs : b + 1 + f + d ≤ 200) (ha : a < 200) : zs (lay mm f d b) a = if a = b then 1 + f + d else zs mm a := by
  by_cases h : a = b
  · rw [if_pos h, h]
    unfold zs
    rw [(lay_b hb hs).1, n_clamp (by omega)]
  · rw [if_neg h]
    exact same_zs (lay_ot hb hs (by omega))
theorem lay_WF {mm : Nat → Int32} {W b f d : Nat} (H : WF mm W) (hf : f ≤ 6) (hd : d ≤ 6) (hs : b + (1 + f + d) ≤ W) (hfr : Fr mm b (1 + f + d)) : WF (lay mm f d b) W := by
  have hW := H.size
  have hb : b < 200 := by omega
  have hs2 : b + 1 + f + d ≤ 200 := by omega
  have hB := lay_b (mm := mm) (b := b) (f := f) (d := d) hb hs2
  have hz : ∀ a, a < 200 → zs (lay mm f d b) a = if a = b then 1 + f + d else zs mm a := fun a ha => lay_zs hb hf hd hs2 ha
  have hzb : zs mm b = 0 := by
    have := hfr 0 (by omega)
    rw [Nat.add_zero] at this
    exact ob_zs this
  have hRf : ∀ r, Rf mm W r → Rf (lay mm f d b) W r := by
    rintro r (hr | ⟨t, h1, h2, h, h3⟩)
    · exact Or.inl hr
    · refine Or.inr ⟨t, h1, h2, h, h3.1, ?_⟩
      have h4 := h3.1
      have h5 := h3.2
      have hne : h ≠ b := fun z => by
        subst z
        omega
      rw [hz h (by omega), if_neg hne]
      exact h5
  obtain ⟨w1, w2, w3, ⟨dd, d1, d2, d3⟩, w5, w6, w7⟩ := id H
  refine ⟨w1, w2, (lay_ot hb hs2 (by omega)).trans w3, ⟨dd, d1, d2, (lay_ot hb hs2 (by omega)).trans d3⟩, fun a ha => ?_, fun a ha h0 => ?_, fun k hk => ?_⟩
  · rw [hz a ha]
    by_cases h : a = b
    · rw [if_pos h, h]
      exact ⟨hB.1, by omega⟩
    · rw [if_neg h, lay_ot hb hs2 (by omega)]
      exact w5 a ha
  · rw [hz a ha] at h0 ⊢
    by_cases h : a = b
    · subst h
      rw [if_pos rfl] at h0 ⊢
      have ezf : zf (lay mm f d a) a = f := by
        unfold zf
        rw [hB.2.1, n_clamp (by omega)]
      rw [ezf]
      refine ⟨hs, fun c hc1 hc2 => ?_, hB.2.1, hf, by omega, Or.inl hB.2.2.1, fun k k1 k2 => Or.inl (hB.2.2.2.2.2.1 k k1 k2)⟩
      rw [hz c (by omega), if_neg (by omega)]
      have := hfr (c - a) (by omega)
      rw [show a + (c - a) = c by omega] at this
      exact ob_zs this
    · rw [if_neg h] at h0 ⊢
      obtain ⟨a1, a2, a3, a4, a5, a6, a7⟩ := w6 a ha h0
      have ezf : zf (lay mm f d b) a = zf mm a := same_zf (lay_ot hb hs2 (by omega))
      -- no word of a is a word of the new object
      have hap : ∀ i j, i < zs mm a → j < 1 + f + d → a + i ≠ b + j := fun i j hi hj z => by
        have := hfr j hj
        rw [← z, ob_of H ha ⟨by omega, by omega⟩] at this
        cases this
      rw [ezf]
      refine ⟨a1, fun c hc1 hc2 => ?_, ?_, a4, a5, ?_, fun k k1 k2 => ?_⟩
      · have hcb : c ≠ b := fun z => hap (c - a) 0 (by omega) (by omega) (by omega)
        rw [hz c (by omega), if_neg hcb]
        exact a2 c hc1 hc2
      · rw [lay_ot hb hs2 (by omega)]; exact a3
      · rw [lay_ot hb hs2 (by omega)]; exact a6
      · have hin : ¬ (801 + b ≤ 800 + a + k ∧ 800 + a + k < 801 + b + f + d) := fun z => hap k (a + k - b) (by omega) (by omega) (by omega)
        rw [lay_ot hb hs2 (by omega)]
        exact hRf _ (a7 k k1 k2)
  · rw [lay_ot hb hs2 (by omega)]
    exact hRf _ (w7 k hk)
theorem lay_ob {mm : Nat → Int32} {W b f d t : Nat} (H : WF mm W) (hf : f ≤ 6) (hd : d ≤ 6) (hs : b + (1 + f + d) ≤ W) (hfr : Fr mm b (1 + f + d)) (ht : t < 200) : ob (lay mm f d b) t = if b ≤ t ∧ t < b + (1 + f + d) then some b else ob mm t := by
  have hW := H.size
  have hs2 : b + 1 + f + d ≤ 200 := by omega
  have hz : ∀ a, a < 200 → zs (lay mm f d b) a = if a = b then 1 + f + d else zs mm a := fun a ha => lay_zs (by omega) hf hd hs2 ha
  have H2 := lay_WF H hf hd hs hfr
  by_cases hin : b ≤ t ∧ t < b + (1 + f + d)
  · rw [if_pos hin]
    refine ob_of H2 (by omega) ⟨hin.1, ?_⟩
    rw [hz b (by omega), if_pos rfl]
    exact hin.2
  · rw [if_neg hin]
    cases e : ob mm t with
    | none =>
      cases e2 : ob (lay mm f d b) t with
      | none => rfl
      | some h =>
        have h1 := ob_in e2
        have h2 := h1.1
        have h3 := h1.2
        rw [hz h (by omega)] at h3
        by_cases hhb : h = b
        · rw [if_pos hhb] at h3
          omega
        · rw [if_neg hhb] at h3
          rw [ob_of H (h := h) (by omega) ⟨h2, h3⟩] at e
          cases e
    | some h =>
      have h1 := ob_in e
      have h2 := h1.1
      have h3 := h1.2
      have hne : h ≠ b := fun z => by
        have := hfr 0 (by omega)
        rw [Nat.add_zero] at this
        have := ob_zs this
        subst z
        omega
      refine ob_of H2 (by omega) ⟨h2, ?_⟩
      rw [hz h (by omega), if_neg hne]
      exact h3
theorem sim_alloc : Sim_alloc Rel := by
  intro i words depth allocated collections freed owner fieldCount dataCount pinned age content roots weaks movedTo reports letters length_ latestRefusal s0 s1 zmm zsaved_ zisSaved ztext ztextLength zrefused p1 p2 hi h
  have hu := h.up
  obtain ⟨⟨W, H, ⟨⟨rfl, rfl, rfl, rfl, rfl⟩, hO, hA, hR, hK, hM⟩, hc⟩, hS0, hS1, hT, rfl⟩ := h
  have hW := H.size
  have hw := H.hw
  have bad : (FX6_alloc (zmm 1216) (zmm 1218) owner fieldCount dataCount pinned age content p1 p2 = some (-1000002, zmm 1218, owner, fieldCount, dataCount, pinned, age, content) ∧ FX7_alloc zmm p1 p2 = some (-1000002, zmm)) ∨ ∃ f d, p1 = nI f ∧ p2 = nI d ∧ f ≤ 6 ∧ d ≤ 6 := by
    rcases n_cases p1 with hp | ⟨f, hf, rfl⟩
    · exact Or.inl ⟨by simp (disch := omega) only [FX6_alloc, ↓lm1, n_ofN, l0, l1, l2, l3, l4, l5, l6, l7, l8, l10, l20, l47, l80, l100, l127, l200, l400, l600, l800, l1000, l1200, l1206, l1210, l1222, n_add, n_clamp, n_gd, n_le_t, n_le_f, n_lt_t, n_lt_f, n_eq_t, n_eq_f, n_no, n_on, n_oo, n_olt, n_nlo, n_ole, Option.bind_some, Option.bind_none, Nat.zero_add, if_true, if_false, if_pos hp], by simp (disch := omega) only [FX7_alloc, FX7_in, ↓lm1, n_ofN, l0, l1, l2, l3, l4, l5, l6, l7, l8, l10, l20, l47, l80, l100, l127, l200, l400, l600, l800, l1000, l1200, l1206, l1210, l1222, n_add, n_clamp, n_gd, n_le_t, n_le_f, n_lt_t, n_lt_f, n_eq_t, n_eq_f, n_no, n_on, n_oo, n_olt, n_nlo, n_ole, Option.bind_some, Option.bind_none, Nat.zero_add, if_true, if_false, if_pos hp]⟩
    by_cases f6 : f ≤ 6
    rotate_left
    · exact Or.inl ⟨by simp (disch := omega) only [FX6_alloc, ↓lm1, n_ofN, l0, l1, l2, l3, l4, l5, l6, l7, l8, l10, l20, l47, l80, l100, l127, l200, l400, l600, l800, l1000, l1200, l1206, l1210, l1222, n_add, n_clamp, n_gd, n_le_t, n_le_f, n_lt_t, n_lt_f, n_eq_t, n_eq_f, n_no, n_on, n_oo, n_olt, n_nlo, n_ole, Option.bind_some, Option.bind_none, Nat.zero_add, if_true, if_false], by simp (disch := omega) only [FX7_alloc, FX7_in, ↓lm1, n_ofN, l0, l1, l2, l3, l4, l5, l6, l7, l8, l10, l20, l47, l80, l100, l127, l200, l400, l600, l800, l1000, l1200, l1206, l1210, l1222, n_add, n_clamp, n_gd, n_le_t, n_le_f, n_lt_t, n_lt_f, n_eq_t, n_eq_f, n_no, n_on, n_oo, n_olt, n_nlo, n_ole, Option.bind_some, Option.bind_none, Nat.zero_add, if_true, if_false]⟩
    rcases n_cases p2 with hp | ⟨d, hd, rfl⟩
    · exact Or.inl ⟨by simp (disch := omega) only [FX6_alloc, ↓lm1, n_ofN, l0, l1, l2, l3, l4, l5, l6, l7, l8, l10, l20, l47, l80, l100, l127, l200, l400, l600, l800, l1000, l1200, l1206, l1210, l1222, n_add, n_clamp, n_gd, n_le_t, n_le_f, n_lt_t, n_lt_f, n_eq_t, n_eq_f, n_no, n_on, n_oo, n_olt, n_nlo, n_ole, Option.bind_some, Option.bind_none, Nat.zero_add, if_true, if_false, if_pos hp], by simp (disch := omega) only [FX7_alloc, FX7_in, ↓lm1, n_ofN, l0, l1, l2, l3, l4, l5, l6, l7, l8, l10, l20, l47, l80, l100, l127, l200, l400, l600, l800, l1000, l1200, l1206, l1210, l1222, n_add, n_clamp, n_gd, n_le_t, n_le_f, n_lt_t, n_lt_f, n_eq_t, n_eq_f, n_no, n_on, n_oo, n_olt, n_nlo, n_ole, Option.bind_some, Option.bind_none, Nat.zero_add, if_true, if_false, if_pos hp]⟩
    by_cases d6 : d ≤ 6
    · exact Or.inr ⟨f, d, rfl, rfl, f6, d6⟩
    · exact Or.inl ⟨by simp (disch := omega) only [FX6_alloc, ↓lm1, n_ofN, l0, l1, l2, l3, l4, l5, l6, l7, l8, l10, l20, l47, l80, l100, l127, l200, l400, l600, l800, l1000, l1200, l1206, l1210, l1222, n_add, n_clamp, n_gd, n_le_t, n_le_f, n_lt_t, n_lt_f, n_eq_t, n_eq_f, n_no, n_on, n_oo, n_olt, n_nlo, n_ole, Option.bind_some, Option.bind_none, Nat.zero_add, if_true, if_false], by simp (disch := omega) only [FX7_alloc, FX7_in, ↓lm1, n_ofN, l0, l1, l2, l3, l4, l5, l6, l7, l8, l10, l20, l47, l80, l100, l127, l200, l400, l600, l800, l1000, l1200, l1206, l1210, l1222, n_add, n_clamp, n_gd, n_le_t, n_le_f, n_lt_t, n_lt_f, n_eq_t, n_eq_f, n_no, n_on, n_oo, n_olt, n_nlo, n_ole, Option.bind_some, Option.bind_none, Nat.zero_add, if_true, if_false]⟩
  rcases bad with ⟨b1, b2⟩ | ⟨f, d, rfl, rfl, hf, hd⟩
  · exact ⟨-1000002, zmm 1218, owner, fieldCount, dataCount, pinned, age, content, zmm, b1, b2, hu⟩
  obtain ⟨r, hx, fx⟩ := FX_room (n := 1 + f + d) hW.2 hO (by omega) (by omega)
  obtain ⟨r', fm, hm⟩ := FM_room H (n := 1 + f + d) rfl hf hd (lay zmm f d) (fun b hb => FM_lays (by omega) hf hd (by omega))
  have hrr := fx.uniq fm
  subst hrr
  cases r with
  | none =>
    exact ⟨-1000004, zmm 1218, owner, fieldCount, dataCount, pinned, age, content, zmm, by simp (disch := omega) only [FX6_alloc, ↓lm1, n_ofN, l0, l1, l2, l3, l4, l5, l6, l7, l8, l10, l20, l47, l80, l100, l127, l200, l400, l600, l800, l1000, l1200, l1206, l1210, l1222, n_add, n_clamp, n_gd, n_le_t, n_le_f, n_lt_t, n_lt_f, n_eq_t, n_eq_f, n_no, n_on, n_oo, n_olt, n_nlo, n_ole, Option.bind_some, Option.bind_none, Nat.zero_add, if_true, if_false, hw, hx], by simp (disch := omega) only [FX7_alloc, FX7_in, ↓lm1, n_ofN, l0, l1, l2, l3, l4, l5, l6, l7, l8, l10, l20, l47, l80, l100, l127, l200, l400, l600, l800, l1000, l1200, l1206, l1210, l1222, n_add, n_clamp, n_gd, n_le_t, n_le_f, n_lt_t, n_lt_f, n_eq_t, n_eq_f, n_no, n_on, n_oo, n_olt, n_nlo, n_ole, Option.bind_some, Option.bind_none, Nat.zero_add, if_true, if_false, hm], hu⟩
  | some b =>
    obtain ⟨hs, hfr, -⟩ := fx
    have hs2 : b + 1 + f + d ≤ 200 := by omega
    have hB := lay_b (mm := zmm) (b := b) (f := f) (d := d) (by omega) hs2
    have hz : ∀ a, a < 200 → zs (lay zmm f d b) a = if a = b then 1 + f + d else zs zmm a := fun a ha => lay_zs (by omega) hf hd hs2 ha
    refine ⟨nI b, zmm 1218 + nI 1, fl owner b (b + (1 + f + d)) (nI b), upd fieldCount b (nI f), upd dataCount b (nI d), upd pinned b (nI 0), upd age b (nI 0), fl (fl content (b + 1) (b + 1 + f) (eO none)) (b + 1 + f) (b + 1 + f + d) (nI 0), lay zmm f d b, by simp (disch := omega) only [FX6_alloc, ↓lm1, n_ofN, l0, l1, l2, l3, l4, l5, l6, l7, l8, l10, l20, l47, l80, l100, l127, l200, l400, l600, l800, l1000, l1200, l1206, l1210, l1222, n_add, n_clamp, n_gd, n_le_t, n_le_f, n_lt_t, n_lt_f, n_eq_t, n_eq_f, n_no, n_on, n_oo, n_olt, n_nlo, n_ole, Option.bind_some, Option.bind_none, Nat.zero_add, if_true, if_false, hw, hx, eO_some, FX_place (b := b) (f := f) (d := d) (by omega) hf hd hs2], by simp (disch := omega) only [FX7_alloc, FX7_in, ↓lm1, n_ofN, l0, l1, l2, l3, l4, l5, l6, l7, l8, l10, l20, l47, l80, l100, l127, l200, l400, l600, l800, l1000, l1200, l1206, l1210, l1222, n_add, n_clamp, n_gd, n_le_t, n_le_f, n_lt_t, n_lt_f, n_eq_t, n_eq_f, n_no, n_on, n_oo, n_olt, n_nlo, n_ole, Option.bind_some, Option.bind_none, Nat.zero_add, if_true, if_false, hm], ⟨W, lay_WF H hf hd hs hfr, ⟨⟨?_, ?_, ?_, ?_, ?_⟩, ?_, ?_, ?_, ?_, ?_⟩, ?_⟩, hu.2⟩
    · exact (lay_ot (by omega) hs2 (by omega)).symm
    · exact (lay_ot (by omega) hs2 (by omega)).symm
    · exact hB.2.2.2.2.1.symm
    · exact (lay_ot (by omega) hs2 (by omega)).symm
    · exact (lay_ot (by omega) hs2 (by omega)).symm
    · intro t ht
      rw [lay_ob H hf hd hs hfr (by omega)]
      by_cases hin : b ≤ t ∧ t < b + (1 + f + d)
      · rw [if_pos hin, fl_in hin.1 hin.2, eO_some]
      · rw [if_neg hin, fl_out (by omega)]
        exact hO t ht
    · intro a ha h0
      rw [hz a (by omega)] at h0 ⊢
      by_cases hab : a = b
      · subst hab
        have ezf : zf (lay zmm f d a) a = f := by
          unfold zf
          rw [hB.2.1, n_clamp (by omega)]
        rw [ezf, if_pos rfl, pk_us, pk_us, pk_us, pk_us]
        refine ⟨hB.2.1.symm, ?_, hB.2.2.1.symm, hB.2.2.2.1.symm, fun k k1 k2 => ?_⟩
        · rw [show 1 + f + d - 1 - f = d by omega]
        · by_cases hk : k ≤ f
          · rw [fl_out (by omega), fl_in (by omega) (by omega), hB.2.2.2.2.2.1 k k1 hk]
          · rw [fl_in (by omega) (by omega), hB.2.2.2.2.2.2 k (by omega) (by omega)]
      · rw [if_neg hab] at h0 ⊢
        have h9 := H.hd (a := a) (by omega) h0
        have ezf : zf (lay zmm f d b) a = zf zmm a := same_zf (lay_ot (by omega) hs2 (by omega))
        have hap : ∀ i j, i < zs zmm a → j < 1 + f + d → a + i ≠ b + j := fun i j hi hj z => by
          have := hfr j hj
          rw [← z, ob_of H (h := a) (by omega) ⟨by omega, by omega⟩] at this
          cases this
        obtain ⟨a1, a2, a3, a4, a5⟩ := hA a ha h0
        rw [ezf, pk_un hab, pk_un hab, pk_un hab, pk_un hab, lay_ot (by omega) hs2 (by omega), lay_ot (by omega) hs2 (by omega), lay_ot (by omega) hs2 (by omega)]
        refine ⟨a1, a2, a3, a4, fun k k1 k2 => ?_⟩
        have hin : ¬ (b + 1 ≤ a + k ∧ a + k < b + 1 + f + d) := fun z => hap k (a + k - b) (by omega) (by omega) (by omega)
        rw [lay_ot (by omega) hs2 (by omega), fl_out (by omega), fl_out (by omega)]
        exact a5 k k1 k2
    · intro k hk
      rw [lay_ot (by omega) hs2 (by omega)]
      exact hR k hk
    · intro k hk
      rw [lay_ot (by omega) hs2 (by omega)]
      exact hK k hk
    · rw [lay_ot (by omega) hs2 (by omega)]
      intro h9
      refine ⟨fun t ht => ?_, fun k hk => ?_⟩
      · rw [lay_ot (by omega) hs2 (by omega)]; exact (hM h9).1 t ht
      · rw [lay_ot (by omega) hs2 (by omega)]; exact (hM h9).2 k hk
    · obtain ⟨c, c1, c2, c3⟩ := hc
      exact ⟨c, by omega, (lay_ot (by omega) hs2 (by omega)).trans c2, (lay_ot (by omega) hs2 (by omega)).trans c3⟩
