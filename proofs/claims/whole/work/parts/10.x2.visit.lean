/-! marking: both keep the same stack and the same marks -/
def um (mk : Nat → Int32) : Nat := cnt (fun h => decide (mk h = nI 0)) 200
theorem um_le (mk : Nat → Int32) : um mk ≤ 200 := cnt_le _ _
theorem um_mark {mk : Nat → Int32} {b : Nat} (hb : b < 200) (h0 : mk b = nI 0) : um (upd mk b (nI 1)) + 1 = um mk := by
  have h10 : ¬ nI 1 = nI 0 := by decide
  have h := cnt_one (p := fun h => decide (upd mk b (nI 1) h = nI 0)) (q := fun h => decide (mk h = nI 0)) (b := b) 200 hb (by rw [pk_us]; exact decide_eq_false h10) (decide_eq_true h0) (fun i hi => by rw [pk_un hi])
  exact h.symm
abbrev S5 : Type := Int32 × Int32 × Int32 × (Nat → Int32) × (Nat → Int32)
def mx (hi top : Nat) : Nat := if top + 1 ≤ hi then hi else top + 1
theorem mx_le {hi top n : Nat} (h1 : hi ≤ n) (h2 : top < n) : mx hi top ≤ n := by
  unfold mx
  split <;> omega
theorem FX_visit0 {a1 a2 a3 : Int32} {mk st : Nat → Int32} {D : Nat} : FX0_visit a1 a2 a3 mk st (eO none) (nI D) = some (a1, a2, a3, mk, st) := by
  simp (disch := omega) only [FX0_visit, ↓lm1, n_ofN, l0, l1, l2, l3, l4, l5, l6, l7, l8, l10, l20, l47, l80, l100, l127, l200, l400, l600, l800, l1000, l1200, l1206, l1210, l1222, n_add, n_clamp, n_gd, n_le_t, n_le_f, n_lt_t, n_lt_f, n_eq_t, n_eq_f, n_no, n_on, n_oo, n_olt, n_nlo, n_ole, Option.bind_some, Option.bind_none, Nat.zero_add, if_true, if_false]
theorem FX_visit1 {a1 a2 a3 : Int32} {mk st : Nat → Int32} {b D : Nat} (hb : b < 200) (h : mk b = nI 1) : FX0_visit a1 a2 a3 mk st (nI b) (nI D) = some (a1, a2, a3, mk, st) := by
  simp (disch := omega) only [FX0_visit, h, ↓lm1, n_ofN, l0, l1, l2, l3, l4, l5, l6, l7, l8, l10, l20, l47, l80, l100, l127, l200, l400, l600, l800, l1000, l1200, l1206, l1210, l1222, n_add, n_clamp, n_gd, n_le_t, n_le_f, n_lt_t, n_lt_f, n_eq_t, n_eq_f, n_no, n_on, n_oo, n_olt, n_nlo, n_ole, Option.bind_some, Option.bind_none, Nat.zero_add, if_true, if_false]
theorem FX_visitF {a2 a3 : Int32} {mk st : Nat → Int32} {top b D : Nat} (hb : b < 200) (h : mk b = nI 0) (ht : D ≤ top) (h2 : top < 100) : FX0_visit (nI top) a2 a3 mk st (nI b) (nI D) = some (nI top, a2, nI 1, upd mk b (nI 1), st) := by
  simp (disch := omega) only [FX0_visit, h, ↓lm1, n_ofN, l0, l1, l2, l3, l4, l5, l6, l7, l8, l10, l20, l47, l80, l100, l127, l200, l400, l600, l800, l1000, l1200, l1206, l1210, l1222, n_add, n_clamp, n_gd, n_le_t, n_le_f, n_lt_t, n_lt_f, n_eq_t, n_eq_f, n_no, n_on, n_oo, n_olt, n_nlo, n_ole, Option.bind_some, Option.bind_none, Nat.zero_add, if_true, if_false]
theorem FX_visitP {a3 : Int32} {mk st : Nat → Int32} {top hi b D : Nat} (hb : b < 200) (h : mk b = nI 0) (ht : top < D) (hD : D ≤ 20) (hh : hi ≤ 20) : FX0_visit (nI top) (nI hi) a3 mk st (nI b) (nI D) = some (nI (top + 1), nI (mx hi top), a3, upd mk b (nI 1), upd st top (nI b)) := by
  unfold mx
  by_cases q : top + 1 ≤ hi
  · rw [if_pos q]
    simp (disch := omega) only [FX0_visit, h, ↓lm1, n_ofN, l0, l1, l2, l3, l4, l5, l6, l7, l8, l10, l20, l47, l80, l100, l127, l200, l400, l600, l800, l1000, l1200, l1206, l1210, l1222, n_add, n_clamp, n_gd, n_le_t, n_le_f, n_lt_t, n_lt_f, n_eq_t, n_eq_f, n_no, n_on, n_oo, n_olt, n_nlo, n_ole, Option.bind_some, Option.bind_none, Nat.zero_add, if_true, if_false]
  · rw [if_neg q]
    simp (disch := omega) only [FX0_visit, h, ↓lm1, n_ofN, l0, l1, l2, l3, l4, l5, l6, l7, l8, l10, l20, l47, l80, l100, l127, l200, l400, l600, l800, l1000, l1200, l1206, l1210, l1222, n_add, n_clamp, n_gd, n_le_t, n_le_f, n_lt_t, n_lt_f, n_eq_t, n_eq_f, n_no, n_on, n_oo, n_olt, n_nlo, n_ole, Option.bind_some, Option.bind_none, Nat.zero_add, if_true, if_false]
theorem FM_tgt {mm : Nat → Int32} {W : Nat} (H : WF mm W) (p : Int32) : (if p = eO none then some (eO none) else (FX7_objectOf mm p).bind (fun r8 => some r8)) = some (eO (obI mm W p)) := by
  by_cases q : p = eO none
  · rw [if_pos q, q, obI_none]
  · rw [if_neg q, FM_objectOf H]
    rfl
theorem FM_reach0 {mm : Nat → Int32} {W : Nat} (H : WF mm W) {a1 a2 a3 : Int32} {mk st : Nat → Int32} {p : Int32} (e : obI mm W p = none) : FX7_reach a1 a2 a3 mm mk st p = some (a1, a2, a3, mk, st) := by
  simp (disch := omega) only [FX7_reach, FM_tgt H, e, ↓lm1, n_ofN, l0, l1, l2, l3, l4, l5, l6, l7, l8, l10, l20, l47, l80, l100, l127, l200, l400, l600, l800, l1000, l1200, l1206, l1210, l1222, n_add, n_clamp, n_gd, n_le_t, n_le_f, n_lt_t, n_lt_f, n_eq_t, n_eq_f, n_no, n_on, n_oo, n_olt, n_nlo, n_ole, Option.bind_some, Option.bind_none, Nat.zero_add, if_true, if_false]
theorem FM_reach1 {mm : Nat → Int32} {W : Nat} (H : WF mm W) {a1 a2 a3 : Int32} {mk st : Nat → Int32} {p : Int32} {b : Nat} (e : obI mm W p = some b) (hb : b < 200) (h : mk b = nI 1) : FX7_reach a1 a2 a3 mm mk st p = some (a1, a2, a3, mk, st) := by
  simp (disch := omega) only [FX7_reach, FM_tgt H, e, eO_some, h, ↓lm1, n_ofN, l0, l1, l2, l3, l4, l5, l6, l7, l8, l10, l20, l47, l80, l100, l127, l200, l400, l600, l800, l1000, l1200, l1206, l1210, l1222, n_add, n_clamp, n_gd, n_le_t, n_le_f, n_lt_t, n_lt_f, n_eq_t, n_eq_f, n_no, n_on, n_oo, n_olt, n_nlo, n_ole, Option.bind_some, Option.bind_none, Nat.zero_add, if_true, if_false]
theorem FM_reachF {mm : Nat → Int32} {W : Nat} (H : WF mm W) {a2 a3 : Int32} {mk st : Nat → Int32} {p : Int32} {b top : Nat} (hD : mm 1217 = nI top) (e : obI mm W p = some b) (hb : b < 200) (h : mk b = nI 0) : FX7_reach (nI top) a2 a3 mm mk st p = some (nI top, a2, nI 1, upd mk b (nI 1), st) := by
  simp (disch := omega) only [FX7_reach, FM_tgt H, e, eO_some, h, hD, ↓lm1, n_ofN, l0, l1, l2, l3, l4, l5, l6, l7, l8, l10, l20, l47, l80, l100, l127, l200, l400, l600, l800, l1000, l1200, l1206, l1210, l1222, n_add, n_clamp, n_gd, n_le_t, n_le_f, n_lt_t, n_lt_f, n_eq_t, n_eq_f, n_no, n_on, n_oo, n_olt, n_nlo, n_ole, Option.bind_some, Option.bind_none, Nat.zero_add, if_true, if_false]
theorem FM_reachP {mm : Nat → Int32} {W : Nat} (H : WF mm W) {a3 : Int32} {mk st : Nat → Int32} {p : Int32} {b top hi D : Nat} (hD : mm 1217 = nI D) (e : obI mm W p = some b) (hb : b < 200) (h : mk b = nI 0) (ht : top < D) (hD2 : D ≤ 20) (hh : hi ≤ 20) : FX7_reach (nI top) (nI hi) a3 mm mk st p = some (nI (top + 1), nI (mx hi top), a3, upd mk b (nI 1), upd st top (nI b)) := by
  unfold mx
  by_cases q : top + 1 ≤ hi
  · rw [if_pos q]
    simp (disch := omega) only [FX7_reach, FM_tgt H, e, eO_some, h, hD, ↓lm1, n_ofN, l0, l1, l2, l3, l4, l5, l6, l7, l8, l10, l20, l47, l80, l100, l127, l200, l400, l600, l800, l1000, l1200, l1206, l1210, l1222, n_add, n_clamp, n_gd, n_le_t, n_le_f, n_lt_t, n_lt_f, n_eq_t, n_eq_f, n_no, n_on, n_oo, n_olt, n_nlo, n_ole, Option.bind_some, Option.bind_none, Nat.zero_add, if_true, if_false]
  · rw [if_neg q]
    simp (disch := omega) only [FX7_reach, FM_tgt H, e, eO_some, h, hD, ↓lm1, n_ofN, l0, l1, l2, l3, l4, l5, l6, l7, l8, l10, l20, l47, l80, l100, l127, l200, l400, l600, l800, l1000, l1200, l1206, l1210, l1222, n_add, n_clamp, n_gd, n_le_t, n_le_f, n_lt_t, n_lt_f, n_eq_t, n_eq_f, n_no, n_on, n_oo, n_olt, n_nlo, n_ole, Option.bind_some, Option.bind_none, Nat.zero_add, if_true, if_false]
/-- marks: they agree, and what is marked is an object -/
def MK (mm : Nat → Int32) (W : Nat) (mk mk' : Nat → Int32) : Prop := ∀ h, h < 200 → mk h = mk' h ∧ (mk h = nI 0 ∨ (mk h = nI 1 ∧ h < W ∧ 0 < zs mm h))
def SK (mm : Nat → Int32) (W top : Nat) (st st' : Nat → Int32) : Prop := ∀ j, j < top → ∃ h, h < W ∧ 0 < zs mm h ∧ st j = nI h ∧ st' j = nI h
theorem MK.put {mm mk mk' : Nat → Int32} {W b : Nat} (M : MK mm W mk mk') (hb : b < W) (h0 : 0 < zs mm b) : MK mm W (upd mk b (nI 1)) (upd mk' b (nI 1)) := fun h hh => by
  by_cases e : h = b
  · subst e
    rw [pk_us, pk_us]
    exact ⟨rfl, Or.inr ⟨rfl, hb, h0⟩⟩
  · rw [pk_un e, pk_un e]
    exact M h hh
theorem SK.put {mm st st' : Nat → Int32} {W top b : Nat} (M : SK mm W top st st') (hb : b < W) (h0 : 0 < zs mm b) : SK mm W (top + 1) (upd st top (nI b)) (upd st' top (nI b)) := fun j hj => by
  by_cases e : j = top
  · subst e
    rw [pk_us, pk_us]
    exact ⟨b, hb, h0, rfl, rfl⟩
  · rw [pk_un e, pk_un e]
    exact M j (by omega)
/-- both states, with a bound on what is on the stack and what isn't marked; an overflow that is set costs an unmarked one -/
def MB (mm : Nat → Int32) (W D B U : Nat) (P : Nat → Prop) (c r : S5) : Prop := ∃ (top hi ov : Nat) (mk mk' st st' : Nat → Int32), c = (nI top, nI hi, nI ov, mk, st) ∧ r = (nI top, nI hi, nI ov, mk', st') ∧ top ≤ D ∧ hi ≤ 20 ∧ ov ≤ 1 ∧ MK mm W mk mk' ∧ SK mm W top st st' ∧ top + um mk ≤ B ∧ um mk + ov ≤ U ∧ ∀ h, P h → mk h = nI 1
theorem MB.visit0 {mm : Nat → Int32} {W D B U : Nat} {P : Nat → Prop} (H : WF mm W) (hD : mm 1217 = nI D) (hD2 : D ≤ 20) (a b : S5) (M : MB mm W D B U P a b) (p : Int32) :
    ∃ c r, FX0_visit a.1 a.2.1 a.2.2.1 a.2.2.2.1 a.2.2.2.2 (eO (obI mm W p)) (nI D) = some c ∧ FX7_reach b.1 b.2.1 b.2.2.1 mm b.2.2.2.1 b.2.2.2.2 p = some r ∧ MB mm W D B U P c r := by
  have hW := H.size
  obtain ⟨top, hi, ov, mk, mk', st, st', rfl, rfl, m1, m2, m3, m4, m5, m6, m7, m8⟩ := M
  cases e : obI mm W p with
  | none => exact ⟨_, _, FX_visit0, FM_reach0 H e, top, hi, ov, mk, mk', st, st', rfl, rfl, m1, m2, m3, m4, m5, m6, m7, m8⟩
  | some b =>
    obtain ⟨t, _, _, _, hbW, hb0⟩ := obI_sm H e
    have hb2 : b < 200 := Nat.lt_of_lt_of_le hbW hW.2
    obtain ⟨q1, q2⟩ := m4 b hb2
    rw [eO_some]
    rcases q2 with q2 | ⟨q2, _, _⟩
    · have hum := um_mark hb2 q2
      have hP : ∀ h, P h → upd mk b (nI 1) h = nI 1 := fun h hh => by
        by_cases z : h = b
        · rw [z, pk_us]
        · rw [pk_un z]; exact m8 h hh
      by_cases hf : top = D
      · refine ⟨_, _, FX_visitF hb2 q2 (Nat.le_of_eq hf.symm) (by omega), FM_reachF H (hf ▸ hD) e hb2 (q1.symm.trans q2), top, hi, 1, upd mk b (nI 1), upd mk' b (nI 1), st, st', rfl, rfl, m1, m2, Nat.le_refl 1, m4.put hbW hb0, m5, ?_, ?_, hP⟩
        · omega
        · omega
      · have ht : top < D := by omega
        refine ⟨_, _, FX_visitP hb2 q2 ht hD2 m2, FM_reachP H hD e hb2 (q1.symm.trans q2) ht hD2 m2, top + 1, mx hi top, ov, upd mk b (nI 1), upd mk' b (nI 1), upd st top (nI b), upd st' top (nI b), rfl, rfl, ht, mx_le m2 (by omega), m3, m4.put hbW hb0, m5.put hbW hb0, ?_, ?_, hP⟩
        · omega
        · omega
    · exact ⟨_, _, FX_visit1 hb2 q2, FM_reach1 H e hb2 (q1.symm.trans q2), top, hi, ov, mk, mk', st, st', rfl, rfl, m1, m2, m3, m4, m5, m6, m7, m8⟩
theorem MB.visit {mm : Nat → Int32} {W D B U : Nat} {P : Nat → Prop} {a1 a2 a3 b1 b2 b3 : Int32} {a4 a5 b4 b5 : Nat → Int32} (M : MB mm W D B U P (a1, a2, a3, a4, a5) (b1, b2, b3, b4, b5)) (H : WF mm W) (hD : mm 1217 = nI D) (hD2 : D ≤ 20) (p : Int32) :
    ∃ c r, FX0_visit a1 a2 a3 a4 a5 (eO (obI mm W p)) (nI D) = some c ∧ FX7_reach b1 b2 b3 mm b4 b5 p = some r ∧ MB mm W D B U P c r := MB.visit0 H hD hD2 (a1, a2, a3, a4, a5) (b1, b2, b3, b4, b5) M p
