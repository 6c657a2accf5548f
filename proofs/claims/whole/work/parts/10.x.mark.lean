/-! two loops, step by step -/
theorem lock {σ τ ρ π : Type} {f : σ → Option (σ ⊕ ρ)} {g : τ → Option (τ ⊕ π)} (I : σ → τ → Prop) (μ : σ → Nat) (Q : ρ → π → Prop) (st : ∀ s u, I s u → (∃ s' u', f s = some (.inl s') ∧ g u = some (.inl u') ∧ I s' u' ∧ μ s' < μ s) ∨ (∃ r q, f s = some (.inr r) ∧ g u = some (.inr q) ∧ Q r q)) : ∀ (fu fv : Nat) (s : σ) (u : τ), I s u → μ s < fu → μ s < fv → ∃ r q, g_itn f fu s = some r ∧ g_itn g fv u = some q ∧ Q r q
  | 0, _, _, _, _, h, _ => absurd h (Nat.not_lt_zero _)
  | _ + 1, 0, _, _, _, _, h => absurd h (Nat.not_lt_zero _)
  | fu + 1, fv + 1, s, u, hI, h1, h2 => by
    rcases st s u hI with ⟨s', u', e1, e2, e3, e4⟩ | ⟨r, q, e1, e2, e3⟩
    · obtain ⟨r, q, k1, k2, k3⟩ := lock I μ Q st fu fv s' u' e3 (by omega) (by omega)
      exact ⟨r, q, by simp only [g_itn, e1]; exact k1, by simp only [g_itn, e2]; exact k2, k3⟩
    · exact ⟨r, q, by simp only [g_itn, e1], by simp only [g_itn, e2], e3⟩
theorem lockg {σ τ ρ π : Type} {f : σ → Option (σ ⊕ ρ)} {g : τ → Option (τ ⊕ π)} (I : σ → τ → Prop) (μ : σ → Nat) (Q : ρ → π → Prop) (st : ∀ s u, I s u → (∃ s' u', f s = some (.inl s') ∧ g u = some (.inl u') ∧ I s' u' ∧ μ s' < μ s) ∨ (∃ r q, f s = some (.inr r) ∧ g u = some (.inr q) ∧ Q r q)) (s : σ) (u : τ) (hI : I s u) (hm : μ s < 1000000) : ∃ r q, g_it f s = some r ∧ g_it g u = some q ∧ Q r q := lock I μ Q st g_fuel g_fuel s u hI hm hm
/-! marking: both keep the same stack and the same marks -/
def um (mk : Nat → Int32) : Nat := cnt (fun h => decide (mk h = nI 0)) 200
def MS (mm : Nat → Int32) (W D top hi ov : Nat) (mk mk' st st' : Nat → Int32) : Prop := top ≤ D ∧ hi ≤ 20 ∧ ov ≤ 1 ∧ (∀ h, h < 200 → mk h = mk' h ∧ (mk h = nI 0 ∨ (mk h = nI 1 ∧ h < W ∧ 0 < zs mm h))) ∧ ∀ j, j < top → ∃ h, h < W ∧ 0 < zs mm h ∧ st j = nI h ∧ st' j = nI h
abbrev S5 : Type := Int32 × Int32 × Int32 × (Nat → Int32) × (Nat → Int32)
/-- both states, with a bound on what is on the stack and what isn't marked; an overflow that is set costs an unmarked one -/
def MB (mm : Nat → Int32) (W D B U : Nat) (c r : S5) : Prop := ∃ top hi ov mk mk' st st', c = (nI top, nI hi, nI ov, mk, st) ∧ r = (nI top, nI hi, nI ov, mk', st') ∧ MS mm W D top hi ov mk mk' st st' ∧ top + um mk ≤ B ∧ um mk + ov ≤ U
theorem um_mark {mk : Nat → Int32} {b : Nat} (hb : b < 200) (h0 : mk b = nI 0) : um (upd mk b (nI 1)) + 1 = um mk := by
  have h10 : ¬ nI 1 = nI 0 := by decide
  have := cnt_one (p := fun h => decide (upd mk b (nI 1) h = nI 0)) (q := fun h => decide (mk h = nI 0)) (b := b) 200 hb (by simp [pk_us, h10]) (by simp [h0]) (fun i hi => by simp only [pk_un hi])
  unfold um
  omega
theorem MB.visit {mm : Nat → Int32} {W D B U : Nat} (H : WF mm W) (hD : mm 1217 = nI D) (hD2 : 1 ≤ D ∧ D ≤ 20) {a1 a2 a3 b1 b2 b3 : Int32} {am as bm bs : Nat → Int32} (M : MB mm W D B U (a1, a2, a3, am, as) (b1, b2, b3, bm, bs)) (p : Int32) :
    ∃ c r, FX0_visit a1 a2 a3 am as (eO (obI mm W p)) (nI D) = some c ∧ FX7_reach b1 b2 b3 mm bm bs p = some r ∧ MB mm W D B U c r := by
  have hW := H.size
  obtain ⟨top, hi, ov, mk, mk', st, st', e1, e2, M, hB, hU⟩ := M
  cases e1
  cases e2
  obtain ⟨m1, m2, m3, m4, m5⟩ := id M
  have et : (if p = eO none then some (eO none) else (FX7_objectOf mm p).bind (fun r8 => some r8)) = some (eO (obI mm W p)) := by
    by_cases q : p = eO none
    · rw [if_pos q, q, obI_none]
    · rw [if_neg q, FM_objectOf H]
      rfl
  cases e : obI mm W p with
  | none =>
    rw [e] at et
    refine ⟨_, _, ?_, ?_, top, hi, ov, mk, mk', st, st', rfl, rfl, M, hB, hU⟩
    · simp (disch := omega) only [FX0_visit, ↓lm1, n_ofN, l0, l1, l2, l3, l4, l5, l6, l7, l8, l10, l20, l47, l80, l100, l127, l200, l400, l600, l800, l1000, l1200, l1206, l1210, l1222, n_add, n_clamp, n_gd, n_le_t, n_le_f, n_lt_t, n_lt_f, n_eq_t, n_eq_f, n_no, n_on, n_oo, n_olt, n_nlo, n_ole, Option.bind_some, Option.bind_none, Nat.zero_add, if_true, if_false]
    · simp (disch := omega) only [FX7_reach, et, ↓lm1, n_ofN, l0, l1, l2, l3, l4, l5, l6, l7, l8, l10, l20, l47, l80, l100, l127, l200, l400, l600, l800, l1000, l1200, l1206, l1210, l1222, n_add, n_clamp, n_gd, n_le_t, n_le_f, n_lt_t, n_lt_f, n_eq_t, n_eq_f, n_no, n_on, n_oo, n_olt, n_nlo, n_ole, Option.bind_some, Option.bind_none, Nat.zero_add, if_true, if_false]
  | some b =>
    rw [e, eO_some] at et
    obtain ⟨t, _, _, _, hbW, hb0⟩ := obI_sm H e
    obtain ⟨q1, q2⟩ := m4 b (by omega)
    rcases q2 with q2 | ⟨q2, _, _⟩
    · have hum := um_mark (mk := mk) (b := b) (by omega) q2
      have hmk : ∀ h, h < 200 → upd mk b (nI 1) h = upd mk' b (nI 1) h ∧ (upd mk b (nI 1) h = nI 0 ∨ (upd mk b (nI 1) h = nI 1 ∧ h < W ∧ 0 < zs mm h)) := fun h hh => by
        by_cases hb : h = b
        · subst hb
          exact ⟨by rw [pk_us, pk_us], Or.inr ⟨pk_us, hbW, hb0⟩⟩
        · rw [pk_un hb, pk_un hb]
          exact m4 h hh
      have q3 := q1.symm.trans q2
      by_cases hf : top = D
      · subst hf
        refine ⟨(nI top, nI hi, nI 1, upd mk b (nI 1), st), (nI top, nI hi, nI 1, upd mk' b (nI 1), st'), ?_, ?_, top, hi, 1, _, _, st, st', rfl, rfl, ⟨m1, m2, by omega, hmk, m5⟩, by omega, by omega⟩
        · simp (disch := omega) only [FX0_visit, eO_some, q2, ↓lm1, n_ofN, l0, l1, l2, l3, l4, l5, l6, l7, l8, l10, l20, l47, l80, l100, l127, l200, l400, l600, l800, l1000, l1200, l1206, l1210, l1222, n_add, n_clamp, n_gd, n_le_t, n_le_f, n_lt_t, n_lt_f, n_eq_t, n_eq_f, n_no, n_on, n_oo, n_olt, n_nlo, n_ole, Option.bind_some, Option.bind_none, Nat.zero_add, if_true, if_false]
        · simp (disch := omega) only [FX7_reach, et, q3, hD, ↓lm1, n_ofN, l0, l1, l2, l3, l4, l5, l6, l7, l8, l10, l20, l47, l80, l100, l127, l200, l400, l600, l800, l1000, l1200, l1206, l1210, l1222, n_add, n_clamp, n_gd, n_le_t, n_le_f, n_lt_t, n_lt_f, n_eq_t, n_eq_f, n_no, n_on, n_oo, n_olt, n_nlo, n_ole, Option.bind_some, Option.bind_none, Nat.zero_add, if_true, if_false]
      · have hst : ∀ j, j < top + 1 → ∃ h, h < W ∧ 0 < zs mm h ∧ upd st top (nI b) j = nI h ∧ upd st' top (nI b) j = nI h := fun j hj => by
          by_cases hjt : j = top
          · subst hjt
            exact ⟨b, hbW, hb0, pk_us, pk_us⟩
          · rw [pk_un hjt, pk_un hjt]
            exact m5 j (by omega)
        by_cases hh : top + 1 ≤ hi
        · refine ⟨(nI (top + 1), nI hi, nI ov, upd mk b (nI 1), upd st top (nI b)), (nI (top + 1), nI hi, nI ov, upd mk' b (nI 1), upd st' top (nI b)), ?_, ?_, top + 1, hi, ov, _, _, _, _, rfl, rfl, ⟨by omega, m2, m3, hmk, hst⟩, by omega, by omega⟩
          · simp (disch := omega) only [FX0_visit, eO_some, q2, l20, ↓lm1, n_ofN, l0, l1, l2, l3, l4, l5, l6, l7, l8, l10, l20, l47, l80, l100, l127, l200, l400, l600, l800, l1000, l1200, l1206, l1210, l1222, n_add, n_clamp, n_gd, n_le_t, n_le_f, n_lt_t, n_lt_f, n_eq_t, n_eq_f, n_no, n_on, n_oo, n_olt, n_nlo, n_ole, Option.bind_some, Option.bind_none, Nat.zero_add, if_true, if_false]
          · simp (disch := omega) only [FX7_reach, et, q3, hD, ↓lm1, n_ofN, l0, l1, l2, l3, l4, l5, l6, l7, l8, l10, l20, l47, l80, l100, l127, l200, l400, l600, l800, l1000, l1200, l1206, l1210, l1222, n_add, n_clamp, n_gd, n_le_t, n_le_f, n_lt_t, n_lt_f, n_eq_t, n_eq_f, n_no, n_on, n_oo, n_olt, n_nlo, n_ole, Option.bind_some, Option.bind_none, Nat.zero_add, if_true, if_false]
        · refine ⟨(nI (top + 1), nI (top + 1), nI ov, upd mk b (nI 1), upd st top (nI b)), (nI (top + 1), nI (top + 1), nI ov, upd mk' b (nI 1), upd st' top (nI b)), ?_, ?_, top + 1, top + 1, ov, _, _, _, _, rfl, rfl, ⟨by omega, by omega, m3, hmk, hst⟩, by omega, by omega⟩
          · simp (disch := omega) only [FX0_visit, eO_some, q2, l20, ↓lm1, n_ofN, l0, l1, l2, l3, l4, l5, l6, l7, l8, l10, l20, l47, l80, l100, l127, l200, l400, l600, l800, l1000, l1200, l1206, l1210, l1222, n_add, n_clamp, n_gd, n_le_t, n_le_f, n_lt_t, n_lt_f, n_eq_t, n_eq_f, n_no, n_on, n_oo, n_olt, n_nlo, n_ole, Option.bind_some, Option.bind_none, Nat.zero_add, if_true, if_false]
          · simp (disch := omega) only [FX7_reach, et, q3, hD, ↓lm1, n_ofN, l0, l1, l2, l3, l4, l5, l6, l7, l8, l10, l20, l47, l80, l100, l127, l200, l400, l600, l800, l1000, l1200, l1206, l1210, l1222, n_add, n_clamp, n_gd, n_le_t, n_le_f, n_lt_t, n_lt_f, n_eq_t, n_eq_f, n_no, n_on, n_oo, n_olt, n_nlo, n_ole, Option.bind_some, Option.bind_none, Nat.zero_add, if_true, if_false]
    · have n1 : ¬ mk b = nI 0 := by rw [q2]; decide
      have n2 : ¬ mk' b = nI 0 := by rw [← q1]; exact n1
      refine ⟨_, _, ?_, ?_, top, hi, ov, mk, mk', st, st', rfl, rfl, M, hB, hU⟩
      · simp (disch := omega) only [FX0_visit, eO_some, if_neg n1, ↓lm1, n_ofN, l0, l1, l2, l3, l4, l5, l6, l7, l8, l10, l20, l47, l80, l100, l127, l200, l400, l600, l800, l1000, l1200, l1206, l1210, l1222, n_add, n_clamp, n_gd, n_le_t, n_le_f, n_lt_t, n_lt_f, n_eq_t, n_eq_f, n_no, n_on, n_oo, n_olt, n_nlo, n_ole, Option.bind_some, Option.bind_none, Nat.zero_add, if_true, if_false]
      · simp (disch := omega) only [FX7_reach, et, if_neg n2, ↓lm1, n_ofN, l0, l1, l2, l3, l4, l5, l6, l7, l8, l10, l20, l47, l80, l100, l127, l200, l400, l600, l800, l1000, l1200, l1206, l1210, l1222, n_add, n_clamp, n_gd, n_le_t, n_le_f, n_lt_t, n_lt_f, n_eq_t, n_eq_f, n_no, n_on, n_oo, n_olt, n_nlo, n_ole, Option.bind_some, Option.bind_none, Nat.zero_add, if_true, if_false]
