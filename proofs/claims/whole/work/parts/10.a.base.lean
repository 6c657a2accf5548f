/-! Loops: by a listing of their states, and by what stays. -/
theorem it_for {σ ρ : Type} {f : σ → Option (σ ⊕ ρ)} (S : Nat → σ) (n : Nat) (r : ρ) (last : f (S n) = some (.inr r)) : ∀ (d a : Nat), a + d = n → (∀ i, a ≤ i → i < n → f (S i) = some (.inl (S (i + 1)))) → ∀ fu, d < fu → g_itn f fu (S a) = some r
  | 0, a, h, _, fu + 1, _ => by
    have h : a = n := h
    subst h
    simp [g_itn, last]
  | d + 1, a, h, st, fu + 1, hf => by
    have h1 := st a (Nat.le_refl a) (by omega)
    simp only [g_itn, h1]
    exact it_for S n r last d (a + 1) (by omega) (fun i h2 h3 => st i (by omega) h3) fu (by omega)
theorem it_to {σ ρ : Type} {f : σ → Option (σ ⊕ ρ)} (S : Nat → σ) (a n : Nat) (r : ρ) (h : a ≤ n) (hn : n < 999999) (st : ∀ i, a ≤ i → i < n → f (S i) = some (.inl (S (i + 1)))) (last : f (S n) = some (.inr r)) : g_it f (S a) = some r :=
  it_for S n r last (n - a) a (by omega) st g_fuel (by unfold g_fuel; omega)
/-- a loop with something that stays and a measure that falls -/
theorem it_inv {σ ρ : Type} {f : σ → Option (σ ⊕ ρ)} (I : σ → Prop) (μ : σ → Nat) (Q : ρ → Prop) (st : ∀ s, I s → (∃ s', f s = some (.inl s') ∧ I s' ∧ μ s' < μ s) ∨ (∃ r, f s = some (.inr r) ∧ Q r)) : ∀ (fu : Nat) (s : σ), I s → μ s < fu → ∃ r, g_itn f fu s = some r ∧ Q r
  | 0, _, _, h => absurd h (Nat.not_lt_zero _)
  | fu + 1, s, hI, h => by
    rcases st s hI with ⟨s', h1, h2, h3⟩ | ⟨r, h1, h2⟩
    · obtain ⟨r, h4, h5⟩ := it_inv I μ Q st fu s' h2 (by omega)
      exact ⟨r, by simp only [g_itn, h1]; exact h4, h5⟩
    · exact ⟨r, by simp only [g_itn, h1], h2⟩
theorem it_invg {σ ρ : Type} {f : σ → Option (σ ⊕ ρ)} (I : σ → Prop) (μ : σ → Nat) (Q : ρ → Prop) (st : ∀ s, I s → (∃ s', f s = some (.inl s') ∧ I s' ∧ μ s' < μ s) ∨ (∃ r, f s = some (.inr r) ∧ Q r)) (s : σ) (hI : I s) (hm : μ s < 1000000) : ∃ r, g_it f s = some r ∧ Q r := it_inv I μ Q st g_fuel s hI hm
/-! numbers: every constant of the code that isn't negative is some nI n, and -1 is eO none; rows for simp (disch := omega) -/
def eO : Option Nat → Int32
  | none => -1
  | some h => nI h
theorem l0 : (0 : Int32) = nI 0 := id rfl
theorem l1 : (1 : Int32) = nI 1 := id rfl
theorem l2 : (2 : Int32) = nI 2 := id rfl
theorem l3 : (3 : Int32) = nI 3 := id rfl
theorem l4 : (4 : Int32) = nI 4 := id rfl
theorem l5 : (5 : Int32) = nI 5 := id rfl
theorem l6 : (6 : Int32) = nI 6 := id rfl
theorem l7 : (7 : Int32) = nI 7 := id rfl
theorem l8 : (8 : Int32) = nI 8 := id rfl
theorem l10 : (10 : Int32) = nI 10 := id rfl
theorem l20 : (20 : Int32) = nI 20 := id rfl
theorem l47 : (47 : Int32) = nI 47 := id rfl
theorem l80 : (80 : Int32) = nI 80 := id rfl
theorem l100 : (100 : Int32) = nI 100 := id rfl
theorem l127 : (127 : Int32) = nI 127 := id rfl
theorem l200 : (200 : Int32) = nI 200 := id rfl
theorem l400 : (400 : Int32) = nI 400 := id rfl
theorem l600 : (600 : Int32) = nI 600 := id rfl
theorem l800 : (800 : Int32) = nI 800 := id rfl
theorem l1000 : (1000 : Int32) = nI 1000 := id rfl
theorem l1200 : (1200 : Int32) = nI 1200 := id rfl
theorem l1206 : (1206 : Int32) = nI 1206 := id rfl
theorem l1210 : (1210 : Int32) = nI 1210 := id rfl
theorem l1222 : (1222 : Int32) = nI 1222 := id rfl
theorem lm1 : (-1 : Int32) = eO none := id rfl
theorem eO_some (h : Nat) : eO (some h) = nI h := id rfl
theorem n_ofN (n : Nat) : Int32.ofNat n = nI n := id rfl
theorem n_add (a b : Nat) : nI a + nI b = nI (a + b) := nI_add a b
theorem n_clamp {n : Nat} (h : n < 2147483648) : (nI n).toNatClampNeg = n := nI_clamp (by omega)
theorem n_gd {α : Type} {k n : Nat} {x : Option α} (h : k < n) (hn : n < 2147483648) : g_gd (g_in (nI k) n) x = x := by
  have h1 : (0 : Int32) ≤ nI k := nI_pos' (by omega)
  simp [g_gd, g_in, h1, nI_clamp (n := k) (by omega), h]
theorem n_le_t {α : Type} {a b : Nat} {x y : α} {d : Decidable (nI a ≤ nI b)} (h : a ≤ b) (hb : b < 2147483648) : (@ite _ (nI a ≤ nI b) d x y) = x := if_pos (nI_le h (by omega))
theorem n_le_f {α : Type} {a b : Nat} {x y : α} {d : Decidable (nI a ≤ nI b)} (h : b < a) (hb : a < 2147483648) : (@ite _ (nI a ≤ nI b) d x y) = y := if_neg (nI_ge h (by omega))
theorem n_lt_t {α : Type} {a b : Nat} {x y : α} {d : Decidable (nI a < nI b)} (h : a < b) (hb : b < 2147483648) : (@ite _ (nI a < nI b) d x y) = x := if_pos (nI_lt h (by omega))
theorem n_lt_f {α : Type} {a b : Nat} {x y : α} {d : Decidable (nI a < nI b)} (h : b ≤ a) (hb : a < 2147483648) : (@ite _ (nI a < nI b) d x y) = y := if_neg (nI_nlt h (by omega))
theorem n_eq_t {α : Type} {a b : Nat} {x y : α} {d : Decidable (nI a = nI b)} (h : a = b) : (@ite _ (nI a = nI b) d x y) = x := if_pos (by rw [h])
theorem n_eq_f {α : Type} {a b : Nat} {x y : α} {d : Decidable (nI a = nI b)} (h : a < b ∨ b < a) (ha : a < 2147483648) (hb : b < 2147483648) : (@ite _ (nI a = nI b) d x y) = y := if_neg (fun z => by
  have := (nI_eq (by omega) (by omega)).mp z
  omega)
theorem n_lt0 {a : Nat} (ha : a < 2147483648) : eO none < nI a := by
  have h1 : (0 : Int32) ≤ nI a := nI_pos' (by omega)
  have h2 : (-1 : Int32) < 0 := by decide
  exact Int32.lt_of_lt_of_le h2 h1
theorem n_ne_m1 {a : Nat} (ha : a < 2147483648) : ¬ nI a = eO none := fun z => by
  have h := n_lt0 ha
  rw [z] at h
  exact Int32.lt_irrefl h
theorem n_no {α : Type} {a : Nat} {x y : α} {d : Decidable (nI a = eO none)} (ha : a < 2147483648) : (@ite _ (nI a = eO none) d x y) = y := if_neg (n_ne_m1 ha)
theorem n_on {α : Type} {a : Nat} {x y : α} {d : Decidable (eO none = nI a)} (ha : a < 2147483648) : (@ite _ (eO none = nI a) d x y) = y := if_neg (fun z => n_ne_m1 ha z.symm)
theorem n_oo {α : Type} {x y : α} {d : Decidable (eO none = eO none)} : (@ite _ (eO none = eO none) d x y) = x := if_pos rfl
theorem n_olt {α : Type} {a : Nat} {x y : α} {d : Decidable (eO none < nI a)} (ha : a < 2147483648) : (@ite _ (eO none < nI a) d x y) = x := if_pos (n_lt0 ha)
theorem n_nlo {α : Type} {a : Nat} {x y : α} {d : Decidable (nI a < eO none)} (ha : a < 2147483648) : (@ite _ (nI a < eO none) d x y) = y := if_neg (fun z => Int32.lt_irrefl (Int32.lt_trans z (n_lt0 ha)))
theorem n_ole {α : Type} {a : Nat} {x y : α} {d : Decidable (nI a ≤ eO none)} (ha : a < 2147483648) : (@ite _ (nI a ≤ eO none) d x y) = y := if_neg (fun z => Int32.lt_irrefl (Int32.lt_of_lt_of_le (n_lt0 ha) z))
theorem n_sub {a b : Nat} (h : b ≤ a) : nI a - nI b = nI (a - b) := by
  obtain ⟨c, rfl⟩ : ∃ c, a = c + b := ⟨a - b, by omega⟩
  rw [← nI_add, Nat.add_sub_cancel]
  exact Int32.add_sub_cancel _ _
theorem n_dec (n : Nat) : nI (n + 1) + eO none = nI n := by
  rw [← nI_pred n]
  show nI (n + 1) + (-1) = nI (n + 1) - 1
  exact (Int32.sub_eq_add_neg _ _).symm
theorem n_dec0 : nI 0 + eO none = eO none := by decide
theorem n_cases (p : Int32) : p < nI 0 ∨ ∃ t, t < 2147483648 ∧ p = nI t := by
  by_cases h : p < 0
  · exact Or.inl h
  · obtain ⟨j, h1, h2⟩ := nI_of h
    exact Or.inr ⟨j, by omega, h2⟩
/-! the reference's heap, as numbers -/
def zs (mm : Nat → Int32) (a : Nat) : Nat := (mm a).toNatClampNeg
def zf (mm : Nat → Int32) (a : Nat) : Nat := (mm (200 + a)).toNatClampNeg
/-- the nearest header at or below -/
def dn (mm : Nat → Int32) : Nat → Option Nat
  | 0 => if zs mm 0 = 0 then none else some 0
  | t + 1 => if zs mm (t + 1) = 0 then dn mm t else some (t + 1)
def ob (mm : Nat → Int32) (t : Nat) : Option Nat := match dn mm t with
  | none => none
  | some h => if t < h + zs mm h then some h else none
def In (mm : Nat → Int32) (h t : Nat) : Prop := h ≤ t ∧ t < h + zs mm h
def Rf (mm : Nat → Int32) (W : Nat) (r : Int32) : Prop := r = eO none ∨ ∃ t, t < W ∧ r = nI t ∧ ∃ h, In mm h t
/-- the reference's heap is in order -/
def WF (mm : Nat → Int32) (W : Nat) : Prop :=
  8 ≤ W ∧ W ≤ 200 ∧ mm 1216 = nI W ∧ (∃ d, 1 ≤ d ∧ d ≤ 20 ∧ mm 1217 = nI d) ∧
  (∀ a, a < 200 → mm a = nI (zs mm a) ∧ zs mm a ≤ 13) ∧
  (∀ a, a < 200 → 0 < zs mm a → a + zs mm a ≤ W ∧ (∀ b, a < b → b < a + zs mm a → zs mm b = 0) ∧ mm (200 + a) = nI (zf mm a) ∧ zf mm a ≤ 6 ∧ zf mm a + 1 ≤ zs mm a ∧ (mm (400 + a) = nI 0 ∨ mm (400 + a) = nI 1) ∧ ∀ k, 1 ≤ k → k ≤ zf mm a → Rf mm W (mm (800 + a + k))) ∧
  ∀ k, k < 10 → Rf mm W (mm (1200 + k))
theorem WF.size {mm : Nat → Int32} {W : Nat} (H : WF mm W) : 8 ≤ W ∧ W ≤ 200 := ⟨H.1, H.2.1⟩
theorem WF.hw {mm : Nat → Int32} {W : Nat} (H : WF mm W) : mm 1216 = nI W := H.2.2.1
theorem WF.sz {mm : Nat → Int32} {W : Nat} (H : WF mm W) {a : Nat} (h : a < 200) : mm a = nI (zs mm a) ∧ zs mm a ≤ 13 := H.2.2.2.2.1 a h
theorem WF.hd {mm : Nat → Int32} {W : Nat} (H : WF mm W) {a : Nat} (h : a < 200) (h0 : 0 < zs mm a) : a + zs mm a ≤ W ∧ (∀ b, a < b → b < a + zs mm a → zs mm b = 0) ∧ mm (200 + a) = nI (zf mm a) ∧ zf mm a ≤ 6 ∧ zf mm a + 1 ≤ zs mm a ∧ (mm (400 + a) = nI 0 ∨ mm (400 + a) = nI 1) ∧ ∀ k, 1 ≤ k → k ≤ zf mm a → Rf mm W (mm (800 + a + k)) := H.2.2.2.2.2.1 a h h0
theorem dn_le {mm : Nat → Int32} : ∀ {t h : Nat}, dn mm t = some h → h ≤ t ∧ 0 < zs mm h
  | 0, h, e => by
    unfold dn at e
    split at e
    · cases e
    · cases e; exact ⟨Nat.le_refl _, by omega⟩
  | t + 1, h, e => by
    unfold dn at e
    split at e
    · have := dn_le e; exact ⟨by omega, this.2⟩
    · cases e; exact ⟨Nat.le_refl _, by omega⟩
theorem dn_of {mm : Nat → Int32} {h : Nat} (h0 : 0 < zs mm h) : ∀ {t : Nat}, h ≤ t → (∀ b, h < b → b ≤ t → zs mm b = 0) → dn mm t = some h
  | 0, h1, _ => by
    have : h = 0 := by omega
    subst this
    unfold dn
    rw [if_neg (by omega)]
  | t + 1, h1, h2 => by
    unfold dn
    by_cases he : h = t + 1
    · subst he
      rw [if_neg (by omega)]
    · rw [if_pos (h2 (t + 1) (by omega) (Nat.le_refl _))]
      exact dn_of h0 (by omega) (fun b hb1 hb2 => h2 b hb1 (by omega))
theorem ob_in {mm : Nat → Int32} {t h : Nat} (e : ob mm t = some h) : In mm h t := by
  unfold ob at e
  split at e
  · cases e
  · rename_i h' he
    split at e
    · cases e
      rename_i hl
      exact ⟨(dn_le he).1, hl⟩
    · cases e
theorem ob_of {mm : Nat → Int32} {W t h : Nat} (H : WF mm W) (hh : h < 200) (hi : In mm h t) : ob mm t = some h := by
  have h0 : 0 < zs mm h := by unfold In at hi; omega
  have h1 := dn_of (mm := mm) h0 hi.1 (fun b h1 h2 => (H.hd hh h0).2.1 b h1 (by have := hi.2; omega))
  unfold ob
  rw [h1]
  exact if_pos hi.2
theorem In.lt {mm : Nat → Int32} {W t h : Nat} (H : WF mm W) (ht : t < 200) (hi : In mm h t) : h < 200 ∧ t < W := by
  have h0 : 0 < zs mm h := by unfold In at hi; omega
  have h1 : h < 200 := by have := hi.1; omega
  have := (H.hd h1 h0).1
  exact ⟨h1, by have := hi.2; omega⟩
/-! the reference looks for the object of a word -/
theorem FM_seek {mm : Nat → Int32} {W : Nat} (H : WF mm W) : ∀ (t fu : Nat), t < 200 → t + 2 ≤ fu → g_itn (FX7_objectOf_L22 mm) fu (nI t) = some (eO (dn mm t))
  | 0, fu + 2, ht, _ => by
    have hz := H.sz ht
    by_cases h : zs mm 0 = 0
    · have e : FX7_objectOf_L22 mm (nI 0) = some (.inl (eO none)) := by
        simp (disch := omega) only [FX7_objectOf_L22, ↓lm1, n_ofN, l0, l1, l2, l3, l4, l5, l6, l7, l8, l10, l20, l47, l80, l100, l127, l200, l400, l600, l800, l1000, l1200, l1206, l1210, l1222, n_add, n_clamp, n_gd, n_le_t, n_le_f, n_lt_t, n_lt_f, n_eq_t, n_eq_f, n_no, n_on, n_oo, n_olt, n_nlo, n_ole, Option.bind_some, Option.bind_none, Nat.zero_add, if_true, if_false, hz.1, n_dec0]
      have e2 : FX7_objectOf_L22 mm (eO none) = some (.inr (eO none)) := by
        unfold FX7_objectOf_L22
        exact if_pos (n_lt0 (a := 0) (by omega))
      simp only [g_itn, e, e2, dn, h, if_true]
    · have e : FX7_objectOf_L22 mm (nI 0) = some (.inr (nI 0)) := by
        simp (disch := omega) only [FX7_objectOf_L22, ↓lm1, n_ofN, l0, l1, l2, l3, l4, l5, l6, l7, l8, l10, l20, l47, l80, l100, l127, l200, l400, l600, l800, l1000, l1200, l1206, l1210, l1222, n_add, n_clamp, n_gd, n_le_t, n_le_f, n_lt_t, n_lt_f, n_eq_t, n_eq_f, n_no, n_on, n_oo, n_olt, n_nlo, n_ole, Option.bind_some, Option.bind_none, Nat.zero_add, if_true, if_false, hz.1]
      simp only [g_itn, e, dn, h, if_false, eO_some]
  | t + 1, fu + 1, ht, hf => by
    have hz := H.sz ht
    by_cases h : zs mm (t + 1) = 0
    · have e : FX7_objectOf_L22 mm (nI (t + 1)) = some (.inl (nI t)) := by
        simp (disch := omega) only [FX7_objectOf_L22, ↓lm1, n_ofN, l0, l1, l2, l3, l4, l5, l6, l7, l8, l10, l20, l47, l80, l100, l127, l200, l400, l600, l800, l1000, l1200, l1206, l1210, l1222, n_add, n_clamp, n_gd, n_le_t, n_le_f, n_lt_t, n_lt_f, n_eq_t, n_eq_f, n_no, n_on, n_oo, n_olt, n_nlo, n_ole, Option.bind_some, Option.bind_none, Nat.zero_add, if_true, if_false, hz.1, n_dec]
      have ih := FM_seek H t fu (by omega) (by omega)
      simp only [g_itn, e, ih, dn, h, if_true]
    · have e : FX7_objectOf_L22 mm (nI (t + 1)) = some (.inr (nI (t + 1))) := by
        simp (disch := omega) only [FX7_objectOf_L22, ↓lm1, n_ofN, l0, l1, l2, l3, l4, l5, l6, l7, l8, l10, l20, l47, l80, l100, l127, l200, l400, l600, l800, l1000, l1200, l1206, l1210, l1222, n_add, n_clamp, n_gd, n_le_t, n_le_f, n_lt_t, n_lt_f, n_eq_t, n_eq_f, n_no, n_on, n_oo, n_olt, n_nlo, n_ole, Option.bind_some, Option.bind_none, Nat.zero_add, if_true, if_false, hz.1]
      simp only [g_itn, e, dn, h, if_false, eO_some]
