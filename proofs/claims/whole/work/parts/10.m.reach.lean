/-! ways: what can be reached, and in how many steps, as if one object was not there -/
def Src (mm : Nat → Int32) (W : Nat) (wo : Option Nat) (h : Nat) : Prop := wo ≠ some h ∧ ((∃ k, k < 6 ∧ obI mm W (mm (1200 + k)) = some h) ∨ (h < W ∧ pnB mm h = true))
def Eg (mm : Nat → Int32) (W : Nat) (wo : Option Nat) (g j h : Nat) : Prop := 1 ≤ j ∧ j ≤ zf mm g ∧ obI mm W (mm (800 + g + j)) = some h ∧ wo ≠ some h
def Rch (mm : Nat → Int32) (W : Nat) (wo : Option Nat) : Nat → Nat → Prop
  | 0, h => Src mm W wo h
  | d + 1, h => ∃ g j, Rch mm W wo d g ∧ Eg mm W wo g j h
def Lst (mm : Nat → Int32) (W : Nat) (wo : Option Nat) (d h : Nat) : Prop := Rch mm W wo d h ∧ ∀ d', d' < d → ¬ Rch mm W wo d' h
theorem Rch.hd {mm : Nat → Int32} {W : Nat} {wo : Option Nat} (H : WF mm W) : ∀ {d h : Nat}, Rch mm W wo d h → h < W ∧ 0 < zs mm h
  | 0, h, r => by
    rcases r.2 with ⟨k, hk, e⟩ | ⟨h1, h2⟩
    · obtain ⟨t, _, _, _, h4, h5⟩ := obI_sm H e
      exact ⟨h4, h5⟩
    · simp only [pnB, Bool.and_eq_true, decide_eq_true_eq] at h2
      exact ⟨h1, h2.1⟩
  | d + 1, h, r => by
    obtain ⟨g, j, _, _, _, e, _⟩ := r
    obtain ⟨t, _, _, _, h4, h5⟩ := obI_sm H e
    exact ⟨h4, h5⟩
theorem Lst.of {mm : Nat → Int32} {W : Nat} {wo : Option Nat} {h : Nat} : ∀ (d : Nat), Rch mm W wo d h → ∃ d', d' ≤ d ∧ Lst mm W wo d' h := by
  intro d
  induction d using Nat.strongRecOn with
  | ind d ih =>
    intro r
    by_cases hx : ∃ d', d' < d ∧ Rch mm W wo d' h
    · obtain ⟨d', h1, h2⟩ := hx
      obtain ⟨d2, h3, h4⟩ := ih d' h1 h2
      exact ⟨d2, by omega, h4⟩
    · exact ⟨d, Nat.le_refl _, r, fun d' h1 h2 => hx ⟨d', h1, h2⟩⟩
/-- far tells the least numbers of steps -/
def Far (mm : Nat → Int32) (W : Nat) (wo : Option Nat) (far : Nat → Int32) : Prop := ∀ h, h < 200 → (∃ d, d < 1000 ∧ far h = nI d ∧ Lst mm W wo d h) ∨ (far h = eO none ∧ ∀ d, ¬ Rch mm W wo d h)
theorem Far.uniq {mm : Nat → Int32} {W : Nat} {wo : Option Nat} {far far' : Nat → Int32} (h1 : Far mm W wo far) (h2 : Far mm W wo far') {h : Nat} (hh : h < 200) : far h = far' h := by
  rcases h1 h hh with ⟨d, _, e1, l1⟩ | ⟨e1, n1⟩
  · rcases h2 h hh with ⟨d', _, e2, l2⟩ | ⟨e2, n2⟩
    · have : d = d' := by
        rcases Nat.lt_trichotomy d d' with q | q | q
        · exact absurd l1.1 (l2.2 d q)
        · exact q
        · exact absurd l2.1 (l1.2 d' q)
      rw [e1, e2, this]
    · exact absurd l1.1 (n2 d)
  · rcases h2 h hh with ⟨d', _, e2, l2⟩ | ⟨e2, n2⟩
    · exact absurd l2.1 (n1 d')
    · rw [e1, e2]
theorem obI_none {mm : Nat → Int32} {W : Nat} : obI mm W (eO none) = none := obI_neg (n_lt0 (by omega))
theorem wo_eq {wo : Option Nat} {h : Nat} (hh : h < 2147483648) (hw : ∀ w, wo = some w → w < 2147483648) : (nI h = eO wo) ↔ wo = some h := by
  cases wo with
  | none => exact ⟨fun z => absurd z (n_ne_m1 hh), fun z => by cases z⟩
  | some w =>
    have := hw w rfl
    constructor
    · intro z
      rw [eO_some] at z
      rw [(nI_eq (by omega) (by omega)).mp z]
    · intro z
      cases z
      rfl
/-- the sources marked so far -/
def FS (far : Nat → Int32) (P : Nat → Prop) : Prop := ∀ h, h < 200 → (far h = nI 0 ∧ P h) ∨ (far h = eO none ∧ ¬ P h)
theorem FM_starts {mm far : Nat → Int32} {W : Nat} {wo : Option Nat} {P : Nat → Prop} (H : WF mm W) (hw : ∀ w, wo = some w → w < 2147483648) (hF : FS far P) (t : Int32) : ∃ far', FX7_starts mm far t (eO wo) = some far' ∧ FS far' (fun h => P h ∨ (wo ≠ some h ∧ obI mm W t = some h)) := by
  have hW := H.size
  have e1 : (if t = eO none then some (eO none) else some (eO (obI mm W t))) = some (eO (obI mm W t)) := by
    by_cases q : t = eO none
    · rw [if_pos q, q, obI_none]
    · rw [if_neg q]
  cases e : obI mm W t with
  | none =>
    rw [e] at e1
    refine ⟨far, ?_, fun h hh => ?_⟩
    · simp (disch := omega) only [FX7_starts, FM_objectOf H, e, ↓lm1, n_ofN, l0, l1, l2, l3, l4, l5, l6, l7, l8, l10, l20, l47, l80, l100, l127, l200, l400, l600, l800, l1000, l1200, l1206, l1210, l1222, n_add, n_clamp, n_gd, n_le_t, n_le_f, n_lt_t, n_lt_f, n_eq_t, n_eq_f, n_no, n_on, n_oo, n_olt, n_nlo, n_ole, Option.bind_some, Option.bind_none, Nat.zero_add, if_true, if_false, ite_self]
    · rcases hF h hh with ⟨a, b⟩ | ⟨a, b⟩
      · exact Or.inl ⟨a, Or.inl b⟩
      · exact Or.inr ⟨a, fun z => by rcases z with z | ⟨_, z⟩; exact b z; cases z⟩
  | some b =>
    obtain ⟨t', h1, h2, h3, h4, h5⟩ := obI_sm H e
    have ht : ¬ t = eO none := fun z => by rw [z, obI_none] at e; cases e
    by_cases hwb : wo = some b
    · have hq : nI b = eO wo := (wo_eq (by omega) hw).mpr hwb
      refine ⟨far, ?_, fun h hh => ?_⟩
      · simp (disch := omega) only [FX7_starts, FM_objectOf H, e, eO_some, ↓lm1, n_ofN, l0, l1, l2, l3, l4, l5, l6, l7, l8, l10, l20, l47, l80, l100, l127, l200, l400, l600, l800, l1000, l1200, l1206, l1210, l1222, n_add, n_clamp, n_gd, n_le_t, n_le_f, n_lt_t, n_lt_f, n_eq_t, n_eq_f, n_no, n_on, n_oo, n_olt, n_nlo, n_ole, Option.bind_some, Option.bind_none, Nat.zero_add, if_true, if_false, if_neg ht, if_pos hq]
      · rcases hF h hh with ⟨a, c⟩ | ⟨a, c⟩
        · exact Or.inl ⟨a, Or.inl c⟩
        · exact Or.inr ⟨a, fun z => by
            rcases z with z | ⟨z1, z2⟩
            · exact c z
            · cases z2; exact z1 hwb⟩
    · have hq : ¬ nI b = eO wo := fun z => hwb ((wo_eq (by omega) hw).mp z)
      refine ⟨upd far b (nI 0), ?_, fun h hh => ?_⟩
      · simp (disch := omega) only [FX7_starts, FM_objectOf H, e, eO_some, ↓lm1, n_ofN, l0, l1, l2, l3, l4, l5, l6, l7, l8, l10, l20, l47, l80, l100, l127, l200, l400, l600, l800, l1000, l1200, l1206, l1210, l1222, n_add, n_clamp, n_gd, n_le_t, n_le_f, n_lt_t, n_lt_f, n_eq_t, n_eq_f, n_no, n_on, n_oo, n_olt, n_nlo, n_ole, Option.bind_some, Option.bind_none, Nat.zero_add, if_true, if_false, if_neg ht, if_neg hq]
      · by_cases hb : h = b
        · subst hb
          exact Or.inl ⟨pk_us, Or.inr ⟨hwb, rfl⟩⟩
        · rw [pk_un hb]
          rcases hF h hh with ⟨a, c⟩ | ⟨a, c⟩
          · exact Or.inl ⟨a, Or.inl c⟩
          · exact Or.inr ⟨a, fun z => by
              rcases z with z | ⟨z1, z2⟩
              · exact c z
              · cases z2; exact hb rfl⟩
theorem FS.eqv {far : Nat → Int32} {P Q : Nat → Prop} (h : FS far P) (e : ∀ h, h < 200 → (P h ↔ Q h)) : FS far Q := fun x hx => by
  rcases h x hx with ⟨a, b⟩ | ⟨a, b⟩
  · exact Or.inl ⟨a, (e x hx).mp b⟩
  · exact Or.inr ⟨a, fun z => b ((e x hx).mpr z)⟩
/-- the reference's sources -/
theorem FM_srcs {mm : Nat → Int32} {W : Nat} {wo : Option Nat} (H : WF mm W) (hw : ∀ w, wo = some w → w < 2147483648) (far : Nat → Int32) : ∃ f1 f2, g_it FX7_reaches_L2 (nI 0, far) = some (fl far 0 200 (eO none)) ∧ g_it (FX7_reaches_L24 mm (eO wo)) (nI 0, fl far 0 200 (eO none)) = some f1 ∧ g_it (FX7_reaches_L53 mm (eO wo)) (nI 0, f1) = some f2 ∧ FS f2 (Src mm W wo) := by
  have hW := H.size
  have k0 : g_it FX7_reaches_L2 (nI 0, far) = some (fl far 0 200 (eO none)) := by
    have h0 : (nI 0, far) = (fun i => (nI i, fl far 0 i (eO none))) 0 := by
      show (nI 0, far) = (nI 0, fl far 0 0 (eO none))
      rw [fl_0]
    rw [h0]
    refine it_to (fun i => (nI i, fl far 0 i (eO none))) 0 200 _ (by omega) (by omega) (fun i _ hi => ?_) ?_
    · simp (disch := omega) only [FX7_reaches_L2, ↓lm1, n_ofN, l0, l1, l2, l3, l4, l5, l6, l7, l8, l10, l20, l47, l80, l100, l127, l200, l400, l600, l800, l1000, l1200, l1206, l1210, l1222, n_add, n_clamp, n_gd, n_le_t, n_le_f, n_lt_t, n_lt_f, n_eq_t, n_eq_f, n_no, n_on, n_oo, n_olt, n_nlo, n_ole, Option.bind_some, Option.bind_none, Nat.zero_add, if_true, if_false, fl_s (Nat.zero_le i)]
    · simp (disch := omega) only [FX7_reaches_L2, ↓lm1, n_ofN, l0, l1, l2, l3, l4, l5, l6, l7, l8, l10, l20, l47, l80, l100, l127, l200, l400, l600, l800, l1000, l1200, l1206, l1210, l1222, n_add, n_clamp, n_gd, n_le_t, n_le_f, n_lt_t, n_lt_f, n_eq_t, n_eq_f, n_no, n_on, n_oo, n_olt, n_nlo, n_ole, Option.bind_some, Option.bind_none, Nat.zero_add, if_true, if_false]
  have k1 := it_invg (f := FX7_reaches_L24 mm (eO wo)) (fun s => ∃ i f, s = (nI i, f) ∧ i ≤ 6 ∧ FS f (fun h => wo ≠ some h ∧ ∃ k, k < i ∧ obI mm W (mm (1200 + k)) = some h))
    (fun s => 6 - s.1.toNatClampNeg) (fun f => FS f (fun h => wo ≠ some h ∧ ∃ k, k < 6 ∧ obI mm W (mm (1200 + k)) = some h)) (fun s hs => ?_) (nI 0, fl far 0 200 (eO none)) ⟨0, _, rfl, by omega, fun h hh => Or.inr ⟨fl_in (by omega) hh, fun z => by obtain ⟨_, k, hk, _⟩ := z; omega⟩⟩ (by
      show 6 - (nI 0).toNatClampNeg < 1000000
      omega)
  · obtain ⟨f1, k1a, k1b⟩ := k1
    have k2 := it_invg (f := FX7_reaches_L53 mm (eO wo)) (fun s => ∃ i f, s = (nI i, f) ∧ i ≤ W ∧ FS f (fun h => wo ≠ some h ∧ ((∃ k, k < 6 ∧ obI mm W (mm (1200 + k)) = some h) ∨ (h < i ∧ pnB mm h = true))))
      (fun s => W - s.1.toNatClampNeg) (fun f => FS f (Src mm W wo)) (fun s hs => ?_) (nI 0, f1) ⟨0, _, rfl, by omega, k1b.eqv (fun h hh => ⟨fun z => ⟨z.1, Or.inl z.2⟩, fun z => ⟨z.1, z.2.elim id (fun y => absurd y.1 (Nat.not_lt_zero _))⟩⟩)⟩ (by
        show W - (nI 0).toNatClampNeg < 1000000
        omega)
    · obtain ⟨f2, k2a, k2b⟩ := k2
      exact ⟨f1, f2, k0, k1a, k2a, k2b⟩
    · obtain ⟨i, f, rfl, hi, hf⟩ := hs
      by_cases hiW : i < W
      · have h6 := H.sz (a := i) (by omega)
        by_cases hp : pnB mm i = true
        · have hp2 : 0 < zs mm i ∧ mm (400 + i) = nI 1 := by simpa [pnB] using hp
          obtain ⟨f', e1, e2⟩ := FM_starts H hw hf (nI i)
          have eob : obI mm W (nI i) = some i := by rw [obI_nI hiW hW.2, ob_self hp2.1]
          rw [eob] at e2
          refine Or.inl ⟨(nI (i + 1), f'), ?_, ⟨i + 1, f', rfl, by omega, e2.eqv (fun h hh => ⟨fun z => ?_, fun z => ?_⟩)⟩, ?_⟩
          · simp (disch := omega) only [FX7_reaches_L53, H.hw, ↓lm1, n_ofN, l0, l1, l2, l3, l4, l5, l6, l7, l8, l10, l20, l47, l80, l100, l127, l200, l400, l600, l800, l1000, l1200, l1206, l1210, l1222, n_add, n_clamp, n_gd, n_le_t, n_le_f, n_lt_t, n_lt_f, n_eq_t, n_eq_f, n_no, n_on, n_oo, n_olt, n_nlo, n_ole, Option.bind_some, Option.bind_none, Nat.zero_add, if_true, if_false, h6.1, hp2.2, e1]
          · rcases z with z | ⟨z1, z2⟩
            · exact ⟨z.1, z.2.elim Or.inl (fun y => Or.inr ⟨by omega, y.2⟩)⟩
            · cases z2; exact ⟨z1, Or.inr ⟨by omega, hp⟩⟩
          · obtain ⟨z1, z2 | ⟨z2, z3⟩⟩ := z
            · exact Or.inl ⟨z1, Or.inl z2⟩
            · by_cases hhi : h = i
              · subst hhi; exact Or.inr ⟨z1, rfl⟩
              · exact Or.inl ⟨z1, Or.inr ⟨by omega, z3⟩⟩
          · show W - (nI (i + 1)).toNatClampNeg < W - (nI i).toNatClampNeg
            rw [n_clamp (by omega), n_clamp (by omega)]
            omega
        · obtain ⟨f', e1, e2⟩ := FM_starts H hw hf (eO none)
          rw [obI_none] at e2
          refine Or.inl ⟨(nI (i + 1), f'), ?_, ⟨i + 1, f', rfl, by omega, e2.eqv (fun h hh => ⟨fun z => ?_, fun z => ?_⟩)⟩, ?_⟩
          · by_cases h0 : 0 < zs mm i
            · have h9 := (H.hd (a := i) (by omega) h0).2.2.2.2.2.1
              rcases h9 with q | q
              · simp (disch := omega) only [FX7_reaches_L53, H.hw, ↓lm1, n_ofN, l0, l1, l2, l3, l4, l5, l6, l7, l8, l10, l20, l47, l80, l100, l127, l200, l400, l600, l800, l1000, l1200, l1206, l1210, l1222, n_add, n_clamp, n_gd, n_le_t, n_le_f, n_lt_t, n_lt_f, n_eq_t, n_eq_f, n_no, n_on, n_oo, n_olt, n_nlo, n_ole, Option.bind_some, Option.bind_none, Nat.zero_add, if_true, if_false, h6.1, q, e1]
              · exact absurd (by simp [pnB, h0, q]) hp
            · simp (disch := omega) only [FX7_reaches_L53, H.hw, ↓lm1, n_ofN, l0, l1, l2, l3, l4, l5, l6, l7, l8, l10, l20, l47, l80, l100, l127, l200, l400, l600, l800, l1000, l1200, l1206, l1210, l1222, n_add, n_clamp, n_gd, n_le_t, n_le_f, n_lt_t, n_lt_f, n_eq_t, n_eq_f, n_no, n_on, n_oo, n_olt, n_nlo, n_ole, Option.bind_some, Option.bind_none, Nat.zero_add, if_true, if_false, h6.1, e1]
          · rcases z with z | ⟨z1, z2⟩
            · exact ⟨z.1, z.2.elim Or.inl (fun y => Or.inr ⟨by omega, y.2⟩)⟩
            · cases z2
          · obtain ⟨z1, z2 | ⟨z2, z3⟩⟩ := z
            · exact Or.inl ⟨z1, Or.inl z2⟩
            · by_cases hhi : h = i
              · subst hhi; exact absurd z3 hp
              · exact Or.inl ⟨z1, Or.inr ⟨by omega, z3⟩⟩
          · show W - (nI (i + 1)).toNatClampNeg < W - (nI i).toNatClampNeg
            rw [n_clamp (by omega), n_clamp (by omega)]
            omega
      · have : i = W := by omega
        subst this
        refine Or.inr ⟨f, ?_, hf⟩
        simp (disch := omega) only [FX7_reaches_L53, H.hw, ↓lm1, n_ofN, l0, l1, l2, l3, l4, l5, l6, l7, l8, l10, l20, l47, l80, l100, l127, l200, l400, l600, l800, l1000, l1200, l1206, l1210, l1222, n_add, n_clamp, n_gd, n_le_t, n_le_f, n_lt_t, n_lt_f, n_eq_t, n_eq_f, n_no, n_on, n_oo, n_olt, n_nlo, n_ole, Option.bind_some, Option.bind_none, Nat.zero_add, if_true, if_false]
  · obtain ⟨i, f, rfl, hi, hf⟩ := hs
    by_cases hi6 : i < 6
    · obtain ⟨f', e1, e2⟩ := FM_starts H hw hf (mm (1200 + i))
      refine Or.inl ⟨(nI (i + 1), f'), ?_, ⟨i + 1, f', rfl, by omega, e2.eqv (fun h hh => ⟨fun z => ?_, fun z => ?_⟩)⟩, ?_⟩
      · simp (disch := omega) only [FX7_reaches_L24, ↓lm1, n_ofN, l0, l1, l2, l3, l4, l5, l6, l7, l8, l10, l20, l47, l80, l100, l127, l200, l400, l600, l800, l1000, l1200, l1206, l1210, l1222, n_add, n_clamp, n_gd, n_le_t, n_le_f, n_lt_t, n_lt_f, n_eq_t, n_eq_f, n_no, n_on, n_oo, n_olt, n_nlo, n_ole, Option.bind_some, Option.bind_none, Nat.zero_add, if_true, if_false, e1]
      · rcases z with ⟨z, k, k1, k2⟩ | ⟨z1, z2⟩
        · exact ⟨z, k, by omega, k2⟩
        · exact ⟨z1, i, by omega, z2⟩
      · obtain ⟨z, k, k1, k2⟩ := z
        by_cases hki : k = i
        · subst hki; exact Or.inr ⟨z, k2⟩
        · exact Or.inl ⟨z, k, by omega, k2⟩
      · show 6 - (nI (i + 1)).toNatClampNeg < 6 - (nI i).toNatClampNeg
        rw [n_clamp (by omega), n_clamp (by omega)]
        omega
    · have : i = 6 := by omega
      subst this
      refine Or.inr ⟨f, ?_, hf⟩
      simp (disch := omega) only [FX7_reaches_L24, ↓lm1, n_ofN, l0, l1, l2, l3, l4, l5, l6, l7, l8, l10, l20, l47, l80, l100, l127, l200, l400, l600, l800, l1000, l1200, l1206, l1210, l1222, n_add, n_clamp, n_gd, n_le_t, n_le_f, n_lt_t, n_lt_f, n_eq_t, n_eq_f, n_no, n_on, n_oo, n_olt, n_nlo, n_ole, Option.bind_some, Option.bind_none, Nat.zero_add, if_true, if_false]
