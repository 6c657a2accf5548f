/-! the relation of the two states -/
def RO (W : Nat) (mm owner : Nat → Int32) : Prop := ∀ t, t < W → owner t = eO (ob mm t)
def RA (W : Nat) (mm fieldCount dataCount pinned age content : Nat → Int32) : Prop := ∀ a, a < W → 0 < zs mm a → fieldCount a = mm (200 + a) ∧ dataCount a = nI (zs mm a - 1 - zf mm a) ∧ pinned a = mm (400 + a) ∧ age a = mm (600 + a) ∧ ∀ k, 1 ≤ k → k < zs mm a → content (a + k) = mm (800 + a + k)
def RX (W : Nat) (mm : Nat → Int32) (words depth allocated collections freed : Int32) (owner fieldCount dataCount pinned age content roots weaks movedTo reports : Nat → Int32) : Prop :=
  (words = mm 1216 ∧ depth = mm 1217 ∧ allocated = mm 1218 ∧ collections = mm 1219 ∧ freed = mm 1220) ∧ RO W mm owner ∧ RA W mm fieldCount dataCount pinned age content ∧
  (∀ k, k < 6 → roots k = mm (1200 + k)) ∧ (∀ k, k < 4 → weaks k = mm (1206 + k)) ∧ (mm 1221 = 1 → (∀ t, t < W → movedTo t = mm (1000 + t)) ∧ ∀ k, k < 6 → reports k = mm (1210 + k))
def RC (i : Nat) (mm : Nat → Int32) : Prop := ∃ c, c ≤ 41 * i ∧ mm 1219 = nI c ∧ mm 1221 = if c = 0 then 0 else 1
def RH (i : Nat) (h : HS) (mm : Nat → Int32) : Prop := match h with
  | (words, depth, allocated, collections, freed, owner, fieldCount, dataCount, pinned, age, content, roots, weaks, movedTo, reports) => ∃ W, WF mm W ∧ RX W mm words depth allocated collections freed owner fieldCount dataCount pinned age content roots weaks movedTo reports ∧ RC i mm
def RS (i : Nat) (o : Option HS) (sv isv : Nat → Int32) (k : Nat) : Prop := match o with
  | none => isv k = 0
  | some h => isv k = 1 ∧ RH i h (fun j => sv (1222 * k + j))
def RT (letters : Nat → Int32) (len : Int32) (text : Nat → Int32) (tlen : Int32) : Prop := ∃ n, n ≤ 80 ∧ len = nI n ∧ tlen = nI n ∧ ∀ j, j < n → letters j = text j ∧ ∃ v, v ≤ 127 ∧ letters j = nI v
def Rel (i : Nat) (x : XT) (m : MT) : Prop := match x, m with
  | (h, s0, s1, letters, len, lref), (mm, sv, isv, text, tlen, refd) => RH i h mm ∧ RS i s0 sv isv 0 ∧ RS i s1 sv isv 1 ∧ RT letters len text tlen ∧ lref = refd
theorem RC.up {i : Nat} {mm : Nat → Int32} (h : RC i mm) : RC (i + 1) mm := by
  obtain ⟨c, h1, h2⟩ := h
  exact ⟨c, by omega, h2⟩
theorem RH.up {i : Nat} {h : HS} {mm : Nat → Int32} (H : RH i h mm) : RH (i + 1) h mm := by
  obtain ⟨words, depth, allocated, collections, freed, owner, fieldCount, dataCount, pinned, age, content, roots, weaks, movedTo, reports⟩ := h
  obtain ⟨W, h1, h2, h3⟩ := H
  exact ⟨W, h1, h2, h3.up⟩
theorem RS.up {i : Nat} {o : Option HS} {sv isv : Nat → Int32} {k : Nat} (H : RS i o sv isv k) : RS (i + 1) o sv isv k := by
  cases o with
  | none => exact H
  | some h => exact ⟨H.1, H.2.up⟩
theorem Rel.up {i : Nat} {x : XT} {m : MT} (H : Rel i x m) : Rel (i + 1) x m := by
  obtain ⟨h, s0, s1, letters, len, lref⟩ := x
  obtain ⟨mm, sv, isv, text, tlen, refd⟩ := m
  obtain ⟨h1, h2, h3, h4, h5⟩ := H
  exact ⟨h1.up, h2.up, h3.up, h4, h5⟩
theorem sim_up : Sim_up Rel := fun _ _ _ H => H.up
/-! what doesn't change where the sizes don't -/
theorem same_zs {mm mm' : Nat → Int32} {a : Nat} (h : mm' a = mm a) : zs mm' a = zs mm a := by unfold zs; rw [h]
theorem same_dn {mm mm' : Nat → Int32} (h : ∀ a, a < 200 → mm' a = mm a) : ∀ t, t < 200 → dn mm' t = dn mm t
  | 0, ht => by unfold dn; rw [same_zs (h 0 ht)]
  | t + 1, ht => by unfold dn; rw [same_zs (h (t + 1) ht), same_dn h t (by omega)]
theorem same_ob {mm mm' : Nat → Int32} (h : ∀ a, a < 200 → mm' a = mm a) {t : Nat} (ht : t < 200) : ob mm' t = ob mm t := by
  unfold ob
  rw [same_dn h t ht]
  cases e : dn mm t with
  | none => rfl
  | some b =>
    have := (dn_le e).1
    simp only [same_zs (h b (by omega))]
theorem same_Rf {mm mm' : Nat → Int32} {W : Nat} {r : Int32} (hW : W ≤ 200) (h : ∀ a, a < 200 → mm' a = mm a) (hr : Rf mm W r) : Rf mm' W r := by
  rcases hr with hr | ⟨t, h1, h2, b, h3⟩
  · exact Or.inl hr
  · refine Or.inr ⟨t, h1, h2, b, h3.1, ?_⟩
    have := h3.1
    rw [same_zs (h b (by omega))]
    exact h3.2
theorem same_obI {mm mm' : Nat → Int32} {W : Nat} (hW : W ≤ 200) (h : ∀ a, a < 200 → mm' a = mm a) (p : Int32) : obI mm' W p = obI mm W p := by
  rcases n_cases p with hp | ⟨t, ht, rfl⟩
  · rw [obI_neg hp, obI_neg hp]
  · by_cases hb : t < W
    · rw [obI_nI hb hW, obI_nI hb hW, same_ob h (by omega)]
    · rw [obI_big (by omega) ht, obI_big (by omega) ht]
/-- a reference is one of a word of an object, or none -/
theorem Rf_iff {mm : Nat → Int32} {W : Nat} (H : WF mm W) {p : Int32} : Rf mm W p ↔ (p = eO none ∨ ∃ h, obI mm W p = some h) := by
  have hW := H.size
  constructor
  · rintro (h | ⟨t, h1, rfl, b, h3⟩)
    · exact Or.inl h
    · refine Or.inr ⟨b, ?_⟩
      rw [obI_nI h1 hW.2]
      exact ob_of H (by have := h3.1; omega) h3
  · rintro (h | ⟨b, hb⟩)
    · exact Or.inl h
    · rcases n_cases p with hp | ⟨t, ht, rfl⟩
      · rw [obI_neg hp] at hb; cases hb
      · by_cases hl : t < W
        · rw [obI_nI hl hW.2] at hb
          exact Or.inr ⟨t, hl, rfl, b, ob_in hb⟩
        · rw [obI_big (by omega) ht] at hb; cases hb
theorem obI_sm {mm : Nat → Int32} {W : Nat} (H : WF mm W) {p : Int32} {h : Nat} (e : obI mm W p = some h) : ∃ t, t < W ∧ p = nI t ∧ In mm h t ∧ h < W ∧ 0 < zs mm h := by
  have hW := H.size
  rcases n_cases p with hp | ⟨t, ht, rfl⟩
  · rw [obI_neg hp] at e; cases e
  · by_cases hl : t < W
    · rw [obI_nI hl hW.2] at e
      have h1 := ob_in e
      have h2 := h1.1
      have h3 := h1.2
      exact ⟨t, hl, rfl, h1, by omega, by omega⟩
    · rw [obI_big (by omega) ht] at e; cases e
/-! the parts of the relation, taken apart -/
theorem RX.w {W : Nat} {mm : Nat → Int32} {words depth allocated collections freed : Int32} {owner fieldCount dataCount pinned age content roots weaks movedTo reports : Nat → Int32} (R : RX W mm words depth allocated collections freed owner fieldCount dataCount pinned age content roots weaks movedTo reports) (H : WF mm W) : words = nI W := R.1.1.trans H.hw
