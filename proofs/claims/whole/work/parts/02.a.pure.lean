/-! Small pure words: a guard, a loop with fuel, and how a hypothesis 'it comes to some x' is taken apart. -/
def g_in (i : Int32) (n : Nat) : Bool := decide (0 ≤ i) && decide (i.toNatClampNeg < n)
def g_gd {α : Type} (b : Bool) (x : Option α) : Option α := cond b x none
def g_itn {σ ρ : Type} (f : σ → Option (σ ⊕ ρ)) : Nat → σ → Option ρ
  | 0, _ => none
  | n + 1, s => match f s with
    | none => none
    | some (.inl s') => g_itn f n s'
    | some (.inr r) => some r
def g_fuel : Nat := 1000000
def g_it {σ ρ : Type} (f : σ → Option (σ ⊕ ρ)) (s : σ) : Option ρ := g_itn f g_fuel s
def g_itc {σ ρ : Type} (f : σ → Option (σ ⊕ ρ)) (n : Nat) (r : ρ) : σ ⊕ ρ → Prop
  | .inl s' => g_itn f n s' = some r
  | .inr r' => r' = r
theorem g_its {σ ρ : Type} {f : σ → Option (σ ⊕ ρ)} {n : Nat} {s : σ} {r : ρ} (h : g_itn f (n + 1) s = some r) : ∃ y, f s = some y ∧ g_itc f n r y := by
  unfold g_itn at h
  cases hf : f s with
  | none => rw [hf] at h; cases h
  | some y =>
    rw [hf] at h
    cases y with
    | inl s' => exact ⟨_, rfl, h⟩
    | inr r' => exact ⟨_, rfl, Option.some.inj h⟩
theorem g_it0 {σ ρ : Type} {f : σ → Option (σ ⊕ ρ)} {s : σ} {r : ρ} (h : g_itn f 0 s = some r) : False := by cases h
theorem g_bd {α β : Type} {o : Option α} {k : α → Option β} {x : β} (h : o.bind k = some x) : ∃ u, o = some u ∧ k u = some x := by
  cases o with
  | none => cases h
  | some u => exact ⟨u, rfl, h⟩
theorem g_gt {α : Type} {b : Bool} {x : Option α} {y : α} (h : g_gd b x = some y) : b = true ∧ x = some y := by
  cases b with
  | false => cases h
  | true => exact ⟨rfl, h⟩
theorem g_t {α : Type} {c : Prop} {d : Decidable c} {a b : Option α} {x : α} (hc : c) (h : (@ite _ c d a b) = some x) : a = some x := by rw [if_pos hc] at h; exact h
theorem g_f {α : Type} {c : Prop} {d : Decidable c} {a b : Option α} {x : α} (hc : ¬ c) (h : (@ite _ c d a b) = some x) : b = some x := by rw [if_neg hc] at h; exact h
theorem g_no {α : Type} {x : α} {P : Prop} (h : (none : Option α) = some x) : P := by cases h
def g_cpin (sp dp z : Int32) (n0 n1 : Nat) : Bool := decide (¬ sp < 0) && decide (¬ dp < 0) && decide (¬ z < 0) && decide (sp.toNatClampNeg + z.toNatClampNeg ≤ n0) && decide (dp.toNatClampNeg + z.toNatClampNeg ≤ n1)
