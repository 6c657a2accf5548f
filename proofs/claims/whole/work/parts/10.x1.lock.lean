/-! loops by an index, and two loops step by step -/
theorem it_ixn {σ ρ : Type} {f : σ → Option (σ ⊕ ρ)} (J : Nat → σ → Prop) (n : Nat) (Q : ρ → Prop) (st : ∀ a s, a < n → J a s → ∃ s', f s = some (.inl s') ∧ J (a + 1) s') (last : ∀ s, J n s → ∃ r, f s = some (.inr r) ∧ Q r) : ∀ (d a fu : Nat) (s : σ), a + d = n → d < fu → J a s → ∃ r, g_itn f fu s = some r ∧ Q r
  | _, _, 0, _, _, h, _ => absurd h (Nat.not_lt_zero _)
  | 0, a, fu + 1, s, h, _, j => by
    have h : a = n := h
    subst h
    obtain ⟨r, e, q⟩ := last s j
    exact ⟨r, by simp only [g_itn, e], q⟩
  | d + 1, a, fu + 1, s, h, hf, j => by
    obtain ⟨s', e, j'⟩ := st a s (by omega) j
    obtain ⟨r, e2, q⟩ := it_ixn J n Q st last d (a + 1) fu s' (by omega) (by omega) j'
    exact ⟨r, by simp only [g_itn, e]; exact e2, q⟩
theorem it_ix {σ ρ : Type} {f : σ → Option (σ ⊕ ρ)} (J : Nat → σ → Prop) (a n : Nat) (Q : ρ → Prop) (s : σ) (ha : a ≤ n) (hn : n < 999999) (h0 : J a s) (st : ∀ a s, a < n → J a s → ∃ s', f s = some (.inl s') ∧ J (a + 1) s') (last : ∀ s, J n s → ∃ r, f s = some (.inr r) ∧ Q r) : ∃ r, g_it f s = some r ∧ Q r :=
  it_ixn J n Q st last (n - a) a g_fuel s (by omega) (by unfold g_fuel; omega) h0
theorem lock_ixn {σ τ ρ π : Type} {f : σ → Option (σ ⊕ ρ)} {g : τ → Option (τ ⊕ π)} (J : Nat → σ → τ → Prop) (n : Nat) (Q : ρ → π → Prop) (st : ∀ a s u, a < n → J a s u → ∃ s' u', f s = some (.inl s') ∧ g u = some (.inl u') ∧ J (a + 1) s' u') (last : ∀ s u, J n s u → ∃ r q, f s = some (.inr r) ∧ g u = some (.inr q) ∧ Q r q) : ∀ (d a fu : Nat) (s : σ) (u : τ), a + d = n → d < fu → J a s u → ∃ r q, g_itn f fu s = some r ∧ g_itn g fu u = some q ∧ Q r q
  | _, _, 0, _, _, _, h, _ => absurd h (Nat.not_lt_zero _)
  | 0, a, fu + 1, s, u, h, _, j => by
    have h : a = n := h
    subst h
    obtain ⟨r, q, e, e2, k⟩ := last s u j
    exact ⟨r, q, by simp only [g_itn, e], by simp only [g_itn, e2], k⟩
  | d + 1, a, fu + 1, s, u, h, hf, j => by
    obtain ⟨s', u', e, e2, j'⟩ := st a s u (by omega) j
    obtain ⟨r, q, k1, k2, k3⟩ := lock_ixn J n Q st last d (a + 1) fu s' u' (by omega) (by omega) j'
    exact ⟨r, q, by simp only [g_itn, e]; exact k1, by simp only [g_itn, e2]; exact k2, k3⟩
theorem lock_ix {σ τ ρ π : Type} {f : σ → Option (σ ⊕ ρ)} {g : τ → Option (τ ⊕ π)} (J : Nat → σ → τ → Prop) (n : Nat) (Q : ρ → π → Prop) (s : σ) (u : τ) (hn : n < 999999) (h0 : J 0 s u) (st : ∀ a s u, a < n → J a s u → ∃ s' u', f s = some (.inl s') ∧ g u = some (.inl u') ∧ J (a + 1) s' u') (last : ∀ s u, J n s u → ∃ r q, f s = some (.inr r) ∧ g u = some (.inr q) ∧ Q r q) : ∃ r q, g_it f s = some r ∧ g_it g u = some q ∧ Q r q :=
  lock_ixn J n Q st last n 0 g_fuel s u (by omega) (by unfold g_fuel; omega) h0
theorem lockn {σ τ ρ π : Type} {f : σ → Option (σ ⊕ ρ)} {g : τ → Option (τ ⊕ π)} (I : σ → τ → Prop) (μ : σ → Nat) (Q : ρ → π → Prop) (st : ∀ s u, I s u → (∃ s' u', f s = some (.inl s') ∧ g u = some (.inl u') ∧ I s' u' ∧ μ s' < μ s) ∨ (∃ r q, f s = some (.inr r) ∧ g u = some (.inr q) ∧ Q r q)) : ∀ (fu : Nat) (s : σ) (u : τ), I s u → μ s < fu → ∃ r q, g_itn f fu s = some r ∧ g_itn g fu u = some q ∧ Q r q
  | 0, _, _, _, h => absurd h (Nat.not_lt_zero _)
  | fu + 1, s, u, hI, h1 => by
    rcases st s u hI with ⟨s', u', e1, e2, e3, e4⟩ | ⟨r, q, e1, e2, e3⟩
    · obtain ⟨r, q, k1, k2, k3⟩ := lockn I μ Q st fu s' u' e3 (by omega)
      exact ⟨r, q, by simp only [g_itn, e1]; exact k1, by simp only [g_itn, e2]; exact k2, k3⟩
    · exact ⟨r, q, by simp only [g_itn, e1], by simp only [g_itn, e2], e3⟩
theorem lockg {σ τ ρ π : Type} {f : σ → Option (σ ⊕ ρ)} {g : τ → Option (τ ⊕ π)} (I : σ → τ → Prop) (μ : σ → Nat) (Q : ρ → π → Prop) (st : ∀ s u, I s u → (∃ s' u', f s = some (.inl s') ∧ g u = some (.inl u') ∧ I s' u' ∧ μ s' < μ s) ∨ (∃ r q, f s = some (.inr r) ∧ g u = some (.inr q) ∧ Q r q)) (s : σ) (u : τ) (hI : I s u) (hm : μ s < 1000000) : ∃ r q, g_it f s = some r ∧ g_it g u = some q ∧ Q r q := lockn I μ Q st g_fuel s u hI hm
theorem it_now {σ ρ : Type} {f : σ → Option (σ ⊕ ρ)} {s : σ} {r : ρ} (e : f s = some (.inr r)) : g_it f s = some r := by
  show g_itn _ g_fuel _ = _
  unfold g_fuel
  simp only [g_itn, e]
