/-! the free words: both go from hole to hole -/
abbrev N5 : Type := Int32 × Int32 × Int32 × Int32 × Int32
def inc5 (s : N5) (a l : Nat) : N5 := if l = 0 then s else (s.1 + nI l, s.2.1 + nI 1, if s.2.2.1 < nI l then nI l else s.2.2.1, if s.2.2.2.1 = eO none then nI a else s.2.2.2.1, s.2.2.2.2 + nI l / nI 4)
def rd5 (N : Nat → Int32) : N5 := (N 0, N 1, N 2, N 3, N 4)
/-- the length of the hole at a, below a + d -/
def rl (mm : Nat → Int32) : Nat → Nat → Nat
  | 0, _ => 0
  | d + 1, a => if zs mm a = 0 then rl mm d (a + 1) + 1 else 0
theorem rl_spec {mm : Nat → Int32} : ∀ (d a : Nat), rl mm d a ≤ d ∧ (∀ i, i < rl mm d a → zs mm (a + i) = 0) ∧ (rl mm d a < d → 0 < zs mm (a + rl mm d a))
  | 0, a => ⟨Nat.le_refl _, fun i hi => absurd hi (Nat.not_lt_zero _), fun h => absurd h (Nat.lt_irrefl _)⟩
  | d + 1, a => by
    have ih := rl_spec (mm := mm) d (a + 1)
    unfold rl
    by_cases h : zs mm a = 0
    · rw [if_pos h]
      refine ⟨by omega, fun i hi => ?_, fun hl => ?_⟩
      · cases i with
        | zero => exact h
        | succ i =>
          have := ih.2.1 i (by omega)
          rw [show a + 1 + i = a + (i + 1) by omega] at this
          exact this
      · have := ih.2.2 (by omega)
        rw [show a + 1 + rl mm d (a + 1) = a + (rl mm d (a + 1) + 1) by omega] at this
        exact this
    · rw [if_neg h]
      exact ⟨by omega, fun i hi => absurd hi (Nat.not_lt_zero _), fun _ => by rw [Nat.add_zero]; omega⟩
/-- all holes from the boundary a on -/
def hs (mm : Nat → Int32) (W : Nat) : Nat → Nat → N5 → N5
  | 0, _, s => s
  | k + 1, a, s => if a < W then (if a + rl mm (W - a) a < W then hs mm W k (a + rl mm (W - a) a + zs mm (a + rl mm (W - a) a)) (inc5 s a (rl mm (W - a) a)) else inc5 s a (rl mm (W - a) a)) else s
theorem FX_inc (N : Nat → Int32) {a l : Nat} (hl : l < 1000) : ∃ N', FX2_include N (nI a) (nI l) = some N' ∧ rd5 N' = inc5 (rd5 N) a l := by
  by_cases h0 : l = 0
  · subst h0
    exact ⟨N, by simp (disch := omega) only [FX2_include, ↓lm1, n_ofN, l0, l1, l2, l3, l4, l5, l6, l7, l8, l10, l20, l47, l80, l100, l127, l200, l400, l600, l800, l1000, l1200, l1206, l1210, l1222, n_add, n_clamp, n_gd, n_le_t, n_le_f, n_lt_t, n_lt_f, n_eq_t, n_eq_f, n_no, n_on, n_oo, n_olt, n_nlo, n_ole, Option.bind_some, Option.bind_none, Nat.zero_add, if_true, if_false], by simp only [inc5, if_true]⟩
  · obtain ⟨g, hg⟩ : ∃ g, g = (if N 2 < nI l then nI l else N 2) := ⟨_, rfl⟩
    have e1 : (1 : Nat) ≠ 0 := by omega
    have e2 : (2 : Nat) ≠ 1 := by omega
    have e3 : (2 : Nat) ≠ 0 := by omega
    have e4 : (3 : Nat) ≠ 2 := by omega
    have e5 : (3 : Nat) ≠ 1 := by omega
    have e6 : (3 : Nat) ≠ 0 := by omega
    by_cases h3 : N 3 = eO none
    · refine ⟨upd (upd (upd (upd (upd N 0 (N 0 + nI l)) 1 (N 1 + nI 1)) 2 g) 3 (nI a)) 4 (N 4 + nI l / nI 4), ?_, ?_⟩
      · simp (disch := omega) only [FX2_include, ↓lm1, n_ofN, l0, l1, l2, l3, l4, l5, l6, l7, l8, l10, l20, l47, l80, l100, l127, l200, l400, l600, l800, l1000, l1200, l1206, l1210, l1222, n_add, n_clamp, n_gd, n_le_t, n_le_f, n_lt_t, n_lt_f, n_eq_t, n_eq_f, n_no, n_on, n_oo, n_olt, n_nlo, n_ole, Option.bind_some, Option.bind_none, Nat.zero_add, if_true, if_false, pk_us, pk_un, ← hg, if_pos h3]
      · rw [show inc5 (rd5 N) a l = (N 0 + nI l, N 1 + nI 1, (if N 2 < nI l then nI l else N 2), (if N 3 = eO none then nI a else N 3), N 4 + nI l / nI 4) from if_neg h0, ← hg, if_pos h3]
        simp (disch := omega) only [rd5, pk_us, pk_un]
    · refine ⟨upd (upd (upd (upd N 0 (N 0 + nI l)) 1 (N 1 + nI 1)) 2 g) 4 (N 4 + nI l / nI 4), ?_, ?_⟩
      · simp (disch := omega) only [FX2_include, ↓lm1, n_ofN, l0, l1, l2, l3, l4, l5, l6, l7, l8, l10, l20, l47, l80, l100, l127, l200, l400, l600, l800, l1000, l1200, l1206, l1210, l1222, n_add, n_clamp, n_gd, n_le_t, n_le_f, n_lt_t, n_lt_f, n_eq_t, n_eq_f, n_no, n_on, n_oo, n_olt, n_nlo, n_ole, Option.bind_some, Option.bind_none, Nat.zero_add, if_true, if_false, pk_us, pk_un, ← hg, if_neg h3]
      · rw [show inc5 (rd5 N) a l = (N 0 + nI l, N 1 + nI 1, (if N 2 < nI l then nI l else N 2), (if N 3 = eO none then nI a else N 3), N 4 + nI l / nI 4) from if_neg h0, ← hg, if_neg h3]
        simp (disch := omega) only [rd5, pk_us, pk_un]
theorem me_free {mm owner : Nat → Int32} {W : Nat} (hW : W ≤ 200) (hO : RO W mm owner) : ∀ (r l a fu : Nat) (N : Nat → Int32), a + r ≤ W → l ≤ a → (∀ i, i < r → ob mm (a + i) = none) → g_itn (FX2_measure_L19 (nI W) owner) (fu + r) (nI l, nI a, N) = g_itn (FX2_measure_L19 (nI W) owner) fu (nI (l + r), nI (a + r), N)
  | 0, l, a, fu, N, _, _, _ => rfl
  | r + 1, l, a, fu, N, h1, h2, h3 => by
    have e0 := h3 0 (by omega)
    rw [Nat.add_zero] at e0
    have e : FX2_measure_L19 (nI W) owner (nI l, nI a, N) = some (.inl (nI (l + 1), nI (a + 1), N)) := by
      simp (disch := omega) only [FX2_measure_L19, ↓lm1, n_ofN, l0, l1, l2, l3, l4, l5, l6, l7, l8, l10, l20, l47, l80, l100, l127, l200, l400, l600, l800, l1000, l1200, l1206, l1210, l1222, n_add, n_clamp, n_gd, n_le_t, n_le_f, n_lt_t, n_lt_f, n_eq_t, n_eq_f, n_no, n_on, n_oo, n_olt, n_nlo, n_ole, Option.bind_some, Option.bind_none, Nat.zero_add, if_true, if_false, hO a (by omega), e0]
    show g_itn (FX2_measure_L19 (nI W) owner) (fu + r + 1) (nI l, nI a, N) = _
    simp only [g_itn, e]
    rw [me_free hW hO r (l + 1) (a + 1) fu N (by omega) (by omega) (fun i hi => by rw [show a + 1 + i = a + (i + 1) by omega]; exact h3 (i + 1) (by omega)), show l + 1 + r = l + (r + 1) by omega, show a + 1 + r = a + (r + 1) by omega]
theorem me_used {mm owner : Nat → Int32} {W : Nat} (hW : W ≤ 200) (hO : RO W mm owner) : ∀ (m b fu : Nat) (N : Nat → Int32), b + m ≤ W → (∀ i, i < m → ∃ h, ob mm (b + i) = some h) → g_itn (FX2_measure_L19 (nI W) owner) (fu + m) (nI 0, nI b, N) = g_itn (FX2_measure_L19 (nI W) owner) fu (nI 0, nI (b + m), N)
  | 0, b, fu, N, _, _ => rfl
  | m + 1, b, fu, N, h1, h3 => by
    obtain ⟨h, e0⟩ := h3 0 (by omega)
    rw [Nat.add_zero] at e0
    have := ob_lt e0
    have e : FX2_measure_L19 (nI W) owner (nI 0, nI b, N) = some (.inl (nI 0, nI (b + 1), N)) := by
      simp (disch := omega) only [FX2_measure_L19, FX2_include, ↓lm1, n_ofN, l0, l1, l2, l3, l4, l5, l6, l7, l8, l10, l20, l47, l80, l100, l127, l200, l400, l600, l800, l1000, l1200, l1206, l1210, l1222, n_add, n_clamp, n_gd, n_le_t, n_le_f, n_lt_t, n_lt_f, n_eq_t, n_eq_f, n_no, n_on, n_oo, n_olt, n_nlo, n_ole, Option.bind_some, Option.bind_none, Nat.zero_add, if_true, if_false, hO b (by omega), e0, eO_some]
    show g_itn (FX2_measure_L19 (nI W) owner) (fu + m + 1) (nI 0, nI b, N) = _
    simp only [g_itn, e]
    rw [me_used hW hO m (b + 1) fu N (by omega) (fun i hi => by rw [show b + 1 + i = b + (i + 1) by omega]; exact h3 (i + 1) (by omega)), show b + 1 + m = b + (m + 1) by omega]
theorem me_all {mm owner : Nat → Int32} {W : Nat} (H : WF mm W) (hO : RO W mm owner) : ∀ (k a fu : Nat) (N : Nat → Int32), a ≤ W → Bd mm a → W - a < k → W - a < fu → ∃ l N', g_itn (FX2_measure_L19 (nI W) owner) fu (nI 0, nI a, N) = some (nI l, N') ∧ l ≤ W ∧ inc5 (rd5 N') (W - l) l = hs mm W k a (rd5 N)
  | 0, a, fu, N, _, _, h, _ => absurd h (Nat.not_lt_zero _)
  | k + 1, a, fu, N, ha, hb, hk, hf => by
    have hW := H.size
    by_cases haW : a < W
    · obtain ⟨r, hr⟩ : ∃ r, r = rl mm (W - a) a := ⟨_, rfl⟩
      have hsp := rl_spec (mm := mm) (W - a) a
      rw [← hr] at hsp
      obtain ⟨r1, r2, r3⟩ := hsp
      have hfree : ∀ i, i < r → ob mm (a + i) = none := fun i hi => ob_bd hb (fun j hj => r2 j (by omega))
      obtain ⟨fu1, rfl⟩ : ∃ fu1, fu = fu1 + r := ⟨fu - r, by omega⟩
      rw [me_free hW.2 hO r 0 a fu1 N (by omega) (by omega) hfree, Nat.zero_add]
      unfold hs
      rw [if_pos haW, ← hr]
      by_cases hrW : a + r < W
      · rw [if_pos hrW]
        have h0 := r3 (by omega)
        have h7 := H.hd (a := a + r) (by omega) h0
        have hbn := bd_next H hb r2 h0 (by omega)
        obtain ⟨N', e1, e2⟩ := FX_inc N (a := a) (l := r) (by omega)
        obtain ⟨fu2, rfl⟩ : ∃ fu2, fu1 = fu2 + (zs mm (a + r) - 1) + 1 := ⟨fu1 - zs mm (a + r), by omega⟩
        have e : FX2_measure_L19 (nI W) owner (nI r, nI (a + r), N) = some (.inl (nI 0, nI (a + r + 1), N')) := by
          simp (disch := omega) only [FX2_measure_L19, ↓lm1, n_ofN, l0, l1, l2, l3, l4, l5, l6, l7, l8, l10, l20, l47, l80, l100, l127, l200, l400, l600, l800, l1000, l1200, l1206, l1210, l1222, n_add, n_clamp, n_gd, n_le_t, n_le_f, n_lt_t, n_lt_f, n_eq_t, n_eq_f, n_no, n_on, n_oo, n_olt, n_nlo, n_ole, Option.bind_some, Option.bind_none, Nat.zero_add, if_true, if_false, hO (a + r) hrW, ob_self h0, eO_some, n_sub, show a + r - r = a by omega, e1]
        simp only [g_itn, e]
        rw [me_used hW.2 hO (zs mm (a + r) - 1) (a + r + 1) fu2 N' (by omega) (fun i hi => ⟨a + r, ob_of H (by omega) ⟨by omega, by omega⟩⟩), show a + r + 1 + (zs mm (a + r) - 1) = a + r + zs mm (a + r) by omega, ← e2]
        exact me_all H hO k (a + r + zs mm (a + r)) fu2 N' (by omega) hbn (by omega) (by omega)
      · rw [if_neg hrW]
        obtain ⟨fu2, rfl⟩ : ∃ fu2, fu1 = fu2 + 1 := ⟨fu1 - 1, by omega⟩
        have e : FX2_measure_L19 (nI W) owner (nI r, nI (a + r), N) = some (.inr (nI r, N)) := by
          simp (disch := omega) only [FX2_measure_L19, ↓lm1, n_ofN, l0, l1, l2, l3, l4, l5, l6, l7, l8, l10, l20, l47, l80, l100, l127, l200, l400, l600, l800, l1000, l1200, l1206, l1210, l1222, n_add, n_clamp, n_gd, n_le_t, n_le_f, n_lt_t, n_lt_f, n_eq_t, n_eq_f, n_no, n_on, n_oo, n_olt, n_nlo, n_ole, Option.bind_some, Option.bind_none, Nat.zero_add, if_true, if_false]
        refine ⟨r, N, by simp only [g_itn, e], by omega, ?_⟩
        rw [show W - r = a by omega]
    · obtain ⟨fu2, rfl⟩ : ∃ fu2, fu = fu2 + 1 := ⟨fu - 1, by omega⟩
      have e : FX2_measure_L19 (nI W) owner (nI 0, nI a, N) = some (.inr (nI 0, N)) := by
        simp (disch := omega) only [FX2_measure_L19, ↓lm1, n_ofN, l0, l1, l2, l3, l4, l5, l6, l7, l8, l10, l20, l47, l80, l100, l127, l200, l400, l600, l800, l1000, l1200, l1206, l1210, l1222, n_add, n_clamp, n_gd, n_le_t, n_le_f, n_lt_t, n_lt_f, n_eq_t, n_eq_f, n_no, n_on, n_oo, n_olt, n_nlo, n_ole, Option.bind_some, Option.bind_none, Nat.zero_add, if_true, if_false]
      refine ⟨0, N, by simp only [g_itn, e], by omega, ?_⟩
      unfold hs
      rw [if_neg haW]
      simp only [inc5, if_true]
theorem bd_0 (mm : Nat → Int32) : Bd mm 0 := fun h hh => absurd hh (Nat.not_lt_zero _)
def fives (mm : Nat → Int32) (W : Nat) : N5 := hs mm W (W + 1) 0 (nI 0, nI 0, nI 0, eO none, nI 0)
theorem FX_measure {mm owner : Nat → Int32} {W : Nat} (H : WF mm W) (hO : RO W mm owner) (numbers : Nat → Int32) : ∃ N, FX2_measure numbers (nI W) owner = some N ∧ rd5 N = fives mm W := by
  have hW := H.size
  obtain ⟨l, N', h1, h2, h3⟩ := me_all H hO (W + 1) 0 g_fuel (upd (fl numbers 0 5 (nI 0)) 3 (eO none)) (by omega) (bd_0 mm) (by omega) (by unfold g_fuel; omega)
  obtain ⟨N, h4, h5⟩ := FX_inc N' (a := W - l) (l := l) (by omega)
  have h1 : g_it (FX2_measure_L19 (nI W) owner) (nI 0, nI 0, upd (fl numbers 0 5 (nI 0)) 3 (eO none)) = some (nI l, N') := h1
  refine ⟨N, by simp (disch := omega) only [FX2_measure, ↓lm1, n_ofN, l0, l1, l2, l3, l4, l5, l6, l7, l8, l10, l20, l47, l80, l100, l127, l200, l400, l600, l800, l1000, l1200, l1206, l1210, l1222, n_add, n_clamp, n_gd, n_le_t, n_le_f, n_lt_t, n_lt_f, n_eq_t, n_eq_f, n_no, n_on, n_oo, n_olt, n_nlo, n_ole, Option.bind_some, Option.bind_none, Nat.zero_add, if_true, if_false, F_fill, h1, n_sub, h4], ?_⟩
  rw [h5, h3]
  unfold fives
  congr 1
/-- the reference -/
theorem FM_run {mm : Nat → Int32} {W a : Nat} (H : WF mm W) (ha : a ≤ W) : g_it (FX7_free_L44 mm (nI a)) (nI 0) = some (nI (rl mm (W - a) a)) := by
  have hW := H.size
  obtain ⟨r1, r2, r3⟩ := rl_spec (mm := mm) (W - a) a
  refine it_to (fun i => nI i) 0 (rl mm (W - a) a) _ (by omega) (by omega) (fun i _ hi => ?_) ?_
  · have h6 := H.sz (a := a + i) (by omega)
    have h7 := r2 i hi
    simp (disch := omega) only [FX7_free_L44, H.hw, ↓lm1, n_ofN, l0, l1, l2, l3, l4, l5, l6, l7, l8, l10, l20, l47, l80, l100, l127, l200, l400, l600, l800, l1000, l1200, l1206, l1210, l1222, n_add, n_clamp, n_gd, n_le_t, n_le_f, n_lt_t, n_lt_f, n_eq_t, n_eq_f, n_no, n_on, n_oo, n_olt, n_nlo, n_ole, Option.bind_some, Option.bind_none, Nat.zero_add, if_true, if_false, h6.1]
  · by_cases hl : rl mm (W - a) a < W - a
    · have h6 := H.sz (a := a + rl mm (W - a) a) (by omega)
      have h7 := r3 hl
      simp (disch := omega) only [FX7_free_L44, H.hw, ↓lm1, n_ofN, l0, l1, l2, l3, l4, l5, l6, l7, l8, l10, l20, l47, l80, l100, l127, l200, l400, l600, l800, l1000, l1200, l1206, l1210, l1222, n_add, n_clamp, n_gd, n_le_t, n_le_f, n_lt_t, n_lt_f, n_eq_t, n_eq_f, n_no, n_on, n_oo, n_olt, n_nlo, n_ole, Option.bind_some, Option.bind_none, Nat.zero_add, if_true, if_false, h6.1]
    · simp (disch := omega) only [FX7_free_L44, H.hw, ↓lm1, n_ofN, l0, l1, l2, l3, l4, l5, l6, l7, l8, l10, l20, l47, l80, l100, l127, l200, l400, l600, l800, l1000, l1200, l1206, l1210, l1222, n_add, n_clamp, n_gd, n_le_t, n_le_f, n_lt_t, n_lt_f, n_eq_t, n_eq_f, n_no, n_on, n_oo, n_olt, n_nlo, n_ole, Option.bind_some, Option.bind_none, Nat.zero_add, if_true, if_false]
theorem add_n0 (x : Int32) : x + nI 0 = x := Int32.add_zero x
theorem FM_holes {mm : Nat → Int32} {W : Nat} (H : WF mm W) : ∀ (k a g fu : Nat) (w h fi fo : Int32), a ≤ W → g ≤ 200 → W - a < k → W - a < fu → g_itn (FX7_free_L28 mm) fu (w, h, nI g, fi, fo, nI a) = some (hs mm W k a (w, h, nI g, fi, fo))
  | 0, a, g, fu, w, h, fi, fo, _, _, hk, _ => absurd hk (Nat.not_lt_zero _)
  | k + 1, a, g, fu + 1, w, h, fi, fo, ha, hg, hk, hf => by
    have hW := H.size
    by_cases haW : a < W
    · obtain ⟨r, hr⟩ : ∃ r, r = rl mm (W - a) a := ⟨_, rfl⟩
      have hrun := FM_run H ha
      have hsp := rl_spec (mm := mm) (W - a) a
      rw [← hr] at hsp hrun
      obtain ⟨r1, r2, r3⟩ := hsp
      obtain ⟨w2, h2, g2, fi2, fo2, hst, hg2⟩ : ∃ w2 h2 g2 fi2 fo2, inc5 (w, h, nI g, fi, fo) a r = (w2, h2, nI g2, fi2, fo2) ∧ g2 ≤ 200 := by
        by_cases h0 : r = 0
        · exact ⟨w, h, g, fi, fo, if_pos h0, hg⟩
        · by_cases hgr : g < r
          · refine ⟨w + nI r, h + nI 1, r, if fi = eO none then nI a else fi, fo + nI r / nI 4, (if_neg h0).trans ?_, by omega⟩
            show (w + nI r, h + nI 1, (if nI g < nI r then nI r else nI g), (if fi = eO none then nI a else fi), fo + nI r / nI 4) = _
            rw [if_pos (nI_lt hgr (by omega))]
          · refine ⟨w + nI r, h + nI 1, g, if fi = eO none then nI a else fi, fo + nI r / nI 4, (if_neg h0).trans ?_, by omega⟩
            show (w + nI r, h + nI 1, (if nI g < nI r then nI r else nI g), (if fi = eO none then nI a else fi), fo + nI r / nI 4) = _
            rw [if_neg (nI_nlt (by omega) (by omega))]
      have hupd : w + nI r = w2 ∧ (h + (if r = 0 then nI 0 else nI 1)) = h2 ∧ (if r ≤ g then nI g else nI r) = nI g2 ∧ (if r = 0 then fi else if fi = eO none then nI a else fi) = fi2 ∧ fo + nI r / nI 4 = fo2 := by
        by_cases h0 : r = 0
        · rw [show inc5 (w, h, nI g, fi, fo) a r = (w, h, nI g, fi, fo) from if_pos h0] at hst
          simp only [Prod.mk.injEq] at hst
          obtain ⟨q1, q2, q3, q4, q5⟩ := hst
          subst h0
          have e4 : nI 0 / nI 4 = nI 0 := by decide
          exact ⟨(add_n0 _).trans q1, by rw [if_pos rfl]; exact (add_n0 _).trans q2, (if_pos (by omega)).trans q3, (if_pos rfl).trans q4, by rw [e4]; exact (add_n0 _).trans q5⟩
        · rw [show inc5 (w, h, nI g, fi, fo) a r = _ from if_neg h0] at hst
          simp only [Prod.mk.injEq] at hst
          obtain ⟨q1, q2, q3, q4, q5⟩ := hst
          refine ⟨q1, by rw [if_neg h0]; exact q2, ?_, by rw [if_neg h0]; exact q4, q5⟩
          rw [← q3]
          by_cases hgr : g < r
          · rw [if_neg (by omega), if_pos (nI_lt hgr (by omega))]
          · rw [if_pos (by omega), if_neg (nI_nlt (by omega) (by omega))]
      obtain ⟨u1, u2, u3, u4, u5⟩ := hupd
      unfold hs
      rw [if_pos haW, ← hr, hst]
      have estep : ∀ z : Nat, (if a + r < W then z = zs mm (a + r) else z = 0) → FX7_free_L28 mm (w, h, nI g, fi, fo, nI a) = some (.inl (w2, h2, nI g2, fi2, fo2, nI (a + r + z))) := by
        intro z hz
        rw [← u1, ← u2, ← u3, ← u4, ← u5]
        by_cases h0 : r = 0
        · by_cases hrW : a + r < W
          · rw [if_pos hrW] at hz
            have h6 := H.sz (a := a + r) (by omega)
            simp (disch := omega) only [FX7_free_L28, H.hw, hrun, ↓lm1, n_ofN, l0, l1, l2, l3, l4, l5, l6, l7, l8, l10, l20, l47, l80, l100, l127, l200, l400, l600, l800, l1000, l1200, l1206, l1210, l1222, n_add, n_clamp, n_gd, n_le_t, n_le_f, n_lt_t, n_lt_f, n_eq_t, n_eq_f, n_no, n_on, n_oo, n_olt, n_nlo, n_ole, Option.bind_some, Option.bind_none, Nat.zero_add, if_true, if_false, if_pos h0, show r ≤ g by omega, h6.1, ← hz]
          · exact absurd haW (by omega)
        · by_cases hrW : a + r < W
          · rw [if_pos hrW] at hz
            have h6 := H.sz (a := a + r) (by omega)
            by_cases hgr : r ≤ g
            · by_cases hfi : fi = eO none
              · simp (disch := omega) only [FX7_free_L28, H.hw, hrun, ↓lm1, n_ofN, l0, l1, l2, l3, l4, l5, l6, l7, l8, l10, l20, l47, l80, l100, l127, l200, l400, l600, l800, l1000, l1200, l1206, l1210, l1222, n_add, n_clamp, n_gd, n_le_t, n_le_f, n_lt_t, n_lt_f, n_eq_t, n_eq_f, n_no, n_on, n_oo, n_olt, n_nlo, n_ole, Option.bind_some, Option.bind_none, Nat.zero_add, if_true, if_false, if_neg h0, if_pos hgr, if_pos hfi, h6.1, ← hz]
              · simp (disch := omega) only [FX7_free_L28, H.hw, hrun, ↓lm1, n_ofN, l0, l1, l2, l3, l4, l5, l6, l7, l8, l10, l20, l47, l80, l100, l127, l200, l400, l600, l800, l1000, l1200, l1206, l1210, l1222, n_add, n_clamp, n_gd, n_le_t, n_le_f, n_lt_t, n_lt_f, n_eq_t, n_eq_f, n_no, n_on, n_oo, n_olt, n_nlo, n_ole, Option.bind_some, Option.bind_none, Nat.zero_add, if_true, if_false, if_neg h0, if_pos hgr, if_neg hfi, h6.1, ← hz]
            · by_cases hfi : fi = eO none
              · simp (disch := omega) only [FX7_free_L28, H.hw, hrun, ↓lm1, n_ofN, l0, l1, l2, l3, l4, l5, l6, l7, l8, l10, l20, l47, l80, l100, l127, l200, l400, l600, l800, l1000, l1200, l1206, l1210, l1222, n_add, n_clamp, n_gd, n_le_t, n_le_f, n_lt_t, n_lt_f, n_eq_t, n_eq_f, n_no, n_on, n_oo, n_olt, n_nlo, n_ole, Option.bind_some, Option.bind_none, Nat.zero_add, if_true, if_false, if_neg h0, if_neg hgr, if_pos hfi, h6.1, ← hz]
              · simp (disch := omega) only [FX7_free_L28, H.hw, hrun, ↓lm1, n_ofN, l0, l1, l2, l3, l4, l5, l6, l7, l8, l10, l20, l47, l80, l100, l127, l200, l400, l600, l800, l1000, l1200, l1206, l1210, l1222, n_add, n_clamp, n_gd, n_le_t, n_le_f, n_lt_t, n_lt_f, n_eq_t, n_eq_f, n_no, n_on, n_oo, n_olt, n_nlo, n_ole, Option.bind_some, Option.bind_none, Nat.zero_add, if_true, if_false, if_neg h0, if_neg hgr, if_neg hfi, h6.1, ← hz]
          · rw [if_neg hrW] at hz
            by_cases hgr : r ≤ g
            · by_cases hfi : fi = eO none
              · simp (disch := omega) only [FX7_free_L28, H.hw, hrun, ↓lm1, n_ofN, l0, l1, l2, l3, l4, l5, l6, l7, l8, l10, l20, l47, l80, l100, l127, l200, l400, l600, l800, l1000, l1200, l1206, l1210, l1222, n_add, n_clamp, n_gd, n_le_t, n_le_f, n_lt_t, n_lt_f, n_eq_t, n_eq_f, n_no, n_on, n_oo, n_olt, n_nlo, n_ole, Option.bind_some, Option.bind_none, Nat.zero_add, if_true, if_false, if_neg h0, if_pos hgr, if_pos hfi, hz]
              · simp (disch := omega) only [FX7_free_L28, H.hw, hrun, ↓lm1, n_ofN, l0, l1, l2, l3, l4, l5, l6, l7, l8, l10, l20, l47, l80, l100, l127, l200, l400, l600, l800, l1000, l1200, l1206, l1210, l1222, n_add, n_clamp, n_gd, n_le_t, n_le_f, n_lt_t, n_lt_f, n_eq_t, n_eq_f, n_no, n_on, n_oo, n_olt, n_nlo, n_ole, Option.bind_some, Option.bind_none, Nat.zero_add, if_true, if_false, if_neg h0, if_pos hgr, if_neg hfi, hz]
            · by_cases hfi : fi = eO none
              · simp (disch := omega) only [FX7_free_L28, H.hw, hrun, ↓lm1, n_ofN, l0, l1, l2, l3, l4, l5, l6, l7, l8, l10, l20, l47, l80, l100, l127, l200, l400, l600, l800, l1000, l1200, l1206, l1210, l1222, n_add, n_clamp, n_gd, n_le_t, n_le_f, n_lt_t, n_lt_f, n_eq_t, n_eq_f, n_no, n_on, n_oo, n_olt, n_nlo, n_ole, Option.bind_some, Option.bind_none, Nat.zero_add, if_true, if_false, if_neg h0, if_neg hgr, if_pos hfi, hz]
              · simp (disch := omega) only [FX7_free_L28, H.hw, hrun, ↓lm1, n_ofN, l0, l1, l2, l3, l4, l5, l6, l7, l8, l10, l20, l47, l80, l100, l127, l200, l400, l600, l800, l1000, l1200, l1206, l1210, l1222, n_add, n_clamp, n_gd, n_le_t, n_le_f, n_lt_t, n_lt_f, n_eq_t, n_eq_f, n_no, n_on, n_oo, n_olt, n_nlo, n_ole, Option.bind_some, Option.bind_none, Nat.zero_add, if_true, if_false, if_neg h0, if_neg hgr, if_neg hfi, hz]
      by_cases hrW : a + r < W
      · rw [if_pos hrW]
        have h0 := r3 (by omega)
        have h7 := H.hd (a := a + r) (by omega) h0
        have e := estep (zs mm (a + r)) (by rw [if_pos hrW])
        simp only [g_itn, e]
        exact FM_holes H k (a + r + zs mm (a + r)) g2 fu w2 h2 fi2 fo2 (by omega) hg2 (by omega) (by omega)
      · rw [if_neg hrW]
        have e := estep 0 (by rw [if_neg hrW])
        simp only [g_itn, e]
        obtain ⟨fu2, rfl⟩ : ∃ fu2, fu = fu2 + 1 := ⟨fu - 1, by omega⟩
        have e2 : FX7_free_L28 mm (w2, h2, nI g2, fi2, fo2, nI (a + r + 0)) = some (.inr (w2, h2, nI g2, fi2, fo2)) := by
          simp (disch := omega) only [FX7_free_L28, H.hw, ↓lm1, n_ofN, l0, l1, l2, l3, l4, l5, l6, l7, l8, l10, l20, l47, l80, l100, l127, l200, l400, l600, l800, l1000, l1200, l1206, l1210, l1222, n_add, n_clamp, n_gd, n_le_t, n_le_f, n_lt_t, n_lt_f, n_eq_t, n_eq_f, n_no, n_on, n_oo, n_olt, n_nlo, n_ole, Option.bind_some, Option.bind_none, Nat.zero_add, if_true, if_false]
        simp only [g_itn, e2]
    · have e2 : FX7_free_L28 mm (w, h, nI g, fi, fo, nI a) = some (.inr (w, h, nI g, fi, fo)) := by
        simp (disch := omega) only [FX7_free_L28, H.hw, ↓lm1, n_ofN, l0, l1, l2, l3, l4, l5, l6, l7, l8, l10, l20, l47, l80, l100, l127, l200, l400, l600, l800, l1000, l1200, l1206, l1210, l1222, n_add, n_clamp, n_gd, n_le_t, n_le_f, n_lt_t, n_lt_f, n_eq_t, n_eq_f, n_no, n_on, n_oo, n_olt, n_nlo, n_ole, Option.bind_some, Option.bind_none, Nat.zero_add, if_true, if_false]
      unfold hs
      rw [if_neg haW]
      simp only [g_itn, e2]
def pick5 (s : N5) (k : Nat) : Int32 := if k = 0 then s.1 else if k = 1 then s.2.1 else if k = 2 then s.2.2.1 else if k = 3 then s.2.2.2.1 else s.2.2.2.2
theorem rd5_pick {N : Nat → Int32} {k : Nat} (hk : k < 5) : N k = pick5 (rd5 N) k := by
  have : k = 0 ∨ k = 1 ∨ k = 2 ∨ k = 3 ∨ k = 4 := by omega
  rcases this with rfl | rfl | rfl | rfl | rfl <;> rfl
theorem FM_free {mm : Nat → Int32} {W k : Nat} (H : WF mm W) (hk : k < 5) : FX7_free mm (nI k) = some (pick5 (fives mm W) k) := by
  have hW := H.size
  have h1 : g_it (FX7_free_L28 mm) (nI 0, nI 0, nI 0, eO none, nI 0, nI 0) = some (fives mm W) := FM_holes H (W + 1) 0 0 g_fuel _ _ _ _ (by omega) (by omega) (by omega) (by unfold g_fuel; omega)
  obtain ⟨s1, s2, s3, s4, s5, hs⟩ : ∃ s1 s2 s3 s4 s5, fives mm W = (s1, s2, s3, s4, s5) := ⟨_, _, _, _, _, rfl⟩
  rw [hs] at h1 ⊢
  have : k = 0 ∨ k = 1 ∨ k = 2 ∨ k = 3 ∨ k = 4 := by omega
  rcases this with rfl | rfl | rfl | rfl | rfl <;> (simp (disch := omega) only [FX7_free, FX7_in, ↓lm1, n_ofN, l0, l1, l2, l3, l4, l5, l6, l7, l8, l10, l20, l47, l80, l100, l127, l200, l400, l600, l800, l1000, l1200, l1206, l1210, l1222, n_add, n_clamp, n_gd, n_le_t, n_le_f, n_lt_t, n_lt_f, n_eq_t, n_eq_f, n_no, n_on, n_oo, n_olt, n_nlo, n_ole, Option.bind_some, Option.bind_none, Nat.zero_add, if_true, if_false, h1]; rfl)
theorem sim_free : Sim_free Rel := by
  intro i words depth allocated collections freed owner fieldCount dataCount pinned age content roots weaks movedTo reports letters length_ latestRefusal s0 s1 zmm zsaved_ zisSaved ztext ztextLength zrefused numbers p1 hi h
  have hu := h.up
  obtain ⟨⟨W, H, ⟨⟨rfl, rfl, rfl, rfl, rfl⟩, hO, hA, hR, hK, hM⟩, hc⟩, hS0, hS1, hT, rfl⟩ := h
  have hW := H.size
  have hw := H.hw
  rcases n_cases p1 with hp | ⟨t, ht, rfl⟩
  · exact ⟨-1000002, numbers, by simp (disch := omega) only [FX6_free, ↓lm1, n_ofN, l0, l1, l2, l3, l4, l5, l6, l7, l8, l10, l20, l47, l80, l100, l127, l200, l400, l600, l800, l1000, l1200, l1206, l1210, l1222, n_add, n_clamp, n_gd, n_le_t, n_le_f, n_lt_t, n_lt_f, n_eq_t, n_eq_f, n_no, n_on, n_oo, n_olt, n_nlo, n_ole, Option.bind_some, Option.bind_none, Nat.zero_add, if_true, if_false, if_pos hp], by simp (disch := omega) only [FX7_free, FX7_in, ↓lm1, n_ofN, l0, l1, l2, l3, l4, l5, l6, l7, l8, l10, l20, l47, l80, l100, l127, l200, l400, l600, l800, l1000, l1200, l1206, l1210, l1222, n_add, n_clamp, n_gd, n_le_t, n_le_f, n_lt_t, n_lt_f, n_eq_t, n_eq_f, n_no, n_on, n_oo, n_olt, n_nlo, n_ole, Option.bind_some, Option.bind_none, Nat.zero_add, if_true, if_false, if_pos hp], hu⟩
  · by_cases hb : t < 5
    · obtain ⟨N, h1, h2⟩ := FX_measure H hO numbers
      refine ⟨pick5 (fives zmm W) t, N, ?_, FM_free H hb, hu⟩
      simp (disch := omega) only [FX6_free, ↓lm1, n_ofN, l0, l1, l2, l3, l4, l5, l6, l7, l8, l10, l20, l47, l80, l100, l127, l200, l400, l600, l800, l1000, l1200, l1206, l1210, l1222, n_add, n_clamp, n_gd, n_le_t, n_le_f, n_lt_t, n_lt_f, n_eq_t, n_eq_f, n_no, n_on, n_oo, n_olt, n_nlo, n_ole, Option.bind_some, Option.bind_none, Nat.zero_add, if_true, if_false, hw, h1]
      rw [rd5_pick (N := N) hb, h2]
    · exact ⟨-1000002, numbers, by simp (disch := omega) only [FX6_free, ↓lm1, n_ofN, l0, l1, l2, l3, l4, l5, l6, l7, l8, l10, l20, l47, l80, l100, l127, l200, l400, l600, l800, l1000, l1200, l1206, l1210, l1222, n_add, n_clamp, n_gd, n_le_t, n_le_f, n_lt_t, n_lt_f, n_eq_t, n_eq_f, n_no, n_on, n_oo, n_olt, n_nlo, n_ole, Option.bind_some, Option.bind_none, Nat.zero_add, if_true, if_false], by simp (disch := omega) only [FX7_free, FX7_in, ↓lm1, n_ofN, l0, l1, l2, l3, l4, l5, l6, l7, l8, l10, l20, l47, l80, l100, l127, l200, l400, l600, l800, l1000, l1200, l1206, l1210, l1222, n_add, n_clamp, n_gd, n_le_t, n_le_f, n_lt_t, n_lt_f, n_eq_t, n_eq_f, n_no, n_on, n_oo, n_olt, n_nlo, n_ole, Option.bind_some, Option.bind_none, Nat.zero_add, if_true, if_false], hu⟩
