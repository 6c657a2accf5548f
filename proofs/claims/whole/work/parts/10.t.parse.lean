/-! the script's letters -/
def lt (t : Nat → Int32) (n p : Nat) : Int32 := if p < n then t p else eO none
def sk (t : Nat → Int32) : Nat → Nat → Nat
  | 0, p => p
  | d + 1, p => if t p = 32 then sk t d (p + 1) else p
def skp (t : Nat → Int32) (n p : Nat) : Nat := sk t (n - p) p
theorem sk_le {t : Nat → Int32} : ∀ (d p : Nat), p ≤ sk t d p ∧ sk t d p ≤ p + d
  | 0, p => ⟨Nat.le_refl _, Nat.le_refl _⟩
  | d + 1, p => by
    have ih := sk_le (t := t) d (p + 1)
    unfold sk
    split <;> omega
theorem skp_le {t : Nat → Int32} {n p : Nat} (h : p ≤ n) : p ≤ skp t n p ∧ skp t n p ≤ n := by
  have := sk_le (t := t) (n - p) p
  unfold skp
  omega
theorem lt_end {t : Nat → Int32} {n : Nat} : lt t n n = eO none := if_neg (Nat.lt_irrefl n)
theorem lt_in {t : Nat → Int32} {n p : Nat} (h : p < n) : lt t n p = t p := if_pos h
theorem sk_stop {t : Nat → Int32} {n : Nat} : ∀ (d p : Nat), p + d = n → ¬ lt t n (sk t d p) = 32
  | 0, p, h => by
    have : p = n := h
    subst this
    show ¬ lt t p p = 32
    rw [lt_end]
    decide
  | d + 1, p, h => by
    unfold sk
    by_cases e : t p = 32
    · rw [if_pos e]
      exact sk_stop d (p + 1) (by omega)
    · rw [if_neg e, lt_in (by omega)]
      exact e
theorem skp_stop {t : Nat → Int32} {n p : Nat} (h : p ≤ n) : ¬ lt t n (skp t n p) = 32 := sk_stop (n - p) p (by omega)
theorem skp_self {t : Nat → Int32} {n p : Nat} (h : p ≤ n) (e : ¬ lt t n p = 32) : skp t n p = p := by
  unfold skp
  by_cases hp : p < n
  · obtain ⟨d, hd⟩ : ∃ d, n - p = d + 1 := ⟨n - p - 1, by omega⟩
    rw [lt_in hp] at e
    rw [hd]
    exact if_neg e
  · have : n - p = 0 := by omega
    rw [this]
    rfl
theorem skp_skp {t : Nat → Int32} {n p : Nat} (h : p ≤ n) : skp t n (skp t n p) = skp t n p := skp_self (skp_le h).2 (skp_stop h)
theorem FM_next {t : Nat → Int32} {n : Nat} (hn : n ≤ 80) {a : Nat} (ha : a ≤ n) : FX7_next_ (nI n) (nI a) t = some (lt t n a) := by
  by_cases h : a < n
  · simp (disch := omega) only [FX7_next_, ↓lm1, n_ofN, l0, l1, l2, l3, l4, l5, l6, l7, l8, l10, l20, l47, l80, l100, l127, l200, l400, l600, l800, l1000, l1200, l1206, l1210, l1222, n_add, n_clamp, n_gd, n_le_t, n_le_f, n_lt_t, n_lt_f, n_eq_t, n_eq_f, n_no, n_on, n_oo, n_olt, n_nlo, n_ole, Option.bind_some, Option.bind_none, Nat.zero_add, if_true, if_false, lt_in h]
  · have : a = n := by omega
    subst this
    simp (disch := omega) only [FX7_next_, ↓lm1, n_ofN, l0, l1, l2, l3, l4, l5, l6, l7, l8, l10, l20, l47, l80, l100, l127, l200, l400, l600, l800, l1000, l1200, l1206, l1210, l1222, n_add, n_clamp, n_gd, n_le_t, n_le_f, n_lt_t, n_lt_f, n_eq_t, n_eq_f, n_no, n_on, n_oo, n_olt, n_nlo, n_ole, Option.bind_some, Option.bind_none, Nat.zero_add, if_true, if_false, lt_end]
theorem FM_blanksL {t : Nat → Int32} {n : Nat} (hn : n ≤ 80) : ∀ (d p fu : Nat), p + d = n → d < fu → g_itn (FX7_blanks_L0 (nI n) t) fu (nI p) = some (nI (sk t d p))
  | 0, p, fu + 1, h, _ => by
    have : p = n := h
    subst this
    have q : ¬ eO none = 32 := by decide
    have e : FX7_blanks_L0 (nI p) t (nI p) = some (.inr (nI p)) := by
      simp (disch := omega) only [FX7_blanks_L0, FM_next hn (Nat.le_refl p), lt_end, ↓lm1, n_ofN, l0, l1, l2, l3, l4, l5, l6, l7, l8, l10, l20, l47, l80, l100, l127, l200, l400, l600, l800, l1000, l1200, l1206, l1210, l1222, n_add, n_clamp, n_gd, n_le_t, n_le_f, n_lt_t, n_lt_f, n_eq_t, n_eq_f, n_no, n_on, n_oo, n_olt, n_nlo, n_ole, Option.bind_some, Option.bind_none, Nat.zero_add, if_true, if_false, if_neg q]
    simp only [g_itn, e, sk]
  | d + 1, p, fu + 1, h, hf => by
    unfold sk
    by_cases q : t p = 32
    · have e : FX7_blanks_L0 (nI n) t (nI p) = some (.inl (nI (p + 1))) := by
        simp (disch := omega) only [FX7_blanks_L0, FM_next hn (t := t) (a := p) (by omega), lt_in (t := t) (n := n) (p := p) (by omega), ↓lm1, n_ofN, l0, l1, l2, l3, l4, l5, l6, l7, l8, l10, l20, l47, l80, l100, l127, l200, l400, l600, l800, l1000, l1200, l1206, l1210, l1222, n_add, n_clamp, n_gd, n_le_t, n_le_f, n_lt_t, n_lt_f, n_eq_t, n_eq_f, n_no, n_on, n_oo, n_olt, n_nlo, n_ole, Option.bind_some, Option.bind_none, Nat.zero_add, if_true, if_false, if_pos q]
      rw [if_pos q]
      simp only [g_itn, e]
      exact FM_blanksL hn d (p + 1) fu (by omega) (by omega)
    · have e : FX7_blanks_L0 (nI n) t (nI p) = some (.inr (nI p)) := by
        simp (disch := omega) only [FX7_blanks_L0, FM_next hn (t := t) (a := p) (by omega), lt_in (t := t) (n := n) (p := p) (by omega), ↓lm1, n_ofN, l0, l1, l2, l3, l4, l5, l6, l7, l8, l10, l20, l47, l80, l100, l127, l200, l400, l600, l800, l1000, l1200, l1206, l1210, l1222, n_add, n_clamp, n_gd, n_le_t, n_le_f, n_lt_t, n_lt_f, n_eq_t, n_eq_f, n_no, n_on, n_oo, n_olt, n_nlo, n_ole, Option.bind_some, Option.bind_none, Nat.zero_add, if_true, if_false, if_neg q]
      rw [if_neg q]
      simp only [g_itn, e]
theorem FM_blanks {t : Nat → Int32} {n : Nat} (hn : n ≤ 80) {a : Nat} (ha : a ≤ n) : FX7_blanks (nI n) (nI a) t = some (nI (skp t n a)) := by
  have h : g_it (FX7_blanks_L0 (nI n) t) (nI a) = some (nI (skp t n a)) := FM_blanksL hn (n - a) a g_fuel (by omega) (by unfold g_fuel; omega)
  simp (disch := omega) only [FX7_blanks, h, ↓lm1, n_ofN, l0, l1, l2, l3, l4, l5, l6, l7, l8, l10, l20, l47, l80, l100, l127, l200, l400, l600, l800, l1000, l1200, l1206, l1210, l1222, n_add, n_clamp, n_gd, n_le_t, n_le_f, n_lt_t, n_lt_f, n_eq_t, n_eq_f, n_no, n_on, n_oo, n_olt, n_nlo, n_ole, Option.bind_some, Option.bind_none, Nat.zero_add, if_true, if_false]
theorem FX_letter {t letters : Nat → Int32} {n : Nat} (hn : n ≤ 80) (hl : ∀ j, j < n → letters j = t j) {a : Nat} (ha : a ≤ n) : FX5_letter (nI n) (nI a) letters = some (lt t n a) := by
  by_cases h : a < n
  · simp (disch := omega) only [FX5_letter, ↓lm1, n_ofN, l0, l1, l2, l3, l4, l5, l6, l7, l8, l10, l20, l47, l80, l100, l127, l200, l400, l600, l800, l1000, l1200, l1206, l1210, l1222, n_add, n_clamp, n_gd, n_le_t, n_le_f, n_lt_t, n_lt_f, n_eq_t, n_eq_f, n_no, n_on, n_oo, n_olt, n_nlo, n_ole, Option.bind_some, Option.bind_none, Nat.zero_add, if_true, if_false, lt_in h, hl a h]
  · have : a = n := by omega
    subst this
    simp (disch := omega) only [FX5_letter, ↓lm1, n_ofN, l0, l1, l2, l3, l4, l5, l6, l7, l8, l10, l20, l47, l80, l100, l127, l200, l400, l600, l800, l1000, l1200, l1206, l1210, l1222, n_add, n_clamp, n_gd, n_le_t, n_le_f, n_lt_t, n_lt_f, n_eq_t, n_eq_f, n_no, n_on, n_oo, n_olt, n_nlo, n_ole, Option.bind_some, Option.bind_none, Nat.zero_add, if_true, if_false, lt_end]
theorem FX_blanksL {t letters : Nat → Int32} {n : Nat} (hn : n ≤ 80) (hl : ∀ j, j < n → letters j = t j) : ∀ (d p fu : Nat), p + d = n → d < fu → g_itn (FX5_skipBlanks_L5 (nI n) letters) fu (nI p, nI p) = some (nI (sk t d p))
  | 0, p, fu + 1, h, _ => by
    have : p = n := h
    subst this
    have e : FX5_skipBlanks_L5 (nI p) letters (nI p, nI p) = some (.inr (nI p)) := by
      simp (disch := omega) only [FX5_skipBlanks_L5, ↓lm1, n_ofN, l0, l1, l2, l3, l4, l5, l6, l7, l8, l10, l20, l47, l80, l100, l127, l200, l400, l600, l800, l1000, l1200, l1206, l1210, l1222, n_add, n_clamp, n_gd, n_le_t, n_le_f, n_lt_t, n_lt_f, n_eq_t, n_eq_f, n_no, n_on, n_oo, n_olt, n_nlo, n_ole, Option.bind_some, Option.bind_none, Nat.zero_add, if_true, if_false]
    simp only [g_itn, e, sk]
  | d + 1, p, fu + 1, h, hf => by
    unfold sk
    have hlp := hl p (by omega)
    by_cases q : t p = 32
    · have e : FX5_skipBlanks_L5 (nI n) letters (nI p, nI p) = some (.inl (nI (p + 1), nI (p + 1))) := by
        simp (disch := omega) only [FX5_skipBlanks_L5, hlp, ↓lm1, n_ofN, l0, l1, l2, l3, l4, l5, l6, l7, l8, l10, l20, l47, l80, l100, l127, l200, l400, l600, l800, l1000, l1200, l1206, l1210, l1222, n_add, n_clamp, n_gd, n_le_t, n_le_f, n_lt_t, n_lt_f, n_eq_t, n_eq_f, n_no, n_on, n_oo, n_olt, n_nlo, n_ole, Option.bind_some, Option.bind_none, Nat.zero_add, if_true, if_false, if_pos q]
      rw [if_pos q]
      simp only [g_itn, e]
      exact FX_blanksL hn hl d (p + 1) fu (by omega) (by omega)
    · have e : FX5_skipBlanks_L5 (nI n) letters (nI p, nI p) = some (.inr (nI p)) := by
        simp (disch := omega) only [FX5_skipBlanks_L5, hlp, ↓lm1, n_ofN, l0, l1, l2, l3, l4, l5, l6, l7, l8, l10, l20, l47, l80, l100, l127, l200, l400, l600, l800, l1000, l1200, l1206, l1210, l1222, n_add, n_clamp, n_gd, n_le_t, n_le_f, n_lt_t, n_lt_f, n_eq_t, n_eq_f, n_no, n_on, n_oo, n_olt, n_nlo, n_ole, Option.bind_some, Option.bind_none, Nat.zero_add, if_true, if_false, if_neg q]
      rw [if_neg q]
      simp only [g_itn, e]
theorem FX_blanks {t letters : Nat → Int32} {n : Nat} (hn : n ≤ 80) (hl : ∀ j, j < n → letters j = t j) {a : Nat} (ha : a ≤ n) : FX5_skipBlanks (nI n) (nI a) letters = some (nI (skp t n a)) := by
  have h : g_it (FX5_skipBlanks_L5 (nI n) letters) (nI a, nI a) = some (nI (skp t n a)) := FX_blanksL hn hl (n - a) a g_fuel (by omega) (by unfold g_fuel; omega)
  simp (disch := omega) only [FX5_skipBlanks, h, ↓lm1, n_ofN, l0, l1, l2, l3, l4, l5, l6, l7, l8, l10, l20, l47, l80, l100, l127, l200, l400, l600, l800, l1000, l1200, l1206, l1210, l1222, n_add, n_clamp, n_gd, n_le_t, n_le_f, n_lt_t, n_lt_f, n_eq_t, n_eq_f, n_no, n_on, n_oo, n_olt, n_nlo, n_ole, Option.bind_some, Option.bind_none, Nat.zero_add, if_true, if_false]
def dg (x : Int32) : Bool := decide (¬ x < 48) && decide (¬ (57 : Int32) < x)
theorem FX_isDigit (x : Int32) : FX5_isDigit x = some (nI (if dg x then 1 else 0)) := by
  by_cases h1 : x < 48
  · simp only [FX5_isDigit, dg, if_pos h1, h1, not_true, decide_false, Bool.false_and]; rfl
  · by_cases h2 : (57 : Int32) < x
    · simp only [FX5_isDigit, dg, if_neg h1, if_pos h2, h1, h2, not_true, not_false_eq_true, decide_false, decide_true, Bool.and_false]; rfl
    · simp only [FX5_isDigit, dg, if_neg h1, if_neg h2, h1, h2, not_false_eq_true, decide_true, Bool.and_self]; rfl
theorem FM_dig (x : Int32) : FX7_in x 48 57 = some (nI (if dg x then 1 else 0)) := FX_isDigit x
theorem FM_isDigit {t : Nat → Int32} {n a : Nat} (hn : n ≤ 80) (ha : a ≤ n) : FX7_isDigit (nI n) (nI a) t = some (nI (if dg (lt t n a) then 1 else 0)) := by
  simp (disch := omega) only [FX7_isDigit, FM_next hn ha, Option.bind_some, FM_dig]
theorem dg_lt {t : Nat → Int32} {n p : Nat} (h : dg (lt t n p) = true) : p < n := by
  rcases Nat.lt_or_ge p n with q | q
  · exact q
  · unfold lt at h
    rw [if_neg (by omega)] at h
    exact absurd h (by decide)
def rf (f : Int32) (q : Nat) : Int32 := if f = eO none then nI q else f
theorem rf_ne {f : Int32} {q : Nat} (hq : q ≤ 1000) : ¬ rf f q = eO none := by
  unfold rf
  by_cases h : f = eO none
  · rw [if_pos h]
    exact n_ne_m1 (by omega)
  · rw [if_neg h]
    exact h
theorem rf_of {f : Int32} {q : Nat} (h : ¬ f = eO none) : rf f q = f := if_neg h
theorem FX_refuse (f : Int32) (q : Nat) : FX5_refuse f (nI q) = some (rf f q) := by
  unfold FX5_refuse rf
  by_cases h : f = eO none
  · rw [if_pos h]
    exact if_pos h
  · rw [if_neg h]
    exact if_neg h
theorem FM_fails (f : Int32) (q : Nat) : FX7_fails (nI q) f = some (rf f q) := by
  unfold FX7_fails rf
  by_cases h : f = eO none
  · rw [if_pos h, if_pos (show f = (-1 : Int32) from h)]
    rfl
  · rw [if_neg h, if_neg (show ¬ f = (-1 : Int32) from h)]
    rfl
def nr (t : Nat → Int32) (n : Nat) : Nat → Int32 → Nat → Int32 × Nat
  | 0, v, p => (v, p)
  | k + 1, v, p => if dg (lt t n p) then nr t n k (nI 10 * v + lt t n p - 48) (p + 1) else (v, p)
theorem nr_le {t : Nat → Int32} {n : Nat} : ∀ (k : Nat) (v : Int32) (p : Nat), p ≤ n → p ≤ (nr t n k v p).2 ∧ (nr t n k v p).2 ≤ n
  | 0, v, p, h => ⟨Nat.le_refl _, h⟩
  | k + 1, v, p, h => by
    unfold nr
    by_cases e : dg (lt t n p) = true
    · have := dg_lt e
      have ih := nr_le (t := t) k (nI 10 * v + lt t n p - 48) (p + 1) this
      rw [if_pos e]
      omega
    · rw [if_neg e]
      exact ⟨Nat.le_refl _, h⟩
theorem FM_numL {t : Nat → Int32} {n : Nat} (hn : n ≤ 80) {a0 : Nat} : ∀ (k : Nat) (v : Int32) (p fu : Nat), p ≤ n → a0 + 3 = p + k → k ≤ 3 → k < fu → g_itn (FX7_number_L7 (nI n) (nI a0) (eO none) t) fu (v, nI p) = some ((nr t n k v p).1, nI (nr t n k v p).2)
  | 0, v, p, fu + 1, hp, ha, hk, _ => by
    have e : FX7_number_L7 (nI n) (nI a0) (eO none) t (v, nI p) = some (.inr (v, nI p)) := by
      cases q : dg (lt t n p) with
      | true => simp (disch := omega) only [FX7_number_L7, FM_isDigit hn hp, q, ↓lm1, n_ofN, l0, l1, l2, l3, l4, l5, l6, l7, l8, l10, l20, l47, l80, l100, l127, l200, l400, l600, l800, l1000, l1200, l1206, l1210, l1222, n_add, n_clamp, n_gd, n_le_t, n_le_f, n_lt_t, n_lt_f, n_eq_t, n_eq_f, n_no, n_on, n_oo, n_olt, n_nlo, n_ole, Option.bind_some, Option.bind_none, Nat.zero_add, if_true, if_false]
      | false => simp (disch := omega) only [FX7_number_L7, FM_isDigit hn hp, q, Bool.false_eq_true, ↓lm1, n_ofN, l0, l1, l2, l3, l4, l5, l6, l7, l8, l10, l20, l47, l80, l100, l127, l200, l400, l600, l800, l1000, l1200, l1206, l1210, l1222, n_add, n_clamp, n_gd, n_le_t, n_le_f, n_lt_t, n_lt_f, n_eq_t, n_eq_f, n_no, n_on, n_oo, n_olt, n_nlo, n_ole, Option.bind_some, Option.bind_none, Nat.zero_add, if_true, if_false]
    simp only [g_itn, e, nr]
  | k + 1, v, p, fu + 1, hp, ha, hk, hf => by
    cases q : dg (lt t n p) with
    | true =>
      have := dg_lt q
      have e : FX7_number_L7 (nI n) (nI a0) (eO none) t (v, nI p) = some (.inl (nI 10 * v + lt t n p - 48, nI (p + 1))) := by
        simp (disch := omega) only [FX7_number_L7, FM_isDigit hn hp, FM_next hn hp, q, ↓lm1, n_ofN, l0, l1, l2, l3, l4, l5, l6, l7, l8, l10, l20, l47, l80, l100, l127, l200, l400, l600, l800, l1000, l1200, l1206, l1210, l1222, n_add, n_clamp, n_gd, n_le_t, n_le_f, n_lt_t, n_lt_f, n_eq_t, n_eq_f, n_no, n_on, n_oo, n_olt, n_nlo, n_ole, Option.bind_some, Option.bind_none, Nat.zero_add, if_true, if_false]
      simp only [g_itn, e, nr, q, if_true]
      exact FM_numL hn k _ (p + 1) fu this (by omega) (by omega) (by omega)
    | false =>
      have e : FX7_number_L7 (nI n) (nI a0) (eO none) t (v, nI p) = some (.inr (v, nI p)) := by
        simp (disch := omega) only [FX7_number_L7, FM_isDigit hn hp, q, Bool.false_eq_true, ↓lm1, n_ofN, l0, l1, l2, l3, l4, l5, l6, l7, l8, l10, l20, l47, l80, l100, l127, l200, l400, l600, l800, l1000, l1200, l1206, l1210, l1222, n_add, n_clamp, n_gd, n_le_t, n_le_f, n_lt_t, n_lt_f, n_eq_t, n_eq_f, n_no, n_on, n_oo, n_olt, n_nlo, n_ole, Option.bind_some, Option.bind_none, Nat.zero_add, if_true, if_false]
      simp only [g_itn, e, nr, q, Bool.false_eq_true, if_false]
theorem FX_numL {t letters : Nat → Int32} {n : Nat} (hn : n ≤ 80) (hl : ∀ j, j < n → letters j = t j) : ∀ (k : Nat) (v : Int32) (p fu : Nat), p ≤ n → k ≤ 3 → k < fu → g_itn (FX5_readNumber_L7 (nI n) letters) fu (v, nI (3 - k), nI p) = some ((nr t n k v p).1, nI (nr t n k v p).2)
  | 0, v, p, fu + 1, hp, hk, _ => by
    have e : FX5_readNumber_L7 (nI n) letters (v, nI (3 - 0), nI p) = some (.inr (v, nI p)) := by
      simp (disch := omega) only [FX5_readNumber_L7, ↓lm1, n_ofN, l0, l1, l2, l3, l4, l5, l6, l7, l8, l10, l20, l47, l80, l100, l127, l200, l400, l600, l800, l1000, l1200, l1206, l1210, l1222, n_add, n_clamp, n_gd, n_le_t, n_le_f, n_lt_t, n_lt_f, n_eq_t, n_eq_f, n_no, n_on, n_oo, n_olt, n_nlo, n_ole, Option.bind_some, Option.bind_none, Nat.zero_add, if_true, if_false]
    simp only [g_itn, e, nr]
  | k + 1, v, p, fu + 1, hp, hk, hf => by
    cases q : dg (lt t n p) with
    | true =>
      have := dg_lt q
      have e : FX5_readNumber_L7 (nI n) letters (v, nI (3 - (k + 1)), nI p) = some (.inl (nI 10 * v + lt t n p - 48, nI (3 - k), nI (p + 1))) := by
        simp (disch := omega) only [FX5_readNumber_L7, FX_letter hn hl hp, FX_isDigit, q, ↓lm1, n_ofN, l0, l1, l2, l3, l4, l5, l6, l7, l8, l10, l20, l47, l80, l100, l127, l200, l400, l600, l800, l1000, l1200, l1206, l1210, l1222, n_add, n_clamp, n_gd, n_le_t, n_le_f, n_lt_t, n_lt_f, n_eq_t, n_eq_f, n_no, n_on, n_oo, n_olt, n_nlo, n_ole, Option.bind_some, Option.bind_none, Nat.zero_add, if_true, if_false, show 3 - (k + 1) + 1 = 3 - k by omega]
      simp only [g_itn, e, nr, q, if_true]
      exact FX_numL hn hl k _ (p + 1) fu this (by omega) (by omega)
    | false =>
      have e : FX5_readNumber_L7 (nI n) letters (v, nI (3 - (k + 1)), nI p) = some (.inr (v, nI p)) := by
        simp (disch := omega) only [FX5_readNumber_L7, FX_letter hn hl hp, FX_isDigit, q, Bool.false_eq_true, ↓lm1, n_ofN, l0, l1, l2, l3, l4, l5, l6, l7, l8, l10, l20, l47, l80, l100, l127, l200, l400, l600, l800, l1000, l1200, l1206, l1210, l1222, n_add, n_clamp, n_gd, n_le_t, n_le_f, n_lt_t, n_lt_f, n_eq_t, n_eq_f, n_no, n_on, n_oo, n_olt, n_nlo, n_ole, Option.bind_some, Option.bind_none, Nat.zero_add, if_true, if_false]
      simp only [g_itn, e, nr, q, Bool.false_eq_true, if_false]
/-- the two readers, side by side -/
def PS (t : Nat → Int32) (n : Nat) (f : Int32) (p a : Nat) : Prop := p ≤ n ∧ a ≤ n ∧ (f = eO none → a = skp t n p)
def Tok (t : Nat → Int32) (n : Nat) (X M : Option (Int32 × Int32 × Int32)) (f : Int32) (p : Nat) : Prop := ∃ v v' f2 p2 a2, X = some (v, f2, nI p2) ∧ M = some (v', nI a2, f2) ∧ PS t n f2 p2 a2 ∧ p ≤ p2 ∧ (f2 = eO none → v' = v ∧ f = eO none)
theorem FX_digit {t letters : Nat → Int32} {n : Nat} (hn : n ≤ 80) (hl : ∀ j, j < n → letters j = t j) {f : Int32} {p a : Nat} (P : PS t n f p a) : FX5_readDigit (nI n) f (nI p) letters = some (if dg (lt t n (skp t n p)) then (lt t n (skp t n p) - 48, f, nI (skp t n p + 1)) else (nI 0, rf f (skp t n p), nI (skp t n p))) := by
  obtain ⟨hp, ha, hs⟩ := P
  have hq := skp_le (t := t) hp
  cases e : dg (lt t n (skp t n p)) with
  | true =>
    have := dg_lt e
    simp (disch := omega) only [FX5_readDigit, FX_blanks hn hl hp, FX_letter hn hl hq.2, FX_isDigit, e, ↓lm1, n_ofN, l0, l1, l2, l3, l4, l5, l6, l7, l8, l10, l20, l47, l80, l100, l127, l200, l400, l600, l800, l1000, l1200, l1206, l1210, l1222, n_add, n_clamp, n_gd, n_le_t, n_le_f, n_lt_t, n_lt_f, n_eq_t, n_eq_f, n_no, n_on, n_oo, n_olt, n_nlo, n_ole, Option.bind_some, Option.bind_none, Nat.zero_add, if_true, if_false]
  | false => simp (disch := omega) only [FX5_readDigit, FX_blanks hn hl hp, FX_letter hn hl hq.2, FX_isDigit, FX_refuse, e, Bool.false_eq_true, ↓lm1, n_ofN, l0, l1, l2, l3, l4, l5, l6, l7, l8, l10, l20, l47, l80, l100, l127, l200, l400, l600, l800, l1000, l1200, l1206, l1210, l1222, n_add, n_clamp, n_gd, n_le_t, n_le_f, n_lt_t, n_lt_f, n_eq_t, n_eq_f, n_no, n_on, n_oo, n_olt, n_nlo, n_ole, Option.bind_some, Option.bind_none, Nat.zero_add, if_true, if_false]
theorem tok_digit {t letters : Nat → Int32} {n : Nat} (hn : n ≤ 80) (hl : ∀ j, j < n → letters j = t j) {f : Int32} {p a : Nat} (P : PS t n f p a) : Tok t n (FX5_readDigit (nI n) f (nI p) letters) (FX7_digit (nI n) (nI a) f t) f p := by
  have hX := FX_digit hn hl P
  obtain ⟨hp, ha, hs⟩ := P
  have hq := skp_le (t := t) hp
  rw [hX]
  by_cases hf : f = eO none
  · have hs := hs hf
    subst hs; subst hf
    cases e : dg (lt t n (skp t n p)) with
    | true =>
      have hlt := dg_lt e
      refine ⟨lt t n (skp t n p) - 48, lt t n (skp t n p) - 48, eO none, skp t n p + 1, skp t n (skp t n p + 1), rfl, ?_, ⟨hlt, (skp_le hlt).2, fun _ => rfl⟩, by omega, fun _ => ⟨rfl, rfl⟩⟩
      simp (disch := omega) only [FX7_digit, FM_next hn ha, FM_isDigit hn ha, FM_blanks hn (t := t) (a := skp t n p + 1) hlt, e, ↓lm1, n_ofN, l0, l1, l2, l3, l4, l5, l6, l7, l8, l10, l20, l47, l80, l100, l127, l200, l400, l600, l800, l1000, l1200, l1206, l1210, l1222, n_add, n_clamp, n_gd, n_le_t, n_le_f, n_lt_t, n_lt_f, n_eq_t, n_eq_f, n_no, n_on, n_oo, n_olt, n_nlo, n_ole, Option.bind_some, Option.bind_none, Nat.zero_add, if_true, if_false]
    | false =>
      refine ⟨nI 0, nI 0, rf (eO none) (skp t n p), skp t n p, skp t n p, rfl, ?_, ⟨hq.2, ha, fun z => absurd z (rf_ne (by omega))⟩, by omega, fun z => absurd z (rf_ne (by omega))⟩
      simp (disch := omega) only [FX7_digit, FM_next hn ha, FM_isDigit hn ha, FM_fails, e, Bool.false_eq_true, ↓lm1, n_ofN, l0, l1, l2, l3, l4, l5, l6, l7, l8, l10, l20, l47, l80, l100, l127, l200, l400, l600, l800, l1000, l1200, l1206, l1210, l1222, n_add, n_clamp, n_gd, n_le_t, n_le_f, n_lt_t, n_lt_f, n_eq_t, n_eq_f, n_no, n_on, n_oo, n_olt, n_nlo, n_ole, Option.bind_some, Option.bind_none, Nat.zero_add, if_true, if_false]
  · have hM : FX7_digit (nI n) (nI a) f t = some (nI 0, nI a, f) := by
      simp (disch := omega) only [FX7_digit, FM_next hn ha, FM_fails, rf_of hf, if_neg hf, ↓lm1, n_ofN, l0, l1, l2, l3, l4, l5, l6, l7, l8, l10, l20, l47, l80, l100, l127, l200, l400, l600, l800, l1000, l1200, l1206, l1210, l1222, n_add, n_clamp, n_gd, n_le_t, n_le_f, n_lt_t, n_lt_f, n_eq_t, n_eq_f, n_no, n_on, n_oo, n_olt, n_nlo, n_ole, Option.bind_some, Option.bind_none, Nat.zero_add, if_true, if_false]
    cases e : dg (lt t n (skp t n p)) with
    | true => exact ⟨lt t n (skp t n p) - 48, nI 0, f, skp t n p + 1, a, rfl, hM, ⟨dg_lt e, ha, fun z => absurd z hf⟩, by omega, fun z => absurd z hf⟩
    | false => exact ⟨nI 0, nI 0, f, skp t n p, a, by rw [rf_of hf]; rfl, hM, ⟨hq.2, ha, fun z => absurd z hf⟩, by omega, fun z => absurd z hf⟩
