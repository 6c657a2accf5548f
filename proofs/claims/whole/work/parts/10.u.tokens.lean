theorem ten0 (x : Int32) : nI 10 * nI 0 + x - 48 = x - 48 := by
  rw [show nI 10 * nI 0 = (0 : Int32) by decide, Int32.zero_add]
def nf (t : Nat → Int32) (n : Nat) (f : Int32) (q : Nat) : Int32 := if dg (lt t n q) then (if dg (lt t n (nr t n 3 (nI 0) q).2) then rf f (nr t n 3 (nI 0) q).2 else f) else rf f q
theorem FX_number {t letters : Nat → Int32} {n : Nat} (hn : n ≤ 80) (hl : ∀ j, j < n → letters j = t j) {f : Int32} {p a : Nat} (P : PS t n f p a) : FX5_readNumber (nI n) f (nI p) letters = some ((nr t n 3 (nI 0) (skp t n p)).1, nf t n f (skp t n p), nI (nr t n 3 (nI 0) (skp t n p)).2) := by
  have hX := FX_digit hn hl P
  obtain ⟨hp, ha, hs⟩ := P
  have hq := skp_le (t := t) hp
  obtain ⟨q, hqq⟩ : ∃ q, q = skp t n p := ⟨_, rfl⟩
  rw [← hqq] at hX hq ⊢
  have hE := nr_le (t := t) 3 (nI 0) q hq.2
  cases e : dg (lt t n q) with
  | true =>
    have hlt := dg_lt e
    have e3 : nr t n 3 (nI 0) q = nr t n 2 (lt t n q - 48) (q + 1) := by
      show (if dg (lt t n q) then nr t n 2 (nI 10 * nI 0 + lt t n q - 48) (q + 1) else _) = _
      rw [e, if_pos rfl, ten0]
    have k : g_it (FX5_readNumber_L7 (nI n) letters) (lt t n q - 48, nI 1, nI (q + 1)) = some ((nr t n 2 (lt t n q - 48) (q + 1)).1, nI (nr t n 2 (lt t n q - 48) (q + 1)).2) := FX_numL hn hl 2 _ (q + 1) g_fuel hlt (by omega) (by unfold g_fuel; omega)
    rw [e, if_pos rfl] at hX
    unfold nf
    rw [e, if_pos rfl]
    rw [e3] at hE ⊢
    cases e4 : dg (lt t n (nr t n 2 (lt t n q - 48) (q + 1)).2) with
    | true => simp (disch := omega) only [FX5_readNumber, hX, k, FX_letter hn hl hE.2, FX_isDigit, FX_refuse, e4, ↓lm1, n_ofN, l0, l1, l2, l3, l4, l5, l6, l7, l8, l10, l20, l47, l80, l100, l127, l200, l400, l600, l800, l1000, l1200, l1206, l1210, l1222, n_add, n_clamp, n_gd, n_le_t, n_le_f, n_lt_t, n_lt_f, n_eq_t, n_eq_f, n_no, n_on, n_oo, n_olt, n_nlo, n_ole, Option.bind_some, Option.bind_none, Nat.zero_add, if_true, if_false]
    | false => simp (disch := omega) only [FX5_readNumber, hX, k, FX_letter hn hl hE.2, FX_isDigit, FX_refuse, e4, Bool.false_eq_true, ↓lm1, n_ofN, l0, l1, l2, l3, l4, l5, l6, l7, l8, l10, l20, l47, l80, l100, l127, l200, l400, l600, l800, l1000, l1200, l1206, l1210, l1222, n_add, n_clamp, n_gd, n_le_t, n_le_f, n_lt_t, n_lt_f, n_eq_t, n_eq_f, n_no, n_on, n_oo, n_olt, n_nlo, n_ole, Option.bind_some, Option.bind_none, Nat.zero_add, if_true, if_false]
  | false =>
    have e3 : nr t n 3 (nI 0) q = (nI 0, q) := by
      show (if dg (lt t n q) then _ else (nI 0, q)) = _
      rw [e]
      rfl
    have e2 : nr t n 2 (nI 0) q = (nI 0, q) := by
      show (if dg (lt t n q) then _ else (nI 0, q)) = _
      rw [e]
      rfl
    have k : g_it (FX5_readNumber_L7 (nI n) letters) (nI 0, nI 1, nI q) = some ((nr t n 2 (nI 0) q).1, nI (nr t n 2 (nI 0) q).2) := FX_numL hn hl 2 _ q g_fuel hq.2 (by omega) (by unfold g_fuel; omega)
    rw [e2] at k
    rw [e, if_neg (by decide)] at hX
    unfold nf
    rw [e, if_neg (by decide), e3]
    simp (disch := omega) only [FX5_readNumber, hX, k, FX_letter hn hl hq.2, FX_isDigit, FX_refuse, e, Bool.false_eq_true, ↓lm1, n_ofN, l0, l1, l2, l3, l4, l5, l6, l7, l8, l10, l20, l47, l80, l100, l127, l200, l400, l600, l800, l1000, l1200, l1206, l1210, l1222, n_add, n_clamp, n_gd, n_le_t, n_le_f, n_lt_t, n_lt_f, n_eq_t, n_eq_f, n_no, n_on, n_oo, n_olt, n_nlo, n_ole, Option.bind_some, Option.bind_none, Nat.zero_add, if_true, if_false]
theorem nf_ne {t : Nat → Int32} {n q : Nat} {f : Int32} (hn : n ≤ 80) (hq : q ≤ n) : nf t n f q = eO none → f = eO none := by
  have hE := nr_le (t := t) 3 (nI 0) q hq
  unfold nf
  intro z
  split at z
  · split at z
    · exact absurd z (rf_ne (by omega))
    · exact z
  · exact absurd z (rf_ne (by omega))
theorem nf_of {t : Nat → Int32} {n q : Nat} {f : Int32} (h : ¬ f = eO none) : nf t n f q = f := by
  unfold nf
  rw [rf_of h, rf_of h]
  split
  · split <;> rfl
  · rfl
theorem FM_number {t : Nat → Int32} {n a : Nat} (hn : n ≤ 80) (ha : a ≤ n) : FX7_number (nI n) (nI a) (eO none) t = some ((nr t n 3 (nI 0) a).1, nI (skp t n (nr t n 3 (nI 0) a).2), nf t n (eO none) a) := by
  have hE := nr_le (t := t) 3 (nI 0) a ha
  have k : g_it (FX7_number_L7 (nI n) (nI a) (eO none) t) (nI 0, nI a) = some ((nr t n 3 (nI 0) a).1, nI (nr t n 3 (nI 0) a).2) := FM_numL hn 3 _ a g_fuel ha (by omega) (by omega) (by unfold g_fuel; omega)
  cases e : dg (lt t n a) with
  | true =>
    have hlt := dg_lt e
    have e3 : nr t n 3 (nI 0) a = nr t n 2 (nI 10 * nI 0 + lt t n a - 48) (a + 1) := by
      show (if dg (lt t n a) then nr t n 2 (nI 10 * nI 0 + lt t n a - 48) (a + 1) else _) = _
      rw [e, if_pos rfl]
    have hE2 := nr_le (t := t) 2 (nI 10 * nI 0 + lt t n a - 48) (a + 1) hlt
    rw [← e3] at hE2
    unfold nf
    rw [e, if_pos rfl]
    cases e4 : dg (lt t n (nr t n 3 (nI 0) a).2) with
    | true => simp (disch := omega) only [FX7_number, k, FM_isDigit hn hE.2, FM_fails, FM_blanks hn hE.2, e4, ↓lm1, n_ofN, l0, l1, l2, l3, l4, l5, l6, l7, l8, l10, l20, l47, l80, l100, l127, l200, l400, l600, l800, l1000, l1200, l1206, l1210, l1222, n_add, n_clamp, n_gd, n_le_t, n_le_f, n_lt_t, n_lt_f, n_eq_t, n_eq_f, n_no, n_on, n_oo, n_olt, n_nlo, n_ole, Option.bind_some, Option.bind_none, Nat.zero_add, if_true, if_false]
    | false => simp (disch := omega) only [FX7_number, k, FM_isDigit hn hE.2, FM_fails, FM_blanks hn hE.2, e4, Bool.false_eq_true, ↓lm1, n_ofN, l0, l1, l2, l3, l4, l5, l6, l7, l8, l10, l20, l47, l80, l100, l127, l200, l400, l600, l800, l1000, l1200, l1206, l1210, l1222, n_add, n_clamp, n_gd, n_le_t, n_le_f, n_lt_t, n_lt_f, n_eq_t, n_eq_f, n_no, n_on, n_oo, n_olt, n_nlo, n_ole, Option.bind_some, Option.bind_none, Nat.zero_add, if_true, if_false]
  | false =>
    have e3 : nr t n 3 (nI 0) a = (nI 0, a) := by
      show (if dg (lt t n a) then _ else (nI 0, a)) = _
      rw [e]
      rfl
    rw [e3] at k
    unfold nf
    rw [e, if_neg (by decide), e3]
    simp (disch := omega) only [FX7_number, k, FM_fails, FM_blanks hn ha, ↓lm1, n_ofN, l0, l1, l2, l3, l4, l5, l6, l7, l8, l10, l20, l47, l80, l100, l127, l200, l400, l600, l800, l1000, l1200, l1206, l1210, l1222, n_add, n_clamp, n_gd, n_le_t, n_le_f, n_lt_t, n_lt_f, n_eq_t, n_eq_f, n_no, n_on, n_oo, n_olt, n_nlo, n_ole, Option.bind_some, Option.bind_none, Nat.zero_add, if_true, if_false]
theorem FM_numberF {t : Nat → Int32} {n a : Nat} {f : Int32} (hn : n ≤ 80) (ha : a ≤ n) (hf : ¬ f = eO none) : FX7_number (nI n) (nI a) f t = some (nI 0, nI (skp t n a), f) := by
  have e : FX7_number_L7 (nI n) (nI a) f t (nI 0, nI a) = some (.inr (nI 0, nI a)) := by
    simp (disch := omega) only [FX7_number_L7, if_neg hf, ↓lm1, n_ofN, l0, l1, l2, l3, l4, l5, l6, l7, l8, l10, l20, l47, l80, l100, l127, l200, l400, l600, l800, l1000, l1200, l1206, l1210, l1222, n_add, n_clamp, n_gd, n_le_t, n_le_f, n_lt_t, n_lt_f, n_eq_t, n_eq_f, n_no, n_on, n_oo, n_olt, n_nlo, n_ole, Option.bind_some, Option.bind_none, Nat.zero_add, if_true, if_false]
  have k : g_it (FX7_number_L7 (nI n) (nI a) f t) (nI 0, nI a) = some (nI 0, nI a) := by
    show g_itn _ g_fuel _ = _
    unfold g_fuel
    simp only [g_itn, e]
  simp (disch := omega) only [FX7_number, k, FM_fails, rf_of hf, FM_blanks hn ha, ↓lm1, n_ofN, l0, l1, l2, l3, l4, l5, l6, l7, l8, l10, l20, l47, l80, l100, l127, l200, l400, l600, l800, l1000, l1200, l1206, l1210, l1222, n_add, n_clamp, n_gd, n_le_t, n_le_f, n_lt_t, n_lt_f, n_eq_t, n_eq_f, n_no, n_on, n_oo, n_olt, n_nlo, n_ole, Option.bind_some, Option.bind_none, Nat.zero_add, if_true, if_false]
theorem tok_number {t letters : Nat → Int32} {n : Nat} (hn : n ≤ 80) (hl : ∀ j, j < n → letters j = t j) {f : Int32} {p a : Nat} (P : PS t n f p a) : Tok t n (FX5_readNumber (nI n) f (nI p) letters) (FX7_number (nI n) (nI a) f t) f p := by
  have hX := FX_number hn hl P
  obtain ⟨hp, ha, hs⟩ := P
  have hq := skp_le (t := t) hp
  have hE := nr_le (t := t) 3 (nI 0) (skp t n p) hq.2
  by_cases hf : f = eO none
  · have hs := hs hf
    subst hs; subst hf
    exact ⟨_, _, _, _, _, hX, FM_number hn hq.2, ⟨hE.2, (skp_le hE.2).2, fun _ => rfl⟩, by omega, fun _ => ⟨rfl, rfl⟩⟩
  · rw [nf_of hf] at hX
    exact ⟨_, _, _, _, _, hX, FM_numberF hn ha hf, ⟨hE.2, (skp_le ha).2, fun z => absurd z hf⟩, by omega, fun z => absurd z hf⟩
theorem tok_place {t letters : Nat → Int32} {n : Nat} (hn : n ≤ 80) (hl : ∀ j, j < n → letters j = t j) {f : Int32} {p a : Nat} (P : PS t n f p a) : Tok t n (FX5_readPlace (nI n) f (nI p) letters) (FX7_place (nI n) (nI a) f t) f p := by
  have hq := skp_le (t := t) P.1
  have hbk := FX_blanks hn hl P.1
  have hlq := FX_letter hn hl hq.2
  -- what the class does behind the blanks
  have P2 : PS t n f (skp t n p) a := ⟨hq.2, P.2.1, fun z => by rw [skp_skp P.1]; exact P.2.2 z⟩
  by_cases e : lt t n (skp t n p) = 45
  · have hlt : skp t n p < n := by
      rcases Nat.lt_or_ge (skp t n p) n with q | q
      · exact q
      · unfold lt at e
        rw [if_neg (by omega)] at e
        exact absurd e (by decide)
    have hX : FX5_readPlace (nI n) f (nI p) letters = some (eO none, f, nI (skp t n p + 1)) := by
      simp (disch := omega) only [FX5_readPlace, hbk, hlq, if_pos e, ↓lm1, n_ofN, l0, l1, l2, l3, l4, l5, l6, l7, l8, l10, l20, l47, l80, l100, l127, l200, l400, l600, l800, l1000, l1200, l1206, l1210, l1222, n_add, n_clamp, n_gd, n_le_t, n_le_f, n_lt_t, n_lt_f, n_eq_t, n_eq_f, n_no, n_on, n_oo, n_olt, n_nlo, n_ole, Option.bind_some, Option.bind_none, Nat.zero_add, if_true, if_false]
    by_cases hf : f = eO none
    · have hs := P.2.2 hf
      subst hs; subst hf
      refine ⟨_, eO none, _, _, skp t n (skp t n p + 1), hX, ?_, ⟨hlt, (skp_le hlt).2, fun _ => rfl⟩, by omega, fun _ => ⟨rfl, rfl⟩⟩
      simp (disch := omega) only [FX7_place, FM_next hn hq.2, if_pos e, FM_blanks hn (t := t) (a := skp t n p + 1) hlt, ↓lm1, n_ofN, l0, l1, l2, l3, l4, l5, l6, l7, l8, l10, l20, l47, l80, l100, l127, l200, l400, l600, l800, l1000, l1200, l1206, l1210, l1222, n_add, n_clamp, n_gd, n_le_t, n_le_f, n_lt_t, n_lt_f, n_eq_t, n_eq_f, n_no, n_on, n_oo, n_olt, n_nlo, n_ole, Option.bind_some, Option.bind_none, Nat.zero_add, if_true, if_false]
    · have hM : FX7_place (nI n) (nI a) f t = some (nI 0, nI (skp t n a), f) := by
        simp (disch := omega) only [FX7_place, if_neg hf, FM_numberF hn P.2.1 hf, ↓lm1, n_ofN, l0, l1, l2, l3, l4, l5, l6, l7, l8, l10, l20, l47, l80, l100, l127, l200, l400, l600, l800, l1000, l1200, l1206, l1210, l1222, n_add, n_clamp, n_gd, n_le_t, n_le_f, n_lt_t, n_lt_f, n_eq_t, n_eq_f, n_no, n_on, n_oo, n_olt, n_nlo, n_ole, Option.bind_some, Option.bind_none, Nat.zero_add, if_true, if_false]
      exact ⟨_, _, _, _, _, hX, hM, ⟨hlt, (skp_le P.2.1).2, fun z => absurd z hf⟩, by omega, fun z => absurd z hf⟩
  · obtain ⟨v, v', f2, p2, a2, h1, h2, h3, h4, h5⟩ := tok_number hn hl P2
    have hX : FX5_readPlace (nI n) f (nI p) letters = some (v, f2, nI p2) := by
      simp (disch := omega) only [FX5_readPlace, hbk, hlq, if_neg e, h1, ↓lm1, n_ofN, l0, l1, l2, l3, l4, l5, l6, l7, l8, l10, l20, l47, l80, l100, l127, l200, l400, l600, l800, l1000, l1200, l1206, l1210, l1222, n_add, n_clamp, n_gd, n_le_t, n_le_f, n_lt_t, n_lt_f, n_eq_t, n_eq_f, n_no, n_on, n_oo, n_olt, n_nlo, n_ole, Option.bind_some, Option.bind_none, Nat.zero_add, if_true, if_false]
    refine ⟨v, v', f2, p2, a2, hX, ?_, h3, by omega, h5⟩
    by_cases hf : f = eO none
    · have hs := P.2.2 hf
      subst hs; subst hf
      simp (disch := omega) only [FX7_place, FM_next hn hq.2, if_neg e, h2, ↓lm1, n_ofN, l0, l1, l2, l3, l4, l5, l6, l7, l8, l10, l20, l47, l80, l100, l127, l200, l400, l600, l800, l1000, l1200, l1206, l1210, l1222, n_add, n_clamp, n_gd, n_le_t, n_le_f, n_lt_t, n_lt_f, n_eq_t, n_eq_f, n_no, n_on, n_oo, n_olt, n_nlo, n_ole, Option.bind_some, Option.bind_none, Nat.zero_add, if_true, if_false]
    · simp (disch := omega) only [FX7_place, if_neg hf, h2, ↓lm1, n_ofN, l0, l1, l2, l3, l4, l5, l6, l7, l8, l10, l20, l47, l80, l100, l127, l200, l400, l600, l800, l1000, l1200, l1206, l1210, l1222, n_add, n_clamp, n_gd, n_le_t, n_le_f, n_lt_t, n_lt_f, n_eq_t, n_eq_f, n_no, n_on, n_oo, n_olt, n_nlo, n_ole, Option.bind_some, Option.bind_none, Nat.zero_add, if_true, if_false]
/-- the end of a command; the reference's words for it lie inside another function -/
theorem tok_end {t letters : Nat → Int32} {n : Nat} (hn : n ≤ 80) (hl : ∀ j, j < n → letters j = t j) {f : Int32} {p a : Nat} (P : PS t n f p a) :
    ∃ f2 p2 a2, FX5_readEnd (nI n) f (nI p) letters = some (f2, nI p2) ∧ (if f = eO none then (FX7_next_ (nI n) (nI a) t).bind (fun r15 => if r15 = (59 : Int32) then (FX7_blanks (nI n) (nI a + nI 1) t).bind (fun at_19 => some (at_19, f)) else (FX7_fails (nI a) f).bind (fun fault_17 => some (nI a, fault_17))) else (FX7_fails (nI a) f).bind (fun fault_13 => some (nI a, fault_13))) = some (nI a2, f2) ∧ PS t n f2 p2 a2 ∧ p ≤ p2 ∧ (f2 = eO none → f = eO none ∧ p + 1 ≤ p2) := by
  have hq := skp_le (t := t) P.1
  have hbk := FX_blanks hn hl P.1
  have hlq := FX_letter hn hl hq.2
  by_cases e : lt t n (skp t n p) = 59
  · have hlt : skp t n p < n := by
      rcases Nat.lt_or_ge (skp t n p) n with q | q
      · exact q
      · unfold lt at e
        rw [if_neg (by omega)] at e
        exact absurd e (by decide)
    have hX : FX5_readEnd (nI n) f (nI p) letters = some (f, nI (skp t n p + 1)) := by
      simp (disch := omega) only [FX5_readEnd, hbk, hlq, if_pos e, ↓lm1, n_ofN, l0, l1, l2, l3, l4, l5, l6, l7, l8, l10, l20, l47, l80, l100, l127, l200, l400, l600, l800, l1000, l1200, l1206, l1210, l1222, n_add, n_clamp, n_gd, n_le_t, n_le_f, n_lt_t, n_lt_f, n_eq_t, n_eq_f, n_no, n_on, n_oo, n_olt, n_nlo, n_ole, Option.bind_some, Option.bind_none, Nat.zero_add, if_true, if_false]
    by_cases hf : f = eO none
    · have hs := P.2.2 hf
      subst hs; subst hf
      refine ⟨_, _, skp t n (skp t n p + 1), hX, ?_, ⟨hlt, (skp_le hlt).2, fun _ => rfl⟩, by omega, fun _ => ⟨rfl, by omega⟩⟩
      simp (disch := omega) only [FM_next hn hq.2, if_pos e, FM_blanks hn (t := t) (a := skp t n p + 1) hlt, ↓lm1, n_ofN, l0, l1, l2, l3, l4, l5, l6, l7, l8, l10, l20, l47, l80, l100, l127, l200, l400, l600, l800, l1000, l1200, l1206, l1210, l1222, n_add, n_clamp, n_gd, n_le_t, n_le_f, n_lt_t, n_lt_f, n_eq_t, n_eq_f, n_no, n_on, n_oo, n_olt, n_nlo, n_ole, Option.bind_some, Option.bind_none, Nat.zero_add, if_true, if_false]
    · refine ⟨_, _, a, hX, ?_, ⟨hlt, P.2.1, fun z => absurd z hf⟩, by omega, fun z => absurd z hf⟩
      simp (disch := omega) only [if_neg hf, FM_fails, rf_of hf, ↓lm1, n_ofN, l0, l1, l2, l3, l4, l5, l6, l7, l8, l10, l20, l47, l80, l100, l127, l200, l400, l600, l800, l1000, l1200, l1206, l1210, l1222, n_add, n_clamp, n_gd, n_le_t, n_le_f, n_lt_t, n_lt_f, n_eq_t, n_eq_f, n_no, n_on, n_oo, n_olt, n_nlo, n_ole, Option.bind_some, Option.bind_none, Nat.zero_add, if_true, if_false]
  · have hX : FX5_readEnd (nI n) f (nI p) letters = some (rf f (skp t n p), nI (skp t n p)) := by
      simp (disch := omega) only [FX5_readEnd, hbk, hlq, if_neg e, FX_refuse, ↓lm1, n_ofN, l0, l1, l2, l3, l4, l5, l6, l7, l8, l10, l20, l47, l80, l100, l127, l200, l400, l600, l800, l1000, l1200, l1206, l1210, l1222, n_add, n_clamp, n_gd, n_le_t, n_le_f, n_lt_t, n_lt_f, n_eq_t, n_eq_f, n_no, n_on, n_oo, n_olt, n_nlo, n_ole, Option.bind_some, Option.bind_none, Nat.zero_add, if_true, if_false]
    have hne := rf_ne (f := f) (q := skp t n p) (by omega)
    by_cases hf : f = eO none
    · have hs := P.2.2 hf
      subst hs; subst hf
      refine ⟨_, _, skp t n p, hX, ?_, ⟨hq.2, hq.2, fun z => absurd z hne⟩, by omega, fun z => absurd z hne⟩
      simp (disch := omega) only [FM_next hn hq.2, if_neg e, FM_fails, ↓lm1, n_ofN, l0, l1, l2, l3, l4, l5, l6, l7, l8, l10, l20, l47, l80, l100, l127, l200, l400, l600, l800, l1000, l1200, l1206, l1210, l1222, n_add, n_clamp, n_gd, n_le_t, n_le_f, n_lt_t, n_lt_f, n_eq_t, n_eq_f, n_no, n_on, n_oo, n_olt, n_nlo, n_ole, Option.bind_some, Option.bind_none, Nat.zero_add, if_true, if_false]
    · refine ⟨_, _, a, hX, ?_, ⟨hq.2, P.2.1, fun z => absurd z hne⟩, by omega, fun z => absurd z hne⟩
      simp (disch := omega) only [if_neg hf, FM_fails, rf_of hf, ↓lm1, n_ofN, l0, l1, l2, l3, l4, l5, l6, l7, l8, l10, l20, l47, l80, l100, l127, l200, l400, l600, l800, l1000, l1200, l1206, l1210, l1222, n_add, n_clamp, n_gd, n_le_t, n_le_f, n_lt_t, n_lt_f, n_eq_t, n_eq_f, n_no, n_on, n_oo, n_olt, n_nlo, n_ole, Option.bind_some, Option.bind_none, Nat.zero_add, if_true, if_false]
