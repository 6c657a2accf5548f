/-! the whole script, in both -/
theorem rd_all {t letters : Nat → Int32} {n : Nat} (hn : n ≤ 80) (hl : ∀ j, j < n → letters j = t j) : ∀ (k i a fx fm : Nat) (K F S T C : Nat → Int32), a ≤ n → skp t n a = a → 2 * i ≤ a → n - a < k → k < fx → k < fm → CM i K F S T C →
    ∃ c f p K' F' S' T' c' a2 C', g_itn (FX5_read_L21 (nI n) letters) fx (nI i, nI i, eO none, nI a, K, F, S, T) = some (c, f, p, K', F', S', T') ∧ g_itn (FX7_fault_L19 (nI n) t) fm (nI i, nI a, eO none, C) = some (c', a2, f, C') ∧ (f = eO none → ∃ m, m ≤ 40 ∧ c = nI m ∧ c' = nI m ∧ CM m K' F' S' T' C')
  | 0, i, a, fx, fm, K, F, S, T, C, _, _, _, hk, _, _, _ => absurd hk (Nat.not_lt_zero _)
  | k + 1, i, a, fx + 1, fm + 1, K, F, S, T, C, ha, hs, h2, hk, hx, hm, hC => by
    by_cases han : a < n
    · obtain ⟨f2, p2, a2, i', K', F', S', T', C', x, y, P, hq⟩ := cmd_all hn hl han (i := i) (by omega) (nI i) K F S T C
      have eX : FX5_read_L21 (nI n) letters (nI i, nI i, eO none, nI a, K, F, S, T) = some (.inl (nI (i + 1), nI (i + 1), f2, nI (skp t n p2), K', F', S', T')) := by
        simp (disch := omega) only [FX5_read_L21, l40, x, FX_blanks hn hl P.1, ↓lm1, n_ofN, l0, l1, l2, l3, l4, l5, l6, l7, l8, l10, l20, l47, l80, l100, l127, l200, l400, l600, l800, l1000, l1200, l1206, l1210, l1222, n_add, n_clamp, n_gd, n_le_t, n_le_f, n_lt_t, n_lt_f, n_eq_t, n_eq_f, n_no, n_on, n_oo, n_olt, n_nlo, n_ole, Option.bind_some, Option.bind_none, Nat.zero_add, if_true, if_false]
      have eM : FX7_fault_L19 (nI n) t (nI i, nI a, eO none, C) = some (.inl (i', nI a2, f2, C')) := by
        simp (disch := omega) only [FX7_fault_L19, y, ↓lm1, n_ofN, l0, l1, l2, l3, l4, l5, l6, l7, l8, l10, l20, l47, l80, l100, l127, l200, l400, l600, l800, l1000, l1200, l1206, l1210, l1222, n_add, n_clamp, n_gd, n_le_t, n_le_f, n_lt_t, n_lt_f, n_eq_t, n_eq_f, n_no, n_on, n_oo, n_olt, n_nlo, n_ole, Option.bind_some, Option.bind_none, Nat.zero_add, if_true, if_false]
      simp only [g_itn, eX, eM]
      have hsk := skp_le (t := t) P.1
      by_cases hf : f2 = eO none
      · obtain ⟨q1, q2, q3⟩ := hq hf
        have ha2 := P.2.2 hf
        subst ha2; subst hf; subst q1
        exact rd_all hn hl k (i + 1) (skp t n p2) fx fm K' F' S' T' C' hsk.2 (skp_skp P.1) (by omega) (by omega) (by omega) (by omega) (q3 hC)
      · obtain ⟨fx2, rfl⟩ : ∃ fx2, fx = fx2 + 1 := ⟨fx - 1, by omega⟩
        obtain ⟨fm2, rfl⟩ : ∃ fm2, fm = fm2 + 1 := ⟨fm - 1, by omega⟩
        have eX2 : FX5_read_L21 (nI n) letters (nI (i + 1), nI (i + 1), f2, nI (skp t n p2), K', F', S', T') = some (.inr (nI (i + 1), f2, nI (skp t n p2), K', F', S', T')) := by
          by_cases c1 : 40 ≤ i + 1
          · simp (disch := omega) only [FX5_read_L21, l40, ↓lm1, n_ofN, l0, l1, l2, l3, l4, l5, l6, l7, l8, l10, l20, l47, l80, l100, l127, l200, l400, l600, l800, l1000, l1200, l1206, l1210, l1222, n_add, n_clamp, n_gd, n_le_t, n_le_f, n_lt_t, n_lt_f, n_eq_t, n_eq_f, n_no, n_on, n_oo, n_olt, n_nlo, n_ole, Option.bind_some, Option.bind_none, Nat.zero_add, if_true, if_false]
          · by_cases c2 : n ≤ skp t n p2
            · simp (disch := omega) only [FX5_read_L21, l40, ↓lm1, n_ofN, l0, l1, l2, l3, l4, l5, l6, l7, l8, l10, l20, l47, l80, l100, l127, l200, l400, l600, l800, l1000, l1200, l1206, l1210, l1222, n_add, n_clamp, n_gd, n_le_t, n_le_f, n_lt_t, n_lt_f, n_eq_t, n_eq_f, n_no, n_on, n_oo, n_olt, n_nlo, n_ole, Option.bind_some, Option.bind_none, Nat.zero_add, if_true, if_false]
            · simp (disch := omega) only [FX5_read_L21, l40, if_neg hf, ↓lm1, n_ofN, l0, l1, l2, l3, l4, l5, l6, l7, l8, l10, l20, l47, l80, l100, l127, l200, l400, l600, l800, l1000, l1200, l1206, l1210, l1222, n_add, n_clamp, n_gd, n_le_t, n_le_f, n_lt_t, n_lt_f, n_eq_t, n_eq_f, n_no, n_on, n_oo, n_olt, n_nlo, n_ole, Option.bind_some, Option.bind_none, Nat.zero_add, if_true, if_false]
        have eM2 : FX7_fault_L19 (nI n) t (i', nI a2, f2, C') = some (.inr (i', nI a2, f2, C')) := by
          simp (disch := omega) only [FX7_fault_L19, if_neg hf, ↓lm1, n_ofN, l0, l1, l2, l3, l4, l5, l6, l7, l8, l10, l20, l47, l80, l100, l127, l200, l400, l600, l800, l1000, l1200, l1206, l1210, l1222, n_add, n_clamp, n_gd, n_le_t, n_le_f, n_lt_t, n_lt_f, n_eq_t, n_eq_f, n_no, n_on, n_oo, n_olt, n_nlo, n_ole, Option.bind_some, Option.bind_none, Nat.zero_add, if_true, if_false]
        simp only [g_itn, eX2, eM2]
        exact ⟨_, _, _, _, _, _, _, _, _, _, rfl, rfl, fun z => absurd z hf⟩
    · have : a = n := by omega
      subst this
      have eX : FX5_read_L21 (nI a) letters (nI i, nI i, eO none, nI a, K, F, S, T) = some (.inr (nI i, eO none, nI a, K, F, S, T)) := by
        by_cases c1 : 40 ≤ i
        · simp (disch := omega) only [FX5_read_L21, l40, ↓lm1, n_ofN, l0, l1, l2, l3, l4, l5, l6, l7, l8, l10, l20, l47, l80, l100, l127, l200, l400, l600, l800, l1000, l1200, l1206, l1210, l1222, n_add, n_clamp, n_gd, n_le_t, n_le_f, n_lt_t, n_lt_f, n_eq_t, n_eq_f, n_no, n_on, n_oo, n_olt, n_nlo, n_ole, Option.bind_some, Option.bind_none, Nat.zero_add, if_true, if_false]
        · simp (disch := omega) only [FX5_read_L21, l40, ↓lm1, n_ofN, l0, l1, l2, l3, l4, l5, l6, l7, l8, l10, l20, l47, l80, l100, l127, l200, l400, l600, l800, l1000, l1200, l1206, l1210, l1222, n_add, n_clamp, n_gd, n_le_t, n_le_f, n_lt_t, n_lt_f, n_eq_t, n_eq_f, n_no, n_on, n_oo, n_olt, n_nlo, n_ole, Option.bind_some, Option.bind_none, Nat.zero_add, if_true, if_false]
      have eM : FX7_fault_L19 (nI a) t (nI i, nI a, eO none, C) = some (.inr (nI i, nI a, eO none, C)) := by
        simp (disch := omega) only [FX7_fault_L19, ↓lm1, n_ofN, l0, l1, l2, l3, l4, l5, l6, l7, l8, l10, l20, l47, l80, l100, l127, l200, l400, l600, l800, l1000, l1200, l1206, l1210, l1222, n_add, n_clamp, n_gd, n_le_t, n_le_f, n_lt_t, n_lt_f, n_eq_t, n_eq_f, n_no, n_on, n_oo, n_olt, n_nlo, n_ole, Option.bind_some, Option.bind_none, Nat.zero_add, if_true, if_false]
      simp only [g_itn, eX, eM]
      exact ⟨_, _, _, _, _, _, _, _, _, _, rfl, rfl, fun _ => ⟨i, by omega, rfl, rfl, hC⟩⟩
theorem rd_eq {t letters : Nat → Int32} {n : Nat} (hn : n ≤ 80) (hl : ∀ j, j < n → letters j = t j) (c0 f0 p0 c1 a1 f1 : Int32) (K F S T C : Nat → Int32) :
    ∃ c f p K' F' S' T' c' a2 C', FX5_read (nI n) c0 f0 p0 letters K F S T = some (c, f, p, K', F', S', T') ∧ FX7_fault (nI n) c1 a1 f1 t C = some (f, c', a2, f, C') ∧ (f = eO none → ∃ m, m ≤ 40 ∧ c = nI m ∧ c' = nI m ∧ CM m K' F' S' T' C') := by
  have hq := skp_le (t := t) (n := n) (p := 0) (Nat.zero_le n)
  obtain ⟨c, f, p, K', F', S', T', c', a2, C', x, y, h⟩ := rd_all hn hl (n + 1) 0 (skp t n 0) g_fuel g_fuel K F S T C hq.2 (skp_skp (Nat.zero_le n)) (by omega) (by omega) (by unfold g_fuel; omega) (by unfold g_fuel; omega) (fun j hj => absurd hj (Nat.not_lt_zero _))
  have x : g_it (FX5_read_L21 (nI n) letters) (nI 0, nI 0, eO none, nI (skp t n 0), K, F, S, T) = some (c, f, p, K', F', S', T') := x
  have y : g_it (FX7_fault_L19 (nI n) t) (nI 0, nI (skp t n 0), eO none, C) = some (c', a2, f, C') := y
  refine ⟨c, f, p, K', F', S', T', c', a2, C', ?_, ?_, h⟩
  · simp (disch := omega) only [FX5_read, FX_blanks hn hl (a := 0) (by omega), x, ↓lm1, n_ofN, l0, l1, l2, l3, l4, l5, l6, l7, l8, l10, l20, l47, l80, l100, l127, l200, l400, l600, l800, l1000, l1200, l1206, l1210, l1222, n_add, n_clamp, n_gd, n_le_t, n_le_f, n_lt_t, n_lt_f, n_eq_t, n_eq_f, n_no, n_on, n_oo, n_olt, n_nlo, n_ole, Option.bind_some, Option.bind_none, Nat.zero_add, if_true, if_false]
  · simp (disch := omega) only [FX7_fault, FM_blanks hn (t := t) (a := 0) (by omega), y, ↓lm1, n_ofN, l0, l1, l2, l3, l4, l5, l6, l7, l8, l10, l20, l47, l80, l100, l127, l200, l400, l600, l800, l1000, l1200, l1206, l1210, l1222, n_add, n_clamp, n_gd, n_le_t, n_le_f, n_lt_t, n_lt_f, n_eq_t, n_eq_f, n_no, n_on, n_oo, n_olt, n_nlo, n_ole, Option.bind_some, Option.bind_none, Nat.zero_add, if_true, if_false]
theorem sim_fault : Sim_fault Rel := by
  intro i words depth allocated collections freed owner fieldCount dataCount pinned age content roots weaks movedTo reports letters length_ latestRefusal s0 s1 zmm zsaved_ zisSaved ztext ztextLength zrefused commands faultIndex position kinds firsts seconds thirds zcommands zat_ zfault_ zcommand hi h
  have hu := h.up
  obtain ⟨⟨W, H, ⟨⟨rfl, rfl, rfl, rfl, rfl⟩, hO, hA, hR, hK, hM⟩, hc⟩, hS0, hS1, hT, rfl⟩ := h
  have hW := H.size
  have hw := H.hw
  obtain ⟨n, hn, rfl, rfl, hl⟩ := hT
  obtain ⟨c, f, p, K, F, S, T, c', a2, C, x, y, -⟩ := rd_eq hn (fun j hj => (hl j hj).1) commands faultIndex position zcommands zat_ zfault_ kinds firsts seconds thirds zcommand
  exact ⟨f, c, f, p, K, F, S, T, c', a2, f, C, by simp only [FX6_fault, x, Option.bind_some], y, hu⟩
