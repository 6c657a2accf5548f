/-! redirecting and sliding, in the class -/
def gn (mm mk : Nat → Int32) (W : Nat) (x : Int32) : Int32 := if x = eO none then eO none else wt mm mk W x.toNatClampNeg
theorem gn_none {mm mk : Nat → Int32} {W : Nat} : gn mm mk W (eO none) = eO none := if_pos rfl
theorem gn_nI {mm mk : Nat → Int32} {W t : Nat} (ht : t < 1000) : gn mm mk W (nI t) = wt mm mk W t := by
  unfold gn
  rw [if_neg (n_ne_m1 (by omega)), n_clamp (by omega)]
theorem gn_cases {mm mk : Nat → Int32} {W : Nat} (H : WF mm W) {x : Int32} (hx : Rf mm W x) : (x = eO none ∧ gn mm mk W x = eO none) ∨ ∃ t, t < W ∧ x = nI t ∧ gn mm mk W x = wt mm mk W t := by
  have hW := H.size
  rcases hx with h | ⟨t, ht, h, -⟩
  · exact Or.inl ⟨h, by rw [h, gn_none]⟩
  · exact Or.inr ⟨t, ht, h, by rw [h, gn_nI (by omega)]⟩
def nwd (mm mk : Nat → Int32) (W b k : Nat) : Int32 := if k ≤ zf mm b then gn mm mk W (mm (800 + b + k)) else mm (800 + b + k)
theorem FX_redRow {mm mk mv row : Nat → Int32} {W lo n nr : Nat} (H : WF mm W) (hv : ∀ t, t < 200 → mv t = wt mm mk W t) (hn : lo + n ≤ nr) (hr : nr ≤ 200) (hR : ∀ j, lo ≤ j → j < lo + n → Rf mm W (row j)) :
    ∃ r, FX0_redirectRow (nI W) mv row nr (nI lo) (nI (lo + n)) = some r ∧ (∀ j, lo ≤ j → j < lo + n → r j = gn mm mk W (row j)) ∧ ∀ j, j < lo ∨ lo + n ≤ j → r j = row j := by
  have hW := H.size
  have key := it_ix (f := FX0_redirectRow_L3 (nI W) mv nr (nI (lo + n))) (fun i s => ∃ r, s = (nI i, r) ∧ lo ≤ i ∧ (∀ j, lo ≤ j → j < i → r j = gn mm mk W (row j)) ∧ ∀ j, j < lo ∨ i ≤ j → r j = row j) lo (lo + n) (fun r => (∀ j, lo ≤ j → j < lo + n → r j = gn mm mk W (row j)) ∧ ∀ j, j < lo ∨ lo + n ≤ j → r j = row j) (nI lo, row) (by omega) (by omega) ⟨row, rfl, by omega, fun j h1 h2 => by omega, fun j _ => rfl⟩ (fun i s hi hJ => ?_) (fun s hJ => ?_)
  · obtain ⟨r, k1, k2, k3⟩ := key
    refine ⟨r, ?_, k2, k3⟩
    simp only [FX0_redirectRow, k1, Option.bind_some]
  · obtain ⟨r, rfl, hlo, k2, k3⟩ := hJ
    have e := k3 i (by omega)
    refine ⟨(nI (i + 1), upd r i (gn mm mk W (row i))), ?_, _, rfl, by omega, fun j j1 j2 => ?_, fun j hj => ?_⟩
    · rcases gn_cases H (mk := mk) (hR i hlo hi) with ⟨e1, e2⟩ | ⟨t, ht, e1, e2⟩
      · have e3 := e.trans e1
        rw [e2]
        clear k2 k3 hR hv e e1 e2
        simp (disch := omega) only [FX0_redirectRow_L3, FX1_isAddress, ↓lm1, n_ofN, l0, l1, l2, l3, l4, l5, l6, l7, l8, l10, l20, l47, l80, l100, l127, l200, l400, l600, l800, l1000, l1200, l1206, l1210, l1222, n_add, n_clamp, n_gd, n_le_t, n_le_f, n_lt_t, n_lt_f, n_eq_t, n_eq_f, n_no, n_on, n_oo, n_olt, n_nlo, n_ole, Option.bind_some, Option.bind_none, Nat.zero_add, if_true, if_false, e3]
      · have e3 := e.trans e1
        have e4 := hv t (by omega)
        rw [e2]
        clear k2 k3 hR hv e e1 e2
        simp (disch := omega) only [FX0_redirectRow_L3, FX1_isAddress, ↓lm1, n_ofN, l0, l1, l2, l3, l4, l5, l6, l7, l8, l10, l20, l47, l80, l100, l127, l200, l400, l600, l800, l1000, l1200, l1206, l1210, l1222, n_add, n_clamp, n_gd, n_le_t, n_le_f, n_lt_t, n_lt_f, n_eq_t, n_eq_f, n_no, n_on, n_oo, n_olt, n_nlo, n_ole, Option.bind_some, Option.bind_none, Nat.zero_add, if_true, if_false, e3, e4]
    · by_cases q : j = i
      · subst q
        exact pk_us
      · rw [pk_un q]
        exact k2 j j1 (by omega)
    · rw [pk_un (by omega)]
      exact k3 j (by omega)
  · obtain ⟨r, rfl, hlo, k2, k3⟩ := hJ
    refine ⟨r, ?_, k2, k3⟩
    clear k2 k3 hR hv
    simp (disch := omega) only [FX0_redirectRow_L3, ↓lm1, n_ofN, l0, l1, l2, l3, l4, l5, l6, l7, l8, l10, l20, l47, l80, l100, l127, l200, l400, l600, l800, l1000, l1200, l1206, l1210, l1222, n_add, n_clamp, n_gd, n_le_t, n_le_f, n_lt_t, n_lt_f, n_eq_t, n_eq_f, n_no, n_on, n_oo, n_olt, n_nlo, n_ole, Option.bind_some, Option.bind_none, Nat.zero_add, if_true, if_false]
theorem WF.rf {mm : Nat → Int32} {W a k : Nat} (H : WF mm W) (ha : a < 200) (h0 : 0 < zs mm a) (h1 : 1 ≤ k) (h2 : k ≤ zf mm a) : Rf mm W (mm (800 + a + k)) := (H.hd ha h0).2.2.2.2.2.2 k h1 h2
theorem WF.rt {mm : Nat → Int32} {W k : Nat} (H : WF mm W) (h : k < 10) : Rf mm W (mm (1200 + k)) := H.2.2.2.2.2.2 k h
theorem FX_redirected {mm mk mv fieldCount dataCount pinned age content roots weaks : Nat → Int32} {W : Nat} (H : WF mm W) (hA : RA W mm fieldCount dataCount pinned age content) (hR : ∀ k, k < 6 → roots k = mm (1200 + k)) (hK : ∀ k, k < 4 → weaks k = mm (1206 + k)) (L : LV mm W mk) (hv : ∀ t, t < 200 → mv t = wt mm mk W t) :
    ∃ ct rt wk, FX0_redirect mk (nI W) fieldCount content roots weaks mv = some (ct, rt, wk) ∧ (∀ k, k < 6 → rt k = gn mm mk W (mm (1200 + k))) ∧ (∀ k, k < 4 → wk k = gn mm mk W (mm (1206 + k))) ∧ ∀ b, b < 200 → mk b = nI 1 → ∀ k, 1 ≤ k → k < zs mm b → ct (b + k) = nwd mm mk W b k := by
  have hW := H.size
  obtain ⟨rt, r1, r2, -⟩ := FX_redRow (mk := mk) (mv := mv) (row := roots) (lo := 0) (n := 6) (nr := 6) H hv (by omega) (by omega) (fun j _ hj => by
    rw [hR j (by omega)]
    exact H.rt (by omega))
  obtain ⟨wk, w1, w2, -⟩ := FX_redRow (mk := mk) (mv := mv) (row := weaks) (lo := 0) (n := 4) (nr := 4) H hv (by omega) (by omega) (fun j _ hj => by
    rw [hK j (by omega), show 1206 + j = 1200 + (6 + j) by omega]
    exact H.rt (by omega))
  have key := it_ix (f := FX0_redirect_L25 mk (nI W) fieldCount mv) (fun a s => ∃ ct, s = (nI a, ct) ∧ (∀ b, b < a → mk b = nI 1 → ∀ k, 1 ≤ k → k ≤ zf mm b → ct (b + k) = gn mm mk W (mm (800 + b + k))) ∧ ∀ j, (∀ b, b < a → mk b = nI 1 → ∀ k, 1 ≤ k → k ≤ zf mm b → b + k ≠ j) → ct j = content j) 0 W (fun ct => (∀ b, b < W → mk b = nI 1 → ∀ k, 1 ≤ k → k ≤ zf mm b → ct (b + k) = gn mm mk W (mm (800 + b + k))) ∧ ∀ j, (∀ b, b < W → mk b = nI 1 → ∀ k, 1 ≤ k → k ≤ zf mm b → b + k ≠ j) → ct j = content j) (nI 0, content) (by omega) (by omega) ⟨content, rfl, fun b hb => absurd hb (Nat.not_lt_zero _), fun j _ => rfl⟩ (fun a s ha hJ => ?_) (fun s hJ => ?_)
  · obtain ⟨ct, c1, c2, c3⟩ := key
    refine ⟨ct, rt, wk, ?_, fun k hk => ?_, fun k hk => ?_, fun b hb hm k k1 k2 => ?_⟩
    · clear r2 w2 c2 c3 hv hR hK
      simp only [Nat.zero_add] at r1 w1
      simp (disch := omega) only [FX0_redirect, ↓lm1, n_ofN, l0, l1, l2, l3, l4, l5, l6, l7, l8, l10, l20, l47, l80, l100, l127, l200, l400, l600, l800, l1000, l1200, l1206, l1210, l1222, n_add, n_clamp, n_gd, n_le_t, n_le_f, n_lt_t, n_lt_f, n_eq_t, n_eq_f, n_no, n_on, n_oo, n_olt, n_nlo, n_ole, Option.bind_some, Option.bind_none, Nat.zero_add, if_true, if_false, r1, w1, c1]
    · rw [r2 k (Nat.zero_le k) (by omega), hR k hk]
    · rw [w2 k (Nat.zero_le k) (by omega), hK k hk]
    · obtain ⟨hbW, h0⟩ := L.of hb hm
      unfold nwd
      by_cases q : k ≤ zf mm b
      · rw [if_pos q]
        exact c2 b hbW hm k k1 q
      · rw [if_neg q, c3 (b + k) (fun b' hb' hm' k' k1' k2' => ?_)]
        · exact (hA b hbW h0).2.2.2.2 k k1 k2
        · by_cases e : b' = b
          · subst e
            omega
          · have h0' := (L.of (a := b') (by omega) hm').2
            have h9 := (H.hd (a := b') (by omega) h0').2.2.2.2.1
            exact apart H (by omega) hb h0' h0 e (by omega) k2
  · obtain ⟨ct, rfl, k2, k3⟩ := hJ
    by_cases hm : mk a = nI 1
    · have h0 := (L.of (a := a) (by omega) hm).2
      have h9 := H.hd (a := a) (by omega) h0
      have h1 := h9.1
      have hf := h9.2.2.1
      have hf6 := h9.2.2.2.1
      have hfz := h9.2.2.2.2.1
      clear h9
      obtain ⟨a1, -, -, -, a5⟩ := hA a ha h0
      have hun : ∀ k, 1 ≤ k → k ≤ zf mm a → ct (a + k) = mm (800 + a + k) := fun k q1 q2 => by
        rw [k3 (a + k) (fun b' hb' hm' k' k1' k2' => by
          have h0' := (L.of (a := b') (by omega) hm').2
          have h9 := (H.hd (a := b') (by omega) h0').2.2.2.2.1
          exact apart H (by omega) (by omega) h0' h0 (by omega) (by omega) (by omega))]
        exact a5 k q1 (by omega)
      obtain ⟨r, e1, e2, e3⟩ := FX_redRow (mk := mk) (mv := mv) (row := ct) (lo := a + 1) (n := zf mm a) (nr := 200) H hv (by omega) (by omega) (fun j j1 j2 => by
        have := hun (j - a) (by omega) (by omega)
        rw [show a + (j - a) = j by omega] at this
        rw [this]
        exact H.rf (by omega) h0 (by omega) (by omega))
      refine ⟨(nI (a + 1), r), ?_, r, rfl, fun b hb hmb k q1 q2 => ?_, fun j hj => ?_⟩
      · clear k2 k3 hun e2 e3 hv hR hK r1 r2 w1 w2 a5
        simp (disch := omega) only [FX0_redirect_L25, ↓lm1, n_ofN, l0, l1, l2, l3, l4, l5, l6, l7, l8, l10, l20, l47, l80, l100, l127, l200, l400, l600, l800, l1000, l1200, l1206, l1210, l1222, n_add, n_clamp, n_gd, n_le_t, n_le_f, n_lt_t, n_lt_f, n_eq_t, n_eq_f, n_no, n_on, n_oo, n_olt, n_nlo, n_ole, Option.bind_some, Option.bind_none, Nat.zero_add, if_true, if_false, hm, a1, hf, e1]
      · by_cases e : b = a
        · subst e
          rw [e2 (b + k) (by omega) (by omega), hun k q1 q2]
        · have h0' := (L.of (a := b) (by omega) hmb).2
          have h9 := (H.hd (a := b) (by omega) h0').2.2.2.2.1
          have hx : ∀ i, i < zs mm a → b + k ≠ a + i := fun i hi => apart H (by omega) (by omega) h0' h0 e (by omega) hi
          rw [e3 (b + k) (by
            rcases Nat.lt_or_ge (b + k) (a + 1) with y | y
            · exact Or.inl y
            · refine Or.inr ?_
              rcases Nat.lt_or_ge (b + k) (a + 1 + zf mm a) with z | z
              · exact absurd (show b + k = a + (b + k - a) by omega) (hx (b + k - a) (by omega))
              · exact z)]
          exact k2 b (by omega) hmb k q1 q2
      · rw [e3 j (by
          rcases Nat.lt_or_ge j (a + 1) with y | y
          · exact Or.inl y
          · refine Or.inr ?_
            rcases Nat.lt_or_ge j (a + 1 + zf mm a) with z | z
            · exact absurd (show a + (j - a) = j by omega) (hj a (by omega) hm (j - a) (by omega) (by omega))
            · exact z)]
        exact k3 j (fun b hb => hj b (by omega))
    · have hm0 := L.no (a := a) (by omega) hm
      refine ⟨(nI (a + 1), ct), ?_, ct, rfl, fun b hb hmb => ?_, fun j hj => k3 j (fun b hb => hj b (by omega))⟩
      · clear k2 k3 hv hR hK r1 r2 w1 w2
        simp (disch := omega) only [FX0_redirect_L25, ↓lm1, n_ofN, l0, l1, l2, l3, l4, l5, l6, l7, l8, l10, l20, l47, l80, l100, l127, l200, l400, l600, l800, l1000, l1200, l1206, l1210, l1222, n_add, n_clamp, n_gd, n_le_t, n_le_f, n_lt_t, n_lt_f, n_eq_t, n_eq_f, n_no, n_on, n_oo, n_olt, n_nlo, n_ole, Option.bind_some, Option.bind_none, Nat.zero_add, if_true, if_false, hm0]
      · rcases Nat.lt_or_ge b a with q | q
        · exact k2 b q hmb
        · have : b = a := by omega
          subst this
          exact absurd hmb hm
  · obtain ⟨ct, rfl, k2, k3⟩ := hJ
    refine ⟨ct, ?_, k2, k3⟩
    clear k2 k3 hv hR hK r1 r2 w1 w2
    simp (disch := omega) only [FX0_redirect_L25, ↓lm1, n_ofN, l0, l1, l2, l3, l4, l5, l6, l7, l8, l10, l20, l47, l80, l100, l127, l200, l400, l600, l800, l1000, l1200, l1206, l1210, l1222, n_add, n_clamp, n_gd, n_le_t, n_le_f, n_lt_t, n_lt_f, n_eq_t, n_eq_f, n_no, n_on, n_oo, n_olt, n_nlo, n_ole, Option.bind_some, Option.bind_none, Nat.zero_add, if_true, if_false]
/-! sliding -/
theorem g_cp {a b n n0 n1 : Nat} (h0 : a + n ≤ n0) (h1 : b + n ≤ n1) (h2 : n0 < 100000) (h3 : n1 < 100000) : g_cpin (nI a) (nI b) (nI n) n0 n1 = true := by
  have e : ∀ x : Nat, x < 2147483648 → ¬ nI x < (0 : Int32) := fun x hx z => by
    have := (nI_ltI (a := x) (b := 0) hx (by omega)).mp z
    omega
  have ea := e a (by omega)
  have eb := e b (by omega)
  have en := e n (by omega)
  unfold g_cpin
  rw [n_clamp (n := a) (by omega), n_clamp (n := b) (by omega), n_clamp (n := n) (by omega)]
  simp only [ea, eb, en, h0, h1, not_false_eq_true, decide_true, Bool.and_self]
theorem cpi {f g : Nat → Int32} {sp dp n j : Nat} (h1 : dp ≤ j) (h2 : j < dp + n) : va_cpy f g sp dp n j = f (sp + (j - dp)) := if_pos ⟨h1, h2⟩
theorem cpo {f g : Nat → Int32} {sp dp n j : Nat} (h : j < dp ∨ dp + n ≤ j) : va_cpy f g sp dp n j = g j := if_neg (by omega)
theorem FX_shift {owner fc dc pn ag ct : Nat → Int32} {a to f d n : Nat} (hf : fc a = nI f) (hd : dc a = nI d) (hn : 1 + f + d = n) (h1 : a + n ≤ 200) (h2 : to + n ≤ 200) :
    FX1_shift owner fc dc pn ag ct (nI a) (nI to) = some (fl owner to (to + n) (nI to), upd fc to (fc a), upd dc to (dc a), upd pn to (pn a), upd ag to (ag a + nI 1), va_cpy ct ct a to n) := by
  have hs : FX1_sizeOf (upd fc to (fc a)) (upd dc to (dc a)) (nI to) = some (nI n) := by
    rw [← hn]
    simp (disch := omega) only [FX1_sizeOf, ↓lm1, n_ofN, l0, l1, l2, l3, l4, l5, l6, l7, l8, l10, l20, l47, l80, l100, l127, l200, l400, l600, l800, l1000, l1200, l1206, l1210, l1222, n_add, n_clamp, n_gd, n_le_t, n_le_f, n_lt_t, n_lt_f, n_eq_t, n_eq_f, n_no, n_on, n_oo, n_olt, n_nlo, n_ole, Option.bind_some, Option.bind_none, Nat.zero_add, if_true, if_false, pk_us, hf, hd]
  have ho := FX_own (owner := owner) hs h2
  have hc := g_cp (a := a) (b := to) (n := n) (n0 := 200) (n1 := 200) h1 h2 (by omega) (by omega)
  simp (disch := omega) only [FX1_shift, ↓lm1, n_ofN, l0, l1, l2, l3, l4, l5, l6, l7, l8, l10, l20, l47, l80, l100, l127, l200, l400, l600, l800, l1000, l1200, l1206, l1210, l1222, n_add, n_clamp, n_gd, n_le_t, n_le_f, n_lt_t, n_lt_f, n_eq_t, n_eq_f, n_no, n_on, n_oo, n_olt, n_nlo, n_ole, Option.bind_some, Option.bind_none, Nat.zero_add, if_true, if_false, hs, hc, gd_true, ho]
def SL (mm mk : Nat → Int32) (W a : Nat) (owner fc dc pn ag ct : Nat → Int32) : Prop :=
  (∀ b, b < a → mk b = nI 1 → fc (tg mm mk b) = mm (200 + b) ∧ dc (tg mm mk b) = nI (zs mm b - 1 - zf mm b) ∧ pn (tg mm mk b) = mm (400 + b) ∧ ag (tg mm mk b) = mm (600 + b) + nI 1 ∧ (∀ k, 1 ≤ k → k < zs mm b → ct (tg mm mk b + k) = nwd mm mk W b k) ∧ ∀ k, k < zs mm b → owner (tg mm mk b + k) = nI (tg mm mk b)) ∧
  (∀ t, t < 200 → (∀ b, b < a → mk b = nI 1 → t < tg mm mk b ∨ tg mm mk b + zs mm b ≤ t) → owner t = eO none) ∧
  ∀ b, a ≤ b → b < 200 → mk b = nI 1 → fc b = mm (200 + b) ∧ dc b = nI (zs mm b - 1 - zf mm b) ∧ pn b = mm (400 + b) ∧ ag b = mm (600 + b) ∧ ∀ k, 1 ≤ k → k < zs mm b → ct (b + k) = nwd mm mk W b k
theorem SL.put {mm mk owner fc dc pn ag ct : Nat → Int32} {W a : Nat} (H : WF mm W) (L : LV mm W mk) (S : SL mm mk W a owner fc dc pn ag ct) (ha : a < 200) (hm : mk a = nI 1) :
    SL mm mk W (a + 1) (fl owner (tg mm mk a) (tg mm mk a + zs mm a) (nI (tg mm mk a))) (upd fc (tg mm mk a) (fc a)) (upd dc (tg mm mk a) (dc a)) (upd pn (tg mm mk a) (pn a)) (upd ag (tg mm mk a) (ag a + nI 1)) (va_cpy ct ct a (tg mm mk a) (zs mm a)) := by
  obtain ⟨s1, s2, s3⟩ := S
  obtain ⟨c1, c2, c3, c4, c5⟩ := s3 a (Nat.le_refl a) ha hm
  obtain ⟨t1, t2, t3, t4, t5⟩ := tg_fit H L ha hm
  refine ⟨fun b hb hmb => ?_, fun t ht hn => ?_, fun b hb hb2 hmb => ?_⟩
  · by_cases e : b = a
    · subst e
      rw [pk_us, pk_us, pk_us, pk_us, c4]
      refine ⟨c1, c2, c3, rfl, fun k k1 k2 => ?_, fun k k2 => fl_in (by omega) (by omega)⟩
      rw [cpi (by omega) (by omega), show b + (tg mm mk b + k - tg mm mk b) = b + k by omega]
      exact c5 k k1 k2
    · have hs := tg_sep H L (show b < a by omega) ha hmb hm
      have hf := tg_fit H L (show b < 200 by omega) hmb
      have hz := hf.2.2.1
      obtain ⟨d1, d2, d3, d4, d5, d6⟩ := s1 b (by omega) hmb
      have hne : tg mm mk b ≠ tg mm mk a := by omega
      rw [pk_un hne, pk_un hne, pk_un hne, pk_un hne]
      refine ⟨d1, d2, d3, d4, fun k k1 k2 => ?_, fun k k2 => ?_⟩
      · rw [cpo (by omega)]
        exact d5 k k1 k2
      · rw [fl_out (by omega)]
        exact d6 k k2
  · rw [fl_out (by
      have := hn a (by omega) hm
      omega)]
    exact s2 t ht (fun b hb => hn b (by omega))
  · have h0 := (L.of ha hm).2
    have hz := (L.of hb2 hmb).2
    have hfar := hd_far H ha h0 hz (show a < b by omega)
    obtain ⟨d1, d2, d3, d4, d5⟩ := s3 b (by omega) hb2 hmb
    have hne : b ≠ tg mm mk a := by omega
    rw [pk_un hne, pk_un hne, pk_un hne, pk_un hne]
    refine ⟨d1, d2, d3, d4, fun k k1 k2 => ?_⟩
    rw [cpo (by omega)]
    exact d5 k k1 k2
theorem wt_live {mm mk : Nat → Int32} {W a : Nat} (L : LV mm W mk) (ha : a < 200) (hm : mk a = nI 1) : wt mm mk W a = nI (tg mm mk a) := by
  have h := L.of ha hm
  rw [wt_some (ob_self h.2), if_pos ⟨h.1, hm⟩, Nat.sub_self, Nat.add_zero]
theorem FX_slid {mm mk mv fieldCount dataCount pinned age content ct : Nat → Int32} {W : Nat} (H : WF mm W) (hA : RA W mm fieldCount dataCount pinned age content) (L : LV mm W mk) (hv : ∀ t, t < 200 → mv t = wt mm mk W t) (hct : ∀ b, b < 200 → mk b = nI 1 → ∀ k, 1 ≤ k → k < zs mm b → ct (b + k) = nwd mm mk W b k) (owner : Nat → Int32) :
    ∃ o f d p g c, FX0_slide mk (nI W) owner fieldCount dataCount pinned age ct mv = some (o, f, d, p, g, c) ∧ SL mm mk W W o f d p g c := by
  have hW := H.size
  have key := it_ix (f := FX0_slide_L10 mk (nI W) mv) (fun a s => ∃ o f d p g c, s = (nI a, o, f, d, p, g, c) ∧ SL mm mk W a o f d p g c) 0 W (fun r => ∃ o f d p g c, r = (o, f, d, p, g, c) ∧ SL mm mk W W o f d p g c) (nI 0, fl owner 0 200 (eO none), fieldCount, dataCount, pinned, age, ct) (by omega) (by omega) ⟨_, _, _, _, _, _, rfl, ⟨fun b hb => absurd hb (Nat.not_lt_zero _), fun t ht _ => fl_in (Nat.zero_le t) ht, fun b _ hb hm => ?_⟩⟩ (fun a s ha hJ => ?_) (fun s hJ => ?_)
  · obtain ⟨r, k1, o, f, d, p, g, c, rfl, k2⟩ := key
    refine ⟨o, f, d, p, g, c, ?_, k2⟩
    clear k2 hct hv
    simp (disch := omega) only [FX0_slide, F_fill, ↓lm1, n_ofN, l0, l1, l2, l3, l4, l5, l6, l7, l8, l10, l20, l47, l80, l100, l127, l200, l400, l600, l800, l1000, l1200, l1206, l1210, l1222, n_add, n_clamp, n_gd, n_le_t, n_le_f, n_lt_t, n_lt_f, n_eq_t, n_eq_f, n_no, n_on, n_oo, n_olt, n_nlo, n_ole, Option.bind_some, Option.bind_none, Nat.zero_add, if_true, if_false, k1]
  · obtain ⟨h1, h2⟩ := L.of hb hm
    obtain ⟨a1, a2, a3, a4, a5⟩ := hA b h1 h2
    exact ⟨a1, a2, a3, a4, hct b hb hm⟩
  · obtain ⟨o, f, d, p, g, c, rfl, k2⟩ := hJ
    by_cases hm : mk a = nI 1
    · have hk := k2.put H L (by omega) hm
      obtain ⟨c1, c2, c3, c4, c5⟩ := k2.2.2 a (Nat.le_refl a) (by omega) hm
      obtain ⟨t1, t2, t3, t4, t5⟩ := tg_fit H L (show a < 200 by omega) hm
      have h9 := H.hd (a := a) (by omega) t3
      have hfz := h9.2.2.2.2.1
      have hmv := (hv a (by omega)).trans (wt_live L (by omega) hm)
      have hsh := FX_shift (owner := o) (pn := p) (ag := g) (ct := c) (to := tg mm mk a) (n := zs mm a) (c1.trans h9.2.2.1) c2 (by omega) (by omega) (by omega)
      refine ⟨_, ?_, _, _, _, _, _, _, rfl, hk⟩
      clear k2 hk hct hv c1 c2 c3 c4 c5 h9
      simp (disch := omega) only [FX0_slide_L10, hm, hmv, FX1_isAddress, ↓lm1, n_ofN, l0, l1, l2, l3, l4, l5, l6, l7, l8, l10, l20, l47, l80, l100, l127, l200, l400, l600, l800, l1000, l1200, l1206, l1210, l1222, n_add, n_clamp, n_gd, n_le_t, n_le_f, n_lt_t, n_lt_f, n_eq_t, n_eq_f, n_no, n_on, n_oo, n_olt, n_nlo, n_ole, Option.bind_some, Option.bind_none, Nat.zero_add, if_true, if_false, hsh]
    · have hm0 := L.no (a := a) (by omega) hm
      obtain ⟨s1, s2, s3⟩ := k2
      refine ⟨(nI (a + 1), o, f, d, p, g, c), ?_, o, f, d, p, g, c, rfl, fun b hb hmb => ?_, fun t ht hn => s2 t ht (fun b hb => hn b (by omega)), fun b hb => s3 b (by omega)⟩
      · clear s1 s2 s3 hct hv
        simp (disch := omega) only [FX0_slide_L10, ↓lm1, n_ofN, l0, l1, l2, l3, l4, l5, l6, l7, l8, l10, l20, l47, l80, l100, l127, l200, l400, l600, l800, l1000, l1200, l1206, l1210, l1222, n_add, n_clamp, n_gd, n_le_t, n_le_f, n_lt_t, n_lt_f, n_eq_t, n_eq_f, n_no, n_on, n_oo, n_olt, n_nlo, n_ole, Option.bind_some, Option.bind_none, Nat.zero_add, if_true, if_false, hm0]
      · rcases Nat.lt_or_ge b a with q | q
        · exact s1 b q hmb
        · have : b = a := by omega
          subst this
          exact absurd hmb hm
  · obtain ⟨o, f, d, p, g, c, rfl, k2⟩ := hJ
    refine ⟨(o, f, d, p, g, c), ?_, o, f, d, p, g, c, rfl, k2⟩
    clear k2 hct hv
    simp (disch := omega) only [FX0_slide_L10, ↓lm1, n_ofN, l0, l1, l2, l3, l4, l5, l6, l7, l8, l10, l20, l47, l80, l100, l127, l200, l400, l600, l800, l1000, l1200, l1206, l1210, l1222, n_add, n_clamp, n_gd, n_le_t, n_le_f, n_lt_t, n_lt_f, n_eq_t, n_eq_f, n_no, n_on, n_oo, n_olt, n_nlo, n_ole, Option.bind_some, Option.bind_none, Nat.zero_add, if_true, if_false]
