/-! the reference lays its heap out anew -/
theorem sm_one2 {f g : Nat → Nat} {b : Nat} : ∀ (n : Nat), b < n → f b = 0 → (∀ i, i < n → i ≠ b → g i = f i) → sm g n = sm f n + g b
  | 0, h, _, _ => absurd h (Nat.not_lt_zero _)
  | n + 1, h, h0, he => by
    unfold sm
    by_cases hb : b = n
    · subst hb
      rw [sm_congr b (fun i hi => he i (by omega) (by omega)), h0]
      omega
    · rw [sm_one2 n (by omega) h0 (fun i hi => he i (by omega)), he n (by omega) (by omega)]
      omega
theorem FM_gone {mm mk m : Nat → Int32} {W : Nat} (H : WF mm W) (hv : ∀ t, t < 200 → m (1000 + t) = wt mm mk W t) {x : Int32} (hx : Rf mm W x) : FX7_gone m x = some (gn mm mk W x) := by
  have hW := H.size
  rcases gn_cases H (mk := mk) hx with ⟨e1, e2⟩ | ⟨t, ht, e1, e2⟩
  · rw [e1, gn_none]
    simp (disch := omega) only [FX7_gone, ↓lm1, n_ofN, l0, l1, l2, l3, l4, l5, l6, l7, l8, l10, l20, l47, l80, l100, l127, l200, l400, l600, l800, l1000, l1200, l1206, l1210, l1222, n_add, n_clamp, n_gd, n_le_t, n_le_f, n_lt_t, n_lt_f, n_eq_t, n_eq_f, n_no, n_on, n_oo, n_olt, n_nlo, n_ole, Option.bind_some, Option.bind_none, Nat.zero_add, if_true, if_false]
  · have e4 := hv t (by omega)
    rw [e2, e1]
    clear hv e2
    simp (disch := omega) only [FX7_gone, ↓lm1, n_ofN, l0, l1, l2, l3, l4, l5, l6, l7, l8, l10, l20, l47, l80, l100, l127, l200, l400, l600, l800, l1000, l1200, l1206, l1210, l1222, n_add, n_clamp, n_gd, n_le_t, n_le_f, n_lt_t, n_lt_f, n_eq_t, n_eq_f, n_no, n_on, n_oo, n_olt, n_nlo, n_ole, Option.bind_some, Option.bind_none, Nat.zero_add, if_true, if_false, e4]
def NS (mm mk m0 : Nat → Int32) (W a : Nat) (m : Nat → Int32) : Prop :=
  (∀ b, b < a → mk b = nI 1 → m (tg mm mk b) = mm b ∧ m (200 + tg mm mk b) = mm (200 + b) ∧ m (400 + tg mm mk b) = mm (400 + b) ∧ m (600 + tg mm mk b) = mm (600 + b) + nI 1 ∧ ∀ k, 1 ≤ k → k < zs mm b → m (800 + tg mm mk b + k) = nwd mm mk W b k) ∧
  (∀ j, j < 200 → (∀ b, b < a → mk b = nI 1 → tg mm mk b ≠ j) → m j = nI 0) ∧
  (∀ j, 1000 ≤ j → m j = m0 j) ∧ sm (zs m) W = lw mm mk a
def mfo (mm m : Nat → Int32) (a to : Nat) : Nat → Int32 := upd (upd (upd (upd m to (nI (zs mm a))) (200 + to) (nI (zf mm a))) (400 + to) (mm (400 + a))) (600 + to) (mm (600 + a) + nI 1)
theorem mfo_at (mm m : Nat → Int32) (a to : Nat) (h : to < 200) : mfo mm m a to to = nI (zs mm a) ∧ mfo mm m a to (200 + to) = nI (zf mm a) ∧ mfo mm m a to (400 + to) = mm (400 + a) ∧ mfo mm m a to (600 + to) = mm (600 + a) + nI 1 ∧ ∀ j, j ≠ to → j ≠ 200 + to → j ≠ 400 + to → j ≠ 600 + to → mfo mm m a to j = m j := by
  unfold mfo
  refine ⟨?_, ?_, ?_, ?_, fun j h1 h2 h3 h4 => ?_⟩
  · rw [pk_un (by omega), pk_un (by omega), pk_un (by omega), pk_us]
  · rw [pk_un (by omega), pk_un (by omega), pk_us]
  · rw [pk_un (by omega), pk_us]
  · rw [pk_us]
  · rw [pk_un h4, pk_un h3, pk_un h2, pk_un h1]
theorem FM_cells {mm mk m m1 old : Nat → Int32} {W a to : Nat} (H : WF mm W) (ha : a < 200) (h0 : 0 < zs mm a) (ho : ∀ j, j < 1222 → old j = mm j) (hto : to + zs mm a ≤ 200) (hm : m (1000 + a) = nI to) (hv : ∀ t, t < 200 → m1 (1000 + t) = wt mm mk W t) :
    ∃ m2, g_it (FX7_rebuilds_L147 old (nI a) m) (nI 1, m1) = some m2 ∧ (∀ k, 1 ≤ k → k < zs mm a → m2 (800 + to + k) = nwd mm mk W a k) ∧ ∀ j, j < 801 + to ∨ 800 + to + zs mm a ≤ j → m2 j = m1 j := by
  have hz := H.sz ha
  have h9 := H.hd ha h0
  have hW := H.size
  have hoz := (ho a (by omega)).trans hz.1
  have hof := (ho (200 + a) (by omega)).trans h9.2.2.1
  have hz13 := hz.2
  have haW := h9.1
  have hf6 := h9.2.2.2.1
  refine it_ix (fun k s => 1 ≤ k ∧ ∃ m2, s = (nI k, m2) ∧ (∀ i, 1 ≤ i → i < k → m2 (800 + to + i) = nwd mm mk W a i) ∧ ∀ j, j < 801 + to ∨ 800 + to + k ≤ j → m2 j = m1 j) 1 (zs mm a) _ _ h0 (by omega) ⟨by omega, m1, rfl, fun i h1 h2 => by omega, fun j _ => rfl⟩ (fun k s hk hJ => ?_) (fun s hJ => ?_)
  · obtain ⟨k1, m2, rfl, k2, k3⟩ := hJ
    have how := ho (800 + a + k) (by omega)
    refine ⟨(nI (k + 1), upd m2 (800 + to + k) (nwd mm mk W a k)), ?_, by omega, _, rfl, fun i i1 i2 => ?_, fun j hj => ?_⟩
    · by_cases q : k ≤ zf mm a
      · have hg := FM_gone (mk := mk) (m := m2) H (fun t ht => (k3 (1000 + t) (by omega)).trans (hv t ht)) (H.rf ha h0 k1 q)
        have e : nwd mm mk W a k = gn mm mk W (mm (800 + a + k)) := if_pos q
        rw [e]
        clear k2 k3 hv ho h9 hz
        simp (disch := omega) only [FX7_rebuilds_L147, ↓lm1, n_ofN, l0, l1, l2, l3, l4, l5, l6, l7, l8, l10, l20, l47, l80, l100, l127, l200, l400, l600, l800, l1000, l1200, l1206, l1210, l1222, n_add, n_clamp, n_gd, n_le_t, n_le_f, n_lt_t, n_lt_f, n_eq_t, n_eq_f, n_no, n_on, n_oo, n_olt, n_nlo, n_ole, Option.bind_some, Option.bind_none, Nat.zero_add, if_true, if_false, hoz, hof, how, hm, hg]
      · have e : nwd mm mk W a k = mm (800 + a + k) := if_neg q
        rw [e]
        clear k2 k3 hv ho h9 hz
        simp (disch := omega) only [FX7_rebuilds_L147, ↓lm1, n_ofN, l0, l1, l2, l3, l4, l5, l6, l7, l8, l10, l20, l47, l80, l100, l127, l200, l400, l600, l800, l1000, l1200, l1206, l1210, l1222, n_add, n_clamp, n_gd, n_le_t, n_le_f, n_lt_t, n_lt_f, n_eq_t, n_eq_f, n_no, n_on, n_oo, n_olt, n_nlo, n_ole, Option.bind_some, Option.bind_none, Nat.zero_add, if_true, if_false, hoz, hof, how, hm]
    · by_cases q : i = k
      · subst q
        exact pk_us
      · rw [pk_un (by omega)]
        exact k2 i i1 (by omega)
    · rw [pk_un (by omega)]
      exact k3 j (by omega)
  · obtain ⟨k1, m2, rfl, k2, k3⟩ := hJ
    refine ⟨m2, ?_, k2, k3⟩
    clear k2 k3 hv ho h9 hz
    simp (disch := omega) only [FX7_rebuilds_L147, ↓lm1, n_ofN, l0, l1, l2, l3, l4, l5, l6, l7, l8, l10, l20, l47, l80, l100, l127, l200, l400, l600, l800, l1000, l1200, l1206, l1210, l1222, n_add, n_clamp, n_gd, n_le_t, n_le_f, n_lt_t, n_lt_f, n_eq_t, n_eq_f, n_no, n_on, n_oo, n_olt, n_nlo, n_ole, Option.bind_some, Option.bind_none, Nat.zero_add, if_true, if_false, hoz]
theorem zs_nI {m : Nat → Int32} {a n : Nat} (h : m a = nI n) (hn : n < 1000) : zs m a = n := by
  unfold zs
  rw [h, n_clamp (by omega)]
theorem NS.put {mm mk m0 m m2 : Nat → Int32} {W a : Nat} (H : WF mm W) (L : LV mm W mk) (S : NS mm mk m0 W a m) (ha : a < 200) (hm : mk a = nI 1) (h1 : ∀ k, 1 ≤ k → k < zs mm a → m2 (800 + tg mm mk a + k) = nwd mm mk W a k) (h2 : ∀ j, j < 801 + tg mm mk a ∨ 800 + tg mm mk a + zs mm a ≤ j → m2 j = mfo mm m a (tg mm mk a) j) : NS mm mk m0 W (a + 1) m2 := by
  obtain ⟨s1, s2, s3, s4⟩ := S
  obtain ⟨t1, t2, t3, t4, t5⟩ := tg_fit H L ha hm
  have hz := H.sz ha
  have h9 := H.hd ha t3
  obtain ⟨q1, q2, q3, q4, q5⟩ := mfo_at mm m a (tg mm mk a) (by omega)
  have hb0 : zs m (tg mm mk a) = 0 := zs_nI (s2 (tg mm mk a) (by omega) (fun b hb hmb => by
    have := tg_sep H L hb ha hmb hm
    have := (tg_fit H L (show b < 200 by omega) hmb).2.2.1
    omega)) (by omega)
  have hlow : ∀ j, j < 200 → j ≠ tg mm mk a → m2 j = m j := fun j hj hne => by
    rw [h2 j (by omega)]
    exact q5 j hne (by omega) (by omega) (by omega)
  have hto : m2 (tg mm mk a) = nI (zs mm a) := by
    rw [h2 _ (by omega)]
    exact q1
  refine ⟨fun b hb hmb => ?_, fun j hj hn => ?_, fun j hj => ?_, ?_⟩
  · by_cases e : b = a
    · subst e
      refine ⟨hto.trans hz.1.symm, ?_, ?_, ?_, h1⟩
      · rw [h2 _ (by omega), q2]
        exact h9.2.2.1.symm
      · rw [h2 _ (by omega), q3]
      · rw [h2 _ (by omega), q4]
    · obtain ⟨d1, d2, d3, d4, d5⟩ := s1 b (by omega) hmb
      have hs := tg_sep H L (show b < a by omega) ha hmb hm
      have hz2 := (tg_fit H L (show b < 200 by omega) hmb).2.2.1
      refine ⟨?_, ?_, ?_, ?_, fun k k1 k2 => ?_⟩
      · rw [hlow _ (by omega) (by omega)]; exact d1
      · rw [h2 _ (by omega), q5 _ (by omega) (by omega) (by omega) (by omega)]; exact d2
      · rw [h2 _ (by omega), q5 _ (by omega) (by omega) (by omega) (by omega)]; exact d3
      · rw [h2 _ (by omega), q5 _ (by omega) (by omega) (by omega) (by omega)]; exact d4
      · rw [h2 _ (by omega), q5 _ (by omega) (by omega) (by omega) (by omega)]; exact d5 k k1 k2
  · have hne := hn a (by omega) hm
    rw [hlow j hj (fun z => hne z.symm)]
    exact s2 j hj (fun b hb => hn b (by omega))
  · rw [h2 j (by omega), q5 j (by omega) (by omega) (by omega) (by omega)]
    exact s3 j hj
  · have e1 := sm_one2 (f := zs m) (g := zs m2) (b := tg mm mk a) W (by omega) hb0 (fun i hi hne => same_zs (hlow i (by omega) hne))
    have e2 : lw mm mk (a + 1) = lw mm mk a + (if mk a = nI 1 then zs mm a else 0) := rfl
    rw [e1, s4, e2, if_pos hm, zs_nI hto (by omega)]
theorem sm_0 {f : Nat → Nat} : ∀ n, (∀ i, i < n → f i = 0) → sm f n = 0
  | 0, _ => rfl
  | n + 1, h => by
    unfold sm
    rw [sm_0 n (fun i hi => h i (by omega)), h n (by omega)]
/-- the heap after the collection, but for the report and the counts -/
def NF (mm mk : Nat → Int32) (W : Nat) (m : Nat → Int32) : Prop :=
  (∀ b, b < W → mk b = nI 1 → m (tg mm mk b) = mm b ∧ m (200 + tg mm mk b) = mm (200 + b) ∧ m (400 + tg mm mk b) = mm (400 + b) ∧ m (600 + tg mm mk b) = mm (600 + b) + nI 1 ∧ ∀ k, 1 ≤ k → k < zs mm b → m (800 + tg mm mk b + k) = nwd mm mk W b k) ∧
  (∀ j, j < 200 → (∀ b, b < W → mk b = nI 1 → tg mm mk b ≠ j) → m j = nI 0) ∧ sm (zs m) W = lw mm mk W ∧
  (∀ t, t < 200 → m (1000 + t) = wt mm mk W t) ∧ ∀ k, k < 10 → m (1200 + k) = gn mm mk W (mm (1200 + k))
theorem FM_rebuilt {mm mk mk' m0 old : Nat → Int32} {W : Nat} (H : WF mm W) (L : LV mm W mk) (hk : ∀ h, h < 200 → mk' h = mk h) (ho : ∀ j, j < 1222 → old j = mm j) (hv : ∀ t, t < 200 → m0 (1000 + t) = wt mm mk W t) (hh : ∀ j, 1200 ≤ j → m0 j = mm j) :
    ∃ m, FX7_rebuilds m0 old mk' = some m ∧ NF mm mk W m ∧ ∀ j, 1210 ≤ j → m j = mm j := by
  have hW := H.size
  have k0 : g_it FX7_rebuilds_L2 (nI 0, m0) = some (fl m0 0 1000 (nI 0)) := by
    have h0 : (nI 0, m0) = (fun i => (nI i, fl m0 0 i (nI 0))) 0 := by
      show (nI 0, m0) = (nI 0, fl m0 0 0 (nI 0))
      rw [fl_0]
    rw [h0]
    have l1000' : (1000 : Int32) = nI 1000 := l1000
    refine it_to (fun i => (nI i, fl m0 0 i (nI 0))) 0 1000 _ (by omega) (by omega) (fun i _ hi => ?_) ?_
    · clear hv hh ho hk
      simp (disch := omega) only [FX7_rebuilds_L2, ↓lm1, n_ofN, l0, l1, l2, l3, l4, l5, l6, l7, l8, l10, l20, l47, l80, l100, l127, l200, l400, l600, l800, l1000, l1200, l1206, l1210, l1222, n_add, n_clamp, n_gd, n_le_t, n_le_f, n_lt_t, n_lt_f, n_eq_t, n_eq_f, n_no, n_on, n_oo, n_olt, n_nlo, n_ole, Option.bind_some, Option.bind_none, Nat.zero_add, if_true, if_false, fl_s (Nat.zero_le i)]
    · clear hv hh ho hk
      simp (disch := omega) only [FX7_rebuilds_L2, ↓lm1, n_ofN, l0, l1, l2, l3, l4, l5, l6, l7, l8, l10, l20, l47, l80, l100, l127, l200, l400, l600, l800, l1000, l1200, l1206, l1210, l1222, n_add, n_clamp, n_gd, n_le_t, n_le_f, n_lt_t, n_lt_f, n_eq_t, n_eq_f, n_no, n_on, n_oo, n_olt, n_nlo, n_ole, Option.bind_some, Option.bind_none, Nat.zero_add, if_true, if_false]
  have key := it_ix (f := FX7_rebuilds_L24 old mk') (fun a s => ∃ m, s = (nI a, m) ∧ NS mm mk m0 W a m) 0 W (fun m => NS mm mk m0 W W m) (nI 0, fl m0 0 1000 (nI 0)) (by omega) (by omega) ⟨_, rfl, fun b hb => absurd hb (Nat.not_lt_zero _), fun j hj _ => fl_in (Nat.zero_le j) (by omega), fun j hj => fl_out (by omega), ?_⟩ (fun a s ha hJ => ?_) (fun s hJ => ?_)
  · obtain ⟨m1, k1, s1, s2, s3, s4⟩ := key
    have key2 := it_ix (f := FX7_rebuilds_L224 old) (fun k s => ∃ m, s = (nI k, m) ∧ (∀ i, i < k → m (1200 + i) = gn mm mk W (mm (1200 + i))) ∧ ∀ j, j < 1200 ∨ 1200 + k ≤ j → m j = m1 j) 0 10 (fun m => (∀ i, i < 10 → m (1200 + i) = gn mm mk W (mm (1200 + i))) ∧ ∀ j, j < 1200 ∨ 1200 + 10 ≤ j → m j = m1 j) (nI 0, m1) (by omega) (by omega) ⟨m1, rfl, fun i hi => absurd hi (Nat.not_lt_zero _), fun j _ => rfl⟩ (fun k s hk2 hJ => ?_) (fun s hJ => ?_)
    · obtain ⟨m, k2, k3, k4⟩ := key2
      refine ⟨m, ?_, ⟨fun b hb hmb => ?_, fun j hj hn => ?_, ?_, fun t ht => ?_, k3⟩, fun j hj => ?_⟩
      · clear s1 s2 s3 s4 k3 k4 hv hh ho hk
        simp (disch := omega) only [FX7_rebuilds, ↓lm1, n_ofN, l0, l1, l2, l3, l4, l5, l6, l7, l8, l10, l20, l47, l80, l100, l127, l200, l400, l600, l800, l1000, l1200, l1206, l1210, l1222, n_add, n_clamp, n_gd, n_le_t, n_le_f, n_lt_t, n_lt_f, n_eq_t, n_eq_f, n_no, n_on, n_oo, n_olt, n_nlo, n_ole, Option.bind_some, Option.bind_none, Nat.zero_add, if_true, if_false, k0, k1, k2]
      · obtain ⟨d1, d2, d3, d4, d5⟩ := s1 b hb hmb
        obtain ⟨t1, t2, t3, t4, t5⟩ := tg_fit H L (show b < 200 by omega) hmb
        refine ⟨?_, ?_, ?_, ?_, fun k q1 q2 => ?_⟩
        · rw [k4 _ (by omega)]; exact d1
        · rw [k4 _ (by omega)]; exact d2
        · rw [k4 _ (by omega)]; exact d3
        · rw [k4 _ (by omega)]; exact d4
        · rw [k4 _ (by omega)]; exact d5 k q1 q2
      · rw [k4 j (by omega)]; exact s2 j hj hn
      · rw [← s4]
        exact sm_congr W (fun i hi => same_zs (k4 i (by omega)))
      · rw [k4 _ (by omega), s3 _ (by omega)]; exact hv t ht
      · rw [k4 j (by omega), s3 j (by omega)]; exact hh j (by omega)
    · obtain ⟨m, rfl, k3, k4⟩ := hJ
      have hg := FM_gone (mk := mk) (m := m) H (fun t ht => by rw [k4 _ (by omega), s3 _ (by omega)]; exact hv t ht) (H.rt hk2)
      have hor := ho (1200 + k) (by omega)
      refine ⟨(nI (k + 1), upd m (1200 + k) (gn mm mk W (mm (1200 + k)))), ?_, _, rfl, fun i hi => ?_, fun j hj => ?_⟩
      · clear s1 s2 s3 s4 k3 k4 hv hh ho hk
        simp (disch := omega) only [FX7_rebuilds_L224, ↓lm1, n_ofN, l0, l1, l2, l3, l4, l5, l6, l7, l8, l10, l20, l47, l80, l100, l127, l200, l400, l600, l800, l1000, l1200, l1206, l1210, l1222, n_add, n_clamp, n_gd, n_le_t, n_le_f, n_lt_t, n_lt_f, n_eq_t, n_eq_f, n_no, n_on, n_oo, n_olt, n_nlo, n_ole, Option.bind_some, Option.bind_none, Nat.zero_add, if_true, if_false, hor, hg]
      · by_cases q : i = k
        · subst q
          exact pk_us
        · rw [pk_un (by omega)]
          exact k3 i (by omega)
      · rw [pk_un (by omega)]
        exact k4 j (by omega)
    · obtain ⟨m, rfl, k3, k4⟩ := hJ
      refine ⟨m, ?_, k3, k4⟩
      clear s1 s2 s3 s4 k3 k4 hv hh ho hk
      simp (disch := omega) only [FX7_rebuilds_L224, ↓lm1, n_ofN, l0, l1, l2, l3, l4, l5, l6, l7, l8, l10, l20, l47, l80, l100, l127, l200, l400, l600, l800, l1000, l1200, l1206, l1210, l1222, n_add, n_clamp, n_gd, n_le_t, n_le_f, n_lt_t, n_lt_f, n_eq_t, n_eq_f, n_no, n_on, n_oo, n_olt, n_nlo, n_ole, Option.bind_some, Option.bind_none, Nat.zero_add, if_true, if_false]
  · rw [sm_0 W (fun i hi => zs_nI (fl_in (Nat.zero_le i) (by omega)) (by omega))]
    rfl
  · obtain ⟨m, rfl, S⟩ := hJ
    have hw : m 1216 = nI W := (S.2.2.1 1216 (by omega)).trans ((hh 1216 (by omega)).trans H.hw)
    have hz := H.sz (a := a) (by omega)
    have hoz : old a = nI (zs mm a) := (ho a (by omega)).trans hz.1
    have hz13 := hz.2
    by_cases hm : mk a = nI 1
    · have hm' := (hk a (by omega)).trans hm
      obtain ⟨t1, t2, t3, t4, t5⟩ := tg_fit H L (show a < 200 by omega) hm
      have hw0 : ∀ t, t < 200 → m (1000 + t) = wt mm mk W t := fun t ht => (S.2.2.1 (1000 + t) (by omega)).trans (hv t ht)
      have hmv : m (1000 + a) = nI (tg mm mk a) := (hw0 a (by omega)).trans (wt_live L (by omega) hm)
      have hof : old (200 + a) = nI (zf mm a) := (ho (200 + a) (by omega)).trans (H.hd (by omega) t3).2.2.1
      have ho4 := ho (400 + a) (by omega)
      have ho6 := ho (600 + a) (by omega)
      obtain ⟨m2, c1, c2, c3⟩ := FM_cells (mk := mk) (m := m) (m1 := mfo mm m a (tg mm mk a)) (to := tg mm mk a) H (show a < 200 by omega) t3 ho (by omega) hmv (fun t ht => by
        rw [(mfo_at mm m a (tg mm mk a) (by omega)).2.2.2.2 _ (by omega) (by omega) (by omega) (by omega)]
        exact hw0 t ht)
      refine ⟨(nI (a + 1), m2), ?_, m2, rfl, S.put H L (by omega) hm c2 c3⟩
      unfold mfo at c1
      clear S hw0 c2 c3 hv hh ho hk hz
      simp (disch := omega) only [FX7_rebuilds_L24, hw, hoz, hof, ho4, ho6, hm', hmv, ↓lm1, n_ofN, l0, l1, l2, l3, l4, l5, l6, l7, l8, l10, l20, l47, l80, l100, l127, l200, l400, l600, l800, l1000, l1200, l1206, l1210, l1222, n_add, n_clamp, n_gd, n_le_t, n_le_f, n_lt_t, n_lt_f, n_eq_t, n_eq_f, n_no, n_on, n_oo, n_olt, n_nlo, n_ole, Option.bind_some, Option.bind_none, Nat.zero_add, if_true, if_false, c1]
    · have hm0 := (hk a (by omega)).trans (L.no (a := a) (by omega) hm)
      obtain ⟨s1, s2, s3, s4⟩ := S
      refine ⟨(nI (a + 1), m), ?_, m, rfl, fun b hb hmb => ?_, fun j hj hn => s2 j hj (fun b hb => hn b (by omega)), s3, ?_⟩
      · clear s1 s2 s3 s4 hv hh ho hk hz
        by_cases h0 : zs mm a = 0
        · simp (disch := omega) only [FX7_rebuilds_L24, hw, hoz, ↓lm1, n_ofN, l0, l1, l2, l3, l4, l5, l6, l7, l8, l10, l20, l47, l80, l100, l127, l200, l400, l600, l800, l1000, l1200, l1206, l1210, l1222, n_add, n_clamp, n_gd, n_le_t, n_le_f, n_lt_t, n_lt_f, n_eq_t, n_eq_f, n_no, n_on, n_oo, n_olt, n_nlo, n_ole, Option.bind_some, Option.bind_none, Nat.zero_add, if_true, if_false]
        · simp (disch := omega) only [FX7_rebuilds_L24, hw, hoz, hm0, ↓lm1, n_ofN, l0, l1, l2, l3, l4, l5, l6, l7, l8, l10, l20, l47, l80, l100, l127, l200, l400, l600, l800, l1000, l1200, l1206, l1210, l1222, n_add, n_clamp, n_gd, n_le_t, n_le_f, n_lt_t, n_lt_f, n_eq_t, n_eq_f, n_no, n_on, n_oo, n_olt, n_nlo, n_ole, Option.bind_some, Option.bind_none, Nat.zero_add, if_true, if_false]
      · rcases Nat.lt_or_ge b a with q | q
        · exact s1 b q hmb
        · have : b = a := by omega
          subst this
          exact absurd hmb hm
      · have e2 : lw mm mk (a + 1) = lw mm mk a + (if mk a = nI 1 then zs mm a else 0) := rfl
        rw [s4, e2, if_neg hm, Nat.add_zero]
  · obtain ⟨m, rfl, S⟩ := hJ
    have hw : m 1216 = nI W := (S.2.2.1 1216 (by omega)).trans ((hh 1216 (by omega)).trans H.hw)
    refine ⟨m, ?_, S⟩
    clear S hv hh ho hk
    simp (disch := omega) only [FX7_rebuilds_L24, hw, ↓lm1, n_ofN, l0, l1, l2, l3, l4, l5, l6, l7, l8, l10, l20, l47, l80, l100, l127, l200, l400, l600, l800, l1000, l1200, l1206, l1210, l1222, n_add, n_clamp, n_gd, n_le_t, n_le_f, n_lt_t, n_lt_f, n_eq_t, n_eq_f, n_no, n_on, n_oo, n_olt, n_nlo, n_ole, Option.bind_some, Option.bind_none, Nat.zero_add, if_true, if_false]
