/-! the class goes by a queue -/
def sm (f : Nat → Nat) : Nat → Nat
  | 0 => 0
  | n + 1 => sm f n + f n
theorem sm_congr {f g : Nat → Nat} : ∀ (n : Nat), (∀ i, i < n → f i = g i) → sm f n = sm g n
  | 0, _ => rfl
  | n + 1, h => by
    unfold sm
    rw [sm_congr n (fun i hi => h i (by omega)), h n (by omega)]
theorem sm_one {f g : Nat → Nat} {b : Nat} : ∀ (n : Nat), b < n → f b = 0 → (∀ i, i ≠ b → g i = f i) → sm g n = sm f n + g b
  | 0, h, _, _ => absurd h (Nat.not_lt_zero _)
  | n + 1, h, h0, he => by
    unfold sm
    by_cases hb : b = n
    · subst hb
      rw [sm_congr b (fun i hi => he i (by omega)), h0]
      omega
    · rw [sm_one n (by omega) h0 he, he n (by omega)]
      omega
def vs (steps : Nat → Int32) (h : Nat) : Bool := decide (¬ steps h = eO none)
def live (mm steps : Nat → Int32) (W : Nat) : Nat := sm (fun h => if steps h = eO none then 0 else zs mm h) W
def qz (mm queue : Nat → Int32) (j : Nat) : Nat := zs mm (queue j).toNatClampNeg
def XQ (mm : Nat → Int32) (W : Nat) (wo : Option Nat) (n : Nat) (steps queue : Nat → Int32) : Prop :=
  (∀ j, j < n → ∃ h d, h < W ∧ d ≤ j ∧ queue j = nI h ∧ steps h = nI d ∧ Lst mm W wo d h) ∧
  (∀ h, h < 200 → ¬ steps h = eO none → ∃ j, j < n ∧ queue j = nI h) ∧
  n = cnt (vs steps) 200 ∧ sm (qz mm queue) n = live mm steps W ∧
  ∀ j k h h' d d', j ≤ k → k < n → queue j = nI h → queue k = nI h' → h < 200 → h' < 200 → steps h = nI d → steps h' = nI d' → d < 1000 → d' < 1000 → d ≤ d'
theorem cnt_one {p q : Nat → Bool} {b : Nat} : ∀ (n : Nat), b < n → p b = false → q b = true → (∀ i, i ≠ b → q i = p i) → cnt q n = cnt p n + 1
  | 0, h, _, _, _ => absurd h (Nat.not_lt_zero _)
  | n + 1, h, h0, h1, he => by
    by_cases hb : b = n
    · subst hb
      have : cnt q b = cnt p b := by
        refine Nat.le_antisymm (cnt_mono b (fun i hi hq => ?_)) (cnt_mono b (fun i hi hq => ?_))
        · rw [← he i (by omega)]; exact hq
        · rw [he i (by omega)]; exact hq
      rw [cnt_t h1, cnt_f h0, this]
    · have ih := cnt_one n (by omega) h0 h1 he
      have hn := he n (by omega)
      unfold cnt
      rw [hn, ih]
      omega
theorem XQ.le {mm steps queue : Nat → Int32} {W n : Nat} {wo : Option Nat} (X : XQ mm W wo n steps queue) : n ≤ 200 := by
  rw [X.2.2.1]
  exact cnt_le _ _
theorem XQ.push {mm steps queue : Nat → Int32} {W n b d : Nat} {wo : Option Nat} (H : WF mm W) (X : XQ mm W wo n steps queue) (hb : b < W) (hnb : steps b = eO none) (hl : Lst mm W wo d b) (hd : d ≤ n) (hs : ∀ j h e, j < n → queue j = nI h → h < 200 → steps h = nI e → e < 1000 → e ≤ d) :
    n < 200 ∧ XQ mm W wo (n + 1) (upd steps b (nI d)) (upd queue n (nI b)) := by
  have hW := H.size
  obtain ⟨xA, xB, xN, xS, xO⟩ := id X
  have hn : n < 200 := by
    rw [xN]
    have h1 : cnt (vs steps) 200 < cnt (fun _ => true) 200 := cnt_strict 200 (fun _ _ _ => rfl) ⟨b, by omega, by simp [vs, hnb], rfl⟩
    have h2 := cnt_le (fun _ => true) 200
    omega
  -- an old entry isn't b
  have hold : ∀ j, j < n → ∃ h d, h < W ∧ d ≤ j ∧ queue j = nI h ∧ steps h = nI d ∧ Lst mm W wo d h ∧ h ≠ b := fun j hj => by
    obtain ⟨h, e, h1, h2, h3, h4, h5⟩ := xA j hj
    refine ⟨h, e, h1, h2, h3, h4, h5, fun z => ?_⟩
    rw [z, hnb] at h4
    exact n_ne_m1 (by omega) h4.symm
  refine ⟨hn, fun j hj => ?_, fun h hh hv => ?_, ?_, ?_, ?_⟩
  · by_cases hjn : j = n
    · subst hjn
      exact ⟨b, d, hb, hd, pk_us, pk_us, hl⟩
    · obtain ⟨h, e, h1, h2, h3, h4, h5, h6⟩ := hold j (by omega)
      exact ⟨h, e, h1, h2, by rw [pk_un hjn]; exact h3, by rw [pk_un h6]; exact h4, h5⟩
  · by_cases hhb : h = b
    · subst hhb
      exact ⟨n, by omega, pk_us⟩
    · rw [pk_un hhb] at hv
      obtain ⟨j, h1, h2⟩ := xB h hh hv
      exact ⟨j, by omega, by rw [pk_un (by omega)]; exact h2⟩
  · have : cnt (vs (upd steps b (nI d))) 200 = cnt (vs steps) 200 + 1 := by
      refine cnt_one (b := b) 200 (by omega) (by simp [vs, hnb]) ?_ (fun i hi => ?_)
      · simp only [vs, pk_us, decide_eq_true_eq]
        exact n_ne_m1 (by omega)
      · simp only [vs, pk_un hi]
    rw [this, ← xN]
  · have e1 : sm (qz mm (upd queue n (nI b))) (n + 1) = sm (qz mm queue) n + zs mm b := by
      show sm (qz mm (upd queue n (nI b))) n + qz mm (upd queue n (nI b)) n = _
      rw [sm_congr (g := qz mm queue) n (fun i hi => by unfold qz; rw [pk_un (by omega)])]
      unfold qz
      rw [pk_us, n_clamp (by omega)]
    have e2 : live mm (upd steps b (nI d)) W = live mm steps W + zs mm b := by
      unfold live
      rw [sm_one (f := fun h => if steps h = eO none then 0 else zs mm h) (b := b) W hb (if_pos hnb) (fun i hi => by simp only [pk_un hi])]
      simp only [pk_us]
      rw [if_neg (n_ne_m1 (by omega))]
    rw [e1, e2, xS]
  · intro j k h h' e e' hjk hk q1 q2 g1 g2 s1 s2 l1 l2
    by_cases hjn : j = n
    · have hkn : k = n := by omega
      subst hjn; subst hkn
      rw [q1] at q2
      have := (nI_eq (by omega) (by omega)).mp q2
      subst this
      rw [s1] at s2
      have := (nI_eq (by omega) (by omega)).mp s2
      omega
    · rw [pk_un hjn] at q1
      obtain ⟨h0, e0, h1, h2, h3, h4, h5, h6⟩ := hold j (by omega)
      rw [q1] at h3
      have := (nI_eq (by omega) (by omega)).mp h3
      subst this
      rw [pk_un h6] at s1
      by_cases hkn : k = n
      · subst hkn
        rw [pk_us] at q2
        have := (nI_eq (by omega) (by omega)).mp q2
        subst this
        rw [pk_us] at s2
        have := (nI_eq (by omega) (by omega)).mp s2
        subst this
        exact hs j h e (by omega) q1 g1 s1 l1
      · rw [pk_un hkn] at q2
        obtain ⟨h0', e0', h1', h2', h3', h4', h5', h6'⟩ := hold k (by omega)
        rw [q2] at h3'
        have := (nI_eq (by omega) (by omega)).mp h3'
        subst this
        rw [pk_un h6'] at s2
        exact xO j k h h' e e' hjk (by omega) q1 q2 g1 g2 s1 s2 l1 l2
/-- what arriving at a place does -/
theorem FX_arrive0 {steps queue : Nat → Int32} {n d : Nat} {wo o : Option Nat} (hw : ∀ w, wo = some w → w < 2147483648) (ho : o = none ∨ ∃ b, o = some b ∧ b < 200 ∧ (wo = some b ∨ ¬ steps b = eO none)) : FX3_arrive (nI n) steps queue (eO o) (nI d) (eO wo) = some (nI n, steps, queue) := by
  rcases ho with rfl | ⟨b, rfl, hb, hv⟩
  · simp (disch := omega) only [FX3_arrive, ↓lm1, n_ofN, l0, l1, l2, l3, l4, l5, l6, l7, l8, l10, l20, l47, l80, l100, l127, l200, l400, l600, l800, l1000, l1200, l1206, l1210, l1222, n_add, n_clamp, n_gd, n_le_t, n_le_f, n_lt_t, n_lt_f, n_eq_t, n_eq_f, n_no, n_on, n_oo, n_olt, n_nlo, n_ole, Option.bind_some, Option.bind_none, Nat.zero_add, if_true, if_false]
  · by_cases hq : nI b = eO wo
    · simp (disch := omega) only [FX3_arrive, eO_some, ↓lm1, n_ofN, l0, l1, l2, l3, l4, l5, l6, l7, l8, l10, l20, l47, l80, l100, l127, l200, l400, l600, l800, l1000, l1200, l1206, l1210, l1222, n_add, n_clamp, n_gd, n_le_t, n_le_f, n_lt_t, n_lt_f, n_eq_t, n_eq_f, n_no, n_on, n_oo, n_olt, n_nlo, n_ole, Option.bind_some, Option.bind_none, Nat.zero_add, if_true, if_false, if_pos hq]
    · rcases hv with hv | hv
      · exact absurd ((wo_eq (by omega) hw).mpr hv) hq
      · simp (disch := omega) only [FX3_arrive, eO_some, ↓lm1, n_ofN, l0, l1, l2, l3, l4, l5, l6, l7, l8, l10, l20, l47, l80, l100, l127, l200, l400, l600, l800, l1000, l1200, l1206, l1210, l1222, n_add, n_clamp, n_gd, n_le_t, n_le_f, n_lt_t, n_lt_f, n_eq_t, n_eq_f, n_no, n_on, n_oo, n_olt, n_nlo, n_ole, Option.bind_some, Option.bind_none, Nat.zero_add, if_true, if_false, if_neg hq, if_neg hv]
theorem FX_arrive1 {steps queue : Nat → Int32} {n d b : Nat} {wo : Option Nat} (hw : ∀ w, wo = some w → w < 2147483648) (hb : b < 200) (hn : n < 200) (hwb : wo ≠ some b) (hv : steps b = eO none) : FX3_arrive (nI n) steps queue (nI b) (nI d) (eO wo) = some (nI (n + 1), upd steps b (nI d), upd queue n (nI b)) := by
  have hq : ¬ nI b = eO wo := fun z => hwb ((wo_eq (by omega) hw).mp z)
  simp (disch := omega) only [FX3_arrive, ↓lm1, n_ofN, l0, l1, l2, l3, l4, l5, l6, l7, l8, l10, l20, l47, l80, l100, l127, l200, l400, l600, l800, l1000, l1200, l1206, l1210, l1222, n_add, n_clamp, n_gd, n_le_t, n_le_f, n_lt_t, n_lt_f, n_eq_t, n_eq_f, n_no, n_on, n_oo, n_olt, n_nlo, n_ole, Option.bind_some, Option.bind_none, Nat.zero_add, if_true, if_false, if_neg hq, if_pos hv]
/-- the class's sources -/
def XS (mm : Nat → Int32) (W : Nat) (wo : Option Nat) (n : Nat) (steps queue : Nat → Int32) (P : Nat → Prop) : Prop := XQ mm W wo n steps queue ∧ FS steps P
theorem XS.arrive {mm steps queue : Nat → Int32} {W n : Nat} {wo o : Option Nat} {P : Nat → Prop} (H : WF mm W) (hw : ∀ w, wo = some w → w < 2147483648) (X : XS mm W wo n steps queue P) (ho : ∀ b, o = some b → b < W ∧ (wo ≠ some b → Src mm W wo b)) :
    ∃ n' steps' queue', FX3_arrive (nI n) steps queue (eO o) (nI 0) (eO wo) = some (nI n', steps', queue') ∧ XS mm W wo n' steps' queue' (fun h => P h ∨ (wo ≠ some h ∧ o = some h)) := by
  have hW := H.size
  obtain ⟨xq, xf⟩ := X
  cases o with
  | none =>
    refine ⟨n, steps, queue, FX_arrive0 hw (Or.inl rfl), xq, xf.eqv (fun h hh => ⟨Or.inl, fun z => z.elim id (fun y => by cases y.2)⟩)⟩
  | some b =>
    obtain ⟨hb, hsrc⟩ := ho b rfl
    by_cases hwb : wo = some b
    · refine ⟨n, steps, queue, FX_arrive0 hw (Or.inr ⟨b, rfl, by omega, Or.inl hwb⟩), xq, xf.eqv (fun h hh => ⟨Or.inl, fun z => z.elim id (fun y => ?_)⟩)⟩
      obtain ⟨y1, y2⟩ := y
      cases y2
      exact absurd hwb y1
    · by_cases hv : steps b = eO none
      · have hp := xq.push H hb hv (d := 0) ⟨hsrc hwb, fun d' hd' => absurd hd' (Nat.not_lt_zero _)⟩ (by omega) (fun j h e hj hq h200 he hl => by
          rcases xf h h200 with ⟨q, _⟩ | ⟨q, _⟩
          · rw [q] at he
            have := (nI_eq (by omega) (by omega)).mp he
            omega
          · rw [q] at he
            exact absurd he.symm (n_ne_m1 (by omega)))
        refine ⟨n + 1, upd steps b (nI 0), upd queue n (nI b), FX_arrive1 hw (by omega) hp.1 hwb hv, hp.2, fun h hh => ?_⟩
        by_cases hhb : h = b
        · subst hhb
          exact Or.inl ⟨pk_us, Or.inr ⟨hwb, rfl⟩⟩
        · rw [pk_un hhb]
          rcases xf h hh with ⟨a, c⟩ | ⟨a, c⟩
          · exact Or.inl ⟨a, Or.inl c⟩
          · exact Or.inr ⟨a, fun z => by
              rcases z with z | ⟨_, z⟩
              · exact c z
              · cases z; exact hhb rfl⟩
      · refine ⟨n, steps, queue, FX_arrive0 hw (Or.inr ⟨b, rfl, by omega, Or.inr hv⟩), xq, fun h hh => ?_⟩
        rcases xf h hh with ⟨a, c⟩ | ⟨a, c⟩
        · exact Or.inl ⟨a, Or.inl c⟩
        · exact Or.inr ⟨a, fun z => by
            rcases z with z | ⟨_, z⟩
            · exact c z
            · cases z; exact hv a⟩
theorem XS.eqv {mm steps queue : Nat → Int32} {W n : Nat} {wo : Option Nat} {P Q : Nat → Prop} (h : XS mm W wo n steps queue P) (e : ∀ h, h < 200 → (P h ↔ Q h)) : XS mm W wo n steps queue Q := ⟨h.1, h.2.eqv e⟩
theorem FX_srcs {mm owner pinned roots : Nat → Int32} {W : Nat} {wo : Option Nat} (H : WF mm W) (hO : RO W mm owner) (hN : ∀ a, a < W → 0 < zs mm a → pinned a = mm (400 + a)) (hR : ∀ k, k < 6 → roots k = mm (1200 + k)) (hw : ∀ w, wo = some w → w < 2147483648) (steps queue : Nat → Int32) :
    ∃ n1 s1 q1 n2 s2 q2, g_it (FX3_trace_L15 (nI W) owner roots (eO wo)) (nI 0, nI 0, fl steps 0 200 (eO none), queue) = some (nI n1, s1, q1) ∧ g_it (FX3_trace_L45 (nI W) owner pinned (eO wo)) (nI 0, nI n1, s1, q1) = some (nI n2, s2, q2) ∧ XS mm W wo n2 s2 q2 (Src mm W wo) := by
  have hW := H.size
  have hnone : ∀ h, h < 200 → fl steps 0 200 (eO none) h = eO none := fun h hh => fl_in (by omega) hh
  have x0 : XS mm W wo 0 (fl steps 0 200 (eO none)) queue (fun h => wo ≠ some h ∧ ∃ k, k < 0 ∧ obI mm W (mm (1200 + k)) = some h) := by
    refine ⟨⟨fun j hj => absurd hj (Nat.not_lt_zero _), fun h hh hv => absurd (hnone h hh) hv, ?_, ?_, fun j k h h' d d' hjk hk => by omega⟩, fun h hh => Or.inr ⟨hnone h hh, fun z => by obtain ⟨_, k, hk, _⟩ := z; omega⟩⟩
    · have : cnt (vs (fl steps 0 200 (eO none))) 200 ≤ cnt (fun _ => false) 200 := cnt_mono 200 (fun i hi hv => by simp [vs, hnone i hi] at hv)
      have h2 : ∀ n, cnt (fun _ => false) n = 0 := fun n => by induction n with | zero => rfl | succ n ih => simp [cnt, ih]
      rw [h2] at this
      omega
    · unfold live
      rw [sm_congr (g := fun _ => 0) W (fun i hi => if_pos (hnone i (by omega)))]
      have h2 : ∀ n, sm (fun _ => 0) n = 0 := fun n => by induction n with | zero => rfl | succ n ih => simp [sm, ih]
      rw [h2]
      rfl
  have k1 := it_invg (f := FX3_trace_L15 (nI W) owner roots (eO wo)) (fun s => ∃ i n s' q', s = (nI i, nI n, s', q') ∧ i ≤ 6 ∧ XS mm W wo n s' q' (fun h => wo ≠ some h ∧ ∃ k, k < i ∧ obI mm W (mm (1200 + k)) = some h))
    (fun s => 6 - s.1.toNatClampNeg) (fun r => ∃ n s' q', r = (nI n, s', q') ∧ XS mm W wo n s' q' (fun h => wo ≠ some h ∧ ∃ k, k < 6 ∧ obI mm W (mm (1200 + k)) = some h)) (fun s hs => ?_) (nI 0, nI 0, fl steps 0 200 (eO none), queue) ⟨0, 0, _, _, rfl, by omega, x0⟩ (by
      show 6 - (nI 0).toNatClampNeg < 1000000
      omega)
  · obtain ⟨r1, k1a, n1, s1, q1, rfl, k1b⟩ := k1
    have k2 := it_invg (f := FX3_trace_L45 (nI W) owner pinned (eO wo)) (fun s => ∃ i n s' q', s = (nI i, nI n, s', q') ∧ i ≤ W ∧ XS mm W wo n s' q' (fun h => wo ≠ some h ∧ ((∃ k, k < 6 ∧ obI mm W (mm (1200 + k)) = some h) ∨ (h < i ∧ pnB mm h = true))))
      (fun s => W - s.1.toNatClampNeg) (fun r => ∃ n s' q', r = (nI n, s', q') ∧ XS mm W wo n s' q' (Src mm W wo)) (fun s hs => ?_) (nI 0, nI n1, s1, q1) ⟨0, n1, s1, q1, rfl, by omega, k1b.eqv (fun h hh => ⟨fun z => ⟨z.1, Or.inl z.2⟩, fun z => ⟨z.1, z.2.elim id (fun y => absurd y.1 (Nat.not_lt_zero _))⟩⟩)⟩ (by
        show W - (nI 0).toNatClampNeg < 1000000
        omega)
    · obtain ⟨r2, k2a, n2, s2, q2, rfl, k2b⟩ := k2
      exact ⟨n1, s1, q1, n2, s2, q2, k1a, k2a, k2b⟩
    · obtain ⟨i, n, s', q', rfl, hi, hx⟩ := hs
      by_cases hiW : i < W
      · have hgo : ∀ n2 s2 q2, XS mm W wo n2 s2 q2 (fun h => wo ≠ some h ∧ ((∃ k, k < 6 ∧ obI mm W (mm (1200 + k)) = some h) ∨ (h < i + 1 ∧ pnB mm h = true))) → FX3_trace_L45 (nI W) owner pinned (eO wo) (nI i, nI n, s', q') = some (.inl (nI (i + 1), nI n2, s2, q2)) → (∃ s'', FX3_trace_L45 (nI W) owner pinned (eO wo) (nI i, nI n, s', q') = some (.inl s'') ∧ (∃ i n s' q', s'' = (nI i, nI n, s', q') ∧ i ≤ W ∧ XS mm W wo n s' q' (fun h => wo ≠ some h ∧ ((∃ k, k < 6 ∧ obI mm W (mm (1200 + k)) = some h) ∨ (h < i ∧ pnB mm h = true)))) ∧ W - s''.1.toNatClampNeg < W - (nI i).toNatClampNeg) := by
          intro n2 s2 q2 hX he
          refine ⟨_, he, ⟨i + 1, n2, s2, q2, rfl, by omega, hX⟩, ?_⟩
          show W - (nI (i + 1)).toNatClampNeg < W - (nI i).toNatClampNeg
          rw [n_clamp (by omega), n_clamp (by omega)]
          omega
        cases hp : pnB mm i with
        | true =>
          have hp2 : 0 < zs mm i ∧ mm (400 + i) = nI 1 := by simpa [pnB] using hp
          obtain ⟨n2, s2, q2, e1, e2⟩ := hx.arrive H hw (o := some i) (fun b hb => by cases hb; exact ⟨hiW, fun hwb => ⟨hwb, Or.inr ⟨hiW, hp⟩⟩⟩)
          refine Or.inl (hgo n2 s2 q2 (e2.eqv (fun h hh => ⟨fun z => ?_, fun z => ?_⟩)) ?_)
          · rcases z with z | ⟨z1, z2⟩
            · exact ⟨z.1, z.2.elim Or.inl (fun y => Or.inr ⟨by omega, y.2⟩)⟩
            · cases z2; exact ⟨z1, Or.inr ⟨by omega, hp⟩⟩
          · obtain ⟨z1, z2 | ⟨z2, z3⟩⟩ := z
            · exact Or.inl ⟨z1, Or.inl z2⟩
            · by_cases hhi : h = i
              · subst hhi; exact Or.inr ⟨z1, rfl⟩
              · exact Or.inl ⟨z1, Or.inr ⟨by omega, z3⟩⟩
          · rw [eO_some] at e1
            simp (disch := omega) only [FX3_trace_L45, FX_isPinned H hO hN hiW, hp, ↓lm1, n_ofN, l0, l1, l2, l3, l4, l5, l6, l7, l8, l10, l20, l47, l80, l100, l127, l200, l400, l600, l800, l1000, l1200, l1206, l1210, l1222, n_add, n_clamp, n_gd, n_le_t, n_le_f, n_lt_t, n_lt_f, n_eq_t, n_eq_f, n_no, n_on, n_oo, n_olt, n_nlo, n_ole, Option.bind_some, Option.bind_none, Nat.zero_add, if_true, if_false, e1]
        | false =>
          refine Or.inl (hgo n s' q' (hx.eqv (fun h hh => ⟨fun z => ⟨z.1, z.2.elim Or.inl (fun y => Or.inr ⟨by omega, y.2⟩)⟩, fun z => ⟨z.1, z.2.elim Or.inl (fun y => Or.inr ⟨?_, y.2⟩)⟩⟩)) ?_)
          · rcases Nat.lt_or_ge h i with q | q
            · exact q
            · have : h = i := by omega
              subst this
              rw [hp] at y
              exact absurd y.2 (by decide)
          · simp (disch := omega) only [FX3_trace_L45, FX_isPinned H hO hN hiW, hp, ↓lm1, n_ofN, l0, l1, l2, l3, l4, l5, l6, l7, l8, l10, l20, l47, l80, l100, l127, l200, l400, l600, l800, l1000, l1200, l1206, l1210, l1222, n_add, n_clamp, n_gd, n_le_t, n_le_f, n_lt_t, n_lt_f, n_eq_t, n_eq_f, n_no, n_on, n_oo, n_olt, n_nlo, n_ole, Option.bind_some, Option.bind_none, Nat.zero_add, if_true, if_false, Bool.false_eq_true]
      · have : i = W := by omega
        subst this
        refine Or.inr ⟨(nI n, s', q'), ?_, n, s', q', rfl, hx⟩
        simp (disch := omega) only [FX3_trace_L45, ↓lm1, n_ofN, l0, l1, l2, l3, l4, l5, l6, l7, l8, l10, l20, l47, l80, l100, l127, l200, l400, l600, l800, l1000, l1200, l1206, l1210, l1222, n_add, n_clamp, n_gd, n_le_t, n_le_f, n_lt_t, n_lt_f, n_eq_t, n_eq_f, n_no, n_on, n_oo, n_olt, n_nlo, n_ole, Option.bind_some, Option.bind_none, Nat.zero_add, if_true, if_false]
  · obtain ⟨i, n, s', q', rfl, hi, hx⟩ := hs
    by_cases hi6 : i < 6
    · obtain ⟨n2, s2, q2, e1, e2⟩ := hx.arrive H hw (o := obI mm W (mm (1200 + i))) (fun b hb => by
        obtain ⟨t, _, _, _, h4, h5⟩ := obI_sm H hb
        exact ⟨h4, fun hwb => ⟨hwb, Or.inl ⟨i, hi6, hb⟩⟩⟩)
      refine Or.inl ⟨(nI (i + 1), nI n2, s2, q2), ?_, ⟨i + 1, n2, s2, q2, rfl, by omega, e2.eqv (fun h hh => ⟨fun z => ?_, fun z => ?_⟩)⟩, ?_⟩
      · simp (disch := omega) only [FX3_trace_L15, ↓lm1, n_ofN, l0, l1, l2, l3, l4, l5, l6, l7, l8, l10, l20, l47, l80, l100, l127, l200, l400, l600, l800, l1000, l1200, l1206, l1210, l1222, n_add, n_clamp, n_gd, n_le_t, n_le_f, n_lt_t, n_lt_f, n_eq_t, n_eq_f, n_no, n_on, n_oo, n_olt, n_nlo, n_ole, Option.bind_some, Option.bind_none, Nat.zero_add, if_true, if_false, hR i hi6, FX_objectAt hW.2 hO, e1]
      · rcases z with ⟨z, k, k1, k2⟩ | ⟨z1, z2⟩
        · exact ⟨z, k, by omega, k2⟩
        · exact ⟨z1, i, by omega, z2⟩
      · obtain ⟨z, k, k1, k2⟩ := z
        by_cases hki : k = i
        · subst hki; exact Or.inr ⟨z, k2⟩
        · exact Or.inl ⟨z, k, by omega, k2⟩
      · show 6 - (nI (i + 1)).toNatClampNeg < 6 - (nI i).toNatClampNeg
        rw [n_clamp (by omega), n_clamp (by omega)]
        omega
    · have : i = 6 := by omega
      subst this
      refine Or.inr ⟨(nI n, s', q'), ?_, n, s', q', rfl, hx⟩
      simp (disch := omega) only [FX3_trace_L15, ↓lm1, n_ofN, l0, l1, l2, l3, l4, l5, l6, l7, l8, l10, l20, l47, l80, l100, l127, l200, l400, l600, l800, l1000, l1200, l1206, l1210, l1222, n_add, n_clamp, n_gd, n_le_t, n_le_f, n_lt_t, n_lt_f, n_eq_t, n_eq_f, n_no, n_on, n_oo, n_olt, n_nlo, n_ole, Option.bind_some, Option.bind_none, Nat.zero_add, if_true, if_false]
