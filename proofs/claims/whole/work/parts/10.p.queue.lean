/-! the class goes through its queue -/
def TC (mm : Nat → Int32) (W : Nat) (wo : Option Nat) (i f : Nat) (steps queue : Nat → Int32) : Prop := ∀ h, h < 200 → steps h = eO none → ¬ Src mm W wo h ∧ ∀ j g k, (j < i ∨ (j = i ∧ k < f + 1)) → queue j = nI g → g < 200 → ¬ Eg mm W wo g k h
def TI (mm : Nat → Int32) (W : Nat) (wo : Option Nat) (i f n : Nat) (steps queue : Nat → Int32) : Prop :=
  XQ mm W wo n steps queue ∧ i ≤ n ∧ TC mm W wo i f steps queue ∧
  ∀ j g d gi di, j < n → i < n → queue j = nI g → g < 200 → steps g = nI d → d < 1000 → queue i = nI gi → gi < 200 → steps gi = nI di → di < 1000 → d ≤ di + 1
theorem TI.vis {mm steps queue : Nat → Int32} {W n i f D : Nat} {wo : Option Nat} (H : WF mm W) (X : XQ mm W wo n steps queue) (C : TC mm W wo i f steps queue) (hD : ∀ j h e, j < n → queue j = nI h → h < 200 → steps h = nI e → e < D → e < 1000 → j < i) : ∀ d h, d ≤ D → Rch mm W wo d h → ¬ steps h = eO none
  | 0, h, _, r, z => by
    have hW := H.size
    have := r.hd H
    exact (C h (by omega) z).1 r
  | d + 1, h, hd, ⟨g, k, r, e⟩, z => by
    have hW := H.size
    have hg := r.hd H
    have hh : h < 200 := by
      obtain ⟨_, _, _, _, h4, _⟩ := obI_sm H e.2.2.1
      omega
    have hv := TI.vis H X C hD d g (by omega) r
    obtain ⟨j, j1, j2⟩ := X.2.1 g (by omega) hv
    obtain ⟨g', e', q1, q2, q3, q4, q5⟩ := X.1 j j1
    rw [j2] at q3
    have := (nI_eq (by omega) (by omega)).mp q3
    subst this
    have hle := X.le
    have hed : e' ≤ d := by
      rcases Nat.lt_or_ge d e' with q | q
      · exact absurd r (q5.2 d q)
      · exact q
    have hji := hD j g e' j1 j2 (by omega) q4 (by omega) (by omega)
    exact (C h hh z).2 j g k (Or.inl hji) j2 (by omega) e
theorem TI.step {mm steps queue : Nat → Int32} {W n i f g d : Nat} {wo : Option Nat} (H : WF mm W) (hw : ∀ w, wo = some w → w < 2147483648) (T : TI mm W wo i f n steps queue) (hi : i < n) (hq : queue i = nI g) (hg : g < W) (hs : steps g = nI d) (hd : d ≤ i) (hl : Lst mm W wo d g) (hf : f < zf mm g) :
    ∃ n' s' q', FX3_arrive (nI n) steps queue (eO (obI mm W (mm (800 + g + (f + 1))))) (nI (d + 1)) (eO wo) = some (nI n', s', q') ∧ TI mm W wo i (f + 1) n' s' q' ∧ s' g = nI d ∧ q' i = nI g ∧ i < n' := by
  have hW := H.size
  obtain ⟨X, hin, C, N⟩ := T
  have hle := X.le
  have same : (∀ b, obI mm W (mm (800 + g + (f + 1))) = some b → wo ≠ some b → ¬ steps b = eO none) → TI mm W wo i (f + 1) n steps queue := fun hx => by
    refine ⟨X, hin, fun h hh z => ⟨(C h hh z).1, fun j g' k hj hqj hg' he => ?_⟩, N⟩
    by_cases hold : j < i ∨ (j = i ∧ k < f + 1)
    · exact (C h hh z).2 j g' k hold hqj hg' he
    · have hji : j = i := by omega
      have hk : k = f + 1 := by omega
      subst hji; subst hk
      rw [hq] at hqj
      have := (nI_eq (by omega) (by omega)).mp hqj
      subst this
      exact hx h he.2.2.1 he.2.2.2 z
  cases e : obI mm W (mm (800 + g + (f + 1))) with
  | none => exact ⟨n, steps, queue, FX_arrive0 hw (Or.inl rfl), same (fun b hb => by rw [e] at hb; cases hb), hs, hq, hi⟩
  | some b =>
    obtain ⟨t, _, _, _, hbW, hb0⟩ := obI_sm H e
    by_cases hwb : wo = some b
    · exact ⟨n, steps, queue, FX_arrive0 hw (Or.inr ⟨b, rfl, by omega, Or.inl hwb⟩), same (fun b' hb' hn => by rw [e] at hb'; cases hb'; exact absurd hwb hn), hs, hq, hi⟩
    · by_cases hv : steps b = eO none
      · have hE : Eg mm W wo g (f + 1) b := ⟨by omega, by omega, e, hwb⟩
        have hvis := TI.vis (D := d) H X C (fun j h e' j1 j2 j3 j4 j5 j6 => by
          rcases Nat.lt_or_ge j i with q | q
          · exact q
          · have := X.2.2.2.2 i j g h d e' q j1 hq j2 (by omega) j3 hs j4 (by omega) j6
            omega)
        have hp := X.push H hbW hv (d := d + 1) ⟨⟨g, f + 1, hl.1, hE⟩, fun d' hd' r => hvis d' b (by omega) r hv⟩ (by omega) (fun j h e' hj hqj h200 he hl' => N j h e' g d hj hi hqj h200 he hl' hq (by omega) hs (by omega))
        have hgb : g ≠ b := fun z => by
          subst z
          rw [hv] at hs
          exact n_ne_m1 (by omega) hs.symm
        have hX' := hp.2
        refine ⟨n + 1, upd steps b (nI (d + 1)), upd queue n (nI b), FX_arrive1 hw (by omega) hp.1 hwb hv, ⟨hX', by omega, fun h hh z => ?_, ?_⟩, by rw [pk_un hgb]; exact hs, by rw [pk_un (by omega)]; exact hq, by omega⟩
        · have hhb : h ≠ b := fun y => by
            subst y
            rw [pk_us] at z
            exact n_ne_m1 (by omega) z
          rw [pk_un hhb] at z
          refine ⟨(C h hh z).1, fun j g' k hj hqj hg' he => ?_⟩
          rw [pk_un (by omega)] at hqj
          by_cases hold : j < i ∨ (j = i ∧ k < f + 1)
          · exact (C h hh z).2 j g' k hold hqj hg' he
          · have hji : j = i := by omega
            have hk : k = f + 1 := by omega
            subst hji; subst hk
            rw [hq] at hqj
            have := (nI_eq (by omega) (by omega)).mp hqj
            subst this
            have e2 := he.2.2.1
            rw [e] at e2
            cases e2
            exact hhb rfl
        · intro j g' e' gi di hj _ hqj hg' hsj he' hqi hgi hsi hdi
          rw [pk_un (by omega), hq] at hqi
          have := (nI_eq (by omega) (by omega)).mp hqi
          subst this
          rw [pk_un hgb, hs] at hsi
          have := (nI_eq (by omega) (by omega)).mp hsi
          subst this
          by_cases hjn : j = n
          · subst hjn
            rw [pk_us] at hqj
            have := (nI_eq (by omega) (by omega)).mp hqj
            subst this
            rw [pk_us] at hsj
            have := (nI_eq (by omega) (by omega)).mp hsj
            omega
          · rw [pk_un hjn] at hqj
            by_cases hgb' : g' = b
            · subst hgb'
              rw [pk_us] at hsj
              have := (nI_eq (by omega) (by omega)).mp hsj
              omega
            · rw [pk_un hgb'] at hsj
              exact N j g' e' g d (by omega) hi hqj hg' hsj he' hq (by omega) hs (by omega)
      · exact ⟨n, steps, queue, FX_arrive0 hw (Or.inr ⟨b, rfl, by omega, Or.inr hv⟩), same (fun b' hb' hn => by rw [e] at hb'; cases hb'; exact hv), hs, hq, hi⟩
theorem FX_queue {mm owner fieldCount dataCount pinned age content : Nat → Int32} {W : Nat} {wo : Option Nat} (H : WF mm W) (hO : RO W mm owner) (hA : RA W mm fieldCount dataCount pinned age content) (hw : ∀ w, wo = some w → w < 2147483648) {n : Nat} {steps queue : Nat → Int32} (T : TI mm W wo 0 0 n steps queue) :
    ∃ n' s' q', g_it (FX3_trace_L76 (nI W) owner fieldCount content (eO wo)) (nI 0, nI n, steps, queue) = some (nI n', s', q') ∧ XQ mm W wo n' s' q' ∧ Far mm W wo s' := by
  have hW := H.size
  have key := it_invg (f := FX3_trace_L76 (nI W) owner fieldCount content (eO wo)) (fun s => ∃ i n s' q', s = (nI i, nI n, s', q') ∧ TI mm W wo i 0 n s' q')
    (fun s => 200 - s.1.toNatClampNeg) (fun r => ∃ n s' q', r = (nI n, s', q') ∧ XQ mm W wo n s' q' ∧ Far mm W wo s') (fun s hs => ?_) (nI 0, nI n, steps, queue) ⟨0, n, steps, queue, rfl, T⟩ (by
      show 200 - (nI 0).toNatClampNeg < 1000000
      omega)
  · obtain ⟨r, h1, n', s', q', rfl, h2⟩ := key
    exact ⟨n', s', q', h1, h2⟩
  · obtain ⟨i, n, s', q', rfl, T⟩ := hs
    have hle := T.1.le
    have hin := T.2.1
    by_cases hi : i < n
    · obtain ⟨g, d, a1, a2, a3, a4, a5⟩ := T.1.1 i hi
      have hg0 := (a5.1.hd H).2
      have h6 := H.hd (a := g) (by omega) hg0
      obtain ⟨b1, -, -, -, b5⟩ := hA g a1 hg0
      have inner := it_invg (f := FX3_trace_L102 (nI W) owner fieldCount content (eO wo) (nI i) q') (fun s => ∃ f n s2 q2, s = (nI f, nI n, s2, q2) ∧ f ≤ zf mm g ∧ TI mm W wo i f n s2 q2 ∧ s2 g = nI d ∧ q2 i = nI g ∧ i < n)
        (fun s => 10 - s.1.toNatClampNeg) (fun r => ∃ n s2 q2, r = (nI n, s2, q2) ∧ TI mm W wo (i + 1) 0 n s2 q2) (fun s hs => ?_) (nI 0, nI n, s', q') ⟨0, n, s', q', rfl, by omega, T, a4, a3, hi⟩ (by
          show 10 - (nI 0).toNatClampNeg < 1000000
          omega)
      · obtain ⟨r, e1, n2, s2, q2, rfl, T2⟩ := inner
        refine Or.inl ⟨(nI (i + 1), nI n2, s2, q2), ?_, ⟨i + 1, n2, s2, q2, rfl, T2⟩, ?_⟩
        · simp (disch := omega) only [FX3_trace_L76, ↓lm1, n_ofN, l0, l1, l2, l3, l4, l5, l6, l7, l8, l10, l20, l47, l80, l100, l127, l200, l400, l600, l800, l1000, l1200, l1206, l1210, l1222, n_add, n_clamp, n_gd, n_le_t, n_le_f, n_lt_t, n_lt_f, n_eq_t, n_eq_f, n_no, n_on, n_oo, n_olt, n_nlo, n_ole, Option.bind_some, Option.bind_none, Nat.zero_add, if_true, if_false, e1]
        · show 200 - (nI (i + 1)).toNatClampNeg < 200 - (nI i).toNatClampNeg
          rw [n_clamp (by omega), n_clamp (by omega)]
          omega
      · obtain ⟨f, n, s2, q2, rfl, hf, T, hs2, hq2, hi2⟩ := hs
        have hle2 := T.1.le
        by_cases hfz : f < zf mm g
        · obtain ⟨n3, s3, q3, e1, e2, e3, e4, e5⟩ := T.step H hw hi2 hq2 a1 hs2 a2 a5 hfz
          refine Or.inl ⟨(nI (f + 1), nI n3, s3, q3), ?_, ⟨f + 1, n3, s3, q3, rfl, by omega, e2, e3, e4, e5⟩, ?_⟩
          · have hc := b5 (f + 1) (by omega) (by omega)
            rw [show g + (f + 1) = g + 1 + f by omega] at hc
            simp (disch := omega) only [FX3_trace_L102, ↓lm1, n_ofN, l0, l1, l2, l3, l4, l5, l6, l7, l8, l10, l20, l47, l80, l100, l127, l200, l400, l600, l800, l1000, l1200, l1206, l1210, l1222, n_add, n_clamp, n_gd, n_le_t, n_le_f, n_lt_t, n_lt_f, n_eq_t, n_eq_f, n_no, n_on, n_oo, n_olt, n_nlo, n_ole, Option.bind_some, Option.bind_none, Nat.zero_add, if_true, if_false, a3, b1, h6.2.2.1, hc, FX_objectAt hW.2 hO, hs2, e1]
          · show 10 - (nI (f + 1)).toNatClampNeg < 10 - (nI f).toNatClampNeg
            rw [n_clamp (by omega), n_clamp (by omega)]
            omega
        · refine Or.inr ⟨(nI n, s2, q2), ?_, n, s2, q2, rfl, T.1, by omega, fun h hh z => ⟨(T.2.2.1 h hh z).1, fun j g' k hj hqj hg' he => ?_⟩, ?_⟩
          · simp (disch := omega) only [FX3_trace_L102, ↓lm1, n_ofN, l0, l1, l2, l3, l4, l5, l6, l7, l8, l10, l20, l47, l80, l100, l127, l200, l400, l600, l800, l1000, l1200, l1206, l1210, l1222, n_add, n_clamp, n_gd, n_le_t, n_le_f, n_lt_t, n_lt_f, n_eq_t, n_eq_f, n_no, n_on, n_oo, n_olt, n_nlo, n_ole, Option.bind_some, Option.bind_none, Nat.zero_add, if_true, if_false, a3, b1, h6.2.2.1]
          · have hk1 := he.1
            by_cases hji : j = i
            · subst hji
              rw [hq2] at hqj
              have := (nI_eq (by omega) (by omega)).mp hqj
              subst this
              have hk2 := he.2.1
              exact (T.2.2.1 h hh z).2 j g k (Or.inr ⟨rfl, by omega⟩) hq2 hg' he
            · exact (T.2.2.1 h hh z).2 j g' k (Or.inl (by omega)) hqj hg' he
          · intro j g' e' gi di hj hin' hqj hg' hsj he' hqi hgi hsi hdi
            have h1 := T.2.2.2 j g' e' g d hj hi2 hqj hg' hsj he' hq2 (by omega) hs2 (by omega)
            have h2 := T.1.2.2.2.2 i (i + 1) g gi d di (by omega) hin' hq2 hqi (by omega) hgi hs2 hsi (by omega) hdi
            omega
    · refine Or.inr ⟨(nI n, s', q'), ?_, n, s', q', rfl, T.1, fun h hh => ?_⟩
      · by_cases h2 : i < 200
        · simp (disch := omega) only [FX3_trace_L76, ↓lm1, n_ofN, l0, l1, l2, l3, l4, l5, l6, l7, l8, l10, l20, l47, l80, l100, l127, l200, l400, l600, l800, l1000, l1200, l1206, l1210, l1222, n_add, n_clamp, n_gd, n_le_t, n_le_f, n_lt_t, n_lt_f, n_eq_t, n_eq_f, n_no, n_on, n_oo, n_olt, n_nlo, n_ole, Option.bind_some, Option.bind_none, Nat.zero_add, if_true, if_false]
        · simp (disch := omega) only [FX3_trace_L76, ↓lm1, n_ofN, l0, l1, l2, l3, l4, l5, l6, l7, l8, l10, l20, l47, l80, l100, l127, l200, l400, l600, l800, l1000, l1200, l1206, l1210, l1222, n_add, n_clamp, n_gd, n_le_t, n_le_f, n_lt_t, n_lt_f, n_eq_t, n_eq_f, n_no, n_on, n_oo, n_olt, n_nlo, n_ole, Option.bind_some, Option.bind_none, Nat.zero_add, if_true, if_false]
      · by_cases hv : s' h = eO none
        · exact Or.inr ⟨hv, fun d r => TI.vis (D := d) H T.1 T.2.2.1 (fun j _ _ hj _ _ _ _ _ => by omega) d h (Nat.le_refl _) r hv⟩
        · obtain ⟨j, j1, j2⟩ := T.1.2.1 h hh hv
          obtain ⟨g', e', q1, q2, q3, q4, q5⟩ := T.1.1 j j1
          rw [j2] at q3
          have := (nI_eq (by omega) (by omega)).mp q3
          subst this
          exact Or.inl ⟨e', by omega, q4, q5⟩
theorem FX_trace {mm owner fieldCount dataCount pinned age content roots : Nat → Int32} {W : Nat} {wo : Option Nat} (H : WF mm W) (hO : RO W mm owner) (hA : RA W mm fieldCount dataCount pinned age content) (hR : ∀ k, k < 6 → roots k = mm (1200 + k)) (hw : ∀ w, wo = some w → w < 2147483648) (queued : Int32) (steps queue : Nat → Int32) :
    ∃ n' s' q', FX3_trace queued steps queue (nI W) owner fieldCount pinned content roots (eO wo) = some (nI n', s', q') ∧ XQ mm W wo n' s' q' ∧ Far mm W wo s' := by
  have hW := H.size
  obtain ⟨n1, s1, q1, n2, s2, q2, k1, k2, X, F⟩ := FX_srcs H hO (fun a h1 h2 => (hA a h1 h2).2.2.1) hR hw steps queue
  have T : TI mm W wo 0 0 n2 s2 q2 := by
    refine ⟨X, Nat.zero_le _, fun h hh z => ⟨fun hs => ?_, fun j g k hj hqj hg he => ?_⟩, fun j g d gi di hj hi hqj hg hs hd hqi hgi hsi hdi => ?_⟩
    · rcases F h hh with ⟨q, _⟩ | ⟨_, q⟩
      · rw [z] at q
        exact n_ne_m1 (by omega) q.symm
      · exact q hs
    · have := he.1
      omega
    · rcases F g hg with ⟨q, _⟩ | ⟨q, _⟩
      · rw [hs] at q
        have := (nI_eq (by omega) (by omega)).mp q
        omega
      · rw [hs] at q
        exact absurd q (n_ne_m1 (by omega))
  obtain ⟨n3, s3, q3, k3, r⟩ := FX_queue H hO hA hw T
  exact ⟨n3, s3, q3, by simp (disch := omega) only [FX3_trace, ↓lm1, n_ofN, l0, l1, l2, l3, l4, l5, l6, l7, l8, l10, l20, l47, l80, l100, l127, l200, l400, l600, l800, l1000, l1200, l1206, l1210, l1222, n_add, n_clamp, n_gd, n_le_t, n_le_f, n_lt_t, n_lt_f, n_eq_t, n_eq_f, n_no, n_on, n_oo, n_olt, n_nlo, n_ole, Option.bind_some, Option.bind_none, Nat.zero_add, if_true, if_false, F_fill, k1, k2, k3], r⟩
