/-! the heap after a collection -/
theorem NF.congr {mm mk F m : Nat → Int32} {W : Nat} (L : LV mm W mk) (H : WF mm W) (N : NF mm mk W m) (h : ∀ j, j < 1210 → F j = m j) : NF mm mk W F := by
  have hW := H.size
  obtain ⟨n1, n2, n3, n4, n5⟩ := N
  refine ⟨fun b hb hm => ?_, fun j hj hn => ?_, ?_, fun t ht => ?_, fun k hk => ?_⟩
  · obtain ⟨d1, d2, d3, d4, d5⟩ := n1 b hb hm
    obtain ⟨t1, t2, t3, t4, t5⟩ := tg_fit H L (show b < 200 by omega) hm
    refine ⟨?_, ?_, ?_, ?_, fun k k1 k2 => ?_⟩
    · rw [h _ (by omega)]; exact d1
    · rw [h _ (by omega)]; exact d2
    · rw [h _ (by omega)]; exact d3
    · rw [h _ (by omega)]; exact d4
    · rw [h _ (by omega)]; exact d5 k k1 k2
  · rw [h _ (by omega)]; exact n2 j hj hn
  · rw [← n3]
    exact sm_congr W (fun i hi => same_zs (h i (by omega)))
  · rw [h _ (by omega)]; exact n4 t ht
  · rw [h _ (by omega)]; exact n5 k hk
theorem NF.z {mm mk F : Nat → Int32} {W b : Nat} (N : NF mm mk W F) (hb : b < W) (hm : mk b = nI 1) : zs F (tg mm mk b) = zs mm b ∧ zf F (tg mm mk b) = zf mm b := by
  obtain ⟨d1, d2, -⟩ := N.1 b hb hm
  unfold zs zf
  rw [d1, d2]
  exact ⟨rfl, rfl⟩
theorem NF.hdr {mm mk F : Nat → Int32} {W a : Nat} (N : NF mm mk W F) (ha : a < 200) (h0 : 0 < zs F a) : ∃ b, b < W ∧ mk b = nI 1 ∧ tg mm mk b = a := by
  refine Classical.byContradiction (fun hn => ?_)
  have := zs_nI (N.2.1 a ha (fun b hb hm e => hn ⟨b, hb, hm, e⟩)) (by omega)
  omega
theorem NF.rf {mm mk F : Nat → Int32} {W : Nat} {x : Int32} (H : WF mm W) (L : LV mm W mk) (N : NF mm mk W F) (hx : Rf mm W x) : Rf F W (gn mm mk W x) := by
  have hW := H.size
  rcases gn_cases H (mk := mk) hx with ⟨-, e2⟩ | ⟨t, ht, -, e2⟩
  · exact Or.inl e2
  · rw [e2]
    cases e : ob mm t with
    | none => exact Or.inl (wt_none e)
    | some h =>
      rw [wt_some e]
      have hi := ob_in e
      have hi1 := hi.1
      have hi2 := hi.2
      by_cases q : h < W ∧ mk h = nI 1
      · rw [if_pos q]
        obtain ⟨t1, t2, t3, t4, t5⟩ := tg_fit H L (show h < 200 by omega) q.2
        have hz := (N.z q.1 q.2).1
        exact Or.inr ⟨tg mm mk h + (t - h), by omega, rfl, tg mm mk h, by omega, by rw [hz]; omega⟩
      · rw [if_neg q]
        exact Or.inl rfl
theorem NF.wf {mm mk F : Nat → Int32} {W : Nat} (H : WF mm W) (L : LV mm W mk) (N : NF mm mk W F) (h1 : F 1216 = mm 1216) (h2 : F 1217 = mm 1217) : WF F W := by
  obtain ⟨w1, w2, w3, ⟨d, d1, d2, d3⟩, -, -, w7⟩ := id H
  refine ⟨w1, w2, h1.trans w3, ⟨d, d1, d2, h2.trans d3⟩, fun a ha => ?_, fun a ha h0 => ?_, fun k hk => ?_⟩
  · by_cases h : ∃ b, b < W ∧ mk b = nI 1 ∧ tg mm mk b = a
    · obtain ⟨b, hb, hm, rfl⟩ := h
      rw [(N.z hb hm).1, (N.1 b hb hm).1]
      exact H.sz (by omega)
    · have e := N.2.1 a ha (fun b hb hm e => h ⟨b, hb, hm, e⟩)
      rw [zs_nI e (by omega)]
      exact ⟨e, by omega⟩
  · obtain ⟨b, hb, hm, rfl⟩ := N.hdr ha h0
    have hb2 : b < 200 := by omega
    obtain ⟨t1, t2, t3, t4, t5⟩ := tg_fit H L hb2 hm
    obtain ⟨a1, a2, a3, a4, a5, a6, a7⟩ := H.hd hb2 t3
    obtain ⟨z1, z2⟩ := N.z hb hm
    obtain ⟨e1, e2, e3, e4, e5⟩ := N.1 b hb hm
    rw [z1, z2, e2, e3]
    refine ⟨by omega, fun c hc1 hc2 => ?_, a3, a4, a5, a6, fun k k1 k2 => ?_⟩
    · rcases Nat.eq_zero_or_pos (zs F c) with q | q
      · exact q
      · obtain ⟨b', hb', hm', e⟩ := N.hdr (show c < 200 by omega) q
        have hne : b ≠ b' := fun z => by
          subst z
          omega
        have := tg_apart H L hb2 (show b' < 200 by omega) hm hm' hne (i := c - tg mm mk b) (j := 0) (by omega) (tg_fit H L (show b' < 200 by omega) hm').2.2.1
        omega
    · rw [e5 k k1 (by omega)]
      have e : nwd mm mk W b k = gn mm mk W (mm (800 + b + k)) := if_pos k2
      rw [e]
      exact N.rf H L (a7 k k1 k2)
  · rw [N.2.2.2.2 k hk]
    exact N.rf H L (w7 k hk)
theorem NF.ro {mm mk F o f d p g c : Nat → Int32} {W : Nat} (H : WF mm W) (L : LV mm W mk) (N : NF mm mk W F) (HF : WF F W) (S : SL mm mk W W o f d p g c) : RO W F o := fun t ht => by
  have hW := H.size
  by_cases h : ∃ b, b < W ∧ mk b = nI 1 ∧ tg mm mk b ≤ t ∧ t < tg mm mk b + zs mm b
  · obtain ⟨b, hb, hm, h1, h2⟩ := h
    have e := (S.1 b hb hm).2.2.2.2.2 (t - tg mm mk b) (by omega)
    rw [show tg mm mk b + (t - tg mm mk b) = t by omega] at e
    rw [e, ob_of HF (h := tg mm mk b) (by omega) ⟨h1, by rw [(N.z hb hm).1]; exact h2⟩]
    rfl
  · have e := S.2.1 t (by omega) (fun b hb hm => by
      rcases Nat.lt_or_ge t (tg mm mk b) with q | q
      · exact Or.inl q
      · rcases Nat.lt_or_ge t (tg mm mk b + zs mm b) with y | y
        · exact absurd ⟨b, hb, hm, q, y⟩ h
        · exact Or.inr y)
    rw [e]
    cases e2 : ob F t with
    | none => rfl
    | some x =>
      have hi := ob_in e2
      have hi1 := hi.1
      have hi2 := hi.2
      obtain ⟨b, hb, hm, rfl⟩ := N.hdr (a := x) (by omega) (by omega)
      rw [(N.z hb hm).1] at hi2
      exact absurd ⟨b, hb, hm, hi1, hi2⟩ h
theorem NF.ra {mm mk F o f d p g c : Nat → Int32} {W : Nat} (H : WF mm W) (N : NF mm mk W F) (S : SL mm mk W W o f d p g c) : RA W F f d p g c := fun a ha h0 => by
  have hW := H.size
  obtain ⟨b, hb, hm, rfl⟩ := N.hdr (show a < 200 by omega) h0
  obtain ⟨e1, e2, e3, e4, e5⟩ := N.1 b hb hm
  obtain ⟨d1, d2, d3, d4, d5, -⟩ := S.1 b hb hm
  obtain ⟨z1, z2⟩ := N.z hb hm
  rw [z1, z2, e2, e3, e4]
  exact ⟨d1, d2, d3, d4, fun k k1 k2 => (d5 k k1 k2).trans (e5 k k1 k2).symm⟩
/-! the numbers at the end -/
def fn1 (m : Nat → Int32) (x0 x1 x2 x3 x4 x5 : Int32) : Nat → Int32 := upd (upd (upd (upd (upd (upd (upd m 1210 x0) 1211 x1) 1212 x2) 1213 x3) 1214 x4) 1215 x5) 1221 (nI 1)
def fn2 (m : Nat → Int32) (x0 x1 x2 x3 x4 x5 : Int32) : Nat → Int32 := upd (fn1 m x0 x1 x2 x3 x4 x5) 1219 (fn1 m x0 x1 x2 x3 x4 x5 1219 + nI 1)
def fn3 (m : Nat → Int32) (x0 x1 x2 x3 x4 x5 fr : Int32) : Nat → Int32 := upd (fn2 m x0 x1 x2 x3 x4 x5) 1220 (fn2 m x0 x1 x2 x3 x4 x5 1220 + fr)
theorem fn3_at (m : Nat → Int32) (x0 x1 x2 x3 x4 x5 fr : Int32) : fn3 m x0 x1 x2 x3 x4 x5 fr 1210 = x0 ∧ fn3 m x0 x1 x2 x3 x4 x5 fr 1211 = x1 ∧ fn3 m x0 x1 x2 x3 x4 x5 fr 1212 = x2 ∧ fn3 m x0 x1 x2 x3 x4 x5 fr 1213 = x3 ∧ fn3 m x0 x1 x2 x3 x4 x5 fr 1214 = x4 ∧ fn3 m x0 x1 x2 x3 x4 x5 fr 1215 = x5 ∧ fn3 m x0 x1 x2 x3 x4 x5 fr 1219 = m 1219 + nI 1 ∧ fn3 m x0 x1 x2 x3 x4 x5 fr 1220 = m 1220 + fr ∧ fn3 m x0 x1 x2 x3 x4 x5 fr 1221 = nI 1 := by
  unfold fn3 fn2 fn1
  simp [upd]
theorem fn3_un (m : Nat → Int32) (x0 x1 x2 x3 x4 x5 fr : Int32) {j : Nat} (h : j < 1210 ∨ j = 1216 ∨ j = 1217 ∨ j = 1218) : fn3 m x0 x1 x2 x3 x4 x5 fr j = m j := by
  unfold fn3 fn2 fn1
  rw [pk_un (by omega), pk_un (by omega), pk_un (by omega), pk_un (by omega), pk_un (by omega), pk_un (by omega), pk_un (by omega), pk_un (by omega), pk_un (by omega)]
theorem sm_le {f g : Nat → Nat} : ∀ n, (∀ i, i < n → f i ≤ g i) → sm f n ≤ sm g n
  | 0, _ => Nat.le_refl _
  | n + 1, h => by
    unfold sm
    have := sm_le n (fun i hi => h i (by omega))
    have := h n (by omega)
    omega
theorem lw_le {mm mk : Nat → Int32} (W : Nat) : lw mm mk W ≤ sm (zs mm) W := sm_le W (fun i _ => by
  by_cases h : mk i = nI 1
  · rw [if_pos h]; exact Nat.le_refl _
  · rw [if_neg h]; exact Nat.zero_le _)
