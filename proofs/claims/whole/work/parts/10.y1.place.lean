/-! where the live objects go -/
def LV (mm : Nat → Int32) (W : Nat) (mk : Nat → Int32) : Prop := ∀ h, h < 200 → mk h = nI 0 ∨ (mk h = nI 1 ∧ h < W ∧ 0 < zs mm h)
theorem MK.lv {mm mk mk' : Nat → Int32} {W : Nat} (M : MK mm W mk mk') : LV mm W mk := fun h hh => (M h hh).2
theorem n10 : ¬ nI 0 = nI 1 := by decide
theorem LV.of {mm mk : Nat → Int32} {W a : Nat} (L : LV mm W mk) (ha : a < 200) (h : mk a = nI 1) : a < W ∧ 0 < zs mm a := by
  rcases L a ha with q | q
  · rw [q] at h
    exact absurd h n10
  · exact q.2
theorem LV.no {mm mk : Nat → Int32} {W a : Nat} (L : LV mm W mk) (ha : a < 200) (h : ¬ mk a = nI 1) : mk a = nI 0 := by
  rcases L a ha with q | q
  · exact q
  · exact absurd q.1 h
def tp (mm : Nat → Int32) (a p : Nat) : Nat := if mm (400 + a) = nI 1 then a else p
def pl (mm mk : Nat → Int32) : Nat → Nat
  | 0 => 0
  | a + 1 => if mk a = nI 1 then tp mm a (pl mm mk a) + zs mm a else pl mm mk a
def tg (mm mk : Nat → Int32) (a : Nat) : Nat := tp mm a (pl mm mk a)
theorem pl_t {mm mk : Nat → Int32} {a : Nat} (h : mk a = nI 1) : pl mm mk (a + 1) = tg mm mk a + zs mm a := if_pos h
theorem pl_f {mm mk : Nat → Int32} {a : Nat} (h : ¬ mk a = nI 1) : pl mm mk (a + 1) = pl mm mk a := if_neg h
theorem tp_le {mm : Nat → Int32} {a p : Nat} (h : p ≤ a) : p ≤ tp mm a p ∧ tp mm a p ≤ a := by
  unfold tp
  by_cases q : mm (400 + a) = nI 1
  · rw [if_pos q]; omega
  · rw [if_neg q]; omega
theorem hd_far {mm : Nat → Int32} {W a c : Nat} (H : WF mm W) (ha : a < 200) (h0 : 0 < zs mm a) (h1 : 0 < zs mm c) (h : a < c) : a + zs mm a ≤ c := by
  rcases Nat.lt_or_ge c (a + zs mm a) with q | q
  · have := (H.hd ha h0).2.1 c h q
    omega
  · exact q
theorem pl_le {mm mk : Nat → Int32} {W : Nat} (H : WF mm W) (L : LV mm W mk) : ∀ (a : Nat), a ≤ 200 → ∀ c, a ≤ c → c < 200 → 0 < zs mm c → pl mm mk a ≤ c
  | 0, _, _, _, _, _ => Nat.zero_le _
  | a + 1, ha, c, hac, hc, h0 => by
    by_cases h : mk a = nI 1
    · rw [pl_t h]
      have h2 := (L.of (by omega) h).2
      have h3 := (tp_le (mm := mm) (pl_le H L a (by omega) a (Nat.le_refl a) (by omega) h2)).2
      have h4 := hd_far H (by omega) h2 h0 (show a < c by omega)
      unfold tg
      omega
    · rw [pl_f h]
      exact pl_le H L a (by omega) c (by omega) hc h0
theorem tg_le {mm mk : Nat → Int32} {W a : Nat} (H : WF mm W) (L : LV mm W mk) (ha : a < 200) (h : mk a = nI 1) : pl mm mk a ≤ tg mm mk a ∧ tg mm mk a ≤ a :=
  tp_le (pl_le H L a (by omega) a (Nat.le_refl a) ha (L.of ha h).2)
theorem pl_up {mm mk : Nat → Int32} {W : Nat} (H : WF mm W) (L : LV mm W mk) : ∀ (d a : Nat), a + d ≤ 200 → pl mm mk a ≤ pl mm mk (a + d)
  | 0, a, _ => Nat.le_refl _
  | d + 1, a, h => by
    have ih := pl_up H L d a (by omega)
    rw [show a + (d + 1) = a + d + 1 by omega]
    by_cases q : mk (a + d) = nI 1
    · rw [pl_t q]
      have := (tg_le H L (show a + d < 200 by omega) q).1
      omega
    · rw [pl_f q]
      exact ih
theorem tg_end {mm mk : Nat → Int32} {W a b : Nat} (H : WF mm W) (L : LV mm W mk) (hb : b < a) (ha : a ≤ 200) (h : mk b = nI 1) : tg mm mk b + zs mm b ≤ pl mm mk a := by
  have := pl_up H L (a - (b + 1)) (b + 1) (by omega)
  rw [pl_t h, show b + 1 + (a - (b + 1)) = a by omega] at this
  exact this
theorem tg_sep {mm mk : Nat → Int32} {W a b : Nat} (H : WF mm W) (L : LV mm W mk) (hb : b < a) (ha : a < 200) (h : mk b = nI 1) (h2 : mk a = nI 1) : tg mm mk b + zs mm b ≤ tg mm mk a := by
  have h3 := tg_end H L hb (Nat.le_of_lt ha) h
  have h4 := (tg_le H L ha h2).1
  omega
theorem tg_fit {mm mk : Nat → Int32} {W a : Nat} (H : WF mm W) (L : LV mm W mk) (ha : a < 200) (h : mk a = nI 1) : tg mm mk a + zs mm a ≤ a + zs mm a ∧ a + zs mm a ≤ W ∧ 0 < zs mm a ∧ zs mm a ≤ 13 ∧ W ≤ 200 := by
  have h1 := L.of ha h
  have h2 := (tg_le H L ha h).2
  have h3 := (H.hd ha h1.2).1
  have h4 := (H.sz ha).2
  have h5 := H.size
  exact ⟨by omega, h3, h1.2, h4, h5.2⟩
theorem tg_apart {mm mk : Nat → Int32} {W a b i j : Nat} (H : WF mm W) (L : LV mm W mk) (ha : a < 200) (hb : b < 200) (h : mk a = nI 1) (h2 : mk b = nI 1) (hn : a ≠ b) (hi : i < zs mm a) (hj : j < zs mm b) : tg mm mk a + i ≠ tg mm mk b + j := by
  rcases Nat.lt_or_ge a b with q | q
  · have := tg_sep H L q hb h h2
    omega
  · have := tg_sep H L (show b < a by omega) ha h2 h
    omega
/-- where a word goes, as far as the objects below a are placed -/
def wo2 (mm mk : Nat → Int32) (a t : Nat) : Option Nat → Int32
  | none => eO none
  | some h => if h < a ∧ mk h = nI 1 then nI (tg mm mk h + (t - h)) else eO none
def wt (mm mk : Nat → Int32) (a t : Nat) : Int32 := wo2 mm mk a t (ob mm t)
theorem wt_none {mm mk : Nat → Int32} {a t : Nat} (e : ob mm t = none) : wt mm mk a t = eO none := by unfold wt; rw [e]; rfl
theorem wt_some {mm mk : Nat → Int32} {a t h : Nat} (e : ob mm t = some h) : wt mm mk a t = if h < a ∧ mk h = nI 1 then nI (tg mm mk h + (t - h)) else eO none := by unfold wt; rw [e]; rfl
theorem wt_0 {mm mk : Nat → Int32} {t : Nat} : wt mm mk 0 t = eO none := by
  cases e : ob mm t with
  | none => exact wt_none e
  | some h => rw [wt_some e, if_neg (fun z => absurd z.1 (Nat.not_lt_zero _))]
theorem wt_skip {mm mk : Nat → Int32} {a t : Nat} (h : ¬ mk a = nI 1) : wt mm mk (a + 1) t = wt mm mk a t := by
  cases e : ob mm t with
  | none => rw [wt_none e, wt_none e]
  | some b =>
    rw [wt_some e, wt_some e]
    by_cases q : b < a ∧ mk b = nI 1
    · rw [if_pos q, if_pos ⟨by omega, q.2⟩]
    · rw [if_neg q, if_neg (fun z => q ⟨by
        rcases Nat.lt_or_ge b a with y | y
        · exact y
        · have : b = a := by omega
          subst this
          exact absurd z.2 h, z.2⟩)]
def fw (row : Nat → Int32) (x to n : Nat) : Nat → Int32 := fun j => if x ≤ j ∧ j < x + n then nI (to + (j - x)) else row j
theorem fw_in {row : Nat → Int32} {x to n j : Nat} (h1 : x ≤ j) (h2 : j < x + n) : fw row x to n j = nI (to + (j - x)) := if_pos ⟨h1, h2⟩
theorem fw_out {row : Nat → Int32} {x to n j : Nat} (h : j < x ∨ x + n ≤ j) : fw row x to n j = row j := if_neg (by omega)
theorem fw_0 {row : Nat → Int32} {x to : Nat} : fw row x to 0 = row := by
  funext j
  exact fw_out (by omega)
theorem fw_s {row : Nat → Int32} {x to n : Nat} : upd (fw row x to n) (x + n) (nI (to + n)) = fw row x to (n + 1) := by
  funext j
  by_cases h : j = x + n
  · subst h
    rw [pk_us, fw_in (by omega) (by omega), show x + n - x = n by omega]
  · rw [pk_un h]
    by_cases h2 : x ≤ j ∧ j < x + n
    · rw [fw_in h2.1 h2.2, fw_in h2.1 (by omega)]
    · rw [fw_out (by omega), fw_out (by omega)]
theorem wt_put {mm mk : Nat → Int32} {W a t : Nat} (H : WF mm W) (ha : a < 200) (h0 : 0 < zs mm a) (h : mk a = nI 1) : wt mm mk (a + 1) t = if a ≤ t ∧ t < a + zs mm a then nI (tg mm mk a + (t - a)) else wt mm mk a t := by
  by_cases q : a ≤ t ∧ t < a + zs mm a
  · rw [if_pos q, wt_some (ob_of H ha q), if_pos ⟨Nat.lt_succ_self a, h⟩]
  · rw [if_neg q]
    cases e : ob mm t with
    | none => rw [wt_none e, wt_none e]
    | some b =>
      have hb := ob_in e
      have hne : b ≠ a := fun z => q (z ▸ hb)
      rw [wt_some e, wt_some e]
      by_cases y : b < a ∧ mk b = nI 1
      · rw [if_pos y, if_pos ⟨by omega, y.2⟩]
      · rw [if_neg y, if_neg (fun z => y ⟨by omega, z.2⟩)]
/-- the numbers of the report -/
def rq (mm mk : Nat → Int32) : Nat → Int32 × Int32 × Int32 × Int32
  | 0 => (nI 0, nI 0, nI 0, nI 0)
  | a + 1 => if mk a = nI 1 then ((rq mm mk a).1 + nI 1, (rq mm mk a).2.1 + nI (zs mm a), if tg mm mk a = a then (rq mm mk a).2.2.1 else (rq mm mk a).2.2.1 + nI 1, if tg mm mk a = a then (rq mm mk a).2.2.2 else (rq mm mk a).2.2.2 + (nI a - nI (tg mm mk a)) * nI (zs mm a)) else rq mm mk a
theorem rq_f {mm mk : Nat → Int32} {a : Nat} (h : ¬ mk a = nI 1) : rq mm mk (a + 1) = rq mm mk a := if_neg h
theorem rq_t {mm mk : Nat → Int32} {a : Nat} (h : mk a = nI 1) : rq mm mk (a + 1) = ((rq mm mk a).1 + nI 1, (rq mm mk a).2.1 + nI (zs mm a), if tg mm mk a = a then (rq mm mk a).2.2.1 else (rq mm mk a).2.2.1 + nI 1, if tg mm mk a = a then (rq mm mk a).2.2.2 else (rq mm mk a).2.2.2 + (nI a - nI (tg mm mk a)) * nI (zs mm a)) := if_pos h
def lw (mm mk : Nat → Int32) (a : Nat) : Nat := sm (fun h => if mk h = nI 1 then zs mm h else 0) a
theorem rq_lw {mm mk : Nat → Int32} : ∀ a, (rq mm mk a).2.1 = nI (lw mm mk a)
  | 0 => rfl
  | a + 1 => by
    have ih := rq_lw (mm := mm) (mk := mk) a
    have e : lw mm mk (a + 1) = lw mm mk a + (if mk a = nI 1 then zs mm a else 0) := rfl
    by_cases h : mk a = nI 1
    · rw [rq_t h, e, if_pos h, ← n_add, ← ih]
    · rw [rq_f h, e, if_neg h, Nat.add_zero, ih]
