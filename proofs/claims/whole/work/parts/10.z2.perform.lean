/-! one command of a script, in both -/
theorem AN.err {r : Int32} (h : AN r) : (FX6_isError r = some (nI 1) ∧ ¬ (-1000002 : Int32) < r ∧ ¬ r = nI 0) ∨ (FX6_isError r = some (nI 0) ∧ (-1000002 : Int32) < r) := by
  rcases h with rfl | rfl | rfl | rfl | ⟨t, ht, rfl⟩
  · exact Or.inl ⟨by decide, by decide, by decide⟩
  · exact Or.inl ⟨by decide, by decide, by decide⟩
  · exact Or.inl ⟨by decide, by decide, by decide⟩
  · exact Or.inr ⟨by decide, by decide⟩
  · have h0 : (0 : Int32) ≤ nI t := nI_pos' (by omega)
    have h1 : (-1000002 : Int32) < nI t := Int32.lt_of_lt_of_le (by decide) h0
    have n2 : ¬ nI t = -1000002 := fun z => by rw [z] at h0; exact absurd h0 (by decide)
    have n3 : ¬ nI t = -1000003 := fun z => by rw [z] at h0; exact absurd h0 (by decide)
    have n4 : ¬ nI t = -1000004 := fun z => by rw [z] at h0; exact absurd h0 (by decide)
    refine Or.inr ⟨?_, h1⟩
    unfold FX6_isError
    rw [if_neg n2, if_neg n3, if_neg n4]
    rfl
theorem g_ok {k n : Nat} (h : k < n) (hn : n < 2147483648) : g_in (nI k) n = true := by
  have h1 : (0 : Int32) ≤ nI k := nI_pos' (by omega)
  simp [g_in, h1, nI_clamp (n := k) (by omega), h]
theorem perf_99 (n : Nat) {K F S T C : Nat → Int32} {j : Nat} (hj : j < 40) (hk : K j = 99) (hc : C (4 * j) = 99) (words : Int32) (depth : Int32) (allocated : Int32) (collections : Int32) (freed : Int32) (owner : Nat → Int32) (fieldCount : Nat → Int32) (dataCount : Nat → Int32) (pinned : Nat → Int32) (age : Nat → Int32) (content : Nat → Int32) (roots : Nat → Int32) (weaks : Nat → Int32) (movedTo : Nat → Int32) (reports : Nat → Int32) (stacked : Int32) (deepest : Int32) (scans : Int32) (overflow : Int32) (marked : Nat → Int32) (stack : Nat → Int32) (ztop : Int32) (zhi : Int32) (zov : Int32) (zmm : Nat → Int32) (zold : Nat → Int32) (zmarked : Nat → Int32) (zstack : Nat → Int32) (h : RK n (words, depth, allocated, collections, freed, owner, fieldCount, dataCount, pinned, age, content, roots, weaks, movedTo, reports) zmm) : ∃ (r0 : Int32) (w_allocated : Int32) (w_collections : Int32) (w_freed : Int32) (w_owner : Nat → Int32) (w_fieldCount : Nat → Int32) (w_dataCount : Nat → Int32) (w_pinned : Nat → Int32) (w_age : Nat → Int32) (w_content : Nat → Int32) (w_roots : Nat → Int32) (w_weaks : Nat → Int32) (w_movedTo : Nat → Int32) (w_reports : Nat → Int32) (w_stacked : Int32) (w_deepest : Int32) (w_scans : Int32) (w_overflow : Int32) (w_marked : Nat → Int32) (w_stack : Nat → Int32) (w_ztop w_zhi w_zov : Int32) (w_zmm w_zold w_zmarked w_zstack : Nat → Int32), FX6_perform words depth allocated collections freed owner fieldCount dataCount pinned age content roots weaks movedTo reports stacked deepest scans overflow marked stack K F S T (nI j) = some (r0, w_allocated, w_collections, w_freed, w_owner, w_fieldCount, w_dataCount, w_pinned, w_age, w_content, w_roots, w_weaks, w_movedTo, w_reports, w_stacked, w_deepest, w_scans, w_overflow, w_marked, w_stack) ∧ FX7_does ztop zhi zov zmm zold zmarked zstack C (nI j) = some (r0, w_ztop, w_zhi, w_zov, w_zmm, w_zold, w_zmarked, w_zstack) ∧ AN r0 ∧ RK (n + 1) (words, depth, w_allocated, w_collections, w_freed, w_owner, w_fieldCount, w_dataCount, w_pinned, w_age, w_content, w_roots, w_weaks, w_movedTo, w_reports) w_zmm := by
  have k102 : ¬ K j = (102 : Int32) := by rw [hk]; decide
  have c102 : ¬ C (4 * j) = (102 : Int32) := by rw [hc]; decide
  have k110 : ¬ K j = (110 : Int32) := by rw [hk]; decide
  have c110 : ¬ C (4 * j) = (110 : Int32) := by rw [hc]; decide
  have k112 : ¬ K j = (112 : Int32) := by rw [hk]; decide
  have c112 : ¬ C (4 * j) = (112 : Int32) := by rw [hc]; decide
  have k114 : ¬ K j = (114 : Int32) := by rw [hk]; decide
  have c114 : ¬ C (4 * j) = (114 : Int32) := by rw [hc]; decide
  have k117 : ¬ K j = (117 : Int32) := by rw [hk]; decide
  have c117 : ¬ C (4 * j) = (117 : Int32) := by rw [hc]; decide
  have k119 : ¬ K j = (119 : Int32) := by rw [hk]; decide
  have c119 : ¬ C (4 * j) = (119 : Int32) := by rw [hc]; decide
  obtain ⟨W, H, X, c, q1, q2, q3⟩ := h
  obtain ⟨m, w_freed, w_owner, w_fieldCount, w_dataCount, w_pinned, w_age, w_content, w_roots, w_weaks, w_movedTo, w_reports, w_stacked, w_deepest, w_scans, w_overflow, w_marked, w_stack, w_ztop, w_zhi, w_zov, w_mm, w_old, w_zmarked, w_zstack, hn, e1, e2, HF, XF, c1, c2⟩ := col_core H X stacked deepest scans overflow marked stack ztop zhi zov zold zmarked zstack
  refine ⟨nI m, allocated, collections + nI 1, w_freed, w_owner, w_fieldCount, w_dataCount, w_pinned, w_age, w_content, w_roots, w_weaks, w_movedTo, w_reports, w_stacked, w_deepest, w_scans, w_overflow, w_marked, w_stack, w_ztop, w_zhi, w_zov, w_mm, w_old, w_zmarked, w_zstack, ?_, ?_, AN.num (by omega), W, HF, XF, c + 1, by omega, by rw [c1, q2, n_add], by rw [if_neg (by omega)]; exact c2⟩
  · clear XF HF X H c1 c2 q1 q2 q3 e2
    have g : g_in (nI j) 40 = true := g_ok (by omega) (by omega)
    have e0 : (nI j).toNatClampNeg = j := n_clamp (by omega)
    simp only [FX6_perform, g, gd_true, e0, if_neg k102, if_neg k110, if_neg k112, if_neg k114, if_neg k117, if_neg k119]
    rw [e1]
    rfl
  · clear XF HF X H c1 c2 q1 q2 q3 e1
    have i0 : (4 : Int32) * nI j = nI (4 * j) := n_mul 4 j
    have i1 : nI (4 * j) + 1 = nI (4 * j + 1) := n_add (4 * j) 1
    have i2 : nI (4 * j) + 2 = nI (4 * j + 2) := n_add (4 * j) 2
    have i3 : nI (4 * j) + 3 = nI (4 * j + 3) := n_add (4 * j) 3
    have g0 : g_in (nI (4 * j)) 160 = true := g_ok (by omega) (by omega)
    have t0 : (nI (4 * j)).toNatClampNeg = 4 * j := n_clamp (by omega)
    have g1 : g_in (nI (4 * j + 1)) 160 = true := g_ok (by omega) (by omega)
    have t1 : (nI (4 * j + 1)).toNatClampNeg = 4 * j + 1 := n_clamp (by omega)
    have g2 : g_in (nI (4 * j + 2)) 160 = true := g_ok (by omega) (by omega)
    have t2 : (nI (4 * j + 2)).toNatClampNeg = 4 * j + 2 := n_clamp (by omega)
    have g3 : g_in (nI (4 * j + 3)) 160 = true := g_ok (by omega) (by omega)
    have t3 : (nI (4 * j + 3)).toNatClampNeg = 4 * j + 3 := n_clamp (by omega)
    simp only [FX7_does, i1, i2, i3, i0, g0, g1, g2, g3, gd_true, t0, t1, t2, t3, if_neg c102, if_neg c110, if_neg c112, if_neg c114, if_neg c117, if_neg c119]
    rw [e2]
    rfl
theorem perf_102 (n : Nat) {K F S T C : Nat → Int32} {j : Nat} (hj : j < 40) (hk : K j = 102) (hc : C (4 * j) = 102) (hF : F j = C (4 * j + 1)) (hS : S j = C (4 * j + 2)) (hT : T j = C (4 * j + 3)) (words : Int32) (depth : Int32) (allocated : Int32) (collections : Int32) (freed : Int32) (owner : Nat → Int32) (fieldCount : Nat → Int32) (dataCount : Nat → Int32) (pinned : Nat → Int32) (age : Nat → Int32) (content : Nat → Int32) (roots : Nat → Int32) (weaks : Nat → Int32) (movedTo : Nat → Int32) (reports : Nat → Int32) (stacked : Int32) (deepest : Int32) (scans : Int32) (overflow : Int32) (marked : Nat → Int32) (stack : Nat → Int32) (ztop : Int32) (zhi : Int32) (zov : Int32) (zmm : Nat → Int32) (zold : Nat → Int32) (zmarked : Nat → Int32) (zstack : Nat → Int32) (h : RK n (words, depth, allocated, collections, freed, owner, fieldCount, dataCount, pinned, age, content, roots, weaks, movedTo, reports) zmm) : ∃ (r0 : Int32) (w_allocated : Int32) (w_collections : Int32) (w_freed : Int32) (w_owner : Nat → Int32) (w_fieldCount : Nat → Int32) (w_dataCount : Nat → Int32) (w_pinned : Nat → Int32) (w_age : Nat → Int32) (w_content : Nat → Int32) (w_roots : Nat → Int32) (w_weaks : Nat → Int32) (w_movedTo : Nat → Int32) (w_reports : Nat → Int32) (w_stacked : Int32) (w_deepest : Int32) (w_scans : Int32) (w_overflow : Int32) (w_marked : Nat → Int32) (w_stack : Nat → Int32) (w_ztop w_zhi w_zov : Int32) (w_zmm w_zold w_zmarked w_zstack : Nat → Int32), FX6_perform words depth allocated collections freed owner fieldCount dataCount pinned age content roots weaks movedTo reports stacked deepest scans overflow marked stack K F S T (nI j) = some (r0, w_allocated, w_collections, w_freed, w_owner, w_fieldCount, w_dataCount, w_pinned, w_age, w_content, w_roots, w_weaks, w_movedTo, w_reports, w_stacked, w_deepest, w_scans, w_overflow, w_marked, w_stack) ∧ FX7_does ztop zhi zov zmm zold zmarked zstack C (nI j) = some (r0, w_ztop, w_zhi, w_zov, w_zmm, w_zold, w_zmarked, w_zstack) ∧ AN r0 ∧ RK (n + 1) (words, depth, w_allocated, w_collections, w_freed, w_owner, w_fieldCount, w_dataCount, w_pinned, w_age, w_content, w_roots, w_weaks, w_movedTo, w_reports) w_zmm := by
  have pk : K j = (102 : Int32) := hk
  have pc : C (4 * j) = (102 : Int32) := hc
  obtain ⟨r0, w_content, w_zmm, e1, e2, ha, hr⟩ := sam_setField n words depth allocated collections freed owner fieldCount dataCount pinned age content roots weaks movedTo reports zmm (C (4 * j + 1)) (C (4 * j + 2)) (C (4 * j + 3)) h
  refine ⟨r0, allocated, collections, freed, owner, fieldCount, dataCount, pinned, age, w_content, roots, weaks, movedTo, reports, stacked, deepest, scans, overflow, marked, stack, ztop, zhi, zov, w_zmm, zold, zmarked, zstack, ?_, ?_, ha, hr.up (Nat.le_succ n)⟩
  · clear h hr ha e2
    have g : g_in (nI j) 40 = true := g_ok (by omega) (by omega)
    have e0 : (nI j).toNatClampNeg = j := n_clamp (by omega)
    simp only [FX6_perform, g, gd_true, e0, if_pos pk]
    rw [hF, hS, hT, e1]
    rfl
  · clear h hr ha e1
    have i0 : (4 : Int32) * nI j = nI (4 * j) := n_mul 4 j
    have i1 : nI (4 * j) + 1 = nI (4 * j + 1) := n_add (4 * j) 1
    have i2 : nI (4 * j) + 2 = nI (4 * j + 2) := n_add (4 * j) 2
    have i3 : nI (4 * j) + 3 = nI (4 * j + 3) := n_add (4 * j) 3
    have g0 : g_in (nI (4 * j)) 160 = true := g_ok (by omega) (by omega)
    have t0 : (nI (4 * j)).toNatClampNeg = 4 * j := n_clamp (by omega)
    have g1 : g_in (nI (4 * j + 1)) 160 = true := g_ok (by omega) (by omega)
    have t1 : (nI (4 * j + 1)).toNatClampNeg = 4 * j + 1 := n_clamp (by omega)
    have g2 : g_in (nI (4 * j + 2)) 160 = true := g_ok (by omega) (by omega)
    have t2 : (nI (4 * j + 2)).toNatClampNeg = 4 * j + 2 := n_clamp (by omega)
    have g3 : g_in (nI (4 * j + 3)) 160 = true := g_ok (by omega) (by omega)
    have t3 : (nI (4 * j + 3)).toNatClampNeg = 4 * j + 3 := n_clamp (by omega)
    simp only [FX7_does, i1, i2, i3, i0, g0, g1, g2, g3, gd_true, t0, t1, t2, t3, if_pos pc]
    rw [e2]
    rfl
theorem perf_110 (n : Nat) {K F S T C : Nat → Int32} {j : Nat} (hj : j < 40) (hk : K j = 110) (hc : C (4 * j) = 110) (hF : F j = C (4 * j + 1)) (hS : S j = C (4 * j + 2)) (words : Int32) (depth : Int32) (allocated : Int32) (collections : Int32) (freed : Int32) (owner : Nat → Int32) (fieldCount : Nat → Int32) (dataCount : Nat → Int32) (pinned : Nat → Int32) (age : Nat → Int32) (content : Nat → Int32) (roots : Nat → Int32) (weaks : Nat → Int32) (movedTo : Nat → Int32) (reports : Nat → Int32) (stacked : Int32) (deepest : Int32) (scans : Int32) (overflow : Int32) (marked : Nat → Int32) (stack : Nat → Int32) (ztop : Int32) (zhi : Int32) (zov : Int32) (zmm : Nat → Int32) (zold : Nat → Int32) (zmarked : Nat → Int32) (zstack : Nat → Int32) (h : RK n (words, depth, allocated, collections, freed, owner, fieldCount, dataCount, pinned, age, content, roots, weaks, movedTo, reports) zmm) : ∃ (r0 : Int32) (w_allocated : Int32) (w_collections : Int32) (w_freed : Int32) (w_owner : Nat → Int32) (w_fieldCount : Nat → Int32) (w_dataCount : Nat → Int32) (w_pinned : Nat → Int32) (w_age : Nat → Int32) (w_content : Nat → Int32) (w_roots : Nat → Int32) (w_weaks : Nat → Int32) (w_movedTo : Nat → Int32) (w_reports : Nat → Int32) (w_stacked : Int32) (w_deepest : Int32) (w_scans : Int32) (w_overflow : Int32) (w_marked : Nat → Int32) (w_stack : Nat → Int32) (w_ztop w_zhi w_zov : Int32) (w_zmm w_zold w_zmarked w_zstack : Nat → Int32), FX6_perform words depth allocated collections freed owner fieldCount dataCount pinned age content roots weaks movedTo reports stacked deepest scans overflow marked stack K F S T (nI j) = some (r0, w_allocated, w_collections, w_freed, w_owner, w_fieldCount, w_dataCount, w_pinned, w_age, w_content, w_roots, w_weaks, w_movedTo, w_reports, w_stacked, w_deepest, w_scans, w_overflow, w_marked, w_stack) ∧ FX7_does ztop zhi zov zmm zold zmarked zstack C (nI j) = some (r0, w_ztop, w_zhi, w_zov, w_zmm, w_zold, w_zmarked, w_zstack) ∧ AN r0 ∧ RK (n + 1) (words, depth, w_allocated, w_collections, w_freed, w_owner, w_fieldCount, w_dataCount, w_pinned, w_age, w_content, w_roots, w_weaks, w_movedTo, w_reports) w_zmm := by
  have k102 : ¬ K j = (102 : Int32) := by rw [hk]; decide
  have c102 : ¬ C (4 * j) = (102 : Int32) := by rw [hc]; decide
  have pk : K j = (110 : Int32) := hk
  have pc : C (4 * j) = (110 : Int32) := hc
  obtain ⟨r0, w_allocated, w_owner, w_fieldCount, w_dataCount, w_pinned, w_age, w_content, w_zmm, e1, e2, ha, hr⟩ := sam_alloc n words depth allocated collections freed owner fieldCount dataCount pinned age content roots weaks movedTo reports zmm (C (4 * j + 1)) (C (4 * j + 2)) h
  refine ⟨r0, w_allocated, collections, freed, w_owner, w_fieldCount, w_dataCount, w_pinned, w_age, w_content, roots, weaks, movedTo, reports, stacked, deepest, scans, overflow, marked, stack, ztop, zhi, zov, w_zmm, zold, zmarked, zstack, ?_, ?_, ha, hr.up (Nat.le_succ n)⟩
  · clear h hr ha e2
    have g : g_in (nI j) 40 = true := g_ok (by omega) (by omega)
    have e0 : (nI j).toNatClampNeg = j := n_clamp (by omega)
    simp only [FX6_perform, g, gd_true, e0, if_neg k102, if_pos pk]
    rw [hF, hS, e1]
    rfl
  · clear h hr ha e1
    have i0 : (4 : Int32) * nI j = nI (4 * j) := n_mul 4 j
    have i1 : nI (4 * j) + 1 = nI (4 * j + 1) := n_add (4 * j) 1
    have i2 : nI (4 * j) + 2 = nI (4 * j + 2) := n_add (4 * j) 2
    have i3 : nI (4 * j) + 3 = nI (4 * j + 3) := n_add (4 * j) 3
    have g0 : g_in (nI (4 * j)) 160 = true := g_ok (by omega) (by omega)
    have t0 : (nI (4 * j)).toNatClampNeg = 4 * j := n_clamp (by omega)
    have g1 : g_in (nI (4 * j + 1)) 160 = true := g_ok (by omega) (by omega)
    have t1 : (nI (4 * j + 1)).toNatClampNeg = 4 * j + 1 := n_clamp (by omega)
    have g2 : g_in (nI (4 * j + 2)) 160 = true := g_ok (by omega) (by omega)
    have t2 : (nI (4 * j + 2)).toNatClampNeg = 4 * j + 2 := n_clamp (by omega)
    have g3 : g_in (nI (4 * j + 3)) 160 = true := g_ok (by omega) (by omega)
    have t3 : (nI (4 * j + 3)).toNatClampNeg = 4 * j + 3 := n_clamp (by omega)
    simp only [FX7_does, i1, i2, i3, i0, g0, g1, g2, g3, gd_true, t0, t1, t2, t3, if_neg c102, if_pos pc]
    rw [e2]
    rfl
theorem perf_112 (n : Nat) {K F S T C : Nat → Int32} {j : Nat} (hj : j < 40) (hk : K j = 112) (hc : C (4 * j) = 112) (hF : F j = C (4 * j + 1)) (words : Int32) (depth : Int32) (allocated : Int32) (collections : Int32) (freed : Int32) (owner : Nat → Int32) (fieldCount : Nat → Int32) (dataCount : Nat → Int32) (pinned : Nat → Int32) (age : Nat → Int32) (content : Nat → Int32) (roots : Nat → Int32) (weaks : Nat → Int32) (movedTo : Nat → Int32) (reports : Nat → Int32) (stacked : Int32) (deepest : Int32) (scans : Int32) (overflow : Int32) (marked : Nat → Int32) (stack : Nat → Int32) (ztop : Int32) (zhi : Int32) (zov : Int32) (zmm : Nat → Int32) (zold : Nat → Int32) (zmarked : Nat → Int32) (zstack : Nat → Int32) (h : RK n (words, depth, allocated, collections, freed, owner, fieldCount, dataCount, pinned, age, content, roots, weaks, movedTo, reports) zmm) : ∃ (r0 : Int32) (w_allocated : Int32) (w_collections : Int32) (w_freed : Int32) (w_owner : Nat → Int32) (w_fieldCount : Nat → Int32) (w_dataCount : Nat → Int32) (w_pinned : Nat → Int32) (w_age : Nat → Int32) (w_content : Nat → Int32) (w_roots : Nat → Int32) (w_weaks : Nat → Int32) (w_movedTo : Nat → Int32) (w_reports : Nat → Int32) (w_stacked : Int32) (w_deepest : Int32) (w_scans : Int32) (w_overflow : Int32) (w_marked : Nat → Int32) (w_stack : Nat → Int32) (w_ztop w_zhi w_zov : Int32) (w_zmm w_zold w_zmarked w_zstack : Nat → Int32), FX6_perform words depth allocated collections freed owner fieldCount dataCount pinned age content roots weaks movedTo reports stacked deepest scans overflow marked stack K F S T (nI j) = some (r0, w_allocated, w_collections, w_freed, w_owner, w_fieldCount, w_dataCount, w_pinned, w_age, w_content, w_roots, w_weaks, w_movedTo, w_reports, w_stacked, w_deepest, w_scans, w_overflow, w_marked, w_stack) ∧ FX7_does ztop zhi zov zmm zold zmarked zstack C (nI j) = some (r0, w_ztop, w_zhi, w_zov, w_zmm, w_zold, w_zmarked, w_zstack) ∧ AN r0 ∧ RK (n + 1) (words, depth, w_allocated, w_collections, w_freed, w_owner, w_fieldCount, w_dataCount, w_pinned, w_age, w_content, w_roots, w_weaks, w_movedTo, w_reports) w_zmm := by
  have k102 : ¬ K j = (102 : Int32) := by rw [hk]; decide
  have c102 : ¬ C (4 * j) = (102 : Int32) := by rw [hc]; decide
  have k110 : ¬ K j = (110 : Int32) := by rw [hk]; decide
  have c110 : ¬ C (4 * j) = (110 : Int32) := by rw [hc]; decide
  have pk : K j = (112 : Int32) := hk
  have pc : C (4 * j) = (112 : Int32) := hc
  obtain ⟨r0, w_pinned, w_zmm, e1, e2, ha, hr⟩ := sam_pin n words depth allocated collections freed owner fieldCount dataCount pinned age content roots weaks movedTo reports zmm (C (4 * j + 1)) (nI 1) h
  refine ⟨r0, allocated, collections, freed, owner, fieldCount, dataCount, w_pinned, age, content, roots, weaks, movedTo, reports, stacked, deepest, scans, overflow, marked, stack, ztop, zhi, zov, w_zmm, zold, zmarked, zstack, ?_, ?_, ha, hr.up (Nat.le_succ n)⟩
  · clear h hr ha e2
    have g : g_in (nI j) 40 = true := g_ok (by omega) (by omega)
    have e0 : (nI j).toNatClampNeg = j := n_clamp (by omega)
    simp only [FX6_perform, g, gd_true, e0, if_neg k102, if_neg k110, if_pos pk]
    rw [hF, show (1 : Int32) = nI 1 from rfl, e1]
    rfl
  · clear h hr ha e1
    have i0 : (4 : Int32) * nI j = nI (4 * j) := n_mul 4 j
    have i1 : nI (4 * j) + 1 = nI (4 * j + 1) := n_add (4 * j) 1
    have i2 : nI (4 * j) + 2 = nI (4 * j + 2) := n_add (4 * j) 2
    have i3 : nI (4 * j) + 3 = nI (4 * j + 3) := n_add (4 * j) 3
    have g0 : g_in (nI (4 * j)) 160 = true := g_ok (by omega) (by omega)
    have t0 : (nI (4 * j)).toNatClampNeg = 4 * j := n_clamp (by omega)
    have g1 : g_in (nI (4 * j + 1)) 160 = true := g_ok (by omega) (by omega)
    have t1 : (nI (4 * j + 1)).toNatClampNeg = 4 * j + 1 := n_clamp (by omega)
    have g2 : g_in (nI (4 * j + 2)) 160 = true := g_ok (by omega) (by omega)
    have t2 : (nI (4 * j + 2)).toNatClampNeg = 4 * j + 2 := n_clamp (by omega)
    have g3 : g_in (nI (4 * j + 3)) 160 = true := g_ok (by omega) (by omega)
    have t3 : (nI (4 * j + 3)).toNatClampNeg = 4 * j + 3 := n_clamp (by omega)
    simp only [FX7_does, i1, i2, i3, i0, g0, g1, g2, g3, gd_true, t0, t1, t2, t3, if_neg c102, if_neg c110, if_pos pc]
    rw [show (1 : Int32) = nI 1 from rfl, e2]
    rfl
theorem perf_114 (n : Nat) {K F S T C : Nat → Int32} {j : Nat} (hj : j < 40) (hk : K j = 114) (hc : C (4 * j) = 114) (hF : F j = C (4 * j + 1)) (hS : S j = C (4 * j + 2)) (words : Int32) (depth : Int32) (allocated : Int32) (collections : Int32) (freed : Int32) (owner : Nat → Int32) (fieldCount : Nat → Int32) (dataCount : Nat → Int32) (pinned : Nat → Int32) (age : Nat → Int32) (content : Nat → Int32) (roots : Nat → Int32) (weaks : Nat → Int32) (movedTo : Nat → Int32) (reports : Nat → Int32) (stacked : Int32) (deepest : Int32) (scans : Int32) (overflow : Int32) (marked : Nat → Int32) (stack : Nat → Int32) (ztop : Int32) (zhi : Int32) (zov : Int32) (zmm : Nat → Int32) (zold : Nat → Int32) (zmarked : Nat → Int32) (zstack : Nat → Int32) (h : RK n (words, depth, allocated, collections, freed, owner, fieldCount, dataCount, pinned, age, content, roots, weaks, movedTo, reports) zmm) : ∃ (r0 : Int32) (w_allocated : Int32) (w_collections : Int32) (w_freed : Int32) (w_owner : Nat → Int32) (w_fieldCount : Nat → Int32) (w_dataCount : Nat → Int32) (w_pinned : Nat → Int32) (w_age : Nat → Int32) (w_content : Nat → Int32) (w_roots : Nat → Int32) (w_weaks : Nat → Int32) (w_movedTo : Nat → Int32) (w_reports : Nat → Int32) (w_stacked : Int32) (w_deepest : Int32) (w_scans : Int32) (w_overflow : Int32) (w_marked : Nat → Int32) (w_stack : Nat → Int32) (w_ztop w_zhi w_zov : Int32) (w_zmm w_zold w_zmarked w_zstack : Nat → Int32), FX6_perform words depth allocated collections freed owner fieldCount dataCount pinned age content roots weaks movedTo reports stacked deepest scans overflow marked stack K F S T (nI j) = some (r0, w_allocated, w_collections, w_freed, w_owner, w_fieldCount, w_dataCount, w_pinned, w_age, w_content, w_roots, w_weaks, w_movedTo, w_reports, w_stacked, w_deepest, w_scans, w_overflow, w_marked, w_stack) ∧ FX7_does ztop zhi zov zmm zold zmarked zstack C (nI j) = some (r0, w_ztop, w_zhi, w_zov, w_zmm, w_zold, w_zmarked, w_zstack) ∧ AN r0 ∧ RK (n + 1) (words, depth, w_allocated, w_collections, w_freed, w_owner, w_fieldCount, w_dataCount, w_pinned, w_age, w_content, w_roots, w_weaks, w_movedTo, w_reports) w_zmm := by
  have k102 : ¬ K j = (102 : Int32) := by rw [hk]; decide
  have c102 : ¬ C (4 * j) = (102 : Int32) := by rw [hc]; decide
  have k110 : ¬ K j = (110 : Int32) := by rw [hk]; decide
  have c110 : ¬ C (4 * j) = (110 : Int32) := by rw [hc]; decide
  have k112 : ¬ K j = (112 : Int32) := by rw [hk]; decide
  have c112 : ¬ C (4 * j) = (112 : Int32) := by rw [hc]; decide
  have pk : K j = (114 : Int32) := hk
  have pc : C (4 * j) = (114 : Int32) := hc
  obtain ⟨r0, w_roots, w_zmm, e1, e2, ha, hr⟩ := sam_setRoot n words depth allocated collections freed owner fieldCount dataCount pinned age content roots weaks movedTo reports zmm (C (4 * j + 1)) (C (4 * j + 2)) h
  refine ⟨r0, allocated, collections, freed, owner, fieldCount, dataCount, pinned, age, content, w_roots, weaks, movedTo, reports, stacked, deepest, scans, overflow, marked, stack, ztop, zhi, zov, w_zmm, zold, zmarked, zstack, ?_, ?_, ha, hr.up (Nat.le_succ n)⟩
  · clear h hr ha e2
    have g : g_in (nI j) 40 = true := g_ok (by omega) (by omega)
    have e0 : (nI j).toNatClampNeg = j := n_clamp (by omega)
    simp only [FX6_perform, g, gd_true, e0, if_neg k102, if_neg k110, if_neg k112, if_pos pk]
    rw [hF, hS, e1]
    rfl
  · clear h hr ha e1
    have i0 : (4 : Int32) * nI j = nI (4 * j) := n_mul 4 j
    have i1 : nI (4 * j) + 1 = nI (4 * j + 1) := n_add (4 * j) 1
    have i2 : nI (4 * j) + 2 = nI (4 * j + 2) := n_add (4 * j) 2
    have i3 : nI (4 * j) + 3 = nI (4 * j + 3) := n_add (4 * j) 3
    have g0 : g_in (nI (4 * j)) 160 = true := g_ok (by omega) (by omega)
    have t0 : (nI (4 * j)).toNatClampNeg = 4 * j := n_clamp (by omega)
    have g1 : g_in (nI (4 * j + 1)) 160 = true := g_ok (by omega) (by omega)
    have t1 : (nI (4 * j + 1)).toNatClampNeg = 4 * j + 1 := n_clamp (by omega)
    have g2 : g_in (nI (4 * j + 2)) 160 = true := g_ok (by omega) (by omega)
    have t2 : (nI (4 * j + 2)).toNatClampNeg = 4 * j + 2 := n_clamp (by omega)
    have g3 : g_in (nI (4 * j + 3)) 160 = true := g_ok (by omega) (by omega)
    have t3 : (nI (4 * j + 3)).toNatClampNeg = 4 * j + 3 := n_clamp (by omega)
    simp only [FX7_does, i1, i2, i3, i0, g0, g1, g2, g3, gd_true, t0, t1, t2, t3, if_neg c102, if_neg c110, if_neg c112, if_pos pc]
    rw [e2]
    rfl
theorem perf_117 (n : Nat) {K F S T C : Nat → Int32} {j : Nat} (hj : j < 40) (hk : K j = 117) (hc : C (4 * j) = 117) (hF : F j = C (4 * j + 1)) (words : Int32) (depth : Int32) (allocated : Int32) (collections : Int32) (freed : Int32) (owner : Nat → Int32) (fieldCount : Nat → Int32) (dataCount : Nat → Int32) (pinned : Nat → Int32) (age : Nat → Int32) (content : Nat → Int32) (roots : Nat → Int32) (weaks : Nat → Int32) (movedTo : Nat → Int32) (reports : Nat → Int32) (stacked : Int32) (deepest : Int32) (scans : Int32) (overflow : Int32) (marked : Nat → Int32) (stack : Nat → Int32) (ztop : Int32) (zhi : Int32) (zov : Int32) (zmm : Nat → Int32) (zold : Nat → Int32) (zmarked : Nat → Int32) (zstack : Nat → Int32) (h : RK n (words, depth, allocated, collections, freed, owner, fieldCount, dataCount, pinned, age, content, roots, weaks, movedTo, reports) zmm) : ∃ (r0 : Int32) (w_allocated : Int32) (w_collections : Int32) (w_freed : Int32) (w_owner : Nat → Int32) (w_fieldCount : Nat → Int32) (w_dataCount : Nat → Int32) (w_pinned : Nat → Int32) (w_age : Nat → Int32) (w_content : Nat → Int32) (w_roots : Nat → Int32) (w_weaks : Nat → Int32) (w_movedTo : Nat → Int32) (w_reports : Nat → Int32) (w_stacked : Int32) (w_deepest : Int32) (w_scans : Int32) (w_overflow : Int32) (w_marked : Nat → Int32) (w_stack : Nat → Int32) (w_ztop w_zhi w_zov : Int32) (w_zmm w_zold w_zmarked w_zstack : Nat → Int32), FX6_perform words depth allocated collections freed owner fieldCount dataCount pinned age content roots weaks movedTo reports stacked deepest scans overflow marked stack K F S T (nI j) = some (r0, w_allocated, w_collections, w_freed, w_owner, w_fieldCount, w_dataCount, w_pinned, w_age, w_content, w_roots, w_weaks, w_movedTo, w_reports, w_stacked, w_deepest, w_scans, w_overflow, w_marked, w_stack) ∧ FX7_does ztop zhi zov zmm zold zmarked zstack C (nI j) = some (r0, w_ztop, w_zhi, w_zov, w_zmm, w_zold, w_zmarked, w_zstack) ∧ AN r0 ∧ RK (n + 1) (words, depth, w_allocated, w_collections, w_freed, w_owner, w_fieldCount, w_dataCount, w_pinned, w_age, w_content, w_roots, w_weaks, w_movedTo, w_reports) w_zmm := by
  have k102 : ¬ K j = (102 : Int32) := by rw [hk]; decide
  have c102 : ¬ C (4 * j) = (102 : Int32) := by rw [hc]; decide
  have k110 : ¬ K j = (110 : Int32) := by rw [hk]; decide
  have c110 : ¬ C (4 * j) = (110 : Int32) := by rw [hc]; decide
  have k112 : ¬ K j = (112 : Int32) := by rw [hk]; decide
  have c112 : ¬ C (4 * j) = (112 : Int32) := by rw [hc]; decide
  have k114 : ¬ K j = (114 : Int32) := by rw [hk]; decide
  have c114 : ¬ C (4 * j) = (114 : Int32) := by rw [hc]; decide
  have pk : K j = (117 : Int32) := hk
  have pc : C (4 * j) = (117 : Int32) := hc
  obtain ⟨r0, w_pinned, w_zmm, e1, e2, ha, hr⟩ := sam_pin n words depth allocated collections freed owner fieldCount dataCount pinned age content roots weaks movedTo reports zmm (C (4 * j + 1)) (nI 0) h
  refine ⟨r0, allocated, collections, freed, owner, fieldCount, dataCount, w_pinned, age, content, roots, weaks, movedTo, reports, stacked, deepest, scans, overflow, marked, stack, ztop, zhi, zov, w_zmm, zold, zmarked, zstack, ?_, ?_, ha, hr.up (Nat.le_succ n)⟩
  · clear h hr ha e2
    have g : g_in (nI j) 40 = true := g_ok (by omega) (by omega)
    have e0 : (nI j).toNatClampNeg = j := n_clamp (by omega)
    simp only [FX6_perform, g, gd_true, e0, if_neg k102, if_neg k110, if_neg k112, if_neg k114, if_pos pk]
    rw [hF, show (0 : Int32) = nI 0 from rfl, e1]
    rfl
  · clear h hr ha e1
    have i0 : (4 : Int32) * nI j = nI (4 * j) := n_mul 4 j
    have i1 : nI (4 * j) + 1 = nI (4 * j + 1) := n_add (4 * j) 1
    have i2 : nI (4 * j) + 2 = nI (4 * j + 2) := n_add (4 * j) 2
    have i3 : nI (4 * j) + 3 = nI (4 * j + 3) := n_add (4 * j) 3
    have g0 : g_in (nI (4 * j)) 160 = true := g_ok (by omega) (by omega)
    have t0 : (nI (4 * j)).toNatClampNeg = 4 * j := n_clamp (by omega)
    have g1 : g_in (nI (4 * j + 1)) 160 = true := g_ok (by omega) (by omega)
    have t1 : (nI (4 * j + 1)).toNatClampNeg = 4 * j + 1 := n_clamp (by omega)
    have g2 : g_in (nI (4 * j + 2)) 160 = true := g_ok (by omega) (by omega)
    have t2 : (nI (4 * j + 2)).toNatClampNeg = 4 * j + 2 := n_clamp (by omega)
    have g3 : g_in (nI (4 * j + 3)) 160 = true := g_ok (by omega) (by omega)
    have t3 : (nI (4 * j + 3)).toNatClampNeg = 4 * j + 3 := n_clamp (by omega)
    simp only [FX7_does, i1, i2, i3, i0, g0, g1, g2, g3, gd_true, t0, t1, t2, t3, if_neg c102, if_neg c110, if_neg c112, if_neg c114, if_pos pc]
    rw [show (0 : Int32) = nI 0 from rfl, e2]
    rfl
theorem perf_119 (n : Nat) {K F S T C : Nat → Int32} {j : Nat} (hj : j < 40) (hk : K j = 119) (hc : C (4 * j) = 119) (hF : F j = C (4 * j + 1)) (hS : S j = C (4 * j + 2)) (words : Int32) (depth : Int32) (allocated : Int32) (collections : Int32) (freed : Int32) (owner : Nat → Int32) (fieldCount : Nat → Int32) (dataCount : Nat → Int32) (pinned : Nat → Int32) (age : Nat → Int32) (content : Nat → Int32) (roots : Nat → Int32) (weaks : Nat → Int32) (movedTo : Nat → Int32) (reports : Nat → Int32) (stacked : Int32) (deepest : Int32) (scans : Int32) (overflow : Int32) (marked : Nat → Int32) (stack : Nat → Int32) (ztop : Int32) (zhi : Int32) (zov : Int32) (zmm : Nat → Int32) (zold : Nat → Int32) (zmarked : Nat → Int32) (zstack : Nat → Int32) (h : RK n (words, depth, allocated, collections, freed, owner, fieldCount, dataCount, pinned, age, content, roots, weaks, movedTo, reports) zmm) : ∃ (r0 : Int32) (w_allocated : Int32) (w_collections : Int32) (w_freed : Int32) (w_owner : Nat → Int32) (w_fieldCount : Nat → Int32) (w_dataCount : Nat → Int32) (w_pinned : Nat → Int32) (w_age : Nat → Int32) (w_content : Nat → Int32) (w_roots : Nat → Int32) (w_weaks : Nat → Int32) (w_movedTo : Nat → Int32) (w_reports : Nat → Int32) (w_stacked : Int32) (w_deepest : Int32) (w_scans : Int32) (w_overflow : Int32) (w_marked : Nat → Int32) (w_stack : Nat → Int32) (w_ztop w_zhi w_zov : Int32) (w_zmm w_zold w_zmarked w_zstack : Nat → Int32), FX6_perform words depth allocated collections freed owner fieldCount dataCount pinned age content roots weaks movedTo reports stacked deepest scans overflow marked stack K F S T (nI j) = some (r0, w_allocated, w_collections, w_freed, w_owner, w_fieldCount, w_dataCount, w_pinned, w_age, w_content, w_roots, w_weaks, w_movedTo, w_reports, w_stacked, w_deepest, w_scans, w_overflow, w_marked, w_stack) ∧ FX7_does ztop zhi zov zmm zold zmarked zstack C (nI j) = some (r0, w_ztop, w_zhi, w_zov, w_zmm, w_zold, w_zmarked, w_zstack) ∧ AN r0 ∧ RK (n + 1) (words, depth, w_allocated, w_collections, w_freed, w_owner, w_fieldCount, w_dataCount, w_pinned, w_age, w_content, w_roots, w_weaks, w_movedTo, w_reports) w_zmm := by
  have k102 : ¬ K j = (102 : Int32) := by rw [hk]; decide
  have c102 : ¬ C (4 * j) = (102 : Int32) := by rw [hc]; decide
  have k110 : ¬ K j = (110 : Int32) := by rw [hk]; decide
  have c110 : ¬ C (4 * j) = (110 : Int32) := by rw [hc]; decide
  have k112 : ¬ K j = (112 : Int32) := by rw [hk]; decide
  have c112 : ¬ C (4 * j) = (112 : Int32) := by rw [hc]; decide
  have k114 : ¬ K j = (114 : Int32) := by rw [hk]; decide
  have c114 : ¬ C (4 * j) = (114 : Int32) := by rw [hc]; decide
  have k117 : ¬ K j = (117 : Int32) := by rw [hk]; decide
  have c117 : ¬ C (4 * j) = (117 : Int32) := by rw [hc]; decide
  have pk : K j = (119 : Int32) := hk
  have pc : C (4 * j) = (119 : Int32) := hc
  obtain ⟨r0, w_weaks, w_zmm, e1, e2, ha, hr⟩ := sam_setWeak n words depth allocated collections freed owner fieldCount dataCount pinned age content roots weaks movedTo reports zmm (C (4 * j + 1)) (C (4 * j + 2)) h
  refine ⟨r0, allocated, collections, freed, owner, fieldCount, dataCount, pinned, age, content, roots, w_weaks, movedTo, reports, stacked, deepest, scans, overflow, marked, stack, ztop, zhi, zov, w_zmm, zold, zmarked, zstack, ?_, ?_, ha, hr.up (Nat.le_succ n)⟩
  · clear h hr ha e2
    have g : g_in (nI j) 40 = true := g_ok (by omega) (by omega)
    have e0 : (nI j).toNatClampNeg = j := n_clamp (by omega)
    simp only [FX6_perform, g, gd_true, e0, if_neg k102, if_neg k110, if_neg k112, if_neg k114, if_neg k117, if_pos pk]
    rw [hF, hS, e1]
    rfl
  · clear h hr ha e1
    have i0 : (4 : Int32) * nI j = nI (4 * j) := n_mul 4 j
    have i1 : nI (4 * j) + 1 = nI (4 * j + 1) := n_add (4 * j) 1
    have i2 : nI (4 * j) + 2 = nI (4 * j + 2) := n_add (4 * j) 2
    have i3 : nI (4 * j) + 3 = nI (4 * j + 3) := n_add (4 * j) 3
    have g0 : g_in (nI (4 * j)) 160 = true := g_ok (by omega) (by omega)
    have t0 : (nI (4 * j)).toNatClampNeg = 4 * j := n_clamp (by omega)
    have g1 : g_in (nI (4 * j + 1)) 160 = true := g_ok (by omega) (by omega)
    have t1 : (nI (4 * j + 1)).toNatClampNeg = 4 * j + 1 := n_clamp (by omega)
    have g2 : g_in (nI (4 * j + 2)) 160 = true := g_ok (by omega) (by omega)
    have t2 : (nI (4 * j + 2)).toNatClampNeg = 4 * j + 2 := n_clamp (by omega)
    have g3 : g_in (nI (4 * j + 3)) 160 = true := g_ok (by omega) (by omega)
    have t3 : (nI (4 * j + 3)).toNatClampNeg = 4 * j + 3 := n_clamp (by omega)
    simp only [FX7_does, i1, i2, i3, i0, g0, g1, g2, g3, gd_true, t0, t1, t2, t3, if_neg c102, if_neg c110, if_neg c112, if_neg c114, if_neg c117, if_pos pc]
    rw [e2]
    rfl
theorem perf (n : Nat) {K F S T C : Nat → Int32} {j m : Nat} (hC : CM m K F S T C) (hm : m ≤ 40) (hj : j < m) (words : Int32) (depth : Int32) (allocated : Int32) (collections : Int32) (freed : Int32) (owner : Nat → Int32) (fieldCount : Nat → Int32) (dataCount : Nat → Int32) (pinned : Nat → Int32) (age : Nat → Int32) (content : Nat → Int32) (roots : Nat → Int32) (weaks : Nat → Int32) (movedTo : Nat → Int32) (reports : Nat → Int32) (stacked : Int32) (deepest : Int32) (scans : Int32) (overflow : Int32) (marked : Nat → Int32) (stack : Nat → Int32) (ztop : Int32) (zhi : Int32) (zov : Int32) (zmm : Nat → Int32) (zold : Nat → Int32) (zmarked : Nat → Int32) (zstack : Nat → Int32) (h : RK n (words, depth, allocated, collections, freed, owner, fieldCount, dataCount, pinned, age, content, roots, weaks, movedTo, reports) zmm) : ∃ (r0 : Int32) (w_allocated : Int32) (w_collections : Int32) (w_freed : Int32) (w_owner : Nat → Int32) (w_fieldCount : Nat → Int32) (w_dataCount : Nat → Int32) (w_pinned : Nat → Int32) (w_age : Nat → Int32) (w_content : Nat → Int32) (w_roots : Nat → Int32) (w_weaks : Nat → Int32) (w_movedTo : Nat → Int32) (w_reports : Nat → Int32) (w_stacked : Int32) (w_deepest : Int32) (w_scans : Int32) (w_overflow : Int32) (w_marked : Nat → Int32) (w_stack : Nat → Int32) (w_ztop w_zhi w_zov : Int32) (w_zmm w_zold w_zmarked w_zstack : Nat → Int32), FX6_perform words depth allocated collections freed owner fieldCount dataCount pinned age content roots weaks movedTo reports stacked deepest scans overflow marked stack K F S T (nI j) = some (r0, w_allocated, w_collections, w_freed, w_owner, w_fieldCount, w_dataCount, w_pinned, w_age, w_content, w_roots, w_weaks, w_movedTo, w_reports, w_stacked, w_deepest, w_scans, w_overflow, w_marked, w_stack) ∧ FX7_does ztop zhi zov zmm zold zmarked zstack C (nI j) = some (r0, w_ztop, w_zhi, w_zov, w_zmm, w_zold, w_zmarked, w_zstack) ∧ AN r0 ∧ RK (n + 1) (words, depth, w_allocated, w_collections, w_freed, w_owner, w_fieldCount, w_dataCount, w_pinned, w_age, w_content, w_roots, w_weaks, w_movedTo, w_reports) w_zmm := by
  obtain ⟨h1, h2, h3, h4, h5⟩ := hC j hj
  have hj4 : j < 40 := Nat.lt_of_lt_of_le hj hm
  rcases h5 with k | k | k | k | k | k | k
  · exact perf_99 n hj4 k (h1.symm.trans k) words depth allocated collections freed owner fieldCount dataCount pinned age content roots weaks movedTo reports stacked deepest scans overflow marked stack ztop zhi zov zmm zold zmarked zstack h
  · exact perf_102 n hj4 k (h1.symm.trans k) (h2.resolve_left (by rw [k]; decide)) (((h3.resolve_left (by rw [k]; decide)).resolve_left (by rw [k]; decide)).resolve_left (by rw [k]; decide)) (h4.resolve_left (fun z => z k)) words depth allocated collections freed owner fieldCount dataCount pinned age content roots weaks movedTo reports stacked deepest scans overflow marked stack ztop zhi zov zmm zold zmarked zstack h
  · exact perf_110 n hj4 k (h1.symm.trans k) (h2.resolve_left (by rw [k]; decide)) (((h3.resolve_left (by rw [k]; decide)).resolve_left (by rw [k]; decide)).resolve_left (by rw [k]; decide)) words depth allocated collections freed owner fieldCount dataCount pinned age content roots weaks movedTo reports stacked deepest scans overflow marked stack ztop zhi zov zmm zold zmarked zstack h
  · exact perf_112 n hj4 k (h1.symm.trans k) (h2.resolve_left (by rw [k]; decide)) words depth allocated collections freed owner fieldCount dataCount pinned age content roots weaks movedTo reports stacked deepest scans overflow marked stack ztop zhi zov zmm zold zmarked zstack h
  · exact perf_114 n hj4 k (h1.symm.trans k) (h2.resolve_left (by rw [k]; decide)) (((h3.resolve_left (by rw [k]; decide)).resolve_left (by rw [k]; decide)).resolve_left (by rw [k]; decide)) words depth allocated collections freed owner fieldCount dataCount pinned age content roots weaks movedTo reports stacked deepest scans overflow marked stack ztop zhi zov zmm zold zmarked zstack h
  · exact perf_117 n hj4 k (h1.symm.trans k) (h2.resolve_left (by rw [k]; decide)) words depth allocated collections freed owner fieldCount dataCount pinned age content roots weaks movedTo reports stacked deepest scans overflow marked stack ztop zhi zov zmm zold zmarked zstack h
  · exact perf_119 n hj4 k (h1.symm.trans k) (h2.resolve_left (by rw [k]; decide)) (((h3.resolve_left (by rw [k]; decide)).resolve_left (by rw [k]; decide)).resolve_left (by rw [k]; decide)) words depth allocated collections freed owner fieldCount dataCount pinned age content roots weaks movedTo reports stacked deepest scans overflow marked stack ztop zhi zov zmm zold zmarked zstack h
