/-! the run of a script, in both -/
def RI_ (n m : Nat) (words depth : Int32) (s : Int32 × Int32 × Int32 × Int32 × Int32 × Int32 × (Nat → Int32) × (Nat → Int32) × (Nat → Int32) × (Nat → Int32) × (Nat → Int32) × (Nat → Int32) × (Nat → Int32) × (Nat → Int32) × (Nat → Int32) × (Nat → Int32) × Int32 × Int32 × Int32 × Int32 × (Nat → Int32) × (Nat → Int32)) (u : Int32 × Int32 × Int32 × Int32 × Int32 × Int32 × (Nat → Int32) × (Nat → Int32) × (Nat → Int32) × (Nat → Int32)) : Prop := ∃ (done k : Nat) (rf : Int32) (allocated : Int32) (collections : Int32) (freed : Int32) (owner : Nat → Int32) (fieldCount : Nat → Int32) (dataCount : Nat → Int32) (pinned : Nat → Int32) (age : Nat → Int32) (content : Nat → Int32) (roots : Nat → Int32) (weaks : Nat → Int32) (movedTo : Nat → Int32) (reports : Nat → Int32) (stacked : Int32) (deepest : Int32) (scans : Int32) (overflow : Int32) (marked : Nat → Int32) (stack : Nat → Int32) (ztop : Int32) (zhi : Int32) (zov : Int32) (zmm : Nat → Int32) (zold : Nat → Int32) (zmarked : Nat → Int32) (zstack : Nat → Int32), s = (nI done, nI k, rf, allocated, collections, freed, owner, fieldCount, dataCount, pinned, age, content, roots, weaks, movedTo, reports, stacked, deepest, scans, overflow, marked, stack) ∧ u = (nI done, nI k, rf, ztop, zhi, zov, zmm, zold, zmarked, zstack) ∧ k ≤ m ∧ RK (n + k) (words, depth, allocated, collections, freed, owner, fieldCount, dataCount, pinned, age, content, roots, weaks, movedTo, reports) zmm
def RQ_ (n : Nat) (words depth : Int32) (s : Int32 × Int32 × Int32 × Int32 × Int32 × (Nat → Int32) × (Nat → Int32) × (Nat → Int32) × (Nat → Int32) × (Nat → Int32) × (Nat → Int32) × (Nat → Int32) × (Nat → Int32) × (Nat → Int32) × (Nat → Int32) × Int32 × Int32 × Int32 × Int32 × (Nat → Int32) × (Nat → Int32)) (u : Int32 × Int32 × Int32 × Int32 × Int32 × (Nat → Int32) × (Nat → Int32) × (Nat → Int32) × (Nat → Int32)) : Prop := ∃ (done k : Nat) (rf : Int32) (allocated : Int32) (collections : Int32) (freed : Int32) (owner : Nat → Int32) (fieldCount : Nat → Int32) (dataCount : Nat → Int32) (pinned : Nat → Int32) (age : Nat → Int32) (content : Nat → Int32) (roots : Nat → Int32) (weaks : Nat → Int32) (movedTo : Nat → Int32) (reports : Nat → Int32) (stacked : Int32) (deepest : Int32) (scans : Int32) (overflow : Int32) (marked : Nat → Int32) (stack : Nat → Int32) (ztop : Int32) (zhi : Int32) (zov : Int32) (zmm : Nat → Int32) (zold : Nat → Int32) (zmarked : Nat → Int32) (zstack : Nat → Int32), s = (nI done, rf, allocated, collections, freed, owner, fieldCount, dataCount, pinned, age, content, roots, weaks, movedTo, reports, stacked, deepest, scans, overflow, marked, stack) ∧ u = (nI done, rf, ztop, zhi, zov, zmm, zold, zmarked, zstack) ∧ k ≤ 40 ∧ RK (n + k) (words, depth, allocated, collections, freed, owner, fieldCount, dataCount, pinned, age, content, roots, weaks, movedTo, reports) zmm
theorem run_loop (n : Nat) {K F S T C : Nat → Int32} {m : Nat} (hC : CM m K F S T C) (hm : m ≤ 40) (words : Int32) (depth : Int32) (allocated : Int32) (collections : Int32) (freed : Int32) (owner : Nat → Int32) (fieldCount : Nat → Int32) (dataCount : Nat → Int32) (pinned : Nat → Int32) (age : Nat → Int32) (content : Nat → Int32) (roots : Nat → Int32) (weaks : Nat → Int32) (movedTo : Nat → Int32) (reports : Nat → Int32) (stacked : Int32) (deepest : Int32) (scans : Int32) (overflow : Int32) (marked : Nat → Int32) (stack : Nat → Int32) (ztop : Int32) (zhi : Int32) (zov : Int32) (zmm : Nat → Int32) (zold : Nat → Int32) (zmarked : Nat → Int32) (zstack : Nat → Int32) (h : RK n (words, depth, allocated, collections, freed, owner, fieldCount, dataCount, pinned, age, content, roots, weaks, movedTo, reports) zmm) : ∃ r q, g_it (FX6_run_L30 words depth (nI m) K F S T) (nI 0, nI 0, nI 0, allocated, collections, freed, owner, fieldCount, dataCount, pinned, age, content, roots, weaks, movedTo, reports, stacked, deepest, scans, overflow, marked, stack) = some r ∧ g_it (FX7_run_L20 (nI m) C) (nI 0, nI 0, nI 0, ztop, zhi, zov, zmm, zold, zmarked, zstack) = some q ∧ RQ_ n words depth r q := by
  refine lockg (f := FX6_run_L30 words depth (nI m) K F S T) (g := FX7_run_L20 (nI m) C) (RI_ n m words depth) (fun s => 40 - s.2.1.toNatClampNeg) (RQ_ n words depth) (fun s u hI => ?_) _ _ ⟨0, 0, nI 0, allocated, collections, freed, owner, fieldCount, dataCount, pinned, age, content, roots, weaks, movedTo, reports, stacked, deepest, scans, overflow, marked, stack, ztop, zhi, zov, zmm, zold, zmarked, zstack, rfl, rfl, Nat.zero_le _, h⟩ (by
    show 40 - (nI 0).toNatClampNeg < 1000000
    omega)
  clear h allocated collections freed owner fieldCount dataCount pinned age content roots weaks movedTo reports stacked deepest scans overflow marked stack ztop zhi zov zmm zold zmarked zstack
  obtain ⟨done, k, rf, allocated, collections, freed, owner, fieldCount, dataCount, pinned, age, content, roots, weaks, movedTo, reports, stacked, deepest, scans, overflow, marked, stack, ztop, zhi, zov, zmm, zold, zmarked, zstack, rfl, rfl, hk, h⟩ := hI
  by_cases hx : m ≤ k ∨ ¬ rf = nI 0
  · refine Or.inr ⟨(nI done, rf, allocated, collections, freed, owner, fieldCount, dataCount, pinned, age, content, roots, weaks, movedTo, reports, stacked, deepest, scans, overflow, marked, stack), (nI done, rf, ztop, zhi, zov, zmm, zold, zmarked, zstack), ?_, ?_, done, k, rf, allocated, collections, freed, owner, fieldCount, dataCount, pinned, age, content, roots, weaks, movedTo, reports, stacked, deepest, scans, overflow, marked, stack, ztop, zhi, zov, zmm, zold, zmarked, zstack, rfl, rfl, Nat.le_trans hk hm, h⟩
    · clear h
      by_cases hy : m ≤ k
      · simp (disch := omega) only [FX6_run_L30, n_le_t]
      · have hz := hx.resolve_left hy
        simp (disch := omega) only [FX6_run_L30, n_le_f, l0, if_neg hz]
    · clear h
      by_cases hy : m ≤ k
      · simp (disch := omega) only [FX7_run_L20, n_le_t]
      · have hz := hx.resolve_left hy
        simp (disch := omega) only [FX7_run_L20, n_le_f, l0, if_neg hz]
  · have hkm : k < m := Nat.lt_of_not_le (fun z => hx (Or.inl z))
    have h0 : rf = nI 0 := Classical.byContradiction (fun z => hx (Or.inr z))
    subst h0
    obtain ⟨r0, w_allocated, w_collections, w_freed, w_owner, w_fieldCount, w_dataCount, w_pinned, w_age, w_content, w_roots, w_weaks, w_movedTo, w_reports, w_stacked, w_deepest, w_scans, w_overflow, w_marked, w_stack, w_ztop, w_zhi, w_zov, w_zmm, w_zold, w_zmarked, w_zstack, e1, e2, ha, hr⟩ := perf (n + k) hC hm hkm words depth allocated collections freed owner fieldCount dataCount pinned age content roots weaks movedTo reports stacked deepest scans overflow marked stack ztop zhi zov zmm zold zmarked zstack h
    have hr2 : RK (n + (k + 1)) (words, depth, w_allocated, w_collections, w_freed, w_owner, w_fieldCount, w_dataCount, w_pinned, w_age, w_content, w_roots, w_weaks, w_movedTo, w_reports) w_zmm := hr
    have hfin : 40 - (nI (k + 1)).toNatClampNeg < 40 - (nI k).toNatClampNeg := by
      rw [n_clamp (by omega), n_clamp (by omega)]
      omega
    clear h hr
    rcases ha.err with ⟨a1, a2, a3⟩ | ⟨a1, a2⟩
    · refine Or.inl ⟨(nI (done), nI (k + 1), r0, w_allocated, w_collections, w_freed, w_owner, w_fieldCount, w_dataCount, w_pinned, w_age, w_content, w_roots, w_weaks, w_movedTo, w_reports, w_stacked, w_deepest, w_scans, w_overflow, w_marked, w_stack), (nI (done), nI (k + 1), r0, w_ztop, w_zhi, w_zov, w_zmm, w_zold, w_zmarked, w_zstack), ?_, ?_, ⟨done, k + 1, r0, w_allocated, w_collections, w_freed, w_owner, w_fieldCount, w_dataCount, w_pinned, w_age, w_content, w_roots, w_weaks, w_movedTo, w_reports, w_stacked, w_deepest, w_scans, w_overflow, w_marked, w_stack, w_ztop, w_zhi, w_zov, w_zmm, w_zold, w_zmarked, w_zstack, rfl, rfl, hkm, hr2⟩, hfin⟩
      · clear hr2 e2 ha
        have c1 : ¬ nI m ≤ nI k := nI_ge hkm (by omega)
        simp only [FX6_run_L30, if_neg c1, l0, if_true, e1, Option.bind_some, a1]
        simp (disch := omega) only [↓lm1, n_ofN, l0, l1, l2, l3, l4, l5, l6, l7, l8, l10, l20, l47, l80, l100, l127, l200, l400, l600, l800, l1000, l1200, l1206, l1210, l1222, n_add, n_clamp, n_gd, n_le_t, n_le_f, n_lt_t, n_lt_f, n_eq_t, n_eq_f, n_no, n_on, n_oo, n_olt, n_nlo, n_ole, Option.bind_some, Option.bind_none, Nat.zero_add, if_true, if_false]
      · clear hr2 e1 ha
        have c1 : ¬ nI m ≤ nI k := nI_ge hkm (by omega)
        simp only [FX7_run_L20, if_neg c1, l0, if_true, e2, Option.bind_some, if_neg a2]
        simp (disch := omega) only [↓lm1, n_ofN, l0, l1, l2, l3, l4, l5, l6, l7, l8, l10, l20, l47, l80, l100, l127, l200, l400, l600, l800, l1000, l1200, l1206, l1210, l1222, n_add, n_clamp, n_gd, n_le_t, n_le_f, n_lt_t, n_lt_f, n_eq_t, n_eq_f, n_no, n_on, n_oo, n_olt, n_nlo, n_ole, Option.bind_some, Option.bind_none, Nat.zero_add, if_true, if_false, n_addz]
    · refine Or.inl ⟨(nI (done + 1), nI (k + 1), nI 0, w_allocated, w_collections, w_freed, w_owner, w_fieldCount, w_dataCount, w_pinned, w_age, w_content, w_roots, w_weaks, w_movedTo, w_reports, w_stacked, w_deepest, w_scans, w_overflow, w_marked, w_stack), (nI (done + 1), nI (k + 1), nI 0, w_ztop, w_zhi, w_zov, w_zmm, w_zold, w_zmarked, w_zstack), ?_, ?_, ⟨done + 1, k + 1, nI 0, w_allocated, w_collections, w_freed, w_owner, w_fieldCount, w_dataCount, w_pinned, w_age, w_content, w_roots, w_weaks, w_movedTo, w_reports, w_stacked, w_deepest, w_scans, w_overflow, w_marked, w_stack, w_ztop, w_zhi, w_zov, w_zmm, w_zold, w_zmarked, w_zstack, rfl, rfl, hkm, hr2⟩, hfin⟩
      · clear hr2 e2 ha
        have c1 : ¬ nI m ≤ nI k := nI_ge hkm (by omega)
        simp only [FX6_run_L30, if_neg c1, l0, if_true, e1, Option.bind_some, a1]
        simp (disch := omega) only [↓lm1, n_ofN, l0, l1, l2, l3, l4, l5, l6, l7, l8, l10, l20, l47, l80, l100, l127, l200, l400, l600, l800, l1000, l1200, l1206, l1210, l1222, n_add, n_clamp, n_gd, n_le_t, n_le_f, n_lt_t, n_lt_f, n_eq_t, n_eq_f, n_no, n_on, n_oo, n_olt, n_nlo, n_ole, Option.bind_some, Option.bind_none, Nat.zero_add, if_true, if_false]
      · clear hr2 e1 ha
        have c1 : ¬ nI m ≤ nI k := nI_ge hkm (by omega)
        simp only [FX7_run_L20, if_neg c1, l0, if_true, e2, Option.bind_some, if_pos a2]
        simp (disch := omega) only [↓lm1, n_ofN, l0, l1, l2, l3, l4, l5, l6, l7, l8, l10, l20, l47, l80, l100, l127, l200, l400, l600, l800, l1000, l1200, l1206, l1210, l1222, n_add, n_clamp, n_gd, n_le_t, n_le_f, n_lt_t, n_lt_f, n_eq_t, n_eq_f, n_no, n_on, n_oo, n_olt, n_nlo, n_ole, Option.bind_some, Option.bind_none, Nat.zero_add, if_true, if_false, n_addz]
theorem sim_run : Sim_run Rel := by
  intro i words depth allocated collections freed owner fieldCount dataCount pinned age content roots weaks movedTo reports letters length_ latestRefusal s0 s1 zmm zsaved_ zisSaved ztext ztextLength zrefused stacked deepest scans overflow marked stack commands faultIndex position kinds firsts seconds thirds ztop zhi zov zcommands zat_ zfault_ zold zmarked zstack zcommand hi h
  have hu := h.up
  obtain ⟨hh, hS0, hS1, hT, hr⟩ := h
  obtain ⟨n, hn, rfl, rfl, hl⟩ := hT
  obtain ⟨c, f, p, K, F, S, T, c2, a2, C, x, y, hC⟩ := rd_eq hn (fun j hj => (hl j hj).1) commands faultIndex position zcommands zat_ zfault_ kinds firsts seconds thirds zcommand
  by_cases hf : f = eO none
  · obtain ⟨m, hm, rfl, rfl, hCM⟩ := hC hf
    have hk : RK (41 * i) (words, depth, allocated, collections, freed, owner, fieldCount, dataCount, pinned, age, content, roots, weaks, movedTo, reports) zmm := hh
    obtain ⟨r, q, e1, e2, done, k, rf, w_allocated, w_collections, w_freed, w_owner, w_fieldCount, w_dataCount, w_pinned, w_age, w_content, w_roots, w_weaks, w_movedTo, w_reports, w_stacked, w_deepest, w_scans, w_overflow, w_marked, w_stack, w_ztop, w_zhi, w_zov, w_zmm, w_zold, w_zmarked, w_zstack, rfl, rfl, hk40, hRK⟩ := run_loop (41 * i) hCM hm words depth allocated collections freed owner fieldCount dataCount pinned age content roots weaks movedTo reports stacked deepest scans overflow marked stack ztop zhi zov zmm zold zmarked zstack hk
    have hRH : RH (i + 1) (words, depth, w_allocated, w_collections, w_freed, w_owner, w_fieldCount, w_dataCount, w_pinned, w_age, w_content, w_roots, w_weaks, w_movedTo, w_reports) w_zmm := hRK.up (show 41 * i + k ≤ 41 * (i + 1) by omega)
    refine ⟨nI done, rf, w_allocated, w_collections, w_freed, w_owner, w_fieldCount, w_dataCount, w_pinned, w_age, w_content, w_roots, w_weaks, w_movedTo, w_reports, w_stacked, w_deepest, w_scans, w_overflow, w_marked, w_stack, nI m, f, p, K, F, S, T, rf, w_ztop, w_zhi, w_zov, nI m, a2, f, w_zmm, w_zold, w_zmarked, w_zstack, C, ?_, ?_, hRH, hS0.up, hS1.up, ⟨n, hn, rfl, rfl, hl⟩, rfl⟩
    · clear hRK hRH hk hh hu hS0 hS1 y e2 hCM hC
      subst hf
      unfold FX6_run
      rw [x]
      simp only [Option.bind_some, lm1, l0, if_true, e1]
    · clear hRK hRH hk hh hu hS0 hS1 x e1 hCM hC
      subst hf
      unfold FX7_run
      rw [y]
      simp only [Option.bind_some, lm1, l0, if_true, e2]
  · refine ⟨-1000003, latestRefusal, allocated, collections, freed, owner, fieldCount, dataCount, pinned, age, content, roots, weaks, movedTo, reports, stacked, deepest, scans, overflow, marked, stack, c, f, p, K, F, S, T, zrefused, ztop, zhi, zov, c2, a2, f, zmm, zold, zmarked, zstack, C, ?_, ?_, hu⟩
    · unfold FX6_run
      rw [x]
      simp only [Option.bind_some, lm1, if_neg hf]
    · unfold FX7_run
      rw [y]
      simp only [Option.bind_some, lm1, if_neg hf]
theorem the_sim : Sim Rel := ⟨sim_init, sim_reset, sim_alloc, sim_object, sim_next, sim_setField, sim_field, sim_setData, sim_data, sim_pin, sim_setRoot, sim_root, sim_setWeak, sim_weak, sim_collect, sim_moved, sim_report, sim_garbage, sim_distance, sim_retained, sim_free, sim_type, sim_clearText, sim_fault, sim_run, sim_refusal, sim_count, sim_digest, sim_save, sim_restore, sim_restoreN, sim_saveB, sim_restoreB, sim_up⟩
