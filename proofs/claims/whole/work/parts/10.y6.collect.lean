/-! a collection, in both -/
theorem used_le {mm : Nat → Int32} {W : Nat} (H : WF mm W) : sm (zs mm) W ≤ 200 := by
  have hW := H.size
  have h1 := occ_eq H (W + 1) 0 (by omega) (bd_0 mm) (by omega) rfl
  have h2 := cnt_le (ocB mm) W
  omega
theorem six {P : Nat → Prop} (h0 : P 0) (h1 : P 1) (h2 : P 2) (h3 : P 3) (h4 : P 4) (h5 : P 5) : ∀ k, k < 6 → P k
  | 0, _ => h0
  | 1, _ => h1
  | 2, _ => h2
  | 3, _ => h3
  | 4, _ => h4
  | 5, _ => h5
  | k + 6, h => absurd h (by omega)
theorem FM_collected {mm mk' zold zmarked zstack m m2 st' : Nat → Int32} {ztop zhi zov : Int32} {hi sc ov u lwn : Nat} {q0 q2 q3 : Int32} (hle : lwn ≤ u) (u3 : FX7_occupied mm = some (nI u)) (k2 : FX7_marks ztop zhi zov mm zmarked zstack = some (nI sc, nI 0, nI hi, nI ov, mk', st'))
    (k6 : g_it (FX7_collect_L80 mk' (cp zold mm 1222)) (nI 0, nI 0, nI 0, nI 0, nI 0, nI 0, fl mm 1000 1200 (eO none)) = some (q0, nI lwn, q2, q3, m)) (k7 : FX7_rebuilds m (cp zold mm 1222) mk' = some m2) :
    FX7_collect ztop zhi zov mm zold zmarked zstack = some (nI (u - lwn), nI 0, nI hi, nI ov, fn3 m2 q0 (nI lwn) (nI sc) (nI hi) q2 q3 (nI (u - lwn)), cp zold mm 1222, mk', st') := by
  have h0 : FX7_collect ztop zhi zov mm zold zmarked zstack = some (nI u - nI lwn, nI 0, nI hi, nI ov, fn3 m2 q0 (nI lwn) (nI sc) (nI hi) q2 q3 (nI u - nI lwn), cp zold mm 1222, mk', st') := by
    unfold FX7_collect
    rw [u3, Option.bind_some, k2, Option.bind_some]
    simp only []
    rw [show ((0 : Int32), zold) = (nI 0, zold) from rfl, FM_copies, Option.bind_some, show ((0 : Int32), mm) = (nI 0, mm) from rfl, FM_clears, Option.bind_some]
    rw [show ((0 : Int32), (0 : Int32), (0 : Int32), (0 : Int32), (0 : Int32), (0 : Int32), fl mm 1000 1200 (eO none)) = (nI 0, nI 0, nI 0, nI 0, nI 0, nI 0, fl mm 1000 1200 (eO none)) from rfl, k6, Option.bind_some]
    simp only []
    rw [k7, Option.bind_some]
    rfl
  rw [h0, n_sub hle]
theorem FX_collected {collections freed : Int32} {owner fieldCount dataCount pinned age content roots weaks movedTo reports : Nat → Int32} {W D u lwn : Nat} {stacked deepest scans overflow s1 s2 s3 s4 : Int32} {marked stack mk st mv rp ct rt wk o f d p g c : Nat → Int32} (hle : lwn ≤ u) (u1 : FX1_usedWords (nI W) owner = some (nI u)) (k1 : FX0_mark stacked deepest scans overflow marked stack (nI W) (nI D) owner fieldCount pinned content roots = some (s1, s2, s3, s4, mk, st))
    (k3 : FX0_plan s2 s3 mk (nI W) owner fieldCount dataCount pinned movedTo reports = some (mv, rp)) (k4 : FX0_redirect mk (nI W) fieldCount content roots weaks mv = some (ct, rt, wk)) (k5 : FX0_slide mk (nI W) owner fieldCount dataCount pinned age ct mv = some (o, f, d, p, g, c)) (u2 : FX1_usedWords (nI W) o = some (nI lwn)) :
    FX6_collect (nI W) (nI D) collections freed owner fieldCount dataCount pinned age content roots weaks movedTo reports stacked deepest scans overflow marked stack = some (nI (u - lwn), collections + nI 1, freed + nI (u - lwn), o, f, d, p, g, c, rt, wk, mv, rp, s1, s2, s3, s4, mk, st) := by
  rw [← n_sub hle]
  unfold FX6_collect
  rw [u1, Option.bind_some, k1, Option.bind_some]
  simp only []
  rw [k3, Option.bind_some]
  simp only []
  rw [k4, Option.bind_some]
  simp only []
  rw [k5, Option.bind_some]
  simp only []
  rw [u2, Option.bind_some]
  rfl
theorem col_core {W : Nat} {mm : Nat → Int32} {words depth allocated collections freed : Int32} {owner fieldCount dataCount pinned age content roots weaks movedTo reports : Nat → Int32} (H : WF mm W) (X : RX W mm words depth allocated collections freed owner fieldCount dataCount pinned age content roots weaks movedTo reports) (stacked deepest scans overflow : Int32) (marked stack : Nat → Int32) (ztop zhi zov : Int32) (zold zmarked zstack : Nat → Int32) :
    ∃ (n : Nat) (w_freed : Int32) (w_owner w_fieldCount w_dataCount w_pinned w_age w_content w_roots w_weaks w_movedTo w_reports : Nat → Int32) (w_stacked w_deepest w_scans w_overflow : Int32) (w_marked w_stack : Nat → Int32) (w_ztop w_zhi w_zov : Int32) (w_mm w_old w_zmarked w_zstack : Nat → Int32), n ≤ 200 ∧
      FX6_collect words depth collections freed owner fieldCount dataCount pinned age content roots weaks movedTo reports stacked deepest scans overflow marked stack = some (nI n, collections + nI 1, w_freed, w_owner, w_fieldCount, w_dataCount, w_pinned, w_age, w_content, w_roots, w_weaks, w_movedTo, w_reports, w_stacked, w_deepest, w_scans, w_overflow, w_marked, w_stack) ∧
      FX7_collect ztop zhi zov mm zold zmarked zstack = some (nI n, w_ztop, w_zhi, w_zov, w_mm, w_old, w_zmarked, w_zstack) ∧ WF w_mm W ∧ RX W w_mm words depth allocated (collections + nI 1) w_freed w_owner w_fieldCount w_dataCount w_pinned w_age w_content w_roots w_weaks w_movedTo w_reports ∧ w_mm 1219 = mm 1219 + nI 1 ∧ w_mm 1221 = nI 1 := by
  have hW := H.size
  have hw := H.hw
  obtain ⟨⟨rfl, rfl, rfl, rfl, rfl⟩, hO, hA, hR, hK, hM⟩ := X
  obtain ⟨-, -, -, ⟨D, d1, d2, d3⟩, -⟩ := id H
  obtain ⟨hi, sc, ov, mk, mk', st, st', k1, k2, M⟩ := mark_eq H hO hA hR d3 d2 stacked deepest scans overflow ztop zhi zov marked stack zmarked zstack
  have L := M.lv
  have hk : ∀ h, h < 200 → mk' h = mk h := fun h hh => (M h hh).1.symm
  obtain ⟨mv, rp, k3, hv, R⟩ := FX_planned H hO hA L (nI sc) (nI hi) movedTo reports
  obtain ⟨ct, rt, wk, k4, hrt, hwk, hct⟩ := FX_redirected (roots := roots) (weaks := weaks) H hA hR hK L hv
  obtain ⟨o, f, d, p, g, c, k5, S⟩ := FX_slid H hA L hv hct owner
  obtain ⟨m, k6, hv2, hm⟩ := FM_planned H L hk zold
  obtain ⟨m2, k7, N, hm2⟩ := FM_rebuilt (old := cp zold mm 1222) H L hk (fun j hj => cp_in hj) hv2 (fun j hj => hm j (Or.inr hj))
  have hlw := N.2.2.1
  have hle : lw mm mk W ≤ sm (zs mm) W := lw_le W
  obtain ⟨F, hF⟩ : ∃ F, F = fn3 m2 (rq mm mk W).1 (nI (lw mm mk W)) (nI sc) (nI hi) (rq mm mk W).2.2.1 (rq mm mk W).2.2.2 (nI (sm (zs mm) W - lw mm mk W)) := ⟨_, rfl⟩
  have hFu : ∀ j, j < 1210 ∨ j = 1216 ∨ j = 1217 ∨ j = 1218 → F j = m2 j := fun j hj => by rw [hF]; exact fn3_un m2 _ _ _ _ _ _ _ hj
  have hFa := fn3_at m2 (rq mm mk W).1 (nI (lw mm mk W)) (nI sc) (nI hi) (rq mm mk W).2.2.1 (rq mm mk W).2.2.2 (nI (sm (zs mm) W - lw mm mk W))
  rw [← hF] at hFa
  obtain ⟨f0, f1, f2, f3, f4, f5, f9, f10, f11⟩ := hFa
  have NN : NF mm mk W F := N.congr L H (fun j hj => hFu j (Or.inl hj))
  have HF : WF F W := NN.wf H L ((hFu 1216 (by omega)).trans (hm2 1216 (by omega))) ((hFu 1217 (by omega)).trans (hm2 1217 (by omega)))
  have hOF := NN.ro H L HF S
  have hAF := NN.ra H S
  have u1 := FX_used H hO
  have u2 := FX_used HF hOF
  have u3 := FM_used H
  rw [NN.2.2.1] at u2
  rw [rq_lw] at k6
  have hu := used_le H
  have eX := FX_collected (collections := mm 1219) (freed := mm 1220) hle u1 k1 k3 k4 k5 u2
  have eM := FM_collected hle u3 k2 k6 k7
  rw [← hF] at eM
  refine ⟨sm (zs mm) W - lw mm mk W, mm 1220 + nI (sm (zs mm) W - lw mm mk W), o, f, d, p, g, c, rt, wk, mv, rp, nI 0, nI hi, nI sc, nI ov, mk, st, nI 0, nI hi, nI ov, F, cp zold mm 1222, mk', st', by omega, ?_, eM, HF, ⟨⟨?_, ?_, ?_, ?_, ?_⟩, hOF, hAF, fun k hk => ?_, fun k hk => ?_, fun _ => ⟨fun t ht => ?_, ?_⟩⟩, ?_, f11⟩
  · rw [hw, d3]
    exact eX
  · rw [hFu 1216 (by omega), hm2 1216 (by omega)]
  · rw [hFu 1217 (by omega), hm2 1217 (by omega)]
  · rw [hFu 1218 (by omega), hm2 1218 (by omega)]
  · rw [f9, hm2 1219 (by omega)]
  · rw [f10, hm2 1220 (by omega)]
  · rw [hrt k hk, NN.2.2.2.2 k (by omega)]
  · rw [hwk k hk, show 1206 + k = 1200 + (6 + k) by omega, NN.2.2.2.2 (6 + k) (by omega)]
  · rw [hv t (by omega), NN.2.2.2.1 t (by omega)]
  · obtain ⟨r0, r1, r2, r3, r4, r5⟩ := R
    refine six ?_ ?_ ?_ ?_ ?_ ?_
    · rw [r0]; exact f0.symm
    · rw [r1, rq_lw]; exact f1.symm
    · rw [r2]; exact f2.symm
    · rw [r3]; exact f3.symm
    · rw [r4]; exact f4.symm
    · rw [r5]; exact f5.symm
  · rw [f9, hm2 1219 (by omega)]
theorem sim_collect : Sim_collect Rel := by
  intro i words depth allocated collections freed owner fieldCount dataCount pinned age content roots weaks movedTo reports letters length_ latestRefusal s0 s1 zmm zsaved_ zisSaved ztext ztextLength zrefused stacked deepest scans overflow marked stack ztop zhighest zoverflowed zold zmarked zstack hi h
  obtain ⟨⟨W, H, X, hc⟩, hS0, hS1, hT, hr⟩ := h
  obtain ⟨n, w_freed, w_owner, w_fieldCount, w_dataCount, w_pinned, w_age, w_content, w_roots, w_weaks, w_movedTo, w_reports, w_stacked, w_deepest, w_scans, w_overflow, w_marked, w_stack, w_ztop, w_zhi, w_zov, w_mm, w_old, w_zmarked, w_zstack, hn, e1, e2, HF, XF, c1, c2⟩ := col_core H X stacked deepest scans overflow marked stack ztop zhighest zoverflowed zold zmarked zstack
  obtain ⟨c, q1, q2, q3⟩ := hc
  exact ⟨nI n, collections + nI 1, w_freed, w_owner, w_fieldCount, w_dataCount, w_pinned, w_age, w_content, w_roots, w_weaks, w_movedTo, w_reports, w_stacked, w_deepest, w_scans, w_overflow, w_marked, w_stack, w_ztop, w_zhi, w_zov, w_mm, w_old, w_zmarked, w_zstack, e1, e2, ⟨W, HF, XF, c + 1, by omega, by rw [c1, q2, n_add], by rw [if_neg (by omega)]; exact c2⟩, hS0.up, hS1.up, hT, hr⟩
