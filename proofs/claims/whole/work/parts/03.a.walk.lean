set_option maxHeartbeats 4000000 in
set_option maxRecDepth 100000 in
theorem mJ7_fill_53178 (D : va_G) (cI cZ cH : ClassId) (a_row : Nat) (row : Nat → Int32) (n_row : Nat) (p1 : Int32) (w_row : Nat → Int32) (hF : FJ7_fill_53178 row n_row p1 = some w_row) : g_CM yJ7_fill_53178 wsJ7_fill_53178 ({ frames := 0, cells := 0, slots := 0, locals := 0 }) D cI cZ cH [.ref a_row, .int p1] [oI a_row cI n_row row] 0 0 (g_Tm (none) [oI a_row cI n_row w_row]) := by
  refine g_met (own := RJ7) (mn := "fill") (cc := cJ7_fill_53178) (maxL := 4) (ret := none) rfl rfl (by decide +kernel) rfl (Nat.le_of_ble_eq_true rfl) (fun G X RT => ?_)
  show G 0 0 [oI a_row cI n_row row] [(0, .ref a_row), (1, .int p1)] 0 []
  unfold FJ7_fill_53178 at hF
  refine r_iconst (pc' := 1) X (0 : Int32) dJ7_fill_53178_0 (by decide) rfl ?_
  refine r_istore_n (pc' := 2) (lv' := [(0, .ref a_row), (1, .int p1), (2, .int (0 : Int32))]) X dJ7_fill_53178_1 rfl (by decide) [1, 2, 0] rfl rfl ?_
  refine r_aload_n (pc' := 3) X dJ7_fill_53178_2 rfl 0 rfl rfl ?_
  refine r_alen (pc' := 4) X 0 0 dJ7_fill_53178_3 rfl rfl rfl ?_
  refine r_istore_n (pc' := 5) (lv' := [(0, .ref a_row), (1, .int p1), (2, .int (0 : Int32)), (3, .int (Int32.ofNat n_row))]) X dJ7_fill_53178_4 rfl (by decide) [1, 2, 3, 0] rfl rfl ?_
  obtain ⟨ex5, hR, hF⟩ := g_bd hF
  have hE5 : ∀ (row_3 : Nat → Int32), row_3 = ex5 → G 0 0 [oI a_row cI n_row row_3] [] 20 [] := by
    intro row_3 hx; subst hx
    cases hF
    exact RT.2.2 0 0 _ _ _ rfl dJ7_fill_53178_20 ⟨rfl, rfl⟩ (Nat.le_refl 0) (Nat.le_refl 0)
  have hL5 : ∀ (fu : Nat) (v2_1 : Int32) (row_2 : Nat → Int32), g_itn (FJ7_fill_53178_L5 n_row p1) fu (v2_1, row_2) = some ex5 → G 0 0 [oI a_row cI n_row row_2] [(0, .ref a_row), (1, .int p1), (2, .int v2_1), (3, .int (Int32.ofNat n_row))] 5 [] := by
    intro fu
    induction fu with
    | zero => intro v2_1 row_2 h9; exact (g_it0 h9).elim
    | succ fu ih =>
      intro v2_1 row_2 h9
      obtain ⟨y5, hF, hI5⟩ := g_its h9
      unfold FJ7_fill_53178_L5 at hF
      refine r_iload_n (pc' := 6) X dJ7_fill_53178_5 rfl 2 rfl rfl ?_
      refine r_iload_n (pc' := 7) X dJ7_fill_53178_6 rfl 3 rfl rfl ?_
      refine r_icmp_ge (pc' := 10) X 20 dJ7_fill_53178_7 (by decide) rfl (fun c9 => ?_) (fun c9 => ?_)
      · replace hF := g_t c9 hF
        cases hF
        refine r_sub (lv' := []) X [] rfl ?_
        exact hE5 row_2 hI5
      · replace hF := g_f c9 hF
        refine r_aload_n (pc' := 11) X dJ7_fill_53178_10 rfl 0 rfl rfl ?_
        refine r_iload_n (pc' := 12) X dJ7_fill_53178_11 rfl 2 rfl rfl ?_
        refine r_iload_n (pc' := 13) X dJ7_fill_53178_12 rfl 1 rfl rfl ?_
        obtain ⟨hi4, hF⟩ := g_gt hF
        refine r_iast (pc' := 14) (ws' := [oI a_row cI n_row (upd row_2 v2_1.toNatClampNeg p1)]) X 0 dJ7_fill_53178_13 rfl (g_vi hi4) rfl rfl ?_
        refine r_iinc (pc' := 17) (lv' := [(0, .ref a_row), (1, .int p1), (2, .int (v2_1 + (1 : Int32))), (3, .int (Int32.ofNat n_row))]) X (v2_1 + (1 : Int32)) dJ7_fill_53178_14 2 rfl (congrArg (fun z => v2_1 + z) (by decide)) (by decide) [1, 2, 0, 3] rfl rfl ?_
        refine r_goto X 5 dJ7_fill_53178_17 (by decide) ?_
        cases hF
        exact ih (v2_1 + (1 : Int32)) (upd row_2 v2_1.toNatClampNeg p1) hI5
  exact hL5 g_fuel (0 : Int32) row hR
theorem kX1_empty_1 : Cond.fieldLink RX1 42 "IslandHeap$Heap" "words" "I" ∈ wsX1_empty := List.mem_of_getElem? (i := 1) (by decide +kernel)
theorem kX1_empty_2 : Cond.fieldLink RX1 46 "IslandHeap$Heap" "depth" "I" ∈ wsX1_empty := List.mem_of_getElem? (i := 2) (by decide +kernel)
theorem kX1_empty_3 : Cond.fieldLink RX1 49 "IslandHeap$Heap" "allocated" "I" ∈ wsX1_empty := List.mem_of_getElem? (i := 3) (by decide +kernel)
theorem kX1_empty_4 : Cond.fieldLink RX1 52 "IslandHeap$Heap" "collections" "I" ∈ wsX1_empty := List.mem_of_getElem? (i := 4) (by decide +kernel)
theorem kX1_empty_5 : Cond.fieldLink RX1 55 "IslandHeap$Heap" "freed" "I" ∈ wsX1_empty := List.mem_of_getElem? (i := 5) (by decide +kernel)
theorem kX1_empty_6 : Cond.fieldLink RX1 9 "IslandHeap$Heap" "owner" "[I" ∈ wsX1_empty := List.mem_of_getElem? (i := 6) (by decide +kernel)
theorem kX1_empty_7 : Cond.fieldLink RX1 30 "IslandHeap$Heap" "roots" "[I" ∈ wsX1_empty := List.mem_of_getElem? (i := 7) (by decide +kernel)
theorem kX1_empty_8 : Cond.fieldLink RX1 33 "IslandHeap$Heap" "weaks" "[I" ∈ wsX1_empty := List.mem_of_getElem? (i := 8) (by decide +kernel)
theorem uX1_empty_X1 : ∀ w ∈ u_ws RX1 TX1 15, w ∈ wsX1_empty := by decide +kernel
set_option maxHeartbeats 4000000 in
set_option maxRecDepth 100000 in
theorem mX1_empty (D : va_G) (cI cZ cH : ClassId) (a_h : Nat) (a_owner : Nat) (a_roots : Nat) (a_weaks : Nat) (a_fieldCount : Nat) (a_dataCount : Nat) (a_pinned : Nat) (a_age : Nat) (a_content : Nat) (a_movedTo : Nat) (a_reports : Nat) (words : Int32) (depth : Int32) (allocated : Int32) (collections : Int32) (freed : Int32) (owner : Nat → Int32) (roots : Nat → Int32) (weaks : Nat → Int32) (p1 : Int32) (p2 : Int32) (w_words : Int32) (w_depth : Int32) (w_allocated : Int32) (w_collections : Int32) (w_freed : Int32) (w_owner : Nat → Int32) (w_roots : Nat → Int32) (w_weaks : Nat → Int32) (hF : FX1_empty words depth allocated collections freed owner roots weaks p1 p2 = some (w_words, w_depth, w_allocated, w_collections, w_freed, w_owner, w_roots, w_weaks)) : g_CM yX1_empty wsX1_empty ({ frames := 1, cells := 0, slots := 0, locals := 23 }) D cI cZ cH [.ref a_h, .int p1, .int p2] [oX1 a_h words depth allocated collections freed a_owner a_fieldCount a_dataCount a_pinned a_age a_content a_roots a_weaks a_movedTo a_reports, oI a_owner cI 200 owner, oI a_roots cI 6 roots, oI a_weaks cI 4 weaks] 0 0 (g_Tm (none) [oX1 a_h w_words w_depth w_allocated w_collections w_freed a_owner a_fieldCount a_dataCount a_pinned a_age a_content a_roots a_weaks a_movedTo a_reports, oI a_owner cI 200 w_owner, oI a_roots cI 6 w_roots, oI a_weaks cI 4 w_weaks]) := by
  refine g_met (own := RX1) (mn := "empty") (cc := cX1_empty) (maxL := 3) (ret := none) rfl rfl (by decide +kernel) rfl (Nat.le_of_ble_eq_true rfl) (fun G X RT => ?_)
  show G 0 0 [oX1 a_h words depth allocated collections freed a_owner a_fieldCount a_dataCount a_pinned a_age a_content a_roots a_weaks a_movedTo a_reports, oI a_owner cI 200 owner, oI a_roots cI 6 roots, oI a_weaks cI 4 weaks] [(0, .ref a_h), (1, .int p1), (2, .int p2)] 0 []
  unfold FX1_empty at hF
  refine r_aload_n (pc' := 1) X dX1_empty_0 rfl 0 rfl rfl ?_
  refine r_iload_n (pc' := 2) X dX1_empty_1 rfl 1 rfl rfl ?_
  refine r_put (pc' := 5) (ty := .int) (ws' := [oX1 a_h p1 depth allocated collections freed a_owner a_fieldCount a_dataCount a_pinned a_age a_content a_roots a_weaks a_movedTo a_reports, oI a_owner cI 200 owner, oI a_roots cI 6 roots, oI a_weaks cI 4 weaks]) X uX1_empty_X1 0 0 tyX1 tyX1_ok nmX1 dX1_empty_2 rfl rfl (by decide) kX1_empty_1 rfl (by decide +kernel) rfl rfl (Nat.le_of_ble_eq_true rfl) rfl rfl ?_
  refine r_aload_n (pc' := 6) X dX1_empty_5 rfl 0 rfl rfl ?_
  refine r_iload_n (pc' := 7) X dX1_empty_6 rfl 2 rfl rfl ?_
  refine r_put (pc' := 10) (ty := .int) (ws' := [oX1 a_h p1 p2 allocated collections freed a_owner a_fieldCount a_dataCount a_pinned a_age a_content a_roots a_weaks a_movedTo a_reports, oI a_owner cI 200 owner, oI a_roots cI 6 roots, oI a_weaks cI 4 weaks]) X uX1_empty_X1 0 1 tyX1 tyX1_ok nmX1 dX1_empty_7 rfl rfl (by decide) kX1_empty_2 rfl (by decide +kernel) rfl rfl (Nat.le_of_ble_eq_true rfl) rfl rfl ?_
  refine r_aload_n (pc' := 11) X dX1_empty_10 rfl 0 rfl rfl ?_
  refine r_iconst (pc' := 12) X (0 : Int32) dX1_empty_11 (by decide) rfl ?_
  refine r_put (pc' := 15) (ty := .int) (ws' := [oX1 a_h p1 p2 (0 : Int32) collections freed a_owner a_fieldCount a_dataCount a_pinned a_age a_content a_roots a_weaks a_movedTo a_reports, oI a_owner cI 200 owner, oI a_roots cI 6 roots, oI a_weaks cI 4 weaks]) X uX1_empty_X1 0 2 tyX1 tyX1_ok nmX1 dX1_empty_12 rfl rfl (by decide) kX1_empty_3 rfl (by decide +kernel) rfl rfl (Nat.le_of_ble_eq_true rfl) rfl rfl ?_
  refine r_aload_n (pc' := 16) X dX1_empty_15 rfl 0 rfl rfl ?_
  refine r_iconst (pc' := 17) X (0 : Int32) dX1_empty_16 (by decide) rfl ?_
  refine r_put (pc' := 20) (ty := .int) (ws' := [oX1 a_h p1 p2 (0 : Int32) (0 : Int32) freed a_owner a_fieldCount a_dataCount a_pinned a_age a_content a_roots a_weaks a_movedTo a_reports, oI a_owner cI 200 owner, oI a_roots cI 6 roots, oI a_weaks cI 4 weaks]) X uX1_empty_X1 0 3 tyX1 tyX1_ok nmX1 dX1_empty_17 rfl rfl (by decide) kX1_empty_4 rfl (by decide +kernel) rfl rfl (Nat.le_of_ble_eq_true rfl) rfl rfl ?_
  refine r_aload_n (pc' := 21) X dX1_empty_20 rfl 0 rfl rfl ?_
  refine r_iconst (pc' := 22) X (0 : Int32) dX1_empty_21 (by decide) rfl ?_
  refine r_put (pc' := 25) (ty := .int) (ws' := [oX1 a_h p1 p2 (0 : Int32) (0 : Int32) (0 : Int32) a_owner a_fieldCount a_dataCount a_pinned a_age a_content a_roots a_weaks a_movedTo a_reports, oI a_owner cI 200 owner, oI a_roots cI 6 roots, oI a_weaks cI 4 weaks]) X uX1_empty_X1 0 4 tyX1 tyX1_ok nmX1 dX1_empty_22 rfl rfl (by decide) kX1_empty_5 rfl (by decide +kernel) rfl rfl (Nat.le_of_ble_eq_true rfl) rfl rfl ?_
  refine r_aload_n (pc' := 26) X dX1_empty_25 rfl 0 rfl rfl ?_
  refine r_get (pc' := 29) X uX1_empty_X1 0 5 dX1_empty_26 rfl rfl (by decide) kX1_empty_6 rfl rfl ?_
  refine r_iconst (pc' := 30) X (-1 : Int32) dX1_empty_29 (by decide) rfl ?_
  obtain ⟨owner_1, hc2, hF⟩ := g_bd hF
  refine r_callSF (pc' := 33) (ws' := [oX1 a_h p1 p2 (0 : Int32) (0 : Int32) (0 : Int32) a_owner a_fieldCount a_dataCount a_pinned a_age a_content a_roots a_weaks a_movedTo a_reports, oI a_owner cI 200 owner_1, oI a_roots cI 6 roots, oI a_weaks cI 4 weaks]) (st' := []) X (mJ7_fill_53178 D cI cZ cH a_owner owner 200 (-1 : Int32) owner_1 hc2) 2 gX1_empty_J7_fill_53178 rfl (by decide +kernel) rfl rfl ⟨Nat.le_of_ble_eq_true rfl, Nat.le_of_ble_eq_true rfl⟩ ⟨Nat.le_of_ble_eq_true rfl, Nat.le_of_ble_eq_true rfl⟩ rfl (Nat.le_of_ble_eq_true rfl) dX1_empty_30 [1] rfl rfl rfl rfl rfl rfl ?_
  refine r_aload_n (pc' := 34) X dX1_empty_33 rfl 0 rfl rfl ?_
  refine r_get (pc' := 37) X uX1_empty_X1 0 11 dX1_empty_34 rfl rfl (by decide) kX1_empty_7 rfl rfl ?_
  refine r_iconst (pc' := 38) X (-1 : Int32) dX1_empty_37 (by decide) rfl ?_
  obtain ⟨roots_3, hc4, hF⟩ := g_bd hF
  refine r_callSF (pc' := 41) (ws' := [oX1 a_h p1 p2 (0 : Int32) (0 : Int32) (0 : Int32) a_owner a_fieldCount a_dataCount a_pinned a_age a_content a_roots a_weaks a_movedTo a_reports, oI a_owner cI 200 owner_1, oI a_roots cI 6 roots_3, oI a_weaks cI 4 weaks]) (st' := []) X (mJ7_fill_53178 D cI cZ cH a_roots roots 6 (-1 : Int32) roots_3 hc4) 2 gX1_empty_J7_fill_53178 rfl (by decide +kernel) rfl rfl ⟨Nat.le_of_ble_eq_true rfl, Nat.le_of_ble_eq_true rfl⟩ ⟨Nat.le_of_ble_eq_true rfl, Nat.le_of_ble_eq_true rfl⟩ rfl (Nat.le_of_ble_eq_true rfl) dX1_empty_38 [2] rfl rfl rfl rfl rfl rfl ?_
  refine r_aload_n (pc' := 42) X dX1_empty_41 rfl 0 rfl rfl ?_
  refine r_get (pc' := 45) X uX1_empty_X1 0 12 dX1_empty_42 rfl rfl (by decide) kX1_empty_8 rfl rfl ?_
  refine r_iconst (pc' := 46) X (-1 : Int32) dX1_empty_45 (by decide) rfl ?_
  obtain ⟨weaks_5, hc6, hF⟩ := g_bd hF
  refine r_callSF (pc' := 49) (ws' := [oX1 a_h p1 p2 (0 : Int32) (0 : Int32) (0 : Int32) a_owner a_fieldCount a_dataCount a_pinned a_age a_content a_roots a_weaks a_movedTo a_reports, oI a_owner cI 200 owner_1, oI a_roots cI 6 roots_3, oI a_weaks cI 4 weaks_5]) (st' := []) X (mJ7_fill_53178 D cI cZ cH a_weaks weaks 4 (-1 : Int32) weaks_5 hc6) 2 gX1_empty_J7_fill_53178 rfl (by decide +kernel) rfl rfl ⟨Nat.le_of_ble_eq_true rfl, Nat.le_of_ble_eq_true rfl⟩ ⟨Nat.le_of_ble_eq_true rfl, Nat.le_of_ble_eq_true rfl⟩ rfl (Nat.le_of_ble_eq_true rfl) dX1_empty_46 [3] rfl rfl rfl rfl rfl rfl ?_
  cases hF
  exact RT.2.2 0 0 _ _ _ rfl dX1_empty_49 ⟨rfl, rfl⟩ (Nat.le_refl 0) (Nat.le_refl 0)
theorem kX1_roomFor_1 : Cond.fieldLink RX1 42 "IslandHeap$Heap" "words" "I" ∈ wsX1_roomFor := List.mem_of_getElem? (i := 1) (by decide +kernel)
theorem kX1_roomFor_2 : Cond.fieldLink RX1 9 "IslandHeap$Heap" "owner" "[I" ∈ wsX1_roomFor := List.mem_of_getElem? (i := 2) (by decide +kernel)
theorem uX1_roomFor_X1 : ∀ w ∈ u_ws RX1 TX1 15, w ∈ wsX1_roomFor := by decide +kernel
set_option maxHeartbeats 4000000 in
set_option maxRecDepth 100000 in
theorem mX1_roomFor (D : va_G) (cI cZ cH : ClassId) (a_h : Nat) (a_owner : Nat) (a_fieldCount : Nat) (a_dataCount : Nat) (a_pinned : Nat) (a_age : Nat) (a_content : Nat) (a_roots : Nat) (a_weaks : Nat) (a_movedTo : Nat) (a_reports : Nat) (words : Int32) (depth : Int32) (allocated : Int32) (collections : Int32) (freed : Int32) (owner : Nat → Int32) (p1 : Int32) (r0 : Int32) (hF : FX1_roomFor words owner p1 = some r0) : g_CM yX1_roomFor wsX1_roomFor ({ frames := 0, cells := 0, slots := 0, locals := 0 }) D cI cZ cH [.ref a_h, .int p1] [oX1 a_h words depth allocated collections freed a_owner a_fieldCount a_dataCount a_pinned a_age a_content a_roots a_weaks a_movedTo a_reports, oI a_owner cI 200 owner] 0 0 (g_Tm (some (.int r0)) [oX1 a_h words depth allocated collections freed a_owner a_fieldCount a_dataCount a_pinned a_age a_content a_roots a_weaks a_movedTo a_reports, oI a_owner cI 200 owner]) := by
  refine g_met (own := RX1) (mn := "roomFor") (cc := cX1_roomFor) (maxL := 4) (ret := (some .int)) rfl rfl (by decide +kernel) rfl (Nat.le_of_ble_eq_true rfl) (fun G X RT => ?_)
  show G 0 0 [oX1 a_h words depth allocated collections freed a_owner a_fieldCount a_dataCount a_pinned a_age a_content a_roots a_weaks a_movedTo a_reports, oI a_owner cI 200 owner] [(0, .ref a_h), (1, .int p1)] 0 []
  unfold FX1_roomFor at hF
  refine r_iconst (pc' := 1) X (0 : Int32) dX1_roomFor_0 (by decide) rfl ?_
  refine r_istore_n (pc' := 2) (lv' := [(0, .ref a_h), (1, .int p1), (2, .int (0 : Int32))]) X dX1_roomFor_1 rfl (by decide) [1, 2, 0] rfl rfl ?_
  refine r_iconst (pc' := 3) X (0 : Int32) dX1_roomFor_2 (by decide) rfl ?_
  refine r_istore_n (pc' := 4) (lv' := [(0, .ref a_h), (1, .int p1), (2, .int (0 : Int32)), (3, .int (0 : Int32))]) X dX1_roomFor_3 rfl (by decide) [1, 2, 3, 0] rfl rfl ?_
  have hL4 : ∀ (fu : Nat) (v2_1 : Int32) (v3_2 : Int32), g_itn (FX1_roomFor_L4 words owner p1) fu (v2_1, v3_2) = some r0 → G 0 0 [oX1 a_h words depth allocated collections freed a_owner a_fieldCount a_dataCount a_pinned a_age a_content a_roots a_weaks a_movedTo a_reports, oI a_owner cI 200 owner] [(0, .ref a_h), (1, .int p1), (2, .int v2_1), (3, .int v3_2)] 4 [] := by
    intro fu
    induction fu with
    | zero => intro v2_1 v3_2 h9; exact (g_it0 h9).elim
    | succ fu ih =>
      intro v2_1 v3_2 h9
      obtain ⟨y4, hF, hI4⟩ := g_its h9
      unfold FX1_roomFor_L4 at hF
      refine r_iload_n (pc' := 5) X dX1_roomFor_4 rfl 3 rfl rfl ?_
      refine r_aload_n (pc' := 6) X dX1_roomFor_5 rfl 0 rfl rfl ?_
      refine r_get (pc' := 9) X uX1_roomFor_X1 0 0 dX1_roomFor_6 rfl rfl (by decide) kX1_roomFor_1 rfl rfl ?_
      refine r_icmp_ge (pc' := 12) X 47 dX1_roomFor_9 (by decide) rfl (fun c9 => ?_) (fun c9 => ?_)
      · replace hF := g_t c9 hF
        refine r_iconst (pc' := 48) X (-1 : Int32) dX1_roomFor_47 (by decide) rfl ?_
        cases hF
        replace hF := congrArg some hI4
        cases hF
        exact RT.1 0 0 _ _ _ _ .int rfl rfl dX1_roomFor_48 ⟨rfl, rfl⟩ (Nat.le_refl 0) (Nat.le_refl 0)
      · replace hF := g_f c9 hF
        refine r_aload_n (pc' := 13) X dX1_roomFor_12 rfl 0 rfl rfl ?_
        refine r_get (pc' := 16) X uX1_roomFor_X1 0 5 dX1_roomFor_13 rfl rfl (by decide) kX1_roomFor_2 rfl rfl ?_
        refine r_iload_n (pc' := 17) X dX1_roomFor_16 rfl 3 rfl rfl ?_
        obtain ⟨hi3, hF⟩ := g_gt hF
        refine r_iald (pc' := 18) X 1 dX1_roomFor_17 rfl (g_vi hi3) rfl ?_
        refine r_iconst (pc' := 19) X (-1 : Int32) dX1_roomFor_18 (by decide) rfl ?_
        obtain ⟨exJ5, hR, hF⟩ := g_bd hF
        have hJ5 : ∀ (t4 : Int32), t4 = exJ5 → G 0 0 [oX1 a_h words depth allocated collections freed a_owner a_fieldCount a_dataCount a_pinned a_age a_content a_roots a_weaks a_movedTo a_reports, oI a_owner cI 200 owner] [(0, .ref a_h), (1, .int p1), (3, .int v3_2)] 29 [.int t4] := by
          intro t4 hx; subst hx
          refine r_istore_n (pc' := 30) (lv' := [(0, .ref a_h), (1, .int p1), (2, .int t4), (3, .int v3_2)]) X dX1_roomFor_29 rfl (by decide) [1, 2, 0, 3] rfl rfl ?_
          refine r_iload_n (pc' := 31) X dX1_roomFor_30 rfl 2 rfl rfl ?_
          refine r_iload_n (pc' := 32) X dX1_roomFor_31 rfl 1 rfl rfl ?_
          refine r_icmp_ne (pc' := 35) X 41 dX1_roomFor_32 (by decide) rfl (fun c9 => ?_) (fun c9 => ?_)
          · replace hF := g_f c9 hF
            refine r_iinc (pc' := 44) (lv' := [(0, .ref a_h), (1, .int p1), (2, .int t4), (3, .int (v3_2 + (1 : Int32)))]) X (v3_2 + (1 : Int32)) dX1_roomFor_41 3 rfl (congrArg (fun z => v3_2 + z) (by decide)) (by decide) [1, 2, 3, 0] rfl rfl ?_
            refine r_goto X 4 dX1_roomFor_44 (by decide) ?_
            cases hF
            exact ih t4 (v3_2 + (1 : Int32)) hI4
          · replace hF := g_t c9 hF
            refine r_iload_n (pc' := 36) X dX1_roomFor_35 rfl 3 rfl rfl ?_
            refine r_iconst (pc' := 37) X (1 : Int32) dX1_roomFor_36 (by decide) rfl ?_
            refine r_iadd (pc' := 38) X dX1_roomFor_37 rfl ?_
            refine r_iload_n (pc' := 39) X dX1_roomFor_38 rfl 1 rfl rfl ?_
            refine r_isub (pc' := 40) X dX1_roomFor_39 rfl ?_
            cases hF
            replace hF := congrArg some hI4
            cases hF
            exact RT.1 0 0 _ _ _ _ .int rfl rfl dX1_roomFor_40 ⟨rfl, rfl⟩ (Nat.le_refl 0) (Nat.le_refl 0)
        replace hF := hR
        refine r_icmp_ne (pc' := 22) X 28 dX1_roomFor_19 (by decide) rfl (fun c9 => ?_) (fun c9 => ?_)
        · replace hF := g_f c9 hF
          refine r_iconst (pc' := 29) X (0 : Int32) dX1_roomFor_28 (by decide) rfl ?_
          refine r_sub (lv' := [(0, .ref a_h), (1, .int p1), (3, .int v3_2)]) X [0, 1, 3] rfl ?_
          exact hJ5 (0 : Int32) (Option.some.inj hF)
        · replace hF := g_t c9 hF
          refine r_iload_n (pc' := 23) X dX1_roomFor_22 rfl 2 rfl rfl ?_
          refine r_iconst (pc' := 24) X (1 : Int32) dX1_roomFor_23 (by decide) rfl ?_
          refine r_iadd (pc' := 25) X dX1_roomFor_24 rfl ?_
          refine r_goto X 29 dX1_roomFor_25 (by decide) ?_
          refine r_sub (lv' := [(0, .ref a_h), (1, .int p1), (3, .int v3_2)]) X [0, 1, 3] rfl ?_
          exact hJ5 (v2_1 + (1 : Int32)) (Option.some.inj hF)
  exact hL4 g_fuel (0 : Int32) (0 : Int32) hF
set_option maxHeartbeats 4000000 in
set_option maxRecDepth 100000 in
theorem mJ7_rangeCheck_23922 (D : va_G) (cI cZ cH : ClassId) (p0 : Int32) (p1 : Int32) (p2 : Int32) (hF : FJ7_rangeCheck_23922 p0 p1 p2 = some ()) : g_CM yJ7_rangeCheck_23922 wsJ7_rangeCheck_23922 ({ frames := 0, cells := 0, slots := 0, locals := 0 }) D cI cZ cH [.int p0, .int p1, .int p2] [] 0 0 (g_Tm (none) []) := by
  refine g_met (own := RJ7) (mn := "rangeCheck") (cc := cJ7_rangeCheck_23922) (maxL := 3) (ret := none) rfl rfl (by decide +kernel) rfl (Nat.le_of_ble_eq_true rfl) (fun G X RT => ?_)
  show G 0 0 [] [(0, .int p0), (1, .int p1), (2, .int p2)] 0 []
  unfold FJ7_rangeCheck_23922 at hF
  refine r_iload_n (pc' := 1) X dJ7_rangeCheck_23922_0 rfl 1 rfl rfl ?_
  refine r_iload_n (pc' := 2) X dJ7_rangeCheck_23922_1 rfl 2 rfl rfl ?_
  obtain ⟨exJ1, hR, hF⟩ := g_bd hF
  have hJ1 : ∀ _ : True, () = exJ1 → G 0 0 [] [(0, .int p0), (1, .int p1), (2, .int p2)] 46 [] := by
    intro _ hx; subst hx
    refine r_iload_n (pc' := 47) X dJ7_rangeCheck_23922_46 rfl 1 rfl rfl ?_
    obtain ⟨exJ2, hR, hF⟩ := g_bd hF
    have hJ2 : ∀ _ : True, () = exJ2 → G 0 0 [] [(0, .int p0), (2, .int p2)] 59 [] := by
      intro _ hx; subst hx
      refine r_iload_n (pc' := 60) X dJ7_rangeCheck_23922_59 rfl 1 rfl rfl ?_
      refine r_iload_n (pc' := 61) X dJ7_rangeCheck_23922_60 rfl 0 rfl rfl ?_
      refine r_icmp_le (pc' := 64) X 73 dJ7_rangeCheck_23922_61 (by decide) rfl (fun c9 => ?_) (fun c9 => ?_)
      · replace hF := g_t c9 hF
        cases hF
        exact RT.2.2 0 0 _ _ _ rfl dJ7_rangeCheck_23922_73 ⟨rfl, rfl⟩ (Nat.le_refl 0) (Nat.le_refl 0)
      · replace hF := g_f c9 hF
        exact g_no hF
    replace hF := hR
    refine r_if_ge (pc' := 50) X 59 dJ7_rangeCheck_23922_47 (by decide) rfl (fun c9 => ?_) (fun c9 => ?_)
    · replace hF := g_t c9 hF
      refine r_sub (lv' := [(0, .int p0), (2, .int p2)]) X [0, 2] rfl ?_
      exact hJ2 trivial (Option.some.inj hF)
    · replace hF := g_f c9 hF
      exact g_no hF
  replace hF := hR
  refine r_icmp_le (pc' := 5) X 46 dJ7_rangeCheck_23922_2 (by decide) rfl (fun c9 => ?_) (fun c9 => ?_)
  · replace hF := g_t c9 hF
    exact hJ1 trivial (Option.some.inj hF)
  · replace hF := g_f c9 hF
    exact g_no hF
set_option maxHeartbeats 4000000 in
set_option maxRecDepth 100000 in
theorem mJ7_fill_fda19 (D : va_G) (cI cZ cH : ClassId) (a_row : Nat) (row : Nat → Int32) (n_row : Nat) (p1 : Int32) (p2 : Int32) (p3 : Int32) (w_row : Nat → Int32) (hF : FJ7_fill_fda19 row n_row p1 p2 p3 = some w_row) : g_CM yJ7_fill_fda19 wsJ7_fill_fda19 ({ frames := 1, cells := 0, slots := 0, locals := 22 }) D cI cZ cH [.ref a_row, .int p1, .int p2, .int p3] [oI a_row cI n_row row] 0 0 (g_Tm (none) [oI a_row cI n_row w_row]) := by
  refine g_met (own := RJ7) (mn := "fill") (cc := cJ7_fill_fda19) (maxL := 5) (ret := none) rfl rfl (by decide +kernel) rfl (Nat.le_of_ble_eq_true rfl) (fun G X RT => ?_)
  show G 0 0 [oI a_row cI n_row row] [(0, .ref a_row), (1, .int p1), (2, .int p2), (3, .int p3)] 0 []
  unfold FJ7_fill_fda19 at hF
  refine r_aload_n (pc' := 1) X dJ7_fill_fda19_0 rfl 0 rfl rfl ?_
  refine r_alen (pc' := 2) X 0 0 dJ7_fill_fda19_1 rfl rfl rfl ?_
  refine r_iload_n (pc' := 3) X dJ7_fill_fda19_2 rfl 1 rfl rfl ?_
  refine r_iload_n (pc' := 4) X dJ7_fill_fda19_3 rfl 2 rfl rfl ?_
  obtain ⟨_u9, hc1, hF⟩ := g_bd hF
  refine r_callSF (pc' := 7) (ws' := [oI a_row cI n_row row]) (st' := []) X (mJ7_rangeCheck_23922 D cI cZ cH (Int32.ofNat n_row) p1 p2 hc1) 3 gJ7_fill_fda19_J7_rangeCheck_23922 rfl (by decide +kernel) rfl rfl ⟨Nat.le_of_ble_eq_true rfl, Nat.le_of_ble_eq_true rfl⟩ ⟨Nat.le_of_ble_eq_true rfl, Nat.le_of_ble_eq_true rfl⟩ rfl (Nat.le_of_ble_eq_true rfl) dJ7_fill_fda19_4 [] rfl rfl rfl rfl rfl rfl ?_
  refine r_iload_n (pc' := 8) X dJ7_fill_fda19_7 rfl 1 rfl rfl ?_
  refine r_istore (pc' := 10) (lv' := [(0, .ref a_row), (1, .int p1), (2, .int p2), (3, .int p3), (4, .int p1)]) X dJ7_fill_fda19_8 (by decide) [1, 2, 3, 4, 0] rfl rfl ?_
  obtain ⟨ex10, hR, hF⟩ := g_bd hF
  have hE10 : ∀ (row_4 : Nat → Int32), row_4 = ex10 → G 0 0 [oI a_row cI n_row row_4] [] 27 [] := by
    intro row_4 hx; subst hx
    cases hF
    exact RT.2.2 0 0 _ _ _ rfl dJ7_fill_fda19_27 ⟨rfl, rfl⟩ (Nat.le_refl 0) (Nat.le_refl 0)
  have hL10 : ∀ (fu : Nat) (v4_2 : Int32) (row_3 : Nat → Int32), g_itn (FJ7_fill_fda19_L10 n_row p2 p3) fu (v4_2, row_3) = some ex10 → G 0 0 [oI a_row cI n_row row_3] [(0, .ref a_row), (2, .int p2), (3, .int p3), (4, .int v4_2)] 10 [] := by
    intro fu
    induction fu with
    | zero => intro v4_2 row_3 h9; exact (g_it0 h9).elim
    | succ fu ih =>
      intro v4_2 row_3 h9
      obtain ⟨y10, hF, hI10⟩ := g_its h9
      unfold FJ7_fill_fda19_L10 at hF
      refine r_iload (pc' := 12) X dJ7_fill_fda19_10 3 rfl rfl ?_
      refine r_iload_n (pc' := 13) X dJ7_fill_fda19_12 rfl 1 rfl rfl ?_
      refine r_icmp_ge (pc' := 16) X 27 dJ7_fill_fda19_13 (by decide) rfl (fun c9 => ?_) (fun c9 => ?_)
      · replace hF := g_t c9 hF
        cases hF
        refine r_sub (lv' := []) X [] rfl ?_
        exact hE10 row_3 hI10
      · replace hF := g_f c9 hF
        refine r_aload_n (pc' := 17) X dJ7_fill_fda19_16 rfl 0 rfl rfl ?_
        refine r_iload (pc' := 19) X dJ7_fill_fda19_17 3 rfl rfl ?_
        refine r_iload_n (pc' := 20) X dJ7_fill_fda19_19 rfl 2 rfl rfl ?_
        obtain ⟨hi5, hF⟩ := g_gt hF
        refine r_iast (pc' := 21) (ws' := [oI a_row cI n_row (upd row_3 v4_2.toNatClampNeg p3)]) X 0 dJ7_fill_fda19_20 rfl (g_vi hi5) rfl rfl ?_
        refine r_iinc (pc' := 24) (lv' := [(0, .ref a_row), (2, .int p2), (3, .int p3), (4, .int (v4_2 + (1 : Int32)))]) X (v4_2 + (1 : Int32)) dJ7_fill_fda19_21 3 rfl (congrArg (fun z => v4_2 + z) (by decide)) (by decide) [1, 2, 3, 0] rfl rfl ?_
        refine r_goto X 10 dJ7_fill_fda19_24 (by decide) ?_
        cases hF
        exact ih (v4_2 + (1 : Int32)) (upd row_3 v4_2.toNatClampNeg p3) hI10
  refine r_sub (lv' := [(0, .ref a_row), (2, .int p2), (3, .int p3), (4, .int p1)]) X [0, 2, 3, 4] rfl ?_
  exact hL10 g_fuel p1 row hR
theorem kX1_sizeOf_1 : Cond.fieldLink RX1 15 "IslandHeap$Heap" "fieldCount" "[I" ∈ wsX1_sizeOf := List.mem_of_getElem? (i := 1) (by decide +kernel)
theorem kX1_sizeOf_2 : Cond.fieldLink RX1 18 "IslandHeap$Heap" "dataCount" "[I" ∈ wsX1_sizeOf := List.mem_of_getElem? (i := 2) (by decide +kernel)
theorem uX1_sizeOf_X1 : ∀ w ∈ u_ws RX1 TX1 15, w ∈ wsX1_sizeOf := by decide +kernel
set_option maxHeartbeats 4000000 in
set_option maxRecDepth 100000 in
theorem mX1_sizeOf (D : va_G) (cI cZ cH : ClassId) (a_h : Nat) (a_fieldCount : Nat) (a_dataCount : Nat) (a_owner : Nat) (a_pinned : Nat) (a_age : Nat) (a_content : Nat) (a_roots : Nat) (a_weaks : Nat) (a_movedTo : Nat) (a_reports : Nat) (words : Int32) (depth : Int32) (allocated : Int32) (collections : Int32) (freed : Int32) (fieldCount : Nat → Int32) (dataCount : Nat → Int32) (p1 : Int32) (r0 : Int32) (hF : FX1_sizeOf fieldCount dataCount p1 = some r0) : g_CM yX1_sizeOf wsX1_sizeOf ({ frames := 0, cells := 0, slots := 0, locals := 0 }) D cI cZ cH [.ref a_h, .int p1] [oX1 a_h words depth allocated collections freed a_owner a_fieldCount a_dataCount a_pinned a_age a_content a_roots a_weaks a_movedTo a_reports, oI a_fieldCount cI 200 fieldCount, oI a_dataCount cI 200 dataCount] 0 0 (g_Tm (some (.int r0)) [oX1 a_h words depth allocated collections freed a_owner a_fieldCount a_dataCount a_pinned a_age a_content a_roots a_weaks a_movedTo a_reports, oI a_fieldCount cI 200 fieldCount, oI a_dataCount cI 200 dataCount]) := by
  refine g_met (own := RX1) (mn := "sizeOf") (cc := cX1_sizeOf) (maxL := 2) (ret := (some .int)) rfl rfl (by decide +kernel) rfl (Nat.le_of_ble_eq_true rfl) (fun G X RT => ?_)
  show G 0 0 [oX1 a_h words depth allocated collections freed a_owner a_fieldCount a_dataCount a_pinned a_age a_content a_roots a_weaks a_movedTo a_reports, oI a_fieldCount cI 200 fieldCount, oI a_dataCount cI 200 dataCount] [(0, .ref a_h), (1, .int p1)] 0 []
  unfold FX1_sizeOf at hF
  refine r_iconst (pc' := 1) X (1 : Int32) dX1_sizeOf_0 (by decide) rfl ?_
  refine r_aload_n (pc' := 2) X dX1_sizeOf_1 rfl 0 rfl rfl ?_
  refine r_get (pc' := 5) X uX1_sizeOf_X1 0 6 dX1_sizeOf_2 rfl rfl (by decide) kX1_sizeOf_1 rfl rfl ?_
  refine r_iload_n (pc' := 6) X dX1_sizeOf_5 rfl 1 rfl rfl ?_
  obtain ⟨hi1, hF⟩ := g_gt hF
  refine r_iald (pc' := 7) X 1 dX1_sizeOf_6 rfl (g_vi hi1) rfl ?_
  refine r_iadd (pc' := 8) X dX1_sizeOf_7 rfl ?_
  refine r_aload_n (pc' := 9) X dX1_sizeOf_8 rfl 0 rfl rfl ?_
  refine r_get (pc' := 12) X uX1_sizeOf_X1 0 7 dX1_sizeOf_9 rfl rfl (by decide) kX1_sizeOf_2 rfl rfl ?_
  refine r_iload_n (pc' := 13) X dX1_sizeOf_12 rfl 1 rfl rfl ?_
  obtain ⟨hi2, hF⟩ := g_gt hF
  refine r_iald (pc' := 14) X 2 dX1_sizeOf_13 rfl (g_vi hi2) rfl ?_
  refine r_iadd (pc' := 15) X dX1_sizeOf_14 rfl ?_
  cases hF
  exact RT.1 0 0 _ _ _ _ .int rfl rfl dX1_sizeOf_15 ⟨rfl, rfl⟩ (Nat.le_refl 0) (Nat.le_refl 0)
theorem kX1_own_1 : Cond.fieldLink RX1 9 "IslandHeap$Heap" "owner" "[I" ∈ wsX1_own := List.mem_of_getElem? (i := 1) (by decide +kernel)
theorem uX1_own_X1 : ∀ w ∈ u_ws RX1 TX1 15, w ∈ wsX1_own := by decide +kernel
set_option maxHeartbeats 4000000 in
set_option maxRecDepth 100000 in
theorem mX1_own (D : va_G) (cI cZ cH : ClassId) (a_h : Nat) (a_owner : Nat) (a_fieldCount : Nat) (a_dataCount : Nat) (a_pinned : Nat) (a_age : Nat) (a_content : Nat) (a_roots : Nat) (a_weaks : Nat) (a_movedTo : Nat) (a_reports : Nat) (words : Int32) (depth : Int32) (allocated : Int32) (collections : Int32) (freed : Int32) (owner : Nat → Int32) (fieldCount : Nat → Int32) (dataCount : Nat → Int32) (p1 : Int32) (w_owner : Nat → Int32) (hF : FX1_own owner fieldCount dataCount p1 = some w_owner) : g_CM yX1_own wsX1_own ({ frames := 2, cells := 0, slots := 0, locals := 46 }) D cI cZ cH [.ref a_h, .int p1] [oX1 a_h words depth allocated collections freed a_owner a_fieldCount a_dataCount a_pinned a_age a_content a_roots a_weaks a_movedTo a_reports, oI a_owner cI 200 owner, oI a_fieldCount cI 200 fieldCount, oI a_dataCount cI 200 dataCount] 0 0 (g_Tm (none) [oX1 a_h words depth allocated collections freed a_owner a_fieldCount a_dataCount a_pinned a_age a_content a_roots a_weaks a_movedTo a_reports, oI a_owner cI 200 w_owner, oI a_fieldCount cI 200 fieldCount, oI a_dataCount cI 200 dataCount]) := by
  refine g_met (own := RX1) (mn := "own") (cc := cX1_own) (maxL := 2) (ret := none) rfl rfl (by decide +kernel) rfl (Nat.le_of_ble_eq_true rfl) (fun G X RT => ?_)
  show G 0 0 [oX1 a_h words depth allocated collections freed a_owner a_fieldCount a_dataCount a_pinned a_age a_content a_roots a_weaks a_movedTo a_reports, oI a_owner cI 200 owner, oI a_fieldCount cI 200 fieldCount, oI a_dataCount cI 200 dataCount] [(0, .ref a_h), (1, .int p1)] 0 []
  unfold FX1_own at hF
  refine r_aload_n (pc' := 1) X dX1_own_0 rfl 0 rfl rfl ?_
  refine r_get (pc' := 4) X uX1_own_X1 0 5 dX1_own_1 rfl rfl (by decide) kX1_own_1 rfl rfl ?_
  refine r_iload_n (pc' := 5) X dX1_own_4 rfl 1 rfl rfl ?_
  refine r_iload_n (pc' := 6) X dX1_own_5 rfl 1 rfl rfl ?_
  refine r_aload_n (pc' := 7) X dX1_own_6 rfl 0 rfl rfl ?_
  refine r_iload_n (pc' := 8) X dX1_own_7 rfl 1 rfl rfl ?_
  obtain ⟨r1, hc2, hF⟩ := g_bd hF
  refine r_callVF (pc' := 11) (ws' := [oX1 a_h words depth allocated collections freed a_owner a_fieldCount a_dataCount a_pinned a_age a_content a_roots a_weaks a_movedTo a_reports, oI a_owner cI 200 owner, oI a_fieldCount cI 200 fieldCount, oI a_dataCount cI 200 dataCount]) (st' := [.int r1, .int p1, .int p1, .ref a_owner]) X (mX1_sizeOf D cI cZ cH a_h a_fieldCount a_dataCount a_owner a_pinned a_age a_content a_roots a_weaks a_movedTo a_reports words depth allocated collections freed fieldCount dataCount p1 r1 hc2) 1 gX1_own_X1_sizeOf rfl (by decide +kernel) rfl rfl ⟨Nat.le_of_ble_eq_true rfl, Nat.le_of_ble_eq_true rfl⟩ ⟨Nat.le_of_ble_eq_true rfl, Nat.le_of_ble_eq_true rfl⟩ rfl (Nat.le_of_ble_eq_true rfl) dX1_own_8 0 rfl rfl [0, 2, 3] rfl rfl rfl rfl rfl rfl ?_
  refine r_iadd (pc' := 12) X dX1_own_11 rfl ?_
  refine r_iload_n (pc' := 13) X dX1_own_12 rfl 1 rfl rfl ?_
  obtain ⟨owner_3, hc4, hF⟩ := g_bd hF
  refine r_callSF (pc' := 16) (ws' := [oX1 a_h words depth allocated collections freed a_owner a_fieldCount a_dataCount a_pinned a_age a_content a_roots a_weaks a_movedTo a_reports, oI a_owner cI 200 owner_3, oI a_fieldCount cI 200 fieldCount, oI a_dataCount cI 200 dataCount]) (st' := []) X (mJ7_fill_fda19 D cI cZ cH a_owner owner 200 p1 (p1 + r1) p1 owner_3 hc4) 4 gX1_own_J7_fill_fda19 rfl (by decide +kernel) rfl rfl ⟨Nat.le_of_ble_eq_true rfl, Nat.le_of_ble_eq_true rfl⟩ ⟨Nat.le_of_ble_eq_true rfl, Nat.le_of_ble_eq_true rfl⟩ rfl (Nat.le_of_ble_eq_true rfl) dX1_own_13 [1] rfl rfl rfl rfl rfl rfl ?_
  cases hF
  exact RT.2.2 0 0 _ _ _ rfl dX1_own_16 ⟨rfl, rfl⟩ (Nat.le_refl 0) (Nat.le_refl 0)
theorem kX1_place_1 : Cond.fieldLink RX1 15 "IslandHeap$Heap" "fieldCount" "[I" ∈ wsX1_place := List.mem_of_getElem? (i := 1) (by decide +kernel)
theorem kX1_place_2 : Cond.fieldLink RX1 18 "IslandHeap$Heap" "dataCount" "[I" ∈ wsX1_place := List.mem_of_getElem? (i := 2) (by decide +kernel)
theorem kX1_place_3 : Cond.fieldLink RX1 21 "IslandHeap$Heap" "pinned" "[I" ∈ wsX1_place := List.mem_of_getElem? (i := 3) (by decide +kernel)
theorem kX1_place_4 : Cond.fieldLink RX1 24 "IslandHeap$Heap" "age" "[I" ∈ wsX1_place := List.mem_of_getElem? (i := 4) (by decide +kernel)
theorem kX1_place_5 : Cond.fieldLink RX1 27 "IslandHeap$Heap" "content" "[I" ∈ wsX1_place := List.mem_of_getElem? (i := 5) (by decide +kernel)
theorem kX1_place_6 : Cond.fieldLink RX1 49 "IslandHeap$Heap" "allocated" "I" ∈ wsX1_place := List.mem_of_getElem? (i := 6) (by decide +kernel)
theorem uX1_place_X1 : ∀ w ∈ u_ws RX1 TX1 15, w ∈ wsX1_place := by decide +kernel
set_option maxHeartbeats 4000000 in
set_option maxRecDepth 100000 in
theorem mX1_place (D : va_G) (cI cZ cH : ClassId) (a_h : Nat) (a_owner : Nat) (a_fieldCount : Nat) (a_dataCount : Nat) (a_pinned : Nat) (a_age : Nat) (a_content : Nat) (a_roots : Nat) (a_weaks : Nat) (a_movedTo : Nat) (a_reports : Nat) (words : Int32) (depth : Int32) (allocated : Int32) (collections : Int32) (freed : Int32) (owner : Nat → Int32) (fieldCount : Nat → Int32) (dataCount : Nat → Int32) (pinned : Nat → Int32) (age : Nat → Int32) (content : Nat → Int32) (p1 : Int32) (p2 : Int32) (p3 : Int32) (w_allocated : Int32) (w_owner : Nat → Int32) (w_fieldCount : Nat → Int32) (w_dataCount : Nat → Int32) (w_pinned : Nat → Int32) (w_age : Nat → Int32) (w_content : Nat → Int32) (hF : FX1_place allocated owner fieldCount dataCount pinned age content p1 p2 p3 = some (w_allocated, w_owner, w_fieldCount, w_dataCount, w_pinned, w_age, w_content)) : g_CM yX1_place wsX1_place ({ frames := 3, cells := 0, slots := 0, locals := 67 }) D cI cZ cH [.ref a_h, .int p1, .int p2, .int p3] [oX1 a_h words depth allocated collections freed a_owner a_fieldCount a_dataCount a_pinned a_age a_content a_roots a_weaks a_movedTo a_reports, oI a_owner cI 200 owner, oI a_fieldCount cI 200 fieldCount, oI a_dataCount cI 200 dataCount, oI a_pinned cI 200 pinned, oI a_age cI 200 age, oI a_content cI 200 content] 0 0 (g_Tm (none) [oX1 a_h words depth w_allocated collections freed a_owner a_fieldCount a_dataCount a_pinned a_age a_content a_roots a_weaks a_movedTo a_reports, oI a_owner cI 200 w_owner, oI a_fieldCount cI 200 w_fieldCount, oI a_dataCount cI 200 w_dataCount, oI a_pinned cI 200 w_pinned, oI a_age cI 200 w_age, oI a_content cI 200 w_content]) := by
  refine g_met (own := RX1) (mn := "place") (cc := cX1_place) (maxL := 5) (ret := none) rfl rfl (by decide +kernel) rfl (Nat.le_of_ble_eq_true rfl) (fun G X RT => ?_)
  show G 0 0 [oX1 a_h words depth allocated collections freed a_owner a_fieldCount a_dataCount a_pinned a_age a_content a_roots a_weaks a_movedTo a_reports, oI a_owner cI 200 owner, oI a_fieldCount cI 200 fieldCount, oI a_dataCount cI 200 dataCount, oI a_pinned cI 200 pinned, oI a_age cI 200 age, oI a_content cI 200 content] [(0, .ref a_h), (1, .int p1), (2, .int p2), (3, .int p3)] 0 []
  unfold FX1_place at hF
  refine r_aload_n (pc' := 1) X dX1_place_0 rfl 0 rfl rfl ?_
  refine r_get (pc' := 4) X uX1_place_X1 0 6 dX1_place_1 rfl rfl (by decide) kX1_place_1 rfl rfl ?_
  refine r_iload_n (pc' := 5) X dX1_place_4 rfl 1 rfl rfl ?_
  refine r_iload_n (pc' := 6) X dX1_place_5 rfl 2 rfl rfl ?_
  obtain ⟨hi1, hF⟩ := g_gt hF
  refine r_iast (pc' := 7) (ws' := [oX1 a_h words depth allocated collections freed a_owner a_fieldCount a_dataCount a_pinned a_age a_content a_roots a_weaks a_movedTo a_reports, oI a_owner cI 200 owner, oI a_fieldCount cI 200 (upd fieldCount p1.toNatClampNeg p2), oI a_dataCount cI 200 dataCount, oI a_pinned cI 200 pinned, oI a_age cI 200 age, oI a_content cI 200 content]) X 2 dX1_place_6 rfl (g_vi hi1) rfl rfl ?_
  refine r_aload_n (pc' := 8) X dX1_place_7 rfl 0 rfl rfl ?_
  refine r_get (pc' := 11) X uX1_place_X1 0 7 dX1_place_8 rfl rfl (by decide) kX1_place_2 rfl rfl ?_
  refine r_iload_n (pc' := 12) X dX1_place_11 rfl 1 rfl rfl ?_
  refine r_iload_n (pc' := 13) X dX1_place_12 rfl 3 rfl rfl ?_
  obtain ⟨hi2, hF⟩ := g_gt hF
  refine r_iast (pc' := 14) (ws' := [oX1 a_h words depth allocated collections freed a_owner a_fieldCount a_dataCount a_pinned a_age a_content a_roots a_weaks a_movedTo a_reports, oI a_owner cI 200 owner, oI a_fieldCount cI 200 (upd fieldCount p1.toNatClampNeg p2), oI a_dataCount cI 200 (upd dataCount p1.toNatClampNeg p3), oI a_pinned cI 200 pinned, oI a_age cI 200 age, oI a_content cI 200 content]) X 3 dX1_place_13 rfl (g_vi hi2) rfl rfl ?_
  refine r_aload_n (pc' := 15) X dX1_place_14 rfl 0 rfl rfl ?_
  refine r_get (pc' := 18) X uX1_place_X1 0 8 dX1_place_15 rfl rfl (by decide) kX1_place_3 rfl rfl ?_
  refine r_iload_n (pc' := 19) X dX1_place_18 rfl 1 rfl rfl ?_
  refine r_iconst (pc' := 20) X (0 : Int32) dX1_place_19 (by decide) rfl ?_
  obtain ⟨hi3, hF⟩ := g_gt hF
  refine r_iast (pc' := 21) (ws' := [oX1 a_h words depth allocated collections freed a_owner a_fieldCount a_dataCount a_pinned a_age a_content a_roots a_weaks a_movedTo a_reports, oI a_owner cI 200 owner, oI a_fieldCount cI 200 (upd fieldCount p1.toNatClampNeg p2), oI a_dataCount cI 200 (upd dataCount p1.toNatClampNeg p3), oI a_pinned cI 200 (upd pinned p1.toNatClampNeg (0 : Int32)), oI a_age cI 200 age, oI a_content cI 200 content]) X 4 dX1_place_20 rfl (g_vi hi3) rfl rfl ?_
  refine r_aload_n (pc' := 22) X dX1_place_21 rfl 0 rfl rfl ?_
  refine r_get (pc' := 25) X uX1_place_X1 0 9 dX1_place_22 rfl rfl (by decide) kX1_place_4 rfl rfl ?_
  refine r_iload_n (pc' := 26) X dX1_place_25 rfl 1 rfl rfl ?_
  refine r_iconst (pc' := 27) X (0 : Int32) dX1_place_26 (by decide) rfl ?_
  obtain ⟨hi4, hF⟩ := g_gt hF
  refine r_iast (pc' := 28) (ws' := [oX1 a_h words depth allocated collections freed a_owner a_fieldCount a_dataCount a_pinned a_age a_content a_roots a_weaks a_movedTo a_reports, oI a_owner cI 200 owner, oI a_fieldCount cI 200 (upd fieldCount p1.toNatClampNeg p2), oI a_dataCount cI 200 (upd dataCount p1.toNatClampNeg p3), oI a_pinned cI 200 (upd pinned p1.toNatClampNeg (0 : Int32)), oI a_age cI 200 (upd age p1.toNatClampNeg (0 : Int32)), oI a_content cI 200 content]) X 5 dX1_place_27 rfl (g_vi hi4) rfl rfl ?_
  refine r_iload_n (pc' := 29) X dX1_place_28 rfl 1 rfl rfl ?_
  refine r_iconst (pc' := 30) X (1 : Int32) dX1_place_29 (by decide) rfl ?_
  refine r_iadd (pc' := 31) X dX1_place_30 rfl ?_
  refine r_iload_n (pc' := 32) X dX1_place_31 rfl 2 rfl rfl ?_
  refine r_iadd (pc' := 33) X dX1_place_32 rfl ?_
  refine r_istore (pc' := 35) (lv' := [(0, .ref a_h), (1, .int p1), (2, .int p2), (3, .int p3), (4, .int ((p1 + (1 : Int32)) + p2))]) X dX1_place_33 (by decide) [1, 2, 3, 4, 0] rfl rfl ?_
  refine r_aload_n (pc' := 36) X dX1_place_35 rfl 0 rfl rfl ?_
  refine r_get (pc' := 39) X uX1_place_X1 0 10 dX1_place_36 rfl rfl (by decide) kX1_place_5 rfl rfl ?_
  refine r_iload_n (pc' := 40) X dX1_place_39 rfl 1 rfl rfl ?_
  refine r_iconst (pc' := 41) X (1 : Int32) dX1_place_40 (by decide) rfl ?_
  refine r_iadd (pc' := 42) X dX1_place_41 rfl ?_
  refine r_iload (pc' := 44) X dX1_place_42 4 rfl rfl ?_
  refine r_iconst (pc' := 45) X (-1 : Int32) dX1_place_44 (by decide) rfl ?_
  obtain ⟨content_5, hc6, hF⟩ := g_bd hF
  refine r_callSF (pc' := 48) (ws' := [oX1 a_h words depth allocated collections freed a_owner a_fieldCount a_dataCount a_pinned a_age a_content a_roots a_weaks a_movedTo a_reports, oI a_owner cI 200 owner, oI a_fieldCount cI 200 (upd fieldCount p1.toNatClampNeg p2), oI a_dataCount cI 200 (upd dataCount p1.toNatClampNeg p3), oI a_pinned cI 200 (upd pinned p1.toNatClampNeg (0 : Int32)), oI a_age cI 200 (upd age p1.toNatClampNeg (0 : Int32)), oI a_content cI 200 content_5]) (st' := []) X (mJ7_fill_fda19 D cI cZ cH a_content content 200 (p1 + (1 : Int32)) ((p1 + (1 : Int32)) + p2) (-1 : Int32) content_5 hc6) 4 gX1_place_J7_fill_fda19 rfl (by decide +kernel) rfl rfl ⟨Nat.le_of_ble_eq_true rfl, Nat.le_of_ble_eq_true rfl⟩ ⟨Nat.le_of_ble_eq_true rfl, Nat.le_of_ble_eq_true rfl⟩ rfl (Nat.le_of_ble_eq_true rfl) dX1_place_45 [6] rfl rfl rfl rfl rfl rfl ?_
  refine r_aload_n (pc' := 49) X dX1_place_48 rfl 0 rfl rfl ?_
  refine r_get (pc' := 52) X uX1_place_X1 0 10 dX1_place_49 rfl rfl (by decide) kX1_place_5 rfl rfl ?_
  refine r_iload (pc' := 54) X dX1_place_52 4 rfl rfl ?_
  refine r_iload (pc' := 56) X dX1_place_54 4 rfl rfl ?_
  refine r_iload_n (pc' := 57) X dX1_place_56 rfl 3 rfl rfl ?_
  refine r_iadd (pc' := 58) X dX1_place_57 rfl ?_
  refine r_iconst (pc' := 59) X (0 : Int32) dX1_place_58 (by decide) rfl ?_
  obtain ⟨content_7, hc8, hF⟩ := g_bd hF
  refine r_callSF (pc' := 62) (ws' := [oX1 a_h words depth allocated collections freed a_owner a_fieldCount a_dataCount a_pinned a_age a_content a_roots a_weaks a_movedTo a_reports, oI a_owner cI 200 owner, oI a_fieldCount cI 200 (upd fieldCount p1.toNatClampNeg p2), oI a_dataCount cI 200 (upd dataCount p1.toNatClampNeg p3), oI a_pinned cI 200 (upd pinned p1.toNatClampNeg (0 : Int32)), oI a_age cI 200 (upd age p1.toNatClampNeg (0 : Int32)), oI a_content cI 200 content_7]) (st' := []) X (mJ7_fill_fda19 D cI cZ cH a_content content_5 200 ((p1 + (1 : Int32)) + p2) (((p1 + (1 : Int32)) + p2) + p3) (0 : Int32) content_7 hc8) 4 gX1_place_J7_fill_fda19 rfl (by decide +kernel) rfl rfl ⟨Nat.le_of_ble_eq_true rfl, Nat.le_of_ble_eq_true rfl⟩ ⟨Nat.le_of_ble_eq_true rfl, Nat.le_of_ble_eq_true rfl⟩ rfl (Nat.le_of_ble_eq_true rfl) dX1_place_59 [6] rfl rfl rfl rfl rfl rfl ?_
  refine r_aload_n (pc' := 63) X dX1_place_62 rfl 0 rfl rfl ?_
  refine r_iload_n (pc' := 64) X dX1_place_63 rfl 1 rfl rfl ?_
  obtain ⟨owner_9, hc10, hF⟩ := g_bd hF
  refine r_callVF (pc' := 67) (ws' := [oX1 a_h words depth allocated collections freed a_owner a_fieldCount a_dataCount a_pinned a_age a_content a_roots a_weaks a_movedTo a_reports, oI a_owner cI 200 owner_9, oI a_fieldCount cI 200 (upd fieldCount p1.toNatClampNeg p2), oI a_dataCount cI 200 (upd dataCount p1.toNatClampNeg p3), oI a_pinned cI 200 (upd pinned p1.toNatClampNeg (0 : Int32)), oI a_age cI 200 (upd age p1.toNatClampNeg (0 : Int32)), oI a_content cI 200 content_7]) (st' := []) X (mX1_own D cI cZ cH a_h a_owner a_fieldCount a_dataCount a_pinned a_age a_content a_roots a_weaks a_movedTo a_reports words depth allocated collections freed owner (upd fieldCount p1.toNatClampNeg p2) (upd dataCount p1.toNatClampNeg p3) p1 owner_9 hc10) 1 gX1_place_X1_own rfl (by decide +kernel) rfl rfl ⟨Nat.le_of_ble_eq_true rfl, Nat.le_of_ble_eq_true rfl⟩ ⟨Nat.le_of_ble_eq_true rfl, Nat.le_of_ble_eq_true rfl⟩ rfl (Nat.le_of_ble_eq_true rfl) dX1_place_64 0 rfl rfl [0, 1, 2, 3] rfl rfl rfl rfl rfl rfl ?_
  refine r_aload_n (pc' := 68) X dX1_place_67 rfl 0 rfl rfl ?_
  refine r_dup (pc' := 69) X dX1_place_68 rfl rfl ?_
  refine r_get (pc' := 72) X uX1_place_X1 0 2 dX1_place_69 rfl rfl (by decide) kX1_place_6 rfl rfl ?_
  refine r_iconst (pc' := 73) X (1 : Int32) dX1_place_72 (by decide) rfl ?_
  refine r_iadd (pc' := 74) X dX1_place_73 rfl ?_
  refine r_put (pc' := 77) (ty := .int) (ws' := [oX1 a_h words depth (allocated + (1 : Int32)) collections freed a_owner a_fieldCount a_dataCount a_pinned a_age a_content a_roots a_weaks a_movedTo a_reports, oI a_owner cI 200 owner_9, oI a_fieldCount cI 200 (upd fieldCount p1.toNatClampNeg p2), oI a_dataCount cI 200 (upd dataCount p1.toNatClampNeg p3), oI a_pinned cI 200 (upd pinned p1.toNatClampNeg (0 : Int32)), oI a_age cI 200 (upd age p1.toNatClampNeg (0 : Int32)), oI a_content cI 200 content_7]) X uX1_place_X1 0 2 tyX1 tyX1_ok nmX1 dX1_place_74 rfl rfl (by decide) kX1_place_6 rfl (by decide +kernel) rfl rfl (Nat.le_of_ble_eq_true rfl) rfl rfl ?_
  cases hF
  exact RT.2.2 0 0 _ _ _ rfl dX1_place_77 ⟨rfl, rfl⟩ (Nat.le_refl 0) (Nat.le_refl 0)
theorem kX1_isAddress_1 : Cond.fieldLink RX1 42 "IslandHeap$Heap" "words" "I" ∈ wsX1_isAddress := List.mem_of_getElem? (i := 1) (by decide +kernel)
theorem uX1_isAddress_X1 : ∀ w ∈ u_ws RX1 TX1 15, w ∈ wsX1_isAddress := by decide +kernel
set_option maxHeartbeats 4000000 in
set_option maxRecDepth 100000 in
theorem mX1_isAddress (D : va_G) (cI cZ cH : ClassId) (a_h : Nat) (a_owner : Nat) (a_fieldCount : Nat) (a_dataCount : Nat) (a_pinned : Nat) (a_age : Nat) (a_content : Nat) (a_roots : Nat) (a_weaks : Nat) (a_movedTo : Nat) (a_reports : Nat) (words : Int32) (depth : Int32) (allocated : Int32) (collections : Int32) (freed : Int32) (p1 : Int32) (r0 : Int32) (hF : FX1_isAddress words p1 = some r0) : g_CM yX1_isAddress wsX1_isAddress ({ frames := 0, cells := 0, slots := 0, locals := 0 }) D cI cZ cH [.ref a_h, .int p1] [oX1 a_h words depth allocated collections freed a_owner a_fieldCount a_dataCount a_pinned a_age a_content a_roots a_weaks a_movedTo a_reports] 0 0 (g_Tm (some (.int r0)) [oX1 a_h words depth allocated collections freed a_owner a_fieldCount a_dataCount a_pinned a_age a_content a_roots a_weaks a_movedTo a_reports]) := by
  refine g_met (own := RX1) (mn := "isAddress") (cc := cX1_isAddress) (maxL := 2) (ret := (some .boolean)) rfl rfl (by decide +kernel) rfl (Nat.le_of_ble_eq_true rfl) (fun G X RT => ?_)
  show G 0 0 [oX1 a_h words depth allocated collections freed a_owner a_fieldCount a_dataCount a_pinned a_age a_content a_roots a_weaks a_movedTo a_reports] [(0, .ref a_h), (1, .int p1)] 0 []
  unfold FX1_isAddress at hF
  refine r_iload_n (pc' := 1) X dX1_isAddress_0 rfl 1 rfl rfl ?_
  refine r_if_lt (pc' := 4) X 16 dX1_isAddress_1 (by decide) rfl (fun c9 => ?_) (fun c9 => ?_)
  · replace hF := g_t c9 hF
    refine r_iconst (pc' := 17) X (0 : Int32) dX1_isAddress_16 (by decide) rfl ?_
    cases hF
    exact RT.1 0 0 _ _ _ _ .boolean rfl rfl dX1_isAddress_17 ⟨rfl, rfl⟩ (Nat.le_refl 0) (Nat.le_refl 0)
  · replace hF := g_f c9 hF
    refine r_iload_n (pc' := 5) X dX1_isAddress_4 rfl 1 rfl rfl ?_
    refine r_aload_n (pc' := 6) X dX1_isAddress_5 rfl 0 rfl rfl ?_
    refine r_get (pc' := 9) X uX1_isAddress_X1 0 0 dX1_isAddress_6 rfl rfl (by decide) kX1_isAddress_1 rfl rfl ?_
    refine r_icmp_ge (pc' := 12) X 16 dX1_isAddress_9 (by decide) rfl (fun c9 => ?_) (fun c9 => ?_)
    · replace hF := g_t c9 hF
      refine r_iconst (pc' := 17) X (0 : Int32) dX1_isAddress_16 (by decide) rfl ?_
      cases hF
      exact RT.1 0 0 _ _ _ _ .boolean rfl rfl dX1_isAddress_17 ⟨rfl, rfl⟩ (Nat.le_refl 0) (Nat.le_refl 0)
    · replace hF := g_f c9 hF
      refine r_iconst (pc' := 13) X (1 : Int32) dX1_isAddress_12 (by decide) rfl ?_
      refine r_goto X 17 dX1_isAddress_13 (by decide) ?_
      cases hF
      exact RT.1 0 0 _ _ _ _ .boolean rfl rfl dX1_isAddress_17 ⟨rfl, rfl⟩ (Nat.le_refl 0) (Nat.le_refl 0)
theorem kX1_objectAt_1 : Cond.fieldLink RX1 9 "IslandHeap$Heap" "owner" "[I" ∈ wsX1_objectAt := List.mem_of_getElem? (i := 1) (by decide +kernel)
theorem uX1_objectAt_X1 : ∀ w ∈ u_ws RX1 TX1 15, w ∈ wsX1_objectAt := by decide +kernel
set_option maxHeartbeats 4000000 in
set_option maxRecDepth 100000 in
theorem mX1_objectAt (D : va_G) (cI cZ cH : ClassId) (a_h : Nat) (a_owner : Nat) (a_fieldCount : Nat) (a_dataCount : Nat) (a_pinned : Nat) (a_age : Nat) (a_content : Nat) (a_roots : Nat) (a_weaks : Nat) (a_movedTo : Nat) (a_reports : Nat) (words : Int32) (depth : Int32) (allocated : Int32) (collections : Int32) (freed : Int32) (owner : Nat → Int32) (p1 : Int32) (r0 : Int32) (hF : FX1_objectAt words owner p1 = some r0) : g_CM yX1_objectAt wsX1_objectAt ({ frames := 1, cells := 0, slots := 0, locals := 21 }) D cI cZ cH [.ref a_h, .int p1] [oX1 a_h words depth allocated collections freed a_owner a_fieldCount a_dataCount a_pinned a_age a_content a_roots a_weaks a_movedTo a_reports, oI a_owner cI 200 owner] 0 0 (g_Tm (some (.int r0)) [oX1 a_h words depth allocated collections freed a_owner a_fieldCount a_dataCount a_pinned a_age a_content a_roots a_weaks a_movedTo a_reports, oI a_owner cI 200 owner]) := by
  refine g_met (own := RX1) (mn := "objectAt") (cc := cX1_objectAt) (maxL := 2) (ret := (some .int)) rfl rfl (by decide +kernel) rfl (Nat.le_of_ble_eq_true rfl) (fun G X RT => ?_)
  show G 0 0 [oX1 a_h words depth allocated collections freed a_owner a_fieldCount a_dataCount a_pinned a_age a_content a_roots a_weaks a_movedTo a_reports, oI a_owner cI 200 owner] [(0, .ref a_h), (1, .int p1)] 0 []
  unfold FX1_objectAt at hF
  refine r_aload_n (pc' := 1) X dX1_objectAt_0 rfl 0 rfl rfl ?_
  refine r_iload_n (pc' := 2) X dX1_objectAt_1 rfl 1 rfl rfl ?_
  obtain ⟨r1, hc2, hF⟩ := g_bd hF
  refine r_callVF (pc' := 5) (ws' := [oX1 a_h words depth allocated collections freed a_owner a_fieldCount a_dataCount a_pinned a_age a_content a_roots a_weaks a_movedTo a_reports, oI a_owner cI 200 owner]) (st' := [.int r1]) X (mX1_isAddress D cI cZ cH a_h a_owner a_fieldCount a_dataCount a_pinned a_age a_content a_roots a_weaks a_movedTo a_reports words depth allocated collections freed p1 r1 hc2) 1 gX1_objectAt_X1_isAddress rfl (by decide +kernel) rfl rfl ⟨Nat.le_of_ble_eq_true rfl, Nat.le_of_ble_eq_true rfl⟩ ⟨Nat.le_of_ble_eq_true rfl, Nat.le_of_ble_eq_true rfl⟩ rfl (Nat.le_of_ble_eq_true rfl) dX1_objectAt_2 0 rfl rfl [0] rfl rfl rfl rfl rfl rfl ?_
  refine r_if_eq (pc' := 8) X 17 dX1_objectAt_5 (by decide) rfl (fun c9 => ?_) (fun c9 => ?_)
  · replace hF := g_t c9 hF
    refine r_iconst (pc' := 18) X (-1 : Int32) dX1_objectAt_17 (by decide) rfl ?_
    cases hF
    exact RT.1 0 0 _ _ _ _ .int rfl rfl dX1_objectAt_18 ⟨rfl, rfl⟩ (Nat.le_refl 0) (Nat.le_refl 0)
  · replace hF := g_f c9 hF
    refine r_aload_n (pc' := 9) X dX1_objectAt_8 rfl 0 rfl rfl ?_
    refine r_get (pc' := 12) X uX1_objectAt_X1 0 5 dX1_objectAt_9 rfl rfl (by decide) kX1_objectAt_1 rfl rfl ?_
    refine r_iload_n (pc' := 13) X dX1_objectAt_12 rfl 1 rfl rfl ?_
    obtain ⟨hi3, hF⟩ := g_gt hF
    refine r_iald (pc' := 14) X 1 dX1_objectAt_13 rfl (g_vi hi3) rfl ?_
    refine r_goto X 18 dX1_objectAt_14 (by decide) ?_
    cases hF
    exact RT.1 0 0 _ _ _ _ .int rfl rfl dX1_objectAt_18 ⟨rfl, rfl⟩ (Nat.le_refl 0) (Nat.le_refl 0)
theorem kX1_isObject_1 : Cond.fieldLink RX1 9 "IslandHeap$Heap" "owner" "[I" ∈ wsX1_isObject := List.mem_of_getElem? (i := 1) (by decide +kernel)
theorem uX1_isObject_X1 : ∀ w ∈ u_ws RX1 TX1 15, w ∈ wsX1_isObject := by decide +kernel
set_option maxHeartbeats 4000000 in
set_option maxRecDepth 100000 in
theorem mX1_isObject (D : va_G) (cI cZ cH : ClassId) (a_h : Nat) (a_owner : Nat) (a_fieldCount : Nat) (a_dataCount : Nat) (a_pinned : Nat) (a_age : Nat) (a_content : Nat) (a_roots : Nat) (a_weaks : Nat) (a_movedTo : Nat) (a_reports : Nat) (words : Int32) (depth : Int32) (allocated : Int32) (collections : Int32) (freed : Int32) (owner : Nat → Int32) (p1 : Int32) (r0 : Int32) (hF : FX1_isObject words owner p1 = some r0) : g_CM yX1_isObject wsX1_isObject ({ frames := 1, cells := 0, slots := 0, locals := 21 }) D cI cZ cH [.ref a_h, .int p1] [oX1 a_h words depth allocated collections freed a_owner a_fieldCount a_dataCount a_pinned a_age a_content a_roots a_weaks a_movedTo a_reports, oI a_owner cI 200 owner] 0 0 (g_Tm (some (.int r0)) [oX1 a_h words depth allocated collections freed a_owner a_fieldCount a_dataCount a_pinned a_age a_content a_roots a_weaks a_movedTo a_reports, oI a_owner cI 200 owner]) := by
  refine g_met (own := RX1) (mn := "isObject") (cc := cX1_isObject) (maxL := 2) (ret := (some .boolean)) rfl rfl (by decide +kernel) rfl (Nat.le_of_ble_eq_true rfl) (fun G X RT => ?_)
  show G 0 0 [oX1 a_h words depth allocated collections freed a_owner a_fieldCount a_dataCount a_pinned a_age a_content a_roots a_weaks a_movedTo a_reports, oI a_owner cI 200 owner] [(0, .ref a_h), (1, .int p1)] 0 []
  unfold FX1_isObject at hF
  refine r_aload_n (pc' := 1) X dX1_isObject_0 rfl 0 rfl rfl ?_
  refine r_iload_n (pc' := 2) X dX1_isObject_1 rfl 1 rfl rfl ?_
  obtain ⟨r1, hc2, hF⟩ := g_bd hF
  refine r_callVF (pc' := 5) (ws' := [oX1 a_h words depth allocated collections freed a_owner a_fieldCount a_dataCount a_pinned a_age a_content a_roots a_weaks a_movedTo a_reports, oI a_owner cI 200 owner]) (st' := [.int r1]) X (mX1_isAddress D cI cZ cH a_h a_owner a_fieldCount a_dataCount a_pinned a_age a_content a_roots a_weaks a_movedTo a_reports words depth allocated collections freed p1 r1 hc2) 1 gX1_isObject_X1_isAddress rfl (by decide +kernel) rfl rfl ⟨Nat.le_of_ble_eq_true rfl, Nat.le_of_ble_eq_true rfl⟩ ⟨Nat.le_of_ble_eq_true rfl, Nat.le_of_ble_eq_true rfl⟩ rfl (Nat.le_of_ble_eq_true rfl) dX1_isObject_2 0 rfl rfl [0] rfl rfl rfl rfl rfl rfl ?_
  refine r_if_eq (pc' := 8) X 22 dX1_isObject_5 (by decide) rfl (fun c9 => ?_) (fun c9 => ?_)
  · replace hF := g_t c9 hF
    refine r_iconst (pc' := 23) X (0 : Int32) dX1_isObject_22 (by decide) rfl ?_
    cases hF
    exact RT.1 0 0 _ _ _ _ .boolean rfl rfl dX1_isObject_23 ⟨rfl, rfl⟩ (Nat.le_refl 0) (Nat.le_refl 0)
  · replace hF := g_f c9 hF
    refine r_aload_n (pc' := 9) X dX1_isObject_8 rfl 0 rfl rfl ?_
    refine r_get (pc' := 12) X uX1_isObject_X1 0 5 dX1_isObject_9 rfl rfl (by decide) kX1_isObject_1 rfl rfl ?_
    refine r_iload_n (pc' := 13) X dX1_isObject_12 rfl 1 rfl rfl ?_
    obtain ⟨hi3, hF⟩ := g_gt hF
    refine r_iald (pc' := 14) X 1 dX1_isObject_13 rfl (g_vi hi3) rfl ?_
    refine r_iload_n (pc' := 15) X dX1_isObject_14 rfl 1 rfl rfl ?_
    refine r_icmp_ne (pc' := 18) X 22 dX1_isObject_15 (by decide) rfl (fun c9 => ?_) (fun c9 => ?_)
    · replace hF := g_f c9 hF
      refine r_iconst (pc' := 23) X (0 : Int32) dX1_isObject_22 (by decide) rfl ?_
      cases hF
      exact RT.1 0 0 _ _ _ _ .boolean rfl rfl dX1_isObject_23 ⟨rfl, rfl⟩ (Nat.le_refl 0) (Nat.le_refl 0)
    · replace hF := g_t c9 hF
      refine r_iconst (pc' := 19) X (1 : Int32) dX1_isObject_18 (by decide) rfl ?_
      refine r_goto X 23 dX1_isObject_19 (by decide) ?_
      cases hF
      exact RT.1 0 0 _ _ _ _ .boolean rfl rfl dX1_isObject_23 ⟨rfl, rfl⟩ (Nat.le_refl 0) (Nat.le_refl 0)
theorem kX1_isPinned_1 : Cond.fieldLink RX1 21 "IslandHeap$Heap" "pinned" "[I" ∈ wsX1_isPinned := List.mem_of_getElem? (i := 1) (by decide +kernel)
theorem uX1_isPinned_X1 : ∀ w ∈ u_ws RX1 TX1 15, w ∈ wsX1_isPinned := by decide +kernel
set_option maxHeartbeats 4000000 in
set_option maxRecDepth 100000 in
theorem mX1_isPinned (D : va_G) (cI cZ cH : ClassId) (a_h : Nat) (a_owner : Nat) (a_pinned : Nat) (a_fieldCount : Nat) (a_dataCount : Nat) (a_age : Nat) (a_content : Nat) (a_roots : Nat) (a_weaks : Nat) (a_movedTo : Nat) (a_reports : Nat) (words : Int32) (depth : Int32) (allocated : Int32) (collections : Int32) (freed : Int32) (owner : Nat → Int32) (pinned : Nat → Int32) (p1 : Int32) (r0 : Int32) (hF : FX1_isPinned words owner pinned p1 = some r0) : g_CM yX1_isPinned wsX1_isPinned ({ frames := 2, cells := 0, slots := 0, locals := 42 }) D cI cZ cH [.ref a_h, .int p1] [oX1 a_h words depth allocated collections freed a_owner a_fieldCount a_dataCount a_pinned a_age a_content a_roots a_weaks a_movedTo a_reports, oI a_owner cI 200 owner, oI a_pinned cI 200 pinned] 0 0 (g_Tm (some (.int r0)) [oX1 a_h words depth allocated collections freed a_owner a_fieldCount a_dataCount a_pinned a_age a_content a_roots a_weaks a_movedTo a_reports, oI a_owner cI 200 owner, oI a_pinned cI 200 pinned]) := by
  refine g_met (own := RX1) (mn := "isPinned") (cc := cX1_isPinned) (maxL := 2) (ret := (some .boolean)) rfl rfl (by decide +kernel) rfl (Nat.le_of_ble_eq_true rfl) (fun G X RT => ?_)
  show G 0 0 [oX1 a_h words depth allocated collections freed a_owner a_fieldCount a_dataCount a_pinned a_age a_content a_roots a_weaks a_movedTo a_reports, oI a_owner cI 200 owner, oI a_pinned cI 200 pinned] [(0, .ref a_h), (1, .int p1)] 0 []
  unfold FX1_isPinned at hF
  refine r_aload_n (pc' := 1) X dX1_isPinned_0 rfl 0 rfl rfl ?_
  refine r_iload_n (pc' := 2) X dX1_isPinned_1 rfl 1 rfl rfl ?_
  obtain ⟨r1, hc2, hF⟩ := g_bd hF
  refine r_callVF (pc' := 5) (ws' := [oX1 a_h words depth allocated collections freed a_owner a_fieldCount a_dataCount a_pinned a_age a_content a_roots a_weaks a_movedTo a_reports, oI a_owner cI 200 owner, oI a_pinned cI 200 pinned]) (st' := [.int r1]) X (mX1_isObject D cI cZ cH a_h a_owner a_fieldCount a_dataCount a_pinned a_age a_content a_roots a_weaks a_movedTo a_reports words depth allocated collections freed owner p1 r1 hc2) 1 gX1_isPinned_X1_isObject rfl (by decide +kernel) rfl rfl ⟨Nat.le_of_ble_eq_true rfl, Nat.le_of_ble_eq_true rfl⟩ ⟨Nat.le_of_ble_eq_true rfl, Nat.le_of_ble_eq_true rfl⟩ rfl (Nat.le_of_ble_eq_true rfl) dX1_isPinned_2 0 rfl rfl [0, 1] rfl rfl rfl rfl rfl rfl ?_
  refine r_if_eq (pc' := 8) X 21 dX1_isPinned_5 (by decide) rfl (fun c9 => ?_) (fun c9 => ?_)
  · replace hF := g_t c9 hF
    refine r_iconst (pc' := 22) X (0 : Int32) dX1_isPinned_21 (by decide) rfl ?_
    cases hF
    exact RT.1 0 0 _ _ _ _ .boolean rfl rfl dX1_isPinned_22 ⟨rfl, rfl⟩ (Nat.le_refl 0) (Nat.le_refl 0)
  · replace hF := g_f c9 hF
    refine r_aload_n (pc' := 9) X dX1_isPinned_8 rfl 0 rfl rfl ?_
    refine r_get (pc' := 12) X uX1_isPinned_X1 0 8 dX1_isPinned_9 rfl rfl (by decide) kX1_isPinned_1 rfl rfl ?_
    refine r_iload_n (pc' := 13) X dX1_isPinned_12 rfl 1 rfl rfl ?_
    obtain ⟨hi3, hF⟩ := g_gt hF
    refine r_iald (pc' := 14) X 2 dX1_isPinned_13 rfl (g_vi hi3) rfl ?_
    refine r_if_eq (pc' := 17) X 21 dX1_isPinned_14 (by decide) rfl (fun c9 => ?_) (fun c9 => ?_)
    · replace hF := g_t c9 hF
      refine r_iconst (pc' := 22) X (0 : Int32) dX1_isPinned_21 (by decide) rfl ?_
      cases hF
      exact RT.1 0 0 _ _ _ _ .boolean rfl rfl dX1_isPinned_22 ⟨rfl, rfl⟩ (Nat.le_refl 0) (Nat.le_refl 0)
    · replace hF := g_f c9 hF
      refine r_iconst (pc' := 18) X (1 : Int32) dX1_isPinned_17 (by decide) rfl ?_
      refine r_goto X 22 dX1_isPinned_18 (by decide) ?_
      cases hF
      exact RT.1 0 0 _ _ _ _ .boolean rfl rfl dX1_isPinned_22 ⟨rfl, rfl⟩ (Nat.le_refl 0) (Nat.le_refl 0)
theorem kX1_objectFrom_1 : Cond.fieldLink RX1 42 "IslandHeap$Heap" "words" "I" ∈ wsX1_objectFrom := List.mem_of_getElem? (i := 1) (by decide +kernel)
theorem uX1_objectFrom_X1 : ∀ w ∈ u_ws RX1 TX1 15, w ∈ wsX1_objectFrom := by decide +kernel
set_option maxHeartbeats 4000000 in
set_option maxRecDepth 100000 in
theorem mX1_objectFrom (D : va_G) (cI cZ cH : ClassId) (a_h : Nat) (a_owner : Nat) (a_fieldCount : Nat) (a_dataCount : Nat) (a_pinned : Nat) (a_age : Nat) (a_content : Nat) (a_roots : Nat) (a_weaks : Nat) (a_movedTo : Nat) (a_reports : Nat) (words : Int32) (depth : Int32) (allocated : Int32) (collections : Int32) (freed : Int32) (owner : Nat → Int32) (p1 : Int32) (r0 : Int32) (hF : FX1_objectFrom words owner p1 = some r0) : g_CM yX1_objectFrom wsX1_objectFrom ({ frames := 2, cells := 0, slots := 0, locals := 42 }) D cI cZ cH [.ref a_h, .int p1] [oX1 a_h words depth allocated collections freed a_owner a_fieldCount a_dataCount a_pinned a_age a_content a_roots a_weaks a_movedTo a_reports, oI a_owner cI 200 owner] 0 0 (g_Tm (some (.int r0)) [oX1 a_h words depth allocated collections freed a_owner a_fieldCount a_dataCount a_pinned a_age a_content a_roots a_weaks a_movedTo a_reports, oI a_owner cI 200 owner]) := by
  refine g_met (own := RX1) (mn := "objectFrom") (cc := cX1_objectFrom) (maxL := 3) (ret := (some .int)) rfl rfl (by decide +kernel) rfl (Nat.le_of_ble_eq_true rfl) (fun G X RT => ?_)
  show G 0 0 [oX1 a_h words depth allocated collections freed a_owner a_fieldCount a_dataCount a_pinned a_age a_content a_roots a_weaks a_movedTo a_reports, oI a_owner cI 200 owner] [(0, .ref a_h), (1, .int p1)] 0 []
  unfold FX1_objectFrom at hF
  refine r_iload_n (pc' := 1) X dX1_objectFrom_0 rfl 1 rfl rfl ?_
  refine r_istore_n (pc' := 2) (lv' := [(0, .ref a_h), (1, .int p1), (2, .int p1)]) X dX1_objectFrom_1 rfl (by decide) [1, 2, 0] rfl rfl ?_
  have hL2 : ∀ (fu : Nat) (v2_1 : Int32), g_itn (FX1_objectFrom_L2 words owner) fu v2_1 = some r0 → G 0 0 [oX1 a_h words depth allocated collections freed a_owner a_fieldCount a_dataCount a_pinned a_age a_content a_roots a_weaks a_movedTo a_reports, oI a_owner cI 200 owner] [(0, .ref a_h), (2, .int v2_1)] 2 [] := by
    intro fu
    induction fu with
    | zero => intro v2_1 h9; exact (g_it0 h9).elim
    | succ fu ih =>
      intro v2_1 h9
      obtain ⟨y2, hF, hI2⟩ := g_its h9
      unfold FX1_objectFrom_L2 at hF
      refine r_iload_n (pc' := 3) X dX1_objectFrom_2 rfl 1 rfl rfl ?_
      refine r_aload_n (pc' := 4) X dX1_objectFrom_3 rfl 0 rfl rfl ?_
      refine r_get (pc' := 7) X uX1_objectFrom_X1 0 0 dX1_objectFrom_4 rfl rfl (by decide) kX1_objectFrom_1 rfl rfl ?_
      refine r_icmp_ge (pc' := 10) X 26 dX1_objectFrom_7 (by decide) rfl (fun c9 => ?_) (fun c9 => ?_)
      · replace hF := g_t c9 hF
        refine r_iconst (pc' := 27) X (-1 : Int32) dX1_objectFrom_26 (by decide) rfl ?_
        cases hF
        replace hF := congrArg some hI2
        cases hF
        exact RT.1 0 0 _ _ _ _ .int rfl rfl dX1_objectFrom_27 ⟨rfl, rfl⟩ (Nat.le_refl 0) (Nat.le_refl 0)
      · replace hF := g_f c9 hF
        refine r_aload_n (pc' := 11) X dX1_objectFrom_10 rfl 0 rfl rfl ?_
        refine r_iload_n (pc' := 12) X dX1_objectFrom_11 rfl 1 rfl rfl ?_
        obtain ⟨r2, hc3, hF⟩ := g_bd hF
        refine r_callVF (pc' := 15) (ws' := [oX1 a_h words depth allocated collections freed a_owner a_fieldCount a_dataCount a_pinned a_age a_content a_roots a_weaks a_movedTo a_reports, oI a_owner cI 200 owner]) (st' := [.int r2]) X (mX1_isObject D cI cZ cH a_h a_owner a_fieldCount a_dataCount a_pinned a_age a_content a_roots a_weaks a_movedTo a_reports words depth allocated collections freed owner v2_1 r2 hc3) 1 gX1_objectFrom_X1_isObject rfl (by decide +kernel) rfl rfl ⟨Nat.le_of_ble_eq_true rfl, Nat.le_of_ble_eq_true rfl⟩ ⟨Nat.le_of_ble_eq_true rfl, Nat.le_of_ble_eq_true rfl⟩ rfl (Nat.le_of_ble_eq_true rfl) dX1_objectFrom_12 0 rfl rfl [0, 1] rfl rfl rfl rfl rfl rfl ?_
        refine r_if_eq (pc' := 18) X 20 dX1_objectFrom_15 (by decide) rfl (fun c9 => ?_) (fun c9 => ?_)
        · replace hF := g_t c9 hF
          refine r_iinc (pc' := 23) (lv' := [(0, .ref a_h), (2, .int (v2_1 + (1 : Int32)))]) X (v2_1 + (1 : Int32)) dX1_objectFrom_20 1 rfl (congrArg (fun z => v2_1 + z) (by decide)) (by decide) [1, 0] rfl rfl ?_
          refine r_goto X 2 dX1_objectFrom_23 (by decide) ?_
          cases hF
          exact ih (v2_1 + (1 : Int32)) hI2
        · replace hF := g_f c9 hF
          refine r_iload_n (pc' := 19) X dX1_objectFrom_18 rfl 1 rfl rfl ?_
          cases hF
          replace hF := congrArg some hI2
          cases hF
          exact RT.1 0 0 _ _ _ _ .int rfl rfl dX1_objectFrom_19 ⟨rfl, rfl⟩ (Nat.le_refl 0) (Nat.le_refl 0)
  refine r_sub (lv' := [(0, .ref a_h), (2, .int p1)]) X [0, 2] rfl ?_
  exact hL2 g_fuel p1 hF
set_option maxHeartbeats 4000000 in
set_option maxRecDepth 100000 in
theorem mX1_isReference (D : va_G) (cI cZ cH : ClassId) (a_h : Nat) (a_owner : Nat) (a_fieldCount : Nat) (a_dataCount : Nat) (a_pinned : Nat) (a_age : Nat) (a_content : Nat) (a_roots : Nat) (a_weaks : Nat) (a_movedTo : Nat) (a_reports : Nat) (words : Int32) (depth : Int32) (allocated : Int32) (collections : Int32) (freed : Int32) (owner : Nat → Int32) (p1 : Int32) (r0 : Int32) (hF : FX1_isReference words owner p1 = some r0) : g_CM yX1_isReference wsX1_isReference ({ frames := 2, cells := 0, slots := 0, locals := 42 }) D cI cZ cH [.ref a_h, .int p1] [oX1 a_h words depth allocated collections freed a_owner a_fieldCount a_dataCount a_pinned a_age a_content a_roots a_weaks a_movedTo a_reports, oI a_owner cI 200 owner] 0 0 (g_Tm (some (.int r0)) [oX1 a_h words depth allocated collections freed a_owner a_fieldCount a_dataCount a_pinned a_age a_content a_roots a_weaks a_movedTo a_reports, oI a_owner cI 200 owner]) := by
  refine g_met (own := RX1) (mn := "isReference") (cc := cX1_isReference) (maxL := 2) (ret := (some .boolean)) rfl rfl (by decide +kernel) rfl (Nat.le_of_ble_eq_true rfl) (fun G X RT => ?_)
  show G 0 0 [oX1 a_h words depth allocated collections freed a_owner a_fieldCount a_dataCount a_pinned a_age a_content a_roots a_weaks a_movedTo a_reports, oI a_owner cI 200 owner] [(0, .ref a_h), (1, .int p1)] 0 []
  unfold FX1_isReference at hF
  refine r_iload_n (pc' := 1) X dX1_isReference_0 rfl 1 rfl rfl ?_
  refine r_iconst (pc' := 2) X (-1 : Int32) dX1_isReference_1 (by decide) rfl ?_
  refine r_icmp_eq (pc' := 5) X 14 dX1_isReference_2 (by decide) rfl (fun c9 => ?_) (fun c9 => ?_)
  · replace hF := g_t c9 hF
    refine r_iconst (pc' := 15) X (1 : Int32) dX1_isReference_14 (by decide) rfl ?_
    refine r_goto X 19 dX1_isReference_15 (by decide) ?_
    cases hF
    exact RT.1 0 0 _ _ _ _ .boolean rfl rfl dX1_isReference_19 ⟨rfl, rfl⟩ (Nat.le_refl 0) (Nat.le_refl 0)
  · replace hF := g_f c9 hF
    refine r_aload_n (pc' := 6) X dX1_isReference_5 rfl 0 rfl rfl ?_
    refine r_iload_n (pc' := 7) X dX1_isReference_6 rfl 1 rfl rfl ?_
    obtain ⟨r1, hc2, hF⟩ := g_bd hF
    refine r_callVF (pc' := 10) (ws' := [oX1 a_h words depth allocated collections freed a_owner a_fieldCount a_dataCount a_pinned a_age a_content a_roots a_weaks a_movedTo a_reports, oI a_owner cI 200 owner]) (st' := [.int r1]) X (mX1_objectAt D cI cZ cH a_h a_owner a_fieldCount a_dataCount a_pinned a_age a_content a_roots a_weaks a_movedTo a_reports words depth allocated collections freed owner p1 r1 hc2) 1 gX1_isReference_X1_objectAt rfl (by decide +kernel) rfl rfl ⟨Nat.le_of_ble_eq_true rfl, Nat.le_of_ble_eq_true rfl⟩ ⟨Nat.le_of_ble_eq_true rfl, Nat.le_of_ble_eq_true rfl⟩ rfl (Nat.le_of_ble_eq_true rfl) dX1_isReference_7 0 rfl rfl [0, 1] rfl rfl rfl rfl rfl rfl ?_
    refine r_iconst (pc' := 11) X (-1 : Int32) dX1_isReference_10 (by decide) rfl ?_
    refine r_icmp_eq (pc' := 14) X 18 dX1_isReference_11 (by decide) rfl (fun c9 => ?_) (fun c9 => ?_)
    · replace hF := g_t c9 hF
      refine r_iconst (pc' := 19) X (0 : Int32) dX1_isReference_18 (by decide) rfl ?_
      cases hF
      exact RT.1 0 0 _ _ _ _ .boolean rfl rfl dX1_isReference_19 ⟨rfl, rfl⟩ (Nat.le_refl 0) (Nat.le_refl 0)
    · replace hF := g_f c9 hF
      refine r_iconst (pc' := 15) X (1 : Int32) dX1_isReference_14 (by decide) rfl ?_
      refine r_goto X 19 dX1_isReference_15 (by decide) ?_
      cases hF
      exact RT.1 0 0 _ _ _ _ .boolean rfl rfl dX1_isReference_19 ⟨rfl, rfl⟩ (Nat.le_refl 0) (Nat.le_refl 0)
theorem kX1_pinnedCount_1 : Cond.fieldLink RX1 42 "IslandHeap$Heap" "words" "I" ∈ wsX1_pinnedCount := List.mem_of_getElem? (i := 1) (by decide +kernel)
theorem uX1_pinnedCount_X1 : ∀ w ∈ u_ws RX1 TX1 15, w ∈ wsX1_pinnedCount := by decide +kernel
set_option maxHeartbeats 4000000 in
set_option maxRecDepth 100000 in
theorem mX1_pinnedCount (D : va_G) (cI cZ cH : ClassId) (a_h : Nat) (a_owner : Nat) (a_pinned : Nat) (a_fieldCount : Nat) (a_dataCount : Nat) (a_age : Nat) (a_content : Nat) (a_roots : Nat) (a_weaks : Nat) (a_movedTo : Nat) (a_reports : Nat) (words : Int32) (depth : Int32) (allocated : Int32) (collections : Int32) (freed : Int32) (owner : Nat → Int32) (pinned : Nat → Int32) (r0 : Int32) (hF : FX1_pinnedCount words owner pinned = some r0) : g_CM yX1_pinnedCount wsX1_pinnedCount ({ frames := 3, cells := 0, slots := 0, locals := 63 }) D cI cZ cH [.ref a_h] [oX1 a_h words depth allocated collections freed a_owner a_fieldCount a_dataCount a_pinned a_age a_content a_roots a_weaks a_movedTo a_reports, oI a_owner cI 200 owner, oI a_pinned cI 200 pinned] 0 0 (g_Tm (some (.int r0)) [oX1 a_h words depth allocated collections freed a_owner a_fieldCount a_dataCount a_pinned a_age a_content a_roots a_weaks a_movedTo a_reports, oI a_owner cI 200 owner, oI a_pinned cI 200 pinned]) := by
  refine g_met (own := RX1) (mn := "pinnedCount") (cc := cX1_pinnedCount) (maxL := 3) (ret := (some .int)) rfl rfl (by decide +kernel) rfl (Nat.le_of_ble_eq_true rfl) (fun G X RT => ?_)
  show G 0 0 [oX1 a_h words depth allocated collections freed a_owner a_fieldCount a_dataCount a_pinned a_age a_content a_roots a_weaks a_movedTo a_reports, oI a_owner cI 200 owner, oI a_pinned cI 200 pinned] [(0, .ref a_h)] 0 []
  unfold FX1_pinnedCount at hF
  refine r_iconst (pc' := 1) X (0 : Int32) dX1_pinnedCount_0 (by decide) rfl ?_
  refine r_istore_n (pc' := 2) (lv' := [(0, .ref a_h), (1, .int (0 : Int32))]) X dX1_pinnedCount_1 rfl (by decide) [1, 0] rfl rfl ?_
  refine r_iconst (pc' := 3) X (0 : Int32) dX1_pinnedCount_2 (by decide) rfl ?_
  refine r_istore_n (pc' := 4) (lv' := [(0, .ref a_h), (1, .int (0 : Int32)), (2, .int (0 : Int32))]) X dX1_pinnedCount_3 rfl (by decide) [1, 2, 0] rfl rfl ?_
  obtain ⟨ex4, hR, hF⟩ := g_bd hF
  have hE4 : ∀ (v1_3 : Int32), v1_3 = ex4 → G 0 0 [oX1 a_h words depth allocated collections freed a_owner a_fieldCount a_dataCount a_pinned a_age a_content a_roots a_weaks a_movedTo a_reports, oI a_owner cI 200 owner, oI a_pinned cI 200 pinned] [(1, .int v1_3)] 29 [] := by
    intro v1_3 hx; subst hx
    refine r_iload_n (pc' := 30) X dX1_pinnedCount_29 rfl 0 rfl rfl ?_
    cases hF
    exact RT.1 0 0 _ _ _ _ .int rfl rfl dX1_pinnedCount_30 ⟨rfl, rfl⟩ (Nat.le_refl 0) (Nat.le_refl 0)
  have hL4 : ∀ (fu : Nat) (v1_1 : Int32) (v2_2 : Int32), g_itn (FX1_pinnedCount_L4 words owner pinned) fu (v1_1, v2_2) = some ex4 → G 0 0 [oX1 a_h words depth allocated collections freed a_owner a_fieldCount a_dataCount a_pinned a_age a_content a_roots a_weaks a_movedTo a_reports, oI a_owner cI 200 owner, oI a_pinned cI 200 pinned] [(0, .ref a_h), (1, .int v1_1), (2, .int v2_2)] 4 [] := by
    intro fu
    induction fu with
    | zero => intro v1_1 v2_2 h9; exact (g_it0 h9).elim
    | succ fu ih =>
      intro v1_1 v2_2 h9
      obtain ⟨y4, hF, hI4⟩ := g_its h9
      unfold FX1_pinnedCount_L4 at hF
      refine r_iload_n (pc' := 5) X dX1_pinnedCount_4 rfl 2 rfl rfl ?_
      refine r_aload_n (pc' := 6) X dX1_pinnedCount_5 rfl 0 rfl rfl ?_
      refine r_get (pc' := 9) X uX1_pinnedCount_X1 0 0 dX1_pinnedCount_6 rfl rfl (by decide) kX1_pinnedCount_1 rfl rfl ?_
      refine r_icmp_ge (pc' := 12) X 29 dX1_pinnedCount_9 (by decide) rfl (fun c9 => ?_) (fun c9 => ?_)
      · replace hF := g_t c9 hF
        cases hF
        refine r_sub (lv' := [(1, .int v1_1)]) X [1] rfl ?_
        exact hE4 v1_1 hI4
      · replace hF := g_f c9 hF
        refine r_aload_n (pc' := 13) X dX1_pinnedCount_12 rfl 0 rfl rfl ?_
        refine r_iload_n (pc' := 14) X dX1_pinnedCount_13 rfl 2 rfl rfl ?_
        obtain ⟨r4, hc5, hF⟩ := g_bd hF
        refine r_callVF (pc' := 17) (ws' := [oX1 a_h words depth allocated collections freed a_owner a_fieldCount a_dataCount a_pinned a_age a_content a_roots a_weaks a_movedTo a_reports, oI a_owner cI 200 owner, oI a_pinned cI 200 pinned]) (st' := [.int r4]) X (mX1_isPinned D cI cZ cH a_h a_owner a_pinned a_fieldCount a_dataCount a_age a_content a_roots a_weaks a_movedTo a_reports words depth allocated collections freed owner pinned v2_2 r4 hc5) 1 gX1_pinnedCount_X1_isPinned rfl (by decide +kernel) rfl rfl ⟨Nat.le_of_ble_eq_true rfl, Nat.le_of_ble_eq_true rfl⟩ ⟨Nat.le_of_ble_eq_true rfl, Nat.le_of_ble_eq_true rfl⟩ rfl (Nat.le_of_ble_eq_true rfl) dX1_pinnedCount_14 0 rfl rfl [0, 1, 2] rfl rfl rfl rfl rfl rfl ?_
        obtain ⟨exJ7, hR, hF⟩ := g_bd hF
        have hJ7 : ∀ (v1_6 : Int32), v1_6 = exJ7 → G 0 0 [oX1 a_h words depth allocated collections freed a_owner a_fieldCount a_dataCount a_pinned a_age a_content a_roots a_weaks a_movedTo a_reports, oI a_owner cI 200 owner, oI a_pinned cI 200 pinned] [(0, .ref a_h), (1, .int v1_6), (2, .int v2_2)] 23 [] := by
          intro v1_6 hx; subst hx
          refine r_iinc (pc' := 26) (lv' := [(0, .ref a_h), (1, .int v1_6), (2, .int (v2_2 + (1 : Int32)))]) X (v2_2 + (1 : Int32)) dX1_pinnedCount_23 2 rfl (congrArg (fun z => v2_2 + z) (by decide)) (by decide) [1, 2, 0] rfl rfl ?_
          refine r_goto X 4 dX1_pinnedCount_26 (by decide) ?_
          cases hF
          exact ih v1_6 (v2_2 + (1 : Int32)) hI4
        replace hF := hR
        refine r_if_eq (pc' := 20) X 23 dX1_pinnedCount_17 (by decide) rfl (fun c9 => ?_) (fun c9 => ?_)
        · replace hF := g_t c9 hF
          exact hJ7 v1_1 (Option.some.inj hF)
        · replace hF := g_f c9 hF
          refine r_iinc (pc' := 23) (lv' := [(0, .ref a_h), (1, .int (v1_1 + (1 : Int32))), (2, .int v2_2)]) X (v1_1 + (1 : Int32)) dX1_pinnedCount_20 1 rfl (congrArg (fun z => v1_1 + z) (by decide)) (by decide) [1, 0, 2] rfl rfl ?_
          exact hJ7 (v1_1 + (1 : Int32)) (Option.some.inj hF)
  exact hL4 g_fuel (0 : Int32) (0 : Int32) hR
theorem kX1_usedWords_1 : Cond.fieldLink RX1 42 "IslandHeap$Heap" "words" "I" ∈ wsX1_usedWords := List.mem_of_getElem? (i := 1) (by decide +kernel)
theorem kX1_usedWords_2 : Cond.fieldLink RX1 9 "IslandHeap$Heap" "owner" "[I" ∈ wsX1_usedWords := List.mem_of_getElem? (i := 2) (by decide +kernel)
theorem uX1_usedWords_X1 : ∀ w ∈ u_ws RX1 TX1 15, w ∈ wsX1_usedWords := by decide +kernel
set_option maxHeartbeats 4000000 in
set_option maxRecDepth 100000 in
theorem mX1_usedWords (D : va_G) (cI cZ cH : ClassId) (a_h : Nat) (a_owner : Nat) (a_fieldCount : Nat) (a_dataCount : Nat) (a_pinned : Nat) (a_age : Nat) (a_content : Nat) (a_roots : Nat) (a_weaks : Nat) (a_movedTo : Nat) (a_reports : Nat) (words : Int32) (depth : Int32) (allocated : Int32) (collections : Int32) (freed : Int32) (owner : Nat → Int32) (r0 : Int32) (hF : FX1_usedWords words owner = some r0) : g_CM yX1_usedWords wsX1_usedWords ({ frames := 0, cells := 0, slots := 0, locals := 0 }) D cI cZ cH [.ref a_h] [oX1 a_h words depth allocated collections freed a_owner a_fieldCount a_dataCount a_pinned a_age a_content a_roots a_weaks a_movedTo a_reports, oI a_owner cI 200 owner] 0 0 (g_Tm (some (.int r0)) [oX1 a_h words depth allocated collections freed a_owner a_fieldCount a_dataCount a_pinned a_age a_content a_roots a_weaks a_movedTo a_reports, oI a_owner cI 200 owner]) := by
  refine g_met (own := RX1) (mn := "usedWords") (cc := cX1_usedWords) (maxL := 3) (ret := (some .int)) rfl rfl (by decide +kernel) rfl (Nat.le_of_ble_eq_true rfl) (fun G X RT => ?_)
  show G 0 0 [oX1 a_h words depth allocated collections freed a_owner a_fieldCount a_dataCount a_pinned a_age a_content a_roots a_weaks a_movedTo a_reports, oI a_owner cI 200 owner] [(0, .ref a_h)] 0 []
  unfold FX1_usedWords at hF
  refine r_iconst (pc' := 1) X (0 : Int32) dX1_usedWords_0 (by decide) rfl ?_
  refine r_istore_n (pc' := 2) (lv' := [(0, .ref a_h), (1, .int (0 : Int32))]) X dX1_usedWords_1 rfl (by decide) [1, 0] rfl rfl ?_
  refine r_iconst (pc' := 3) X (0 : Int32) dX1_usedWords_2 (by decide) rfl ?_
  refine r_istore_n (pc' := 4) (lv' := [(0, .ref a_h), (1, .int (0 : Int32)), (2, .int (0 : Int32))]) X dX1_usedWords_3 rfl (by decide) [1, 2, 0] rfl rfl ?_
  obtain ⟨ex4, hR, hF⟩ := g_bd hF
  have hE4 : ∀ (v1_3 : Int32), v1_3 = ex4 → G 0 0 [oX1 a_h words depth allocated collections freed a_owner a_fieldCount a_dataCount a_pinned a_age a_content a_roots a_weaks a_movedTo a_reports, oI a_owner cI 200 owner] [(1, .int v1_3)] 31 [] := by
    intro v1_3 hx; subst hx
    refine r_iload_n (pc' := 32) X dX1_usedWords_31 rfl 0 rfl rfl ?_
    cases hF
    exact RT.1 0 0 _ _ _ _ .int rfl rfl dX1_usedWords_32 ⟨rfl, rfl⟩ (Nat.le_refl 0) (Nat.le_refl 0)
  have hL4 : ∀ (fu : Nat) (v1_1 : Int32) (v2_2 : Int32), g_itn (FX1_usedWords_L4 words owner) fu (v1_1, v2_2) = some ex4 → G 0 0 [oX1 a_h words depth allocated collections freed a_owner a_fieldCount a_dataCount a_pinned a_age a_content a_roots a_weaks a_movedTo a_reports, oI a_owner cI 200 owner] [(0, .ref a_h), (1, .int v1_1), (2, .int v2_2)] 4 [] := by
    intro fu
    induction fu with
    | zero => intro v1_1 v2_2 h9; exact (g_it0 h9).elim
    | succ fu ih =>
      intro v1_1 v2_2 h9
      obtain ⟨y4, hF, hI4⟩ := g_its h9
      unfold FX1_usedWords_L4 at hF
      refine r_iload_n (pc' := 5) X dX1_usedWords_4 rfl 2 rfl rfl ?_
      refine r_aload_n (pc' := 6) X dX1_usedWords_5 rfl 0 rfl rfl ?_
      refine r_get (pc' := 9) X uX1_usedWords_X1 0 0 dX1_usedWords_6 rfl rfl (by decide) kX1_usedWords_1 rfl rfl ?_
      refine r_icmp_ge (pc' := 12) X 31 dX1_usedWords_9 (by decide) rfl (fun c9 => ?_) (fun c9 => ?_)
      · replace hF := g_t c9 hF
        cases hF
        refine r_sub (lv' := [(1, .int v1_1)]) X [1] rfl ?_
        exact hE4 v1_1 hI4
      · replace hF := g_f c9 hF
        refine r_aload_n (pc' := 13) X dX1_usedWords_12 rfl 0 rfl rfl ?_
        refine r_get (pc' := 16) X uX1_usedWords_X1 0 5 dX1_usedWords_13 rfl rfl (by decide) kX1_usedWords_2 rfl rfl ?_
        refine r_iload_n (pc' := 17) X dX1_usedWords_16 rfl 2 rfl rfl ?_
        obtain ⟨hi4, hF⟩ := g_gt hF
        refine r_iald (pc' := 18) X 1 dX1_usedWords_17 rfl (g_vi hi4) rfl ?_
        refine r_iconst (pc' := 19) X (-1 : Int32) dX1_usedWords_18 (by decide) rfl ?_
        obtain ⟨exJ6, hR, hF⟩ := g_bd hF
        have hJ6 : ∀ (v1_5 : Int32), v1_5 = exJ6 → G 0 0 [oX1 a_h words depth allocated collections freed a_owner a_fieldCount a_dataCount a_pinned a_age a_content a_roots a_weaks a_movedTo a_reports, oI a_owner cI 200 owner] [(0, .ref a_h), (1, .int v1_5), (2, .int v2_2)] 25 [] := by
          intro v1_5 hx; subst hx
          refine r_iinc (pc' := 28) (lv' := [(0, .ref a_h), (1, .int v1_5), (2, .int (v2_2 + (1 : Int32)))]) X (v2_2 + (1 : Int32)) dX1_usedWords_25 2 rfl (congrArg (fun z => v2_2 + z) (by decide)) (by decide) [1, 2, 0] rfl rfl ?_
          refine r_goto X 4 dX1_usedWords_28 (by decide) ?_
          cases hF
          exact ih v1_5 (v2_2 + (1 : Int32)) hI4
        replace hF := hR
        refine r_icmp_eq (pc' := 22) X 25 dX1_usedWords_19 (by decide) rfl (fun c9 => ?_) (fun c9 => ?_)
        · replace hF := g_t c9 hF
          exact hJ6 v1_1 (Option.some.inj hF)
        · replace hF := g_f c9 hF
          refine r_iinc (pc' := 25) (lv' := [(0, .ref a_h), (1, .int (v1_1 + (1 : Int32))), (2, .int v2_2)]) X (v1_1 + (1 : Int32)) dX1_usedWords_22 1 rfl (congrArg (fun z => v1_1 + z) (by decide)) (by decide) [1, 0, 2] rfl rfl ?_
          exact hJ6 (v1_1 + (1 : Int32)) (Option.some.inj hF)
  exact hL4 g_fuel (0 : Int32) (0 : Int32) hR
theorem kX1_shift_1 : Cond.fieldLink RX1 15 "IslandHeap$Heap" "fieldCount" "[I" ∈ wsX1_shift := List.mem_of_getElem? (i := 1) (by decide +kernel)
theorem kX1_shift_2 : Cond.fieldLink RX1 18 "IslandHeap$Heap" "dataCount" "[I" ∈ wsX1_shift := List.mem_of_getElem? (i := 2) (by decide +kernel)
theorem kX1_shift_3 : Cond.fieldLink RX1 21 "IslandHeap$Heap" "pinned" "[I" ∈ wsX1_shift := List.mem_of_getElem? (i := 3) (by decide +kernel)
theorem kX1_shift_4 : Cond.fieldLink RX1 24 "IslandHeap$Heap" "age" "[I" ∈ wsX1_shift := List.mem_of_getElem? (i := 4) (by decide +kernel)
theorem kX1_shift_5 : Cond.fieldLink RX1 27 "IslandHeap$Heap" "content" "[I" ∈ wsX1_shift := List.mem_of_getElem? (i := 5) (by decide +kernel)
theorem kX1_shift_6 : Cond.methodLink RX1 64 arraycopyName ∈ wsX1_shift := List.mem_of_getElem? (i := 6) (by decide +kernel)
theorem kX1_shift_7 : Cond.native arraycopyName ∈ wsX1_shift := List.mem_of_getElem? (i := 7) (by decide +kernel)
theorem kX1_shift_8 : Cond.static arraycopyName ∈ wsX1_shift := List.mem_of_getElem? (i := 8) (by decide +kernel)
theorem kX1_shift_9 : Cond.initialized "java/lang/System" ∈ wsX1_shift := List.mem_of_getElem? (i := 9) (by decide +kernel)
theorem uX1_shift_X1 : ∀ w ∈ u_ws RX1 TX1 15, w ∈ wsX1_shift := by decide +kernel
set_option maxHeartbeats 4000000 in
set_option maxRecDepth 100000 in
theorem mX1_shift (D : va_G) (cI cZ cH : ClassId) (a_h : Nat) (a_owner : Nat) (a_fieldCount : Nat) (a_dataCount : Nat) (a_pinned : Nat) (a_age : Nat) (a_content : Nat) (a_roots : Nat) (a_weaks : Nat) (a_movedTo : Nat) (a_reports : Nat) (words : Int32) (depth : Int32) (allocated : Int32) (collections : Int32) (freed : Int32) (owner : Nat → Int32) (fieldCount : Nat → Int32) (dataCount : Nat → Int32) (pinned : Nat → Int32) (age : Nat → Int32) (content : Nat → Int32) (p1 : Int32) (p2 : Int32) (w_owner : Nat → Int32) (w_fieldCount : Nat → Int32) (w_dataCount : Nat → Int32) (w_pinned : Nat → Int32) (w_age : Nat → Int32) (w_content : Nat → Int32) (hF : FX1_shift owner fieldCount dataCount pinned age content p1 p2 = some (w_owner, w_fieldCount, w_dataCount, w_pinned, w_age, w_content)) : g_CM yX1_shift wsX1_shift ({ frames := 3, cells := 0, slots := 0, locals := 67 }) D cI cZ cH [.ref a_h, .int p1, .int p2] [oX1 a_h words depth allocated collections freed a_owner a_fieldCount a_dataCount a_pinned a_age a_content a_roots a_weaks a_movedTo a_reports, oI a_owner cI 200 owner, oI a_fieldCount cI 200 fieldCount, oI a_dataCount cI 200 dataCount, oI a_pinned cI 200 pinned, oI a_age cI 200 age, oI a_content cI 200 content] 0 0 (g_Tm (none) [oX1 a_h words depth allocated collections freed a_owner a_fieldCount a_dataCount a_pinned a_age a_content a_roots a_weaks a_movedTo a_reports, oI a_owner cI 200 w_owner, oI a_fieldCount cI 200 w_fieldCount, oI a_dataCount cI 200 w_dataCount, oI a_pinned cI 200 w_pinned, oI a_age cI 200 w_age, oI a_content cI 200 w_content]) := by
  refine g_met (own := RX1) (mn := "shift") (cc := cX1_shift) (maxL := 3) (ret := none) rfl rfl (by decide +kernel) rfl (Nat.le_of_ble_eq_true rfl) (fun G X RT => ?_)
  show G 0 0 [oX1 a_h words depth allocated collections freed a_owner a_fieldCount a_dataCount a_pinned a_age a_content a_roots a_weaks a_movedTo a_reports, oI a_owner cI 200 owner, oI a_fieldCount cI 200 fieldCount, oI a_dataCount cI 200 dataCount, oI a_pinned cI 200 pinned, oI a_age cI 200 age, oI a_content cI 200 content] [(0, .ref a_h), (1, .int p1), (2, .int p2)] 0 []
  unfold FX1_shift at hF
  refine r_aload_n (pc' := 1) X dX1_shift_0 rfl 0 rfl rfl ?_
  refine r_get (pc' := 4) X uX1_shift_X1 0 6 dX1_shift_1 rfl rfl (by decide) kX1_shift_1 rfl rfl ?_
  refine r_iload_n (pc' := 5) X dX1_shift_4 rfl 2 rfl rfl ?_
  refine r_aload_n (pc' := 6) X dX1_shift_5 rfl 0 rfl rfl ?_
  refine r_get (pc' := 9) X uX1_shift_X1 0 6 dX1_shift_6 rfl rfl (by decide) kX1_shift_1 rfl rfl ?_
  refine r_iload_n (pc' := 10) X dX1_shift_9 rfl 1 rfl rfl ?_
  obtain ⟨hi1, hF⟩ := g_gt hF
  refine r_iald (pc' := 11) X 2 dX1_shift_10 rfl (g_vi hi1) rfl ?_
  obtain ⟨hi2, hF⟩ := g_gt hF
  refine r_iast (pc' := 12) (ws' := [oX1 a_h words depth allocated collections freed a_owner a_fieldCount a_dataCount a_pinned a_age a_content a_roots a_weaks a_movedTo a_reports, oI a_owner cI 200 owner, oI a_fieldCount cI 200 (upd fieldCount p2.toNatClampNeg (fieldCount p1.toNatClampNeg)), oI a_dataCount cI 200 dataCount, oI a_pinned cI 200 pinned, oI a_age cI 200 age, oI a_content cI 200 content]) X 2 dX1_shift_11 rfl (g_vi hi2) rfl rfl ?_
  refine r_aload_n (pc' := 13) X dX1_shift_12 rfl 0 rfl rfl ?_
  refine r_get (pc' := 16) X uX1_shift_X1 0 7 dX1_shift_13 rfl rfl (by decide) kX1_shift_2 rfl rfl ?_
  refine r_iload_n (pc' := 17) X dX1_shift_16 rfl 2 rfl rfl ?_
  refine r_aload_n (pc' := 18) X dX1_shift_17 rfl 0 rfl rfl ?_
  refine r_get (pc' := 21) X uX1_shift_X1 0 7 dX1_shift_18 rfl rfl (by decide) kX1_shift_2 rfl rfl ?_
  refine r_iload_n (pc' := 22) X dX1_shift_21 rfl 1 rfl rfl ?_
  obtain ⟨hi3, hF⟩ := g_gt hF
  refine r_iald (pc' := 23) X 3 dX1_shift_22 rfl (g_vi hi3) rfl ?_
  obtain ⟨hi4, hF⟩ := g_gt hF
  refine r_iast (pc' := 24) (ws' := [oX1 a_h words depth allocated collections freed a_owner a_fieldCount a_dataCount a_pinned a_age a_content a_roots a_weaks a_movedTo a_reports, oI a_owner cI 200 owner, oI a_fieldCount cI 200 (upd fieldCount p2.toNatClampNeg (fieldCount p1.toNatClampNeg)), oI a_dataCount cI 200 (upd dataCount p2.toNatClampNeg (dataCount p1.toNatClampNeg)), oI a_pinned cI 200 pinned, oI a_age cI 200 age, oI a_content cI 200 content]) X 3 dX1_shift_23 rfl (g_vi hi4) rfl rfl ?_
  refine r_aload_n (pc' := 25) X dX1_shift_24 rfl 0 rfl rfl ?_
  refine r_get (pc' := 28) X uX1_shift_X1 0 8 dX1_shift_25 rfl rfl (by decide) kX1_shift_3 rfl rfl ?_
  refine r_iload_n (pc' := 29) X dX1_shift_28 rfl 2 rfl rfl ?_
  refine r_aload_n (pc' := 30) X dX1_shift_29 rfl 0 rfl rfl ?_
  refine r_get (pc' := 33) X uX1_shift_X1 0 8 dX1_shift_30 rfl rfl (by decide) kX1_shift_3 rfl rfl ?_
  refine r_iload_n (pc' := 34) X dX1_shift_33 rfl 1 rfl rfl ?_
  obtain ⟨hi5, hF⟩ := g_gt hF
  refine r_iald (pc' := 35) X 4 dX1_shift_34 rfl (g_vi hi5) rfl ?_
  obtain ⟨hi6, hF⟩ := g_gt hF
  refine r_iast (pc' := 36) (ws' := [oX1 a_h words depth allocated collections freed a_owner a_fieldCount a_dataCount a_pinned a_age a_content a_roots a_weaks a_movedTo a_reports, oI a_owner cI 200 owner, oI a_fieldCount cI 200 (upd fieldCount p2.toNatClampNeg (fieldCount p1.toNatClampNeg)), oI a_dataCount cI 200 (upd dataCount p2.toNatClampNeg (dataCount p1.toNatClampNeg)), oI a_pinned cI 200 (upd pinned p2.toNatClampNeg (pinned p1.toNatClampNeg)), oI a_age cI 200 age, oI a_content cI 200 content]) X 4 dX1_shift_35 rfl (g_vi hi6) rfl rfl ?_
  refine r_aload_n (pc' := 37) X dX1_shift_36 rfl 0 rfl rfl ?_
  refine r_get (pc' := 40) X uX1_shift_X1 0 9 dX1_shift_37 rfl rfl (by decide) kX1_shift_4 rfl rfl ?_
  refine r_iload_n (pc' := 41) X dX1_shift_40 rfl 2 rfl rfl ?_
  refine r_aload_n (pc' := 42) X dX1_shift_41 rfl 0 rfl rfl ?_
  refine r_get (pc' := 45) X uX1_shift_X1 0 9 dX1_shift_42 rfl rfl (by decide) kX1_shift_4 rfl rfl ?_
  refine r_iload_n (pc' := 46) X dX1_shift_45 rfl 1 rfl rfl ?_
  obtain ⟨hi7, hF⟩ := g_gt hF
  refine r_iald (pc' := 47) X 5 dX1_shift_46 rfl (g_vi hi7) rfl ?_
  refine r_iconst (pc' := 48) X (1 : Int32) dX1_shift_47 (by decide) rfl ?_
  refine r_iadd (pc' := 49) X dX1_shift_48 rfl ?_
  obtain ⟨hi8, hF⟩ := g_gt hF
  refine r_iast (pc' := 50) (ws' := [oX1 a_h words depth allocated collections freed a_owner a_fieldCount a_dataCount a_pinned a_age a_content a_roots a_weaks a_movedTo a_reports, oI a_owner cI 200 owner, oI a_fieldCount cI 200 (upd fieldCount p2.toNatClampNeg (fieldCount p1.toNatClampNeg)), oI a_dataCount cI 200 (upd dataCount p2.toNatClampNeg (dataCount p1.toNatClampNeg)), oI a_pinned cI 200 (upd pinned p2.toNatClampNeg (pinned p1.toNatClampNeg)), oI a_age cI 200 (upd age p2.toNatClampNeg ((age p1.toNatClampNeg) + (1 : Int32))), oI a_content cI 200 content]) X 5 dX1_shift_49 rfl (g_vi hi8) rfl rfl ?_
  refine r_aload_n (pc' := 51) X dX1_shift_50 rfl 0 rfl rfl ?_
  refine r_get (pc' := 54) X uX1_shift_X1 0 10 dX1_shift_51 rfl rfl (by decide) kX1_shift_5 rfl rfl ?_
  refine r_iload_n (pc' := 55) X dX1_shift_54 rfl 1 rfl rfl ?_
  refine r_aload_n (pc' := 56) X dX1_shift_55 rfl 0 rfl rfl ?_
  refine r_get (pc' := 59) X uX1_shift_X1 0 10 dX1_shift_56 rfl rfl (by decide) kX1_shift_5 rfl rfl ?_
  refine r_iload_n (pc' := 60) X dX1_shift_59 rfl 2 rfl rfl ?_
  refine r_aload_n (pc' := 61) X dX1_shift_60 rfl 0 rfl rfl ?_
  refine r_iload_n (pc' := 62) X dX1_shift_61 rfl 2 rfl rfl ?_
  obtain ⟨r9, hc10, hF⟩ := g_bd hF
  refine r_callVF (pc' := 65) (ws' := [oX1 a_h words depth allocated collections freed a_owner a_fieldCount a_dataCount a_pinned a_age a_content a_roots a_weaks a_movedTo a_reports, oI a_owner cI 200 owner, oI a_fieldCount cI 200 (upd fieldCount p2.toNatClampNeg (fieldCount p1.toNatClampNeg)), oI a_dataCount cI 200 (upd dataCount p2.toNatClampNeg (dataCount p1.toNatClampNeg)), oI a_pinned cI 200 (upd pinned p2.toNatClampNeg (pinned p1.toNatClampNeg)), oI a_age cI 200 (upd age p2.toNatClampNeg ((age p1.toNatClampNeg) + (1 : Int32))), oI a_content cI 200 content]) (st' := [.int r9, .int p2, .ref a_content, .int p1, .ref a_content]) X (mX1_sizeOf D cI cZ cH a_h a_fieldCount a_dataCount a_owner a_pinned a_age a_content a_roots a_weaks a_movedTo a_reports words depth allocated collections freed (upd fieldCount p2.toNatClampNeg (fieldCount p1.toNatClampNeg)) (upd dataCount p2.toNatClampNeg (dataCount p1.toNatClampNeg)) p2 r9 hc10) 1 gX1_shift_X1_sizeOf rfl (by decide +kernel) rfl rfl ⟨Nat.le_of_ble_eq_true rfl, Nat.le_of_ble_eq_true rfl⟩ ⟨Nat.le_of_ble_eq_true rfl, Nat.le_of_ble_eq_true rfl⟩ rfl (Nat.le_of_ble_eq_true rfl) dX1_shift_62 0 rfl rfl [0, 2, 3] rfl rfl rfl rfl rfl rfl ?_
  obtain ⟨hi11, hF⟩ := g_gt hF
  obtain ⟨hi11a, hi11b, hi11c, hi11d, hi11e⟩ := g_cpv hi11
  refine r_copy (pc' := 68) (ws' := [oX1 a_h words depth allocated collections freed a_owner a_fieldCount a_dataCount a_pinned a_age a_content a_roots a_weaks a_movedTo a_reports, oI a_owner cI 200 owner, oI a_fieldCount cI 200 (upd fieldCount p2.toNatClampNeg (fieldCount p1.toNatClampNeg)), oI a_dataCount cI 200 (upd dataCount p2.toNatClampNeg (dataCount p1.toNatClampNeg)), oI a_pinned cI 200 (upd pinned p2.toNatClampNeg (pinned p1.toNatClampNeg)), oI a_age cI 200 (upd age p2.toNatClampNeg ((age p1.toNatClampNeg) + (1 : Int32))), oI a_content cI 200 (va_cpy content content p1.toNatClampNeg p2.toNatClampNeg r9.toNatClampNeg)]) X 6 6 dX1_shift_65 kX1_shift_6 kX1_shift_7 kX1_shift_8 kX1_shift_9 rfl rfl hi11a hi11b hi11c hi11d hi11e (by decide) (Nat.le_of_ble_eq_true rfl) rfl rfl ?_
  refine r_aload_n (pc' := 69) X dX1_shift_68 rfl 0 rfl rfl ?_
  refine r_iload_n (pc' := 70) X dX1_shift_69 rfl 2 rfl rfl ?_
  obtain ⟨owner_12, hc13, hF⟩ := g_bd hF
  refine r_callVF (pc' := 73) (ws' := [oX1 a_h words depth allocated collections freed a_owner a_fieldCount a_dataCount a_pinned a_age a_content a_roots a_weaks a_movedTo a_reports, oI a_owner cI 200 owner_12, oI a_fieldCount cI 200 (upd fieldCount p2.toNatClampNeg (fieldCount p1.toNatClampNeg)), oI a_dataCount cI 200 (upd dataCount p2.toNatClampNeg (dataCount p1.toNatClampNeg)), oI a_pinned cI 200 (upd pinned p2.toNatClampNeg (pinned p1.toNatClampNeg)), oI a_age cI 200 (upd age p2.toNatClampNeg ((age p1.toNatClampNeg) + (1 : Int32))), oI a_content cI 200 (va_cpy content content p1.toNatClampNeg p2.toNatClampNeg r9.toNatClampNeg)]) (st' := []) X (mX1_own D cI cZ cH a_h a_owner a_fieldCount a_dataCount a_pinned a_age a_content a_roots a_weaks a_movedTo a_reports words depth allocated collections freed owner (upd fieldCount p2.toNatClampNeg (fieldCount p1.toNatClampNeg)) (upd dataCount p2.toNatClampNeg (dataCount p1.toNatClampNeg)) p2 owner_12 hc13) 1 gX1_shift_X1_own rfl (by decide +kernel) rfl rfl ⟨Nat.le_of_ble_eq_true rfl, Nat.le_of_ble_eq_true rfl⟩ ⟨Nat.le_of_ble_eq_true rfl, Nat.le_of_ble_eq_true rfl⟩ rfl (Nat.le_of_ble_eq_true rfl) dX1_shift_70 0 rfl rfl [0, 1, 2, 3] rfl rfl rfl rfl rfl rfl ?_
  cases hF
  exact RT.2.2 0 0 _ _ _ rfl dX1_shift_73 ⟨rfl, rfl⟩ (Nat.le_refl 0) (Nat.le_refl 0)
theorem kX1_objectCount_1 : Cond.fieldLink RX1 42 "IslandHeap$Heap" "words" "I" ∈ wsX1_objectCount := List.mem_of_getElem? (i := 1) (by decide +kernel)
theorem uX1_objectCount_X1 : ∀ w ∈ u_ws RX1 TX1 15, w ∈ wsX1_objectCount := by decide +kernel
set_option maxHeartbeats 4000000 in
set_option maxRecDepth 100000 in
theorem mX1_objectCount (D : va_G) (cI cZ cH : ClassId) (a_h : Nat) (a_owner : Nat) (a_fieldCount : Nat) (a_dataCount : Nat) (a_pinned : Nat) (a_age : Nat) (a_content : Nat) (a_roots : Nat) (a_weaks : Nat) (a_movedTo : Nat) (a_reports : Nat) (words : Int32) (depth : Int32) (allocated : Int32) (collections : Int32) (freed : Int32) (owner : Nat → Int32) (r0 : Int32) (hF : FX1_objectCount words owner = some r0) : g_CM yX1_objectCount wsX1_objectCount ({ frames := 2, cells := 0, slots := 0, locals := 42 }) D cI cZ cH [.ref a_h] [oX1 a_h words depth allocated collections freed a_owner a_fieldCount a_dataCount a_pinned a_age a_content a_roots a_weaks a_movedTo a_reports, oI a_owner cI 200 owner] 0 0 (g_Tm (some (.int r0)) [oX1 a_h words depth allocated collections freed a_owner a_fieldCount a_dataCount a_pinned a_age a_content a_roots a_weaks a_movedTo a_reports, oI a_owner cI 200 owner]) := by
  refine g_met (own := RX1) (mn := "objectCount") (cc := cX1_objectCount) (maxL := 3) (ret := (some .int)) rfl rfl (by decide +kernel) rfl (Nat.le_of_ble_eq_true rfl) (fun G X RT => ?_)
  show G 0 0 [oX1 a_h words depth allocated collections freed a_owner a_fieldCount a_dataCount a_pinned a_age a_content a_roots a_weaks a_movedTo a_reports, oI a_owner cI 200 owner] [(0, .ref a_h)] 0 []
  unfold FX1_objectCount at hF
  refine r_iconst (pc' := 1) X (0 : Int32) dX1_objectCount_0 (by decide) rfl ?_
  refine r_istore_n (pc' := 2) (lv' := [(0, .ref a_h), (1, .int (0 : Int32))]) X dX1_objectCount_1 rfl (by decide) [1, 0] rfl rfl ?_
  refine r_iconst (pc' := 3) X (0 : Int32) dX1_objectCount_2 (by decide) rfl ?_
  refine r_istore_n (pc' := 4) (lv' := [(0, .ref a_h), (1, .int (0 : Int32)), (2, .int (0 : Int32))]) X dX1_objectCount_3 rfl (by decide) [1, 2, 0] rfl rfl ?_
  obtain ⟨ex4, hR, hF⟩ := g_bd hF
  have hE4 : ∀ (v1_3 : Int32), v1_3 = ex4 → G 0 0 [oX1 a_h words depth allocated collections freed a_owner a_fieldCount a_dataCount a_pinned a_age a_content a_roots a_weaks a_movedTo a_reports, oI a_owner cI 200 owner] [(1, .int v1_3)] 29 [] := by
    intro v1_3 hx; subst hx
    refine r_iload_n (pc' := 30) X dX1_objectCount_29 rfl 0 rfl rfl ?_
    cases hF
    exact RT.1 0 0 _ _ _ _ .int rfl rfl dX1_objectCount_30 ⟨rfl, rfl⟩ (Nat.le_refl 0) (Nat.le_refl 0)
  have hL4 : ∀ (fu : Nat) (v1_1 : Int32) (v2_2 : Int32), g_itn (FX1_objectCount_L4 words owner) fu (v1_1, v2_2) = some ex4 → G 0 0 [oX1 a_h words depth allocated collections freed a_owner a_fieldCount a_dataCount a_pinned a_age a_content a_roots a_weaks a_movedTo a_reports, oI a_owner cI 200 owner] [(0, .ref a_h), (1, .int v1_1), (2, .int v2_2)] 4 [] := by
    intro fu
    induction fu with
    | zero => intro v1_1 v2_2 h9; exact (g_it0 h9).elim
    | succ fu ih =>
      intro v1_1 v2_2 h9
      obtain ⟨y4, hF, hI4⟩ := g_its h9
      unfold FX1_objectCount_L4 at hF
      refine r_iload_n (pc' := 5) X dX1_objectCount_4 rfl 2 rfl rfl ?_
      refine r_aload_n (pc' := 6) X dX1_objectCount_5 rfl 0 rfl rfl ?_
      refine r_get (pc' := 9) X uX1_objectCount_X1 0 0 dX1_objectCount_6 rfl rfl (by decide) kX1_objectCount_1 rfl rfl ?_
      refine r_icmp_ge (pc' := 12) X 29 dX1_objectCount_9 (by decide) rfl (fun c9 => ?_) (fun c9 => ?_)
      · replace hF := g_t c9 hF
        cases hF
        refine r_sub (lv' := [(1, .int v1_1)]) X [1] rfl ?_
        exact hE4 v1_1 hI4
      · replace hF := g_f c9 hF
        refine r_aload_n (pc' := 13) X dX1_objectCount_12 rfl 0 rfl rfl ?_
        refine r_iload_n (pc' := 14) X dX1_objectCount_13 rfl 2 rfl rfl ?_
        obtain ⟨r4, hc5, hF⟩ := g_bd hF
        refine r_callVF (pc' := 17) (ws' := [oX1 a_h words depth allocated collections freed a_owner a_fieldCount a_dataCount a_pinned a_age a_content a_roots a_weaks a_movedTo a_reports, oI a_owner cI 200 owner]) (st' := [.int r4]) X (mX1_isObject D cI cZ cH a_h a_owner a_fieldCount a_dataCount a_pinned a_age a_content a_roots a_weaks a_movedTo a_reports words depth allocated collections freed owner v2_2 r4 hc5) 1 gX1_objectCount_X1_isObject rfl (by decide +kernel) rfl rfl ⟨Nat.le_of_ble_eq_true rfl, Nat.le_of_ble_eq_true rfl⟩ ⟨Nat.le_of_ble_eq_true rfl, Nat.le_of_ble_eq_true rfl⟩ rfl (Nat.le_of_ble_eq_true rfl) dX1_objectCount_14 0 rfl rfl [0, 1] rfl rfl rfl rfl rfl rfl ?_
        obtain ⟨exJ7, hR, hF⟩ := g_bd hF
        have hJ7 : ∀ (v1_6 : Int32), v1_6 = exJ7 → G 0 0 [oX1 a_h words depth allocated collections freed a_owner a_fieldCount a_dataCount a_pinned a_age a_content a_roots a_weaks a_movedTo a_reports, oI a_owner cI 200 owner] [(0, .ref a_h), (1, .int v1_6), (2, .int v2_2)] 23 [] := by
          intro v1_6 hx; subst hx
          refine r_iinc (pc' := 26) (lv' := [(0, .ref a_h), (1, .int v1_6), (2, .int (v2_2 + (1 : Int32)))]) X (v2_2 + (1 : Int32)) dX1_objectCount_23 2 rfl (congrArg (fun z => v2_2 + z) (by decide)) (by decide) [1, 2, 0] rfl rfl ?_
          refine r_goto X 4 dX1_objectCount_26 (by decide) ?_
          cases hF
          exact ih v1_6 (v2_2 + (1 : Int32)) hI4
        replace hF := hR
        refine r_if_eq (pc' := 20) X 23 dX1_objectCount_17 (by decide) rfl (fun c9 => ?_) (fun c9 => ?_)
        · replace hF := g_t c9 hF
          exact hJ7 v1_1 (Option.some.inj hF)
        · replace hF := g_f c9 hF
          refine r_iinc (pc' := 23) (lv' := [(0, .ref a_h), (1, .int (v1_1 + (1 : Int32))), (2, .int v2_2)]) X (v1_1 + (1 : Int32)) dX1_objectCount_20 1 rfl (congrArg (fun z => v1_1 + z) (by decide)) (by decide) [1, 0, 2] rfl rfl ?_
          exact hJ7 (v1_1 + (1 : Int32)) (Option.some.inj hF)
  exact hL4 g_fuel (0 : Int32) (0 : Int32) hR
theorem kX1_copyFrom_1 : Cond.fieldLink RX1 42 "IslandHeap$Heap" "words" "I" ∈ wsX1_copyFrom := List.mem_of_getElem? (i := 1) (by decide +kernel)
theorem kX1_copyFrom_2 : Cond.fieldLink RX1 46 "IslandHeap$Heap" "depth" "I" ∈ wsX1_copyFrom := List.mem_of_getElem? (i := 2) (by decide +kernel)
theorem kX1_copyFrom_3 : Cond.fieldLink RX1 49 "IslandHeap$Heap" "allocated" "I" ∈ wsX1_copyFrom := List.mem_of_getElem? (i := 3) (by decide +kernel)
theorem kX1_copyFrom_4 : Cond.fieldLink RX1 52 "IslandHeap$Heap" "collections" "I" ∈ wsX1_copyFrom := List.mem_of_getElem? (i := 4) (by decide +kernel)
theorem kX1_copyFrom_5 : Cond.fieldLink RX1 55 "IslandHeap$Heap" "freed" "I" ∈ wsX1_copyFrom := List.mem_of_getElem? (i := 5) (by decide +kernel)
theorem kX1_copyFrom_6 : Cond.fieldLink RX1 9 "IslandHeap$Heap" "owner" "[I" ∈ wsX1_copyFrom := List.mem_of_getElem? (i := 6) (by decide +kernel)
theorem kX1_copyFrom_7 : Cond.methodLink RX1 64 arraycopyName ∈ wsX1_copyFrom := List.mem_of_getElem? (i := 7) (by decide +kernel)
theorem kX1_copyFrom_8 : Cond.native arraycopyName ∈ wsX1_copyFrom := List.mem_of_getElem? (i := 8) (by decide +kernel)
theorem kX1_copyFrom_9 : Cond.static arraycopyName ∈ wsX1_copyFrom := List.mem_of_getElem? (i := 9) (by decide +kernel)
theorem kX1_copyFrom_10 : Cond.initialized "java/lang/System" ∈ wsX1_copyFrom := List.mem_of_getElem? (i := 10) (by decide +kernel)
theorem kX1_copyFrom_11 : Cond.fieldLink RX1 15 "IslandHeap$Heap" "fieldCount" "[I" ∈ wsX1_copyFrom := List.mem_of_getElem? (i := 11) (by decide +kernel)
theorem kX1_copyFrom_12 : Cond.fieldLink RX1 18 "IslandHeap$Heap" "dataCount" "[I" ∈ wsX1_copyFrom := List.mem_of_getElem? (i := 12) (by decide +kernel)
theorem kX1_copyFrom_13 : Cond.fieldLink RX1 21 "IslandHeap$Heap" "pinned" "[I" ∈ wsX1_copyFrom := List.mem_of_getElem? (i := 13) (by decide +kernel)
theorem kX1_copyFrom_14 : Cond.fieldLink RX1 24 "IslandHeap$Heap" "age" "[I" ∈ wsX1_copyFrom := List.mem_of_getElem? (i := 14) (by decide +kernel)
theorem kX1_copyFrom_15 : Cond.fieldLink RX1 27 "IslandHeap$Heap" "content" "[I" ∈ wsX1_copyFrom := List.mem_of_getElem? (i := 15) (by decide +kernel)
theorem kX1_copyFrom_16 : Cond.fieldLink RX1 30 "IslandHeap$Heap" "roots" "[I" ∈ wsX1_copyFrom := List.mem_of_getElem? (i := 16) (by decide +kernel)
theorem kX1_copyFrom_17 : Cond.fieldLink RX1 33 "IslandHeap$Heap" "weaks" "[I" ∈ wsX1_copyFrom := List.mem_of_getElem? (i := 17) (by decide +kernel)
theorem kX1_copyFrom_18 : Cond.fieldLink RX1 36 "IslandHeap$Heap" "movedTo" "[I" ∈ wsX1_copyFrom := List.mem_of_getElem? (i := 18) (by decide +kernel)
theorem kX1_copyFrom_19 : Cond.fieldLink RX1 39 "IslandHeap$Heap" "reports" "[I" ∈ wsX1_copyFrom := List.mem_of_getElem? (i := 19) (by decide +kernel)
theorem uX1_copyFrom_X1 : ∀ w ∈ u_ws RX1 TX1 15, w ∈ wsX1_copyFrom := by decide +kernel
set_option maxHeartbeats 4000000 in
set_option maxRecDepth 100000 in
theorem mX1_copyFrom (D : va_G) (cI cZ cH : ClassId) (a_h : Nat) (a_owner : Nat) (a_fieldCount : Nat) (a_dataCount : Nat) (a_pinned : Nat) (a_age : Nat) (a_content : Nat) (a_roots : Nat) (a_weaks : Nat) (a_movedTo : Nat) (a_reports : Nat) (a_o_h : Nat) (a_o_owner : Nat) (a_o_fieldCount : Nat) (a_o_dataCount : Nat) (a_o_pinned : Nat) (a_o_age : Nat) (a_o_content : Nat) (a_o_roots : Nat) (a_o_weaks : Nat) (a_o_movedTo : Nat) (a_o_reports : Nat) (words : Int32) (depth : Int32) (allocated : Int32) (collections : Int32) (freed : Int32) (owner : Nat → Int32) (fieldCount : Nat → Int32) (dataCount : Nat → Int32) (pinned : Nat → Int32) (age : Nat → Int32) (content : Nat → Int32) (roots : Nat → Int32) (weaks : Nat → Int32) (movedTo : Nat → Int32) (reports : Nat → Int32) (o_words : Int32) (o_depth : Int32) (o_allocated : Int32) (o_collections : Int32) (o_freed : Int32) (o_owner : Nat → Int32) (o_fieldCount : Nat → Int32) (o_dataCount : Nat → Int32) (o_pinned : Nat → Int32) (o_age : Nat → Int32) (o_content : Nat → Int32) (o_roots : Nat → Int32) (o_weaks : Nat → Int32) (o_movedTo : Nat → Int32) (o_reports : Nat → Int32) (w_words : Int32) (w_depth : Int32) (w_allocated : Int32) (w_collections : Int32) (w_freed : Int32) (w_owner : Nat → Int32) (w_fieldCount : Nat → Int32) (w_dataCount : Nat → Int32) (w_pinned : Nat → Int32) (w_age : Nat → Int32) (w_content : Nat → Int32) (w_roots : Nat → Int32) (w_weaks : Nat → Int32) (w_movedTo : Nat → Int32) (w_reports : Nat → Int32) (hF : FX1_copyFrom words depth allocated collections freed owner fieldCount dataCount pinned age content roots weaks movedTo reports o_words o_depth o_allocated o_collections o_freed o_owner o_fieldCount o_dataCount o_pinned o_age o_content o_roots o_weaks o_movedTo o_reports = some (w_words, w_depth, w_allocated, w_collections, w_freed, w_owner, w_fieldCount, w_dataCount, w_pinned, w_age, w_content, w_roots, w_weaks, w_movedTo, w_reports)) : g_CM yX1_copyFrom wsX1_copyFrom ({ frames := 1, cells := 0, slots := 0, locals := 40 }) D cI cZ cH [.ref a_h, .ref a_o_h] [oX1 a_h words depth allocated collections freed a_owner a_fieldCount a_dataCount a_pinned a_age a_content a_roots a_weaks a_movedTo a_reports, oI a_owner cI 200 owner, oI a_fieldCount cI 200 fieldCount, oI a_dataCount cI 200 dataCount, oI a_pinned cI 200 pinned, oI a_age cI 200 age, oI a_content cI 200 content, oI a_roots cI 6 roots, oI a_weaks cI 4 weaks, oI a_movedTo cI 200 movedTo, oI a_reports cI 6 reports, oX1 a_o_h o_words o_depth o_allocated o_collections o_freed a_o_owner a_o_fieldCount a_o_dataCount a_o_pinned a_o_age a_o_content a_o_roots a_o_weaks a_o_movedTo a_o_reports, oI a_o_owner cI 200 o_owner, oI a_o_fieldCount cI 200 o_fieldCount, oI a_o_dataCount cI 200 o_dataCount, oI a_o_pinned cI 200 o_pinned, oI a_o_age cI 200 o_age, oI a_o_content cI 200 o_content, oI a_o_roots cI 6 o_roots, oI a_o_weaks cI 4 o_weaks, oI a_o_movedTo cI 200 o_movedTo, oI a_o_reports cI 6 o_reports] 0 0 (g_Tm (none) [oX1 a_h w_words w_depth w_allocated w_collections w_freed a_owner a_fieldCount a_dataCount a_pinned a_age a_content a_roots a_weaks a_movedTo a_reports, oI a_owner cI 200 w_owner, oI a_fieldCount cI 200 w_fieldCount, oI a_dataCount cI 200 w_dataCount, oI a_pinned cI 200 w_pinned, oI a_age cI 200 w_age, oI a_content cI 200 w_content, oI a_roots cI 6 w_roots, oI a_weaks cI 4 w_weaks, oI a_movedTo cI 200 w_movedTo, oI a_reports cI 6 w_reports, oX1 a_o_h o_words o_depth o_allocated o_collections o_freed a_o_owner a_o_fieldCount a_o_dataCount a_o_pinned a_o_age a_o_content a_o_roots a_o_weaks a_o_movedTo a_o_reports, oI a_o_owner cI 200 o_owner, oI a_o_fieldCount cI 200 o_fieldCount, oI a_o_dataCount cI 200 o_dataCount, oI a_o_pinned cI 200 o_pinned, oI a_o_age cI 200 o_age, oI a_o_content cI 200 o_content, oI a_o_roots cI 6 o_roots, oI a_o_weaks cI 4 o_weaks, oI a_o_movedTo cI 200 o_movedTo, oI a_o_reports cI 6 o_reports]) := by
  refine g_met (own := RX1) (mn := "copyFrom") (cc := cX1_copyFrom) (maxL := 2) (ret := none) rfl rfl (by decide +kernel) rfl (Nat.le_of_ble_eq_true rfl) (fun G X RT => ?_)
  show G 0 0 [oX1 a_h words depth allocated collections freed a_owner a_fieldCount a_dataCount a_pinned a_age a_content a_roots a_weaks a_movedTo a_reports, oI a_owner cI 200 owner, oI a_fieldCount cI 200 fieldCount, oI a_dataCount cI 200 dataCount, oI a_pinned cI 200 pinned, oI a_age cI 200 age, oI a_content cI 200 content, oI a_roots cI 6 roots, oI a_weaks cI 4 weaks, oI a_movedTo cI 200 movedTo, oI a_reports cI 6 reports, oX1 a_o_h o_words o_depth o_allocated o_collections o_freed a_o_owner a_o_fieldCount a_o_dataCount a_o_pinned a_o_age a_o_content a_o_roots a_o_weaks a_o_movedTo a_o_reports, oI a_o_owner cI 200 o_owner, oI a_o_fieldCount cI 200 o_fieldCount, oI a_o_dataCount cI 200 o_dataCount, oI a_o_pinned cI 200 o_pinned, oI a_o_age cI 200 o_age, oI a_o_content cI 200 o_content, oI a_o_roots cI 6 o_roots, oI a_o_weaks cI 4 o_weaks, oI a_o_movedTo cI 200 o_movedTo, oI a_o_reports cI 6 o_reports] [(0, .ref a_h), (1, .ref a_o_h)] 0 []
  unfold FX1_copyFrom at hF
  refine r_aload_n (pc' := 1) X dX1_copyFrom_0 rfl 0 rfl rfl ?_
  refine r_aload_n (pc' := 2) X dX1_copyFrom_1 rfl 1 rfl rfl ?_
  refine r_get (pc' := 5) X uX1_copyFrom_X1 11 0 dX1_copyFrom_2 rfl rfl (by decide) kX1_copyFrom_1 rfl rfl ?_
  refine r_put (pc' := 8) (ty := .int) (ws' := [oX1 a_h o_words depth allocated collections freed a_owner a_fieldCount a_dataCount a_pinned a_age a_content a_roots a_weaks a_movedTo a_reports, oI a_owner cI 200 owner, oI a_fieldCount cI 200 fieldCount, oI a_dataCount cI 200 dataCount, oI a_pinned cI 200 pinned, oI a_age cI 200 age, oI a_content cI 200 content, oI a_roots cI 6 roots, oI a_weaks cI 4 weaks, oI a_movedTo cI 200 movedTo, oI a_reports cI 6 reports, oX1 a_o_h o_words o_depth o_allocated o_collections o_freed a_o_owner a_o_fieldCount a_o_dataCount a_o_pinned a_o_age a_o_content a_o_roots a_o_weaks a_o_movedTo a_o_reports, oI a_o_owner cI 200 o_owner, oI a_o_fieldCount cI 200 o_fieldCount, oI a_o_dataCount cI 200 o_dataCount, oI a_o_pinned cI 200 o_pinned, oI a_o_age cI 200 o_age, oI a_o_content cI 200 o_content, oI a_o_roots cI 6 o_roots, oI a_o_weaks cI 4 o_weaks, oI a_o_movedTo cI 200 o_movedTo, oI a_o_reports cI 6 o_reports]) X uX1_copyFrom_X1 0 0 tyX1 tyX1_ok nmX1 dX1_copyFrom_5 rfl rfl (by decide) kX1_copyFrom_1 rfl (by decide +kernel) rfl rfl (Nat.le_of_ble_eq_true rfl) rfl rfl ?_
  refine r_aload_n (pc' := 9) X dX1_copyFrom_8 rfl 0 rfl rfl ?_
  refine r_aload_n (pc' := 10) X dX1_copyFrom_9 rfl 1 rfl rfl ?_
  refine r_get (pc' := 13) X uX1_copyFrom_X1 11 1 dX1_copyFrom_10 rfl rfl (by decide) kX1_copyFrom_2 rfl rfl ?_
  refine r_put (pc' := 16) (ty := .int) (ws' := [oX1 a_h o_words o_depth allocated collections freed a_owner a_fieldCount a_dataCount a_pinned a_age a_content a_roots a_weaks a_movedTo a_reports, oI a_owner cI 200 owner, oI a_fieldCount cI 200 fieldCount, oI a_dataCount cI 200 dataCount, oI a_pinned cI 200 pinned, oI a_age cI 200 age, oI a_content cI 200 content, oI a_roots cI 6 roots, oI a_weaks cI 4 weaks, oI a_movedTo cI 200 movedTo, oI a_reports cI 6 reports, oX1 a_o_h o_words o_depth o_allocated o_collections o_freed a_o_owner a_o_fieldCount a_o_dataCount a_o_pinned a_o_age a_o_content a_o_roots a_o_weaks a_o_movedTo a_o_reports, oI a_o_owner cI 200 o_owner, oI a_o_fieldCount cI 200 o_fieldCount, oI a_o_dataCount cI 200 o_dataCount, oI a_o_pinned cI 200 o_pinned, oI a_o_age cI 200 o_age, oI a_o_content cI 200 o_content, oI a_o_roots cI 6 o_roots, oI a_o_weaks cI 4 o_weaks, oI a_o_movedTo cI 200 o_movedTo, oI a_o_reports cI 6 o_reports]) X uX1_copyFrom_X1 0 1 tyX1 tyX1_ok nmX1 dX1_copyFrom_13 rfl rfl (by decide) kX1_copyFrom_2 rfl (by decide +kernel) rfl rfl (Nat.le_of_ble_eq_true rfl) rfl rfl ?_
  refine r_aload_n (pc' := 17) X dX1_copyFrom_16 rfl 0 rfl rfl ?_
  refine r_aload_n (pc' := 18) X dX1_copyFrom_17 rfl 1 rfl rfl ?_
  refine r_get (pc' := 21) X uX1_copyFrom_X1 11 2 dX1_copyFrom_18 rfl rfl (by decide) kX1_copyFrom_3 rfl rfl ?_
  refine r_put (pc' := 24) (ty := .int) (ws' := [oX1 a_h o_words o_depth o_allocated collections freed a_owner a_fieldCount a_dataCount a_pinned a_age a_content a_roots a_weaks a_movedTo a_reports, oI a_owner cI 200 owner, oI a_fieldCount cI 200 fieldCount, oI a_dataCount cI 200 dataCount, oI a_pinned cI 200 pinned, oI a_age cI 200 age, oI a_content cI 200 content, oI a_roots cI 6 roots, oI a_weaks cI 4 weaks, oI a_movedTo cI 200 movedTo, oI a_reports cI 6 reports, oX1 a_o_h o_words o_depth o_allocated o_collections o_freed a_o_owner a_o_fieldCount a_o_dataCount a_o_pinned a_o_age a_o_content a_o_roots a_o_weaks a_o_movedTo a_o_reports, oI a_o_owner cI 200 o_owner, oI a_o_fieldCount cI 200 o_fieldCount, oI a_o_dataCount cI 200 o_dataCount, oI a_o_pinned cI 200 o_pinned, oI a_o_age cI 200 o_age, oI a_o_content cI 200 o_content, oI a_o_roots cI 6 o_roots, oI a_o_weaks cI 4 o_weaks, oI a_o_movedTo cI 200 o_movedTo, oI a_o_reports cI 6 o_reports]) X uX1_copyFrom_X1 0 2 tyX1 tyX1_ok nmX1 dX1_copyFrom_21 rfl rfl (by decide) kX1_copyFrom_3 rfl (by decide +kernel) rfl rfl (Nat.le_of_ble_eq_true rfl) rfl rfl ?_
  refine r_aload_n (pc' := 25) X dX1_copyFrom_24 rfl 0 rfl rfl ?_
  refine r_aload_n (pc' := 26) X dX1_copyFrom_25 rfl 1 rfl rfl ?_
  refine r_get (pc' := 29) X uX1_copyFrom_X1 11 3 dX1_copyFrom_26 rfl rfl (by decide) kX1_copyFrom_4 rfl rfl ?_
  refine r_put (pc' := 32) (ty := .int) (ws' := [oX1 a_h o_words o_depth o_allocated o_collections freed a_owner a_fieldCount a_dataCount a_pinned a_age a_content a_roots a_weaks a_movedTo a_reports, oI a_owner cI 200 owner, oI a_fieldCount cI 200 fieldCount, oI a_dataCount cI 200 dataCount, oI a_pinned cI 200 pinned, oI a_age cI 200 age, oI a_content cI 200 content, oI a_roots cI 6 roots, oI a_weaks cI 4 weaks, oI a_movedTo cI 200 movedTo, oI a_reports cI 6 reports, oX1 a_o_h o_words o_depth o_allocated o_collections o_freed a_o_owner a_o_fieldCount a_o_dataCount a_o_pinned a_o_age a_o_content a_o_roots a_o_weaks a_o_movedTo a_o_reports, oI a_o_owner cI 200 o_owner, oI a_o_fieldCount cI 200 o_fieldCount, oI a_o_dataCount cI 200 o_dataCount, oI a_o_pinned cI 200 o_pinned, oI a_o_age cI 200 o_age, oI a_o_content cI 200 o_content, oI a_o_roots cI 6 o_roots, oI a_o_weaks cI 4 o_weaks, oI a_o_movedTo cI 200 o_movedTo, oI a_o_reports cI 6 o_reports]) X uX1_copyFrom_X1 0 3 tyX1 tyX1_ok nmX1 dX1_copyFrom_29 rfl rfl (by decide) kX1_copyFrom_4 rfl (by decide +kernel) rfl rfl (Nat.le_of_ble_eq_true rfl) rfl rfl ?_
  refine r_aload_n (pc' := 33) X dX1_copyFrom_32 rfl 0 rfl rfl ?_
  refine r_aload_n (pc' := 34) X dX1_copyFrom_33 rfl 1 rfl rfl ?_
  refine r_get (pc' := 37) X uX1_copyFrom_X1 11 4 dX1_copyFrom_34 rfl rfl (by decide) kX1_copyFrom_5 rfl rfl ?_
  refine r_put (pc' := 40) (ty := .int) (ws' := [oX1 a_h o_words o_depth o_allocated o_collections o_freed a_owner a_fieldCount a_dataCount a_pinned a_age a_content a_roots a_weaks a_movedTo a_reports, oI a_owner cI 200 owner, oI a_fieldCount cI 200 fieldCount, oI a_dataCount cI 200 dataCount, oI a_pinned cI 200 pinned, oI a_age cI 200 age, oI a_content cI 200 content, oI a_roots cI 6 roots, oI a_weaks cI 4 weaks, oI a_movedTo cI 200 movedTo, oI a_reports cI 6 reports, oX1 a_o_h o_words o_depth o_allocated o_collections o_freed a_o_owner a_o_fieldCount a_o_dataCount a_o_pinned a_o_age a_o_content a_o_roots a_o_weaks a_o_movedTo a_o_reports, oI a_o_owner cI 200 o_owner, oI a_o_fieldCount cI 200 o_fieldCount, oI a_o_dataCount cI 200 o_dataCount, oI a_o_pinned cI 200 o_pinned, oI a_o_age cI 200 o_age, oI a_o_content cI 200 o_content, oI a_o_roots cI 6 o_roots, oI a_o_weaks cI 4 o_weaks, oI a_o_movedTo cI 200 o_movedTo, oI a_o_reports cI 6 o_reports]) X uX1_copyFrom_X1 0 4 tyX1 tyX1_ok nmX1 dX1_copyFrom_37 rfl rfl (by decide) kX1_copyFrom_5 rfl (by decide +kernel) rfl rfl (Nat.le_of_ble_eq_true rfl) rfl rfl ?_
  refine r_aload_n (pc' := 41) X dX1_copyFrom_40 rfl 1 rfl rfl ?_
  refine r_get (pc' := 44) X uX1_copyFrom_X1 11 5 dX1_copyFrom_41 rfl rfl (by decide) kX1_copyFrom_6 rfl rfl ?_
  refine r_iconst (pc' := 45) X (0 : Int32) dX1_copyFrom_44 (by decide) rfl ?_
  refine r_aload_n (pc' := 46) X dX1_copyFrom_45 rfl 0 rfl rfl ?_
  refine r_get (pc' := 49) X uX1_copyFrom_X1 0 5 dX1_copyFrom_46 rfl rfl (by decide) kX1_copyFrom_6 rfl rfl ?_
  refine r_iconst (pc' := 50) X (0 : Int32) dX1_copyFrom_49 (by decide) rfl ?_
  refine r_sipush (pc' := 53) X (200 : Int32) dX1_copyFrom_50 (by decide) rfl ?_
  obtain ⟨hi1, hF⟩ := g_gt hF
  obtain ⟨hi1a, hi1b, hi1c, hi1d, hi1e⟩ := g_cpv hi1
  refine r_copy (pc' := 56) (ws' := [oX1 a_h o_words o_depth o_allocated o_collections o_freed a_owner a_fieldCount a_dataCount a_pinned a_age a_content a_roots a_weaks a_movedTo a_reports, oI a_owner cI 200 (va_cpy o_owner owner (0 : Int32).toNatClampNeg (0 : Int32).toNatClampNeg (200 : Int32).toNatClampNeg), oI a_fieldCount cI 200 fieldCount, oI a_dataCount cI 200 dataCount, oI a_pinned cI 200 pinned, oI a_age cI 200 age, oI a_content cI 200 content, oI a_roots cI 6 roots, oI a_weaks cI 4 weaks, oI a_movedTo cI 200 movedTo, oI a_reports cI 6 reports, oX1 a_o_h o_words o_depth o_allocated o_collections o_freed a_o_owner a_o_fieldCount a_o_dataCount a_o_pinned a_o_age a_o_content a_o_roots a_o_weaks a_o_movedTo a_o_reports, oI a_o_owner cI 200 o_owner, oI a_o_fieldCount cI 200 o_fieldCount, oI a_o_dataCount cI 200 o_dataCount, oI a_o_pinned cI 200 o_pinned, oI a_o_age cI 200 o_age, oI a_o_content cI 200 o_content, oI a_o_roots cI 6 o_roots, oI a_o_weaks cI 4 o_weaks, oI a_o_movedTo cI 200 o_movedTo, oI a_o_reports cI 6 o_reports]) X 12 1 dX1_copyFrom_53 kX1_copyFrom_7 kX1_copyFrom_8 kX1_copyFrom_9 kX1_copyFrom_10 rfl rfl hi1a hi1b hi1c hi1d hi1e (by decide) (Nat.le_of_ble_eq_true rfl) rfl rfl ?_
  refine r_aload_n (pc' := 57) X dX1_copyFrom_56 rfl 1 rfl rfl ?_
  refine r_get (pc' := 60) X uX1_copyFrom_X1 11 6 dX1_copyFrom_57 rfl rfl (by decide) kX1_copyFrom_11 rfl rfl ?_
  refine r_iconst (pc' := 61) X (0 : Int32) dX1_copyFrom_60 (by decide) rfl ?_
  refine r_aload_n (pc' := 62) X dX1_copyFrom_61 rfl 0 rfl rfl ?_
  refine r_get (pc' := 65) X uX1_copyFrom_X1 0 6 dX1_copyFrom_62 rfl rfl (by decide) kX1_copyFrom_11 rfl rfl ?_
  refine r_iconst (pc' := 66) X (0 : Int32) dX1_copyFrom_65 (by decide) rfl ?_
  refine r_sipush (pc' := 69) X (200 : Int32) dX1_copyFrom_66 (by decide) rfl ?_
  obtain ⟨hi2, hF⟩ := g_gt hF
  obtain ⟨hi2a, hi2b, hi2c, hi2d, hi2e⟩ := g_cpv hi2
  refine r_copy (pc' := 72) (ws' := [oX1 a_h o_words o_depth o_allocated o_collections o_freed a_owner a_fieldCount a_dataCount a_pinned a_age a_content a_roots a_weaks a_movedTo a_reports, oI a_owner cI 200 (va_cpy o_owner owner (0 : Int32).toNatClampNeg (0 : Int32).toNatClampNeg (200 : Int32).toNatClampNeg), oI a_fieldCount cI 200 (va_cpy o_fieldCount fieldCount (0 : Int32).toNatClampNeg (0 : Int32).toNatClampNeg (200 : Int32).toNatClampNeg), oI a_dataCount cI 200 dataCount, oI a_pinned cI 200 pinned, oI a_age cI 200 age, oI a_content cI 200 content, oI a_roots cI 6 roots, oI a_weaks cI 4 weaks, oI a_movedTo cI 200 movedTo, oI a_reports cI 6 reports, oX1 a_o_h o_words o_depth o_allocated o_collections o_freed a_o_owner a_o_fieldCount a_o_dataCount a_o_pinned a_o_age a_o_content a_o_roots a_o_weaks a_o_movedTo a_o_reports, oI a_o_owner cI 200 o_owner, oI a_o_fieldCount cI 200 o_fieldCount, oI a_o_dataCount cI 200 o_dataCount, oI a_o_pinned cI 200 o_pinned, oI a_o_age cI 200 o_age, oI a_o_content cI 200 o_content, oI a_o_roots cI 6 o_roots, oI a_o_weaks cI 4 o_weaks, oI a_o_movedTo cI 200 o_movedTo, oI a_o_reports cI 6 o_reports]) X 13 2 dX1_copyFrom_69 kX1_copyFrom_7 kX1_copyFrom_8 kX1_copyFrom_9 kX1_copyFrom_10 rfl rfl hi2a hi2b hi2c hi2d hi2e (by decide) (Nat.le_of_ble_eq_true rfl) rfl rfl ?_
  refine r_aload_n (pc' := 73) X dX1_copyFrom_72 rfl 1 rfl rfl ?_
  refine r_get (pc' := 76) X uX1_copyFrom_X1 11 7 dX1_copyFrom_73 rfl rfl (by decide) kX1_copyFrom_12 rfl rfl ?_
  refine r_iconst (pc' := 77) X (0 : Int32) dX1_copyFrom_76 (by decide) rfl ?_
  refine r_aload_n (pc' := 78) X dX1_copyFrom_77 rfl 0 rfl rfl ?_
  refine r_get (pc' := 81) X uX1_copyFrom_X1 0 7 dX1_copyFrom_78 rfl rfl (by decide) kX1_copyFrom_12 rfl rfl ?_
  refine r_iconst (pc' := 82) X (0 : Int32) dX1_copyFrom_81 (by decide) rfl ?_
  refine r_sipush (pc' := 85) X (200 : Int32) dX1_copyFrom_82 (by decide) rfl ?_
  obtain ⟨hi3, hF⟩ := g_gt hF
  obtain ⟨hi3a, hi3b, hi3c, hi3d, hi3e⟩ := g_cpv hi3
  refine r_copy (pc' := 88) (ws' := [oX1 a_h o_words o_depth o_allocated o_collections o_freed a_owner a_fieldCount a_dataCount a_pinned a_age a_content a_roots a_weaks a_movedTo a_reports, oI a_owner cI 200 (va_cpy o_owner owner (0 : Int32).toNatClampNeg (0 : Int32).toNatClampNeg (200 : Int32).toNatClampNeg), oI a_fieldCount cI 200 (va_cpy o_fieldCount fieldCount (0 : Int32).toNatClampNeg (0 : Int32).toNatClampNeg (200 : Int32).toNatClampNeg), oI a_dataCount cI 200 (va_cpy o_dataCount dataCount (0 : Int32).toNatClampNeg (0 : Int32).toNatClampNeg (200 : Int32).toNatClampNeg), oI a_pinned cI 200 pinned, oI a_age cI 200 age, oI a_content cI 200 content, oI a_roots cI 6 roots, oI a_weaks cI 4 weaks, oI a_movedTo cI 200 movedTo, oI a_reports cI 6 reports, oX1 a_o_h o_words o_depth o_allocated o_collections o_freed a_o_owner a_o_fieldCount a_o_dataCount a_o_pinned a_o_age a_o_content a_o_roots a_o_weaks a_o_movedTo a_o_reports, oI a_o_owner cI 200 o_owner, oI a_o_fieldCount cI 200 o_fieldCount, oI a_o_dataCount cI 200 o_dataCount, oI a_o_pinned cI 200 o_pinned, oI a_o_age cI 200 o_age, oI a_o_content cI 200 o_content, oI a_o_roots cI 6 o_roots, oI a_o_weaks cI 4 o_weaks, oI a_o_movedTo cI 200 o_movedTo, oI a_o_reports cI 6 o_reports]) X 14 3 dX1_copyFrom_85 kX1_copyFrom_7 kX1_copyFrom_8 kX1_copyFrom_9 kX1_copyFrom_10 rfl rfl hi3a hi3b hi3c hi3d hi3e (by decide) (Nat.le_of_ble_eq_true rfl) rfl rfl ?_
  refine r_aload_n (pc' := 89) X dX1_copyFrom_88 rfl 1 rfl rfl ?_
  refine r_get (pc' := 92) X uX1_copyFrom_X1 11 8 dX1_copyFrom_89 rfl rfl (by decide) kX1_copyFrom_13 rfl rfl ?_
  refine r_iconst (pc' := 93) X (0 : Int32) dX1_copyFrom_92 (by decide) rfl ?_
  refine r_aload_n (pc' := 94) X dX1_copyFrom_93 rfl 0 rfl rfl ?_
  refine r_get (pc' := 97) X uX1_copyFrom_X1 0 8 dX1_copyFrom_94 rfl rfl (by decide) kX1_copyFrom_13 rfl rfl ?_
  refine r_iconst (pc' := 98) X (0 : Int32) dX1_copyFrom_97 (by decide) rfl ?_
  refine r_sipush (pc' := 101) X (200 : Int32) dX1_copyFrom_98 (by decide) rfl ?_
  obtain ⟨hi4, hF⟩ := g_gt hF
  obtain ⟨hi4a, hi4b, hi4c, hi4d, hi4e⟩ := g_cpv hi4
  refine r_copy (pc' := 104) (ws' := [oX1 a_h o_words o_depth o_allocated o_collections o_freed a_owner a_fieldCount a_dataCount a_pinned a_age a_content a_roots a_weaks a_movedTo a_reports, oI a_owner cI 200 (va_cpy o_owner owner (0 : Int32).toNatClampNeg (0 : Int32).toNatClampNeg (200 : Int32).toNatClampNeg), oI a_fieldCount cI 200 (va_cpy o_fieldCount fieldCount (0 : Int32).toNatClampNeg (0 : Int32).toNatClampNeg (200 : Int32).toNatClampNeg), oI a_dataCount cI 200 (va_cpy o_dataCount dataCount (0 : Int32).toNatClampNeg (0 : Int32).toNatClampNeg (200 : Int32).toNatClampNeg), oI a_pinned cI 200 (va_cpy o_pinned pinned (0 : Int32).toNatClampNeg (0 : Int32).toNatClampNeg (200 : Int32).toNatClampNeg), oI a_age cI 200 age, oI a_content cI 200 content, oI a_roots cI 6 roots, oI a_weaks cI 4 weaks, oI a_movedTo cI 200 movedTo, oI a_reports cI 6 reports, oX1 a_o_h o_words o_depth o_allocated o_collections o_freed a_o_owner a_o_fieldCount a_o_dataCount a_o_pinned a_o_age a_o_content a_o_roots a_o_weaks a_o_movedTo a_o_reports, oI a_o_owner cI 200 o_owner, oI a_o_fieldCount cI 200 o_fieldCount, oI a_o_dataCount cI 200 o_dataCount, oI a_o_pinned cI 200 o_pinned, oI a_o_age cI 200 o_age, oI a_o_content cI 200 o_content, oI a_o_roots cI 6 o_roots, oI a_o_weaks cI 4 o_weaks, oI a_o_movedTo cI 200 o_movedTo, oI a_o_reports cI 6 o_reports]) X 15 4 dX1_copyFrom_101 kX1_copyFrom_7 kX1_copyFrom_8 kX1_copyFrom_9 kX1_copyFrom_10 rfl rfl hi4a hi4b hi4c hi4d hi4e (by decide) (Nat.le_of_ble_eq_true rfl) rfl rfl ?_
  refine r_aload_n (pc' := 105) X dX1_copyFrom_104 rfl 1 rfl rfl ?_
  refine r_get (pc' := 108) X uX1_copyFrom_X1 11 9 dX1_copyFrom_105 rfl rfl (by decide) kX1_copyFrom_14 rfl rfl ?_
  refine r_iconst (pc' := 109) X (0 : Int32) dX1_copyFrom_108 (by decide) rfl ?_
  refine r_aload_n (pc' := 110) X dX1_copyFrom_109 rfl 0 rfl rfl ?_
  refine r_get (pc' := 113) X uX1_copyFrom_X1 0 9 dX1_copyFrom_110 rfl rfl (by decide) kX1_copyFrom_14 rfl rfl ?_
  refine r_iconst (pc' := 114) X (0 : Int32) dX1_copyFrom_113 (by decide) rfl ?_
  refine r_sipush (pc' := 117) X (200 : Int32) dX1_copyFrom_114 (by decide) rfl ?_
  obtain ⟨hi5, hF⟩ := g_gt hF
  obtain ⟨hi5a, hi5b, hi5c, hi5d, hi5e⟩ := g_cpv hi5
  refine r_copy (pc' := 120) (ws' := [oX1 a_h o_words o_depth o_allocated o_collections o_freed a_owner a_fieldCount a_dataCount a_pinned a_age a_content a_roots a_weaks a_movedTo a_reports, oI a_owner cI 200 (va_cpy o_owner owner (0 : Int32).toNatClampNeg (0 : Int32).toNatClampNeg (200 : Int32).toNatClampNeg), oI a_fieldCount cI 200 (va_cpy o_fieldCount fieldCount (0 : Int32).toNatClampNeg (0 : Int32).toNatClampNeg (200 : Int32).toNatClampNeg), oI a_dataCount cI 200 (va_cpy o_dataCount dataCount (0 : Int32).toNatClampNeg (0 : Int32).toNatClampNeg (200 : Int32).toNatClampNeg), oI a_pinned cI 200 (va_cpy o_pinned pinned (0 : Int32).toNatClampNeg (0 : Int32).toNatClampNeg (200 : Int32).toNatClampNeg), oI a_age cI 200 (va_cpy o_age age (0 : Int32).toNatClampNeg (0 : Int32).toNatClampNeg (200 : Int32).toNatClampNeg), oI a_content cI 200 content, oI a_roots cI 6 roots, oI a_weaks cI 4 weaks, oI a_movedTo cI 200 movedTo, oI a_reports cI 6 reports, oX1 a_o_h o_words o_depth o_allocated o_collections o_freed a_o_owner a_o_fieldCount a_o_dataCount a_o_pinned a_o_age a_o_content a_o_roots a_o_weaks a_o_movedTo a_o_reports, oI a_o_owner cI 200 o_owner, oI a_o_fieldCount cI 200 o_fieldCount, oI a_o_dataCount cI 200 o_dataCount, oI a_o_pinned cI 200 o_pinned, oI a_o_age cI 200 o_age, oI a_o_content cI 200 o_content, oI a_o_roots cI 6 o_roots, oI a_o_weaks cI 4 o_weaks, oI a_o_movedTo cI 200 o_movedTo, oI a_o_reports cI 6 o_reports]) X 16 5 dX1_copyFrom_117 kX1_copyFrom_7 kX1_copyFrom_8 kX1_copyFrom_9 kX1_copyFrom_10 rfl rfl hi5a hi5b hi5c hi5d hi5e (by decide) (Nat.le_of_ble_eq_true rfl) rfl rfl ?_
  refine r_aload_n (pc' := 121) X dX1_copyFrom_120 rfl 1 rfl rfl ?_
  refine r_get (pc' := 124) X uX1_copyFrom_X1 11 10 dX1_copyFrom_121 rfl rfl (by decide) kX1_copyFrom_15 rfl rfl ?_
  refine r_iconst (pc' := 125) X (0 : Int32) dX1_copyFrom_124 (by decide) rfl ?_
  refine r_aload_n (pc' := 126) X dX1_copyFrom_125 rfl 0 rfl rfl ?_
  refine r_get (pc' := 129) X uX1_copyFrom_X1 0 10 dX1_copyFrom_126 rfl rfl (by decide) kX1_copyFrom_15 rfl rfl ?_
  refine r_iconst (pc' := 130) X (0 : Int32) dX1_copyFrom_129 (by decide) rfl ?_
  refine r_sipush (pc' := 133) X (200 : Int32) dX1_copyFrom_130 (by decide) rfl ?_
  obtain ⟨hi6, hF⟩ := g_gt hF
  obtain ⟨hi6a, hi6b, hi6c, hi6d, hi6e⟩ := g_cpv hi6
  refine r_copy (pc' := 136) (ws' := [oX1 a_h o_words o_depth o_allocated o_collections o_freed a_owner a_fieldCount a_dataCount a_pinned a_age a_content a_roots a_weaks a_movedTo a_reports, oI a_owner cI 200 (va_cpy o_owner owner (0 : Int32).toNatClampNeg (0 : Int32).toNatClampNeg (200 : Int32).toNatClampNeg), oI a_fieldCount cI 200 (va_cpy o_fieldCount fieldCount (0 : Int32).toNatClampNeg (0 : Int32).toNatClampNeg (200 : Int32).toNatClampNeg), oI a_dataCount cI 200 (va_cpy o_dataCount dataCount (0 : Int32).toNatClampNeg (0 : Int32).toNatClampNeg (200 : Int32).toNatClampNeg), oI a_pinned cI 200 (va_cpy o_pinned pinned (0 : Int32).toNatClampNeg (0 : Int32).toNatClampNeg (200 : Int32).toNatClampNeg), oI a_age cI 200 (va_cpy o_age age (0 : Int32).toNatClampNeg (0 : Int32).toNatClampNeg (200 : Int32).toNatClampNeg), oI a_content cI 200 (va_cpy o_content content (0 : Int32).toNatClampNeg (0 : Int32).toNatClampNeg (200 : Int32).toNatClampNeg), oI a_roots cI 6 roots, oI a_weaks cI 4 weaks, oI a_movedTo cI 200 movedTo, oI a_reports cI 6 reports, oX1 a_o_h o_words o_depth o_allocated o_collections o_freed a_o_owner a_o_fieldCount a_o_dataCount a_o_pinned a_o_age a_o_content a_o_roots a_o_weaks a_o_movedTo a_o_reports, oI a_o_owner cI 200 o_owner, oI a_o_fieldCount cI 200 o_fieldCount, oI a_o_dataCount cI 200 o_dataCount, oI a_o_pinned cI 200 o_pinned, oI a_o_age cI 200 o_age, oI a_o_content cI 200 o_content, oI a_o_roots cI 6 o_roots, oI a_o_weaks cI 4 o_weaks, oI a_o_movedTo cI 200 o_movedTo, oI a_o_reports cI 6 o_reports]) X 17 6 dX1_copyFrom_133 kX1_copyFrom_7 kX1_copyFrom_8 kX1_copyFrom_9 kX1_copyFrom_10 rfl rfl hi6a hi6b hi6c hi6d hi6e (by decide) (Nat.le_of_ble_eq_true rfl) rfl rfl ?_
  refine r_aload_n (pc' := 137) X dX1_copyFrom_136 rfl 1 rfl rfl ?_
  refine r_get (pc' := 140) X uX1_copyFrom_X1 11 11 dX1_copyFrom_137 rfl rfl (by decide) kX1_copyFrom_16 rfl rfl ?_
  refine r_iconst (pc' := 141) X (0 : Int32) dX1_copyFrom_140 (by decide) rfl ?_
  refine r_aload_n (pc' := 142) X dX1_copyFrom_141 rfl 0 rfl rfl ?_
  refine r_get (pc' := 145) X uX1_copyFrom_X1 0 11 dX1_copyFrom_142 rfl rfl (by decide) kX1_copyFrom_16 rfl rfl ?_
  refine r_iconst (pc' := 146) X (0 : Int32) dX1_copyFrom_145 (by decide) rfl ?_
  refine r_bipush (pc' := 148) X (6 : Int32) dX1_copyFrom_146 (by decide) rfl ?_
  obtain ⟨hi7, hF⟩ := g_gt hF
  obtain ⟨hi7a, hi7b, hi7c, hi7d, hi7e⟩ := g_cpv hi7
  refine r_copy (pc' := 151) (ws' := [oX1 a_h o_words o_depth o_allocated o_collections o_freed a_owner a_fieldCount a_dataCount a_pinned a_age a_content a_roots a_weaks a_movedTo a_reports, oI a_owner cI 200 (va_cpy o_owner owner (0 : Int32).toNatClampNeg (0 : Int32).toNatClampNeg (200 : Int32).toNatClampNeg), oI a_fieldCount cI 200 (va_cpy o_fieldCount fieldCount (0 : Int32).toNatClampNeg (0 : Int32).toNatClampNeg (200 : Int32).toNatClampNeg), oI a_dataCount cI 200 (va_cpy o_dataCount dataCount (0 : Int32).toNatClampNeg (0 : Int32).toNatClampNeg (200 : Int32).toNatClampNeg), oI a_pinned cI 200 (va_cpy o_pinned pinned (0 : Int32).toNatClampNeg (0 : Int32).toNatClampNeg (200 : Int32).toNatClampNeg), oI a_age cI 200 (va_cpy o_age age (0 : Int32).toNatClampNeg (0 : Int32).toNatClampNeg (200 : Int32).toNatClampNeg), oI a_content cI 200 (va_cpy o_content content (0 : Int32).toNatClampNeg (0 : Int32).toNatClampNeg (200 : Int32).toNatClampNeg), oI a_roots cI 6 (va_cpy o_roots roots (0 : Int32).toNatClampNeg (0 : Int32).toNatClampNeg (6 : Int32).toNatClampNeg), oI a_weaks cI 4 weaks, oI a_movedTo cI 200 movedTo, oI a_reports cI 6 reports, oX1 a_o_h o_words o_depth o_allocated o_collections o_freed a_o_owner a_o_fieldCount a_o_dataCount a_o_pinned a_o_age a_o_content a_o_roots a_o_weaks a_o_movedTo a_o_reports, oI a_o_owner cI 200 o_owner, oI a_o_fieldCount cI 200 o_fieldCount, oI a_o_dataCount cI 200 o_dataCount, oI a_o_pinned cI 200 o_pinned, oI a_o_age cI 200 o_age, oI a_o_content cI 200 o_content, oI a_o_roots cI 6 o_roots, oI a_o_weaks cI 4 o_weaks, oI a_o_movedTo cI 200 o_movedTo, oI a_o_reports cI 6 o_reports]) X 18 7 dX1_copyFrom_148 kX1_copyFrom_7 kX1_copyFrom_8 kX1_copyFrom_9 kX1_copyFrom_10 rfl rfl hi7a hi7b hi7c hi7d hi7e (by decide) (Nat.le_of_ble_eq_true rfl) rfl rfl ?_
  refine r_aload_n (pc' := 152) X dX1_copyFrom_151 rfl 1 rfl rfl ?_
  refine r_get (pc' := 155) X uX1_copyFrom_X1 11 12 dX1_copyFrom_152 rfl rfl (by decide) kX1_copyFrom_17 rfl rfl ?_
  refine r_iconst (pc' := 156) X (0 : Int32) dX1_copyFrom_155 (by decide) rfl ?_
  refine r_aload_n (pc' := 157) X dX1_copyFrom_156 rfl 0 rfl rfl ?_
  refine r_get (pc' := 160) X uX1_copyFrom_X1 0 12 dX1_copyFrom_157 rfl rfl (by decide) kX1_copyFrom_17 rfl rfl ?_
  refine r_iconst (pc' := 161) X (0 : Int32) dX1_copyFrom_160 (by decide) rfl ?_
  refine r_iconst (pc' := 162) X (4 : Int32) dX1_copyFrom_161 (by decide) rfl ?_
  obtain ⟨hi8, hF⟩ := g_gt hF
  obtain ⟨hi8a, hi8b, hi8c, hi8d, hi8e⟩ := g_cpv hi8
  refine r_copy (pc' := 165) (ws' := [oX1 a_h o_words o_depth o_allocated o_collections o_freed a_owner a_fieldCount a_dataCount a_pinned a_age a_content a_roots a_weaks a_movedTo a_reports, oI a_owner cI 200 (va_cpy o_owner owner (0 : Int32).toNatClampNeg (0 : Int32).toNatClampNeg (200 : Int32).toNatClampNeg), oI a_fieldCount cI 200 (va_cpy o_fieldCount fieldCount (0 : Int32).toNatClampNeg (0 : Int32).toNatClampNeg (200 : Int32).toNatClampNeg), oI a_dataCount cI 200 (va_cpy o_dataCount dataCount (0 : Int32).toNatClampNeg (0 : Int32).toNatClampNeg (200 : Int32).toNatClampNeg), oI a_pinned cI 200 (va_cpy o_pinned pinned (0 : Int32).toNatClampNeg (0 : Int32).toNatClampNeg (200 : Int32).toNatClampNeg), oI a_age cI 200 (va_cpy o_age age (0 : Int32).toNatClampNeg (0 : Int32).toNatClampNeg (200 : Int32).toNatClampNeg), oI a_content cI 200 (va_cpy o_content content (0 : Int32).toNatClampNeg (0 : Int32).toNatClampNeg (200 : Int32).toNatClampNeg), oI a_roots cI 6 (va_cpy o_roots roots (0 : Int32).toNatClampNeg (0 : Int32).toNatClampNeg (6 : Int32).toNatClampNeg), oI a_weaks cI 4 (va_cpy o_weaks weaks (0 : Int32).toNatClampNeg (0 : Int32).toNatClampNeg (4 : Int32).toNatClampNeg), oI a_movedTo cI 200 movedTo, oI a_reports cI 6 reports, oX1 a_o_h o_words o_depth o_allocated o_collections o_freed a_o_owner a_o_fieldCount a_o_dataCount a_o_pinned a_o_age a_o_content a_o_roots a_o_weaks a_o_movedTo a_o_reports, oI a_o_owner cI 200 o_owner, oI a_o_fieldCount cI 200 o_fieldCount, oI a_o_dataCount cI 200 o_dataCount, oI a_o_pinned cI 200 o_pinned, oI a_o_age cI 200 o_age, oI a_o_content cI 200 o_content, oI a_o_roots cI 6 o_roots, oI a_o_weaks cI 4 o_weaks, oI a_o_movedTo cI 200 o_movedTo, oI a_o_reports cI 6 o_reports]) X 19 8 dX1_copyFrom_162 kX1_copyFrom_7 kX1_copyFrom_8 kX1_copyFrom_9 kX1_copyFrom_10 rfl rfl hi8a hi8b hi8c hi8d hi8e (by decide) (Nat.le_of_ble_eq_true rfl) rfl rfl ?_
  refine r_aload_n (pc' := 166) X dX1_copyFrom_165 rfl 1 rfl rfl ?_
  refine r_get (pc' := 169) X uX1_copyFrom_X1 11 13 dX1_copyFrom_166 rfl rfl (by decide) kX1_copyFrom_18 rfl rfl ?_
  refine r_iconst (pc' := 170) X (0 : Int32) dX1_copyFrom_169 (by decide) rfl ?_
  refine r_aload_n (pc' := 171) X dX1_copyFrom_170 rfl 0 rfl rfl ?_
  refine r_get (pc' := 174) X uX1_copyFrom_X1 0 13 dX1_copyFrom_171 rfl rfl (by decide) kX1_copyFrom_18 rfl rfl ?_
  refine r_iconst (pc' := 175) X (0 : Int32) dX1_copyFrom_174 (by decide) rfl ?_
  refine r_sipush (pc' := 178) X (200 : Int32) dX1_copyFrom_175 (by decide) rfl ?_
  obtain ⟨hi9, hF⟩ := g_gt hF
  obtain ⟨hi9a, hi9b, hi9c, hi9d, hi9e⟩ := g_cpv hi9
  refine r_copy (pc' := 181) (ws' := [oX1 a_h o_words o_depth o_allocated o_collections o_freed a_owner a_fieldCount a_dataCount a_pinned a_age a_content a_roots a_weaks a_movedTo a_reports, oI a_owner cI 200 (va_cpy o_owner owner (0 : Int32).toNatClampNeg (0 : Int32).toNatClampNeg (200 : Int32).toNatClampNeg), oI a_fieldCount cI 200 (va_cpy o_fieldCount fieldCount (0 : Int32).toNatClampNeg (0 : Int32).toNatClampNeg (200 : Int32).toNatClampNeg), oI a_dataCount cI 200 (va_cpy o_dataCount dataCount (0 : Int32).toNatClampNeg (0 : Int32).toNatClampNeg (200 : Int32).toNatClampNeg), oI a_pinned cI 200 (va_cpy o_pinned pinned (0 : Int32).toNatClampNeg (0 : Int32).toNatClampNeg (200 : Int32).toNatClampNeg), oI a_age cI 200 (va_cpy o_age age (0 : Int32).toNatClampNeg (0 : Int32).toNatClampNeg (200 : Int32).toNatClampNeg), oI a_content cI 200 (va_cpy o_content content (0 : Int32).toNatClampNeg (0 : Int32).toNatClampNeg (200 : Int32).toNatClampNeg), oI a_roots cI 6 (va_cpy o_roots roots (0 : Int32).toNatClampNeg (0 : Int32).toNatClampNeg (6 : Int32).toNatClampNeg), oI a_weaks cI 4 (va_cpy o_weaks weaks (0 : Int32).toNatClampNeg (0 : Int32).toNatClampNeg (4 : Int32).toNatClampNeg), oI a_movedTo cI 200 (va_cpy o_movedTo movedTo (0 : Int32).toNatClampNeg (0 : Int32).toNatClampNeg (200 : Int32).toNatClampNeg), oI a_reports cI 6 reports, oX1 a_o_h o_words o_depth o_allocated o_collections o_freed a_o_owner a_o_fieldCount a_o_dataCount a_o_pinned a_o_age a_o_content a_o_roots a_o_weaks a_o_movedTo a_o_reports, oI a_o_owner cI 200 o_owner, oI a_o_fieldCount cI 200 o_fieldCount, oI a_o_dataCount cI 200 o_dataCount, oI a_o_pinned cI 200 o_pinned, oI a_o_age cI 200 o_age, oI a_o_content cI 200 o_content, oI a_o_roots cI 6 o_roots, oI a_o_weaks cI 4 o_weaks, oI a_o_movedTo cI 200 o_movedTo, oI a_o_reports cI 6 o_reports]) X 20 9 dX1_copyFrom_178 kX1_copyFrom_7 kX1_copyFrom_8 kX1_copyFrom_9 kX1_copyFrom_10 rfl rfl hi9a hi9b hi9c hi9d hi9e (by decide) (Nat.le_of_ble_eq_true rfl) rfl rfl ?_
  refine r_aload_n (pc' := 182) X dX1_copyFrom_181 rfl 1 rfl rfl ?_
  refine r_get (pc' := 185) X uX1_copyFrom_X1 11 14 dX1_copyFrom_182 rfl rfl (by decide) kX1_copyFrom_19 rfl rfl ?_
  refine r_iconst (pc' := 186) X (0 : Int32) dX1_copyFrom_185 (by decide) rfl ?_
  refine r_aload_n (pc' := 187) X dX1_copyFrom_186 rfl 0 rfl rfl ?_
  refine r_get (pc' := 190) X uX1_copyFrom_X1 0 14 dX1_copyFrom_187 rfl rfl (by decide) kX1_copyFrom_19 rfl rfl ?_
  refine r_iconst (pc' := 191) X (0 : Int32) dX1_copyFrom_190 (by decide) rfl ?_
  refine r_bipush (pc' := 193) X (6 : Int32) dX1_copyFrom_191 (by decide) rfl ?_
  obtain ⟨hi10, hF⟩ := g_gt hF
  obtain ⟨hi10a, hi10b, hi10c, hi10d, hi10e⟩ := g_cpv hi10
  refine r_copy (pc' := 196) (ws' := [oX1 a_h o_words o_depth o_allocated o_collections o_freed a_owner a_fieldCount a_dataCount a_pinned a_age a_content a_roots a_weaks a_movedTo a_reports, oI a_owner cI 200 (va_cpy o_owner owner (0 : Int32).toNatClampNeg (0 : Int32).toNatClampNeg (200 : Int32).toNatClampNeg), oI a_fieldCount cI 200 (va_cpy o_fieldCount fieldCount (0 : Int32).toNatClampNeg (0 : Int32).toNatClampNeg (200 : Int32).toNatClampNeg), oI a_dataCount cI 200 (va_cpy o_dataCount dataCount (0 : Int32).toNatClampNeg (0 : Int32).toNatClampNeg (200 : Int32).toNatClampNeg), oI a_pinned cI 200 (va_cpy o_pinned pinned (0 : Int32).toNatClampNeg (0 : Int32).toNatClampNeg (200 : Int32).toNatClampNeg), oI a_age cI 200 (va_cpy o_age age (0 : Int32).toNatClampNeg (0 : Int32).toNatClampNeg (200 : Int32).toNatClampNeg), oI a_content cI 200 (va_cpy o_content content (0 : Int32).toNatClampNeg (0 : Int32).toNatClampNeg (200 : Int32).toNatClampNeg), oI a_roots cI 6 (va_cpy o_roots roots (0 : Int32).toNatClampNeg (0 : Int32).toNatClampNeg (6 : Int32).toNatClampNeg), oI a_weaks cI 4 (va_cpy o_weaks weaks (0 : Int32).toNatClampNeg (0 : Int32).toNatClampNeg (4 : Int32).toNatClampNeg), oI a_movedTo cI 200 (va_cpy o_movedTo movedTo (0 : Int32).toNatClampNeg (0 : Int32).toNatClampNeg (200 : Int32).toNatClampNeg), oI a_reports cI 6 (va_cpy o_reports reports (0 : Int32).toNatClampNeg (0 : Int32).toNatClampNeg (6 : Int32).toNatClampNeg), oX1 a_o_h o_words o_depth o_allocated o_collections o_freed a_o_owner a_o_fieldCount a_o_dataCount a_o_pinned a_o_age a_o_content a_o_roots a_o_weaks a_o_movedTo a_o_reports, oI a_o_owner cI 200 o_owner, oI a_o_fieldCount cI 200 o_fieldCount, oI a_o_dataCount cI 200 o_dataCount, oI a_o_pinned cI 200 o_pinned, oI a_o_age cI 200 o_age, oI a_o_content cI 200 o_content, oI a_o_roots cI 6 o_roots, oI a_o_weaks cI 4 o_weaks, oI a_o_movedTo cI 200 o_movedTo, oI a_o_reports cI 6 o_reports]) X 21 10 dX1_copyFrom_193 kX1_copyFrom_7 kX1_copyFrom_8 kX1_copyFrom_9 kX1_copyFrom_10 rfl rfl hi10a hi10b hi10c hi10d hi10e (by decide) (Nat.le_of_ble_eq_true rfl) rfl rfl ?_
  cases hF
  exact RT.2.2 0 0 _ _ _ rfl dX1_copyFrom_196 ⟨rfl, rfl⟩ (Nat.le_refl 0) (Nat.le_refl 0)
