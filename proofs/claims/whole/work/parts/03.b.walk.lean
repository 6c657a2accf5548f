theorem kX4_tallyRow_1 : Cond.fieldLink RX4 9 "IslandHeap$Referrers" "tallies" "[I" ∈ wsX4_tallyRow := List.mem_of_getElem? (i := 1) (by decide +kernel)
theorem uX4_tallyRow_X4 : ∀ w ∈ u_ws RX4 TX4 1, w ∈ wsX4_tallyRow := by decide +kernel
set_option maxHeartbeats 4000000 in
set_option maxRecDepth 100000 in
theorem mX4_tallyRow (D : va_G) (cI cZ cH : ClassId) (a_f : Nat) (a_tallies : Nat) (a_h : Nat) (a_owner : Nat) (a_row : Nat) (a_fieldCount : Nat) (a_dataCount : Nat) (a_pinned : Nat) (a_age : Nat) (a_content : Nat) (a_roots : Nat) (a_weaks : Nat) (a_movedTo : Nat) (a_reports : Nat) (tallies : Nat → Int32) (words : Int32) (depth : Int32) (allocated : Int32) (collections : Int32) (freed : Int32) (owner : Nat → Int32) (row : Nat → Int32) (n_row : Nat) (p3 : Int32) (p4 : Int32) (w_tallies : Nat → Int32) (hF : FX4_tallyRow tallies words owner row n_row p3 p4 = some w_tallies) : g_CM yX4_tallyRow wsX4_tallyRow ({ frames := 2, cells := 0, slots := 0, locals := 42 }) D cI cZ cH [.ref a_f, .ref a_h, .ref a_row, .int p3, .int p4] [oX4 a_f a_tallies, oI a_tallies cI 200 tallies, oX1 a_h words depth allocated collections freed a_owner a_fieldCount a_dataCount a_pinned a_age a_content a_roots a_weaks a_movedTo a_reports, oI a_owner cI 200 owner, oI a_row cI n_row row] 0 0 (g_Tm (none) [oX4 a_f a_tallies, oI a_tallies cI 200 w_tallies, oX1 a_h words depth allocated collections freed a_owner a_fieldCount a_dataCount a_pinned a_age a_content a_roots a_weaks a_movedTo a_reports, oI a_owner cI 200 owner, oI a_row cI n_row row]) := by
  refine g_met (own := RX4) (mn := "tallyRow") (cc := cX4_tallyRow) (maxL := 7) (ret := none) rfl rfl (by decide +kernel) rfl (Nat.le_of_ble_eq_true rfl) (fun G X RT => ?_)
  show G 0 0 [oX4 a_f a_tallies, oI a_tallies cI 200 tallies, oX1 a_h words depth allocated collections freed a_owner a_fieldCount a_dataCount a_pinned a_age a_content a_roots a_weaks a_movedTo a_reports, oI a_owner cI 200 owner, oI a_row cI n_row row] [(0, .ref a_f), (1, .ref a_h), (2, .ref a_row), (3, .int p3), (4, .int p4)] 0 []
  unfold FX4_tallyRow at hF
  refine r_iload_n (pc' := 1) X dX4_tallyRow_0 rfl 3 rfl rfl ?_
  refine r_istore (pc' := 3) (lv' := [(0, .ref a_f), (1, .ref a_h), (2, .ref a_row), (3, .int p3), (4, .int p4), (5, .int p3)]) X dX4_tallyRow_1 (by decide) [1, 2, 3, 4, 5, 0] rfl rfl ?_
  obtain ⟨ex3, hR, hF⟩ := g_bd hF
  have hE3 : ∀ (tallies_3 : Nat → Int32), tallies_3 = ex3 → G 0 0 [oX4 a_f a_tallies, oI a_tallies cI 200 tallies_3, oX1 a_h words depth allocated collections freed a_owner a_fieldCount a_dataCount a_pinned a_age a_content a_roots a_weaks a_movedTo a_reports, oI a_owner cI 200 owner, oI a_row cI n_row row] [] 50 [] := by
    intro tallies_3 hx; subst hx
    cases hF
    exact RT.2.2 0 0 _ _ _ rfl dX4_tallyRow_50 ⟨rfl, rfl⟩ (Nat.le_refl 0) (Nat.le_refl 0)
  have hL3 : ∀ (fu : Nat) (v5_1 : Int32) (tallies_2 : Nat → Int32), g_itn (FX4_tallyRow_L3 words owner row n_row p4) fu (v5_1, tallies_2) = some ex3 → G 0 0 [oX4 a_f a_tallies, oI a_tallies cI 200 tallies_2, oX1 a_h words depth allocated collections freed a_owner a_fieldCount a_dataCount a_pinned a_age a_content a_roots a_weaks a_movedTo a_reports, oI a_owner cI 200 owner, oI a_row cI n_row row] [(0, .ref a_f), (1, .ref a_h), (2, .ref a_row), (4, .int p4), (5, .int v5_1)] 3 [] := by
    intro fu
    induction fu with
    | zero => intro v5_1 tallies_2 h9; exact (g_it0 h9).elim
    | succ fu ih =>
      intro v5_1 tallies_2 h9
      obtain ⟨y3, hF, hI3⟩ := g_its h9
      unfold FX4_tallyRow_L3 at hF
      refine r_iload (pc' := 5) X dX4_tallyRow_3 4 rfl rfl ?_
      refine r_iload (pc' := 7) X dX4_tallyRow_5 3 rfl rfl ?_
      refine r_icmp_ge (pc' := 10) X 50 dX4_tallyRow_7 (by decide) rfl (fun c9 => ?_) (fun c9 => ?_)
      · replace hF := g_t c9 hF
        cases hF
        refine r_sub (lv' := []) X [] rfl ?_
        exact hE3 tallies_2 hI3
      · replace hF := g_f c9 hF
        refine r_iload (pc' := 12) X dX4_tallyRow_10 4 rfl rfl ?_
        refine r_aload_n (pc' := 13) X dX4_tallyRow_12 rfl 2 rfl rfl ?_
        refine r_alen (pc' := 14) X 4 0 dX4_tallyRow_13 rfl rfl rfl ?_
        refine r_icmp_ge (pc' := 17) X 50 dX4_tallyRow_14 (by decide) rfl (fun c9 => ?_) (fun c9 => ?_)
        · replace hF := g_t c9 hF
          cases hF
          refine r_sub (lv' := []) X [] rfl ?_
          exact hE3 tallies_2 hI3
        · replace hF := g_f c9 hF
          refine r_aload_n (pc' := 18) X dX4_tallyRow_17 rfl 1 rfl rfl ?_
          refine r_aload_n (pc' := 19) X dX4_tallyRow_18 rfl 2 rfl rfl ?_
          refine r_iload (pc' := 21) X dX4_tallyRow_19 4 rfl rfl ?_
          obtain ⟨hi4, hF⟩ := g_gt hF
          refine r_iald (pc' := 22) X 4 dX4_tallyRow_21 rfl (g_vi hi4) rfl ?_
          obtain ⟨r5, hc6, hF⟩ := g_bd hF
          refine r_callVF (pc' := 25) (ws' := [oX4 a_f a_tallies, oI a_tallies cI 200 tallies_2, oX1 a_h words depth allocated collections freed a_owner a_fieldCount a_dataCount a_pinned a_age a_content a_roots a_weaks a_movedTo a_reports, oI a_owner cI 200 owner, oI a_row cI n_row row]) (st' := [.int r5]) X (mX1_objectAt D cI cZ cH a_h a_owner a_fieldCount a_dataCount a_pinned a_age a_content a_roots a_weaks a_movedTo a_reports words depth allocated collections freed owner (row v5_1.toNatClampNeg) r5 hc6) 1 gX4_tallyRow_X1_objectAt rfl (by decide +kernel) rfl rfl ⟨Nat.le_of_ble_eq_true rfl, Nat.le_of_ble_eq_true rfl⟩ ⟨Nat.le_of_ble_eq_true rfl, Nat.le_of_ble_eq_true rfl⟩ rfl (Nat.le_of_ble_eq_true rfl) dX4_tallyRow_22 2 rfl rfl [2, 3] rfl rfl rfl rfl rfl rfl ?_
          refine r_istore (pc' := 27) (lv' := [(0, .ref a_f), (1, .ref a_h), (2, .ref a_row), (4, .int p4), (5, .int v5_1), (6, .int r5)]) X dX4_tallyRow_25 (by decide) [1, 2, 3, 4, 5, 0] rfl rfl ?_
          refine r_iload (pc' := 29) X dX4_tallyRow_27 5 rfl rfl ?_
          refine r_iconst (pc' := 30) X (-1 : Int32) dX4_tallyRow_29 (by decide) rfl ?_
          obtain ⟨exJ8, hR, hF⟩ := g_bd hF
          have hJ8 : ∀ (tallies_7 : Nat → Int32), tallies_7 = exJ8 → G 0 0 [oX4 a_f a_tallies, oI a_tallies cI 200 tallies_7, oX1 a_h words depth allocated collections freed a_owner a_fieldCount a_dataCount a_pinned a_age a_content a_roots a_weaks a_movedTo a_reports, oI a_owner cI 200 owner, oI a_row cI n_row row] [(0, .ref a_f), (1, .ref a_h), (2, .ref a_row), (4, .int p4), (5, .int v5_1)] 44 [] := by
            intro tallies_7 hx; subst hx
            refine r_iinc (pc' := 47) (lv' := [(0, .ref a_f), (1, .ref a_h), (2, .ref a_row), (4, .int p4), (5, .int (v5_1 + (1 : Int32)))]) X (v5_1 + (1 : Int32)) dX4_tallyRow_44 4 rfl (congrArg (fun z => v5_1 + z) (by decide)) (by decide) [1, 2, 3, 4, 0] rfl rfl ?_
            refine r_goto X 3 dX4_tallyRow_47 (by decide) ?_
            cases hF
            exact ih (v5_1 + (1 : Int32)) tallies_7 hI3
          replace hF := hR
          refine r_icmp_eq (pc' := 33) X 44 dX4_tallyRow_30 (by decide) rfl (fun c9 => ?_) (fun c9 => ?_)
          · replace hF := g_t c9 hF
            refine r_sub (lv' := [(0, .ref a_f), (1, .ref a_h), (2, .ref a_row), (4, .int p4), (5, .int v5_1)]) X [0, 1, 2, 3, 4] rfl ?_
            exact hJ8 tallies_2 (Option.some.inj hF)
          · replace hF := g_f c9 hF
            refine r_aload_n (pc' := 34) X dX4_tallyRow_33 rfl 0 rfl rfl ?_
            refine r_get (pc' := 37) X uX4_tallyRow_X4 0 0 dX4_tallyRow_34 rfl rfl (by decide) kX4_tallyRow_1 rfl rfl ?_
            refine r_iload (pc' := 39) X dX4_tallyRow_37 5 rfl rfl ?_
            refine r_dup2 (pc' := 40) X dX4_tallyRow_39 rfl rfl rfl ?_
            obtain ⟨hi9, hF⟩ := g_gt hF
            refine r_iald (pc' := 41) X 1 dX4_tallyRow_40 rfl (g_vi hi9) rfl ?_
            refine r_iconst (pc' := 42) X (1 : Int32) dX4_tallyRow_41 (by decide) rfl ?_
            refine r_iadd (pc' := 43) X dX4_tallyRow_42 rfl ?_
            obtain ⟨hi10, hF⟩ := g_gt hF
            refine r_iast (pc' := 44) (ws' := [oX4 a_f a_tallies, oI a_tallies cI 200 (upd tallies_2 r5.toNatClampNeg ((tallies_2 r5.toNatClampNeg) + (1 : Int32))), oX1 a_h words depth allocated collections freed a_owner a_fieldCount a_dataCount a_pinned a_age a_content a_roots a_weaks a_movedTo a_reports, oI a_owner cI 200 owner, oI a_row cI n_row row]) X 1 dX4_tallyRow_43 rfl (g_vi hi10) rfl rfl ?_
            refine r_sub (lv' := [(0, .ref a_f), (1, .ref a_h), (2, .ref a_row), (4, .int p4), (5, .int v5_1)]) X [0, 1, 2, 3, 4] rfl ?_
            exact hJ8 (upd tallies_2 r5.toNatClampNeg ((tallies_2 r5.toNatClampNeg) + (1 : Int32))) (Option.some.inj hF)
  refine r_sub (lv' := [(0, .ref a_f), (1, .ref a_h), (2, .ref a_row), (4, .int p4), (5, .int p3)]) X [0, 1, 2, 4, 5] rfl ?_
  exact hL3 g_fuel p3 tallies hR
theorem kX4_tally_1 : Cond.fieldLink RX4 9 "IslandHeap$Referrers" "tallies" "[I" ∈ wsX4_tally := List.mem_of_getElem? (i := 1) (by decide +kernel)
theorem kX4_tally_2 : Cond.fieldLink RX4 21 "IslandHeap$Heap" "roots" "[I" ∈ wsX4_tally := List.mem_of_getElem? (i := 2) (by decide +kernel)
theorem kX4_tally_3 : Cond.fieldLink RX4 30 "IslandHeap$Heap" "weaks" "[I" ∈ wsX4_tally := List.mem_of_getElem? (i := 3) (by decide +kernel)
theorem kX4_tally_4 : Cond.fieldLink RX4 33 "IslandHeap$Heap" "words" "I" ∈ wsX4_tally := List.mem_of_getElem? (i := 4) (by decide +kernel)
theorem kX4_tally_5 : Cond.fieldLink RX4 41 "IslandHeap$Heap" "content" "[I" ∈ wsX4_tally := List.mem_of_getElem? (i := 5) (by decide +kernel)
theorem kX4_tally_6 : Cond.fieldLink RX4 44 "IslandHeap$Heap" "fieldCount" "[I" ∈ wsX4_tally := List.mem_of_getElem? (i := 6) (by decide +kernel)
theorem uX4_tally_X4 : ∀ w ∈ u_ws RX4 TX4 1, w ∈ wsX4_tally := by decide +kernel
theorem uX4_tally_X1 : ∀ w ∈ u_ws RX1 TX1 15, w ∈ wsX4_tally := by decide +kernel
set_option maxHeartbeats 4000000 in
set_option maxRecDepth 100000 in
theorem mX4_tally (D : va_G) (cI cZ cH : ClassId) (a_f : Nat) (a_tallies : Nat) (a_h : Nat) (a_owner : Nat) (a_fieldCount : Nat) (a_content : Nat) (a_roots : Nat) (a_weaks : Nat) (a_dataCount : Nat) (a_pinned : Nat) (a_age : Nat) (a_movedTo : Nat) (a_reports : Nat) (tallies : Nat → Int32) (words : Int32) (depth : Int32) (allocated : Int32) (collections : Int32) (freed : Int32) (owner : Nat → Int32) (fieldCount : Nat → Int32) (content : Nat → Int32) (roots : Nat → Int32) (weaks : Nat → Int32) (w_tallies : Nat → Int32) (hF : FX4_tally tallies words owner fieldCount content roots weaks = some w_tallies) : g_CM yX4_tally wsX4_tally ({ frames := 3, cells := 0, slots := 0, locals := 68 }) D cI cZ cH [.ref a_f, .ref a_h] [oX4 a_f a_tallies, oI a_tallies cI 200 tallies, oX1 a_h words depth allocated collections freed a_owner a_fieldCount a_dataCount a_pinned a_age a_content a_roots a_weaks a_movedTo a_reports, oI a_owner cI 200 owner, oI a_fieldCount cI 200 fieldCount, oI a_content cI 200 content, oI a_roots cI 6 roots, oI a_weaks cI 4 weaks] 0 0 (g_Tm (none) [oX4 a_f a_tallies, oI a_tallies cI 200 w_tallies, oX1 a_h words depth allocated collections freed a_owner a_fieldCount a_dataCount a_pinned a_age a_content a_roots a_weaks a_movedTo a_reports, oI a_owner cI 200 owner, oI a_fieldCount cI 200 fieldCount, oI a_content cI 200 content, oI a_roots cI 6 roots, oI a_weaks cI 4 weaks]) := by
  refine g_met (own := RX4) (mn := "tally") (cc := cX4_tally) (maxL := 3) (ret := none) rfl rfl (by decide +kernel) rfl (Nat.le_of_ble_eq_true rfl) (fun G X RT => ?_)
  show G 0 0 [oX4 a_f a_tallies, oI a_tallies cI 200 tallies, oX1 a_h words depth allocated collections freed a_owner a_fieldCount a_dataCount a_pinned a_age a_content a_roots a_weaks a_movedTo a_reports, oI a_owner cI 200 owner, oI a_fieldCount cI 200 fieldCount, oI a_content cI 200 content, oI a_roots cI 6 roots, oI a_weaks cI 4 weaks] [(0, .ref a_f), (1, .ref a_h)] 0 []
  unfold FX4_tally at hF
  refine r_aload_n (pc' := 1) X dX4_tally_0 rfl 0 rfl rfl ?_
  refine r_get (pc' := 4) X uX4_tally_X4 0 0 dX4_tally_1 rfl rfl (by decide) kX4_tally_1 rfl rfl ?_
  refine r_iconst (pc' := 5) X (0 : Int32) dX4_tally_4 (by decide) rfl ?_
  obtain ⟨tallies_1, hc2, hF⟩ := g_bd hF
  refine r_callSF (pc' := 8) (ws' := [oX4 a_f a_tallies, oI a_tallies cI 200 tallies_1, oX1 a_h words depth allocated collections freed a_owner a_fieldCount a_dataCount a_pinned a_age a_content a_roots a_weaks a_movedTo a_reports, oI a_owner cI 200 owner, oI a_fieldCount cI 200 fieldCount, oI a_content cI 200 content, oI a_roots cI 6 roots, oI a_weaks cI 4 weaks]) (st' := []) X (mJ7_fill_53178 D cI cZ cH a_tallies tallies 200 (0 : Int32) tallies_1 hc2) 2 gX4_tally_J7_fill_53178 rfl (by decide +kernel) rfl rfl ⟨Nat.le_of_ble_eq_true rfl, Nat.le_of_ble_eq_true rfl⟩ ⟨Nat.le_of_ble_eq_true rfl, Nat.le_of_ble_eq_true rfl⟩ rfl (Nat.le_of_ble_eq_true rfl) dX4_tally_5 [1] rfl rfl rfl rfl rfl rfl ?_
  refine r_aload_n (pc' := 9) X dX4_tally_8 rfl 0 rfl rfl ?_
  refine r_aload_n (pc' := 10) X dX4_tally_9 rfl 1 rfl rfl ?_
  refine r_aload_n (pc' := 11) X dX4_tally_10 rfl 1 rfl rfl ?_
  refine r_get (pc' := 14) X uX4_tally_X1 2 11 dX4_tally_11 rfl rfl (by decide) kX4_tally_2 rfl rfl ?_
  refine r_iconst (pc' := 15) X (0 : Int32) dX4_tally_14 (by decide) rfl ?_
  refine r_bipush (pc' := 17) X (6 : Int32) dX4_tally_15 (by decide) rfl ?_
  obtain ⟨tallies_3, hc4, hF⟩ := g_bd hF
  refine r_callVF (pc' := 20) (ws' := [oX4 a_f a_tallies, oI a_tallies cI 200 tallies_3, oX1 a_h words depth allocated collections freed a_owner a_fieldCount a_dataCount a_pinned a_age a_content a_roots a_weaks a_movedTo a_reports, oI a_owner cI 200 owner, oI a_fieldCount cI 200 fieldCount, oI a_content cI 200 content, oI a_roots cI 6 roots, oI a_weaks cI 4 weaks]) (st' := []) X (mX4_tallyRow D cI cZ cH a_f a_tallies a_h a_owner a_roots a_fieldCount a_dataCount a_pinned a_age a_content a_roots a_weaks a_movedTo a_reports tallies_1 words depth allocated collections freed owner roots 6 (0 : Int32) (6 : Int32) tallies_3 hc4) 4 gX4_tally_X4_tallyRow rfl (by decide +kernel) rfl rfl ⟨Nat.le_of_ble_eq_true rfl, Nat.le_of_ble_eq_true rfl⟩ ⟨Nat.le_of_ble_eq_true rfl, Nat.le_of_ble_eq_true rfl⟩ rfl (Nat.le_of_ble_eq_true rfl) dX4_tally_17 0 rfl rfl [0, 1, 2, 3, 6] rfl rfl rfl rfl rfl rfl ?_
  refine r_aload_n (pc' := 21) X dX4_tally_20 rfl 0 rfl rfl ?_
  refine r_aload_n (pc' := 22) X dX4_tally_21 rfl 1 rfl rfl ?_
  refine r_aload_n (pc' := 23) X dX4_tally_22 rfl 1 rfl rfl ?_
  refine r_get (pc' := 26) X uX4_tally_X1 2 12 dX4_tally_23 rfl rfl (by decide) kX4_tally_3 rfl rfl ?_
  refine r_iconst (pc' := 27) X (0 : Int32) dX4_tally_26 (by decide) rfl ?_
  refine r_iconst (pc' := 28) X (4 : Int32) dX4_tally_27 (by decide) rfl ?_
  obtain ⟨tallies_5, hc6, hF⟩ := g_bd hF
  refine r_callVF (pc' := 31) (ws' := [oX4 a_f a_tallies, oI a_tallies cI 200 tallies_5, oX1 a_h words depth allocated collections freed a_owner a_fieldCount a_dataCount a_pinned a_age a_content a_roots a_weaks a_movedTo a_reports, oI a_owner cI 200 owner, oI a_fieldCount cI 200 fieldCount, oI a_content cI 200 content, oI a_roots cI 6 roots, oI a_weaks cI 4 weaks]) (st' := []) X (mX4_tallyRow D cI cZ cH a_f a_tallies a_h a_owner a_weaks a_fieldCount a_dataCount a_pinned a_age a_content a_roots a_weaks a_movedTo a_reports tallies_3 words depth allocated collections freed owner weaks 4 (0 : Int32) (4 : Int32) tallies_5 hc6) 4 gX4_tally_X4_tallyRow rfl (by decide +kernel) rfl rfl ⟨Nat.le_of_ble_eq_true rfl, Nat.le_of_ble_eq_true rfl⟩ ⟨Nat.le_of_ble_eq_true rfl, Nat.le_of_ble_eq_true rfl⟩ rfl (Nat.le_of_ble_eq_true rfl) dX4_tally_28 0 rfl rfl [0, 1, 2, 3, 7] rfl rfl rfl rfl rfl rfl ?_
  refine r_iconst (pc' := 32) X (0 : Int32) dX4_tally_31 (by decide) rfl ?_
  refine r_istore_n (pc' := 33) (lv' := [(0, .ref a_f), (1, .ref a_h), (2, .int (0 : Int32))]) X dX4_tally_32 rfl (by decide) [1, 2, 0] rfl rfl ?_
  obtain ⟨ex33, hR, hF⟩ := g_bd hF
  have hE33 : ∀ (tallies_9 : Nat → Int32), tallies_9 = ex33 → G 0 0 [oX4 a_f a_tallies, oI a_tallies cI 200 tallies_9, oX1 a_h words depth allocated collections freed a_owner a_fieldCount a_dataCount a_pinned a_age a_content a_roots a_weaks a_movedTo a_reports, oI a_owner cI 200 owner, oI a_fieldCount cI 200 fieldCount, oI a_content cI 200 content, oI a_roots cI 6 roots, oI a_weaks cI 4 weaks] [] 77 [] := by
    intro tallies_9 hx; subst hx
    cases hF
    exact RT.2.2 0 0 _ _ _ rfl dX4_tally_77 ⟨rfl, rfl⟩ (Nat.le_refl 0) (Nat.le_refl 0)
  have hL33 : ∀ (fu : Nat) (v2_7 : Int32) (tallies_8 : Nat → Int32), g_itn (FX4_tally_L33 words owner fieldCount content) fu (v2_7, tallies_8) = some ex33 → G 0 0 [oX4 a_f a_tallies, oI a_tallies cI 200 tallies_8, oX1 a_h words depth allocated collections freed a_owner a_fieldCount a_dataCount a_pinned a_age a_content a_roots a_weaks a_movedTo a_reports, oI a_owner cI 200 owner, oI a_fieldCount cI 200 fieldCount, oI a_content cI 200 content, oI a_roots cI 6 roots, oI a_weaks cI 4 weaks] [(0, .ref a_f), (1, .ref a_h), (2, .int v2_7)] 33 [] := by
    intro fu
    induction fu with
    | zero => intro v2_7 tallies_8 h9; exact (g_it0 h9).elim
    | succ fu ih =>
      intro v2_7 tallies_8 h9
      obtain ⟨y33, hF, hI33⟩ := g_its h9
      unfold FX4_tally_L33 at hF
      refine r_iload_n (pc' := 34) X dX4_tally_33 rfl 2 rfl rfl ?_
      refine r_aload_n (pc' := 35) X dX4_tally_34 rfl 1 rfl rfl ?_
      refine r_get (pc' := 38) X uX4_tally_X1 2 0 dX4_tally_35 rfl rfl (by decide) kX4_tally_4 rfl rfl ?_
      refine r_icmp_ge (pc' := 41) X 77 dX4_tally_38 (by decide) rfl (fun c9 => ?_) (fun c9 => ?_)
      · replace hF := g_t c9 hF
        cases hF
        refine r_sub (lv' := []) X [] rfl ?_
        exact hE33 tallies_8 hI33
      · replace hF := g_f c9 hF
        refine r_aload_n (pc' := 42) X dX4_tally_41 rfl 1 rfl rfl ?_
        refine r_iload_n (pc' := 43) X dX4_tally_42 rfl 2 rfl rfl ?_
        obtain ⟨r10, hc11, hF⟩ := g_bd hF
        refine r_callVF (pc' := 46) (ws' := [oX4 a_f a_tallies, oI a_tallies cI 200 tallies_8, oX1 a_h words depth allocated collections freed a_owner a_fieldCount a_dataCount a_pinned a_age a_content a_roots a_weaks a_movedTo a_reports, oI a_owner cI 200 owner, oI a_fieldCount cI 200 fieldCount, oI a_content cI 200 content, oI a_roots cI 6 roots, oI a_weaks cI 4 weaks]) (st' := [.int r10]) X (mX1_isObject D cI cZ cH a_h a_owner a_fieldCount a_dataCount a_pinned a_age a_content a_roots a_weaks a_movedTo a_reports words depth allocated collections freed owner v2_7 r10 hc11) 1 gX4_tally_X1_isObject rfl (by decide +kernel) rfl rfl ⟨Nat.le_of_ble_eq_true rfl, Nat.le_of_ble_eq_true rfl⟩ ⟨Nat.le_of_ble_eq_true rfl, Nat.le_of_ble_eq_true rfl⟩ rfl (Nat.le_of_ble_eq_true rfl) dX4_tally_43 2 rfl rfl [2, 3] rfl rfl rfl rfl rfl rfl ?_
        obtain ⟨exJ13, hR, hF⟩ := g_bd hF
        have hJ13 : ∀ (tallies_12 : Nat → Int32), tallies_12 = exJ13 → G 0 0 [oX4 a_f a_tallies, oI a_tallies cI 200 tallies_12, oX1 a_h words depth allocated collections freed a_owner a_fieldCount a_dataCount a_pinned a_age a_content a_roots a_weaks a_movedTo a_reports, oI a_owner cI 200 owner, oI a_fieldCount cI 200 fieldCount, oI a_content cI 200 content, oI a_roots cI 6 roots, oI a_weaks cI 4 weaks] [(0, .ref a_f), (1, .ref a_h), (2, .int v2_7)] 71 [] := by
          intro tallies_12 hx; subst hx
          refine r_iinc (pc' := 74) (lv' := [(0, .ref a_f), (1, .ref a_h), (2, .int (v2_7 + (1 : Int32)))]) X (v2_7 + (1 : Int32)) dX4_tally_71 2 rfl (congrArg (fun z => v2_7 + z) (by decide)) (by decide) [1, 2, 0] rfl rfl ?_
          refine r_goto X 33 dX4_tally_74 (by decide) ?_
          cases hF
          exact ih (v2_7 + (1 : Int32)) tallies_12 hI33
        replace hF := hR
        refine r_if_eq (pc' := 49) X 71 dX4_tally_46 (by decide) rfl (fun c9 => ?_) (fun c9 => ?_)
        · replace hF := g_t c9 hF
          exact hJ13 tallies_8 (Option.some.inj hF)
        · replace hF := g_f c9 hF
          refine r_aload_n (pc' := 50) X dX4_tally_49 rfl 0 rfl rfl ?_
          refine r_aload_n (pc' := 51) X dX4_tally_50 rfl 1 rfl rfl ?_
          refine r_aload_n (pc' := 52) X dX4_tally_51 rfl 1 rfl rfl ?_
          refine r_get (pc' := 55) X uX4_tally_X1 2 10 dX4_tally_52 rfl rfl (by decide) kX4_tally_5 rfl rfl ?_
          refine r_iload_n (pc' := 56) X dX4_tally_55 rfl 2 rfl rfl ?_
          refine r_iconst (pc' := 57) X (1 : Int32) dX4_tally_56 (by decide) rfl ?_
          refine r_iadd (pc' := 58) X dX4_tally_57 rfl ?_
          refine r_iload_n (pc' := 59) X dX4_tally_58 rfl 2 rfl rfl ?_
          refine r_iconst (pc' := 60) X (1 : Int32) dX4_tally_59 (by decide) rfl ?_
          refine r_iadd (pc' := 61) X dX4_tally_60 rfl ?_
          refine r_aload_n (pc' := 62) X dX4_tally_61 rfl 1 rfl rfl ?_
          refine r_get (pc' := 65) X uX4_tally_X1 2 6 dX4_tally_62 rfl rfl (by decide) kX4_tally_6 rfl rfl ?_
          refine r_iload_n (pc' := 66) X dX4_tally_65 rfl 2 rfl rfl ?_
          obtain ⟨hi14, hF⟩ := g_gt hF
          refine r_iald (pc' := 67) X 4 dX4_tally_66 rfl (g_vi hi14) rfl ?_
          refine r_iadd (pc' := 68) X dX4_tally_67 rfl ?_
          obtain ⟨tallies_15, hc16, hF⟩ := g_bd hF
          refine r_callVF (pc' := 71) (ws' := [oX4 a_f a_tallies, oI a_tallies cI 200 tallies_15, oX1 a_h words depth allocated collections freed a_owner a_fieldCount a_dataCount a_pinned a_age a_content a_roots a_weaks a_movedTo a_reports, oI a_owner cI 200 owner, oI a_fieldCount cI 200 fieldCount, oI a_content cI 200 content, oI a_roots cI 6 roots, oI a_weaks cI 4 weaks]) (st' := []) X (mX4_tallyRow D cI cZ cH a_f a_tallies a_h a_owner a_content a_fieldCount a_dataCount a_pinned a_age a_content a_roots a_weaks a_movedTo a_reports tallies_8 words depth allocated collections freed owner content 200 (v2_7 + (1 : Int32)) ((v2_7 + (1 : Int32)) + (fieldCount v2_7.toNatClampNeg)) tallies_15 hc16) 4 gX4_tally_X4_tallyRow rfl (by decide +kernel) rfl rfl ⟨Nat.le_of_ble_eq_true rfl, Nat.le_of_ble_eq_true rfl⟩ ⟨Nat.le_of_ble_eq_true rfl, Nat.le_of_ble_eq_true rfl⟩ rfl (Nat.le_of_ble_eq_true rfl) dX4_tally_68 0 rfl rfl [0, 1, 2, 3, 5] rfl rfl rfl rfl rfl rfl ?_
          exact hJ13 tallies_15 (Option.some.inj hF)
  exact hL33 g_fuel (0 : Int32) tallies_5 hR
theorem kX3_arrive_1 : Cond.fieldLink RX3 9 "IslandHeap$Reach" "steps" "[I" ∈ wsX3_arrive := List.mem_of_getElem? (i := 1) (by decide +kernel)
theorem kX3_arrive_2 : Cond.fieldLink RX3 24 "IslandHeap$Reach" "queued" "I" ∈ wsX3_arrive := List.mem_of_getElem? (i := 2) (by decide +kernel)
theorem kX3_arrive_3 : Cond.fieldLink RX3 15 "IslandHeap$Reach" "queue" "[I" ∈ wsX3_arrive := List.mem_of_getElem? (i := 3) (by decide +kernel)
theorem uX3_arrive_X3 : ∀ w ∈ u_ws RX3 TX3 3, w ∈ wsX3_arrive := by decide +kernel
set_option maxHeartbeats 4000000 in
set_option maxRecDepth 100000 in
theorem mX3_arrive (D : va_G) (cI cZ cH : ClassId) (a_r : Nat) (a_steps : Nat) (a_queue : Nat) (queued : Int32) (steps : Nat → Int32) (queue : Nat → Int32) (p1 : Int32) (p2 : Int32) (p3 : Int32) (w_queued : Int32) (w_steps : Nat → Int32) (w_queue : Nat → Int32) (hF : FX3_arrive queued steps queue p1 p2 p3 = some (w_queued, w_steps, w_queue)) : g_CM yX3_arrive wsX3_arrive ({ frames := 0, cells := 0, slots := 0, locals := 0 }) D cI cZ cH [.ref a_r, .int p1, .int p2, .int p3] [oX3 a_r a_steps a_queue queued, oI a_steps cI 200 steps, oI a_queue cI 200 queue] 0 0 (g_Tm (none) [oX3 a_r a_steps a_queue w_queued, oI a_steps cI 200 w_steps, oI a_queue cI 200 w_queue]) := by
  refine g_met (own := RX3) (mn := "arrive") (cc := cX3_arrive) (maxL := 4) (ret := none) rfl rfl (by decide +kernel) rfl (Nat.le_of_ble_eq_true rfl) (fun G X RT => ?_)
  show G 0 0 [oX3 a_r a_steps a_queue queued, oI a_steps cI 200 steps, oI a_queue cI 200 queue] [(0, .ref a_r), (1, .int p1), (2, .int p2), (3, .int p3)] 0 []
  unfold FX3_arrive at hF
  refine r_iload_n (pc' := 1) X dX3_arrive_0 rfl 1 rfl rfl ?_
  refine r_iconst (pc' := 2) X (-1 : Int32) dX3_arrive_1 (by decide) rfl ?_
  refine r_icmp_eq (pc' := 5) X 30 dX3_arrive_2 (by decide) rfl (fun c9 => ?_) (fun c9 => ?_)
  · replace hF := g_t c9 hF
    cases hF
    exact RT.2.2 0 0 _ _ _ rfl dX3_arrive_30 ⟨rfl, rfl⟩ (Nat.le_refl 0) (Nat.le_refl 0)
  · replace hF := g_f c9 hF
    refine r_iload_n (pc' := 6) X dX3_arrive_5 rfl 1 rfl rfl ?_
    refine r_iload_n (pc' := 7) X dX3_arrive_6 rfl 3 rfl rfl ?_
    refine r_icmp_eq (pc' := 10) X 30 dX3_arrive_7 (by decide) rfl (fun c9 => ?_) (fun c9 => ?_)
    · replace hF := g_t c9 hF
      cases hF
      exact RT.2.2 0 0 _ _ _ rfl dX3_arrive_30 ⟨rfl, rfl⟩ (Nat.le_refl 0) (Nat.le_refl 0)
    · replace hF := g_f c9 hF
      refine r_aload_n (pc' := 11) X dX3_arrive_10 rfl 0 rfl rfl ?_
      refine r_get (pc' := 14) X uX3_arrive_X3 0 0 dX3_arrive_11 rfl rfl (by decide) kX3_arrive_1 rfl rfl ?_
      refine r_iload_n (pc' := 15) X dX3_arrive_14 rfl 1 rfl rfl ?_
      obtain ⟨hi1, hF⟩ := g_gt hF
      refine r_iald (pc' := 16) X 1 dX3_arrive_15 rfl (g_vi hi1) rfl ?_
      refine r_iconst (pc' := 17) X (-1 : Int32) dX3_arrive_16 (by decide) rfl ?_
      refine r_icmp_ne (pc' := 20) X 30 dX3_arrive_17 (by decide) rfl (fun c9 => ?_) (fun c9 => ?_)
      · replace hF := g_f c9 hF
        cases hF
        exact RT.2.2 0 0 _ _ _ rfl dX3_arrive_30 ⟨rfl, rfl⟩ (Nat.le_refl 0) (Nat.le_refl 0)
      · replace hF := g_t c9 hF
        refine r_aload_n (pc' := 21) X dX3_arrive_20 rfl 0 rfl rfl ?_
        refine r_get (pc' := 24) X uX3_arrive_X3 0 2 dX3_arrive_21 rfl rfl (by decide) kX3_arrive_2 rfl rfl ?_
        refine r_sipush (pc' := 27) X (200 : Int32) dX3_arrive_24 (by decide) rfl ?_
        refine r_icmp_lt (pc' := 30) X 31 dX3_arrive_27 (by decide) rfl (fun c9 => ?_) (fun c9 => ?_)
        · replace hF := g_t c9 hF
          refine r_aload_n (pc' := 32) X dX3_arrive_31 rfl 0 rfl rfl ?_
          refine r_get (pc' := 35) X uX3_arrive_X3 0 0 dX3_arrive_32 rfl rfl (by decide) kX3_arrive_1 rfl rfl ?_
          refine r_iload_n (pc' := 36) X dX3_arrive_35 rfl 1 rfl rfl ?_
          refine r_iload_n (pc' := 37) X dX3_arrive_36 rfl 2 rfl rfl ?_
          obtain ⟨hi2, hF⟩ := g_gt hF
          refine r_iast (pc' := 38) (ws' := [oX3 a_r a_steps a_queue queued, oI a_steps cI 200 (upd steps p1.toNatClampNeg p2), oI a_queue cI 200 queue]) X 1 dX3_arrive_37 rfl (g_vi hi2) rfl rfl ?_
          refine r_aload_n (pc' := 39) X dX3_arrive_38 rfl 0 rfl rfl ?_
          refine r_get (pc' := 42) X uX3_arrive_X3 0 1 dX3_arrive_39 rfl rfl (by decide) kX3_arrive_3 rfl rfl ?_
          refine r_aload_n (pc' := 43) X dX3_arrive_42 rfl 0 rfl rfl ?_
          refine r_get (pc' := 46) X uX3_arrive_X3 0 2 dX3_arrive_43 rfl rfl (by decide) kX3_arrive_2 rfl rfl ?_
          refine r_iload_n (pc' := 47) X dX3_arrive_46 rfl 1 rfl rfl ?_
          obtain ⟨hi3, hF⟩ := g_gt hF
          refine r_iast (pc' := 48) (ws' := [oX3 a_r a_steps a_queue queued, oI a_steps cI 200 (upd steps p1.toNatClampNeg p2), oI a_queue cI 200 (upd queue queued.toNatClampNeg p1)]) X 2 dX3_arrive_47 rfl (g_vi hi3) rfl rfl ?_
          refine r_aload_n (pc' := 49) X dX3_arrive_48 rfl 0 rfl rfl ?_
          refine r_dup (pc' := 50) X dX3_arrive_49 rfl rfl ?_
          refine r_get (pc' := 53) X uX3_arrive_X3 0 2 dX3_arrive_50 rfl rfl (by decide) kX3_arrive_2 rfl rfl ?_
          refine r_iconst (pc' := 54) X (1 : Int32) dX3_arrive_53 (by decide) rfl ?_
          refine r_iadd (pc' := 55) X dX3_arrive_54 rfl ?_
          refine r_put (pc' := 58) (ty := .int) (ws' := [oX3 a_r a_steps a_queue (queued + (1 : Int32)), oI a_steps cI 200 (upd steps p1.toNatClampNeg p2), oI a_queue cI 200 (upd queue queued.toNatClampNeg p1)]) X uX3_arrive_X3 0 2 tyX3 tyX3_ok nmX3 dX3_arrive_55 rfl rfl (by decide) kX3_arrive_2 rfl (by decide +kernel) rfl rfl (Nat.le_of_ble_eq_true rfl) rfl rfl ?_
          cases hF
          exact RT.2.2 0 0 _ _ _ rfl dX3_arrive_58 ⟨rfl, rfl⟩ (Nat.le_refl 0) (Nat.le_refl 0)
        · replace hF := g_f c9 hF
          cases hF
          exact RT.2.2 0 0 _ _ _ rfl dX3_arrive_30 ⟨rfl, rfl⟩ (Nat.le_refl 0) (Nat.le_refl 0)
theorem kX3_trace_1 : Cond.fieldLink RX3 9 "IslandHeap$Reach" "steps" "[I" ∈ wsX3_trace := List.mem_of_getElem? (i := 1) (by decide +kernel)
theorem kX3_trace_2 : Cond.fieldLink RX3 24 "IslandHeap$Reach" "queued" "I" ∈ wsX3_trace := List.mem_of_getElem? (i := 2) (by decide +kernel)
theorem kX3_trace_5 : Cond.fieldLink RX3 15 "IslandHeap$Reach" "queue" "[I" ∈ wsX3_trace := List.mem_of_getElem? (i := 5) (by decide +kernel)
theorem kX3_trace_6 : Cond.fieldLink RX3 48 "IslandHeap$Heap" "fieldCount" "[I" ∈ wsX3_trace := List.mem_of_getElem? (i := 6) (by decide +kernel)
theorem kX3_trace_7 : Cond.fieldLink RX3 51 "IslandHeap$Heap" "content" "[I" ∈ wsX3_trace := List.mem_of_getElem? (i := 7) (by decide +kernel)
theorem kX3_trace_4 : Cond.fieldLink RX3 41 "IslandHeap$Heap" "words" "I" ∈ wsX3_trace := List.mem_of_getElem? (i := 4) (by decide +kernel)
theorem kX3_trace_3 : Cond.fieldLink RX3 28 "IslandHeap$Heap" "roots" "[I" ∈ wsX3_trace := List.mem_of_getElem? (i := 3) (by decide +kernel)
theorem uX3_trace_X3 : ∀ w ∈ u_ws RX3 TX3 3, w ∈ wsX3_trace := by decide +kernel
theorem uX3_trace_X1 : ∀ w ∈ u_ws RX1 TX1 15, w ∈ wsX3_trace := by decide +kernel
set_option maxHeartbeats 4000000 in
set_option maxRecDepth 100000 in
theorem mX3_trace (D : va_G) (cI cZ cH : ClassId) (a_r : Nat) (a_steps : Nat) (a_queue : Nat) (a_h : Nat) (a_owner : Nat) (a_fieldCount : Nat) (a_pinned : Nat) (a_content : Nat) (a_roots : Nat) (a_dataCount : Nat) (a_age : Nat) (a_weaks : Nat) (a_movedTo : Nat) (a_reports : Nat) (queued : Int32) (steps : Nat → Int32) (queue : Nat → Int32) (words : Int32) (depth : Int32) (allocated : Int32) (collections : Int32) (freed : Int32) (owner : Nat → Int32) (fieldCount : Nat → Int32) (pinned : Nat → Int32) (content : Nat → Int32) (roots : Nat → Int32) (p2 : Int32) (w_queued : Int32) (w_steps : Nat → Int32) (w_queue : Nat → Int32) (hF : FX3_trace queued steps queue words owner fieldCount pinned content roots p2 = some (w_queued, w_steps, w_queue)) : g_CM yX3_trace wsX3_trace ({ frames := 3, cells := 0, slots := 0, locals := 63 }) D cI cZ cH [.ref a_r, .ref a_h, .int p2] [oX3 a_r a_steps a_queue queued, oI a_steps cI 200 steps, oI a_queue cI 200 queue, oX1 a_h words depth allocated collections freed a_owner a_fieldCount a_dataCount a_pinned a_age a_content a_roots a_weaks a_movedTo a_reports, oI a_owner cI 200 owner, oI a_fieldCount cI 200 fieldCount, oI a_pinned cI 200 pinned, oI a_content cI 200 content, oI a_roots cI 6 roots] 0 0 (g_Tm (none) [oX3 a_r a_steps a_queue w_queued, oI a_steps cI 200 w_steps, oI a_queue cI 200 w_queue, oX1 a_h words depth allocated collections freed a_owner a_fieldCount a_dataCount a_pinned a_age a_content a_roots a_weaks a_movedTo a_reports, oI a_owner cI 200 owner, oI a_fieldCount cI 200 fieldCount, oI a_pinned cI 200 pinned, oI a_content cI 200 content, oI a_roots cI 6 roots]) := by
  refine g_met (own := RX3) (mn := "trace") (cc := cX3_trace) (maxL := 6) (ret := none) rfl rfl (by decide +kernel) rfl (Nat.le_of_ble_eq_true rfl) (fun G X RT => ?_)
  show G 0 0 [oX3 a_r a_steps a_queue queued, oI a_steps cI 200 steps, oI a_queue cI 200 queue, oX1 a_h words depth allocated collections freed a_owner a_fieldCount a_dataCount a_pinned a_age a_content a_roots a_weaks a_movedTo a_reports, oI a_owner cI 200 owner, oI a_fieldCount cI 200 fieldCount, oI a_pinned cI 200 pinned, oI a_content cI 200 content, oI a_roots cI 6 roots] [(0, .ref a_r), (1, .ref a_h), (2, .int p2)] 0 []
  unfold FX3_trace at hF
  refine r_aload_n (pc' := 1) X dX3_trace_0 rfl 0 rfl rfl ?_
  refine r_get (pc' := 4) X uX3_trace_X3 0 0 dX3_trace_1 rfl rfl (by decide) kX3_trace_1 rfl rfl ?_
  refine r_iconst (pc' := 5) X (-1 : Int32) dX3_trace_4 (by decide) rfl ?_
  obtain ⟨steps_1, hc2, hF⟩ := g_bd hF
  refine r_callSF (pc' := 8) (ws' := [oX3 a_r a_steps a_queue queued, oI a_steps cI 200 steps_1, oI a_queue cI 200 queue, oX1 a_h words depth allocated collections freed a_owner a_fieldCount a_dataCount a_pinned a_age a_content a_roots a_weaks a_movedTo a_reports, oI a_owner cI 200 owner, oI a_fieldCount cI 200 fieldCount, oI a_pinned cI 200 pinned, oI a_content cI 200 content, oI a_roots cI 6 roots]) (st' := []) X (mJ7_fill_53178 D cI cZ cH a_steps steps 200 (-1 : Int32) steps_1 hc2) 2 gX3_trace_J7_fill_53178 rfl (by decide +kernel) rfl rfl ⟨Nat.le_of_ble_eq_true rfl, Nat.le_of_ble_eq_true rfl⟩ ⟨Nat.le_of_ble_eq_true rfl, Nat.le_of_ble_eq_true rfl⟩ rfl (Nat.le_of_ble_eq_true rfl) dX3_trace_5 [1] rfl rfl rfl rfl rfl rfl ?_
  refine r_aload_n (pc' := 9) X dX3_trace_8 rfl 0 rfl rfl ?_
  refine r_iconst (pc' := 10) X (0 : Int32) dX3_trace_9 (by decide) rfl ?_
  refine r_put (pc' := 13) (ty := .int) (ws' := [oX3 a_r a_steps a_queue (0 : Int32), oI a_steps cI 200 steps_1, oI a_queue cI 200 queue, oX1 a_h words depth allocated collections freed a_owner a_fieldCount a_dataCount a_pinned a_age a_content a_roots a_weaks a_movedTo a_reports, oI a_owner cI 200 owner, oI a_fieldCount cI 200 fieldCount, oI a_pinned cI 200 pinned, oI a_content cI 200 content, oI a_roots cI 6 roots]) X uX3_trace_X3 0 2 tyX3 tyX3_ok nmX3 dX3_trace_10 rfl rfl (by decide) kX3_trace_2 rfl (by decide +kernel) rfl rfl (Nat.le_of_ble_eq_true rfl) rfl rfl ?_
  refine r_iconst (pc' := 14) X (0 : Int32) dX3_trace_13 (by decide) rfl ?_
  refine r_istore_n (pc' := 15) (lv' := [(0, .ref a_r), (1, .ref a_h), (2, .int p2), (3, .int (0 : Int32))]) X dX3_trace_14 rfl (by decide) [1, 2, 3, 0] rfl rfl ?_
  obtain ⟨ex15, hR, hF⟩ := g_bd hF
  have hE15 : ∀ (queued_7 : Int32) (steps_8 : Nat → Int32) (queue_9 : Nat → Int32), (queued_7, steps_8, queue_9) = ex15 → G 0 0 [oX3 a_r a_steps a_queue queued_7, oI a_steps cI 200 steps_8, oI a_queue cI 200 queue_9, oX1 a_h words depth allocated collections freed a_owner a_fieldCount a_dataCount a_pinned a_age a_content a_roots a_weaks a_movedTo a_reports, oI a_owner cI 200 owner, oI a_fieldCount cI 200 fieldCount, oI a_pinned cI 200 pinned, oI a_content cI 200 content, oI a_roots cI 6 roots] [(0, .ref a_r), (1, .ref a_h), (2, .int p2)] 43 [] := by
    intro queued_7 steps_8 queue_9 hx; subst hx
    refine r_iconst (pc' := 44) X (0 : Int32) dX3_trace_43 (by decide) rfl ?_
    refine r_istore_n (pc' := 45) (lv' := [(0, .ref a_r), (1, .ref a_h), (2, .int p2), (3, .int (0 : Int32))]) X dX3_trace_44 rfl (by decide) [1, 2, 3, 0] rfl rfl ?_
    obtain ⟨ex45, hR, hF⟩ := g_bd hF
    have hE45 : ∀ (queued_14 : Int32) (steps_15 : Nat → Int32) (queue_16 : Nat → Int32), (queued_14, steps_15, queue_16) = ex45 → G 0 0 [oX3 a_r a_steps a_queue queued_14, oI a_steps cI 200 steps_15, oI a_queue cI 200 queue_16, oX1 a_h words depth allocated collections freed a_owner a_fieldCount a_dataCount a_pinned a_age a_content a_roots a_weaks a_movedTo a_reports, oI a_owner cI 200 owner, oI a_fieldCount cI 200 fieldCount, oI a_pinned cI 200 pinned, oI a_content cI 200 content, oI a_roots cI 6 roots] [(0, .ref a_r), (1, .ref a_h), (2, .int p2)] 74 [] := by
      intro queued_14 steps_15 queue_16 hx; subst hx
      refine r_iconst (pc' := 75) X (0 : Int32) dX3_trace_74 (by decide) rfl ?_
      refine r_istore_n (pc' := 76) (lv' := [(0, .ref a_r), (1, .ref a_h), (2, .int p2), (3, .int (0 : Int32))]) X dX3_trace_75 rfl (by decide) [1, 2, 3, 0] rfl rfl ?_
      obtain ⟨ex76, hR, hF⟩ := g_bd hF
      have hE76 : ∀ (queued_21 : Int32) (steps_22 : Nat → Int32) (queue_23 : Nat → Int32), (queued_21, steps_22, queue_23) = ex76 → G 0 0 [oX3 a_r a_steps a_queue queued_21, oI a_steps cI 200 steps_22, oI a_queue cI 200 queue_23, oX1 a_h words depth allocated collections freed a_owner a_fieldCount a_dataCount a_pinned a_age a_content a_roots a_weaks a_movedTo a_reports, oI a_owner cI 200 owner, oI a_fieldCount cI 200 fieldCount, oI a_pinned cI 200 pinned, oI a_content cI 200 content, oI a_roots cI 6 roots] [] 156 [] := by
        intro queued_21 steps_22 queue_23 hx; subst hx
        cases hF
        exact RT.2.2 0 0 _ _ _ rfl dX3_trace_156 ⟨rfl, rfl⟩ (Nat.le_refl 0) (Nat.le_refl 0)
      have hL76 : ∀ (fu : Nat) (v3_17 : Int32) (queued_18 : Int32) (steps_19 : Nat → Int32) (queue_20 : Nat → Int32), g_itn (FX3_trace_L76 words owner fieldCount content p2) fu (v3_17, queued_18, steps_19, queue_20) = some ex76 → G 0 0 [oX3 a_r a_steps a_queue queued_18, oI a_steps cI 200 steps_19, oI a_queue cI 200 queue_20, oX1 a_h words depth allocated collections freed a_owner a_fieldCount a_dataCount a_pinned a_age a_content a_roots a_weaks a_movedTo a_reports, oI a_owner cI 200 owner, oI a_fieldCount cI 200 fieldCount, oI a_pinned cI 200 pinned, oI a_content cI 200 content, oI a_roots cI 6 roots] [(0, .ref a_r), (1, .ref a_h), (2, .int p2), (3, .int v3_17)] 76 [] := by
        intro fu
        induction fu with
        | zero => intro v3_17 queued_18 steps_19 queue_20 h9; exact (g_it0 h9).elim
        | succ fu ih =>
          intro v3_17 queued_18 steps_19 queue_20 h9
          obtain ⟨y76, hF, hI76⟩ := g_its h9
          unfold FX3_trace_L76 at hF
          refine r_iload_n (pc' := 77) X dX3_trace_76 rfl 3 rfl rfl ?_
          refine r_sipush (pc' := 80) X (200 : Int32) dX3_trace_77 (by decide) rfl ?_
          refine r_icmp_ge (pc' := 83) X 156 dX3_trace_80 (by decide) rfl (fun c9 => ?_) (fun c9 => ?_)
          · replace hF := g_t c9 hF
            cases hF
            refine r_sub (lv' := []) X [] rfl ?_
            exact hE76 queued_18 steps_19 queue_20 hI76
          · replace hF := g_f c9 hF
            refine r_iload_n (pc' := 84) X dX3_trace_83 rfl 3 rfl rfl ?_
            refine r_aload_n (pc' := 85) X dX3_trace_84 rfl 0 rfl rfl ?_
            refine r_get (pc' := 88) X uX3_trace_X3 0 2 dX3_trace_85 rfl rfl (by decide) kX3_trace_2 rfl rfl ?_
            refine r_icmp_ge (pc' := 91) X 156 dX3_trace_88 (by decide) rfl (fun c9 => ?_) (fun c9 => ?_)
            · replace hF := g_t c9 hF
              cases hF
              refine r_sub (lv' := []) X [] rfl ?_
              exact hE76 queued_18 steps_19 queue_20 hI76
            · replace hF := g_f c9 hF
              refine r_aload_n (pc' := 92) X dX3_trace_91 rfl 0 rfl rfl ?_
              refine r_get (pc' := 95) X uX3_trace_X3 0 1 dX3_trace_92 rfl rfl (by decide) kX3_trace_5 rfl rfl ?_
              refine r_iload_n (pc' := 96) X dX3_trace_95 rfl 3 rfl rfl ?_
              obtain ⟨hi24, hF⟩ := g_gt hF
              refine r_iald (pc' := 97) X 2 dX3_trace_96 rfl (g_vi hi24) rfl ?_
              refine r_istore (pc' := 99) (lv' := [(0, .ref a_r), (1, .ref a_h), (2, .int p2), (3, .int v3_17), (4, .int (queue_20 v3_17.toNatClampNeg))]) X dX3_trace_97 (by decide) [1, 2, 3, 4, 0] rfl rfl ?_
              refine r_iconst (pc' := 100) X (0 : Int32) dX3_trace_99 (by decide) rfl ?_
              refine r_istore (pc' := 102) (lv' := [(0, .ref a_r), (1, .ref a_h), (2, .int p2), (3, .int v3_17), (4, .int (queue_20 v3_17.toNatClampNeg)), (5, .int (0 : Int32))]) X dX3_trace_100 (by decide) [1, 2, 3, 4, 5, 0] rfl rfl ?_
              obtain ⟨ex102, hR, hF⟩ := g_bd hF
              have hE102 : ∀ (queued_29 : Int32) (steps_30 : Nat → Int32) (queue_31 : Nat → Int32), (queued_29, steps_30, queue_31) = ex102 → G 0 0 [oX3 a_r a_steps a_queue queued_29, oI a_steps cI 200 steps_30, oI a_queue cI 200 queue_31, oX1 a_h words depth allocated collections freed a_owner a_fieldCount a_dataCount a_pinned a_age a_content a_roots a_weaks a_movedTo a_reports, oI a_owner cI 200 owner, oI a_fieldCount cI 200 fieldCount, oI a_pinned cI 200 pinned, oI a_content cI 200 content, oI a_roots cI 6 roots] [(0, .ref a_r), (1, .ref a_h), (2, .int p2), (3, .int v3_17)] 150 [] := by
                intro queued_29 steps_30 queue_31 hx; subst hx
                refine r_iinc (pc' := 153) (lv' := [(0, .ref a_r), (1, .ref a_h), (2, .int p2), (3, .int (v3_17 + (1 : Int32)))]) X (v3_17 + (1 : Int32)) dX3_trace_150 3 rfl (congrArg (fun z => v3_17 + z) (by decide)) (by decide) [1, 2, 3, 0] rfl rfl ?_
                refine r_goto X 76 dX3_trace_153 (by decide) ?_
                cases hF
                exact ih (v3_17 + (1 : Int32)) queued_29 steps_30 queue_31 hI76
              have hL102 : ∀ (fu : Nat) (v5_25 : Int32) (queued_26 : Int32) (steps_27 : Nat → Int32) (queue_28 : Nat → Int32), g_itn (FX3_trace_L102 words owner fieldCount content p2 v3_17 queue_20) fu (v5_25, queued_26, steps_27, queue_28) = some ex102 → G 0 0 [oX3 a_r a_steps a_queue queued_26, oI a_steps cI 200 steps_27, oI a_queue cI 200 queue_28, oX1 a_h words depth allocated collections freed a_owner a_fieldCount a_dataCount a_pinned a_age a_content a_roots a_weaks a_movedTo a_reports, oI a_owner cI 200 owner, oI a_fieldCount cI 200 fieldCount, oI a_pinned cI 200 pinned, oI a_content cI 200 content, oI a_roots cI 6 roots] [(0, .ref a_r), (1, .ref a_h), (2, .int p2), (3, .int v3_17), (4, .int (queue_20 v3_17.toNatClampNeg)), (5, .int v5_25)] 102 [] := by
                intro fu
                induction fu with
                | zero => intro v5_25 queued_26 steps_27 queue_28 h9; exact (g_it0 h9).elim
                | succ fu ih =>
                  intro v5_25 queued_26 steps_27 queue_28 h9
                  obtain ⟨y102, hF, hI102⟩ := g_its h9
                  unfold FX3_trace_L102 at hF
                  refine r_iload (pc' := 104) X dX3_trace_102 5 rfl rfl ?_
                  refine r_aload_n (pc' := 105) X dX3_trace_104 rfl 1 rfl rfl ?_
                  refine r_get (pc' := 108) X uX3_trace_X1 3 6 dX3_trace_105 rfl rfl (by decide) kX3_trace_6 rfl rfl ?_
                  refine r_iload (pc' := 110) X dX3_trace_108 4 rfl rfl ?_
                  obtain ⟨hi32, hF⟩ := g_gt hF
                  refine r_iald (pc' := 111) X 5 dX3_trace_110 rfl (g_vi hi32) rfl ?_
                  refine r_icmp_ge (pc' := 114) X 150 dX3_trace_111 (by decide) rfl (fun c9 => ?_) (fun c9 => ?_)
                  · replace hF := g_t c9 hF
                    cases hF
                    refine r_sub (lv' := [(0, .ref a_r), (1, .ref a_h), (2, .int p2), (3, .int v3_17)]) X [0, 1, 2, 3] rfl ?_
                    exact hE102 queued_26 steps_27 queue_28 hI102
                  · replace hF := g_f c9 hF
                    refine r_aload_n (pc' := 115) X dX3_trace_114 rfl 0 rfl rfl ?_
                    refine r_aload_n (pc' := 116) X dX3_trace_115 rfl 1 rfl rfl ?_
                    refine r_aload_n (pc' := 117) X dX3_trace_116 rfl 1 rfl rfl ?_
                    refine r_get (pc' := 120) X uX3_trace_X1 3 10 dX3_trace_117 rfl rfl (by decide) kX3_trace_7 rfl rfl ?_
                    refine r_iload (pc' := 122) X dX3_trace_120 4 rfl rfl ?_
                    refine r_iconst (pc' := 123) X (1 : Int32) dX3_trace_122 (by decide) rfl ?_
                    refine r_iadd (pc' := 124) X dX3_trace_123 rfl ?_
                    refine r_iload (pc' := 126) X dX3_trace_124 5 rfl rfl ?_
                    refine r_iadd (pc' := 127) X dX3_trace_126 rfl ?_
                    obtain ⟨hi33, hF⟩ := g_gt hF
                    refine r_iald (pc' := 128) X 7 dX3_trace_127 rfl (g_vi hi33) rfl ?_
                    obtain ⟨r34, hc35, hF⟩ := g_bd hF
                    refine r_callVF (pc' := 131) (ws' := [oX3 a_r a_steps a_queue queued_26, oI a_steps cI 200 steps_27, oI a_queue cI 200 queue_28, oX1 a_h words depth allocated collections freed a_owner a_fieldCount a_dataCount a_pinned a_age a_content a_roots a_weaks a_movedTo a_reports, oI a_owner cI 200 owner, oI a_fieldCount cI 200 fieldCount, oI a_pinned cI 200 pinned, oI a_content cI 200 content, oI a_roots cI 6 roots]) (st' := [.int r34, .ref a_r]) X (mX1_objectAt D cI cZ cH a_h a_owner a_fieldCount a_dataCount a_pinned a_age a_content a_roots a_weaks a_movedTo a_reports words depth allocated collections freed owner (content (((queue_20 v3_17.toNatClampNeg) + (1 : Int32)) + v5_25).toNatClampNeg) r34 hc35) 1 gX3_trace_X1_objectAt rfl (by decide +kernel) rfl rfl ⟨Nat.le_of_ble_eq_true rfl, Nat.le_of_ble_eq_true rfl⟩ ⟨Nat.le_of_ble_eq_true rfl, Nat.le_of_ble_eq_true rfl⟩ rfl (Nat.le_of_ble_eq_true rfl) dX3_trace_128 3 rfl rfl [3, 4] rfl rfl rfl rfl rfl rfl ?_
                    refine r_aload_n (pc' := 132) X dX3_trace_131 rfl 0 rfl rfl ?_
                    refine r_get (pc' := 135) X uX3_trace_X3 0 0 dX3_trace_132 rfl rfl (by decide) kX3_trace_1 rfl rfl ?_
                    refine r_iload (pc' := 137) X dX3_trace_135 4 rfl rfl ?_
                    obtain ⟨hi36, hF⟩ := g_gt hF
                    refine r_iald (pc' := 138) X 1 dX3_trace_137 rfl (g_vi hi36) rfl ?_
                    refine r_iconst (pc' := 139) X (1 : Int32) dX3_trace_138 (by decide) rfl ?_
                    refine r_iadd (pc' := 140) X dX3_trace_139 rfl ?_
                    refine r_iload_n (pc' := 141) X dX3_trace_140 rfl 2 rfl rfl ?_
                    obtain ⟨⟨queued_37, steps_38, queue_39⟩, hc40, hF⟩ := g_bd hF
                    refine r_callVF (pc' := 144) (ws' := [oX3 a_r a_steps a_queue queued_37, oI a_steps cI 200 steps_38, oI a_queue cI 200 queue_39, oX1 a_h words depth allocated collections freed a_owner a_fieldCount a_dataCount a_pinned a_age a_content a_roots a_weaks a_movedTo a_reports, oI a_owner cI 200 owner, oI a_fieldCount cI 200 fieldCount, oI a_pinned cI 200 pinned, oI a_content cI 200 content, oI a_roots cI 6 roots]) (st' := []) X (mX3_arrive D cI cZ cH a_r a_steps a_queue queued_26 steps_27 queue_28 r34 ((steps_27 (queue_20 v3_17.toNatClampNeg).toNatClampNeg) + (1 : Int32)) p2 queued_37 steps_38 queue_39 hc40) 3 gX3_trace_X3_arrive rfl (by decide +kernel) rfl rfl ⟨Nat.le_of_ble_eq_true rfl, Nat.le_of_ble_eq_true rfl⟩ ⟨Nat.le_of_ble_eq_true rfl, Nat.le_of_ble_eq_true rfl⟩ rfl (Nat.le_of_ble_eq_true rfl) dX3_trace_141 0 rfl rfl [0, 1, 2] rfl rfl rfl rfl rfl rfl ?_
                    refine r_iinc (pc' := 147) (lv' := [(0, .ref a_r), (1, .ref a_h), (2, .int p2), (3, .int v3_17), (4, .int (queue_20 v3_17.toNatClampNeg)), (5, .int (v5_25 + (1 : Int32)))]) X (v5_25 + (1 : Int32)) dX3_trace_144 5 rfl (congrArg (fun z => v5_25 + z) (by decide)) (by decide) [1, 2, 3, 4, 5, 0] rfl rfl ?_
                    refine r_goto X 102 dX3_trace_147 (by decide) ?_
                    cases hF
                    exact ih (v5_25 + (1 : Int32)) queued_37 steps_38 queue_39 hI102
              exact hL102 g_fuel (0 : Int32) queued_18 steps_19 queue_20 hR
      exact hL76 g_fuel (0 : Int32) queued_14 steps_15 queue_16 hR
    have hL45 : ∀ (fu : Nat) (v3_10 : Int32) (queued_11 : Int32) (steps_12 : Nat → Int32) (queue_13 : Nat → Int32), g_itn (FX3_trace_L45 words owner pinned p2) fu (v3_10, queued_11, steps_12, queue_13) = some ex45 → G 0 0 [oX3 a_r a_steps a_queue queued_11, oI a_steps cI 200 steps_12, oI a_queue cI 200 queue_13, oX1 a_h words depth allocated collections freed a_owner a_fieldCount a_dataCount a_pinned a_age a_content a_roots a_weaks a_movedTo a_reports, oI a_owner cI 200 owner, oI a_fieldCount cI 200 fieldCount, oI a_pinned cI 200 pinned, oI a_content cI 200 content, oI a_roots cI 6 roots] [(0, .ref a_r), (1, .ref a_h), (2, .int p2), (3, .int v3_10)] 45 [] := by
      intro fu
      induction fu with
      | zero => intro v3_10 queued_11 steps_12 queue_13 h9; exact (g_it0 h9).elim
      | succ fu ih =>
        intro v3_10 queued_11 steps_12 queue_13 h9
        obtain ⟨y45, hF, hI45⟩ := g_its h9
        unfold FX3_trace_L45 at hF
        refine r_iload_n (pc' := 46) X dX3_trace_45 rfl 3 rfl rfl ?_
        refine r_aload_n (pc' := 47) X dX3_trace_46 rfl 1 rfl rfl ?_
        refine r_get (pc' := 50) X uX3_trace_X1 3 0 dX3_trace_47 rfl rfl (by decide) kX3_trace_4 rfl rfl ?_
        refine r_icmp_ge (pc' := 53) X 74 dX3_trace_50 (by decide) rfl (fun c9 => ?_) (fun c9 => ?_)
        · replace hF := g_t c9 hF
          cases hF
          refine r_sub (lv' := [(0, .ref a_r), (1, .ref a_h), (2, .int p2)]) X [0, 1, 2] rfl ?_
          exact hE45 queued_11 steps_12 queue_13 hI45
        · replace hF := g_f c9 hF
          refine r_aload_n (pc' := 54) X dX3_trace_53 rfl 1 rfl rfl ?_
          refine r_iload_n (pc' := 55) X dX3_trace_54 rfl 3 rfl rfl ?_
          obtain ⟨r41, hc42, hF⟩ := g_bd hF
          refine r_callVF (pc' := 58) (ws' := [oX3 a_r a_steps a_queue queued_11, oI a_steps cI 200 steps_12, oI a_queue cI 200 queue_13, oX1 a_h words depth allocated collections freed a_owner a_fieldCount a_dataCount a_pinned a_age a_content a_roots a_weaks a_movedTo a_reports, oI a_owner cI 200 owner, oI a_fieldCount cI 200 fieldCount, oI a_pinned cI 200 pinned, oI a_content cI 200 content, oI a_roots cI 6 roots]) (st' := [.int r41]) X (mX1_isPinned D cI cZ cH a_h a_owner a_pinned a_fieldCount a_dataCount a_age a_content a_roots a_weaks a_movedTo a_reports words depth allocated collections freed owner pinned v3_10 r41 hc42) 1 gX3_trace_X1_isPinned rfl (by decide +kernel) rfl rfl ⟨Nat.le_of_ble_eq_true rfl, Nat.le_of_ble_eq_true rfl⟩ ⟨Nat.le_of_ble_eq_true rfl, Nat.le_of_ble_eq_true rfl⟩ rfl (Nat.le_of_ble_eq_true rfl) dX3_trace_55 3 rfl rfl [3, 4, 6] rfl rfl rfl rfl rfl rfl ?_
          obtain ⟨exJ46, hR, hF⟩ := g_bd hF
          have hJ46 : ∀ (queued_43 : Int32) (steps_44 : Nat → Int32) (queue_45 : Nat → Int32), (queued_43, steps_44, queue_45) = exJ46 → G 0 0 [oX3 a_r a_steps a_queue queued_43, oI a_steps cI 200 steps_44, oI a_queue cI 200 queue_45, oX1 a_h words depth allocated collections freed a_owner a_fieldCount a_dataCount a_pinned a_age a_content a_roots a_weaks a_movedTo a_reports, oI a_owner cI 200 owner, oI a_fieldCount cI 200 fieldCount, oI a_pinned cI 200 pinned, oI a_content cI 200 content, oI a_roots cI 6 roots] [(0, .ref a_r), (1, .ref a_h), (2, .int p2), (3, .int v3_10)] 68 [] := by
            intro queued_43 steps_44 queue_45 hx; subst hx
            refine r_iinc (pc' := 71) (lv' := [(0, .ref a_r), (1, .ref a_h), (2, .int p2), (3, .int (v3_10 + (1 : Int32)))]) X (v3_10 + (1 : Int32)) dX3_trace_68 3 rfl (congrArg (fun z => v3_10 + z) (by decide)) (by decide) [1, 2, 3, 0] rfl rfl ?_
            refine r_goto X 45 dX3_trace_71 (by decide) ?_
            cases hF
            exact ih (v3_10 + (1 : Int32)) queued_43 steps_44 queue_45 hI45
          replace hF := hR
          refine r_if_eq (pc' := 61) X 68 dX3_trace_58 (by decide) rfl (fun c9 => ?_) (fun c9 => ?_)
          · replace hF := g_t c9 hF
            exact hJ46 queued_11 steps_12 queue_13 (Option.some.inj hF)
          · replace hF := g_f c9 hF
            refine r_aload_n (pc' := 62) X dX3_trace_61 rfl 0 rfl rfl ?_
            refine r_iload_n (pc' := 63) X dX3_trace_62 rfl 3 rfl rfl ?_
            refine r_iconst (pc' := 64) X (0 : Int32) dX3_trace_63 (by decide) rfl ?_
            refine r_iload_n (pc' := 65) X dX3_trace_64 rfl 2 rfl rfl ?_
            obtain ⟨⟨queued_47, steps_48, queue_49⟩, hc50, hF⟩ := g_bd hF
            refine r_callVF (pc' := 68) (ws' := [oX3 a_r a_steps a_queue queued_47, oI a_steps cI 200 steps_48, oI a_queue cI 200 queue_49, oX1 a_h words depth allocated collections freed a_owner a_fieldCount a_dataCount a_pinned a_age a_content a_roots a_weaks a_movedTo a_reports, oI a_owner cI 200 owner, oI a_fieldCount cI 200 fieldCount, oI a_pinned cI 200 pinned, oI a_content cI 200 content, oI a_roots cI 6 roots]) (st' := []) X (mX3_arrive D cI cZ cH a_r a_steps a_queue queued_11 steps_12 queue_13 v3_10 (0 : Int32) p2 queued_47 steps_48 queue_49 hc50) 3 gX3_trace_X3_arrive rfl (by decide +kernel) rfl rfl ⟨Nat.le_of_ble_eq_true rfl, Nat.le_of_ble_eq_true rfl⟩ ⟨Nat.le_of_ble_eq_true rfl, Nat.le_of_ble_eq_true rfl⟩ rfl (Nat.le_of_ble_eq_true rfl) dX3_trace_65 0 rfl rfl [0, 1, 2] rfl rfl rfl rfl rfl rfl ?_
            exact hJ46 queued_47 steps_48 queue_49 (Option.some.inj hF)
    exact hL45 g_fuel (0 : Int32) queued_7 steps_8 queue_9 hR
  have hL15 : ∀ (fu : Nat) (v3_3 : Int32) (queued_4 : Int32) (steps_5 : Nat → Int32) (queue_6 : Nat → Int32), g_itn (FX3_trace_L15 words owner roots p2) fu (v3_3, queued_4, steps_5, queue_6) = some ex15 → G 0 0 [oX3 a_r a_steps a_queue queued_4, oI a_steps cI 200 steps_5, oI a_queue cI 200 queue_6, oX1 a_h words depth allocated collections freed a_owner a_fieldCount a_dataCount a_pinned a_age a_content a_roots a_weaks a_movedTo a_reports, oI a_owner cI 200 owner, oI a_fieldCount cI 200 fieldCount, oI a_pinned cI 200 pinned, oI a_content cI 200 content, oI a_roots cI 6 roots] [(0, .ref a_r), (1, .ref a_h), (2, .int p2), (3, .int v3_3)] 15 [] := by
    intro fu
    induction fu with
    | zero => intro v3_3 queued_4 steps_5 queue_6 h9; exact (g_it0 h9).elim
    | succ fu ih =>
      intro v3_3 queued_4 steps_5 queue_6 h9
      obtain ⟨y15, hF, hI15⟩ := g_its h9
      unfold FX3_trace_L15 at hF
      refine r_iload_n (pc' := 16) X dX3_trace_15 rfl 3 rfl rfl ?_
      refine r_bipush (pc' := 18) X (6 : Int32) dX3_trace_16 (by decide) rfl ?_
      refine r_icmp_ge (pc' := 21) X 43 dX3_trace_18 (by decide) rfl (fun c9 => ?_) (fun c9 => ?_)
      · replace hF := g_t c9 hF
        cases hF
        refine r_sub (lv' := [(0, .ref a_r), (1, .ref a_h), (2, .int p2)]) X [0, 1, 2] rfl ?_
        exact hE15 queued_4 steps_5 queue_6 hI15
      · replace hF := g_f c9 hF
        refine r_aload_n (pc' := 22) X dX3_trace_21 rfl 0 rfl rfl ?_
        refine r_aload_n (pc' := 23) X dX3_trace_22 rfl 1 rfl rfl ?_
        refine r_aload_n (pc' := 24) X dX3_trace_23 rfl 1 rfl rfl ?_
        refine r_get (pc' := 27) X uX3_trace_X1 3 11 dX3_trace_24 rfl rfl (by decide) kX3_trace_3 rfl rfl ?_
        refine r_iload_n (pc' := 28) X dX3_trace_27 rfl 3 rfl rfl ?_
        obtain ⟨hi51, hF⟩ := g_gt hF
        refine r_iald (pc' := 29) X 8 dX3_trace_28 rfl (g_vi hi51) rfl ?_
        obtain ⟨r52, hc53, hF⟩ := g_bd hF
        refine r_callVF (pc' := 32) (ws' := [oX3 a_r a_steps a_queue queued_4, oI a_steps cI 200 steps_5, oI a_queue cI 200 queue_6, oX1 a_h words depth allocated collections freed a_owner a_fieldCount a_dataCount a_pinned a_age a_content a_roots a_weaks a_movedTo a_reports, oI a_owner cI 200 owner, oI a_fieldCount cI 200 fieldCount, oI a_pinned cI 200 pinned, oI a_content cI 200 content, oI a_roots cI 6 roots]) (st' := [.int r52, .ref a_r]) X (mX1_objectAt D cI cZ cH a_h a_owner a_fieldCount a_dataCount a_pinned a_age a_content a_roots a_weaks a_movedTo a_reports words depth allocated collections freed owner (roots v3_3.toNatClampNeg) r52 hc53) 1 gX3_trace_X1_objectAt rfl (by decide +kernel) rfl rfl ⟨Nat.le_of_ble_eq_true rfl, Nat.le_of_ble_eq_true rfl⟩ ⟨Nat.le_of_ble_eq_true rfl, Nat.le_of_ble_eq_true rfl⟩ rfl (Nat.le_of_ble_eq_true rfl) dX3_trace_29 3 rfl rfl [3, 4] rfl rfl rfl rfl rfl rfl ?_
        refine r_iconst (pc' := 33) X (0 : Int32) dX3_trace_32 (by decide) rfl ?_
        refine r_iload_n (pc' := 34) X dX3_trace_33 rfl 2 rfl rfl ?_
        obtain ⟨⟨queued_54, steps_55, queue_56⟩, hc57, hF⟩ := g_bd hF
        refine r_callVF (pc' := 37) (ws' := [oX3 a_r a_steps a_queue queued_54, oI a_steps cI 200 steps_55, oI a_queue cI 200 queue_56, oX1 a_h words depth allocated collections freed a_owner a_fieldCount a_dataCount a_pinned a_age a_content a_roots a_weaks a_movedTo a_reports, oI a_owner cI 200 owner, oI a_fieldCount cI 200 fieldCount, oI a_pinned cI 200 pinned, oI a_content cI 200 content, oI a_roots cI 6 roots]) (st' := []) X (mX3_arrive D cI cZ cH a_r a_steps a_queue queued_4 steps_5 queue_6 r52 (0 : Int32) p2 queued_54 steps_55 queue_56 hc57) 3 gX3_trace_X3_arrive rfl (by decide +kernel) rfl rfl ⟨Nat.le_of_ble_eq_true rfl, Nat.le_of_ble_eq_true rfl⟩ ⟨Nat.le_of_ble_eq_true rfl, Nat.le_of_ble_eq_true rfl⟩ rfl (Nat.le_of_ble_eq_true rfl) dX3_trace_34 0 rfl rfl [0, 1, 2] rfl rfl rfl rfl rfl rfl ?_
        refine r_iinc (pc' := 40) (lv' := [(0, .ref a_r), (1, .ref a_h), (2, .int p2), (3, .int (v3_3 + (1 : Int32)))]) X (v3_3 + (1 : Int32)) dX3_trace_37 3 rfl (congrArg (fun z => v3_3 + z) (by decide)) (by decide) [1, 2, 3, 0] rfl rfl ?_
        refine r_goto X 15 dX3_trace_40 (by decide) ?_
        cases hF
        exact ih (v3_3 + (1 : Int32)) queued_54 steps_55 queue_56 hI15
  exact hL15 g_fuel (0 : Int32) (0 : Int32) steps_1 queue hR
theorem kX0_begin_2 : Cond.fieldLink RX0 57 "IslandHeap$Collector" "stacked" "I" ∈ wsX0_begin := List.mem_of_getElem? (i := 2) (by decide +kernel)
theorem kX0_begin_3 : Cond.fieldLink RX0 60 "IslandHeap$Collector" "deepest" "I" ∈ wsX0_begin := List.mem_of_getElem? (i := 3) (by decide +kernel)
theorem kX0_begin_4 : Cond.fieldLink RX0 63 "IslandHeap$Collector" "scans" "I" ∈ wsX0_begin := List.mem_of_getElem? (i := 4) (by decide +kernel)
theorem kX0_begin_5 : Cond.fieldLink RX0 50 "IslandHeap$Collector" "overflow" "Z" ∈ wsX0_begin := List.mem_of_getElem? (i := 5) (by decide +kernel)
theorem kX0_begin_1 : Cond.fieldLink RX0 9 "IslandHeap$Collector" "marked" "[Z" ∈ wsX0_begin := List.mem_of_getElem? (i := 1) (by decide +kernel)
theorem uX0_begin_X0 : ∀ w ∈ u_ws RX0 TX0 6, w ∈ wsX0_begin := by decide +kernel
set_option maxHeartbeats 4000000 in
set_option maxRecDepth 100000 in
theorem mX0_begin (D : va_G) (cI cZ cH : ClassId) (a_c : Nat) (a_marked : Nat) (a_stack : Nat) (stacked : Int32) (deepest : Int32) (scans : Int32) (overflow : Int32) (marked : Nat → Int32) (w_stacked : Int32) (w_deepest : Int32) (w_scans : Int32) (w_overflow : Int32) (w_marked : Nat → Int32) (hF : FX0_begin stacked deepest scans overflow marked = some (w_stacked, w_deepest, w_scans, w_overflow, w_marked)) : g_CM yX0_begin wsX0_begin ({ frames := 0, cells := 0, slots := 0, locals := 0 }) D cI cZ cH [.ref a_c] [oX0 a_c a_marked a_stack stacked deepest scans overflow, oZ a_marked cZ 200 marked] 0 0 (g_Tm (none) [oX0 a_c a_marked a_stack w_stacked w_deepest w_scans w_overflow, oZ a_marked cZ 200 w_marked]) := by
  refine g_met (own := RX0) (mn := "begin") (cc := cX0_begin) (maxL := 2) (ret := none) rfl rfl (by decide +kernel) rfl (Nat.le_of_ble_eq_true rfl) (fun G X RT => ?_)
  show G 0 0 [oX0 a_c a_marked a_stack stacked deepest scans overflow, oZ a_marked cZ 200 marked] [(0, .ref a_c)] 0 []
  unfold FX0_begin at hF
  refine r_iconst (pc' := 1) X (0 : Int32) dX0_begin_0 (by decide) rfl ?_
  refine r_istore_n (pc' := 2) (lv' := [(0, .ref a_c), (1, .int (0 : Int32))]) X dX0_begin_1 rfl (by decide) [1, 0] rfl rfl ?_
  obtain ⟨ex2, hR, hF⟩ := g_bd hF
  have hE2 : ∀ (marked_3 : Nat → Int32), marked_3 = ex2 → G 0 0 [oX0 a_c a_marked a_stack stacked deepest scans overflow, oZ a_marked cZ 200 marked_3] [(0, .ref a_c)] 22 [] := by
    intro marked_3 hx; subst hx
    refine r_aload_n (pc' := 23) X dX0_begin_22 rfl 0 rfl rfl ?_
    refine r_iconst (pc' := 24) X (0 : Int32) dX0_begin_23 (by decide) rfl ?_
    refine r_put (pc' := 27) (ty := .int) (ws' := [oX0 a_c a_marked a_stack (0 : Int32) deepest scans overflow, oZ a_marked cZ 200 marked_3]) X uX0_begin_X0 0 2 tyX0 tyX0_ok nmX0 dX0_begin_24 rfl rfl (by decide) kX0_begin_2 rfl (by decide +kernel) rfl rfl (Nat.le_of_ble_eq_true rfl) rfl rfl ?_
    refine r_aload_n (pc' := 28) X dX0_begin_27 rfl 0 rfl rfl ?_
    refine r_iconst (pc' := 29) X (0 : Int32) dX0_begin_28 (by decide) rfl ?_
    refine r_put (pc' := 32) (ty := .int) (ws' := [oX0 a_c a_marked a_stack (0 : Int32) (0 : Int32) scans overflow, oZ a_marked cZ 200 marked_3]) X uX0_begin_X0 0 3 tyX0 tyX0_ok nmX0 dX0_begin_29 rfl rfl (by decide) kX0_begin_3 rfl (by decide +kernel) rfl rfl (Nat.le_of_ble_eq_true rfl) rfl rfl ?_
    refine r_aload_n (pc' := 33) X dX0_begin_32 rfl 0 rfl rfl ?_
    refine r_iconst (pc' := 34) X (0 : Int32) dX0_begin_33 (by decide) rfl ?_
    refine r_put (pc' := 37) (ty := .int) (ws' := [oX0 a_c a_marked a_stack (0 : Int32) (0 : Int32) (0 : Int32) overflow, oZ a_marked cZ 200 marked_3]) X uX0_begin_X0 0 4 tyX0 tyX0_ok nmX0 dX0_begin_34 rfl rfl (by decide) kX0_begin_4 rfl (by decide +kernel) rfl rfl (Nat.le_of_ble_eq_true rfl) rfl rfl ?_
    refine r_aload_n (pc' := 38) X dX0_begin_37 rfl 0 rfl rfl ?_
    refine r_iconst (pc' := 39) X (0 : Int32) dX0_begin_38 (by decide) rfl ?_
    refine r_put (pc' := 42) (ty := .boolean) (ws' := [oX0 a_c a_marked a_stack (0 : Int32) (0 : Int32) (0 : Int32) (0 : Int32), oZ a_marked cZ 200 marked_3]) X uX0_begin_X0 0 5 tyX0 tyX0_ok nmX0 dX0_begin_39 rfl rfl (by decide) kX0_begin_5 rfl (by decide +kernel) rfl rfl (Nat.le_of_ble_eq_true rfl) rfl rfl ?_
    cases hF
    exact RT.2.2 0 0 _ _ _ rfl dX0_begin_42 ⟨rfl, rfl⟩ (Nat.le_refl 0) (Nat.le_refl 0)
  have hL2 : ∀ (fu : Nat) (v1_1 : Int32) (marked_2 : Nat → Int32), g_itn (FX0_begin_L2) fu (v1_1, marked_2) = some ex2 → G 0 0 [oX0 a_c a_marked a_stack stacked deepest scans overflow, oZ a_marked cZ 200 marked_2] [(0, .ref a_c), (1, .int v1_1)] 2 [] := by
    intro fu
    induction fu with
    | zero => intro v1_1 marked_2 h9; exact (g_it0 h9).elim
    | succ fu ih =>
      intro v1_1 marked_2 h9
      obtain ⟨y2, hF, hI2⟩ := g_its h9
      unfold FX0_begin_L2 at hF
      refine r_iload_n (pc' := 3) X dX0_begin_2 rfl 1 rfl rfl ?_
      refine r_sipush (pc' := 6) X (200 : Int32) dX0_begin_3 (by decide) rfl ?_
      refine r_icmp_ge (pc' := 9) X 22 dX0_begin_6 (by decide) rfl (fun c9 => ?_) (fun c9 => ?_)
      · replace hF := g_t c9 hF
        cases hF
        refine r_sub (lv' := [(0, .ref a_c)]) X [0] rfl ?_
        exact hE2 marked_2 hI2
      · replace hF := g_f c9 hF
        refine r_aload_n (pc' := 10) X dX0_begin_9 rfl 0 rfl rfl ?_
        refine r_get (pc' := 13) X uX0_begin_X0 0 0 dX0_begin_10 rfl rfl (by decide) kX0_begin_1 rfl rfl ?_
        refine r_iload_n (pc' := 14) X dX0_begin_13 rfl 1 rfl rfl ?_
        refine r_iconst (pc' := 15) X (0 : Int32) dX0_begin_14 (by decide) rfl ?_
        obtain ⟨hi4, hF⟩ := g_gt hF
        refine r_zast (pc' := 16) (ws' := [oX0 a_c a_marked a_stack stacked deepest scans overflow, oZ a_marked cZ 200 (upd marked_2 v1_1.toNatClampNeg (0 : Int32))]) X 1 dX0_begin_15 rfl (g_vi hi4) (by decide +kernel) rfl rfl ?_
        refine r_iinc (pc' := 19) (lv' := [(0, .ref a_c), (1, .int (v1_1 + (1 : Int32)))]) X (v1_1 + (1 : Int32)) dX0_begin_16 1 rfl (congrArg (fun z => v1_1 + z) (by decide)) (by decide) [1, 0] rfl rfl ?_
        refine r_goto X 2 dX0_begin_19 (by decide) ?_
        cases hF
        exact ih (v1_1 + (1 : Int32)) (upd marked_2 v1_1.toNatClampNeg (0 : Int32)) hI2
  exact hL2 g_fuel (0 : Int32) marked hR
theorem kX0_visit_1 : Cond.fieldLink RX0 9 "IslandHeap$Collector" "marked" "[Z" ∈ wsX0_visit := List.mem_of_getElem? (i := 1) (by decide +kernel)
theorem kX0_visit_2 : Cond.fieldLink RX0 57 "IslandHeap$Collector" "stacked" "I" ∈ wsX0_visit := List.mem_of_getElem? (i := 2) (by decide +kernel)
theorem kX0_visit_3 : Cond.fieldLink RX0 50 "IslandHeap$Collector" "overflow" "Z" ∈ wsX0_visit := List.mem_of_getElem? (i := 3) (by decide +kernel)
theorem kX0_visit_4 : Cond.fieldLink RX0 15 "IslandHeap$Collector" "stack" "[I" ∈ wsX0_visit := List.mem_of_getElem? (i := 4) (by decide +kernel)
theorem kX0_visit_5 : Cond.fieldLink RX0 60 "IslandHeap$Collector" "deepest" "I" ∈ wsX0_visit := List.mem_of_getElem? (i := 5) (by decide +kernel)
theorem uX0_visit_X0 : ∀ w ∈ u_ws RX0 TX0 6, w ∈ wsX0_visit := by decide +kernel
set_option maxHeartbeats 4000000 in
set_option maxRecDepth 100000 in
theorem mX0_visit (D : va_G) (cI cZ cH : ClassId) (a_c : Nat) (a_marked : Nat) (a_stack : Nat) (stacked : Int32) (deepest : Int32) (scans : Int32) (overflow : Int32) (marked : Nat → Int32) (stack : Nat → Int32) (p1 : Int32) (p2 : Int32) (w_stacked : Int32) (w_deepest : Int32) (w_overflow : Int32) (w_marked : Nat → Int32) (w_stack : Nat → Int32) (hF : FX0_visit stacked deepest overflow marked stack p1 p2 = some (w_stacked, w_deepest, w_overflow, w_marked, w_stack)) : g_CM yX0_visit wsX0_visit ({ frames := 0, cells := 0, slots := 0, locals := 0 }) D cI cZ cH [.ref a_c, .int p1, .int p2] [oX0 a_c a_marked a_stack stacked deepest scans overflow, oZ a_marked cZ 200 marked, oI a_stack cI 20 stack] 0 0 (g_Tm (none) [oX0 a_c a_marked a_stack w_stacked w_deepest scans w_overflow, oZ a_marked cZ 200 w_marked, oI a_stack cI 20 w_stack]) := by
  refine g_met (own := RX0) (mn := "visit") (cc := cX0_visit) (maxL := 3) (ret := none) rfl rfl (by decide +kernel) rfl (Nat.le_of_ble_eq_true rfl) (fun G X RT => ?_)
  show G 0 0 [oX0 a_c a_marked a_stack stacked deepest scans overflow, oZ a_marked cZ 200 marked, oI a_stack cI 20 stack] [(0, .ref a_c), (1, .int p1), (2, .int p2)] 0 []
  unfold FX0_visit at hF
  refine r_iload_n (pc' := 1) X dX0_visit_0 rfl 1 rfl rfl ?_
  refine r_iconst (pc' := 2) X (-1 : Int32) dX0_visit_1 (by decide) rfl ?_
  refine r_icmp_eq (pc' := 5) X 14 dX0_visit_2 (by decide) rfl (fun c9 => ?_) (fun c9 => ?_)
  · replace hF := g_t c9 hF
    cases hF
    exact RT.2.2 0 0 _ _ _ rfl dX0_visit_14 ⟨rfl, rfl⟩ (Nat.le_refl 0) (Nat.le_refl 0)
  · replace hF := g_f c9 hF
    refine r_aload_n (pc' := 6) X dX0_visit_5 rfl 0 rfl rfl ?_
    refine r_get (pc' := 9) X uX0_visit_X0 0 0 dX0_visit_6 rfl rfl (by decide) kX0_visit_1 rfl rfl ?_
    refine r_iload_n (pc' := 10) X dX0_visit_9 rfl 1 rfl rfl ?_
    obtain ⟨hi1, hF⟩ := g_gt hF
    refine r_zald (pc' := 11) X 1 dX0_visit_10 rfl (g_vi hi1) rfl ?_
    refine r_if_eq (pc' := 14) X 15 dX0_visit_11 (by decide) rfl (fun c9 => ?_) (fun c9 => ?_)
    · replace hF := g_t c9 hF
      refine r_aload_n (pc' := 16) X dX0_visit_15 rfl 0 rfl rfl ?_
      refine r_get (pc' := 19) X uX0_visit_X0 0 0 dX0_visit_16 rfl rfl (by decide) kX0_visit_1 rfl rfl ?_
      refine r_iload_n (pc' := 20) X dX0_visit_19 rfl 1 rfl rfl ?_
      refine r_iconst (pc' := 21) X (1 : Int32) dX0_visit_20 (by decide) rfl ?_
      obtain ⟨hi2, hF⟩ := g_gt hF
      refine r_zast (pc' := 22) (ws' := [oX0 a_c a_marked a_stack stacked deepest scans overflow, oZ a_marked cZ 200 (upd marked p1.toNatClampNeg (1 : Int32)), oI a_stack cI 20 stack]) X 1 dX0_visit_21 rfl (g_vi hi2) (by decide +kernel) rfl rfl ?_
      refine r_aload_n (pc' := 23) X dX0_visit_22 rfl 0 rfl rfl ?_
      refine r_get (pc' := 26) X uX0_visit_X0 0 2 dX0_visit_23 rfl rfl (by decide) kX0_visit_2 rfl rfl ?_
      refine r_iload_n (pc' := 27) X dX0_visit_26 rfl 2 rfl rfl ?_
      refine r_icmp_ge (pc' := 30) X 39 dX0_visit_27 (by decide) rfl (fun c9 => ?_) (fun c9 => ?_)
      · replace hF := g_t c9 hF
        refine r_aload_n (pc' := 40) X dX0_visit_39 rfl 0 rfl rfl ?_
        refine r_iconst (pc' := 41) X (1 : Int32) dX0_visit_40 (by decide) rfl ?_
        refine r_put (pc' := 44) (ty := .boolean) (ws' := [oX0 a_c a_marked a_stack stacked deepest scans (1 : Int32), oZ a_marked cZ 200 (upd marked p1.toNatClampNeg (1 : Int32)), oI a_stack cI 20 stack]) X uX0_visit_X0 0 5 tyX0 tyX0_ok nmX0 dX0_visit_41 rfl rfl (by decide) kX0_visit_3 rfl (by decide +kernel) rfl rfl (Nat.le_of_ble_eq_true rfl) rfl rfl ?_
        cases hF
        exact RT.2.2 0 0 _ _ _ rfl dX0_visit_44 ⟨rfl, rfl⟩ (Nat.le_refl 0) (Nat.le_refl 0)
      · replace hF := g_f c9 hF
        refine r_aload_n (pc' := 31) X dX0_visit_30 rfl 0 rfl rfl ?_
        refine r_get (pc' := 34) X uX0_visit_X0 0 2 dX0_visit_31 rfl rfl (by decide) kX0_visit_2 rfl rfl ?_
        refine r_bipush (pc' := 36) X (20 : Int32) dX0_visit_34 (by decide) rfl ?_
        refine r_icmp_lt (pc' := 39) X 45 dX0_visit_36 (by decide) rfl (fun c9 => ?_) (fun c9 => ?_)
        · replace hF := g_t c9 hF
          refine r_aload_n (pc' := 46) X dX0_visit_45 rfl 0 rfl rfl ?_
          refine r_get (pc' := 49) X uX0_visit_X0 0 1 dX0_visit_46 rfl rfl (by decide) kX0_visit_4 rfl rfl ?_
          refine r_aload_n (pc' := 50) X dX0_visit_49 rfl 0 rfl rfl ?_
          refine r_get (pc' := 53) X uX0_visit_X0 0 2 dX0_visit_50 rfl rfl (by decide) kX0_visit_2 rfl rfl ?_
          refine r_iload_n (pc' := 54) X dX0_visit_53 rfl 1 rfl rfl ?_
          obtain ⟨hi3, hF⟩ := g_gt hF
          refine r_iast (pc' := 55) (ws' := [oX0 a_c a_marked a_stack stacked deepest scans overflow, oZ a_marked cZ 200 (upd marked p1.toNatClampNeg (1 : Int32)), oI a_stack cI 20 (upd stack stacked.toNatClampNeg p1)]) X 2 dX0_visit_54 rfl (g_vi hi3) rfl rfl ?_
          refine r_aload_n (pc' := 56) X dX0_visit_55 rfl 0 rfl rfl ?_
          refine r_dup (pc' := 57) X dX0_visit_56 rfl rfl ?_
          refine r_get (pc' := 60) X uX0_visit_X0 0 2 dX0_visit_57 rfl rfl (by decide) kX0_visit_2 rfl rfl ?_
          refine r_iconst (pc' := 61) X (1 : Int32) dX0_visit_60 (by decide) rfl ?_
          refine r_iadd (pc' := 62) X dX0_visit_61 rfl ?_
          refine r_put (pc' := 65) (ty := .int) (ws' := [oX0 a_c a_marked a_stack (stacked + (1 : Int32)) deepest scans overflow, oZ a_marked cZ 200 (upd marked p1.toNatClampNeg (1 : Int32)), oI a_stack cI 20 (upd stack stacked.toNatClampNeg p1)]) X uX0_visit_X0 0 2 tyX0 tyX0_ok nmX0 dX0_visit_62 rfl rfl (by decide) kX0_visit_2 rfl (by decide +kernel) rfl rfl (Nat.le_of_ble_eq_true rfl) rfl rfl ?_
          refine r_aload_n (pc' := 66) X dX0_visit_65 rfl 0 rfl rfl ?_
          refine r_get (pc' := 69) X uX0_visit_X0 0 2 dX0_visit_66 rfl rfl (by decide) kX0_visit_2 rfl rfl ?_
          refine r_aload_n (pc' := 70) X dX0_visit_69 rfl 0 rfl rfl ?_
          refine r_get (pc' := 73) X uX0_visit_X0 0 3 dX0_visit_70 rfl rfl (by decide) kX0_visit_5 rfl rfl ?_
          refine r_icmp_le (pc' := 76) X 84 dX0_visit_73 (by decide) rfl (fun c9 => ?_) (fun c9 => ?_)
          · replace hF := g_t c9 hF
            cases hF
            exact RT.2.2 0 0 _ _ _ rfl dX0_visit_84 ⟨rfl, rfl⟩ (Nat.le_refl 0) (Nat.le_refl 0)
          · replace hF := g_f c9 hF
            refine r_aload_n (pc' := 77) X dX0_visit_76 rfl 0 rfl rfl ?_
            refine r_aload_n (pc' := 78) X dX0_visit_77 rfl 0 rfl rfl ?_
            refine r_get (pc' := 81) X uX0_visit_X0 0 2 dX0_visit_78 rfl rfl (by decide) kX0_visit_2 rfl rfl ?_
            refine r_put (pc' := 84) (ty := .int) (ws' := [oX0 a_c a_marked a_stack (stacked + (1 : Int32)) (stacked + (1 : Int32)) scans overflow, oZ a_marked cZ 200 (upd marked p1.toNatClampNeg (1 : Int32)), oI a_stack cI 20 (upd stack stacked.toNatClampNeg p1)]) X uX0_visit_X0 0 3 tyX0 tyX0_ok nmX0 dX0_visit_81 rfl rfl (by decide) kX0_visit_5 rfl (by decide +kernel) rfl rfl (Nat.le_of_ble_eq_true rfl) rfl rfl ?_
            cases hF
            exact RT.2.2 0 0 _ _ _ rfl dX0_visit_84 ⟨rfl, rfl⟩ (Nat.le_refl 0) (Nat.le_refl 0)
        · replace hF := g_f c9 hF
          refine r_aload_n (pc' := 40) X dX0_visit_39 rfl 0 rfl rfl ?_
          refine r_iconst (pc' := 41) X (1 : Int32) dX0_visit_40 (by decide) rfl ?_
          refine r_put (pc' := 44) (ty := .boolean) (ws' := [oX0 a_c a_marked a_stack stacked deepest scans (1 : Int32), oZ a_marked cZ 200 (upd marked p1.toNatClampNeg (1 : Int32)), oI a_stack cI 20 stack]) X uX0_visit_X0 0 5 tyX0 tyX0_ok nmX0 dX0_visit_41 rfl rfl (by decide) kX0_visit_3 rfl (by decide +kernel) rfl rfl (Nat.le_of_ble_eq_true rfl) rfl rfl ?_
          cases hF
          exact RT.2.2 0 0 _ _ _ rfl dX0_visit_44 ⟨rfl, rfl⟩ (Nat.le_refl 0) (Nat.le_refl 0)
    · replace hF := g_f c9 hF
      cases hF
      exact RT.2.2 0 0 _ _ _ rfl dX0_visit_14 ⟨rfl, rfl⟩ (Nat.le_refl 0) (Nat.le_refl 0)
theorem kX0_drain_1 : Cond.fieldLink RX0 57 "IslandHeap$Collector" "stacked" "I" ∈ wsX0_drain := List.mem_of_getElem? (i := 1) (by decide +kernel)
theorem kX0_drain_2 : Cond.fieldLink RX0 15 "IslandHeap$Collector" "stack" "[I" ∈ wsX0_drain := List.mem_of_getElem? (i := 2) (by decide +kernel)
theorem kX0_drain_3 : Cond.fieldLink RX0 66 "IslandHeap$Heap" "fieldCount" "[I" ∈ wsX0_drain := List.mem_of_getElem? (i := 3) (by decide +kernel)
theorem kX0_drain_4 : Cond.fieldLink RX0 69 "IslandHeap$Heap" "content" "[I" ∈ wsX0_drain := List.mem_of_getElem? (i := 4) (by decide +kernel)
theorem kX0_drain_5 : Cond.fieldLink RX0 31 "IslandHeap$Heap" "depth" "I" ∈ wsX0_drain := List.mem_of_getElem? (i := 5) (by decide +kernel)
theorem uX0_drain_X0 : ∀ w ∈ u_ws RX0 TX0 6, w ∈ wsX0_drain := by decide +kernel
theorem uX0_drain_X1 : ∀ w ∈ u_ws RX1 TX1 15, w ∈ wsX0_drain := by decide +kernel
set_option maxHeartbeats 4000000 in
set_option maxRecDepth 100000 in
theorem mX0_drain (D : va_G) (cI cZ cH : ClassId) (a_c : Nat) (a_marked : Nat) (a_stack : Nat) (a_h : Nat) (a_owner : Nat) (a_fieldCount : Nat) (a_content : Nat) (a_dataCount : Nat) (a_pinned : Nat) (a_age : Nat) (a_roots : Nat) (a_weaks : Nat) (a_movedTo : Nat) (a_reports : Nat) (stacked : Int32) (deepest : Int32) (scans : Int32) (overflow : Int32) (marked : Nat → Int32) (stack : Nat → Int32) (words : Int32) (depth : Int32) (allocated : Int32) (collections : Int32) (freed : Int32) (owner : Nat → Int32) (fieldCount : Nat → Int32) (content : Nat → Int32) (w_stacked : Int32) (w_deepest : Int32) (w_overflow : Int32) (w_marked : Nat → Int32) (w_stack : Nat → Int32) (hF : FX0_drain stacked deepest overflow marked stack words depth owner fieldCount content = some (w_stacked, w_deepest, w_overflow, w_marked, w_stack)) : g_CM yX0_drain wsX0_drain ({ frames := 2, cells := 0, slots := 0, locals := 42 }) D cI cZ cH [.ref a_c, .ref a_h] [oX0 a_c a_marked a_stack stacked deepest scans overflow, oZ a_marked cZ 200 marked, oI a_stack cI 20 stack, oX1 a_h words depth allocated collections freed a_owner a_fieldCount a_dataCount a_pinned a_age a_content a_roots a_weaks a_movedTo a_reports, oI a_owner cI 200 owner, oI a_fieldCount cI 200 fieldCount, oI a_content cI 200 content] 0 0 (g_Tm (none) [oX0 a_c a_marked a_stack w_stacked w_deepest scans w_overflow, oZ a_marked cZ 200 w_marked, oI a_stack cI 20 w_stack, oX1 a_h words depth allocated collections freed a_owner a_fieldCount a_dataCount a_pinned a_age a_content a_roots a_weaks a_movedTo a_reports, oI a_owner cI 200 owner, oI a_fieldCount cI 200 fieldCount, oI a_content cI 200 content]) := by
  refine g_met (own := RX0) (mn := "drain") (cc := cX0_drain) (maxL := 5) (ret := none) rfl rfl (by decide +kernel) rfl (Nat.le_of_ble_eq_true rfl) (fun G X RT => ?_)
  show G 0 0 [oX0 a_c a_marked a_stack stacked deepest scans overflow, oZ a_marked cZ 200 marked, oI a_stack cI 20 stack, oX1 a_h words depth allocated collections freed a_owner a_fieldCount a_dataCount a_pinned a_age a_content a_roots a_weaks a_movedTo a_reports, oI a_owner cI 200 owner, oI a_fieldCount cI 200 fieldCount, oI a_content cI 200 content] [(0, .ref a_c), (1, .ref a_h)] 0 []
  unfold FX0_drain at hF
  refine r_iconst (pc' := 1) X (0 : Int32) dX0_drain_0 (by decide) rfl ?_
  refine r_istore_n (pc' := 2) (lv' := [(0, .ref a_c), (1, .ref a_h), (2, .int (0 : Int32))]) X dX0_drain_1 rfl (by decide) [1, 2, 0] rfl rfl ?_
  obtain ⟨ex2, hR, hF⟩ := g_bd hF
  have hE2 : ∀ (stacked_7 : Int32) (deepest_8 : Int32) (overflow_9 : Int32) (marked_10 : Nat → Int32) (stack_11 : Nat → Int32), (stacked_7, deepest_8, overflow_9, marked_10, stack_11) = ex2 → G 0 0 [oX0 a_c a_marked a_stack stacked_7 deepest_8 scans overflow_9, oZ a_marked cZ 200 marked_10, oI a_stack cI 20 stack_11, oX1 a_h words depth allocated collections freed a_owner a_fieldCount a_dataCount a_pinned a_age a_content a_roots a_weaks a_movedTo a_reports, oI a_owner cI 200 owner, oI a_fieldCount cI 200 fieldCount, oI a_content cI 200 content] [] 85 [] := by
    intro stacked_7 deepest_8 overflow_9 marked_10 stack_11 hx; subst hx
    cases hF
    exact RT.2.2 0 0 _ _ _ rfl dX0_drain_85 ⟨rfl, rfl⟩ (Nat.le_refl 0) (Nat.le_refl 0)
  have hL2 : ∀ (fu : Nat) (v2_1 : Int32) (stacked_2 : Int32) (deepest_3 : Int32) (overflow_4 : Int32) (marked_5 : Nat → Int32) (stack_6 : Nat → Int32), g_itn (FX0_drain_L2 words depth owner fieldCount content) fu (v2_1, stacked_2, deepest_3, overflow_4, marked_5, stack_6) = some ex2 → G 0 0 [oX0 a_c a_marked a_stack stacked_2 deepest_3 scans overflow_4, oZ a_marked cZ 200 marked_5, oI a_stack cI 20 stack_6, oX1 a_h words depth allocated collections freed a_owner a_fieldCount a_dataCount a_pinned a_age a_content a_roots a_weaks a_movedTo a_reports, oI a_owner cI 200 owner, oI a_fieldCount cI 200 fieldCount, oI a_content cI 200 content] [(0, .ref a_c), (1, .ref a_h), (2, .int v2_1)] 2 [] := by
    intro fu
    induction fu with
    | zero => intro v2_1 stacked_2 deepest_3 overflow_4 marked_5 stack_6 h9; exact (g_it0 h9).elim
    | succ fu ih =>
      intro v2_1 stacked_2 deepest_3 overflow_4 marked_5 stack_6 h9
      obtain ⟨y2, hF, hI2⟩ := g_its h9
      unfold FX0_drain_L2 at hF
      refine r_iload_n (pc' := 3) X dX0_drain_2 rfl 2 rfl rfl ?_
      refine r_sipush (pc' := 6) X (200 : Int32) dX0_drain_3 (by decide) rfl ?_
      refine r_icmp_ge (pc' := 9) X 85 dX0_drain_6 (by decide) rfl (fun c9 => ?_) (fun c9 => ?_)
      · replace hF := g_t c9 hF
        cases hF
        refine r_sub (lv' := []) X [] rfl ?_
        exact hE2 stacked_2 deepest_3 overflow_4 marked_5 stack_6 hI2
      · replace hF := g_f c9 hF
        refine r_aload_n (pc' := 10) X dX0_drain_9 rfl 0 rfl rfl ?_
        refine r_get (pc' := 13) X uX0_drain_X0 0 2 dX0_drain_10 rfl rfl (by decide) kX0_drain_1 rfl rfl ?_
        refine r_if_le (pc' := 16) X 85 dX0_drain_13 (by decide) rfl (fun c9 => ?_) (fun c9 => ?_)
        · replace hF := g_t c9 hF
          cases hF
          refine r_sub (lv' := []) X [] rfl ?_
          exact hE2 stacked_2 deepest_3 overflow_4 marked_5 stack_6 hI2
        · replace hF := g_f c9 hF
          refine r_aload_n (pc' := 17) X dX0_drain_16 rfl 0 rfl rfl ?_
          refine r_dup (pc' := 18) X dX0_drain_17 rfl rfl ?_
          refine r_get (pc' := 21) X uX0_drain_X0 0 2 dX0_drain_18 rfl rfl (by decide) kX0_drain_1 rfl rfl ?_
          refine r_iconst (pc' := 22) X (1 : Int32) dX0_drain_21 (by decide) rfl ?_
          refine r_isub (pc' := 23) X dX0_drain_22 rfl ?_
          refine r_put (pc' := 26) (ty := .int) (ws' := [oX0 a_c a_marked a_stack (stacked_2 - (1 : Int32)) deepest_3 scans overflow_4, oZ a_marked cZ 200 marked_5, oI a_stack cI 20 stack_6, oX1 a_h words depth allocated collections freed a_owner a_fieldCount a_dataCount a_pinned a_age a_content a_roots a_weaks a_movedTo a_reports, oI a_owner cI 200 owner, oI a_fieldCount cI 200 fieldCount, oI a_content cI 200 content]) X uX0_drain_X0 0 2 tyX0 tyX0_ok nmX0 dX0_drain_23 rfl rfl (by decide) kX0_drain_1 rfl (by decide +kernel) rfl rfl (Nat.le_of_ble_eq_true rfl) rfl rfl ?_
          refine r_aload_n (pc' := 27) X dX0_drain_26 rfl 0 rfl rfl ?_
          refine r_get (pc' := 30) X uX0_drain_X0 0 1 dX0_drain_27 rfl rfl (by decide) kX0_drain_2 rfl rfl ?_
          refine r_aload_n (pc' := 31) X dX0_drain_30 rfl 0 rfl rfl ?_
          refine r_get (pc' := 34) X uX0_drain_X0 0 2 dX0_drain_31 rfl rfl (by decide) kX0_drain_1 rfl rfl ?_
          obtain ⟨hi12, hF⟩ := g_gt hF
          refine r_iald (pc' := 35) X 2 dX0_drain_34 rfl (g_vi hi12) rfl ?_
          refine r_istore_n (pc' := 36) (lv' := [(0, .ref a_c), (1, .ref a_h), (2, .int v2_1), (3, .int (stack_6 (stacked_2 - (1 : Int32)).toNatClampNeg))]) X dX0_drain_35 rfl (by decide) [1, 2, 3, 0] rfl rfl ?_
          refine r_iconst (pc' := 37) X (0 : Int32) dX0_drain_36 (by decide) rfl ?_
          refine r_istore (pc' := 39) (lv' := [(0, .ref a_c), (1, .ref a_h), (2, .int v2_1), (3, .int (stack_6 (stacked_2 - (1 : Int32)).toNatClampNeg)), (4, .int (0 : Int32))]) X dX0_drain_37 (by decide) [1, 2, 3, 4, 0] rfl rfl ?_
          obtain ⟨ex39, hR, hF⟩ := g_bd hF
          have hE39 : ∀ (stacked_19 : Int32) (deepest_20 : Int32) (overflow_21 : Int32) (marked_22 : Nat → Int32) (stack_23 : Nat → Int32), (stacked_19, deepest_20, overflow_21, marked_22, stack_23) = ex39 → G 0 0 [oX0 a_c a_marked a_stack stacked_19 deepest_20 scans overflow_21, oZ a_marked cZ 200 marked_22, oI a_stack cI 20 stack_23, oX1 a_h words depth allocated collections freed a_owner a_fieldCount a_dataCount a_pinned a_age a_content a_roots a_weaks a_movedTo a_reports, oI a_owner cI 200 owner, oI a_fieldCount cI 200 fieldCount, oI a_content cI 200 content] [(0, .ref a_c), (1, .ref a_h), (2, .int v2_1)] 79 [] := by
            intro stacked_19 deepest_20 overflow_21 marked_22 stack_23 hx; subst hx
            refine r_iinc (pc' := 82) (lv' := [(0, .ref a_c), (1, .ref a_h), (2, .int (v2_1 + (1 : Int32)))]) X (v2_1 + (1 : Int32)) dX0_drain_79 2 rfl (congrArg (fun z => v2_1 + z) (by decide)) (by decide) [1, 2, 0] rfl rfl ?_
            refine r_goto X 2 dX0_drain_82 (by decide) ?_
            cases hF
            exact ih (v2_1 + (1 : Int32)) stacked_19 deepest_20 overflow_21 marked_22 stack_23 hI2
          have hL39 : ∀ (fu : Nat) (v4_13 : Int32) (stacked_14 : Int32) (deepest_15 : Int32) (overflow_16 : Int32) (marked_17 : Nat → Int32) (stack_18 : Nat → Int32), g_itn (FX0_drain_L39 words depth owner fieldCount content stacked_2 stack_6) fu (v4_13, stacked_14, deepest_15, overflow_16, marked_17, stack_18) = some ex39 → G 0 0 [oX0 a_c a_marked a_stack stacked_14 deepest_15 scans overflow_16, oZ a_marked cZ 200 marked_17, oI a_stack cI 20 stack_18, oX1 a_h words depth allocated collections freed a_owner a_fieldCount a_dataCount a_pinned a_age a_content a_roots a_weaks a_movedTo a_reports, oI a_owner cI 200 owner, oI a_fieldCount cI 200 fieldCount, oI a_content cI 200 content] [(0, .ref a_c), (1, .ref a_h), (2, .int v2_1), (3, .int (stack_6 (stacked_2 - (1 : Int32)).toNatClampNeg)), (4, .int v4_13)] 39 [] := by
            intro fu
            induction fu with
            | zero => intro v4_13 stacked_14 deepest_15 overflow_16 marked_17 stack_18 h9; exact (g_it0 h9).elim
            | succ fu ih =>
              intro v4_13 stacked_14 deepest_15 overflow_16 marked_17 stack_18 h9
              obtain ⟨y39, hF, hI39⟩ := g_its h9
              unfold FX0_drain_L39 at hF
              refine r_iload (pc' := 41) X dX0_drain_39 4 rfl rfl ?_
              refine r_aload_n (pc' := 42) X dX0_drain_41 rfl 1 rfl rfl ?_
              refine r_get (pc' := 45) X uX0_drain_X1 3 6 dX0_drain_42 rfl rfl (by decide) kX0_drain_3 rfl rfl ?_
              refine r_iload_n (pc' := 46) X dX0_drain_45 rfl 3 rfl rfl ?_
              obtain ⟨hi24, hF⟩ := g_gt hF
              refine r_iald (pc' := 47) X 5 dX0_drain_46 rfl (g_vi hi24) rfl ?_
              refine r_icmp_ge (pc' := 50) X 79 dX0_drain_47 (by decide) rfl (fun c9 => ?_) (fun c9 => ?_)
              · replace hF := g_t c9 hF
                cases hF
                refine r_sub (lv' := [(0, .ref a_c), (1, .ref a_h), (2, .int v2_1)]) X [0, 1, 2] rfl ?_
                exact hE39 stacked_14 deepest_15 overflow_16 marked_17 stack_18 hI39
              · replace hF := g_f c9 hF
                refine r_aload_n (pc' := 51) X dX0_drain_50 rfl 0 rfl rfl ?_
                refine r_aload_n (pc' := 52) X dX0_drain_51 rfl 1 rfl rfl ?_
                refine r_aload_n (pc' := 53) X dX0_drain_52 rfl 1 rfl rfl ?_
                refine r_get (pc' := 56) X uX0_drain_X1 3 10 dX0_drain_53 rfl rfl (by decide) kX0_drain_4 rfl rfl ?_
                refine r_iload_n (pc' := 57) X dX0_drain_56 rfl 3 rfl rfl ?_
                refine r_iconst (pc' := 58) X (1 : Int32) dX0_drain_57 (by decide) rfl ?_
                refine r_iadd (pc' := 59) X dX0_drain_58 rfl ?_
                refine r_iload (pc' := 61) X dX0_drain_59 4 rfl rfl ?_
                refine r_iadd (pc' := 62) X dX0_drain_61 rfl ?_
                obtain ⟨hi25, hF⟩ := g_gt hF
                refine r_iald (pc' := 63) X 6 dX0_drain_62 rfl (g_vi hi25) rfl ?_
                obtain ⟨r26, hc27, hF⟩ := g_bd hF
                refine r_callVF (pc' := 66) (ws' := [oX0 a_c a_marked a_stack stacked_14 deepest_15 scans overflow_16, oZ a_marked cZ 200 marked_17, oI a_stack cI 20 stack_18, oX1 a_h words depth allocated collections freed a_owner a_fieldCount a_dataCount a_pinned a_age a_content a_roots a_weaks a_movedTo a_reports, oI a_owner cI 200 owner, oI a_fieldCount cI 200 fieldCount, oI a_content cI 200 content]) (st' := [.int r26, .ref a_c]) X (mX1_objectAt D cI cZ cH a_h a_owner a_fieldCount a_dataCount a_pinned a_age a_content a_roots a_weaks a_movedTo a_reports words depth allocated collections freed owner (content (((stack_6 (stacked_2 - (1 : Int32)).toNatClampNeg) + (1 : Int32)) + v4_13).toNatClampNeg) r26 hc27) 1 gX0_drain_X1_objectAt rfl (by decide +kernel) rfl rfl ⟨Nat.le_of_ble_eq_true rfl, Nat.le_of_ble_eq_true rfl⟩ ⟨Nat.le_of_ble_eq_true rfl, Nat.le_of_ble_eq_true rfl⟩ rfl (Nat.le_of_ble_eq_true rfl) dX0_drain_63 3 rfl rfl [3, 4] rfl rfl rfl rfl rfl rfl ?_
                refine r_aload_n (pc' := 67) X dX0_drain_66 rfl 1 rfl rfl ?_
                refine r_get (pc' := 70) X uX0_drain_X1 3 1 dX0_drain_67 rfl rfl (by decide) kX0_drain_5 rfl rfl ?_
                obtain ⟨⟨stacked_28, deepest_29, overflow_30, marked_31, stack_32⟩, hc33, hF⟩ := g_bd hF
                refine r_callVF (pc' := 73) (ws' := [oX0 a_c a_marked a_stack stacked_28 deepest_29 scans overflow_30, oZ a_marked cZ 200 marked_31, oI a_stack cI 20 stack_32, oX1 a_h words depth allocated collections freed a_owner a_fieldCount a_dataCount a_pinned a_age a_content a_roots a_weaks a_movedTo a_reports, oI a_owner cI 200 owner, oI a_fieldCount cI 200 fieldCount, oI a_content cI 200 content]) (st' := []) X (mX0_visit D cI cZ cH a_c a_marked a_stack stacked_14 deepest_15 scans overflow_16 marked_17 stack_18 r26 depth stacked_28 deepest_29 overflow_30 marked_31 stack_32 hc33) 2 gX0_drain_X0_visit rfl (by decide +kernel) rfl rfl ⟨Nat.le_of_ble_eq_true rfl, Nat.le_of_ble_eq_true rfl⟩ ⟨Nat.le_of_ble_eq_true rfl, Nat.le_of_ble_eq_true rfl⟩ rfl (Nat.le_of_ble_eq_true rfl) dX0_drain_70 0 rfl rfl [0, 1, 2] rfl rfl rfl rfl rfl rfl ?_
                refine r_iinc (pc' := 76) (lv' := [(0, .ref a_c), (1, .ref a_h), (2, .int v2_1), (3, .int (stack_6 (stacked_2 - (1 : Int32)).toNatClampNeg)), (4, .int (v4_13 + (1 : Int32)))]) X (v4_13 + (1 : Int32)) dX0_drain_73 4 rfl (congrArg (fun z => v4_13 + z) (by decide)) (by decide) [1, 2, 3, 4, 0] rfl rfl ?_
                refine r_goto X 39 dX0_drain_76 (by decide) ?_
                cases hF
                exact ih (v4_13 + (1 : Int32)) stacked_28 deepest_29 overflow_30 marked_31 stack_32 hI39
          exact hL39 g_fuel (0 : Int32) (stacked_2 - (1 : Int32)) deepest_3 overflow_4 marked_5 stack_6 hR
  exact hL2 g_fuel (0 : Int32) stacked deepest overflow marked stack hR
theorem kX0_scan_1 : Cond.fieldLink RX0 50 "IslandHeap$Collector" "overflow" "Z" ∈ wsX0_scan := List.mem_of_getElem? (i := 1) (by decide +kernel)
theorem kX0_scan_2 : Cond.fieldLink RX0 63 "IslandHeap$Collector" "scans" "I" ∈ wsX0_scan := List.mem_of_getElem? (i := 2) (by decide +kernel)
theorem kX0_scan_3 : Cond.fieldLink RX0 43 "IslandHeap$Heap" "words" "I" ∈ wsX0_scan := List.mem_of_getElem? (i := 3) (by decide +kernel)
theorem kX0_scan_4 : Cond.fieldLink RX0 9 "IslandHeap$Collector" "marked" "[Z" ∈ wsX0_scan := List.mem_of_getElem? (i := 4) (by decide +kernel)
theorem kX0_scan_5 : Cond.fieldLink RX0 66 "IslandHeap$Heap" "fieldCount" "[I" ∈ wsX0_scan := List.mem_of_getElem? (i := 5) (by decide +kernel)
theorem kX0_scan_6 : Cond.fieldLink RX0 69 "IslandHeap$Heap" "content" "[I" ∈ wsX0_scan := List.mem_of_getElem? (i := 6) (by decide +kernel)
theorem kX0_scan_7 : Cond.fieldLink RX0 31 "IslandHeap$Heap" "depth" "I" ∈ wsX0_scan := List.mem_of_getElem? (i := 7) (by decide +kernel)
theorem uX0_scan_X0 : ∀ w ∈ u_ws RX0 TX0 6, w ∈ wsX0_scan := by decide +kernel
theorem uX0_scan_X1 : ∀ w ∈ u_ws RX1 TX1 15, w ∈ wsX0_scan := by decide +kernel
set_option maxHeartbeats 4000000 in
set_option maxRecDepth 100000 in
theorem mX0_scan (D : va_G) (cI cZ cH : ClassId) (a_c : Nat) (a_marked : Nat) (a_stack : Nat) (a_h : Nat) (a_owner : Nat) (a_fieldCount : Nat) (a_content : Nat) (a_dataCount : Nat) (a_pinned : Nat) (a_age : Nat) (a_roots : Nat) (a_weaks : Nat) (a_movedTo : Nat) (a_reports : Nat) (stacked : Int32) (deepest : Int32) (scans : Int32) (overflow : Int32) (marked : Nat → Int32) (stack : Nat → Int32) (words : Int32) (depth : Int32) (allocated : Int32) (collections : Int32) (freed : Int32) (owner : Nat → Int32) (fieldCount : Nat → Int32) (content : Nat → Int32) (w_stacked : Int32) (w_deepest : Int32) (w_scans : Int32) (w_overflow : Int32) (w_marked : Nat → Int32) (w_stack : Nat → Int32) (hF : FX0_scan stacked deepest scans overflow marked stack words depth owner fieldCount content = some (w_stacked, w_deepest, w_scans, w_overflow, w_marked, w_stack)) : g_CM yX0_scan wsX0_scan ({ frames := 3, cells := 0, slots := 0, locals := 66 }) D cI cZ cH [.ref a_c, .ref a_h] [oX0 a_c a_marked a_stack stacked deepest scans overflow, oZ a_marked cZ 200 marked, oI a_stack cI 20 stack, oX1 a_h words depth allocated collections freed a_owner a_fieldCount a_dataCount a_pinned a_age a_content a_roots a_weaks a_movedTo a_reports, oI a_owner cI 200 owner, oI a_fieldCount cI 200 fieldCount, oI a_content cI 200 content] 0 0 (g_Tm (none) [oX0 a_c a_marked a_stack w_stacked w_deepest w_scans w_overflow, oZ a_marked cZ 200 w_marked, oI a_stack cI 20 w_stack, oX1 a_h words depth allocated collections freed a_owner a_fieldCount a_dataCount a_pinned a_age a_content a_roots a_weaks a_movedTo a_reports, oI a_owner cI 200 owner, oI a_fieldCount cI 200 fieldCount, oI a_content cI 200 content]) := by
  refine g_met (own := RX0) (mn := "scan") (cc := cX0_scan) (maxL := 4) (ret := none) rfl rfl (by decide +kernel) rfl (Nat.le_of_ble_eq_true rfl) (fun G X RT => ?_)
  show G 0 0 [oX0 a_c a_marked a_stack stacked deepest scans overflow, oZ a_marked cZ 200 marked, oI a_stack cI 20 stack, oX1 a_h words depth allocated collections freed a_owner a_fieldCount a_dataCount a_pinned a_age a_content a_roots a_weaks a_movedTo a_reports, oI a_owner cI 200 owner, oI a_fieldCount cI 200 fieldCount, oI a_content cI 200 content] [(0, .ref a_c), (1, .ref a_h)] 0 []
  unfold FX0_scan at hF
  refine r_aload_n (pc' := 1) X dX0_scan_0 rfl 0 rfl rfl ?_
  refine r_iconst (pc' := 2) X (0 : Int32) dX0_scan_1 (by decide) rfl ?_
  refine r_put (pc' := 5) (ty := .boolean) (ws' := [oX0 a_c a_marked a_stack stacked deepest scans (0 : Int32), oZ a_marked cZ 200 marked, oI a_stack cI 20 stack, oX1 a_h words depth allocated collections freed a_owner a_fieldCount a_dataCount a_pinned a_age a_content a_roots a_weaks a_movedTo a_reports, oI a_owner cI 200 owner, oI a_fieldCount cI 200 fieldCount, oI a_content cI 200 content]) X uX0_scan_X0 0 5 tyX0 tyX0_ok nmX0 dX0_scan_2 rfl rfl (by decide) kX0_scan_1 rfl (by decide +kernel) rfl rfl (Nat.le_of_ble_eq_true rfl) rfl rfl ?_
  refine r_aload_n (pc' := 6) X dX0_scan_5 rfl 0 rfl rfl ?_
  refine r_dup (pc' := 7) X dX0_scan_6 rfl rfl ?_
  refine r_get (pc' := 10) X uX0_scan_X0 0 4 dX0_scan_7 rfl rfl (by decide) kX0_scan_2 rfl rfl ?_
  refine r_iconst (pc' := 11) X (1 : Int32) dX0_scan_10 (by decide) rfl ?_
  refine r_iadd (pc' := 12) X dX0_scan_11 rfl ?_
  refine r_put (pc' := 15) (ty := .int) (ws' := [oX0 a_c a_marked a_stack stacked deepest (scans + (1 : Int32)) (0 : Int32), oZ a_marked cZ 200 marked, oI a_stack cI 20 stack, oX1 a_h words depth allocated collections freed a_owner a_fieldCount a_dataCount a_pinned a_age a_content a_roots a_weaks a_movedTo a_reports, oI a_owner cI 200 owner, oI a_fieldCount cI 200 fieldCount, oI a_content cI 200 content]) X uX0_scan_X0 0 4 tyX0 tyX0_ok nmX0 dX0_scan_12 rfl rfl (by decide) kX0_scan_2 rfl (by decide +kernel) rfl rfl (Nat.le_of_ble_eq_true rfl) rfl rfl ?_
  refine r_iconst (pc' := 16) X (0 : Int32) dX0_scan_15 (by decide) rfl ?_
  refine r_istore_n (pc' := 17) (lv' := [(0, .ref a_c), (1, .ref a_h), (2, .int (0 : Int32))]) X dX0_scan_16 rfl (by decide) [1, 2, 0] rfl rfl ?_
  obtain ⟨ex17, hR, hF⟩ := g_bd hF
  have hE17 : ∀ (stacked_7 : Int32) (deepest_8 : Int32) (overflow_9 : Int32) (marked_10 : Nat → Int32) (stack_11 : Nat → Int32), (stacked_7, deepest_8, overflow_9, marked_10, stack_11) = ex17 → G 0 0 [oX0 a_c a_marked a_stack stacked_7 deepest_8 (scans + (1 : Int32)) overflow_9, oZ a_marked cZ 200 marked_10, oI a_stack cI 20 stack_11, oX1 a_h words depth allocated collections freed a_owner a_fieldCount a_dataCount a_pinned a_age a_content a_roots a_weaks a_movedTo a_reports, oI a_owner cI 200 owner, oI a_fieldCount cI 200 fieldCount, oI a_content cI 200 content] [] 85 [] := by
    intro stacked_7 deepest_8 overflow_9 marked_10 stack_11 hx; subst hx
    cases hF
    exact RT.2.2 0 0 _ _ _ rfl dX0_scan_85 ⟨rfl, rfl⟩ (Nat.le_refl 0) (Nat.le_refl 0)
  have hL17 : ∀ (fu : Nat) (v2_1 : Int32) (stacked_2 : Int32) (deepest_3 : Int32) (overflow_4 : Int32) (marked_5 : Nat → Int32) (stack_6 : Nat → Int32), g_itn (FX0_scan_L17 words depth owner fieldCount content) fu (v2_1, stacked_2, deepest_3, overflow_4, marked_5, stack_6) = some ex17 → G 0 0 [oX0 a_c a_marked a_stack stacked_2 deepest_3 (scans + (1 : Int32)) overflow_4, oZ a_marked cZ 200 marked_5, oI a_stack cI 20 stack_6, oX1 a_h words depth allocated collections freed a_owner a_fieldCount a_dataCount a_pinned a_age a_content a_roots a_weaks a_movedTo a_reports, oI a_owner cI 200 owner, oI a_fieldCount cI 200 fieldCount, oI a_content cI 200 content] [(0, .ref a_c), (1, .ref a_h), (2, .int v2_1)] 17 [] := by
    intro fu
    induction fu with
    | zero => intro v2_1 stacked_2 deepest_3 overflow_4 marked_5 stack_6 h9; exact (g_it0 h9).elim
    | succ fu ih =>
      intro v2_1 stacked_2 deepest_3 overflow_4 marked_5 stack_6 h9
      obtain ⟨y17, hF, hI17⟩ := g_its h9
      unfold FX0_scan_L17 at hF
      refine r_iload_n (pc' := 18) X dX0_scan_17 rfl 2 rfl rfl ?_
      refine r_aload_n (pc' := 19) X dX0_scan_18 rfl 1 rfl rfl ?_
      refine r_get (pc' := 22) X uX0_scan_X1 3 0 dX0_scan_19 rfl rfl (by decide) kX0_scan_3 rfl rfl ?_
      refine r_icmp_ge (pc' := 25) X 85 dX0_scan_22 (by decide) rfl (fun c9 => ?_) (fun c9 => ?_)
      · replace hF := g_t c9 hF
        cases hF
        refine r_sub (lv' := []) X [] rfl ?_
        exact hE17 stacked_2 deepest_3 overflow_4 marked_5 stack_6 hI17
      · replace hF := g_f c9 hF
        refine r_aload_n (pc' := 26) X dX0_scan_25 rfl 0 rfl rfl ?_
        refine r_get (pc' := 29) X uX0_scan_X0 0 0 dX0_scan_26 rfl rfl (by decide) kX0_scan_4 rfl rfl ?_
        refine r_iload_n (pc' := 30) X dX0_scan_29 rfl 2 rfl rfl ?_
        obtain ⟨hi12, hF⟩ := g_gt hF
        refine r_zald (pc' := 31) X 1 dX0_scan_30 rfl (g_vi hi12) rfl ?_
        obtain ⟨exJ18, hR, hF⟩ := g_bd hF
        have hJ18 : ∀ (stacked_13 : Int32) (deepest_14 : Int32) (overflow_15 : Int32) (marked_16 : Nat → Int32) (stack_17 : Nat → Int32), (stacked_13, deepest_14, overflow_15, marked_16, stack_17) = exJ18 → G 0 0 [oX0 a_c a_marked a_stack stacked_13 deepest_14 (scans + (1 : Int32)) overflow_15, oZ a_marked cZ 200 marked_16, oI a_stack cI 20 stack_17, oX1 a_h words depth allocated collections freed a_owner a_fieldCount a_dataCount a_pinned a_age a_content a_roots a_weaks a_movedTo a_reports, oI a_owner cI 200 owner, oI a_fieldCount cI 200 fieldCount, oI a_content cI 200 content] [(0, .ref a_c), (1, .ref a_h), (2, .int v2_1)] 79 [] := by
          intro stacked_13 deepest_14 overflow_15 marked_16 stack_17 hx; subst hx
          refine r_iinc (pc' := 82) (lv' := [(0, .ref a_c), (1, .ref a_h), (2, .int (v2_1 + (1 : Int32)))]) X (v2_1 + (1 : Int32)) dX0_scan_79 2 rfl (congrArg (fun z => v2_1 + z) (by decide)) (by decide) [1, 2, 0] rfl rfl ?_
          refine r_goto X 17 dX0_scan_82 (by decide) ?_
          cases hF
          exact ih (v2_1 + (1 : Int32)) stacked_13 deepest_14 overflow_15 marked_16 stack_17 hI17
        replace hF := hR
        refine r_if_eq (pc' := 34) X 79 dX0_scan_31 (by decide) rfl (fun c9 => ?_) (fun c9 => ?_)
        · replace hF := g_t c9 hF
          exact hJ18 stacked_2 deepest_3 overflow_4 marked_5 stack_6 (Option.some.inj hF)
        · replace hF := g_f c9 hF
          refine r_iconst (pc' := 35) X (0 : Int32) dX0_scan_34 (by decide) rfl ?_
          refine r_istore_n (pc' := 36) (lv' := [(0, .ref a_c), (1, .ref a_h), (2, .int v2_1), (3, .int (0 : Int32))]) X dX0_scan_35 rfl (by decide) [1, 2, 3, 0] rfl rfl ?_
          obtain ⟨ex36, hR, hF⟩ := g_bd hF
          have hE36 : ∀ (stacked_25 : Int32) (deepest_26 : Int32) (overflow_27 : Int32) (marked_28 : Nat → Int32) (stack_29 : Nat → Int32), (stacked_25, deepest_26, overflow_27, marked_28, stack_29) = ex36 → G 0 0 [oX0 a_c a_marked a_stack stacked_25 deepest_26 (scans + (1 : Int32)) overflow_27, oZ a_marked cZ 200 marked_28, oI a_stack cI 20 stack_29, oX1 a_h words depth allocated collections freed a_owner a_fieldCount a_dataCount a_pinned a_age a_content a_roots a_weaks a_movedTo a_reports, oI a_owner cI 200 owner, oI a_fieldCount cI 200 fieldCount, oI a_content cI 200 content] [(0, .ref a_c), (1, .ref a_h), (2, .int v2_1)] 79 [] := by
            intro stacked_25 deepest_26 overflow_27 marked_28 stack_29 hx; subst hx
            exact hJ18 stacked_25 deepest_26 overflow_27 marked_28 stack_29 (Option.some.inj hF)
          have hL36 : ∀ (fu : Nat) (v3_19 : Int32) (stacked_20 : Int32) (deepest_21 : Int32) (overflow_22 : Int32) (marked_23 : Nat → Int32) (stack_24 : Nat → Int32), g_itn (FX0_scan_L36 words depth owner fieldCount content v2_1) fu (v3_19, stacked_20, deepest_21, overflow_22, marked_23, stack_24) = some ex36 → G 0 0 [oX0 a_c a_marked a_stack stacked_20 deepest_21 (scans + (1 : Int32)) overflow_22, oZ a_marked cZ 200 marked_23, oI a_stack cI 20 stack_24, oX1 a_h words depth allocated collections freed a_owner a_fieldCount a_dataCount a_pinned a_age a_content a_roots a_weaks a_movedTo a_reports, oI a_owner cI 200 owner, oI a_fieldCount cI 200 fieldCount, oI a_content cI 200 content] [(0, .ref a_c), (1, .ref a_h), (2, .int v2_1), (3, .int v3_19)] 36 [] := by
            intro fu
            induction fu with
            | zero => intro v3_19 stacked_20 deepest_21 overflow_22 marked_23 stack_24 h9; exact (g_it0 h9).elim
            | succ fu ih =>
              intro v3_19 stacked_20 deepest_21 overflow_22 marked_23 stack_24 h9
              obtain ⟨y36, hF, hI36⟩ := g_its h9
              unfold FX0_scan_L36 at hF
              refine r_iload_n (pc' := 37) X dX0_scan_36 rfl 3 rfl rfl ?_
              refine r_aload_n (pc' := 38) X dX0_scan_37 rfl 1 rfl rfl ?_
              refine r_get (pc' := 41) X uX0_scan_X1 3 6 dX0_scan_38 rfl rfl (by decide) kX0_scan_5 rfl rfl ?_
              refine r_iload_n (pc' := 42) X dX0_scan_41 rfl 2 rfl rfl ?_
              obtain ⟨hi30, hF⟩ := g_gt hF
              refine r_iald (pc' := 43) X 5 dX0_scan_42 rfl (g_vi hi30) rfl ?_
              refine r_icmp_ge (pc' := 46) X 79 dX0_scan_43 (by decide) rfl (fun c9 => ?_) (fun c9 => ?_)
              · replace hF := g_t c9 hF
                cases hF
                refine r_sub (lv' := [(0, .ref a_c), (1, .ref a_h), (2, .int v2_1)]) X [0, 1, 2] rfl ?_
                exact hE36 stacked_20 deepest_21 overflow_22 marked_23 stack_24 hI36
              · replace hF := g_f c9 hF
                refine r_aload_n (pc' := 47) X dX0_scan_46 rfl 0 rfl rfl ?_
                refine r_aload_n (pc' := 48) X dX0_scan_47 rfl 1 rfl rfl ?_
                refine r_aload_n (pc' := 49) X dX0_scan_48 rfl 1 rfl rfl ?_
                refine r_get (pc' := 52) X uX0_scan_X1 3 10 dX0_scan_49 rfl rfl (by decide) kX0_scan_6 rfl rfl ?_
                refine r_iload_n (pc' := 53) X dX0_scan_52 rfl 2 rfl rfl ?_
                refine r_iconst (pc' := 54) X (1 : Int32) dX0_scan_53 (by decide) rfl ?_
                refine r_iadd (pc' := 55) X dX0_scan_54 rfl ?_
                refine r_iload_n (pc' := 56) X dX0_scan_55 rfl 3 rfl rfl ?_
                refine r_iadd (pc' := 57) X dX0_scan_56 rfl ?_
                obtain ⟨hi31, hF⟩ := g_gt hF
                refine r_iald (pc' := 58) X 6 dX0_scan_57 rfl (g_vi hi31) rfl ?_
                obtain ⟨r32, hc33, hF⟩ := g_bd hF
                refine r_callVF (pc' := 61) (ws' := [oX0 a_c a_marked a_stack stacked_20 deepest_21 (scans + (1 : Int32)) overflow_22, oZ a_marked cZ 200 marked_23, oI a_stack cI 20 stack_24, oX1 a_h words depth allocated collections freed a_owner a_fieldCount a_dataCount a_pinned a_age a_content a_roots a_weaks a_movedTo a_reports, oI a_owner cI 200 owner, oI a_fieldCount cI 200 fieldCount, oI a_content cI 200 content]) (st' := [.int r32, .ref a_c]) X (mX1_objectAt D cI cZ cH a_h a_owner a_fieldCount a_dataCount a_pinned a_age a_content a_roots a_weaks a_movedTo a_reports words depth allocated collections freed owner (content ((v2_1 + (1 : Int32)) + v3_19).toNatClampNeg) r32 hc33) 1 gX0_scan_X1_objectAt rfl (by decide +kernel) rfl rfl ⟨Nat.le_of_ble_eq_true rfl, Nat.le_of_ble_eq_true rfl⟩ ⟨Nat.le_of_ble_eq_true rfl, Nat.le_of_ble_eq_true rfl⟩ rfl (Nat.le_of_ble_eq_true rfl) dX0_scan_58 3 rfl rfl [3, 4] rfl rfl rfl rfl rfl rfl ?_
                refine r_aload_n (pc' := 62) X dX0_scan_61 rfl 1 rfl rfl ?_
                refine r_get (pc' := 65) X uX0_scan_X1 3 1 dX0_scan_62 rfl rfl (by decide) kX0_scan_7 rfl rfl ?_
                obtain ⟨⟨stacked_34, deepest_35, overflow_36, marked_37, stack_38⟩, hc39, hF⟩ := g_bd hF
                refine r_callVF (pc' := 68) (ws' := [oX0 a_c a_marked a_stack stacked_34 deepest_35 (scans + (1 : Int32)) overflow_36, oZ a_marked cZ 200 marked_37, oI a_stack cI 20 stack_38, oX1 a_h words depth allocated collections freed a_owner a_fieldCount a_dataCount a_pinned a_age a_content a_roots a_weaks a_movedTo a_reports, oI a_owner cI 200 owner, oI a_fieldCount cI 200 fieldCount, oI a_content cI 200 content]) (st' := []) X (mX0_visit D cI cZ cH a_c a_marked a_stack stacked_20 deepest_21 (scans + (1 : Int32)) overflow_22 marked_23 stack_24 r32 depth stacked_34 deepest_35 overflow_36 marked_37 stack_38 hc39) 2 gX0_scan_X0_visit rfl (by decide +kernel) rfl rfl ⟨Nat.le_of_ble_eq_true rfl, Nat.le_of_ble_eq_true rfl⟩ ⟨Nat.le_of_ble_eq_true rfl, Nat.le_of_ble_eq_true rfl⟩ rfl (Nat.le_of_ble_eq_true rfl) dX0_scan_65 0 rfl rfl [0, 1, 2] rfl rfl rfl rfl rfl rfl ?_
                refine r_aload_n (pc' := 69) X dX0_scan_68 rfl 0 rfl rfl ?_
                refine r_aload_n (pc' := 70) X dX0_scan_69 rfl 1 rfl rfl ?_
                obtain ⟨⟨stacked_40, deepest_41, overflow_42, marked_43, stack_44⟩, hc45, hF⟩ := g_bd hF
                refine r_callVF (pc' := 73) (ws' := [oX0 a_c a_marked a_stack stacked_40 deepest_41 (scans + (1 : Int32)) overflow_42, oZ a_marked cZ 200 marked_43, oI a_stack cI 20 stack_44, oX1 a_h words depth allocated collections freed a_owner a_fieldCount a_dataCount a_pinned a_age a_content a_roots a_weaks a_movedTo a_reports, oI a_owner cI 200 owner, oI a_fieldCount cI 200 fieldCount, oI a_content cI 200 content]) (st' := []) X (mX0_drain D cI cZ cH a_c a_marked a_stack a_h a_owner a_fieldCount a_content a_dataCount a_pinned a_age a_roots a_weaks a_movedTo a_reports stacked_34 deepest_35 (scans + (1 : Int32)) overflow_36 marked_37 stack_38 words depth allocated collections freed owner fieldCount content stacked_40 deepest_41 overflow_42 marked_43 stack_44 hc45) 1 gX0_scan_X0_drain rfl (by decide +kernel) rfl rfl ⟨Nat.le_of_ble_eq_true rfl, Nat.le_of_ble_eq_true rfl⟩ ⟨Nat.le_of_ble_eq_true rfl, Nat.le_of_ble_eq_true rfl⟩ rfl (Nat.le_of_ble_eq_true rfl) dX0_scan_70 0 rfl rfl [0, 1, 2, 3, 4, 5, 6] rfl rfl rfl rfl rfl rfl ?_
                refine r_iinc (pc' := 76) (lv' := [(0, .ref a_c), (1, .ref a_h), (2, .int v2_1), (3, .int (v3_19 + (1 : Int32)))]) X (v3_19 + (1 : Int32)) dX0_scan_73 3 rfl (congrArg (fun z => v3_19 + z) (by decide)) (by decide) [1, 2, 3, 0] rfl rfl ?_
                refine r_goto X 36 dX0_scan_76 (by decide) ?_
                cases hF
                exact ih (v3_19 + (1 : Int32)) stacked_40 deepest_41 overflow_42 marked_43 stack_44 hI36
          exact hL36 g_fuel (0 : Int32) stacked_2 deepest_3 overflow_4 marked_5 stack_6 hR
  exact hL17 g_fuel (0 : Int32) stacked deepest (0 : Int32) marked stack hR
theorem kX0_mark_4 : Cond.fieldLink RX0 50 "IslandHeap$Collector" "overflow" "Z" ∈ wsX0_mark := List.mem_of_getElem? (i := 4) (by decide +kernel)
theorem kX0_mark_3 : Cond.fieldLink RX0 43 "IslandHeap$Heap" "words" "I" ∈ wsX0_mark := List.mem_of_getElem? (i := 3) (by decide +kernel)
theorem kX0_mark_2 : Cond.fieldLink RX0 31 "IslandHeap$Heap" "depth" "I" ∈ wsX0_mark := List.mem_of_getElem? (i := 2) (by decide +kernel)
theorem kX0_mark_1 : Cond.fieldLink RX0 22 "IslandHeap$Heap" "roots" "[I" ∈ wsX0_mark := List.mem_of_getElem? (i := 1) (by decide +kernel)
theorem uX0_mark_X0 : ∀ w ∈ u_ws RX0 TX0 6, w ∈ wsX0_mark := by decide +kernel
theorem uX0_mark_X1 : ∀ w ∈ u_ws RX1 TX1 15, w ∈ wsX0_mark := by decide +kernel
set_option maxHeartbeats 4000000 in
set_option maxRecDepth 100000 in
theorem mX0_mark (D : va_G) (cI cZ cH : ClassId) (a_c : Nat) (a_marked : Nat) (a_stack : Nat) (a_h : Nat) (a_owner : Nat) (a_fieldCount : Nat) (a_pinned : Nat) (a_content : Nat) (a_roots : Nat) (a_dataCount : Nat) (a_age : Nat) (a_weaks : Nat) (a_movedTo : Nat) (a_reports : Nat) (stacked : Int32) (deepest : Int32) (scans : Int32) (overflow : Int32) (marked : Nat → Int32) (stack : Nat → Int32) (words : Int32) (depth : Int32) (allocated : Int32) (collections : Int32) (freed : Int32) (owner : Nat → Int32) (fieldCount : Nat → Int32) (pinned : Nat → Int32) (content : Nat → Int32) (roots : Nat → Int32) (w_stacked : Int32) (w_deepest : Int32) (w_scans : Int32) (w_overflow : Int32) (w_marked : Nat → Int32) (w_stack : Nat → Int32) (hF : FX0_mark stacked deepest scans overflow marked stack words depth owner fieldCount pinned content roots = some (w_stacked, w_deepest, w_scans, w_overflow, w_marked, w_stack)) : g_CM yX0_mark wsX0_mark ({ frames := 4, cells := 0, slots := 0, locals := 89 }) D cI cZ cH [.ref a_c, .ref a_h] [oX0 a_c a_marked a_stack stacked deepest scans overflow, oZ a_marked cZ 200 marked, oI a_stack cI 20 stack, oX1 a_h words depth allocated collections freed a_owner a_fieldCount a_dataCount a_pinned a_age a_content a_roots a_weaks a_movedTo a_reports, oI a_owner cI 200 owner, oI a_fieldCount cI 200 fieldCount, oI a_pinned cI 200 pinned, oI a_content cI 200 content, oI a_roots cI 6 roots] 0 0 (g_Tm (none) [oX0 a_c a_marked a_stack w_stacked w_deepest w_scans w_overflow, oZ a_marked cZ 200 w_marked, oI a_stack cI 20 w_stack, oX1 a_h words depth allocated collections freed a_owner a_fieldCount a_dataCount a_pinned a_age a_content a_roots a_weaks a_movedTo a_reports, oI a_owner cI 200 owner, oI a_fieldCount cI 200 fieldCount, oI a_pinned cI 200 pinned, oI a_content cI 200 content, oI a_roots cI 6 roots]) := by
  refine g_met (own := RX0) (mn := "mark") (cc := cX0_mark) (maxL := 3) (ret := none) rfl rfl (by decide +kernel) rfl (Nat.le_of_ble_eq_true rfl) (fun G X RT => ?_)
  show G 0 0 [oX0 a_c a_marked a_stack stacked deepest scans overflow, oZ a_marked cZ 200 marked, oI a_stack cI 20 stack, oX1 a_h words depth allocated collections freed a_owner a_fieldCount a_dataCount a_pinned a_age a_content a_roots a_weaks a_movedTo a_reports, oI a_owner cI 200 owner, oI a_fieldCount cI 200 fieldCount, oI a_pinned cI 200 pinned, oI a_content cI 200 content, oI a_roots cI 6 roots] [(0, .ref a_c), (1, .ref a_h)] 0 []
  unfold FX0_mark at hF
  refine r_aload_n (pc' := 1) X dX0_mark_0 rfl 0 rfl rfl ?_
  obtain ⟨⟨stacked_1, deepest_2, scans_3, overflow_4, marked_5⟩, hc6, hF⟩ := g_bd hF
  refine r_callVF (pc' := 4) (ws' := [oX0 a_c a_marked a_stack stacked_1 deepest_2 scans_3 overflow_4, oZ a_marked cZ 200 marked_5, oI a_stack cI 20 stack, oX1 a_h words depth allocated collections freed a_owner a_fieldCount a_dataCount a_pinned a_age a_content a_roots a_weaks a_movedTo a_reports, oI a_owner cI 200 owner, oI a_fieldCount cI 200 fieldCount, oI a_pinned cI 200 pinned, oI a_content cI 200 content, oI a_roots cI 6 roots]) (st' := []) X (mX0_begin D cI cZ cH a_c a_marked a_stack stacked deepest scans overflow marked stacked_1 deepest_2 scans_3 overflow_4 marked_5 hc6) 0 gX0_mark_X0_begin rfl (by decide +kernel) rfl rfl ⟨Nat.le_of_ble_eq_true rfl, Nat.le_of_ble_eq_true rfl⟩ ⟨Nat.le_of_ble_eq_true rfl, Nat.le_of_ble_eq_true rfl⟩ rfl (Nat.le_of_ble_eq_true rfl) dX0_mark_1 0 rfl rfl [0, 1] rfl rfl rfl rfl rfl rfl ?_
  refine r_iconst (pc' := 5) X (0 : Int32) dX0_mark_4 (by decide) rfl ?_
  refine r_istore_n (pc' := 6) (lv' := [(0, .ref a_c), (1, .ref a_h), (2, .int (0 : Int32))]) X dX0_mark_5 rfl (by decide) [1, 2, 0] rfl rfl ?_
  obtain ⟨ex6, hR, hF⟩ := g_bd hF
  have hE6 : ∀ (stacked_13 : Int32) (deepest_14 : Int32) (overflow_15 : Int32) (marked_16 : Nat → Int32) (stack_17 : Nat → Int32), (stacked_13, deepest_14, overflow_15, marked_16, stack_17) = ex6 → G 0 0 [oX0 a_c a_marked a_stack stacked_13 deepest_14 scans_3 overflow_15, oZ a_marked cZ 200 marked_16, oI a_stack cI 20 stack_17, oX1 a_h words depth allocated collections freed a_owner a_fieldCount a_dataCount a_pinned a_age a_content a_roots a_weaks a_movedTo a_reports, oI a_owner cI 200 owner, oI a_fieldCount cI 200 fieldCount, oI a_pinned cI 200 pinned, oI a_content cI 200 content, oI a_roots cI 6 roots] [(0, .ref a_c), (1, .ref a_h)] 41 [] := by
    intro stacked_13 deepest_14 overflow_15 marked_16 stack_17 hx; subst hx
    refine r_iconst (pc' := 42) X (0 : Int32) dX0_mark_41 (by decide) rfl ?_
    refine r_istore_n (pc' := 43) (lv' := [(0, .ref a_c), (1, .ref a_h), (2, .int (0 : Int32))]) X dX0_mark_42 rfl (by decide) [1, 2, 0] rfl rfl ?_
    obtain ⟨ex43, hR, hF⟩ := g_bd hF
    have hE43 : ∀ (stacked_24 : Int32) (deepest_25 : Int32) (overflow_26 : Int32) (marked_27 : Nat → Int32) (stack_28 : Nat → Int32), (stacked_24, deepest_25, overflow_26, marked_27, stack_28) = ex43 → G 0 0 [oX0 a_c a_marked a_stack stacked_24 deepest_25 scans_3 overflow_26, oZ a_marked cZ 200 marked_27, oI a_stack cI 20 stack_28, oX1 a_h words depth allocated collections freed a_owner a_fieldCount a_dataCount a_pinned a_age a_content a_roots a_weaks a_movedTo a_reports, oI a_owner cI 200 owner, oI a_fieldCount cI 200 fieldCount, oI a_pinned cI 200 pinned, oI a_content cI 200 content, oI a_roots cI 6 roots] [(0, .ref a_c), (1, .ref a_h)] 79 [] := by
      intro stacked_24 deepest_25 overflow_26 marked_27 stack_28 hx; subst hx
      refine r_iconst (pc' := 80) X (0 : Int32) dX0_mark_79 (by decide) rfl ?_
      refine r_istore_n (pc' := 81) (lv' := [(0, .ref a_c), (1, .ref a_h), (2, .int (0 : Int32))]) X dX0_mark_80 rfl (by decide) [1, 2, 0] rfl rfl ?_
      obtain ⟨ex81, hR, hF⟩ := g_bd hF
      have hE81 : ∀ (stacked_36 : Int32) (deepest_37 : Int32) (scans_38 : Int32) (overflow_39 : Int32) (marked_40 : Nat → Int32) (stack_41 : Nat → Int32), (stacked_36, deepest_37, scans_38, overflow_39, marked_40, stack_41) = ex81 → G 0 0 [oX0 a_c a_marked a_stack stacked_36 deepest_37 scans_38 overflow_39, oZ a_marked cZ 200 marked_40, oI a_stack cI 20 stack_41, oX1 a_h words depth allocated collections freed a_owner a_fieldCount a_dataCount a_pinned a_age a_content a_roots a_weaks a_movedTo a_reports, oI a_owner cI 200 owner, oI a_fieldCount cI 200 fieldCount, oI a_pinned cI 200 pinned, oI a_content cI 200 content, oI a_roots cI 6 roots] [] 106 [] := by
        intro stacked_36 deepest_37 scans_38 overflow_39 marked_40 stack_41 hx; subst hx
        cases hF
        exact RT.2.2 0 0 _ _ _ rfl dX0_mark_106 ⟨rfl, rfl⟩ (Nat.le_refl 0) (Nat.le_refl 0)
      have hL81 : ∀ (fu : Nat) (v2_29 : Int32) (stacked_30 : Int32) (deepest_31 : Int32) (scans_32 : Int32) (overflow_33 : Int32) (marked_34 : Nat → Int32) (stack_35 : Nat → Int32), g_itn (FX0_mark_L81 words depth owner fieldCount content) fu (v2_29, stacked_30, deepest_31, scans_32, overflow_33, marked_34, stack_35) = some ex81 → G 0 0 [oX0 a_c a_marked a_stack stacked_30 deepest_31 scans_32 overflow_33, oZ a_marked cZ 200 marked_34, oI a_stack cI 20 stack_35, oX1 a_h words depth allocated collections freed a_owner a_fieldCount a_dataCount a_pinned a_age a_content a_roots a_weaks a_movedTo a_reports, oI a_owner cI 200 owner, oI a_fieldCount cI 200 fieldCount, oI a_pinned cI 200 pinned, oI a_content cI 200 content, oI a_roots cI 6 roots] [(0, .ref a_c), (1, .ref a_h), (2, .int v2_29)] 81 [] := by
        intro fu
        induction fu with
        | zero => intro v2_29 stacked_30 deepest_31 scans_32 overflow_33 marked_34 stack_35 h9; exact (g_it0 h9).elim
        | succ fu ih =>
          intro v2_29 stacked_30 deepest_31 scans_32 overflow_33 marked_34 stack_35 h9
          obtain ⟨y81, hF, hI81⟩ := g_its h9
          unfold FX0_mark_L81 at hF
          refine r_iload_n (pc' := 82) X dX0_mark_81 rfl 2 rfl rfl ?_
          refine r_sipush (pc' := 85) X (200 : Int32) dX0_mark_82 (by decide) rfl ?_
          refine r_icmp_ge (pc' := 88) X 106 dX0_mark_85 (by decide) rfl (fun c9 => ?_) (fun c9 => ?_)
          · replace hF := g_t c9 hF
            cases hF
            refine r_sub (lv' := []) X [] rfl ?_
            exact hE81 stacked_30 deepest_31 scans_32 overflow_33 marked_34 stack_35 hI81
          · replace hF := g_f c9 hF
            refine r_aload_n (pc' := 89) X dX0_mark_88 rfl 0 rfl rfl ?_
            refine r_get (pc' := 92) X uX0_mark_X0 0 5 dX0_mark_89 rfl rfl (by decide) kX0_mark_4 rfl rfl ?_
            refine r_if_eq (pc' := 95) X 106 dX0_mark_92 (by decide) rfl (fun c9 => ?_) (fun c9 => ?_)
            · replace hF := g_t c9 hF
              cases hF
              refine r_sub (lv' := []) X [] rfl ?_
              exact hE81 stacked_30 deepest_31 scans_32 overflow_33 marked_34 stack_35 hI81
            · replace hF := g_f c9 hF
              refine r_aload_n (pc' := 96) X dX0_mark_95 rfl 0 rfl rfl ?_
              refine r_aload_n (pc' := 97) X dX0_mark_96 rfl 1 rfl rfl ?_
              obtain ⟨⟨stacked_42, deepest_43, scans_44, overflow_45, marked_46, stack_47⟩, hc48, hF⟩ := g_bd hF
              refine r_callVF (pc' := 100) (ws' := [oX0 a_c a_marked a_stack stacked_42 deepest_43 scans_44 overflow_45, oZ a_marked cZ 200 marked_46, oI a_stack cI 20 stack_47, oX1 a_h words depth allocated collections freed a_owner a_fieldCount a_dataCount a_pinned a_age a_content a_roots a_weaks a_movedTo a_reports, oI a_owner cI 200 owner, oI a_fieldCount cI 200 fieldCount, oI a_pinned cI 200 pinned, oI a_content cI 200 content, oI a_roots cI 6 roots]) (st' := []) X (mX0_scan D cI cZ cH a_c a_marked a_stack a_h a_owner a_fieldCount a_content a_dataCount a_pinned a_age a_roots a_weaks a_movedTo a_reports stacked_30 deepest_31 scans_32 overflow_33 marked_34 stack_35 words depth allocated collections freed owner fieldCount content stacked_42 deepest_43 scans_44 overflow_45 marked_46 stack_47 hc48) 1 gX0_mark_X0_scan rfl (by decide +kernel) rfl rfl ⟨Nat.le_of_ble_eq_true rfl, Nat.le_of_ble_eq_true rfl⟩ ⟨Nat.le_of_ble_eq_true rfl, Nat.le_of_ble_eq_true rfl⟩ rfl (Nat.le_of_ble_eq_true rfl) dX0_mark_97 0 rfl rfl [0, 1, 2, 3, 4, 5, 7] rfl rfl rfl rfl rfl rfl ?_
              refine r_iinc (pc' := 103) (lv' := [(0, .ref a_c), (1, .ref a_h), (2, .int (v2_29 + (1 : Int32)))]) X (v2_29 + (1 : Int32)) dX0_mark_100 2 rfl (congrArg (fun z => v2_29 + z) (by decide)) (by decide) [1, 2, 0] rfl rfl ?_
              refine r_goto X 81 dX0_mark_103 (by decide) ?_
              cases hF
              exact ih (v2_29 + (1 : Int32)) stacked_42 deepest_43 scans_44 overflow_45 marked_46 stack_47 hI81
      exact hL81 g_fuel (0 : Int32) stacked_24 deepest_25 scans_3 overflow_26 marked_27 stack_28 hR
    have hL43 : ∀ (fu : Nat) (v2_18 : Int32) (stacked_19 : Int32) (deepest_20 : Int32) (overflow_21 : Int32) (marked_22 : Nat → Int32) (stack_23 : Nat → Int32), g_itn (FX0_mark_L43 words depth owner fieldCount pinned content) fu (v2_18, stacked_19, deepest_20, overflow_21, marked_22, stack_23) = some ex43 → G 0 0 [oX0 a_c a_marked a_stack stacked_19 deepest_20 scans_3 overflow_21, oZ a_marked cZ 200 marked_22, oI a_stack cI 20 stack_23, oX1 a_h words depth allocated collections freed a_owner a_fieldCount a_dataCount a_pinned a_age a_content a_roots a_weaks a_movedTo a_reports, oI a_owner cI 200 owner, oI a_fieldCount cI 200 fieldCount, oI a_pinned cI 200 pinned, oI a_content cI 200 content, oI a_roots cI 6 roots] [(0, .ref a_c), (1, .ref a_h), (2, .int v2_18)] 43 [] := by
      intro fu
      induction fu with
      | zero => intro v2_18 stacked_19 deepest_20 overflow_21 marked_22 stack_23 h9; exact (g_it0 h9).elim
      | succ fu ih =>
        intro v2_18 stacked_19 deepest_20 overflow_21 marked_22 stack_23 h9
        obtain ⟨y43, hF, hI43⟩ := g_its h9
        unfold FX0_mark_L43 at hF
        refine r_iload_n (pc' := 44) X dX0_mark_43 rfl 2 rfl rfl ?_
        refine r_aload_n (pc' := 45) X dX0_mark_44 rfl 1 rfl rfl ?_
        refine r_get (pc' := 48) X uX0_mark_X1 3 0 dX0_mark_45 rfl rfl (by decide) kX0_mark_3 rfl rfl ?_
        refine r_icmp_ge (pc' := 51) X 79 dX0_mark_48 (by decide) rfl (fun c9 => ?_) (fun c9 => ?_)
        · replace hF := g_t c9 hF
          cases hF
          refine r_sub (lv' := [(0, .ref a_c), (1, .ref a_h)]) X [0, 1] rfl ?_
          exact hE43 stacked_19 deepest_20 overflow_21 marked_22 stack_23 hI43
        · replace hF := g_f c9 hF
          refine r_aload_n (pc' := 52) X dX0_mark_51 rfl 1 rfl rfl ?_
          refine r_iload_n (pc' := 53) X dX0_mark_52 rfl 2 rfl rfl ?_
          obtain ⟨r49, hc50, hF⟩ := g_bd hF
          refine r_callVF (pc' := 56) (ws' := [oX0 a_c a_marked a_stack stacked_19 deepest_20 scans_3 overflow_21, oZ a_marked cZ 200 marked_22, oI a_stack cI 20 stack_23, oX1 a_h words depth allocated collections freed a_owner a_fieldCount a_dataCount a_pinned a_age a_content a_roots a_weaks a_movedTo a_reports, oI a_owner cI 200 owner, oI a_fieldCount cI 200 fieldCount, oI a_pinned cI 200 pinned, oI a_content cI 200 content, oI a_roots cI 6 roots]) (st' := [.int r49]) X (mX1_isPinned D cI cZ cH a_h a_owner a_pinned a_fieldCount a_dataCount a_age a_content a_roots a_weaks a_movedTo a_reports words depth allocated collections freed owner pinned v2_18 r49 hc50) 1 gX0_mark_X1_isPinned rfl (by decide +kernel) rfl rfl ⟨Nat.le_of_ble_eq_true rfl, Nat.le_of_ble_eq_true rfl⟩ ⟨Nat.le_of_ble_eq_true rfl, Nat.le_of_ble_eq_true rfl⟩ rfl (Nat.le_of_ble_eq_true rfl) dX0_mark_53 3 rfl rfl [3, 4, 6] rfl rfl rfl rfl rfl rfl ?_
          obtain ⟨exJ56, hR, hF⟩ := g_bd hF
          have hJ56 : ∀ (stacked_51 : Int32) (deepest_52 : Int32) (overflow_53 : Int32) (marked_54 : Nat → Int32) (stack_55 : Nat → Int32), (stacked_51, deepest_52, overflow_53, marked_54, stack_55) = exJ56 → G 0 0 [oX0 a_c a_marked a_stack stacked_51 deepest_52 scans_3 overflow_53, oZ a_marked cZ 200 marked_54, oI a_stack cI 20 stack_55, oX1 a_h words depth allocated collections freed a_owner a_fieldCount a_dataCount a_pinned a_age a_content a_roots a_weaks a_movedTo a_reports, oI a_owner cI 200 owner, oI a_fieldCount cI 200 fieldCount, oI a_pinned cI 200 pinned, oI a_content cI 200 content, oI a_roots cI 6 roots] [(0, .ref a_c), (1, .ref a_h), (2, .int v2_18)] 73 [] := by
            intro stacked_51 deepest_52 overflow_53 marked_54 stack_55 hx; subst hx
            refine r_iinc (pc' := 76) (lv' := [(0, .ref a_c), (1, .ref a_h), (2, .int (v2_18 + (1 : Int32)))]) X (v2_18 + (1 : Int32)) dX0_mark_73 2 rfl (congrArg (fun z => v2_18 + z) (by decide)) (by decide) [1, 2, 0] rfl rfl ?_
            refine r_goto X 43 dX0_mark_76 (by decide) ?_
            cases hF
            exact ih (v2_18 + (1 : Int32)) stacked_51 deepest_52 overflow_53 marked_54 stack_55 hI43
          replace hF := hR
          refine r_if_eq (pc' := 59) X 73 dX0_mark_56 (by decide) rfl (fun c9 => ?_) (fun c9 => ?_)
          · replace hF := g_t c9 hF
            exact hJ56 stacked_19 deepest_20 overflow_21 marked_22 stack_23 (Option.some.inj hF)
          · replace hF := g_f c9 hF
            refine r_aload_n (pc' := 60) X dX0_mark_59 rfl 0 rfl rfl ?_
            refine r_iload_n (pc' := 61) X dX0_mark_60 rfl 2 rfl rfl ?_
            refine r_aload_n (pc' := 62) X dX0_mark_61 rfl 1 rfl rfl ?_
            refine r_get (pc' := 65) X uX0_mark_X1 3 1 dX0_mark_62 rfl rfl (by decide) kX0_mark_2 rfl rfl ?_
            obtain ⟨⟨stacked_57, deepest_58, overflow_59, marked_60, stack_61⟩, hc62, hF⟩ := g_bd hF
            refine r_callVF (pc' := 68) (ws' := [oX0 a_c a_marked a_stack stacked_57 deepest_58 scans_3 overflow_59, oZ a_marked cZ 200 marked_60, oI a_stack cI 20 stack_61, oX1 a_h words depth allocated collections freed a_owner a_fieldCount a_dataCount a_pinned a_age a_content a_roots a_weaks a_movedTo a_reports, oI a_owner cI 200 owner, oI a_fieldCount cI 200 fieldCount, oI a_pinned cI 200 pinned, oI a_content cI 200 content, oI a_roots cI 6 roots]) (st' := []) X (mX0_visit D cI cZ cH a_c a_marked a_stack stacked_19 deepest_20 scans_3 overflow_21 marked_22 stack_23 v2_18 depth stacked_57 deepest_58 overflow_59 marked_60 stack_61 hc62) 2 gX0_mark_X0_visit rfl (by decide +kernel) rfl rfl ⟨Nat.le_of_ble_eq_true rfl, Nat.le_of_ble_eq_true rfl⟩ ⟨Nat.le_of_ble_eq_true rfl, Nat.le_of_ble_eq_true rfl⟩ rfl (Nat.le_of_ble_eq_true rfl) dX0_mark_65 0 rfl rfl [0, 1, 2] rfl rfl rfl rfl rfl rfl ?_
            refine r_aload_n (pc' := 69) X dX0_mark_68 rfl 0 rfl rfl ?_
            refine r_aload_n (pc' := 70) X dX0_mark_69 rfl 1 rfl rfl ?_
            obtain ⟨⟨stacked_63, deepest_64, overflow_65, marked_66, stack_67⟩, hc68, hF⟩ := g_bd hF
            refine r_callVF (pc' := 73) (ws' := [oX0 a_c a_marked a_stack stacked_63 deepest_64 scans_3 overflow_65, oZ a_marked cZ 200 marked_66, oI a_stack cI 20 stack_67, oX1 a_h words depth allocated collections freed a_owner a_fieldCount a_dataCount a_pinned a_age a_content a_roots a_weaks a_movedTo a_reports, oI a_owner cI 200 owner, oI a_fieldCount cI 200 fieldCount, oI a_pinned cI 200 pinned, oI a_content cI 200 content, oI a_roots cI 6 roots]) (st' := []) X (mX0_drain D cI cZ cH a_c a_marked a_stack a_h a_owner a_fieldCount a_content a_dataCount a_pinned a_age a_roots a_weaks a_movedTo a_reports stacked_57 deepest_58 scans_3 overflow_59 marked_60 stack_61 words depth allocated collections freed owner fieldCount content stacked_63 deepest_64 overflow_65 marked_66 stack_67 hc68) 1 gX0_mark_X0_drain rfl (by decide +kernel) rfl rfl ⟨Nat.le_of_ble_eq_true rfl, Nat.le_of_ble_eq_true rfl⟩ ⟨Nat.le_of_ble_eq_true rfl, Nat.le_of_ble_eq_true rfl⟩ rfl (Nat.le_of_ble_eq_true rfl) dX0_mark_70 0 rfl rfl [0, 1, 2, 3, 4, 5, 7] rfl rfl rfl rfl rfl rfl ?_
            exact hJ56 stacked_63 deepest_64 overflow_65 marked_66 stack_67 (Option.some.inj hF)
    exact hL43 g_fuel (0 : Int32) stacked_13 deepest_14 overflow_15 marked_16 stack_17 hR
  have hL6 : ∀ (fu : Nat) (v2_7 : Int32) (stacked_8 : Int32) (deepest_9 : Int32) (overflow_10 : Int32) (marked_11 : Nat → Int32) (stack_12 : Nat → Int32), g_itn (FX0_mark_L6 words depth owner fieldCount content roots) fu (v2_7, stacked_8, deepest_9, overflow_10, marked_11, stack_12) = some ex6 → G 0 0 [oX0 a_c a_marked a_stack stacked_8 deepest_9 scans_3 overflow_10, oZ a_marked cZ 200 marked_11, oI a_stack cI 20 stack_12, oX1 a_h words depth allocated collections freed a_owner a_fieldCount a_dataCount a_pinned a_age a_content a_roots a_weaks a_movedTo a_reports, oI a_owner cI 200 owner, oI a_fieldCount cI 200 fieldCount, oI a_pinned cI 200 pinned, oI a_content cI 200 content, oI a_roots cI 6 roots] [(0, .ref a_c), (1, .ref a_h), (2, .int v2_7)] 6 [] := by
    intro fu
    induction fu with
    | zero => intro v2_7 stacked_8 deepest_9 overflow_10 marked_11 stack_12 h9; exact (g_it0 h9).elim
    | succ fu ih =>
      intro v2_7 stacked_8 deepest_9 overflow_10 marked_11 stack_12 h9
      obtain ⟨y6, hF, hI6⟩ := g_its h9
      unfold FX0_mark_L6 at hF
      refine r_iload_n (pc' := 7) X dX0_mark_6 rfl 2 rfl rfl ?_
      refine r_bipush (pc' := 9) X (6 : Int32) dX0_mark_7 (by decide) rfl ?_
      refine r_icmp_ge (pc' := 12) X 41 dX0_mark_9 (by decide) rfl (fun c9 => ?_) (fun c9 => ?_)
      · replace hF := g_t c9 hF
        cases hF
        refine r_sub (lv' := [(0, .ref a_c), (1, .ref a_h)]) X [0, 1] rfl ?_
        exact hE6 stacked_8 deepest_9 overflow_10 marked_11 stack_12 hI6
      · replace hF := g_f c9 hF
        refine r_aload_n (pc' := 13) X dX0_mark_12 rfl 0 rfl rfl ?_
        refine r_aload_n (pc' := 14) X dX0_mark_13 rfl 1 rfl rfl ?_
        refine r_aload_n (pc' := 15) X dX0_mark_14 rfl 1 rfl rfl ?_
        refine r_get (pc' := 18) X uX0_mark_X1 3 11 dX0_mark_15 rfl rfl (by decide) kX0_mark_1 rfl rfl ?_
        refine r_iload_n (pc' := 19) X dX0_mark_18 rfl 2 rfl rfl ?_
        obtain ⟨hi69, hF⟩ := g_gt hF
        refine r_iald (pc' := 20) X 8 dX0_mark_19 rfl (g_vi hi69) rfl ?_
        obtain ⟨r70, hc71, hF⟩ := g_bd hF
        refine r_callVF (pc' := 23) (ws' := [oX0 a_c a_marked a_stack stacked_8 deepest_9 scans_3 overflow_10, oZ a_marked cZ 200 marked_11, oI a_stack cI 20 stack_12, oX1 a_h words depth allocated collections freed a_owner a_fieldCount a_dataCount a_pinned a_age a_content a_roots a_weaks a_movedTo a_reports, oI a_owner cI 200 owner, oI a_fieldCount cI 200 fieldCount, oI a_pinned cI 200 pinned, oI a_content cI 200 content, oI a_roots cI 6 roots]) (st' := [.int r70, .ref a_c]) X (mX1_objectAt D cI cZ cH a_h a_owner a_fieldCount a_dataCount a_pinned a_age a_content a_roots a_weaks a_movedTo a_reports words depth allocated collections freed owner (roots v2_7.toNatClampNeg) r70 hc71) 1 gX0_mark_X1_objectAt rfl (by decide +kernel) rfl rfl ⟨Nat.le_of_ble_eq_true rfl, Nat.le_of_ble_eq_true rfl⟩ ⟨Nat.le_of_ble_eq_true rfl, Nat.le_of_ble_eq_true rfl⟩ rfl (Nat.le_of_ble_eq_true rfl) dX0_mark_20 3 rfl rfl [3, 4] rfl rfl rfl rfl rfl rfl ?_
        refine r_aload_n (pc' := 24) X dX0_mark_23 rfl 1 rfl rfl ?_
        refine r_get (pc' := 27) X uX0_mark_X1 3 1 dX0_mark_24 rfl rfl (by decide) kX0_mark_2 rfl rfl ?_
        obtain ⟨⟨stacked_72, deepest_73, overflow_74, marked_75, stack_76⟩, hc77, hF⟩ := g_bd hF
        refine r_callVF (pc' := 30) (ws' := [oX0 a_c a_marked a_stack stacked_72 deepest_73 scans_3 overflow_74, oZ a_marked cZ 200 marked_75, oI a_stack cI 20 stack_76, oX1 a_h words depth allocated collections freed a_owner a_fieldCount a_dataCount a_pinned a_age a_content a_roots a_weaks a_movedTo a_reports, oI a_owner cI 200 owner, oI a_fieldCount cI 200 fieldCount, oI a_pinned cI 200 pinned, oI a_content cI 200 content, oI a_roots cI 6 roots]) (st' := []) X (mX0_visit D cI cZ cH a_c a_marked a_stack stacked_8 deepest_9 scans_3 overflow_10 marked_11 stack_12 r70 depth stacked_72 deepest_73 overflow_74 marked_75 stack_76 hc77) 2 gX0_mark_X0_visit rfl (by decide +kernel) rfl rfl ⟨Nat.le_of_ble_eq_true rfl, Nat.le_of_ble_eq_true rfl⟩ ⟨Nat.le_of_ble_eq_true rfl, Nat.le_of_ble_eq_true rfl⟩ rfl (Nat.le_of_ble_eq_true rfl) dX0_mark_27 0 rfl rfl [0, 1, 2] rfl rfl rfl rfl rfl rfl ?_
        refine r_aload_n (pc' := 31) X dX0_mark_30 rfl 0 rfl rfl ?_
        refine r_aload_n (pc' := 32) X dX0_mark_31 rfl 1 rfl rfl ?_
        obtain ⟨⟨stacked_78, deepest_79, overflow_80, marked_81, stack_82⟩, hc83, hF⟩ := g_bd hF
        refine r_callVF (pc' := 35) (ws' := [oX0 a_c a_marked a_stack stacked_78 deepest_79 scans_3 overflow_80, oZ a_marked cZ 200 marked_81, oI a_stack cI 20 stack_82, oX1 a_h words depth allocated collections freed a_owner a_fieldCount a_dataCount a_pinned a_age a_content a_roots a_weaks a_movedTo a_reports, oI a_owner cI 200 owner, oI a_fieldCount cI 200 fieldCount, oI a_pinned cI 200 pinned, oI a_content cI 200 content, oI a_roots cI 6 roots]) (st' := []) X (mX0_drain D cI cZ cH a_c a_marked a_stack a_h a_owner a_fieldCount a_content a_dataCount a_pinned a_age a_roots a_weaks a_movedTo a_reports stacked_72 deepest_73 scans_3 overflow_74 marked_75 stack_76 words depth allocated collections freed owner fieldCount content stacked_78 deepest_79 overflow_80 marked_81 stack_82 hc83) 1 gX0_mark_X0_drain rfl (by decide +kernel) rfl rfl ⟨Nat.le_of_ble_eq_true rfl, Nat.le_of_ble_eq_true rfl⟩ ⟨Nat.le_of_ble_eq_true rfl, Nat.le_of_ble_eq_true rfl⟩ rfl (Nat.le_of_ble_eq_true rfl) dX0_mark_32 0 rfl rfl [0, 1, 2, 3, 4, 5, 7] rfl rfl rfl rfl rfl rfl ?_
        refine r_iinc (pc' := 38) (lv' := [(0, .ref a_c), (1, .ref a_h), (2, .int (v2_7 + (1 : Int32)))]) X (v2_7 + (1 : Int32)) dX0_mark_35 2 rfl (congrArg (fun z => v2_7 + z) (by decide)) (by decide) [1, 2, 0] rfl rfl ?_
        refine r_goto X 6 dX0_mark_38 (by decide) ?_
        cases hF
        exact ih (v2_7 + (1 : Int32)) stacked_78 deepest_79 overflow_80 marked_81 stack_82 hI6
  exact hL6 g_fuel (0 : Int32) stacked_1 deepest_2 overflow_4 marked_5 stack hR
theorem kX0_planObject_2 : Cond.fieldLink RX0 81 "IslandHeap$Heap" "reports" "[I" ∈ wsX0_planObject := List.mem_of_getElem? (i := 2) (by decide +kernel)
theorem kX0_planObject_1 : Cond.fieldLink RX0 72 "IslandHeap$Heap" "movedTo" "[I" ∈ wsX0_planObject := List.mem_of_getElem? (i := 1) (by decide +kernel)
theorem uX0_planObject_X1 : ∀ w ∈ u_ws RX1 TX1 15, w ∈ wsX0_planObject := by decide +kernel
set_option maxHeartbeats 4000000 in
set_option maxRecDepth 100000 in
theorem mX0_planObject (D : va_G) (cI cZ cH : ClassId) (a_c : Nat) (a_h : Nat) (a_fieldCount : Nat) (a_dataCount : Nat) (a_movedTo : Nat) (a_reports : Nat) (a_marked : Nat) (a_stack : Nat) (a_owner : Nat) (a_pinned : Nat) (a_age : Nat) (a_content : Nat) (a_roots : Nat) (a_weaks : Nat) (stacked : Int32) (deepest : Int32) (scans : Int32) (overflow : Int32) (words : Int32) (depth : Int32) (allocated : Int32) (collections : Int32) (freed : Int32) (fieldCount : Nat → Int32) (dataCount : Nat → Int32) (movedTo : Nat → Int32) (reports : Nat → Int32) (p2 : Int32) (p3 : Int32) (w_movedTo : Nat → Int32) (w_reports : Nat → Int32) (hF : FX0_planObject fieldCount dataCount movedTo reports p2 p3 = some (w_movedTo, w_reports)) : g_CM yX0_planObject wsX0_planObject ({ frames := 1, cells := 0, slots := 0, locals := 21 }) D cI cZ cH [.ref a_c, .ref a_h, .int p2, .int p3] [oX0 a_c a_marked a_stack stacked deepest scans overflow, oX1 a_h words depth allocated collections freed a_owner a_fieldCount a_dataCount a_pinned a_age a_content a_roots a_weaks a_movedTo a_reports, oI a_fieldCount cI 200 fieldCount, oI a_dataCount cI 200 dataCount, oI a_movedTo cI 200 movedTo, oI a_reports cI 6 reports] 0 0 (g_Tm (none) [oX0 a_c a_marked a_stack stacked deepest scans overflow, oX1 a_h words depth allocated collections freed a_owner a_fieldCount a_dataCount a_pinned a_age a_content a_roots a_weaks a_movedTo a_reports, oI a_fieldCount cI 200 fieldCount, oI a_dataCount cI 200 dataCount, oI a_movedTo cI 200 w_movedTo, oI a_reports cI 6 w_reports]) := by
  refine g_met (own := RX0) (mn := "planObject") (cc := cX0_planObject) (maxL := 6) (ret := none) rfl rfl (by decide +kernel) rfl (Nat.le_of_ble_eq_true rfl) (fun G X RT => ?_)
  show G 0 0 [oX0 a_c a_marked a_stack stacked deepest scans overflow, oX1 a_h words depth allocated collections freed a_owner a_fieldCount a_dataCount a_pinned a_age a_content a_roots a_weaks a_movedTo a_reports, oI a_fieldCount cI 200 fieldCount, oI a_dataCount cI 200 dataCount, oI a_movedTo cI 200 movedTo, oI a_reports cI 6 reports] [(0, .ref a_c), (1, .ref a_h), (2, .int p2), (3, .int p3)] 0 []
  unfold FX0_planObject at hF
  refine r_aload_n (pc' := 1) X dX0_planObject_0 rfl 1 rfl rfl ?_
  refine r_iload_n (pc' := 2) X dX0_planObject_1 rfl 2 rfl rfl ?_
  obtain ⟨r1, hc2, hF⟩ := g_bd hF
  refine r_callVF (pc' := 5) (ws' := [oX0 a_c a_marked a_stack stacked deepest scans overflow, oX1 a_h words depth allocated collections freed a_owner a_fieldCount a_dataCount a_pinned a_age a_content a_roots a_weaks a_movedTo a_reports, oI a_fieldCount cI 200 fieldCount, oI a_dataCount cI 200 dataCount, oI a_movedTo cI 200 movedTo, oI a_reports cI 6 reports]) (st' := [.int r1]) X (mX1_sizeOf D cI cZ cH a_h a_fieldCount a_dataCount a_owner a_pinned a_age a_content a_roots a_weaks a_movedTo a_reports words depth allocated collections freed fieldCount dataCount p2 r1 hc2) 1 gX0_planObject_X1_sizeOf rfl (by decide +kernel) rfl rfl ⟨Nat.le_of_ble_eq_true rfl, Nat.le_of_ble_eq_true rfl⟩ ⟨Nat.le_of_ble_eq_true rfl, Nat.le_of_ble_eq_true rfl⟩ rfl (Nat.le_of_ble_eq_true rfl) dX0_planObject_2 1 rfl rfl [1, 2, 3] rfl rfl rfl rfl rfl rfl ?_
  refine r_istore (pc' := 7) (lv' := [(0, .ref a_c), (1, .ref a_h), (2, .int p2), (3, .int p3), (4, .int r1)]) X dX0_planObject_5 (by decide) [1, 2, 3, 4, 0] rfl rfl ?_
  refine r_iconst (pc' := 8) X (0 : Int32) dX0_planObject_7 (by decide) rfl ?_
  refine r_istore (pc' := 10) (lv' := [(0, .ref a_c), (1, .ref a_h), (2, .int p2), (3, .int p3), (4, .int r1), (5, .int (0 : Int32))]) X dX0_planObject_8 (by decide) [1, 2, 3, 4, 5, 0] rfl rfl ?_
  obtain ⟨ex10, hR, hF⟩ := g_bd hF
  have hE10 : ∀ (movedTo_5 : Nat → Int32), movedTo_5 = ex10 → G 0 0 [oX0 a_c a_marked a_stack stacked deepest scans overflow, oX1 a_h words depth allocated collections freed a_owner a_fieldCount a_dataCount a_pinned a_age a_content a_roots a_weaks a_movedTo a_reports, oI a_fieldCount cI 200 fieldCount, oI a_dataCount cI 200 dataCount, oI a_movedTo cI 200 movedTo_5, oI a_reports cI 6 reports] [(1, .ref a_h), (2, .int p2), (3, .int p3), (4, .int r1)] 36 [] := by
    intro movedTo_5 hx; subst hx
    refine r_aload_n (pc' := 37) X dX0_planObject_36 rfl 0 rfl rfl ?_
    refine r_get (pc' := 40) X uX0_planObject_X1 1 14 dX0_planObject_37 rfl rfl (by decide) kX0_planObject_2 rfl rfl ?_
    refine r_iconst (pc' := 41) X (0 : Int32) dX0_planObject_40 (by decide) rfl ?_
    refine r_dup2 (pc' := 42) X dX0_planObject_41 rfl rfl rfl ?_
    refine r_ialdK (pc' := 43) (j := 0) X 5 dX0_planObject_42 rfl (by decide +kernel) (by decide +kernel) rfl ?_
    refine r_iconst (pc' := 44) X (1 : Int32) dX0_planObject_43 (by decide) rfl ?_
    refine r_iadd (pc' := 45) X dX0_planObject_44 rfl ?_
    refine r_iastK (pc' := 46) (j := 0) (ws' := [oX0 a_c a_marked a_stack stacked deepest scans overflow, oX1 a_h words depth allocated collections freed a_owner a_fieldCount a_dataCount a_pinned a_age a_content a_roots a_weaks a_movedTo a_reports, oI a_fieldCount cI 200 fieldCount, oI a_dataCount cI 200 dataCount, oI a_movedTo cI 200 movedTo_5, oI a_reports cI 6 (upd reports 0 ((reports 0) + (1 : Int32)))]) X 5 dX0_planObject_45 rfl (by decide +kernel) (by decide +kernel) rfl rfl ?_
    refine r_aload_n (pc' := 47) X dX0_planObject_46 rfl 0 rfl rfl ?_
    refine r_get (pc' := 50) X uX0_planObject_X1 1 14 dX0_planObject_47 rfl rfl (by decide) kX0_planObject_2 rfl rfl ?_
    refine r_iconst (pc' := 51) X (1 : Int32) dX0_planObject_50 (by decide) rfl ?_
    refine r_dup2 (pc' := 52) X dX0_planObject_51 rfl rfl rfl ?_
    refine r_ialdK (pc' := 53) (j := 1) X 5 dX0_planObject_52 rfl (by decide +kernel) (by decide +kernel) rfl ?_
    refine r_iload (pc' := 55) X dX0_planObject_53 3 rfl rfl ?_
    refine r_iadd (pc' := 56) X dX0_planObject_55 rfl ?_
    refine r_iastK (pc' := 57) (j := 1) (ws' := [oX0 a_c a_marked a_stack stacked deepest scans overflow, oX1 a_h words depth allocated collections freed a_owner a_fieldCount a_dataCount a_pinned a_age a_content a_roots a_weaks a_movedTo a_reports, oI a_fieldCount cI 200 fieldCount, oI a_dataCount cI 200 dataCount, oI a_movedTo cI 200 movedTo_5, oI a_reports cI 6 (upd (upd reports 0 ((reports 0) + (1 : Int32))) 1 (((upd reports 0 ((reports 0) + (1 : Int32))) 1) + r1))]) X 5 dX0_planObject_56 rfl (by decide +kernel) (by decide +kernel) rfl rfl ?_
    refine r_iload_n (pc' := 58) X dX0_planObject_57 rfl 1 rfl rfl ?_
    refine r_iload_n (pc' := 59) X dX0_planObject_58 rfl 2 rfl rfl ?_
    refine r_icmp_eq (pc' := 62) X 87 dX0_planObject_59 (by decide) rfl (fun c9 => ?_) (fun c9 => ?_)
    · replace hF := g_t c9 hF
      cases hF
      exact RT.2.2 0 0 _ _ _ rfl dX0_planObject_87 ⟨rfl, rfl⟩ (Nat.le_refl 0) (Nat.le_refl 0)
    · replace hF := g_f c9 hF
      refine r_aload_n (pc' := 63) X dX0_planObject_62 rfl 0 rfl rfl ?_
      refine r_get (pc' := 66) X uX0_planObject_X1 1 14 dX0_planObject_63 rfl rfl (by decide) kX0_planObject_2 rfl rfl ?_
      refine r_iconst (pc' := 67) X (4 : Int32) dX0_planObject_66 (by decide) rfl ?_
      refine r_dup2 (pc' := 68) X dX0_planObject_67 rfl rfl rfl ?_
      refine r_ialdK (pc' := 69) (j := 4) X 5 dX0_planObject_68 rfl (by decide +kernel) (by decide +kernel) rfl ?_
      refine r_iconst (pc' := 70) X (1 : Int32) dX0_planObject_69 (by decide) rfl ?_
      refine r_iadd (pc' := 71) X dX0_planObject_70 rfl ?_
      refine r_iastK (pc' := 72) (j := 4) (ws' := [oX0 a_c a_marked a_stack stacked deepest scans overflow, oX1 a_h words depth allocated collections freed a_owner a_fieldCount a_dataCount a_pinned a_age a_content a_roots a_weaks a_movedTo a_reports, oI a_fieldCount cI 200 fieldCount, oI a_dataCount cI 200 dataCount, oI a_movedTo cI 200 movedTo_5, oI a_reports cI 6 (upd (upd (upd reports 0 ((reports 0) + (1 : Int32))) 1 (((upd reports 0 ((reports 0) + (1 : Int32))) 1) + r1)) 4 (((upd (upd reports 0 ((reports 0) + (1 : Int32))) 1 (((upd reports 0 ((reports 0) + (1 : Int32))) 1) + r1)) 4) + (1 : Int32)))]) X 5 dX0_planObject_71 rfl (by decide +kernel) (by decide +kernel) rfl rfl ?_
      refine r_aload_n (pc' := 73) X dX0_planObject_72 rfl 0 rfl rfl ?_
      refine r_get (pc' := 76) X uX0_planObject_X1 1 14 dX0_planObject_73 rfl rfl (by decide) kX0_planObject_2 rfl rfl ?_
      refine r_iconst (pc' := 77) X (5 : Int32) dX0_planObject_76 (by decide) rfl ?_
      refine r_dup2 (pc' := 78) X dX0_planObject_77 rfl rfl rfl ?_
      refine r_ialdK (pc' := 79) (j := 5) X 5 dX0_planObject_78 rfl (by decide +kernel) (by decide +kernel) rfl ?_
      refine r_iload (pc' := 81) X dX0_planObject_79 3 rfl rfl ?_
      refine r_iload_n (pc' := 82) X dX0_planObject_81 rfl 1 rfl rfl ?_
      refine r_iload_n (pc' := 83) X dX0_planObject_82 rfl 2 rfl rfl ?_
      refine r_isub (pc' := 84) X dX0_planObject_83 rfl ?_
      refine r_imul (pc' := 85) X dX0_planObject_84 rfl ?_
      refine r_iadd (pc' := 86) X dX0_planObject_85 rfl ?_
      refine r_iastK (pc' := 87) (j := 5) (ws' := [oX0 a_c a_marked a_stack stacked deepest scans overflow, oX1 a_h words depth allocated collections freed a_owner a_fieldCount a_dataCount a_pinned a_age a_content a_roots a_weaks a_movedTo a_reports, oI a_fieldCount cI 200 fieldCount, oI a_dataCount cI 200 dataCount, oI a_movedTo cI 200 movedTo_5, oI a_reports cI 6 (upd (upd (upd (upd reports 0 ((reports 0) + (1 : Int32))) 1 (((upd reports 0 ((reports 0) + (1 : Int32))) 1) + r1)) 4 (((upd (upd reports 0 ((reports 0) + (1 : Int32))) 1 (((upd reports 0 ((reports 0) + (1 : Int32))) 1) + r1)) 4) + (1 : Int32))) 5 (((upd (upd (upd reports 0 ((reports 0) + (1 : Int32))) 1 (((upd reports 0 ((reports 0) + (1 : Int32))) 1) + r1)) 4 (((upd (upd reports 0 ((reports 0) + (1 : Int32))) 1 (((upd reports 0 ((reports 0) + (1 : Int32))) 1) + r1)) 4) + (1 : Int32))) 5) + (r1 * (p2 - p3))))]) X 5 dX0_planObject_86 rfl (by decide +kernel) (by decide +kernel) rfl rfl ?_
      cases hF
      exact RT.2.2 0 0 _ _ _ rfl dX0_planObject_87 ⟨rfl, rfl⟩ (Nat.le_refl 0) (Nat.le_refl 0)
  have hL10 : ∀ (fu : Nat) (v5_3 : Int32) (movedTo_4 : Nat → Int32), g_itn (FX0_planObject_L10 p2 p3 r1) fu (v5_3, movedTo_4) = some ex10 → G 0 0 [oX0 a_c a_marked a_stack stacked deepest scans overflow, oX1 a_h words depth allocated collections freed a_owner a_fieldCount a_dataCount a_pinned a_age a_content a_roots a_weaks a_movedTo a_reports, oI a_fieldCount cI 200 fieldCount, oI a_dataCount cI 200 dataCount, oI a_movedTo cI 200 movedTo_4, oI a_reports cI 6 reports] [(1, .ref a_h), (2, .int p2), (3, .int p3), (4, .int r1), (5, .int v5_3)] 10 [] := by
    intro fu
    induction fu with
    | zero => intro v5_3 movedTo_4 h9; exact (g_it0 h9).elim
    | succ fu ih =>
      intro v5_3 movedTo_4 h9
      obtain ⟨y10, hF, hI10⟩ := g_its h9
      unfold FX0_planObject_L10 at hF
      refine r_iload (pc' := 12) X dX0_planObject_10 4 rfl rfl ?_
      refine r_iload (pc' := 14) X dX0_planObject_12 3 rfl rfl ?_
      refine r_icmp_ge (pc' := 17) X 36 dX0_planObject_14 (by decide) rfl (fun c9 => ?_) (fun c9 => ?_)
      · replace hF := g_t c9 hF
        cases hF
        refine r_sub (lv' := [(1, .ref a_h), (2, .int p2), (3, .int p3), (4, .int r1)]) X [0, 1, 2, 3] rfl ?_
        exact hE10 movedTo_4 hI10
      · replace hF := g_f c9 hF
        refine r_aload_n (pc' := 18) X dX0_planObject_17 rfl 0 rfl rfl ?_
        refine r_get (pc' := 21) X uX0_planObject_X1 1 13 dX0_planObject_18 rfl rfl (by decide) kX0_planObject_1 rfl rfl ?_
        refine r_iload_n (pc' := 22) X dX0_planObject_21 rfl 1 rfl rfl ?_
        refine r_iload (pc' := 24) X dX0_planObject_22 4 rfl rfl ?_
        refine r_iadd (pc' := 25) X dX0_planObject_24 rfl ?_
        refine r_iload_n (pc' := 26) X dX0_planObject_25 rfl 2 rfl rfl ?_
        refine r_iload (pc' := 28) X dX0_planObject_26 4 rfl rfl ?_
        refine r_iadd (pc' := 29) X dX0_planObject_28 rfl ?_
        obtain ⟨hi6, hF⟩ := g_gt hF
        refine r_iast (pc' := 30) (ws' := [oX0 a_c a_marked a_stack stacked deepest scans overflow, oX1 a_h words depth allocated collections freed a_owner a_fieldCount a_dataCount a_pinned a_age a_content a_roots a_weaks a_movedTo a_reports, oI a_fieldCount cI 200 fieldCount, oI a_dataCount cI 200 dataCount, oI a_movedTo cI 200 (upd movedTo_4 (p2 + v5_3).toNatClampNeg (p3 + v5_3)), oI a_reports cI 6 reports]) X 4 dX0_planObject_29 rfl (g_vi hi6) rfl rfl ?_
        refine r_iinc (pc' := 33) (lv' := [(1, .ref a_h), (2, .int p2), (3, .int p3), (4, .int r1), (5, .int (v5_3 + (1 : Int32)))]) X (v5_3 + (1 : Int32)) dX0_planObject_30 4 rfl (congrArg (fun z => v5_3 + z) (by decide)) (by decide) [1, 2, 3, 4, 0] rfl rfl ?_
        refine r_goto X 10 dX0_planObject_33 (by decide) ?_
        cases hF
        exact ih (v5_3 + (1 : Int32)) (upd movedTo_4 (p2 + v5_3).toNatClampNeg (p3 + v5_3)) hI10
  refine r_sub (lv' := [(1, .ref a_h), (2, .int p2), (3, .int p3), (4, .int r1), (5, .int (0 : Int32))]) X [1, 2, 3, 4, 5] rfl ?_
  exact hL10 g_fuel (0 : Int32) movedTo hR
theorem kX0_plan_1 : Cond.fieldLink RX0 72 "IslandHeap$Heap" "movedTo" "[I" ∈ wsX0_plan := List.mem_of_getElem? (i := 1) (by decide +kernel)
theorem kX0_plan_2 : Cond.fieldLink RX0 81 "IslandHeap$Heap" "reports" "[I" ∈ wsX0_plan := List.mem_of_getElem? (i := 2) (by decide +kernel)
theorem kX0_plan_3 : Cond.fieldLink RX0 63 "IslandHeap$Collector" "scans" "I" ∈ wsX0_plan := List.mem_of_getElem? (i := 3) (by decide +kernel)
theorem kX0_plan_4 : Cond.fieldLink RX0 60 "IslandHeap$Collector" "deepest" "I" ∈ wsX0_plan := List.mem_of_getElem? (i := 4) (by decide +kernel)
theorem kX0_plan_5 : Cond.fieldLink RX0 43 "IslandHeap$Heap" "words" "I" ∈ wsX0_plan := List.mem_of_getElem? (i := 5) (by decide +kernel)
theorem kX0_plan_6 : Cond.fieldLink RX0 9 "IslandHeap$Collector" "marked" "[Z" ∈ wsX0_plan := List.mem_of_getElem? (i := 6) (by decide +kernel)
theorem uX0_plan_X1 : ∀ w ∈ u_ws RX1 TX1 15, w ∈ wsX0_plan := by decide +kernel
theorem uX0_plan_X0 : ∀ w ∈ u_ws RX0 TX0 6, w ∈ wsX0_plan := by decide +kernel
set_option maxHeartbeats 4000000 in
set_option maxRecDepth 100000 in
theorem mX0_plan (D : va_G) (cI cZ cH : ClassId) (a_c : Nat) (a_marked : Nat) (a_h : Nat) (a_owner : Nat) (a_fieldCount : Nat) (a_dataCount : Nat) (a_pinned : Nat) (a_movedTo : Nat) (a_reports : Nat) (a_stack : Nat) (a_age : Nat) (a_content : Nat) (a_roots : Nat) (a_weaks : Nat) (stacked : Int32) (deepest : Int32) (scans : Int32) (overflow : Int32) (marked : Nat → Int32) (words : Int32) (depth : Int32) (allocated : Int32) (collections : Int32) (freed : Int32) (owner : Nat → Int32) (fieldCount : Nat → Int32) (dataCount : Nat → Int32) (pinned : Nat → Int32) (movedTo : Nat → Int32) (reports : Nat → Int32) (w_movedTo : Nat → Int32) (w_reports : Nat → Int32) (hF : FX0_plan deepest scans marked words owner fieldCount dataCount pinned movedTo reports = some (w_movedTo, w_reports)) : g_CM yX0_plan wsX0_plan ({ frames := 3, cells := 0, slots := 0, locals := 63 }) D cI cZ cH [.ref a_c, .ref a_h] [oX0 a_c a_marked a_stack stacked deepest scans overflow, oZ a_marked cZ 200 marked, oX1 a_h words depth allocated collections freed a_owner a_fieldCount a_dataCount a_pinned a_age a_content a_roots a_weaks a_movedTo a_reports, oI a_owner cI 200 owner, oI a_fieldCount cI 200 fieldCount, oI a_dataCount cI 200 dataCount, oI a_pinned cI 200 pinned, oI a_movedTo cI 200 movedTo, oI a_reports cI 6 reports] 0 0 (g_Tm (none) [oX0 a_c a_marked a_stack stacked deepest scans overflow, oZ a_marked cZ 200 marked, oX1 a_h words depth allocated collections freed a_owner a_fieldCount a_dataCount a_pinned a_age a_content a_roots a_weaks a_movedTo a_reports, oI a_owner cI 200 owner, oI a_fieldCount cI 200 fieldCount, oI a_dataCount cI 200 dataCount, oI a_pinned cI 200 pinned, oI a_movedTo cI 200 w_movedTo, oI a_reports cI 6 w_reports]) := by
  refine g_met (own := RX0) (mn := "plan") (cc := cX0_plan) (maxL := 5) (ret := none) rfl rfl (by decide +kernel) rfl (Nat.le_of_ble_eq_true rfl) (fun G X RT => ?_)
  show G 0 0 [oX0 a_c a_marked a_stack stacked deepest scans overflow, oZ a_marked cZ 200 marked, oX1 a_h words depth allocated collections freed a_owner a_fieldCount a_dataCount a_pinned a_age a_content a_roots a_weaks a_movedTo a_reports, oI a_owner cI 200 owner, oI a_fieldCount cI 200 fieldCount, oI a_dataCount cI 200 dataCount, oI a_pinned cI 200 pinned, oI a_movedTo cI 200 movedTo, oI a_reports cI 6 reports] [(0, .ref a_c), (1, .ref a_h)] 0 []
  unfold FX0_plan at hF
  refine r_aload_n (pc' := 1) X dX0_plan_0 rfl 1 rfl rfl ?_
  refine r_get (pc' := 4) X uX0_plan_X1 2 13 dX0_plan_1 rfl rfl (by decide) kX0_plan_1 rfl rfl ?_
  refine r_iconst (pc' := 5) X (-1 : Int32) dX0_plan_4 (by decide) rfl ?_
  obtain ⟨movedTo_1, hc2, hF⟩ := g_bd hF
  refine r_callSF (pc' := 8) (ws' := [oX0 a_c a_marked a_stack stacked deepest scans overflow, oZ a_marked cZ 200 marked, oX1 a_h words depth allocated collections freed a_owner a_fieldCount a_dataCount a_pinned a_age a_content a_roots a_weaks a_movedTo a_reports, oI a_owner cI 200 owner, oI a_fieldCount cI 200 fieldCount, oI a_dataCount cI 200 dataCount, oI a_pinned cI 200 pinned, oI a_movedTo cI 200 movedTo_1, oI a_reports cI 6 reports]) (st' := []) X (mJ7_fill_53178 D cI cZ cH a_movedTo movedTo 200 (-1 : Int32) movedTo_1 hc2) 2 gX0_plan_J7_fill_53178 rfl (by decide +kernel) rfl rfl ⟨Nat.le_of_ble_eq_true rfl, Nat.le_of_ble_eq_true rfl⟩ ⟨Nat.le_of_ble_eq_true rfl, Nat.le_of_ble_eq_true rfl⟩ rfl (Nat.le_of_ble_eq_true rfl) dX0_plan_5 [7] rfl rfl rfl rfl rfl rfl ?_
  refine r_aload_n (pc' := 9) X dX0_plan_8 rfl 1 rfl rfl ?_
  refine r_get (pc' := 12) X uX0_plan_X1 2 14 dX0_plan_9 rfl rfl (by decide) kX0_plan_2 rfl rfl ?_
  refine r_iconst (pc' := 13) X (0 : Int32) dX0_plan_12 (by decide) rfl ?_
  obtain ⟨reports_3, hc4, hF⟩ := g_bd hF
  refine r_callSF (pc' := 16) (ws' := [oX0 a_c a_marked a_stack stacked deepest scans overflow, oZ a_marked cZ 200 marked, oX1 a_h words depth allocated collections freed a_owner a_fieldCount a_dataCount a_pinned a_age a_content a_roots a_weaks a_movedTo a_reports, oI a_owner cI 200 owner, oI a_fieldCount cI 200 fieldCount, oI a_dataCount cI 200 dataCount, oI a_pinned cI 200 pinned, oI a_movedTo cI 200 movedTo_1, oI a_reports cI 6 reports_3]) (st' := []) X (mJ7_fill_53178 D cI cZ cH a_reports reports 6 (0 : Int32) reports_3 hc4) 2 gX0_plan_J7_fill_53178 rfl (by decide +kernel) rfl rfl ⟨Nat.le_of_ble_eq_true rfl, Nat.le_of_ble_eq_true rfl⟩ ⟨Nat.le_of_ble_eq_true rfl, Nat.le_of_ble_eq_true rfl⟩ rfl (Nat.le_of_ble_eq_true rfl) dX0_plan_13 [8] rfl rfl rfl rfl rfl rfl ?_
  refine r_aload_n (pc' := 17) X dX0_plan_16 rfl 1 rfl rfl ?_
  refine r_get (pc' := 20) X uX0_plan_X1 2 14 dX0_plan_17 rfl rfl (by decide) kX0_plan_2 rfl rfl ?_
  refine r_iconst (pc' := 21) X (2 : Int32) dX0_plan_20 (by decide) rfl ?_
  refine r_aload_n (pc' := 22) X dX0_plan_21 rfl 0 rfl rfl ?_
  refine r_get (pc' := 25) X uX0_plan_X0 0 4 dX0_plan_22 rfl rfl (by decide) kX0_plan_3 rfl rfl ?_
  refine r_iastK (pc' := 26) (j := 2) (ws' := [oX0 a_c a_marked a_stack stacked deepest scans overflow, oZ a_marked cZ 200 marked, oX1 a_h words depth allocated collections freed a_owner a_fieldCount a_dataCount a_pinned a_age a_content a_roots a_weaks a_movedTo a_reports, oI a_owner cI 200 owner, oI a_fieldCount cI 200 fieldCount, oI a_dataCount cI 200 dataCount, oI a_pinned cI 200 pinned, oI a_movedTo cI 200 movedTo_1, oI a_reports cI 6 (upd reports_3 2 scans)]) X 8 dX0_plan_25 rfl (by decide +kernel) (by decide +kernel) rfl rfl ?_
  refine r_aload_n (pc' := 27) X dX0_plan_26 rfl 1 rfl rfl ?_
  refine r_get (pc' := 30) X uX0_plan_X1 2 14 dX0_plan_27 rfl rfl (by decide) kX0_plan_2 rfl rfl ?_
  refine r_iconst (pc' := 31) X (3 : Int32) dX0_plan_30 (by decide) rfl ?_
  refine r_aload_n (pc' := 32) X dX0_plan_31 rfl 0 rfl rfl ?_
  refine r_get (pc' := 35) X uX0_plan_X0 0 3 dX0_plan_32 rfl rfl (by decide) kX0_plan_4 rfl rfl ?_
  refine r_iastK (pc' := 36) (j := 3) (ws' := [oX0 a_c a_marked a_stack stacked deepest scans overflow, oZ a_marked cZ 200 marked, oX1 a_h words depth allocated collections freed a_owner a_fieldCount a_dataCount a_pinned a_age a_content a_roots a_weaks a_movedTo a_reports, oI a_owner cI 200 owner, oI a_fieldCount cI 200 fieldCount, oI a_dataCount cI 200 dataCount, oI a_pinned cI 200 pinned, oI a_movedTo cI 200 movedTo_1, oI a_reports cI 6 (upd (upd reports_3 2 scans) 3 deepest)]) X 8 dX0_plan_35 rfl (by decide +kernel) (by decide +kernel) rfl rfl ?_
  refine r_iconst (pc' := 37) X (0 : Int32) dX0_plan_36 (by decide) rfl ?_
  refine r_istore_n (pc' := 38) (lv' := [(0, .ref a_c), (1, .ref a_h), (2, .int (0 : Int32))]) X dX0_plan_37 rfl (by decide) [1, 2, 0] rfl rfl ?_
  refine r_iconst (pc' := 39) X (0 : Int32) dX0_plan_38 (by decide) rfl ?_
  refine r_istore_n (pc' := 40) (lv' := [(0, .ref a_c), (1, .ref a_h), (2, .int (0 : Int32)), (3, .int (0 : Int32))]) X dX0_plan_39 rfl (by decide) [1, 2, 3, 0] rfl rfl ?_
  obtain ⟨ex40, hR, hF⟩ := g_bd hF
  have hE40 : ∀ (movedTo_9 : Nat → Int32) (reports_10 : Nat → Int32), (movedTo_9, reports_10) = ex40 → G 0 0 [oX0 a_c a_marked a_stack stacked deepest scans overflow, oZ a_marked cZ 200 marked, oX1 a_h words depth allocated collections freed a_owner a_fieldCount a_dataCount a_pinned a_age a_content a_roots a_weaks a_movedTo a_reports, oI a_owner cI 200 owner, oI a_fieldCount cI 200 fieldCount, oI a_dataCount cI 200 dataCount, oI a_pinned cI 200 pinned, oI a_movedTo cI 200 movedTo_9, oI a_reports cI 6 reports_10] [] 95 [] := by
    intro movedTo_9 reports_10 hx; subst hx
    cases hF
    exact RT.2.2 0 0 _ _ _ rfl dX0_plan_95 ⟨rfl, rfl⟩ (Nat.le_refl 0) (Nat.le_refl 0)
  have hL40 : ∀ (fu : Nat) (v2_5 : Int32) (v3_6 : Int32) (movedTo_7 : Nat → Int32) (reports_8 : Nat → Int32), g_itn (FX0_plan_L40 marked words owner fieldCount dataCount pinned) fu (v2_5, v3_6, movedTo_7, reports_8) = some ex40 → G 0 0 [oX0 a_c a_marked a_stack stacked deepest scans overflow, oZ a_marked cZ 200 marked, oX1 a_h words depth allocated collections freed a_owner a_fieldCount a_dataCount a_pinned a_age a_content a_roots a_weaks a_movedTo a_reports, oI a_owner cI 200 owner, oI a_fieldCount cI 200 fieldCount, oI a_dataCount cI 200 dataCount, oI a_pinned cI 200 pinned, oI a_movedTo cI 200 movedTo_7, oI a_reports cI 6 reports_8] [(0, .ref a_c), (1, .ref a_h), (2, .int v2_5), (3, .int v3_6)] 40 [] := by
    intro fu
    induction fu with
    | zero => intro v2_5 v3_6 movedTo_7 reports_8 h9; exact (g_it0 h9).elim
    | succ fu ih =>
      intro v2_5 v3_6 movedTo_7 reports_8 h9
      obtain ⟨y40, hF, hI40⟩ := g_its h9
      unfold FX0_plan_L40 at hF
      refine r_iload_n (pc' := 41) X dX0_plan_40 rfl 3 rfl rfl ?_
      refine r_aload_n (pc' := 42) X dX0_plan_41 rfl 1 rfl rfl ?_
      refine r_get (pc' := 45) X uX0_plan_X1 2 0 dX0_plan_42 rfl rfl (by decide) kX0_plan_5 rfl rfl ?_
      refine r_icmp_ge (pc' := 48) X 95 dX0_plan_45 (by decide) rfl (fun c9 => ?_) (fun c9 => ?_)
      · replace hF := g_t c9 hF
        cases hF
        refine r_sub (lv' := []) X [] rfl ?_
        exact hE40 movedTo_7 reports_8 hI40
      · replace hF := g_f c9 hF
        refine r_aload_n (pc' := 49) X dX0_plan_48 rfl 0 rfl rfl ?_
        refine r_get (pc' := 52) X uX0_plan_X0 0 0 dX0_plan_49 rfl rfl (by decide) kX0_plan_6 rfl rfl ?_
        refine r_iload_n (pc' := 53) X dX0_plan_52 rfl 3 rfl rfl ?_
        obtain ⟨hi11, hF⟩ := g_gt hF
        refine r_zald (pc' := 54) X 1 dX0_plan_53 rfl (g_vi hi11) rfl ?_
        obtain ⟨exJ15, hR, hF⟩ := g_bd hF
        have hJ15 : ∀ (v2_12 : Int32) (movedTo_13 : Nat → Int32) (reports_14 : Nat → Int32), (v2_12, movedTo_13, reports_14) = exJ15 → G 0 0 [oX0 a_c a_marked a_stack stacked deepest scans overflow, oZ a_marked cZ 200 marked, oX1 a_h words depth allocated collections freed a_owner a_fieldCount a_dataCount a_pinned a_age a_content a_roots a_weaks a_movedTo a_reports, oI a_owner cI 200 owner, oI a_fieldCount cI 200 fieldCount, oI a_dataCount cI 200 dataCount, oI a_pinned cI 200 pinned, oI a_movedTo cI 200 movedTo_13, oI a_reports cI 6 reports_14] [(0, .ref a_c), (1, .ref a_h), (2, .int v2_12), (3, .int v3_6)] 89 [] := by
          intro v2_12 movedTo_13 reports_14 hx; subst hx
          refine r_iinc (pc' := 92) (lv' := [(0, .ref a_c), (1, .ref a_h), (2, .int v2_12), (3, .int (v3_6 + (1 : Int32)))]) X (v3_6 + (1 : Int32)) dX0_plan_89 3 rfl (congrArg (fun z => v3_6 + z) (by decide)) (by decide) [1, 2, 3, 0] rfl rfl ?_
          refine r_goto X 40 dX0_plan_92 (by decide) ?_
          cases hF
          exact ih v2_12 (v3_6 + (1 : Int32)) movedTo_13 reports_14 hI40
        replace hF := hR
        refine r_if_eq (pc' := 57) X 89 dX0_plan_54 (by decide) rfl (fun c9 => ?_) (fun c9 => ?_)
        · replace hF := g_t c9 hF
          exact hJ15 v2_5 movedTo_7 reports_8 (Option.some.inj hF)
        · replace hF := g_f c9 hF
          refine r_aload_n (pc' := 58) X dX0_plan_57 rfl 1 rfl rfl ?_
          refine r_iload_n (pc' := 59) X dX0_plan_58 rfl 3 rfl rfl ?_
          obtain ⟨r16, hc17, hF⟩ := g_bd hF
          refine r_callVF (pc' := 62) (ws' := [oX0 a_c a_marked a_stack stacked deepest scans overflow, oZ a_marked cZ 200 marked, oX1 a_h words depth allocated collections freed a_owner a_fieldCount a_dataCount a_pinned a_age a_content a_roots a_weaks a_movedTo a_reports, oI a_owner cI 200 owner, oI a_fieldCount cI 200 fieldCount, oI a_dataCount cI 200 dataCount, oI a_pinned cI 200 pinned, oI a_movedTo cI 200 movedTo_7, oI a_reports cI 6 reports_8]) (st' := [.int r16]) X (mX1_isPinned D cI cZ cH a_h a_owner a_pinned a_fieldCount a_dataCount a_age a_content a_roots a_weaks a_movedTo a_reports words depth allocated collections freed owner pinned v3_6 r16 hc17) 1 gX0_plan_X1_isPinned rfl (by decide +kernel) rfl rfl ⟨Nat.le_of_ble_eq_true rfl, Nat.le_of_ble_eq_true rfl⟩ ⟨Nat.le_of_ble_eq_true rfl, Nat.le_of_ble_eq_true rfl⟩ rfl (Nat.le_of_ble_eq_true rfl) dX0_plan_59 2 rfl rfl [2, 3, 6] rfl rfl rfl rfl rfl rfl ?_
          obtain ⟨exJ19, hR, hF⟩ := g_bd hF
          have hJ19 : ∀ (t18 : Int32), t18 = exJ19 → G 0 0 [oX0 a_c a_marked a_stack stacked deepest scans overflow, oZ a_marked cZ 200 marked, oX1 a_h words depth allocated collections freed a_owner a_fieldCount a_dataCount a_pinned a_age a_content a_roots a_weaks a_movedTo a_reports, oI a_owner cI 200 owner, oI a_fieldCount cI 200 fieldCount, oI a_dataCount cI 200 dataCount, oI a_pinned cI 200 pinned, oI a_movedTo cI 200 movedTo_7, oI a_reports cI 6 reports_8] [(0, .ref a_c), (1, .ref a_h), (3, .int v3_6)] 70 [.int t18] := by
            intro t18 hx; subst hx
            refine r_istore (pc' := 72) (lv' := [(0, .ref a_c), (1, .ref a_h), (3, .int v3_6), (4, .int t18)]) X dX0_plan_70 (by decide) [1, 2, 3, 0] rfl rfl ?_
            refine r_aload_n (pc' := 73) X dX0_plan_72 rfl 0 rfl rfl ?_
            refine r_aload_n (pc' := 74) X dX0_plan_73 rfl 1 rfl rfl ?_
            refine r_iload_n (pc' := 75) X dX0_plan_74 rfl 2 rfl rfl ?_
            refine r_iload (pc' := 77) X dX0_plan_75 3 rfl rfl ?_
            obtain ⟨⟨movedTo_20, reports_21⟩, hc22, hF⟩ := g_bd hF
            refine r_callVF (pc' := 80) (ws' := [oX0 a_c a_marked a_stack stacked deepest scans overflow, oZ a_marked cZ 200 marked, oX1 a_h words depth allocated collections freed a_owner a_fieldCount a_dataCount a_pinned a_age a_content a_roots a_weaks a_movedTo a_reports, oI a_owner cI 200 owner, oI a_fieldCount cI 200 fieldCount, oI a_dataCount cI 200 dataCount, oI a_pinned cI 200 pinned, oI a_movedTo cI 200 movedTo_20, oI a_reports cI 6 reports_21]) (st' := []) X (mX0_planObject D cI cZ cH a_c a_h a_fieldCount a_dataCount a_movedTo a_reports a_marked a_stack a_owner a_pinned a_age a_content a_roots a_weaks stacked deepest scans overflow words depth allocated collections freed fieldCount dataCount movedTo_7 reports_8 v3_6 t18 movedTo_20 reports_21 hc22) 3 gX0_plan_X0_planObject rfl (by decide +kernel) rfl rfl ⟨Nat.le_of_ble_eq_true rfl, Nat.le_of_ble_eq_true rfl⟩ ⟨Nat.le_of_ble_eq_true rfl, Nat.le_of_ble_eq_true rfl⟩ rfl (Nat.le_of_ble_eq_true rfl) dX0_plan_77 0 rfl rfl [0, 2, 4, 5, 7, 8] rfl rfl rfl rfl rfl rfl ?_
            refine r_iload (pc' := 82) X dX0_plan_80 3 rfl rfl ?_
            refine r_aload_n (pc' := 83) X dX0_plan_82 rfl 1 rfl rfl ?_
            refine r_iload_n (pc' := 84) X dX0_plan_83 rfl 2 rfl rfl ?_
            obtain ⟨r23, hc24, hF⟩ := g_bd hF
            refine r_callVF (pc' := 87) (ws' := [oX0 a_c a_marked a_stack stacked deepest scans overflow, oZ a_marked cZ 200 marked, oX1 a_h words depth allocated collections freed a_owner a_fieldCount a_dataCount a_pinned a_age a_content a_roots a_weaks a_movedTo a_reports, oI a_owner cI 200 owner, oI a_fieldCount cI 200 fieldCount, oI a_dataCount cI 200 dataCount, oI a_pinned cI 200 pinned, oI a_movedTo cI 200 movedTo_20, oI a_reports cI 6 reports_21]) (st' := [.int r23, .int t18]) X (mX1_sizeOf D cI cZ cH a_h a_fieldCount a_dataCount a_owner a_pinned a_age a_content a_roots a_weaks a_movedTo a_reports words depth allocated collections freed fieldCount dataCount v3_6 r23 hc24) 1 gX0_plan_X1_sizeOf rfl (by decide +kernel) rfl rfl ⟨Nat.le_of_ble_eq_true rfl, Nat.le_of_ble_eq_true rfl⟩ ⟨Nat.le_of_ble_eq_true rfl, Nat.le_of_ble_eq_true rfl⟩ rfl (Nat.le_of_ble_eq_true rfl) dX0_plan_84 2 rfl rfl [2, 4, 5] rfl rfl rfl rfl rfl rfl ?_
            refine r_iadd (pc' := 88) X dX0_plan_87 rfl ?_
            refine r_istore_n (pc' := 89) (lv' := [(0, .ref a_c), (1, .ref a_h), (2, .int (t18 + r23)), (3, .int v3_6), (4, .int t18)]) X dX0_plan_88 rfl (by decide) [1, 2, 0, 3, 4] rfl rfl ?_
            refine r_sub (lv' := [(0, .ref a_c), (1, .ref a_h), (2, .int (t18 + r23)), (3, .int v3_6)]) X [0, 1, 2, 3] rfl ?_
            exact hJ15 (t18 + r23) movedTo_20 reports_21 (Option.some.inj hF)
          replace hF := hR
          refine r_if_eq (pc' := 65) X 69 dX0_plan_62 (by decide) rfl (fun c9 => ?_) (fun c9 => ?_)
          · replace hF := g_t c9 hF
            refine r_iload_n (pc' := 70) X dX0_plan_69 rfl 2 rfl rfl ?_
            refine r_sub (lv' := [(0, .ref a_c), (1, .ref a_h), (3, .int v3_6)]) X [0, 1, 3] rfl ?_
            exact hJ19 v2_5 (Option.some.inj hF)
          · replace hF := g_f c9 hF
            refine r_iload_n (pc' := 66) X dX0_plan_65 rfl 3 rfl rfl ?_
            refine r_goto X 70 dX0_plan_66 (by decide) ?_
            refine r_sub (lv' := [(0, .ref a_c), (1, .ref a_h), (3, .int v3_6)]) X [0, 1, 3] rfl ?_
            exact hJ19 v3_6 (Option.some.inj hF)
  exact hL40 g_fuel (0 : Int32) (0 : Int32) movedTo_1 (upd (upd reports_3 2 scans) 3 deepest) hR
theorem kX0_redirectRow_1 : Cond.fieldLink RX0 72 "IslandHeap$Heap" "movedTo" "[I" ∈ wsX0_redirectRow := List.mem_of_getElem? (i := 1) (by decide +kernel)
theorem uX0_redirectRow_X1 : ∀ w ∈ u_ws RX1 TX1 15, w ∈ wsX0_redirectRow := by decide +kernel
set_option maxHeartbeats 4000000 in
set_option maxRecDepth 100000 in
theorem mX0_redirectRow (D : va_G) (cI cZ cH : ClassId) (a_c : Nat) (a_h : Nat) (a_movedTo : Nat) (a_row : Nat) (a_marked : Nat) (a_stack : Nat) (a_owner : Nat) (a_fieldCount : Nat) (a_dataCount : Nat) (a_pinned : Nat) (a_age : Nat) (a_content : Nat) (a_roots : Nat) (a_weaks : Nat) (a_reports : Nat) (stacked : Int32) (deepest : Int32) (scans : Int32) (overflow : Int32) (words : Int32) (depth : Int32) (allocated : Int32) (collections : Int32) (freed : Int32) (movedTo : Nat → Int32) (row : Nat → Int32) (n_row : Nat) (p3 : Int32) (p4 : Int32) (w_row : Nat → Int32) (hF : FX0_redirectRow words movedTo row n_row p3 p4 = some w_row) : g_CM yX0_redirectRow wsX0_redirectRow ({ frames := 1, cells := 0, slots := 0, locals := 21 }) D cI cZ cH [.ref a_c, .ref a_h, .ref a_row, .int p3, .int p4] [oX0 a_c a_marked a_stack stacked deepest scans overflow, oX1 a_h words depth allocated collections freed a_owner a_fieldCount a_dataCount a_pinned a_age a_content a_roots a_weaks a_movedTo a_reports, oI a_movedTo cI 200 movedTo, oI a_row cI n_row row] 0 0 (g_Tm (none) [oX0 a_c a_marked a_stack stacked deepest scans overflow, oX1 a_h words depth allocated collections freed a_owner a_fieldCount a_dataCount a_pinned a_age a_content a_roots a_weaks a_movedTo a_reports, oI a_movedTo cI 200 movedTo, oI a_row cI n_row w_row]) := by
  refine g_met (own := RX0) (mn := "redirectRow") (cc := cX0_redirectRow) (maxL := 6) (ret := none) rfl rfl (by decide +kernel) rfl (Nat.le_of_ble_eq_true rfl) (fun G X RT => ?_)
  show G 0 0 [oX0 a_c a_marked a_stack stacked deepest scans overflow, oX1 a_h words depth allocated collections freed a_owner a_fieldCount a_dataCount a_pinned a_age a_content a_roots a_weaks a_movedTo a_reports, oI a_movedTo cI 200 movedTo, oI a_row cI n_row row] [(0, .ref a_c), (1, .ref a_h), (2, .ref a_row), (3, .int p3), (4, .int p4)] 0 []
  unfold FX0_redirectRow at hF
  refine r_iload_n (pc' := 1) X dX0_redirectRow_0 rfl 3 rfl rfl ?_
  refine r_istore (pc' := 3) (lv' := [(0, .ref a_c), (1, .ref a_h), (2, .ref a_row), (3, .int p3), (4, .int p4), (5, .int p3)]) X dX0_redirectRow_1 (by decide) [1, 2, 3, 4, 5, 0] rfl rfl ?_
  obtain ⟨ex3, hR, hF⟩ := g_bd hF
  have hE3 : ∀ (row_3 : Nat → Int32), row_3 = ex3 → G 0 0 [oX0 a_c a_marked a_stack stacked deepest scans overflow, oX1 a_h words depth allocated collections freed a_owner a_fieldCount a_dataCount a_pinned a_age a_content a_roots a_weaks a_movedTo a_reports, oI a_movedTo cI 200 movedTo, oI a_row cI n_row row_3] [] 51 [] := by
    intro row_3 hx; subst hx
    cases hF
    exact RT.2.2 0 0 _ _ _ rfl dX0_redirectRow_51 ⟨rfl, rfl⟩ (Nat.le_refl 0) (Nat.le_refl 0)
  have hL3 : ∀ (fu : Nat) (v5_1 : Int32) (row_2 : Nat → Int32), g_itn (FX0_redirectRow_L3 words movedTo n_row p4) fu (v5_1, row_2) = some ex3 → G 0 0 [oX0 a_c a_marked a_stack stacked deepest scans overflow, oX1 a_h words depth allocated collections freed a_owner a_fieldCount a_dataCount a_pinned a_age a_content a_roots a_weaks a_movedTo a_reports, oI a_movedTo cI 200 movedTo, oI a_row cI n_row row_2] [(1, .ref a_h), (2, .ref a_row), (4, .int p4), (5, .int v5_1)] 3 [] := by
    intro fu
    induction fu with
    | zero => intro v5_1 row_2 h9; exact (g_it0 h9).elim
    | succ fu ih =>
      intro v5_1 row_2 h9
      obtain ⟨y3, hF, hI3⟩ := g_its h9
      unfold FX0_redirectRow_L3 at hF
      refine r_iload (pc' := 5) X dX0_redirectRow_3 3 rfl rfl ?_
      refine r_iload (pc' := 7) X dX0_redirectRow_5 2 rfl rfl ?_
      refine r_icmp_ge (pc' := 10) X 51 dX0_redirectRow_7 (by decide) rfl (fun c9 => ?_) (fun c9 => ?_)
      · replace hF := g_t c9 hF
        cases hF
        refine r_sub (lv' := []) X [] rfl ?_
        exact hE3 row_2 hI3
      · replace hF := g_f c9 hF
        refine r_iload (pc' := 12) X dX0_redirectRow_10 3 rfl rfl ?_
        refine r_aload_n (pc' := 13) X dX0_redirectRow_12 rfl 1 rfl rfl ?_
        refine r_alen (pc' := 14) X 3 0 dX0_redirectRow_13 rfl rfl rfl ?_
        refine r_icmp_ge (pc' := 17) X 51 dX0_redirectRow_14 (by decide) rfl (fun c9 => ?_) (fun c9 => ?_)
        · replace hF := g_t c9 hF
          cases hF
          refine r_sub (lv' := []) X [] rfl ?_
          exact hE3 row_2 hI3
        · replace hF := g_f c9 hF
          refine r_aload_n (pc' := 18) X dX0_redirectRow_17 rfl 1 rfl rfl ?_
          refine r_iload (pc' := 20) X dX0_redirectRow_18 3 rfl rfl ?_
          refine r_aload_n (pc' := 21) X dX0_redirectRow_20 rfl 0 rfl rfl ?_
          refine r_aload_n (pc' := 22) X dX0_redirectRow_21 rfl 1 rfl rfl ?_
          refine r_iload (pc' := 24) X dX0_redirectRow_22 3 rfl rfl ?_
          obtain ⟨hi4, hF⟩ := g_gt hF
          refine r_iald (pc' := 25) X 3 dX0_redirectRow_24 rfl (g_vi hi4) rfl ?_
          obtain ⟨r5, hc6, hF⟩ := g_bd hF
          refine r_callVF (pc' := 28) (ws' := [oX0 a_c a_marked a_stack stacked deepest scans overflow, oX1 a_h words depth allocated collections freed a_owner a_fieldCount a_dataCount a_pinned a_age a_content a_roots a_weaks a_movedTo a_reports, oI a_movedTo cI 200 movedTo, oI a_row cI n_row row_2]) (st' := [.int r5, .int v5_1, .ref a_row]) X (mX1_isAddress D cI cZ cH a_h a_owner a_fieldCount a_dataCount a_pinned a_age a_content a_roots a_weaks a_movedTo a_reports words depth allocated collections freed (row_2 v5_1.toNatClampNeg) r5 hc6) 1 gX0_redirectRow_X1_isAddress rfl (by decide +kernel) rfl rfl ⟨Nat.le_of_ble_eq_true rfl, Nat.le_of_ble_eq_true rfl⟩ ⟨Nat.le_of_ble_eq_true rfl, Nat.le_of_ble_eq_true rfl⟩ rfl (Nat.le_of_ble_eq_true rfl) dX0_redirectRow_25 1 rfl rfl [1] rfl rfl rfl rfl rfl rfl ?_
          obtain ⟨exJ8, hR, hF⟩ := g_bd hF
          have hJ8 : ∀ (t7 : Int32), t7 = exJ8 → G 0 0 [oX0 a_c a_marked a_stack stacked deepest scans overflow, oX1 a_h words depth allocated collections freed a_owner a_fieldCount a_dataCount a_pinned a_age a_content a_roots a_weaks a_movedTo a_reports, oI a_movedTo cI 200 movedTo, oI a_row cI n_row row_2] [(1, .ref a_h), (2, .ref a_row), (4, .int p4), (5, .int v5_1)] 44 [.int t7, .int v5_1, .ref a_row] := by
            intro t7 hx; subst hx
            obtain ⟨hi9, hF⟩ := g_gt hF
            refine r_iast (pc' := 45) (ws' := [oX0 a_c a_marked a_stack stacked deepest scans overflow, oX1 a_h words depth allocated collections freed a_owner a_fieldCount a_dataCount a_pinned a_age a_content a_roots a_weaks a_movedTo a_reports, oI a_movedTo cI 200 movedTo, oI a_row cI n_row (upd row_2 v5_1.toNatClampNeg t7)]) X 3 dX0_redirectRow_44 rfl (g_vi hi9) rfl rfl ?_
            refine r_iinc (pc' := 48) (lv' := [(1, .ref a_h), (2, .ref a_row), (4, .int p4), (5, .int (v5_1 + (1 : Int32)))]) X (v5_1 + (1 : Int32)) dX0_redirectRow_45 3 rfl (congrArg (fun z => v5_1 + z) (by decide)) (by decide) [1, 2, 3, 0] rfl rfl ?_
            refine r_goto X 3 dX0_redirectRow_48 (by decide) ?_
            cases hF
            exact ih (v5_1 + (1 : Int32)) (upd row_2 v5_1.toNatClampNeg t7) hI3
          replace hF := hR
          refine r_if_eq (pc' := 31) X 43 dX0_redirectRow_28 (by decide) rfl (fun c9 => ?_) (fun c9 => ?_)
          · replace hF := g_t c9 hF
            refine r_iconst (pc' := 44) X (-1 : Int32) dX0_redirectRow_43 (by decide) rfl ?_
            exact hJ8 (-1 : Int32) (Option.some.inj hF)
          · replace hF := g_f c9 hF
            refine r_aload_n (pc' := 32) X dX0_redirectRow_31 rfl 0 rfl rfl ?_
            refine r_get (pc' := 35) X uX0_redirectRow_X1 1 13 dX0_redirectRow_32 rfl rfl (by decide) kX0_redirectRow_1 rfl rfl ?_
            refine r_aload_n (pc' := 36) X dX0_redirectRow_35 rfl 1 rfl rfl ?_
            refine r_iload (pc' := 38) X dX0_redirectRow_36 3 rfl rfl ?_
            obtain ⟨hi10, hF⟩ := g_gt hF
            refine r_iald (pc' := 39) X 3 dX0_redirectRow_38 rfl (g_vi hi10) rfl ?_
            obtain ⟨hi11, hF⟩ := g_gt hF
            refine r_iald (pc' := 40) X 2 dX0_redirectRow_39 rfl (g_vi hi11) rfl ?_
            refine r_goto X 44 dX0_redirectRow_40 (by decide) ?_
            exact hJ8 (movedTo (row_2 v5_1.toNatClampNeg).toNatClampNeg) (Option.some.inj hF)
  refine r_sub (lv' := [(1, .ref a_h), (2, .ref a_row), (4, .int p4), (5, .int p3)]) X [1, 2, 4, 5] rfl ?_
  exact hL3 g_fuel p3 row hR
theorem kX0_redirect_1 : Cond.fieldLink RX0 22 "IslandHeap$Heap" "roots" "[I" ∈ wsX0_redirect := List.mem_of_getElem? (i := 1) (by decide +kernel)
theorem kX0_redirect_2 : Cond.fieldLink RX0 95 "IslandHeap$Heap" "weaks" "[I" ∈ wsX0_redirect := List.mem_of_getElem? (i := 2) (by decide +kernel)
theorem kX0_redirect_3 : Cond.fieldLink RX0 43 "IslandHeap$Heap" "words" "I" ∈ wsX0_redirect := List.mem_of_getElem? (i := 3) (by decide +kernel)
theorem kX0_redirect_4 : Cond.fieldLink RX0 9 "IslandHeap$Collector" "marked" "[Z" ∈ wsX0_redirect := List.mem_of_getElem? (i := 4) (by decide +kernel)
theorem kX0_redirect_5 : Cond.fieldLink RX0 69 "IslandHeap$Heap" "content" "[I" ∈ wsX0_redirect := List.mem_of_getElem? (i := 5) (by decide +kernel)
theorem kX0_redirect_6 : Cond.fieldLink RX0 66 "IslandHeap$Heap" "fieldCount" "[I" ∈ wsX0_redirect := List.mem_of_getElem? (i := 6) (by decide +kernel)
theorem uX0_redirect_X1 : ∀ w ∈ u_ws RX1 TX1 15, w ∈ wsX0_redirect := by decide +kernel
theorem uX0_redirect_X0 : ∀ w ∈ u_ws RX0 TX0 6, w ∈ wsX0_redirect := by decide +kernel
set_option maxHeartbeats 4000000 in
set_option maxRecDepth 100000 in
theorem mX0_redirect (D : va_G) (cI cZ cH : ClassId) (a_c : Nat) (a_marked : Nat) (a_h : Nat) (a_fieldCount : Nat) (a_content : Nat) (a_roots : Nat) (a_weaks : Nat) (a_movedTo : Nat) (a_stack : Nat) (a_owner : Nat) (a_dataCount : Nat) (a_pinned : Nat) (a_age : Nat) (a_reports : Nat) (stacked : Int32) (deepest : Int32) (scans : Int32) (overflow : Int32) (marked : Nat → Int32) (words : Int32) (depth : Int32) (allocated : Int32) (collections : Int32) (freed : Int32) (fieldCount : Nat → Int32) (content : Nat → Int32) (roots : Nat → Int32) (weaks : Nat → Int32) (movedTo : Nat → Int32) (w_content : Nat → Int32) (w_roots : Nat → Int32) (w_weaks : Nat → Int32) (hF : FX0_redirect marked words fieldCount content roots weaks movedTo = some (w_content, w_roots, w_weaks)) : g_CM yX0_redirect wsX0_redirect ({ frames := 2, cells := 0, slots := 0, locals := 46 }) D cI cZ cH [.ref a_c, .ref a_h] [oX0 a_c a_marked a_stack stacked deepest scans overflow, oZ a_marked cZ 200 marked, oX1 a_h words depth allocated collections freed a_owner a_fieldCount a_dataCount a_pinned a_age a_content a_roots a_weaks a_movedTo a_reports, oI a_fieldCount cI 200 fieldCount, oI a_content cI 200 content, oI a_roots cI 6 roots, oI a_weaks cI 4 weaks, oI a_movedTo cI 200 movedTo] 0 0 (g_Tm (none) [oX0 a_c a_marked a_stack stacked deepest scans overflow, oZ a_marked cZ 200 marked, oX1 a_h words depth allocated collections freed a_owner a_fieldCount a_dataCount a_pinned a_age a_content a_roots a_weaks a_movedTo a_reports, oI a_fieldCount cI 200 fieldCount, oI a_content cI 200 w_content, oI a_roots cI 6 w_roots, oI a_weaks cI 4 w_weaks, oI a_movedTo cI 200 movedTo]) := by
  refine g_met (own := RX0) (mn := "redirect") (cc := cX0_redirect) (maxL := 3) (ret := none) rfl rfl (by decide +kernel) rfl (Nat.le_of_ble_eq_true rfl) (fun G X RT => ?_)
  show G 0 0 [oX0 a_c a_marked a_stack stacked deepest scans overflow, oZ a_marked cZ 200 marked, oX1 a_h words depth allocated collections freed a_owner a_fieldCount a_dataCount a_pinned a_age a_content a_roots a_weaks a_movedTo a_reports, oI a_fieldCount cI 200 fieldCount, oI a_content cI 200 content, oI a_roots cI 6 roots, oI a_weaks cI 4 weaks, oI a_movedTo cI 200 movedTo] [(0, .ref a_c), (1, .ref a_h)] 0 []
  unfold FX0_redirect at hF
  refine r_aload_n (pc' := 1) X dX0_redirect_0 rfl 0 rfl rfl ?_
  refine r_aload_n (pc' := 2) X dX0_redirect_1 rfl 1 rfl rfl ?_
  refine r_aload_n (pc' := 3) X dX0_redirect_2 rfl 1 rfl rfl ?_
  refine r_get (pc' := 6) X uX0_redirect_X1 2 11 dX0_redirect_3 rfl rfl (by decide) kX0_redirect_1 rfl rfl ?_
  refine r_iconst (pc' := 7) X (0 : Int32) dX0_redirect_6 (by decide) rfl ?_
  refine r_bipush (pc' := 9) X (6 : Int32) dX0_redirect_7 (by decide) rfl ?_
  obtain ⟨roots_1, hc2, hF⟩ := g_bd hF
  refine r_callVF (pc' := 12) (ws' := [oX0 a_c a_marked a_stack stacked deepest scans overflow, oZ a_marked cZ 200 marked, oX1 a_h words depth allocated collections freed a_owner a_fieldCount a_dataCount a_pinned a_age a_content a_roots a_weaks a_movedTo a_reports, oI a_fieldCount cI 200 fieldCount, oI a_content cI 200 content, oI a_roots cI 6 roots_1, oI a_weaks cI 4 weaks, oI a_movedTo cI 200 movedTo]) (st' := []) X (mX0_redirectRow D cI cZ cH a_c a_h a_movedTo a_roots a_marked a_stack a_owner a_fieldCount a_dataCount a_pinned a_age a_content a_roots a_weaks a_reports stacked deepest scans overflow words depth allocated collections freed movedTo roots 6 (0 : Int32) (6 : Int32) roots_1 hc2) 4 gX0_redirect_X0_redirectRow rfl (by decide +kernel) rfl rfl ⟨Nat.le_of_ble_eq_true rfl, Nat.le_of_ble_eq_true rfl⟩ ⟨Nat.le_of_ble_eq_true rfl, Nat.le_of_ble_eq_true rfl⟩ rfl (Nat.le_of_ble_eq_true rfl) dX0_redirect_9 0 rfl rfl [0, 2, 7, 5] rfl rfl rfl rfl rfl rfl ?_
  refine r_aload_n (pc' := 13) X dX0_redirect_12 rfl 0 rfl rfl ?_
  refine r_aload_n (pc' := 14) X dX0_redirect_13 rfl 1 rfl rfl ?_
  refine r_aload_n (pc' := 15) X dX0_redirect_14 rfl 1 rfl rfl ?_
  refine r_get (pc' := 18) X uX0_redirect_X1 2 12 dX0_redirect_15 rfl rfl (by decide) kX0_redirect_2 rfl rfl ?_
  refine r_iconst (pc' := 19) X (0 : Int32) dX0_redirect_18 (by decide) rfl ?_
  refine r_iconst (pc' := 20) X (4 : Int32) dX0_redirect_19 (by decide) rfl ?_
  obtain ⟨weaks_3, hc4, hF⟩ := g_bd hF
  refine r_callVF (pc' := 23) (ws' := [oX0 a_c a_marked a_stack stacked deepest scans overflow, oZ a_marked cZ 200 marked, oX1 a_h words depth allocated collections freed a_owner a_fieldCount a_dataCount a_pinned a_age a_content a_roots a_weaks a_movedTo a_reports, oI a_fieldCount cI 200 fieldCount, oI a_content cI 200 content, oI a_roots cI 6 roots_1, oI a_weaks cI 4 weaks_3, oI a_movedTo cI 200 movedTo]) (st' := []) X (mX0_redirectRow D cI cZ cH a_c a_h a_movedTo a_weaks a_marked a_stack a_owner a_fieldCount a_dataCount a_pinned a_age a_content a_roots a_weaks a_reports stacked deepest scans overflow words depth allocated collections freed movedTo weaks 4 (0 : Int32) (4 : Int32) weaks_3 hc4) 4 gX0_redirect_X0_redirectRow rfl (by decide +kernel) rfl rfl ⟨Nat.le_of_ble_eq_true rfl, Nat.le_of_ble_eq_true rfl⟩ ⟨Nat.le_of_ble_eq_true rfl, Nat.le_of_ble_eq_true rfl⟩ rfl (Nat.le_of_ble_eq_true rfl) dX0_redirect_20 0 rfl rfl [0, 2, 7, 6] rfl rfl rfl rfl rfl rfl ?_
  refine r_iconst (pc' := 24) X (0 : Int32) dX0_redirect_23 (by decide) rfl ?_
  refine r_istore_n (pc' := 25) (lv' := [(0, .ref a_c), (1, .ref a_h), (2, .int (0 : Int32))]) X dX0_redirect_24 rfl (by decide) [1, 2, 0] rfl rfl ?_
  obtain ⟨ex25, hR, hF⟩ := g_bd hF
  have hE25 : ∀ (content_7 : Nat → Int32), content_7 = ex25 → G 0 0 [oX0 a_c a_marked a_stack stacked deepest scans overflow, oZ a_marked cZ 200 marked, oX1 a_h words depth allocated collections freed a_owner a_fieldCount a_dataCount a_pinned a_age a_content a_roots a_weaks a_movedTo a_reports, oI a_fieldCount cI 200 fieldCount, oI a_content cI 200 content_7, oI a_roots cI 6 roots_1, oI a_weaks cI 4 weaks_3, oI a_movedTo cI 200 movedTo] [] 70 [] := by
    intro content_7 hx; subst hx
    cases hF
    exact RT.2.2 0 0 _ _ _ rfl dX0_redirect_70 ⟨rfl, rfl⟩ (Nat.le_refl 0) (Nat.le_refl 0)
  have hL25 : ∀ (fu : Nat) (v2_5 : Int32) (content_6 : Nat → Int32), g_itn (FX0_redirect_L25 marked words fieldCount movedTo) fu (v2_5, content_6) = some ex25 → G 0 0 [oX0 a_c a_marked a_stack stacked deepest scans overflow, oZ a_marked cZ 200 marked, oX1 a_h words depth allocated collections freed a_owner a_fieldCount a_dataCount a_pinned a_age a_content a_roots a_weaks a_movedTo a_reports, oI a_fieldCount cI 200 fieldCount, oI a_content cI 200 content_6, oI a_roots cI 6 roots_1, oI a_weaks cI 4 weaks_3, oI a_movedTo cI 200 movedTo] [(0, .ref a_c), (1, .ref a_h), (2, .int v2_5)] 25 [] := by
    intro fu
    induction fu with
    | zero => intro v2_5 content_6 h9; exact (g_it0 h9).elim
    | succ fu ih =>
      intro v2_5 content_6 h9
      obtain ⟨y25, hF, hI25⟩ := g_its h9
      unfold FX0_redirect_L25 at hF
      refine r_iload_n (pc' := 26) X dX0_redirect_25 rfl 2 rfl rfl ?_
      refine r_aload_n (pc' := 27) X dX0_redirect_26 rfl 1 rfl rfl ?_
      refine r_get (pc' := 30) X uX0_redirect_X1 2 0 dX0_redirect_27 rfl rfl (by decide) kX0_redirect_3 rfl rfl ?_
      refine r_icmp_ge (pc' := 33) X 70 dX0_redirect_30 (by decide) rfl (fun c9 => ?_) (fun c9 => ?_)
      · replace hF := g_t c9 hF
        cases hF
        refine r_sub (lv' := []) X [] rfl ?_
        exact hE25 content_6 hI25
      · replace hF := g_f c9 hF
        refine r_aload_n (pc' := 34) X dX0_redirect_33 rfl 0 rfl rfl ?_
        refine r_get (pc' := 37) X uX0_redirect_X0 0 0 dX0_redirect_34 rfl rfl (by decide) kX0_redirect_4 rfl rfl ?_
        refine r_iload_n (pc' := 38) X dX0_redirect_37 rfl 2 rfl rfl ?_
        obtain ⟨hi8, hF⟩ := g_gt hF
        refine r_zald (pc' := 39) X 1 dX0_redirect_38 rfl (g_vi hi8) rfl ?_
        obtain ⟨exJ10, hR, hF⟩ := g_bd hF
        have hJ10 : ∀ (content_9 : Nat → Int32), content_9 = exJ10 → G 0 0 [oX0 a_c a_marked a_stack stacked deepest scans overflow, oZ a_marked cZ 200 marked, oX1 a_h words depth allocated collections freed a_owner a_fieldCount a_dataCount a_pinned a_age a_content a_roots a_weaks a_movedTo a_reports, oI a_fieldCount cI 200 fieldCount, oI a_content cI 200 content_9, oI a_roots cI 6 roots_1, oI a_weaks cI 4 weaks_3, oI a_movedTo cI 200 movedTo] [(0, .ref a_c), (1, .ref a_h), (2, .int v2_5)] 64 [] := by
          intro content_9 hx; subst hx
          refine r_iinc (pc' := 67) (lv' := [(0, .ref a_c), (1, .ref a_h), (2, .int (v2_5 + (1 : Int32)))]) X (v2_5 + (1 : Int32)) dX0_redirect_64 2 rfl (congrArg (fun z => v2_5 + z) (by decide)) (by decide) [1, 2, 0] rfl rfl ?_
          refine r_goto X 25 dX0_redirect_67 (by decide) ?_
          cases hF
          exact ih (v2_5 + (1 : Int32)) content_9 hI25
        replace hF := hR
        refine r_if_eq (pc' := 42) X 64 dX0_redirect_39 (by decide) rfl (fun c9 => ?_) (fun c9 => ?_)
        · replace hF := g_t c9 hF
          exact hJ10 content_6 (Option.some.inj hF)
        · replace hF := g_f c9 hF
          refine r_aload_n (pc' := 43) X dX0_redirect_42 rfl 0 rfl rfl ?_
          refine r_aload_n (pc' := 44) X dX0_redirect_43 rfl 1 rfl rfl ?_
          refine r_aload_n (pc' := 45) X dX0_redirect_44 rfl 1 rfl rfl ?_
          refine r_get (pc' := 48) X uX0_redirect_X1 2 10 dX0_redirect_45 rfl rfl (by decide) kX0_redirect_5 rfl rfl ?_
          refine r_iload_n (pc' := 49) X dX0_redirect_48 rfl 2 rfl rfl ?_
          refine r_iconst (pc' := 50) X (1 : Int32) dX0_redirect_49 (by decide) rfl ?_
          refine r_iadd (pc' := 51) X dX0_redirect_50 rfl ?_
          refine r_iload_n (pc' := 52) X dX0_redirect_51 rfl 2 rfl rfl ?_
          refine r_iconst (pc' := 53) X (1 : Int32) dX0_redirect_52 (by decide) rfl ?_
          refine r_iadd (pc' := 54) X dX0_redirect_53 rfl ?_
          refine r_aload_n (pc' := 55) X dX0_redirect_54 rfl 1 rfl rfl ?_
          refine r_get (pc' := 58) X uX0_redirect_X1 2 6 dX0_redirect_55 rfl rfl (by decide) kX0_redirect_6 rfl rfl ?_
          refine r_iload_n (pc' := 59) X dX0_redirect_58 rfl 2 rfl rfl ?_
          obtain ⟨hi11, hF⟩ := g_gt hF
          refine r_iald (pc' := 60) X 3 dX0_redirect_59 rfl (g_vi hi11) rfl ?_
          refine r_iadd (pc' := 61) X dX0_redirect_60 rfl ?_
          obtain ⟨content_12, hc13, hF⟩ := g_bd hF
          refine r_callVF (pc' := 64) (ws' := [oX0 a_c a_marked a_stack stacked deepest scans overflow, oZ a_marked cZ 200 marked, oX1 a_h words depth allocated collections freed a_owner a_fieldCount a_dataCount a_pinned a_age a_content a_roots a_weaks a_movedTo a_reports, oI a_fieldCount cI 200 fieldCount, oI a_content cI 200 content_12, oI a_roots cI 6 roots_1, oI a_weaks cI 4 weaks_3, oI a_movedTo cI 200 movedTo]) (st' := []) X (mX0_redirectRow D cI cZ cH a_c a_h a_movedTo a_content a_marked a_stack a_owner a_fieldCount a_dataCount a_pinned a_age a_content a_roots a_weaks a_reports stacked deepest scans overflow words depth allocated collections freed movedTo content_6 200 (v2_5 + (1 : Int32)) ((v2_5 + (1 : Int32)) + (fieldCount v2_5.toNatClampNeg)) content_12 hc13) 4 gX0_redirect_X0_redirectRow rfl (by decide +kernel) rfl rfl ⟨Nat.le_of_ble_eq_true rfl, Nat.le_of_ble_eq_true rfl⟩ ⟨Nat.le_of_ble_eq_true rfl, Nat.le_of_ble_eq_true rfl⟩ rfl (Nat.le_of_ble_eq_true rfl) dX0_redirect_61 0 rfl rfl [0, 2, 7, 4] rfl rfl rfl rfl rfl rfl ?_
          exact hJ10 content_12 (Option.some.inj hF)
  exact hL25 g_fuel (0 : Int32) content hR
theorem kX0_slide_1 : Cond.fieldLink RX0 101 "IslandHeap$Heap" "owner" "[I" ∈ wsX0_slide := List.mem_of_getElem? (i := 1) (by decide +kernel)
theorem kX0_slide_2 : Cond.fieldLink RX0 43 "IslandHeap$Heap" "words" "I" ∈ wsX0_slide := List.mem_of_getElem? (i := 2) (by decide +kernel)
theorem kX0_slide_3 : Cond.fieldLink RX0 9 "IslandHeap$Collector" "marked" "[Z" ∈ wsX0_slide := List.mem_of_getElem? (i := 3) (by decide +kernel)
theorem kX0_slide_4 : Cond.fieldLink RX0 72 "IslandHeap$Heap" "movedTo" "[I" ∈ wsX0_slide := List.mem_of_getElem? (i := 4) (by decide +kernel)
theorem uX0_slide_X1 : ∀ w ∈ u_ws RX1 TX1 15, w ∈ wsX0_slide := by decide +kernel
theorem uX0_slide_X0 : ∀ w ∈ u_ws RX0 TX0 6, w ∈ wsX0_slide := by decide +kernel
set_option maxHeartbeats 4000000 in
set_option maxRecDepth 100000 in
theorem mX0_slide (D : va_G) (cI cZ cH : ClassId) (a_c : Nat) (a_marked : Nat) (a_h : Nat) (a_owner : Nat) (a_fieldCount : Nat) (a_dataCount : Nat) (a_pinned : Nat) (a_age : Nat) (a_content : Nat) (a_movedTo : Nat) (a_stack : Nat) (a_roots : Nat) (a_weaks : Nat) (a_reports : Nat) (stacked : Int32) (deepest : Int32) (scans : Int32) (overflow : Int32) (marked : Nat → Int32) (words : Int32) (depth : Int32) (allocated : Int32) (collections : Int32) (freed : Int32) (owner : Nat → Int32) (fieldCount : Nat → Int32) (dataCount : Nat → Int32) (pinned : Nat → Int32) (age : Nat → Int32) (content : Nat → Int32) (movedTo : Nat → Int32) (w_owner : Nat → Int32) (w_fieldCount : Nat → Int32) (w_dataCount : Nat → Int32) (w_pinned : Nat → Int32) (w_age : Nat → Int32) (w_content : Nat → Int32) (hF : FX0_slide marked words owner fieldCount dataCount pinned age content movedTo = some (w_owner, w_fieldCount, w_dataCount, w_pinned, w_age, w_content)) : g_CM yX0_slide wsX0_slide ({ frames := 4, cells := 0, slots := 0, locals := 89 }) D cI cZ cH [.ref a_c, .ref a_h] [oX0 a_c a_marked a_stack stacked deepest scans overflow, oZ a_marked cZ 200 marked, oX1 a_h words depth allocated collections freed a_owner a_fieldCount a_dataCount a_pinned a_age a_content a_roots a_weaks a_movedTo a_reports, oI a_owner cI 200 owner, oI a_fieldCount cI 200 fieldCount, oI a_dataCount cI 200 dataCount, oI a_pinned cI 200 pinned, oI a_age cI 200 age, oI a_content cI 200 content, oI a_movedTo cI 200 movedTo] 0 0 (g_Tm (none) [oX0 a_c a_marked a_stack stacked deepest scans overflow, oZ a_marked cZ 200 marked, oX1 a_h words depth allocated collections freed a_owner a_fieldCount a_dataCount a_pinned a_age a_content a_roots a_weaks a_movedTo a_reports, oI a_owner cI 200 w_owner, oI a_fieldCount cI 200 w_fieldCount, oI a_dataCount cI 200 w_dataCount, oI a_pinned cI 200 w_pinned, oI a_age cI 200 w_age, oI a_content cI 200 w_content, oI a_movedTo cI 200 movedTo]) := by
  refine g_met (own := RX0) (mn := "slide") (cc := cX0_slide) (maxL := 3) (ret := none) rfl rfl (by decide +kernel) rfl (Nat.le_of_ble_eq_true rfl) (fun G X RT => ?_)
  show G 0 0 [oX0 a_c a_marked a_stack stacked deepest scans overflow, oZ a_marked cZ 200 marked, oX1 a_h words depth allocated collections freed a_owner a_fieldCount a_dataCount a_pinned a_age a_content a_roots a_weaks a_movedTo a_reports, oI a_owner cI 200 owner, oI a_fieldCount cI 200 fieldCount, oI a_dataCount cI 200 dataCount, oI a_pinned cI 200 pinned, oI a_age cI 200 age, oI a_content cI 200 content, oI a_movedTo cI 200 movedTo] [(0, .ref a_c), (1, .ref a_h)] 0 []
  unfold FX0_slide at hF
  refine r_aload_n (pc' := 1) X dX0_slide_0 rfl 1 rfl rfl ?_
  refine r_get (pc' := 4) X uX0_slide_X1 2 5 dX0_slide_1 rfl rfl (by decide) kX0_slide_1 rfl rfl ?_
  refine r_iconst (pc' := 5) X (-1 : Int32) dX0_slide_4 (by decide) rfl ?_
  obtain ⟨owner_1, hc2, hF⟩ := g_bd hF
  refine r_callSF (pc' := 8) (ws' := [oX0 a_c a_marked a_stack stacked deepest scans overflow, oZ a_marked cZ 200 marked, oX1 a_h words depth allocated collections freed a_owner a_fieldCount a_dataCount a_pinned a_age a_content a_roots a_weaks a_movedTo a_reports, oI a_owner cI 200 owner_1, oI a_fieldCount cI 200 fieldCount, oI a_dataCount cI 200 dataCount, oI a_pinned cI 200 pinned, oI a_age cI 200 age, oI a_content cI 200 content, oI a_movedTo cI 200 movedTo]) (st' := []) X (mJ7_fill_53178 D cI cZ cH a_owner owner 200 (-1 : Int32) owner_1 hc2) 2 gX0_slide_J7_fill_53178 rfl (by decide +kernel) rfl rfl ⟨Nat.le_of_ble_eq_true rfl, Nat.le_of_ble_eq_true rfl⟩ ⟨Nat.le_of_ble_eq_true rfl, Nat.le_of_ble_eq_true rfl⟩ rfl (Nat.le_of_ble_eq_true rfl) dX0_slide_5 [3] rfl rfl rfl rfl rfl rfl ?_
  refine r_iconst (pc' := 9) X (0 : Int32) dX0_slide_8 (by decide) rfl ?_
  refine r_istore_n (pc' := 10) (lv' := [(0, .ref a_c), (1, .ref a_h), (2, .int (0 : Int32))]) X dX0_slide_9 rfl (by decide) [1, 2, 0] rfl rfl ?_
  obtain ⟨ex10, hR, hF⟩ := g_bd hF
  have hE10 : ∀ (owner_10 : Nat → Int32) (fieldCount_11 : Nat → Int32) (dataCount_12 : Nat → Int32) (pinned_13 : Nat → Int32) (age_14 : Nat → Int32) (content_15 : Nat → Int32), (owner_10, fieldCount_11, dataCount_12, pinned_13, age_14, content_15) = ex10 → G 0 0 [oX0 a_c a_marked a_stack stacked deepest scans overflow, oZ a_marked cZ 200 marked, oX1 a_h words depth allocated collections freed a_owner a_fieldCount a_dataCount a_pinned a_age a_content a_roots a_weaks a_movedTo a_reports, oI a_owner cI 200 owner_10, oI a_fieldCount cI 200 fieldCount_11, oI a_dataCount cI 200 dataCount_12, oI a_pinned cI 200 pinned_13, oI a_age cI 200 age_14, oI a_content cI 200 content_15, oI a_movedTo cI 200 movedTo] [] 57 [] := by
    intro owner_10 fieldCount_11 dataCount_12 pinned_13 age_14 content_15 hx; subst hx
    cases hF
    exact RT.2.2 0 0 _ _ _ rfl dX0_slide_57 ⟨rfl, rfl⟩ (Nat.le_refl 0) (Nat.le_refl 0)
  have hL10 : ∀ (fu : Nat) (v2_3 : Int32) (owner_4 : Nat → Int32) (fieldCount_5 : Nat → Int32) (dataCount_6 : Nat → Int32) (pinned_7 : Nat → Int32) (age_8 : Nat → Int32) (content_9 : Nat → Int32), g_itn (FX0_slide_L10 marked words movedTo) fu (v2_3, owner_4, fieldCount_5, dataCount_6, pinned_7, age_8, content_9) = some ex10 → G 0 0 [oX0 a_c a_marked a_stack stacked deepest scans overflow, oZ a_marked cZ 200 marked, oX1 a_h words depth allocated collections freed a_owner a_fieldCount a_dataCount a_pinned a_age a_content a_roots a_weaks a_movedTo a_reports, oI a_owner cI 200 owner_4, oI a_fieldCount cI 200 fieldCount_5, oI a_dataCount cI 200 dataCount_6, oI a_pinned cI 200 pinned_7, oI a_age cI 200 age_8, oI a_content cI 200 content_9, oI a_movedTo cI 200 movedTo] [(0, .ref a_c), (1, .ref a_h), (2, .int v2_3)] 10 [] := by
    intro fu
    induction fu with
    | zero => intro v2_3 owner_4 fieldCount_5 dataCount_6 pinned_7 age_8 content_9 h9; exact (g_it0 h9).elim
    | succ fu ih =>
      intro v2_3 owner_4 fieldCount_5 dataCount_6 pinned_7 age_8 content_9 h9
      obtain ⟨y10, hF, hI10⟩ := g_its h9
      unfold FX0_slide_L10 at hF
      refine r_iload_n (pc' := 11) X dX0_slide_10 rfl 2 rfl rfl ?_
      refine r_aload_n (pc' := 12) X dX0_slide_11 rfl 1 rfl rfl ?_
      refine r_get (pc' := 15) X uX0_slide_X1 2 0 dX0_slide_12 rfl rfl (by decide) kX0_slide_2 rfl rfl ?_
      refine r_icmp_ge (pc' := 18) X 57 dX0_slide_15 (by decide) rfl (fun c9 => ?_) (fun c9 => ?_)
      · replace hF := g_t c9 hF
        cases hF
        refine r_sub (lv' := []) X [] rfl ?_
        exact hE10 owner_4 fieldCount_5 dataCount_6 pinned_7 age_8 content_9 hI10
      · replace hF := g_f c9 hF
        refine r_aload_n (pc' := 19) X dX0_slide_18 rfl 0 rfl rfl ?_
        refine r_get (pc' := 22) X uX0_slide_X0 0 0 dX0_slide_19 rfl rfl (by decide) kX0_slide_3 rfl rfl ?_
        refine r_iload_n (pc' := 23) X dX0_slide_22 rfl 2 rfl rfl ?_
        obtain ⟨hi16, hF⟩ := g_gt hF
        refine r_zald (pc' := 24) X 1 dX0_slide_23 rfl (g_vi hi16) rfl ?_
        obtain ⟨exJ23, hR, hF⟩ := g_bd hF
        have hJ23 : ∀ (owner_17 : Nat → Int32) (fieldCount_18 : Nat → Int32) (dataCount_19 : Nat → Int32) (pinned_20 : Nat → Int32) (age_21 : Nat → Int32) (content_22 : Nat → Int32), (owner_17, fieldCount_18, dataCount_19, pinned_20, age_21, content_22) = exJ23 → G 0 0 [oX0 a_c a_marked a_stack stacked deepest scans overflow, oZ a_marked cZ 200 marked, oX1 a_h words depth allocated collections freed a_owner a_fieldCount a_dataCount a_pinned a_age a_content a_roots a_weaks a_movedTo a_reports, oI a_owner cI 200 owner_17, oI a_fieldCount cI 200 fieldCount_18, oI a_dataCount cI 200 dataCount_19, oI a_pinned cI 200 pinned_20, oI a_age cI 200 age_21, oI a_content cI 200 content_22, oI a_movedTo cI 200 movedTo] [(0, .ref a_c), (1, .ref a_h), (2, .int v2_3)] 51 [] := by
          intro owner_17 fieldCount_18 dataCount_19 pinned_20 age_21 content_22 hx; subst hx
          refine r_iinc (pc' := 54) (lv' := [(0, .ref a_c), (1, .ref a_h), (2, .int (v2_3 + (1 : Int32)))]) X (v2_3 + (1 : Int32)) dX0_slide_51 2 rfl (congrArg (fun z => v2_3 + z) (by decide)) (by decide) [1, 2, 0] rfl rfl ?_
          refine r_goto X 10 dX0_slide_54 (by decide) ?_
          cases hF
          exact ih (v2_3 + (1 : Int32)) owner_17 fieldCount_18 dataCount_19 pinned_20 age_21 content_22 hI10
        replace hF := hR
        refine r_if_eq (pc' := 27) X 51 dX0_slide_24 (by decide) rfl (fun c9 => ?_) (fun c9 => ?_)
        · replace hF := g_t c9 hF
          exact hJ23 owner_4 fieldCount_5 dataCount_6 pinned_7 age_8 content_9 (Option.some.inj hF)
        · replace hF := g_f c9 hF
          refine r_aload_n (pc' := 28) X dX0_slide_27 rfl 1 rfl rfl ?_
          refine r_aload_n (pc' := 29) X dX0_slide_28 rfl 1 rfl rfl ?_
          refine r_get (pc' := 32) X uX0_slide_X1 2 13 dX0_slide_29 rfl rfl (by decide) kX0_slide_4 rfl rfl ?_
          refine r_iload_n (pc' := 33) X dX0_slide_32 rfl 2 rfl rfl ?_
          obtain ⟨hi24, hF⟩ := g_gt hF
          refine r_iald (pc' := 34) X 9 dX0_slide_33 rfl (g_vi hi24) rfl ?_
          obtain ⟨r25, hc26, hF⟩ := g_bd hF
          refine r_callVF (pc' := 37) (ws' := [oX0 a_c a_marked a_stack stacked deepest scans overflow, oZ a_marked cZ 200 marked, oX1 a_h words depth allocated collections freed a_owner a_fieldCount a_dataCount a_pinned a_age a_content a_roots a_weaks a_movedTo a_reports, oI a_owner cI 200 owner_4, oI a_fieldCount cI 200 fieldCount_5, oI a_dataCount cI 200 dataCount_6, oI a_pinned cI 200 pinned_7, oI a_age cI 200 age_8, oI a_content cI 200 content_9, oI a_movedTo cI 200 movedTo]) (st' := [.int r25]) X (mX1_isAddress D cI cZ cH a_h a_owner a_fieldCount a_dataCount a_pinned a_age a_content a_roots a_weaks a_movedTo a_reports words depth allocated collections freed (movedTo v2_3.toNatClampNeg) r25 hc26) 1 gX0_slide_X1_isAddress rfl (by decide +kernel) rfl rfl ⟨Nat.le_of_ble_eq_true rfl, Nat.le_of_ble_eq_true rfl⟩ ⟨Nat.le_of_ble_eq_true rfl, Nat.le_of_ble_eq_true rfl⟩ rfl (Nat.le_of_ble_eq_true rfl) dX0_slide_34 2 rfl rfl [2] rfl rfl rfl rfl rfl rfl ?_
          refine r_if_eq (pc' := 40) X 51 dX0_slide_37 (by decide) rfl (fun c9 => ?_) (fun c9 => ?_)
          · replace hF := g_t c9 hF
            exact hJ23 owner_4 fieldCount_5 dataCount_6 pinned_7 age_8 content_9 (Option.some.inj hF)
          · replace hF := g_f c9 hF
            refine r_aload_n (pc' := 41) X dX0_slide_40 rfl 1 rfl rfl ?_
            refine r_iload_n (pc' := 42) X dX0_slide_41 rfl 2 rfl rfl ?_
            refine r_aload_n (pc' := 43) X dX0_slide_42 rfl 1 rfl rfl ?_
            refine r_get (pc' := 46) X uX0_slide_X1 2 13 dX0_slide_43 rfl rfl (by decide) kX0_slide_4 rfl rfl ?_
            refine r_iload_n (pc' := 47) X dX0_slide_46 rfl 2 rfl rfl ?_
            obtain ⟨hi27, hF⟩ := g_gt hF
            refine r_iald (pc' := 48) X 9 dX0_slide_47 rfl (g_vi hi27) rfl ?_
            obtain ⟨⟨owner_28, fieldCount_29, dataCount_30, pinned_31, age_32, content_33⟩, hc34, hF⟩ := g_bd hF
            refine r_callVF (pc' := 51) (ws' := [oX0 a_c a_marked a_stack stacked deepest scans overflow, oZ a_marked cZ 200 marked, oX1 a_h words depth allocated collections freed a_owner a_fieldCount a_dataCount a_pinned a_age a_content a_roots a_weaks a_movedTo a_reports, oI a_owner cI 200 owner_28, oI a_fieldCount cI 200 fieldCount_29, oI a_dataCount cI 200 dataCount_30, oI a_pinned cI 200 pinned_31, oI a_age cI 200 age_32, oI a_content cI 200 content_33, oI a_movedTo cI 200 movedTo]) (st' := []) X (mX1_shift D cI cZ cH a_h a_owner a_fieldCount a_dataCount a_pinned a_age a_content a_roots a_weaks a_movedTo a_reports words depth allocated collections freed owner_4 fieldCount_5 dataCount_6 pinned_7 age_8 content_9 v2_3 (movedTo v2_3.toNatClampNeg) owner_28 fieldCount_29 dataCount_30 pinned_31 age_32 content_33 hc34) 2 gX0_slide_X1_shift rfl (by decide +kernel) rfl rfl ⟨Nat.le_of_ble_eq_true rfl, Nat.le_of_ble_eq_true rfl⟩ ⟨Nat.le_of_ble_eq_true rfl, Nat.le_of_ble_eq_true rfl⟩ rfl (Nat.le_of_ble_eq_true rfl) dX0_slide_48 2 rfl rfl [2, 3, 4, 5, 6, 7, 8] rfl rfl rfl rfl rfl rfl ?_
            exact hJ23 owner_28 fieldCount_29 dataCount_30 pinned_31 age_32 content_33 (Option.some.inj hF)
  exact hL10 g_fuel (0 : Int32) owner_1 fieldCount dataCount pinned age content hR
theorem kX3_liveWords_1 : Cond.fieldLink RX3 24 "IslandHeap$Reach" "queued" "I" ∈ wsX3_liveWords := List.mem_of_getElem? (i := 1) (by decide +kernel)
theorem kX3_liveWords_2 : Cond.fieldLink RX3 15 "IslandHeap$Reach" "queue" "[I" ∈ wsX3_liveWords := List.mem_of_getElem? (i := 2) (by decide +kernel)
theorem uX3_liveWords_X3 : ∀ w ∈ u_ws RX3 TX3 3, w ∈ wsX3_liveWords := by decide +kernel
set_option maxHeartbeats 4000000 in
set_option maxRecDepth 100000 in
theorem mX3_liveWords (D : va_G) (cI cZ cH : ClassId) (a_r : Nat) (a_queue : Nat) (a_h : Nat) (a_fieldCount : Nat) (a_dataCount : Nat) (a_steps : Nat) (a_owner : Nat) (a_pinned : Nat) (a_age : Nat) (a_content : Nat) (a_roots : Nat) (a_weaks : Nat) (a_movedTo : Nat) (a_reports : Nat) (queued : Int32) (queue : Nat → Int32) (words : Int32) (depth : Int32) (allocated : Int32) (collections : Int32) (freed : Int32) (fieldCount : Nat → Int32) (dataCount : Nat → Int32) (r0 : Int32) (hF : FX3_liveWords queued queue fieldCount dataCount = some r0) : g_CM yX3_liveWords wsX3_liveWords ({ frames := 1, cells := 0, slots := 0, locals := 21 }) D cI cZ cH [.ref a_r, .ref a_h] [oX3 a_r a_steps a_queue queued, oI a_queue cI 200 queue, oX1 a_h words depth allocated collections freed a_owner a_fieldCount a_dataCount a_pinned a_age a_content a_roots a_weaks a_movedTo a_reports, oI a_fieldCount cI 200 fieldCount, oI a_dataCount cI 200 dataCount] 0 0 (g_Tm (some (.int r0)) [oX3 a_r a_steps a_queue queued, oI a_queue cI 200 queue, oX1 a_h words depth allocated collections freed a_owner a_fieldCount a_dataCount a_pinned a_age a_content a_roots a_weaks a_movedTo a_reports, oI a_fieldCount cI 200 fieldCount, oI a_dataCount cI 200 dataCount]) := by
  refine g_met (own := RX3) (mn := "liveWords") (cc := cX3_liveWords) (maxL := 4) (ret := (some .int)) rfl rfl (by decide +kernel) rfl (Nat.le_of_ble_eq_true rfl) (fun G X RT => ?_)
  show G 0 0 [oX3 a_r a_steps a_queue queued, oI a_queue cI 200 queue, oX1 a_h words depth allocated collections freed a_owner a_fieldCount a_dataCount a_pinned a_age a_content a_roots a_weaks a_movedTo a_reports, oI a_fieldCount cI 200 fieldCount, oI a_dataCount cI 200 dataCount] [(0, .ref a_r), (1, .ref a_h)] 0 []
  unfold FX3_liveWords at hF
  refine r_iconst (pc' := 1) X (0 : Int32) dX3_liveWords_0 (by decide) rfl ?_
  refine r_istore_n (pc' := 2) (lv' := [(0, .ref a_r), (1, .ref a_h), (2, .int (0 : Int32))]) X dX3_liveWords_1 rfl (by decide) [1, 2, 0] rfl rfl ?_
  refine r_iconst (pc' := 3) X (0 : Int32) dX3_liveWords_2 (by decide) rfl ?_
  refine r_istore_n (pc' := 4) (lv' := [(0, .ref a_r), (1, .ref a_h), (2, .int (0 : Int32)), (3, .int (0 : Int32))]) X dX3_liveWords_3 rfl (by decide) [1, 2, 3, 0] rfl rfl ?_
  obtain ⟨ex4, hR, hF⟩ := g_bd hF
  have hE4 : ∀ (v2_3 : Int32), v2_3 = ex4 → G 0 0 [oX3 a_r a_steps a_queue queued, oI a_queue cI 200 queue, oX1 a_h words depth allocated collections freed a_owner a_fieldCount a_dataCount a_pinned a_age a_content a_roots a_weaks a_movedTo a_reports, oI a_fieldCount cI 200 fieldCount, oI a_dataCount cI 200 dataCount] [(2, .int v2_3)] 31 [] := by
    intro v2_3 hx; subst hx
    refine r_iload_n (pc' := 32) X dX3_liveWords_31 rfl 0 rfl rfl ?_
    cases hF
    exact RT.1 0 0 _ _ _ _ .int rfl rfl dX3_liveWords_32 ⟨rfl, rfl⟩ (Nat.le_refl 0) (Nat.le_refl 0)
  have hL4 : ∀ (fu : Nat) (v2_1 : Int32) (v3_2 : Int32), g_itn (FX3_liveWords_L4 queued queue fieldCount dataCount) fu (v2_1, v3_2) = some ex4 → G 0 0 [oX3 a_r a_steps a_queue queued, oI a_queue cI 200 queue, oX1 a_h words depth allocated collections freed a_owner a_fieldCount a_dataCount a_pinned a_age a_content a_roots a_weaks a_movedTo a_reports, oI a_fieldCount cI 200 fieldCount, oI a_dataCount cI 200 dataCount] [(0, .ref a_r), (1, .ref a_h), (2, .int v2_1), (3, .int v3_2)] 4 [] := by
    intro fu
    induction fu with
    | zero => intro v2_1 v3_2 h9; exact (g_it0 h9).elim
    | succ fu ih =>
      intro v2_1 v3_2 h9
      obtain ⟨y4, hF, hI4⟩ := g_its h9
      unfold FX3_liveWords_L4 at hF
      refine r_iload_n (pc' := 5) X dX3_liveWords_4 rfl 3 rfl rfl ?_
      refine r_aload_n (pc' := 6) X dX3_liveWords_5 rfl 0 rfl rfl ?_
      refine r_get (pc' := 9) X uX3_liveWords_X3 0 2 dX3_liveWords_6 rfl rfl (by decide) kX3_liveWords_1 rfl rfl ?_
      refine r_icmp_ge (pc' := 12) X 31 dX3_liveWords_9 (by decide) rfl (fun c9 => ?_) (fun c9 => ?_)
      · replace hF := g_t c9 hF
        cases hF
        refine r_sub (lv' := [(2, .int v2_1)]) X [2] rfl ?_
        exact hE4 v2_1 hI4
      · replace hF := g_f c9 hF
        refine r_iload_n (pc' := 13) X dX3_liveWords_12 rfl 2 rfl rfl ?_
        refine r_aload_n (pc' := 14) X dX3_liveWords_13 rfl 1 rfl rfl ?_
        refine r_aload_n (pc' := 15) X dX3_liveWords_14 rfl 0 rfl rfl ?_
        refine r_get (pc' := 18) X uX3_liveWords_X3 0 1 dX3_liveWords_15 rfl rfl (by decide) kX3_liveWords_2 rfl rfl ?_
        refine r_iload_n (pc' := 19) X dX3_liveWords_18 rfl 3 rfl rfl ?_
        obtain ⟨hi4, hF⟩ := g_gt hF
        refine r_iald (pc' := 20) X 1 dX3_liveWords_19 rfl (g_vi hi4) rfl ?_
        obtain ⟨r5, hc6, hF⟩ := g_bd hF
        refine r_callVF (pc' := 23) (ws' := [oX3 a_r a_steps a_queue queued, oI a_queue cI 200 queue, oX1 a_h words depth allocated collections freed a_owner a_fieldCount a_dataCount a_pinned a_age a_content a_roots a_weaks a_movedTo a_reports, oI a_fieldCount cI 200 fieldCount, oI a_dataCount cI 200 dataCount]) (st' := [.int r5, .int v2_1]) X (mX1_sizeOf D cI cZ cH a_h a_fieldCount a_dataCount a_owner a_pinned a_age a_content a_roots a_weaks a_movedTo a_reports words depth allocated collections freed fieldCount dataCount (queue v3_2.toNatClampNeg) r5 hc6) 1 gX3_liveWords_X1_sizeOf rfl (by decide +kernel) rfl rfl ⟨Nat.le_of_ble_eq_true rfl, Nat.le_of_ble_eq_true rfl⟩ ⟨Nat.le_of_ble_eq_true rfl, Nat.le_of_ble_eq_true rfl⟩ rfl (Nat.le_of_ble_eq_true rfl) dX3_liveWords_20 2 rfl rfl [2, 3, 4] rfl rfl rfl rfl rfl rfl ?_
        refine r_iadd (pc' := 24) X dX3_liveWords_23 rfl ?_
        refine r_istore_n (pc' := 25) (lv' := [(0, .ref a_r), (1, .ref a_h), (2, .int (v2_1 + r5)), (3, .int v3_2)]) X dX3_liveWords_24 rfl (by decide) [1, 2, 0, 3] rfl rfl ?_
        refine r_iinc (pc' := 28) (lv' := [(0, .ref a_r), (1, .ref a_h), (2, .int (v2_1 + r5)), (3, .int (v3_2 + (1 : Int32)))]) X (v3_2 + (1 : Int32)) dX3_liveWords_25 3 rfl (congrArg (fun z => v3_2 + z) (by decide)) (by decide) [1, 2, 3, 0] rfl rfl ?_
        refine r_goto X 4 dX3_liveWords_28 (by decide) ?_
        cases hF
        exact ih (v2_1 + r5) (v3_2 + (1 : Int32)) hI4
  exact hL4 g_fuel (0 : Int32) (0 : Int32) hR
theorem kX2_include_1 : Cond.fieldLink RX2 9 "IslandHeap$Holes" "numbers" "[I" ∈ wsX2_include := List.mem_of_getElem? (i := 1) (by decide +kernel)
theorem kX2_include_2 : Cond.methodLink RX2 34 Lib.Math.max.name ∈ wsX2_include := List.mem_of_getElem? (i := 2) (by decide +kernel)
theorem kX2_include_3 : Cond.static Lib.Math.max.name ∈ wsX2_include := List.mem_of_getElem? (i := 3) (by decide +kernel)
theorem kX2_include_4 : Cond.initialized "java/lang/Math" ∈ wsX2_include := List.mem_of_getElem? (i := 4) (by decide +kernel)
theorem kX2_include_5 : Cond.code Lib.Math.max.name Lib.Math.max.code 2 (some .int) ∈ wsX2_include := List.mem_of_getElem? (i := 5) (by decide +kernel)
theorem uX2_include_X2 : ∀ w ∈ u_ws RX2 TX2 1, w ∈ wsX2_include := by decide +kernel
set_option maxHeartbeats 4000000 in
set_option maxRecDepth 100000 in
theorem mX2_include (D : va_G) (cI cZ cH : ClassId) (a_o : Nat) (a_numbers : Nat) (numbers : Nat → Int32) (p1 : Int32) (p2 : Int32) (w_numbers : Nat → Int32) (hF : FX2_include numbers p1 p2 = some w_numbers) : g_CM yX2_include wsX2_include ({ frames := 1, cells := 0, slots := 0, locals := 40 }) D cI cZ cH [.ref a_o, .int p1, .int p2] [oX2 a_o a_numbers, oI a_numbers cI 5 numbers] 0 0 (g_Tm (none) [oX2 a_o a_numbers, oI a_numbers cI 5 w_numbers]) := by
  refine g_met (own := RX2) (mn := "include") (cc := cX2_include) (maxL := 3) (ret := none) rfl rfl (by decide +kernel) rfl (Nat.le_of_ble_eq_true rfl) (fun G X RT => ?_)
  show G 0 0 [oX2 a_o a_numbers, oI a_numbers cI 5 numbers] [(0, .ref a_o), (1, .int p1), (2, .int p2)] 0 []
  unfold FX2_include at hF
  refine r_iload_n (pc' := 1) X dX2_include_0 rfl 2 rfl rfl ?_
  refine r_if_ne (pc' := 4) X 5 dX2_include_1 (by decide) rfl (fun c9 => ?_) (fun c9 => ?_)
  · replace hF := g_f c9 hF
    refine r_aload_n (pc' := 6) X dX2_include_5 rfl 0 rfl rfl ?_
    refine r_get (pc' := 9) X uX2_include_X2 0 0 dX2_include_6 rfl rfl (by decide) kX2_include_1 rfl rfl ?_
    refine r_iconst (pc' := 10) X (0 : Int32) dX2_include_9 (by decide) rfl ?_
    refine r_dup2 (pc' := 11) X dX2_include_10 rfl rfl rfl ?_
    refine r_ialdK (pc' := 12) (j := 0) X 1 dX2_include_11 rfl (by decide +kernel) (by decide +kernel) rfl ?_
    refine r_iload_n (pc' := 13) X dX2_include_12 rfl 2 rfl rfl ?_
    refine r_iadd (pc' := 14) X dX2_include_13 rfl ?_
    refine r_iastK (pc' := 15) (j := 0) (ws' := [oX2 a_o a_numbers, oI a_numbers cI 5 (upd numbers 0 ((numbers 0) + p2))]) X 1 dX2_include_14 rfl (by decide +kernel) (by decide +kernel) rfl rfl ?_
    refine r_aload_n (pc' := 16) X dX2_include_15 rfl 0 rfl rfl ?_
    refine r_get (pc' := 19) X uX2_include_X2 0 0 dX2_include_16 rfl rfl (by decide) kX2_include_1 rfl rfl ?_
    refine r_iconst (pc' := 20) X (1 : Int32) dX2_include_19 (by decide) rfl ?_
    refine r_dup2 (pc' := 21) X dX2_include_20 rfl rfl rfl ?_
    refine r_ialdK (pc' := 22) (j := 1) X 1 dX2_include_21 rfl (by decide +kernel) (by decide +kernel) rfl ?_
    refine r_iconst (pc' := 23) X (1 : Int32) dX2_include_22 (by decide) rfl ?_
    refine r_iadd (pc' := 24) X dX2_include_23 rfl ?_
    refine r_iastK (pc' := 25) (j := 1) (ws' := [oX2 a_o a_numbers, oI a_numbers cI 5 (upd (upd numbers 0 ((numbers 0) + p2)) 1 (((upd numbers 0 ((numbers 0) + p2)) 1) + (1 : Int32)))]) X 1 dX2_include_24 rfl (by decide +kernel) (by decide +kernel) rfl rfl ?_
    refine r_aload_n (pc' := 26) X dX2_include_25 rfl 0 rfl rfl ?_
    refine r_get (pc' := 29) X uX2_include_X2 0 0 dX2_include_26 rfl rfl (by decide) kX2_include_1 rfl rfl ?_
    refine r_iconst (pc' := 30) X (2 : Int32) dX2_include_29 (by decide) rfl ?_
    refine r_aload_n (pc' := 31) X dX2_include_30 rfl 0 rfl rfl ?_
    refine r_get (pc' := 34) X uX2_include_X2 0 0 dX2_include_31 rfl rfl (by decide) kX2_include_1 rfl rfl ?_
    refine r_iconst (pc' := 35) X (2 : Int32) dX2_include_34 (by decide) rfl ?_
    refine r_ialdK (pc' := 36) (j := 2) X 1 dX2_include_35 rfl (by decide +kernel) (by decide +kernel) rfl ?_
    refine r_iload_n (pc' := 37) X dX2_include_36 rfl 2 rfl rfl ?_
    refine r_max (pc' := 40) X dX2_include_37 kX2_include_2 kX2_include_3 kX2_include_4 kX2_include_5 (by decide) (Nat.le_of_ble_eq_true rfl) (by decide) (by decide) rfl ?_
    refine r_iastK (pc' := 41) (j := 2) (ws' := [oX2 a_o a_numbers, oI a_numbers cI 5 (upd (upd (upd numbers 0 ((numbers 0) + p2)) 1 (((upd numbers 0 ((numbers 0) + p2)) 1) + (1 : Int32))) 2 (if (upd (upd numbers 0 ((numbers 0) + p2)) 1 (((upd numbers 0 ((numbers 0) + p2)) 1) + (1 : Int32))) 2 < p2 then p2 else (upd (upd numbers 0 ((numbers 0) + p2)) 1 (((upd numbers 0 ((numbers 0) + p2)) 1) + (1 : Int32))) 2))]) X 1 dX2_include_40 rfl (by decide +kernel) (by decide +kernel) rfl rfl ?_
    refine r_aload_n (pc' := 42) X dX2_include_41 rfl 0 rfl rfl ?_
    refine r_get (pc' := 45) X uX2_include_X2 0 0 dX2_include_42 rfl rfl (by decide) kX2_include_1 rfl rfl ?_
    refine r_iconst (pc' := 46) X (3 : Int32) dX2_include_45 (by decide) rfl ?_
    refine r_ialdK (pc' := 47) (j := 3) X 1 dX2_include_46 rfl (by decide +kernel) (by decide +kernel) rfl ?_
    refine r_iconst (pc' := 48) X (-1 : Int32) dX2_include_47 (by decide) rfl ?_
    obtain ⟨exJ2, hR, hF⟩ := g_bd hF
    have hJ2 : ∀ (numbers_1 : Nat → Int32), numbers_1 = exJ2 → G 0 0 [oX2 a_o a_numbers, oI a_numbers cI 5 numbers_1] [(0, .ref a_o), (2, .int p2)] 58 [] := by
      intro numbers_1 hx; subst hx
      refine r_aload_n (pc' := 59) X dX2_include_58 rfl 0 rfl rfl ?_
      refine r_get (pc' := 62) X uX2_include_X2 0 0 dX2_include_59 rfl rfl (by decide) kX2_include_1 rfl rfl ?_
      refine r_iconst (pc' := 63) X (4 : Int32) dX2_include_62 (by decide) rfl ?_
      refine r_dup2 (pc' := 64) X dX2_include_63 rfl rfl rfl ?_
      refine r_ialdK (pc' := 65) (j := 4) X 1 dX2_include_64 rfl (by decide +kernel) (by decide +kernel) rfl ?_
      refine r_iload_n (pc' := 66) X dX2_include_65 rfl 1 rfl rfl ?_
      refine r_iconst (pc' := 67) X (4 : Int32) dX2_include_66 (by decide) rfl ?_
      refine r_idiv (pc' := 68) X dX2_include_67 (by decide) rfl ?_
      refine r_iadd (pc' := 69) X dX2_include_68 rfl ?_
      refine r_iastK (pc' := 70) (j := 4) (ws' := [oX2 a_o a_numbers, oI a_numbers cI 5 (upd numbers_1 4 ((numbers_1 4) + (p2 / (4 : Int32))))]) X 1 dX2_include_69 rfl (by decide +kernel) (by decide +kernel) rfl rfl ?_
      cases hF
      exact RT.2.2 0 0 _ _ _ rfl dX2_include_70 ⟨rfl, rfl⟩ (Nat.le_refl 0) (Nat.le_refl 0)
    replace hF := hR
    refine r_icmp_ne (pc' := 51) X 58 dX2_include_48 (by decide) rfl (fun c9 => ?_) (fun c9 => ?_)
    · replace hF := g_f c9 hF
      refine r_sub (lv' := [(0, .ref a_o), (2, .int p2)]) X [0, 2] rfl ?_
      exact hJ2 (upd (upd (upd numbers 0 ((numbers 0) + p2)) 1 (((upd numbers 0 ((numbers 0) + p2)) 1) + (1 : Int32))) 2 (if (upd (upd numbers 0 ((numbers 0) + p2)) 1 (((upd numbers 0 ((numbers 0) + p2)) 1) + (1 : Int32))) 2 < p2 then p2 else (upd (upd numbers 0 ((numbers 0) + p2)) 1 (((upd numbers 0 ((numbers 0) + p2)) 1) + (1 : Int32))) 2)) (Option.some.inj hF)
    · replace hF := g_t c9 hF
      refine r_aload_n (pc' := 52) X dX2_include_51 rfl 0 rfl rfl ?_
      refine r_get (pc' := 55) X uX2_include_X2 0 0 dX2_include_52 rfl rfl (by decide) kX2_include_1 rfl rfl ?_
      refine r_iconst (pc' := 56) X (3 : Int32) dX2_include_55 (by decide) rfl ?_
      refine r_iload_n (pc' := 57) X dX2_include_56 rfl 1 rfl rfl ?_
      refine r_iastK (pc' := 58) (j := 3) (ws' := [oX2 a_o a_numbers, oI a_numbers cI 5 (upd (upd (upd (upd numbers 0 ((numbers 0) + p2)) 1 (((upd numbers 0 ((numbers 0) + p2)) 1) + (1 : Int32))) 2 (if (upd (upd numbers 0 ((numbers 0) + p2)) 1 (((upd numbers 0 ((numbers 0) + p2)) 1) + (1 : Int32))) 2 < p2 then p2 else (upd (upd numbers 0 ((numbers 0) + p2)) 1 (((upd numbers 0 ((numbers 0) + p2)) 1) + (1 : Int32))) 2)) 3 p1)]) X 1 dX2_include_57 rfl (by decide +kernel) (by decide +kernel) rfl rfl ?_
      refine r_sub (lv' := [(0, .ref a_o), (2, .int p2)]) X [0, 2] rfl ?_
      exact hJ2 (upd (upd (upd (upd numbers 0 ((numbers 0) + p2)) 1 (((upd numbers 0 ((numbers 0) + p2)) 1) + (1 : Int32))) 2 (if (upd (upd numbers 0 ((numbers 0) + p2)) 1 (((upd numbers 0 ((numbers 0) + p2)) 1) + (1 : Int32))) 2 < p2 then p2 else (upd (upd numbers 0 ((numbers 0) + p2)) 1 (((upd numbers 0 ((numbers 0) + p2)) 1) + (1 : Int32))) 2)) 3 p1) (Option.some.inj hF)
  · replace hF := g_t c9 hF
    cases hF
    exact RT.2.2 0 0 _ _ _ rfl dX2_include_4 ⟨rfl, rfl⟩ (Nat.le_refl 0) (Nat.le_refl 0)
theorem kX2_measure_1 : Cond.fieldLink RX2 9 "IslandHeap$Holes" "numbers" "[I" ∈ wsX2_measure := List.mem_of_getElem? (i := 1) (by decide +kernel)
theorem kX2_measure_2 : Cond.fieldLink RX2 21 "IslandHeap$Heap" "words" "I" ∈ wsX2_measure := List.mem_of_getElem? (i := 2) (by decide +kernel)
theorem kX2_measure_3 : Cond.fieldLink RX2 27 "IslandHeap$Heap" "owner" "[I" ∈ wsX2_measure := List.mem_of_getElem? (i := 3) (by decide +kernel)
theorem uX2_measure_X2 : ∀ w ∈ u_ws RX2 TX2 1, w ∈ wsX2_measure := by decide +kernel
theorem uX2_measure_X1 : ∀ w ∈ u_ws RX1 TX1 15, w ∈ wsX2_measure := by decide +kernel
set_option maxHeartbeats 4000000 in
set_option maxRecDepth 100000 in
theorem mX2_measure (D : va_G) (cI cZ cH : ClassId) (a_o : Nat) (a_numbers : Nat) (a_h : Nat) (a_owner : Nat) (a_fieldCount : Nat) (a_dataCount : Nat) (a_pinned : Nat) (a_age : Nat) (a_content : Nat) (a_roots : Nat) (a_weaks : Nat) (a_movedTo : Nat) (a_reports : Nat) (numbers : Nat → Int32) (words : Int32) (depth : Int32) (allocated : Int32) (collections : Int32) (freed : Int32) (owner : Nat → Int32) (w_numbers : Nat → Int32) (hF : FX2_measure numbers words owner = some w_numbers) : g_CM yX2_measure wsX2_measure ({ frames := 2, cells := 0, slots := 0, locals := 62 }) D cI cZ cH [.ref a_o, .ref a_h] [oX2 a_o a_numbers, oI a_numbers cI 5 numbers, oX1 a_h words depth allocated collections freed a_owner a_fieldCount a_dataCount a_pinned a_age a_content a_roots a_weaks a_movedTo a_reports, oI a_owner cI 200 owner] 0 0 (g_Tm (none) [oX2 a_o a_numbers, oI a_numbers cI 5 w_numbers, oX1 a_h words depth allocated collections freed a_owner a_fieldCount a_dataCount a_pinned a_age a_content a_roots a_weaks a_movedTo a_reports, oI a_owner cI 200 owner]) := by
  refine g_met (own := RX2) (mn := "measure") (cc := cX2_measure) (maxL := 4) (ret := none) rfl rfl (by decide +kernel) rfl (Nat.le_of_ble_eq_true rfl) (fun G X RT => ?_)
  show G 0 0 [oX2 a_o a_numbers, oI a_numbers cI 5 numbers, oX1 a_h words depth allocated collections freed a_owner a_fieldCount a_dataCount a_pinned a_age a_content a_roots a_weaks a_movedTo a_reports, oI a_owner cI 200 owner] [(0, .ref a_o), (1, .ref a_h)] 0 []
  unfold FX2_measure at hF
  refine r_aload_n (pc' := 1) X dX2_measure_0 rfl 0 rfl rfl ?_
  refine r_get (pc' := 4) X uX2_measure_X2 0 0 dX2_measure_1 rfl rfl (by decide) kX2_measure_1 rfl rfl ?_
  refine r_iconst (pc' := 5) X (0 : Int32) dX2_measure_4 (by decide) rfl ?_
  obtain ⟨numbers_1, hc2, hF⟩ := g_bd hF
  refine r_callSF (pc' := 8) (ws' := [oX2 a_o a_numbers, oI a_numbers cI 5 numbers_1, oX1 a_h words depth allocated collections freed a_owner a_fieldCount a_dataCount a_pinned a_age a_content a_roots a_weaks a_movedTo a_reports, oI a_owner cI 200 owner]) (st' := []) X (mJ7_fill_53178 D cI cZ cH a_numbers numbers 5 (0 : Int32) numbers_1 hc2) 2 gX2_measure_J7_fill_53178 rfl (by decide +kernel) rfl rfl ⟨Nat.le_of_ble_eq_true rfl, Nat.le_of_ble_eq_true rfl⟩ ⟨Nat.le_of_ble_eq_true rfl, Nat.le_of_ble_eq_true rfl⟩ rfl (Nat.le_of_ble_eq_true rfl) dX2_measure_5 [1] rfl rfl rfl rfl rfl rfl ?_
  refine r_aload_n (pc' := 9) X dX2_measure_8 rfl 0 rfl rfl ?_
  refine r_get (pc' := 12) X uX2_measure_X2 0 0 dX2_measure_9 rfl rfl (by decide) kX2_measure_1 rfl rfl ?_
  refine r_iconst (pc' := 13) X (3 : Int32) dX2_measure_12 (by decide) rfl ?_
  refine r_iconst (pc' := 14) X (-1 : Int32) dX2_measure_13 (by decide) rfl ?_
  refine r_iastK (pc' := 15) (j := 3) (ws' := [oX2 a_o a_numbers, oI a_numbers cI 5 (upd numbers_1 3 (-1 : Int32)), oX1 a_h words depth allocated collections freed a_owner a_fieldCount a_dataCount a_pinned a_age a_content a_roots a_weaks a_movedTo a_reports, oI a_owner cI 200 owner]) X 1 dX2_measure_14 rfl (by decide +kernel) (by decide +kernel) rfl rfl ?_
  refine r_iconst (pc' := 16) X (0 : Int32) dX2_measure_15 (by decide) rfl ?_
  refine r_istore_n (pc' := 17) (lv' := [(0, .ref a_o), (1, .ref a_h), (2, .int (0 : Int32))]) X dX2_measure_16 rfl (by decide) [1, 2, 0] rfl rfl ?_
  refine r_iconst (pc' := 18) X (0 : Int32) dX2_measure_17 (by decide) rfl ?_
  refine r_istore_n (pc' := 19) (lv' := [(0, .ref a_o), (1, .ref a_h), (2, .int (0 : Int32)), (3, .int (0 : Int32))]) X dX2_measure_18 rfl (by decide) [1, 2, 3, 0] rfl rfl ?_
  obtain ⟨ex19, hR, hF⟩ := g_bd hF
  have hE19 : ∀ (v2_6 : Int32) (numbers_7 : Nat → Int32), (v2_6, numbers_7) = ex19 → G 0 0 [oX2 a_o a_numbers, oI a_numbers cI 5 numbers_7, oX1 a_h words depth allocated collections freed a_owner a_fieldCount a_dataCount a_pinned a_age a_content a_roots a_weaks a_movedTo a_reports, oI a_owner cI 200 owner] [(0, .ref a_o), (1, .ref a_h), (2, .int v2_6)] 59 [] := by
    intro v2_6 numbers_7 hx; subst hx
    refine r_aload_n (pc' := 60) X dX2_measure_59 rfl 0 rfl rfl ?_
    refine r_aload_n (pc' := 61) X dX2_measure_60 rfl 1 rfl rfl ?_
    refine r_get (pc' := 64) X uX2_measure_X1 2 0 dX2_measure_61 rfl rfl (by decide) kX2_measure_2 rfl rfl ?_
    refine r_iload_n (pc' := 65) X dX2_measure_64 rfl 2 rfl rfl ?_
    refine r_isub (pc' := 66) X dX2_measure_65 rfl ?_
    refine r_iload_n (pc' := 67) X dX2_measure_66 rfl 2 rfl rfl ?_
    obtain ⟨numbers_8, hc9, hF⟩ := g_bd hF
    refine r_callVF (pc' := 70) (ws' := [oX2 a_o a_numbers, oI a_numbers cI 5 numbers_8, oX1 a_h words depth allocated collections freed a_owner a_fieldCount a_dataCount a_pinned a_age a_content a_roots a_weaks a_movedTo a_reports, oI a_owner cI 200 owner]) (st' := []) X (mX2_include D cI cZ cH a_o a_numbers numbers_7 (words - v2_6) v2_6 numbers_8 hc9) 2 gX2_measure_X2_include rfl (by decide +kernel) rfl rfl ⟨Nat.le_of_ble_eq_true rfl, Nat.le_of_ble_eq_true rfl⟩ ⟨Nat.le_of_ble_eq_true rfl, Nat.le_of_ble_eq_true rfl⟩ rfl (Nat.le_of_ble_eq_true rfl) dX2_measure_67 0 rfl rfl [0, 1] rfl rfl rfl rfl rfl rfl ?_
    cases hF
    exact RT.2.2 0 0 _ _ _ rfl dX2_measure_70 ⟨rfl, rfl⟩ (Nat.le_refl 0) (Nat.le_refl 0)
  have hL19 : ∀ (fu : Nat) (v2_3 : Int32) (v3_4 : Int32) (numbers_5 : Nat → Int32), g_itn (FX2_measure_L19 words owner) fu (v2_3, v3_4, numbers_5) = some ex19 → G 0 0 [oX2 a_o a_numbers, oI a_numbers cI 5 numbers_5, oX1 a_h words depth allocated collections freed a_owner a_fieldCount a_dataCount a_pinned a_age a_content a_roots a_weaks a_movedTo a_reports, oI a_owner cI 200 owner] [(0, .ref a_o), (1, .ref a_h), (2, .int v2_3), (3, .int v3_4)] 19 [] := by
    intro fu
    induction fu with
    | zero => intro v2_3 v3_4 numbers_5 h9; exact (g_it0 h9).elim
    | succ fu ih =>
      intro v2_3 v3_4 numbers_5 h9
      obtain ⟨y19, hF, hI19⟩ := g_its h9
      unfold FX2_measure_L19 at hF
      refine r_iload_n (pc' := 20) X dX2_measure_19 rfl 3 rfl rfl ?_
      refine r_aload_n (pc' := 21) X dX2_measure_20 rfl 1 rfl rfl ?_
      refine r_get (pc' := 24) X uX2_measure_X1 2 0 dX2_measure_21 rfl rfl (by decide) kX2_measure_2 rfl rfl ?_
      refine r_icmp_ge (pc' := 27) X 59 dX2_measure_24 (by decide) rfl (fun c9 => ?_) (fun c9 => ?_)
      · replace hF := g_t c9 hF
        cases hF
        refine r_sub (lv' := [(0, .ref a_o), (1, .ref a_h), (2, .int v2_3)]) X [0, 1, 2] rfl ?_
        exact hE19 v2_3 numbers_5 hI19
      · replace hF := g_f c9 hF
        refine r_aload_n (pc' := 28) X dX2_measure_27 rfl 1 rfl rfl ?_
        refine r_get (pc' := 31) X uX2_measure_X1 2 5 dX2_measure_28 rfl rfl (by decide) kX2_measure_3 rfl rfl ?_
        refine r_iload_n (pc' := 32) X dX2_measure_31 rfl 3 rfl rfl ?_
        obtain ⟨hi10, hF⟩ := g_gt hF
        refine r_iald (pc' := 33) X 3 dX2_measure_32 rfl (g_vi hi10) rfl ?_
        refine r_iconst (pc' := 34) X (-1 : Int32) dX2_measure_33 (by decide) rfl ?_
        obtain ⟨exJ13, hR, hF⟩ := g_bd hF
        have hJ13 : ∀ (v2_11 : Int32) (numbers_12 : Nat → Int32), (v2_11, numbers_12) = exJ13 → G 0 0 [oX2 a_o a_numbers, oI a_numbers cI 5 numbers_12, oX1 a_h words depth allocated collections freed a_owner a_fieldCount a_dataCount a_pinned a_age a_content a_roots a_weaks a_movedTo a_reports, oI a_owner cI 200 owner] [(0, .ref a_o), (1, .ref a_h), (2, .int v2_11), (3, .int v3_4)] 53 [] := by
          intro v2_11 numbers_12 hx; subst hx
          refine r_iinc (pc' := 56) (lv' := [(0, .ref a_o), (1, .ref a_h), (2, .int v2_11), (3, .int (v3_4 + (1 : Int32)))]) X (v3_4 + (1 : Int32)) dX2_measure_53 3 rfl (congrArg (fun z => v3_4 + z) (by decide)) (by decide) [1, 2, 3, 0] rfl rfl ?_
          refine r_goto X 19 dX2_measure_56 (by decide) ?_
          cases hF
          exact ih v2_11 (v3_4 + (1 : Int32)) numbers_12 hI19
        replace hF := hR
        refine r_icmp_ne (pc' := 37) X 43 dX2_measure_34 (by decide) rfl (fun c9 => ?_) (fun c9 => ?_)
        · replace hF := g_f c9 hF
          refine r_aload_n (pc' := 44) X dX2_measure_43 rfl 0 rfl rfl ?_
          refine r_iload_n (pc' := 45) X dX2_measure_44 rfl 3 rfl rfl ?_
          refine r_iload_n (pc' := 46) X dX2_measure_45 rfl 2 rfl rfl ?_
          refine r_isub (pc' := 47) X dX2_measure_46 rfl ?_
          refine r_iload_n (pc' := 48) X dX2_measure_47 rfl 2 rfl rfl ?_
          obtain ⟨numbers_14, hc15, hF⟩ := g_bd hF
          refine r_callVF (pc' := 51) (ws' := [oX2 a_o a_numbers, oI a_numbers cI 5 numbers_14, oX1 a_h words depth allocated collections freed a_owner a_fieldCount a_dataCount a_pinned a_age a_content a_roots a_weaks a_movedTo a_reports, oI a_owner cI 200 owner]) (st' := []) X (mX2_include D cI cZ cH a_o a_numbers numbers_5 (v3_4 - v2_3) v2_3 numbers_14 hc15) 2 gX2_measure_X2_include rfl (by decide +kernel) rfl rfl ⟨Nat.le_of_ble_eq_true rfl, Nat.le_of_ble_eq_true rfl⟩ ⟨Nat.le_of_ble_eq_true rfl, Nat.le_of_ble_eq_true rfl⟩ rfl (Nat.le_of_ble_eq_true rfl) dX2_measure_48 0 rfl rfl [0, 1] rfl rfl rfl rfl rfl rfl ?_
          refine r_iconst (pc' := 52) X (0 : Int32) dX2_measure_51 (by decide) rfl ?_
          refine r_istore_n (pc' := 53) (lv' := [(0, .ref a_o), (1, .ref a_h), (2, .int (0 : Int32)), (3, .int v3_4)]) X dX2_measure_52 rfl (by decide) [1, 2, 0, 3] rfl rfl ?_
          exact hJ13 (0 : Int32) numbers_14 (Option.some.inj hF)
        · replace hF := g_t c9 hF
          refine r_iinc (pc' := 40) (lv' := [(0, .ref a_o), (1, .ref a_h), (2, .int (v2_3 + (1 : Int32))), (3, .int v3_4)]) X (v2_3 + (1 : Int32)) dX2_measure_37 2 rfl (congrArg (fun z => v2_3 + z) (by decide)) (by decide) [1, 2, 0, 3] rfl rfl ?_
          refine r_goto X 53 dX2_measure_40 (by decide) ?_
          exact hJ13 (v2_3 + (1 : Int32)) numbers_5 (Option.some.inj hF)
  exact hL19 g_fuel (0 : Int32) (0 : Int32) (upd numbers_1 3 (-1 : Int32)) hR
