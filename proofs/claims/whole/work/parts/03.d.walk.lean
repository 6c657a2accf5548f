theorem kX6_reset_1 : Cond.constant RX6 63 (-1000002) ∈ wsX6_reset := List.mem_of_getElem? (i := 1) (by decide +kernel)
theorem kX6_reset_2 : Cond.fieldLink RX6 12 "IslandHeap" "heap" "LIslandHeap$Heap;" ∈ wsX6_reset := List.mem_of_getElem? (i := 2) (by decide +kernel)
theorem uX6_reset_X6 : ∀ w ∈ u_ws RX6 TX6 8, w ∈ wsX6_reset := by decide +kernel
set_option maxHeartbeats 4000000 in
set_option maxRecDepth 100000 in
theorem mX6_reset (D : va_G) (cI cZ cH : ClassId) (a_x : Nat) (a_h : Nat) (a_owner : Nat) (a_roots : Nat) (a_weaks : Nat) (a_saved_ : Nat) (a_c : Nat) (a_r : Nat) (a_f : Nat) (a_o : Nat) (a_s : Nat) (a_fieldCount : Nat) (a_dataCount : Nat) (a_pinned : Nat) (a_age : Nat) (a_content : Nat) (a_movedTo : Nat) (a_reports : Nat) (latestRefusal : Int32) (words : Int32) (depth : Int32) (allocated : Int32) (collections : Int32) (freed : Int32) (owner : Nat → Int32) (roots : Nat → Int32) (weaks : Nat → Int32) (p1 : Int32) (p2 : Int32) (r0 : Int32) (w_words : Int32) (w_depth : Int32) (w_allocated : Int32) (w_collections : Int32) (w_freed : Int32) (w_owner : Nat → Int32) (w_roots : Nat → Int32) (w_weaks : Nat → Int32) (hF : FX6_reset words depth allocated collections freed owner roots weaks p1 p2 = some (r0, w_words, w_depth, w_allocated, w_collections, w_freed, w_owner, w_roots, w_weaks)) : g_CM yX6_reset wsX6_reset ({ frames := 2, cells := 0, slots := 0, locals := 45 }) D cI cZ cH [.ref a_x, .int p1, .int p2] [oX6 a_x a_h a_saved_ a_c a_r a_f a_o a_s latestRefusal, oX1 a_h words depth allocated collections freed a_owner a_fieldCount a_dataCount a_pinned a_age a_content a_roots a_weaks a_movedTo a_reports, oI a_owner cI 200 owner, oI a_roots cI 6 roots, oI a_weaks cI 4 weaks] 0 0 (g_Tm (some (.int r0)) [oX6 a_x a_h a_saved_ a_c a_r a_f a_o a_s latestRefusal, oX1 a_h w_words w_depth w_allocated w_collections w_freed a_owner a_fieldCount a_dataCount a_pinned a_age a_content a_roots a_weaks a_movedTo a_reports, oI a_owner cI 200 w_owner, oI a_roots cI 6 w_roots, oI a_weaks cI 4 w_weaks]) := by
  refine g_met (own := RX6) (mn := "reset") (cc := cX6_reset) (maxL := 3) (ret := (some .int)) rfl rfl (by decide +kernel) rfl (Nat.le_of_ble_eq_true rfl) (fun G X RT => ?_)
  show G 0 0 [oX6 a_x a_h a_saved_ a_c a_r a_f a_o a_s latestRefusal, oX1 a_h words depth allocated collections freed a_owner a_fieldCount a_dataCount a_pinned a_age a_content a_roots a_weaks a_movedTo a_reports, oI a_owner cI 200 owner, oI a_roots cI 6 roots, oI a_weaks cI 4 weaks] [(0, .ref a_x), (1, .int p1), (2, .int p2)] 0 []
  unfold FX6_reset at hF
  refine r_iload_n (pc' := 1) X dX6_reset_0 rfl 1 rfl rfl ?_
  refine r_bipush (pc' := 3) X (8 : Int32) dX6_reset_1 (by decide) rfl ?_
  refine r_icmp_lt (pc' := 6) X 24 dX6_reset_3 (by decide) rfl (fun c9 => ?_) (fun c9 => ?_)
  · replace hF := g_t c9 hF
    refine r_ldc (pc' := 26) X dX6_reset_24 kX6_reset_1 rfl ?_
    cases hF
    exact RT.1 0 0 _ _ _ _ .int rfl rfl dX6_reset_26 ⟨rfl, rfl⟩ (Nat.le_refl 0) (Nat.le_refl 0)
  · replace hF := g_f c9 hF
    refine r_iload_n (pc' := 7) X dX6_reset_6 rfl 1 rfl rfl ?_
    refine r_sipush (pc' := 10) X (200 : Int32) dX6_reset_7 (by decide) rfl ?_
    refine r_icmp_gt (pc' := 13) X 24 dX6_reset_10 (by decide) rfl (fun c9 => ?_) (fun c9 => ?_)
    · replace hF := g_t c9 hF
      refine r_ldc (pc' := 26) X dX6_reset_24 kX6_reset_1 rfl ?_
      cases hF
      exact RT.1 0 0 _ _ _ _ .int rfl rfl dX6_reset_26 ⟨rfl, rfl⟩ (Nat.le_refl 0) (Nat.le_refl 0)
    · replace hF := g_f c9 hF
      refine r_iload_n (pc' := 14) X dX6_reset_13 rfl 2 rfl rfl ?_
      refine r_iconst (pc' := 15) X (1 : Int32) dX6_reset_14 (by decide) rfl ?_
      refine r_icmp_lt (pc' := 18) X 24 dX6_reset_15 (by decide) rfl (fun c9 => ?_) (fun c9 => ?_)
      · replace hF := g_t c9 hF
        refine r_ldc (pc' := 26) X dX6_reset_24 kX6_reset_1 rfl ?_
        cases hF
        exact RT.1 0 0 _ _ _ _ .int rfl rfl dX6_reset_26 ⟨rfl, rfl⟩ (Nat.le_refl 0) (Nat.le_refl 0)
      · replace hF := g_f c9 hF
        refine r_iload_n (pc' := 19) X dX6_reset_18 rfl 2 rfl rfl ?_
        refine r_bipush (pc' := 21) X (20 : Int32) dX6_reset_19 (by decide) rfl ?_
        refine r_icmp_le (pc' := 24) X 27 dX6_reset_21 (by decide) rfl (fun c9 => ?_) (fun c9 => ?_)
        · replace hF := g_t c9 hF
          refine r_aload_n (pc' := 28) X dX6_reset_27 rfl 0 rfl rfl ?_
          refine r_get (pc' := 31) X uX6_reset_X6 0 0 dX6_reset_28 rfl rfl (by decide) kX6_reset_2 rfl rfl ?_
          refine r_iload_n (pc' := 32) X dX6_reset_31 rfl 1 rfl rfl ?_
          refine r_iload_n (pc' := 33) X dX6_reset_32 rfl 2 rfl rfl ?_
          obtain ⟨⟨words_1, depth_2, allocated_3, collections_4, freed_5, owner_6, roots_7, weaks_8⟩, hc9, hF⟩ := g_bd hF
          refine r_callVF (pc' := 36) (ws' := [oX6 a_x a_h a_saved_ a_c a_r a_f a_o a_s latestRefusal, oX1 a_h words_1 depth_2 allocated_3 collections_4 freed_5 a_owner a_fieldCount a_dataCount a_pinned a_age a_content a_roots a_weaks a_movedTo a_reports, oI a_owner cI 200 owner_6, oI a_roots cI 6 roots_7, oI a_weaks cI 4 weaks_8]) (st' := []) X (mX1_empty D cI cZ cH a_h a_owner a_roots a_weaks a_fieldCount a_dataCount a_pinned a_age a_content a_movedTo a_reports words depth allocated collections freed owner roots weaks p1 p2 words_1 depth_2 allocated_3 collections_4 freed_5 owner_6 roots_7 weaks_8 hc9) 2 gX6_reset_X1_empty rfl (by decide +kernel) rfl rfl ⟨Nat.le_of_ble_eq_true rfl, Nat.le_of_ble_eq_true rfl⟩ ⟨Nat.le_of_ble_eq_true rfl, Nat.le_of_ble_eq_true rfl⟩ rfl (Nat.le_of_ble_eq_true rfl) dX6_reset_33 1 rfl rfl [1, 2, 3, 4] rfl rfl rfl rfl rfl rfl ?_
          refine r_iload_n (pc' := 37) X dX6_reset_36 rfl 1 rfl rfl ?_
          cases hF
          exact RT.1 0 0 _ _ _ _ .int rfl rfl dX6_reset_37 ⟨rfl, rfl⟩ (Nat.le_refl 0) (Nat.le_refl 0)
        · replace hF := g_f c9 hF
          refine r_ldc (pc' := 26) X dX6_reset_24 kX6_reset_1 rfl ?_
          cases hF
          exact RT.1 0 0 _ _ _ _ .int rfl rfl dX6_reset_26 ⟨rfl, rfl⟩ (Nat.le_refl 0) (Nat.le_refl 0)
theorem kX6_alloc_1 : Cond.constant RX6 63 (-1000002) ∈ wsX6_alloc := List.mem_of_getElem? (i := 1) (by decide +kernel)
theorem kX6_alloc_2 : Cond.fieldLink RX6 12 "IslandHeap" "heap" "LIslandHeap$Heap;" ∈ wsX6_alloc := List.mem_of_getElem? (i := 2) (by decide +kernel)
theorem kX6_alloc_3 : Cond.constant RX6 68 (-1000004) ∈ wsX6_alloc := List.mem_of_getElem? (i := 3) (by decide +kernel)
theorem uX6_alloc_X6 : ∀ w ∈ u_ws RX6 TX6 8, w ∈ wsX6_alloc := by decide +kernel
set_option maxHeartbeats 4000000 in
set_option maxRecDepth 100000 in
theorem mX6_alloc (D : va_G) (cI cZ cH : ClassId) (a_x : Nat) (a_h : Nat) (a_owner : Nat) (a_fieldCount : Nat) (a_dataCount : Nat) (a_pinned : Nat) (a_age : Nat) (a_content : Nat) (a_saved_ : Nat) (a_c : Nat) (a_r : Nat) (a_f : Nat) (a_o : Nat) (a_s : Nat) (a_roots : Nat) (a_weaks : Nat) (a_movedTo : Nat) (a_reports : Nat) (latestRefusal : Int32) (words : Int32) (depth : Int32) (allocated : Int32) (collections : Int32) (freed : Int32) (owner : Nat → Int32) (fieldCount : Nat → Int32) (dataCount : Nat → Int32) (pinned : Nat → Int32) (age : Nat → Int32) (content : Nat → Int32) (p1 : Int32) (p2 : Int32) (r0 : Int32) (w_allocated : Int32) (w_owner : Nat → Int32) (w_fieldCount : Nat → Int32) (w_dataCount : Nat → Int32) (w_pinned : Nat → Int32) (w_age : Nat → Int32) (w_content : Nat → Int32) (hF : FX6_alloc words allocated owner fieldCount dataCount pinned age content p1 p2 = some (r0, w_allocated, w_owner, w_fieldCount, w_dataCount, w_pinned, w_age, w_content)) : g_CM yX6_alloc wsX6_alloc ({ frames := 4, cells := 0, slots := 0, locals := 91 }) D cI cZ cH [.ref a_x, .int p1, .int p2] [oX6 a_x a_h a_saved_ a_c a_r a_f a_o a_s latestRefusal, oX1 a_h words depth allocated collections freed a_owner a_fieldCount a_dataCount a_pinned a_age a_content a_roots a_weaks a_movedTo a_reports, oI a_owner cI 200 owner, oI a_fieldCount cI 200 fieldCount, oI a_dataCount cI 200 dataCount, oI a_pinned cI 200 pinned, oI a_age cI 200 age, oI a_content cI 200 content] 0 0 (g_Tm (some (.int r0)) [oX6 a_x a_h a_saved_ a_c a_r a_f a_o a_s latestRefusal, oX1 a_h words depth w_allocated collections freed a_owner a_fieldCount a_dataCount a_pinned a_age a_content a_roots a_weaks a_movedTo a_reports, oI a_owner cI 200 w_owner, oI a_fieldCount cI 200 w_fieldCount, oI a_dataCount cI 200 w_dataCount, oI a_pinned cI 200 w_pinned, oI a_age cI 200 w_age, oI a_content cI 200 w_content]) := by
  refine g_met (own := RX6) (mn := "alloc") (cc := cX6_alloc) (maxL := 4) (ret := (some .int)) rfl rfl (by decide +kernel) rfl (Nat.le_of_ble_eq_true rfl) (fun G X RT => ?_)
  show G 0 0 [oX6 a_x a_h a_saved_ a_c a_r a_f a_o a_s latestRefusal, oX1 a_h words depth allocated collections freed a_owner a_fieldCount a_dataCount a_pinned a_age a_content a_roots a_weaks a_movedTo a_reports, oI a_owner cI 200 owner, oI a_fieldCount cI 200 fieldCount, oI a_dataCount cI 200 dataCount, oI a_pinned cI 200 pinned, oI a_age cI 200 age, oI a_content cI 200 content] [(0, .ref a_x), (1, .int p1), (2, .int p2)] 0 []
  unfold FX6_alloc at hF
  refine r_iload_n (pc' := 1) X dX6_alloc_0 rfl 1 rfl rfl ?_
  refine r_if_lt (pc' := 4) X 20 dX6_alloc_1 (by decide) rfl (fun c9 => ?_) (fun c9 => ?_)
  · replace hF := g_t c9 hF
    refine r_ldc (pc' := 22) X dX6_alloc_20 kX6_alloc_1 rfl ?_
    cases hF
    exact RT.1 0 0 _ _ _ _ .int rfl rfl dX6_alloc_22 ⟨rfl, rfl⟩ (Nat.le_refl 0) (Nat.le_refl 0)
  · replace hF := g_f c9 hF
    refine r_iload_n (pc' := 5) X dX6_alloc_4 rfl 1 rfl rfl ?_
    refine r_bipush (pc' := 7) X (6 : Int32) dX6_alloc_5 (by decide) rfl ?_
    refine r_icmp_gt (pc' := 10) X 20 dX6_alloc_7 (by decide) rfl (fun c9 => ?_) (fun c9 => ?_)
    · replace hF := g_t c9 hF
      refine r_ldc (pc' := 22) X dX6_alloc_20 kX6_alloc_1 rfl ?_
      cases hF
      exact RT.1 0 0 _ _ _ _ .int rfl rfl dX6_alloc_22 ⟨rfl, rfl⟩ (Nat.le_refl 0) (Nat.le_refl 0)
    · replace hF := g_f c9 hF
      refine r_iload_n (pc' := 11) X dX6_alloc_10 rfl 2 rfl rfl ?_
      refine r_if_lt (pc' := 14) X 20 dX6_alloc_11 (by decide) rfl (fun c9 => ?_) (fun c9 => ?_)
      · replace hF := g_t c9 hF
        refine r_ldc (pc' := 22) X dX6_alloc_20 kX6_alloc_1 rfl ?_
        cases hF
        exact RT.1 0 0 _ _ _ _ .int rfl rfl dX6_alloc_22 ⟨rfl, rfl⟩ (Nat.le_refl 0) (Nat.le_refl 0)
      · replace hF := g_f c9 hF
        refine r_iload_n (pc' := 15) X dX6_alloc_14 rfl 2 rfl rfl ?_
        refine r_bipush (pc' := 17) X (6 : Int32) dX6_alloc_15 (by decide) rfl ?_
        refine r_icmp_le (pc' := 20) X 23 dX6_alloc_17 (by decide) rfl (fun c9 => ?_) (fun c9 => ?_)
        · replace hF := g_t c9 hF
          refine r_aload_n (pc' := 24) X dX6_alloc_23 rfl 0 rfl rfl ?_
          refine r_get (pc' := 27) X uX6_alloc_X6 0 0 dX6_alloc_24 rfl rfl (by decide) kX6_alloc_2 rfl rfl ?_
          refine r_iconst (pc' := 28) X (1 : Int32) dX6_alloc_27 (by decide) rfl ?_
          refine r_iload_n (pc' := 29) X dX6_alloc_28 rfl 1 rfl rfl ?_
          refine r_iadd (pc' := 30) X dX6_alloc_29 rfl ?_
          refine r_iload_n (pc' := 31) X dX6_alloc_30 rfl 2 rfl rfl ?_
          refine r_iadd (pc' := 32) X dX6_alloc_31 rfl ?_
          obtain ⟨r1, hc2, hF⟩ := g_bd hF
          refine r_callVF (pc' := 35) (ws' := [oX6 a_x a_h a_saved_ a_c a_r a_f a_o a_s latestRefusal, oX1 a_h words depth allocated collections freed a_owner a_fieldCount a_dataCount a_pinned a_age a_content a_roots a_weaks a_movedTo a_reports, oI a_owner cI 200 owner, oI a_fieldCount cI 200 fieldCount, oI a_dataCount cI 200 dataCount, oI a_pinned cI 200 pinned, oI a_age cI 200 age, oI a_content cI 200 content]) (st' := [.int r1]) X (mX1_roomFor D cI cZ cH a_h a_owner a_fieldCount a_dataCount a_pinned a_age a_content a_roots a_weaks a_movedTo a_reports words depth allocated collections freed owner (((1 : Int32) + p1) + p2) r1 hc2) 1 gX6_alloc_X1_roomFor rfl (by decide +kernel) rfl rfl ⟨Nat.le_of_ble_eq_true rfl, Nat.le_of_ble_eq_true rfl⟩ ⟨Nat.le_of_ble_eq_true rfl, Nat.le_of_ble_eq_true rfl⟩ rfl (Nat.le_of_ble_eq_true rfl) dX6_alloc_32 1 rfl rfl [1, 2] rfl rfl rfl rfl rfl rfl ?_
          refine r_istore_n (pc' := 36) (lv' := [(0, .ref a_x), (1, .int p1), (2, .int p2), (3, .int r1)]) X dX6_alloc_35 rfl (by decide) [1, 2, 3, 0] rfl rfl ?_
          refine r_iload_n (pc' := 37) X dX6_alloc_36 rfl 3 rfl rfl ?_
          refine r_iconst (pc' := 38) X (-1 : Int32) dX6_alloc_37 (by decide) rfl ?_
          refine r_icmp_ne (pc' := 41) X 44 dX6_alloc_38 (by decide) rfl (fun c9 => ?_) (fun c9 => ?_)
          · replace hF := g_f c9 hF
            refine r_aload_n (pc' := 45) X dX6_alloc_44 rfl 0 rfl rfl ?_
            refine r_get (pc' := 48) X uX6_alloc_X6 0 0 dX6_alloc_45 rfl rfl (by decide) kX6_alloc_2 rfl rfl ?_
            refine r_iload_n (pc' := 49) X dX6_alloc_48 rfl 3 rfl rfl ?_
            refine r_iload_n (pc' := 50) X dX6_alloc_49 rfl 1 rfl rfl ?_
            refine r_iload_n (pc' := 51) X dX6_alloc_50 rfl 2 rfl rfl ?_
            obtain ⟨⟨allocated_3, owner_4, fieldCount_5, dataCount_6, pinned_7, age_8, content_9⟩, hc10, hF⟩ := g_bd hF
            refine r_callVF (pc' := 54) (ws' := [oX6 a_x a_h a_saved_ a_c a_r a_f a_o a_s latestRefusal, oX1 a_h words depth allocated_3 collections freed a_owner a_fieldCount a_dataCount a_pinned a_age a_content a_roots a_weaks a_movedTo a_reports, oI a_owner cI 200 owner_4, oI a_fieldCount cI 200 fieldCount_5, oI a_dataCount cI 200 dataCount_6, oI a_pinned cI 200 pinned_7, oI a_age cI 200 age_8, oI a_content cI 200 content_9]) (st' := []) X (mX1_place D cI cZ cH a_h a_owner a_fieldCount a_dataCount a_pinned a_age a_content a_roots a_weaks a_movedTo a_reports words depth allocated collections freed owner fieldCount dataCount pinned age content r1 p1 p2 allocated_3 owner_4 fieldCount_5 dataCount_6 pinned_7 age_8 content_9 hc10) 3 gX6_alloc_X1_place rfl (by decide +kernel) rfl rfl ⟨Nat.le_of_ble_eq_true rfl, Nat.le_of_ble_eq_true rfl⟩ ⟨Nat.le_of_ble_eq_true rfl, Nat.le_of_ble_eq_true rfl⟩ rfl (Nat.le_of_ble_eq_true rfl) dX6_alloc_51 1 rfl rfl [1, 2, 3, 4, 5, 6, 7] rfl rfl rfl rfl rfl rfl ?_
            refine r_iload_n (pc' := 55) X dX6_alloc_54 rfl 3 rfl rfl ?_
            cases hF
            exact RT.1 0 0 _ _ _ _ .int rfl rfl dX6_alloc_55 ⟨rfl, rfl⟩ (Nat.le_refl 0) (Nat.le_refl 0)
          · replace hF := g_t c9 hF
            refine r_ldc (pc' := 43) X dX6_alloc_41 kX6_alloc_3 rfl ?_
            cases hF
            exact RT.1 0 0 _ _ _ _ .int rfl rfl dX6_alloc_43 ⟨rfl, rfl⟩ (Nat.le_refl 0) (Nat.le_refl 0)
        · replace hF := g_f c9 hF
          refine r_ldc (pc' := 22) X dX6_alloc_20 kX6_alloc_1 rfl ?_
          cases hF
          exact RT.1 0 0 _ _ _ _ .int rfl rfl dX6_alloc_22 ⟨rfl, rfl⟩ (Nat.le_refl 0) (Nat.le_refl 0)
theorem kX6_property_8 : Cond.fieldLink RX6 34 "IslandHeap" "reach" "LIslandHeap$Reach;" ∈ wsX6_property := List.mem_of_getElem? (i := 8) (by decide +kernel)
theorem kX6_property_9 : Cond.fieldLink RX6 162 "IslandHeap$Reach" "steps" "[I" ∈ wsX6_property := List.mem_of_getElem? (i := 9) (by decide +kernel)
theorem kX6_property_1 : Cond.fieldLink RX6 12 "IslandHeap" "heap" "LIslandHeap$Heap;" ∈ wsX6_property := List.mem_of_getElem? (i := 1) (by decide +kernel)
theorem kX6_property_2 : Cond.fieldLink RX6 229 "IslandHeap$Heap" "fieldCount" "[I" ∈ wsX6_property := List.mem_of_getElem? (i := 2) (by decide +kernel)
theorem kX6_property_3 : Cond.fieldLink RX6 232 "IslandHeap$Heap" "dataCount" "[I" ∈ wsX6_property := List.mem_of_getElem? (i := 3) (by decide +kernel)
theorem kX6_property_4 : Cond.fieldLink RX6 114 "IslandHeap$Heap" "pinned" "[I" ∈ wsX6_property := List.mem_of_getElem? (i := 4) (by decide +kernel)
theorem kX6_property_5 : Cond.fieldLink RX6 235 "IslandHeap$Heap" "age" "[I" ∈ wsX6_property := List.mem_of_getElem? (i := 5) (by decide +kernel)
theorem kX6_property_6 : Cond.fieldLink RX6 41 "IslandHeap" "referrers" "LIslandHeap$Referrers;" ∈ wsX6_property := List.mem_of_getElem? (i := 6) (by decide +kernel)
theorem kX6_property_7 : Cond.fieldLink RX6 238 "IslandHeap$Referrers" "tallies" "[I" ∈ wsX6_property := List.mem_of_getElem? (i := 7) (by decide +kernel)
theorem uX6_property_X6 : ∀ w ∈ u_ws RX6 TX6 8, w ∈ wsX6_property := by decide +kernel
theorem uX6_property_X3 : ∀ w ∈ u_ws RX3 TX3 3, w ∈ wsX6_property := by decide +kernel
theorem uX6_property_X1 : ∀ w ∈ u_ws RX1 TX1 15, w ∈ wsX6_property := by decide +kernel
theorem uX6_property_X4 : ∀ w ∈ u_ws RX4 TX4 1, w ∈ wsX6_property := by decide +kernel
set_option maxHeartbeats 4000000 in
set_option maxRecDepth 100000 in
theorem mX6_property (D : va_G) (cI cZ cH : ClassId) (a_x : Nat) (a_h : Nat) (a_fieldCount : Nat) (a_dataCount : Nat) (a_pinned : Nat) (a_age : Nat) (a_r : Nat) (a_steps : Nat) (a_f : Nat) (a_tallies : Nat) (a_saved_ : Nat) (a_c : Nat) (a_o : Nat) (a_s : Nat) (a_owner : Nat) (a_content : Nat) (a_roots : Nat) (a_weaks : Nat) (a_movedTo : Nat) (a_reports : Nat) (a_queue : Nat) (latestRefusal : Int32) (words : Int32) (depth : Int32) (allocated : Int32) (collections : Int32) (freed : Int32) (fieldCount : Nat → Int32) (dataCount : Nat → Int32) (pinned : Nat → Int32) (age : Nat → Int32) (queued : Int32) (steps : Nat → Int32) (tallies : Nat → Int32) (p1 : Int32) (p2 : Int32) (r0 : Int32) (hF : FX6_property fieldCount dataCount pinned age steps tallies p1 p2 = some r0) : g_CM yX6_property wsX6_property ({ frames := 1, cells := 0, slots := 0, locals := 21 }) D cI cZ cH [.ref a_x, .int p1, .int p2] [oX6 a_x a_h a_saved_ a_c a_r a_f a_o a_s latestRefusal, oX1 a_h words depth allocated collections freed a_owner a_fieldCount a_dataCount a_pinned a_age a_content a_roots a_weaks a_movedTo a_reports, oI a_fieldCount cI 200 fieldCount, oI a_dataCount cI 200 dataCount, oI a_pinned cI 200 pinned, oI a_age cI 200 age, oX3 a_r a_steps a_queue queued, oI a_steps cI 200 steps, oX4 a_f a_tallies, oI a_tallies cI 200 tallies] 0 0 (g_Tm (some (.int r0)) [oX6 a_x a_h a_saved_ a_c a_r a_f a_o a_s latestRefusal, oX1 a_h words depth allocated collections freed a_owner a_fieldCount a_dataCount a_pinned a_age a_content a_roots a_weaks a_movedTo a_reports, oI a_fieldCount cI 200 fieldCount, oI a_dataCount cI 200 dataCount, oI a_pinned cI 200 pinned, oI a_age cI 200 age, oX3 a_r a_steps a_queue queued, oI a_steps cI 200 steps, oX4 a_f a_tallies, oI a_tallies cI 200 tallies]) := by
  refine g_met (own := RX6) (mn := "property") (cc := cX6_property) (maxL := 3) (ret := (some .int)) rfl rfl (by decide +kernel) rfl (Nat.le_of_ble_eq_true rfl) (fun G X RT => ?_)
  show G 0 0 [oX6 a_x a_h a_saved_ a_c a_r a_f a_o a_s latestRefusal, oX1 a_h words depth allocated collections freed a_owner a_fieldCount a_dataCount a_pinned a_age a_content a_roots a_weaks a_movedTo a_reports, oI a_fieldCount cI 200 fieldCount, oI a_dataCount cI 200 dataCount, oI a_pinned cI 200 pinned, oI a_age cI 200 age, oX3 a_r a_steps a_queue queued, oI a_steps cI 200 steps, oX4 a_f a_tallies, oI a_tallies cI 200 tallies] [(0, .ref a_x), (1, .int p1), (2, .int p2)] 0 []
  unfold FX6_property at hF
  refine r_iload_n (pc' := 1) X dX6_property_0 rfl 2 rfl rfl ?_
  by_cases e0 : p2 = (0 : Int32)
  · replace hF := g_t e0 hF
    refine r_tsIn (off := 43) X 44 dX6_property_1 e0 (by decide +kernel) (by decide +kernel) (by decide +kernel) (by decide +kernel) ?_
    refine r_iload_n (pc' := 45) X dX6_property_44 rfl 1 rfl rfl ?_
    cases hF
    exact RT.1 0 0 _ _ _ _ .int rfl rfl dX6_property_45 ⟨rfl, rfl⟩ (Nat.le_refl 0) (Nat.le_refl 0)
  replace hF := g_f e0 hF
  by_cases e1 : p2 = (1 : Int32)
  · replace hF := g_t e1 hF
    refine r_tsIn (off := 45) X 46 dX6_property_1 e1 (by decide +kernel) (by decide +kernel) (by decide +kernel) (by decide +kernel) ?_
    refine r_aload_n (pc' := 47) X dX6_property_46 rfl 0 rfl rfl ?_
    refine r_get (pc' := 50) X uX6_property_X6 0 0 dX6_property_47 rfl rfl (by decide) kX6_property_1 rfl rfl ?_
    refine r_iload_n (pc' := 51) X dX6_property_50 rfl 1 rfl rfl ?_
    obtain ⟨r2, hc3, hF⟩ := g_bd hF
    refine r_callVF (pc' := 54) (ws' := [oX6 a_x a_h a_saved_ a_c a_r a_f a_o a_s latestRefusal, oX1 a_h words depth allocated collections freed a_owner a_fieldCount a_dataCount a_pinned a_age a_content a_roots a_weaks a_movedTo a_reports, oI a_fieldCount cI 200 fieldCount, oI a_dataCount cI 200 dataCount, oI a_pinned cI 200 pinned, oI a_age cI 200 age, oX3 a_r a_steps a_queue queued, oI a_steps cI 200 steps, oX4 a_f a_tallies, oI a_tallies cI 200 tallies]) (st' := [.int r2]) X (mX1_sizeOf D cI cZ cH a_h a_fieldCount a_dataCount a_owner a_pinned a_age a_content a_roots a_weaks a_movedTo a_reports words depth allocated collections freed fieldCount dataCount p1 r2 hc3) 1 gX6_property_X1_sizeOf rfl (by decide +kernel) rfl rfl ⟨Nat.le_of_ble_eq_true rfl, Nat.le_of_ble_eq_true rfl⟩ ⟨Nat.le_of_ble_eq_true rfl, Nat.le_of_ble_eq_true rfl⟩ rfl (Nat.le_of_ble_eq_true rfl) dX6_property_51 1 rfl rfl [1, 2, 3] rfl rfl rfl rfl rfl rfl ?_
    cases hF
    exact RT.1 0 0 _ _ _ _ .int rfl rfl dX6_property_54 ⟨rfl, rfl⟩ (Nat.le_refl 0) (Nat.le_refl 0)
  replace hF := g_f e1 hF
  by_cases e2 : p2 = (2 : Int32)
  · replace hF := g_t e2 hF
    refine r_tsIn (off := 54) X 55 dX6_property_1 e2 (by decide +kernel) (by decide +kernel) (by decide +kernel) (by decide +kernel) ?_
    refine r_aload_n (pc' := 56) X dX6_property_55 rfl 0 rfl rfl ?_
    refine r_get (pc' := 59) X uX6_property_X6 0 0 dX6_property_56 rfl rfl (by decide) kX6_property_1 rfl rfl ?_
    refine r_get (pc' := 62) X uX6_property_X1 1 6 dX6_property_59 rfl rfl (by decide) kX6_property_2 rfl rfl ?_
    refine r_iload_n (pc' := 63) X dX6_property_62 rfl 1 rfl rfl ?_
    obtain ⟨hi4, hF⟩ := g_gt hF
    refine r_iald (pc' := 64) X 2 dX6_property_63 rfl (g_vi hi4) rfl ?_
    cases hF
    exact RT.1 0 0 _ _ _ _ .int rfl rfl dX6_property_64 ⟨rfl, rfl⟩ (Nat.le_refl 0) (Nat.le_refl 0)
  replace hF := g_f e2 hF
  by_cases e3 : p2 = (3 : Int32)
  · replace hF := g_t e3 hF
    refine r_tsIn (off := 64) X 65 dX6_property_1 e3 (by decide +kernel) (by decide +kernel) (by decide +kernel) (by decide +kernel) ?_
    refine r_aload_n (pc' := 66) X dX6_property_65 rfl 0 rfl rfl ?_
    refine r_get (pc' := 69) X uX6_property_X6 0 0 dX6_property_66 rfl rfl (by decide) kX6_property_1 rfl rfl ?_
    refine r_get (pc' := 72) X uX6_property_X1 1 7 dX6_property_69 rfl rfl (by decide) kX6_property_3 rfl rfl ?_
    refine r_iload_n (pc' := 73) X dX6_property_72 rfl 1 rfl rfl ?_
    obtain ⟨hi5, hF⟩ := g_gt hF
    refine r_iald (pc' := 74) X 3 dX6_property_73 rfl (g_vi hi5) rfl ?_
    cases hF
    exact RT.1 0 0 _ _ _ _ .int rfl rfl dX6_property_74 ⟨rfl, rfl⟩ (Nat.le_refl 0) (Nat.le_refl 0)
  replace hF := g_f e3 hF
  by_cases e4 : p2 = (4 : Int32)
  · replace hF := g_t e4 hF
    refine r_tsIn (off := 74) X 75 dX6_property_1 e4 (by decide +kernel) (by decide +kernel) (by decide +kernel) (by decide +kernel) ?_
    refine r_aload_n (pc' := 76) X dX6_property_75 rfl 0 rfl rfl ?_
    refine r_get (pc' := 79) X uX6_property_X6 0 0 dX6_property_76 rfl rfl (by decide) kX6_property_1 rfl rfl ?_
    refine r_get (pc' := 82) X uX6_property_X1 1 8 dX6_property_79 rfl rfl (by decide) kX6_property_4 rfl rfl ?_
    refine r_iload_n (pc' := 83) X dX6_property_82 rfl 1 rfl rfl ?_
    obtain ⟨hi6, hF⟩ := g_gt hF
    refine r_iald (pc' := 84) X 4 dX6_property_83 rfl (g_vi hi6) rfl ?_
    cases hF
    exact RT.1 0 0 _ _ _ _ .int rfl rfl dX6_property_84 ⟨rfl, rfl⟩ (Nat.le_refl 0) (Nat.le_refl 0)
  replace hF := g_f e4 hF
  by_cases e5 : p2 = (5 : Int32)
  · replace hF := g_t e5 hF
    refine r_tsIn (off := 84) X 85 dX6_property_1 e5 (by decide +kernel) (by decide +kernel) (by decide +kernel) (by decide +kernel) ?_
    refine r_aload_n (pc' := 86) X dX6_property_85 rfl 0 rfl rfl ?_
    refine r_get (pc' := 89) X uX6_property_X6 0 0 dX6_property_86 rfl rfl (by decide) kX6_property_1 rfl rfl ?_
    refine r_get (pc' := 92) X uX6_property_X1 1 9 dX6_property_89 rfl rfl (by decide) kX6_property_5 rfl rfl ?_
    refine r_iload_n (pc' := 93) X dX6_property_92 rfl 1 rfl rfl ?_
    obtain ⟨hi7, hF⟩ := g_gt hF
    refine r_iald (pc' := 94) X 5 dX6_property_93 rfl (g_vi hi7) rfl ?_
    cases hF
    exact RT.1 0 0 _ _ _ _ .int rfl rfl dX6_property_94 ⟨rfl, rfl⟩ (Nat.le_refl 0) (Nat.le_refl 0)
  replace hF := g_f e5 hF
  by_cases e6 : p2 = (6 : Int32)
  · replace hF := g_t e6 hF
    refine r_tsIn (off := 94) X 95 dX6_property_1 e6 (by decide +kernel) (by decide +kernel) (by decide +kernel) (by decide +kernel) ?_
    refine r_aload_n (pc' := 96) X dX6_property_95 rfl 0 rfl rfl ?_
    refine r_get (pc' := 99) X uX6_property_X6 0 4 dX6_property_96 rfl rfl (by decide) kX6_property_6 rfl rfl ?_
    refine r_get (pc' := 102) X uX6_property_X4 8 0 dX6_property_99 rfl rfl (by decide) kX6_property_7 rfl rfl ?_
    refine r_iload_n (pc' := 103) X dX6_property_102 rfl 1 rfl rfl ?_
    obtain ⟨hi8, hF⟩ := g_gt hF
    refine r_iald (pc' := 104) X 9 dX6_property_103 rfl (g_vi hi8) rfl ?_
    cases hF
    exact RT.1 0 0 _ _ _ _ .int rfl rfl dX6_property_104 ⟨rfl, rfl⟩ (Nat.le_refl 0) (Nat.le_refl 0)
  replace hF := g_f e6 hF
  have hdf : ∀ hh : True, G 0 0 [oX6 a_x a_h a_saved_ a_c a_r a_f a_o a_s latestRefusal, oX1 a_h words depth allocated collections freed a_owner a_fieldCount a_dataCount a_pinned a_age a_content a_roots a_weaks a_movedTo a_reports, oI a_fieldCount cI 200 fieldCount, oI a_dataCount cI 200 dataCount, oI a_pinned cI 200 pinned, oI a_age cI 200 age, oX3 a_r a_steps a_queue queued, oI a_steps cI 200 steps, oX4 a_f a_tallies, oI a_tallies cI 200 tallies] [(0, .ref a_x), (1, .int p1), (2, .int p2)] 105 [] := by
    intro _
    refine r_aload_n (pc' := 106) X dX6_property_105 rfl 0 rfl rfl ?_
    refine r_get (pc' := 109) X uX6_property_X6 0 3 dX6_property_106 rfl rfl (by decide) kX6_property_8 rfl rfl ?_
    refine r_get (pc' := 112) X uX6_property_X3 6 0 dX6_property_109 rfl rfl (by decide) kX6_property_9 rfl rfl ?_
    refine r_iload_n (pc' := 113) X dX6_property_112 rfl 1 rfl rfl ?_
    obtain ⟨hi1, hF⟩ := g_gt hF
    refine r_iald (pc' := 114) X 7 dX6_property_113 rfl (g_vi hi1) rfl ?_
    refine r_iconst (pc' := 115) X (-1 : Int32) dX6_property_114 (by decide) rfl ?_
    refine r_icmp_ne (pc' := 118) X 122 dX6_property_115 (by decide) rfl (fun c9 => ?_) (fun c9 => ?_)
    · replace hF := g_f c9 hF
      refine r_iconst (pc' := 123) X (1 : Int32) dX6_property_122 (by decide) rfl ?_
      cases hF
      exact RT.1 0 0 _ _ _ _ .int rfl rfl dX6_property_123 ⟨rfl, rfl⟩ (Nat.le_refl 0) (Nat.le_refl 0)
    · replace hF := g_t c9 hF
      refine r_iconst (pc' := 119) X (0 : Int32) dX6_property_118 (by decide) rfl ?_
      refine r_goto X 123 dX6_property_119 (by decide) ?_
      cases hF
      exact RT.1 0 0 _ _ _ _ .int rfl rfl dX6_property_123 ⟨rfl, rfl⟩ (Nat.le_refl 0) (Nat.le_refl 0)
  rcases g_ts (lo := 0) (hi := 6) p2 with h9 | h9
  · exact r_tsOut X 105 dX6_property_1 h9 (by decide +kernel) (hdf trivial)
  · obtain ⟨h8, h9⟩ := h9
    rcases g_sw0_6 p2 h8 h9 with h9 | h9 | h9 | h9 | h9 | h9 | h9
    · exact absurd h9 e0
    · exact absurd h9 e1
    · exact absurd h9 e2
    · exact absurd h9 e3
    · exact absurd h9 e4
    · exact absurd h9 e5
    · exact absurd h9 e6
theorem kX6_object_1 : Cond.fieldLink RX6 12 "IslandHeap" "heap" "LIslandHeap$Heap;" ∈ wsX6_object := List.mem_of_getElem? (i := 1) (by decide +kernel)
theorem kX6_object_2 : Cond.constant RX6 63 (-1000002) ∈ wsX6_object := List.mem_of_getElem? (i := 2) (by decide +kernel)
theorem kX6_object_4 : Cond.fieldLink RX6 34 "IslandHeap" "reach" "LIslandHeap$Reach;" ∈ wsX6_object := List.mem_of_getElem? (i := 4) (by decide +kernel)
theorem kX6_object_3 : Cond.fieldLink RX6 41 "IslandHeap" "referrers" "LIslandHeap$Referrers;" ∈ wsX6_object := List.mem_of_getElem? (i := 3) (by decide +kernel)
theorem uX6_object_X6 : ∀ w ∈ u_ws RX6 TX6 8, w ∈ wsX6_object := by decide +kernel
set_option maxHeartbeats 4000000 in
set_option maxRecDepth 100000 in
theorem mX6_object (D : va_G) (cI cZ cH : ClassId) (a_x : Nat) (a_h : Nat) (a_owner : Nat) (a_fieldCount : Nat) (a_dataCount : Nat) (a_pinned : Nat) (a_age : Nat) (a_content : Nat) (a_roots : Nat) (a_weaks : Nat) (a_r : Nat) (a_steps : Nat) (a_queue : Nat) (a_f : Nat) (a_tallies : Nat) (a_saved_ : Nat) (a_c : Nat) (a_o : Nat) (a_s : Nat) (a_movedTo : Nat) (a_reports : Nat) (latestRefusal : Int32) (words : Int32) (depth : Int32) (allocated : Int32) (collections : Int32) (freed : Int32) (owner : Nat → Int32) (fieldCount : Nat → Int32) (dataCount : Nat → Int32) (pinned : Nat → Int32) (age : Nat → Int32) (content : Nat → Int32) (roots : Nat → Int32) (weaks : Nat → Int32) (queued : Int32) (steps : Nat → Int32) (queue : Nat → Int32) (tallies : Nat → Int32) (p1 : Int32) (p2 : Int32) (r0 : Int32) (w_queued : Int32) (w_steps : Nat → Int32) (w_queue : Nat → Int32) (w_tallies : Nat → Int32) (hF : FX6_object words owner fieldCount dataCount pinned age content roots weaks queued steps queue tallies p1 p2 = some (r0, w_queued, w_steps, w_queue, w_tallies)) : g_CM yX6_object wsX6_object ({ frames := 4, cells := 0, slots := 0, locals := 90 }) D cI cZ cH [.ref a_x, .int p1, .int p2] [oX6 a_x a_h a_saved_ a_c a_r a_f a_o a_s latestRefusal, oX1 a_h words depth allocated collections freed a_owner a_fieldCount a_dataCount a_pinned a_age a_content a_roots a_weaks a_movedTo a_reports, oI a_owner cI 200 owner, oI a_fieldCount cI 200 fieldCount, oI a_dataCount cI 200 dataCount, oI a_pinned cI 200 pinned, oI a_age cI 200 age, oI a_content cI 200 content, oI a_roots cI 6 roots, oI a_weaks cI 4 weaks, oX3 a_r a_steps a_queue queued, oI a_steps cI 200 steps, oI a_queue cI 200 queue, oX4 a_f a_tallies, oI a_tallies cI 200 tallies] 0 0 (g_Tm (some (.int r0)) [oX6 a_x a_h a_saved_ a_c a_r a_f a_o a_s latestRefusal, oX1 a_h words depth allocated collections freed a_owner a_fieldCount a_dataCount a_pinned a_age a_content a_roots a_weaks a_movedTo a_reports, oI a_owner cI 200 owner, oI a_fieldCount cI 200 fieldCount, oI a_dataCount cI 200 dataCount, oI a_pinned cI 200 pinned, oI a_age cI 200 age, oI a_content cI 200 content, oI a_roots cI 6 roots, oI a_weaks cI 4 weaks, oX3 a_r a_steps a_queue w_queued, oI a_steps cI 200 w_steps, oI a_queue cI 200 w_queue, oX4 a_f a_tallies, oI a_tallies cI 200 w_tallies]) := by
  refine g_met (own := RX6) (mn := "object") (cc := cX6_object) (maxL := 4) (ret := (some .int)) rfl rfl (by decide +kernel) rfl (Nat.le_of_ble_eq_true rfl) (fun G X RT => ?_)
  show G 0 0 [oX6 a_x a_h a_saved_ a_c a_r a_f a_o a_s latestRefusal, oX1 a_h words depth allocated collections freed a_owner a_fieldCount a_dataCount a_pinned a_age a_content a_roots a_weaks a_movedTo a_reports, oI a_owner cI 200 owner, oI a_fieldCount cI 200 fieldCount, oI a_dataCount cI 200 dataCount, oI a_pinned cI 200 pinned, oI a_age cI 200 age, oI a_content cI 200 content, oI a_roots cI 6 roots, oI a_weaks cI 4 weaks, oX3 a_r a_steps a_queue queued, oI a_steps cI 200 steps, oI a_queue cI 200 queue, oX4 a_f a_tallies, oI a_tallies cI 200 tallies] [(0, .ref a_x), (1, .int p1), (2, .int p2)] 0 []
  unfold FX6_object at hF
  refine r_aload_n (pc' := 1) X dX6_object_0 rfl 0 rfl rfl ?_
  refine r_get (pc' := 4) X uX6_object_X6 0 0 dX6_object_1 rfl rfl (by decide) kX6_object_1 rfl rfl ?_
  refine r_iload_n (pc' := 5) X dX6_object_4 rfl 1 rfl rfl ?_
  obtain ⟨r1, hc2, hF⟩ := g_bd hF
  refine r_callVF (pc' := 8) (ws' := [oX6 a_x a_h a_saved_ a_c a_r a_f a_o a_s latestRefusal, oX1 a_h words depth allocated collections freed a_owner a_fieldCount a_dataCount a_pinned a_age a_content a_roots a_weaks a_movedTo a_reports, oI a_owner cI 200 owner, oI a_fieldCount cI 200 fieldCount, oI a_dataCount cI 200 dataCount, oI a_pinned cI 200 pinned, oI a_age cI 200 age, oI a_content cI 200 content, oI a_roots cI 6 roots, oI a_weaks cI 4 weaks, oX3 a_r a_steps a_queue queued, oI a_steps cI 200 steps, oI a_queue cI 200 queue, oX4 a_f a_tallies, oI a_tallies cI 200 tallies]) (st' := [.int r1]) X (mX1_objectAt D cI cZ cH a_h a_owner a_fieldCount a_dataCount a_pinned a_age a_content a_roots a_weaks a_movedTo a_reports words depth allocated collections freed owner p1 r1 hc2) 1 gX6_object_X1_objectAt rfl (by decide +kernel) rfl rfl ⟨Nat.le_of_ble_eq_true rfl, Nat.le_of_ble_eq_true rfl⟩ ⟨Nat.le_of_ble_eq_true rfl, Nat.le_of_ble_eq_true rfl⟩ rfl (Nat.le_of_ble_eq_true rfl) dX6_object_5 1 rfl rfl [1, 2] rfl rfl rfl rfl rfl rfl ?_
  refine r_istore_n (pc' := 9) (lv' := [(0, .ref a_x), (1, .int p1), (2, .int p2), (3, .int r1)]) X dX6_object_8 rfl (by decide) [1, 2, 3, 0] rfl rfl ?_
  refine r_iload_n (pc' := 10) X dX6_object_9 rfl 3 rfl rfl ?_
  refine r_iconst (pc' := 11) X (-1 : Int32) dX6_object_10 (by decide) rfl ?_
  refine r_icmp_eq (pc' := 14) X 24 dX6_object_11 (by decide) rfl (fun c9 => ?_) (fun c9 => ?_)
  · replace hF := g_t c9 hF
    refine r_ldc (pc' := 26) X dX6_object_24 kX6_object_2 rfl ?_
    cases hF
    exact RT.1 0 0 _ _ _ _ .int rfl rfl dX6_object_26 ⟨rfl, rfl⟩ (Nat.le_refl 0) (Nat.le_refl 0)
  · replace hF := g_f c9 hF
    refine r_iload_n (pc' := 15) X dX6_object_14 rfl 2 rfl rfl ?_
    refine r_if_lt (pc' := 18) X 24 dX6_object_15 (by decide) rfl (fun c9 => ?_) (fun c9 => ?_)
    · replace hF := g_t c9 hF
      refine r_ldc (pc' := 26) X dX6_object_24 kX6_object_2 rfl ?_
      cases hF
      exact RT.1 0 0 _ _ _ _ .int rfl rfl dX6_object_26 ⟨rfl, rfl⟩ (Nat.le_refl 0) (Nat.le_refl 0)
    · replace hF := g_f c9 hF
      refine r_iload_n (pc' := 19) X dX6_object_18 rfl 2 rfl rfl ?_
      refine r_bipush (pc' := 21) X (8 : Int32) dX6_object_19 (by decide) rfl ?_
      refine r_icmp_lt (pc' := 24) X 27 dX6_object_21 (by decide) rfl (fun c9 => ?_) (fun c9 => ?_)
      · replace hF := g_t c9 hF
        refine r_iload_n (pc' := 28) X dX6_object_27 rfl 2 rfl rfl ?_
        refine r_bipush (pc' := 30) X (6 : Int32) dX6_object_28 (by decide) rfl ?_
        obtain ⟨exJ4, hR, hF⟩ := g_bd hF
        have hJ4 : ∀ (tallies_3 : Nat → Int32), tallies_3 = exJ4 → G 0 0 [oX6 a_x a_h a_saved_ a_c a_r a_f a_o a_s latestRefusal, oX1 a_h words depth allocated collections freed a_owner a_fieldCount a_dataCount a_pinned a_age a_content a_roots a_weaks a_movedTo a_reports, oI a_owner cI 200 owner, oI a_fieldCount cI 200 fieldCount, oI a_dataCount cI 200 dataCount, oI a_pinned cI 200 pinned, oI a_age cI 200 age, oI a_content cI 200 content, oI a_roots cI 6 roots, oI a_weaks cI 4 weaks, oX3 a_r a_steps a_queue queued, oI a_steps cI 200 steps, oI a_queue cI 200 queue, oX4 a_f a_tallies, oI a_tallies cI 200 tallies_3] [(0, .ref a_x), (2, .int p2), (3, .int r1)] 44 [] := by
          intro tallies_3 hx; subst hx
          refine r_iload_n (pc' := 45) X dX6_object_44 rfl 1 rfl rfl ?_
          refine r_bipush (pc' := 47) X (7 : Int32) dX6_object_45 (by decide) rfl ?_
          obtain ⟨exJ8, hR, hF⟩ := g_bd hF
          have hJ8 : ∀ (queued_5 : Int32) (steps_6 : Nat → Int32) (queue_7 : Nat → Int32), (queued_5, steps_6, queue_7) = exJ8 → G 0 0 [oX6 a_x a_h a_saved_ a_c a_r a_f a_o a_s latestRefusal, oX1 a_h words depth allocated collections freed a_owner a_fieldCount a_dataCount a_pinned a_age a_content a_roots a_weaks a_movedTo a_reports, oI a_owner cI 200 owner, oI a_fieldCount cI 200 fieldCount, oI a_dataCount cI 200 dataCount, oI a_pinned cI 200 pinned, oI a_age cI 200 age, oI a_content cI 200 content, oI a_roots cI 6 roots, oI a_weaks cI 4 weaks, oX3 a_r a_steps a_queue queued_5, oI a_steps cI 200 steps_6, oI a_queue cI 200 queue_7, oX4 a_f a_tallies, oI a_tallies cI 200 tallies_3] [(0, .ref a_x), (2, .int p2), (3, .int r1)] 62 [] := by
            intro queued_5 steps_6 queue_7 hx; subst hx
            refine r_aload_n (pc' := 63) X dX6_object_62 rfl 0 rfl rfl ?_
            refine r_iload_n (pc' := 64) X dX6_object_63 rfl 2 rfl rfl ?_
            refine r_iload_n (pc' := 65) X dX6_object_64 rfl 1 rfl rfl ?_
            obtain ⟨r9, hc10, hF⟩ := g_bd hF
            refine r_callVF (pc' := 68) (ws' := [oX6 a_x a_h a_saved_ a_c a_r a_f a_o a_s latestRefusal, oX1 a_h words depth allocated collections freed a_owner a_fieldCount a_dataCount a_pinned a_age a_content a_roots a_weaks a_movedTo a_reports, oI a_owner cI 200 owner, oI a_fieldCount cI 200 fieldCount, oI a_dataCount cI 200 dataCount, oI a_pinned cI 200 pinned, oI a_age cI 200 age, oI a_content cI 200 content, oI a_roots cI 6 roots, oI a_weaks cI 4 weaks, oX3 a_r a_steps a_queue queued_5, oI a_steps cI 200 steps_6, oI a_queue cI 200 queue_7, oX4 a_f a_tallies, oI a_tallies cI 200 tallies_3]) (st' := [.int r9]) X (mX6_property D cI cZ cH a_x a_h a_fieldCount a_dataCount a_pinned a_age a_r a_steps a_f a_tallies a_saved_ a_c a_o a_s a_owner a_content a_roots a_weaks a_movedTo a_reports a_queue latestRefusal words depth allocated collections freed fieldCount dataCount pinned age queued_5 steps_6 tallies_3 r1 p2 r9 hc10) 2 gX6_object_X6_property rfl (by decide +kernel) rfl rfl ⟨Nat.le_of_ble_eq_true rfl, Nat.le_of_ble_eq_true rfl⟩ ⟨Nat.le_of_ble_eq_true rfl, Nat.le_of_ble_eq_true rfl⟩ rfl (Nat.le_of_ble_eq_true rfl) dX6_object_65 0 rfl rfl [0, 1, 3, 4, 5, 6, 10, 11, 13, 14] rfl rfl rfl rfl rfl rfl ?_
            cases hF
            exact RT.1 0 0 _ _ _ _ .int rfl rfl dX6_object_68 ⟨rfl, rfl⟩ (Nat.le_refl 0) (Nat.le_refl 0)
          replace hF := hR
          refine r_icmp_ne (pc' := 50) X 62 dX6_object_47 (by decide) rfl (fun c9 => ?_) (fun c9 => ?_)
          · replace hF := g_f c9 hF
            exact hJ8 queued steps queue (Option.some.inj hF)
          · replace hF := g_t c9 hF
            refine r_aload_n (pc' := 51) X dX6_object_50 rfl 0 rfl rfl ?_
            refine r_get (pc' := 54) X uX6_object_X6 0 3 dX6_object_51 rfl rfl (by decide) kX6_object_4 rfl rfl ?_
            refine r_aload_n (pc' := 55) X dX6_object_54 rfl 0 rfl rfl ?_
            refine r_get (pc' := 58) X uX6_object_X6 0 0 dX6_object_55 rfl rfl (by decide) kX6_object_1 rfl rfl ?_
            refine r_iconst (pc' := 59) X (-1 : Int32) dX6_object_58 (by decide) rfl ?_
            obtain ⟨⟨queued_11, steps_12, queue_13⟩, hc14, hF⟩ := g_bd hF
            refine r_callVF (pc' := 62) (ws' := [oX6 a_x a_h a_saved_ a_c a_r a_f a_o a_s latestRefusal, oX1 a_h words depth allocated collections freed a_owner a_fieldCount a_dataCount a_pinned a_age a_content a_roots a_weaks a_movedTo a_reports, oI a_owner cI 200 owner, oI a_fieldCount cI 200 fieldCount, oI a_dataCount cI 200 dataCount, oI a_pinned cI 200 pinned, oI a_age cI 200 age, oI a_content cI 200 content, oI a_roots cI 6 roots, oI a_weaks cI 4 weaks, oX3 a_r a_steps a_queue queued_11, oI a_steps cI 200 steps_12, oI a_queue cI 200 queue_13, oX4 a_f a_tallies, oI a_tallies cI 200 tallies_3]) (st' := []) X (mX3_trace D cI cZ cH a_r a_steps a_queue a_h a_owner a_fieldCount a_pinned a_content a_roots a_dataCount a_age a_weaks a_movedTo a_reports queued steps queue words depth allocated collections freed owner fieldCount pinned content roots (-1 : Int32) queued_11 steps_12 queue_13 hc14) 2 gX6_object_X3_trace rfl (by decide +kernel) rfl rfl ⟨Nat.le_of_ble_eq_true rfl, Nat.le_of_ble_eq_true rfl⟩ ⟨Nat.le_of_ble_eq_true rfl, Nat.le_of_ble_eq_true rfl⟩ rfl (Nat.le_of_ble_eq_true rfl) dX6_object_59 10 rfl rfl [10, 11, 12, 1, 2, 3, 5, 7, 8] rfl rfl rfl rfl rfl rfl ?_
            exact hJ8 queued_11 steps_12 queue_13 (Option.some.inj hF)
        replace hF := hR
        refine r_icmp_ne (pc' := 33) X 44 dX6_object_30 (by decide) rfl (fun c9 => ?_) (fun c9 => ?_)
        · replace hF := g_f c9 hF
          refine r_sub (lv' := [(0, .ref a_x), (2, .int p2), (3, .int r1)]) X [0, 2, 3] rfl ?_
          exact hJ4 tallies (Option.some.inj hF)
        · replace hF := g_t c9 hF
          refine r_aload_n (pc' := 34) X dX6_object_33 rfl 0 rfl rfl ?_
          refine r_get (pc' := 37) X uX6_object_X6 0 4 dX6_object_34 rfl rfl (by decide) kX6_object_3 rfl rfl ?_
          refine r_aload_n (pc' := 38) X dX6_object_37 rfl 0 rfl rfl ?_
          refine r_get (pc' := 41) X uX6_object_X6 0 0 dX6_object_38 rfl rfl (by decide) kX6_object_1 rfl rfl ?_
          obtain ⟨tallies_15, hc16, hF⟩ := g_bd hF
          refine r_callVF (pc' := 44) (ws' := [oX6 a_x a_h a_saved_ a_c a_r a_f a_o a_s latestRefusal, oX1 a_h words depth allocated collections freed a_owner a_fieldCount a_dataCount a_pinned a_age a_content a_roots a_weaks a_movedTo a_reports, oI a_owner cI 200 owner, oI a_fieldCount cI 200 fieldCount, oI a_dataCount cI 200 dataCount, oI a_pinned cI 200 pinned, oI a_age cI 200 age, oI a_content cI 200 content, oI a_roots cI 6 roots, oI a_weaks cI 4 weaks, oX3 a_r a_steps a_queue queued, oI a_steps cI 200 steps, oI a_queue cI 200 queue, oX4 a_f a_tallies, oI a_tallies cI 200 tallies_15]) (st' := []) X (mX4_tally D cI cZ cH a_f a_tallies a_h a_owner a_fieldCount a_content a_roots a_weaks a_dataCount a_pinned a_age a_movedTo a_reports tallies words depth allocated collections freed owner fieldCount content roots weaks tallies_15 hc16) 1 gX6_object_X4_tally rfl (by decide +kernel) rfl rfl ⟨Nat.le_of_ble_eq_true rfl, Nat.le_of_ble_eq_true rfl⟩ ⟨Nat.le_of_ble_eq_true rfl, Nat.le_of_ble_eq_true rfl⟩ rfl (Nat.le_of_ble_eq_true rfl) dX6_object_41 13 rfl rfl [13, 14, 1, 2, 3, 7, 8, 9] rfl rfl rfl rfl rfl rfl ?_
          refine r_sub (lv' := [(0, .ref a_x), (2, .int p2), (3, .int r1)]) X [0, 2, 3] rfl ?_
          exact hJ4 tallies_15 (Option.some.inj hF)
      · replace hF := g_f c9 hF
        refine r_ldc (pc' := 26) X dX6_object_24 kX6_object_2 rfl ?_
        cases hF
        exact RT.1 0 0 _ _ _ _ .int rfl rfl dX6_object_26 ⟨rfl, rfl⟩ (Nat.le_refl 0) (Nat.le_refl 0)
theorem kX6_next_1 : Cond.fieldLink RX6 12 "IslandHeap" "heap" "LIslandHeap$Heap;" ∈ wsX6_next := List.mem_of_getElem? (i := 1) (by decide +kernel)
theorem kX6_next_2 : Cond.constant RX6 63 (-1000002) ∈ wsX6_next := List.mem_of_getElem? (i := 2) (by decide +kernel)
theorem uX6_next_X6 : ∀ w ∈ u_ws RX6 TX6 8, w ∈ wsX6_next := by decide +kernel
set_option maxHeartbeats 4000000 in
set_option maxRecDepth 100000 in
theorem mX6_next (D : va_G) (cI cZ cH : ClassId) (a_x : Nat) (a_h : Nat) (a_owner : Nat) (a_fieldCount : Nat) (a_dataCount : Nat) (a_saved_ : Nat) (a_c : Nat) (a_r : Nat) (a_f : Nat) (a_o : Nat) (a_s : Nat) (a_pinned : Nat) (a_age : Nat) (a_content : Nat) (a_roots : Nat) (a_weaks : Nat) (a_movedTo : Nat) (a_reports : Nat) (latestRefusal : Int32) (words : Int32) (depth : Int32) (allocated : Int32) (collections : Int32) (freed : Int32) (owner : Nat → Int32) (fieldCount : Nat → Int32) (dataCount : Nat → Int32) (p1 : Int32) (r0 : Int32) (hF : FX6_next words owner fieldCount dataCount p1 = some r0) : g_CM yX6_next wsX6_next ({ frames := 3, cells := 0, slots := 0, locals := 64 }) D cI cZ cH [.ref a_x, .int p1] [oX6 a_x a_h a_saved_ a_c a_r a_f a_o a_s latestRefusal, oX1 a_h words depth allocated collections freed a_owner a_fieldCount a_dataCount a_pinned a_age a_content a_roots a_weaks a_movedTo a_reports, oI a_owner cI 200 owner, oI a_fieldCount cI 200 fieldCount, oI a_dataCount cI 200 dataCount] 0 0 (g_Tm (some (.int r0)) [oX6 a_x a_h a_saved_ a_c a_r a_f a_o a_s latestRefusal, oX1 a_h words depth allocated collections freed a_owner a_fieldCount a_dataCount a_pinned a_age a_content a_roots a_weaks a_movedTo a_reports, oI a_owner cI 200 owner, oI a_fieldCount cI 200 fieldCount, oI a_dataCount cI 200 dataCount]) := by
  refine g_met (own := RX6) (mn := "next") (cc := cX6_next) (maxL := 3) (ret := (some .int)) rfl rfl (by decide +kernel) rfl (Nat.le_of_ble_eq_true rfl) (fun G X RT => ?_)
  show G 0 0 [oX6 a_x a_h a_saved_ a_c a_r a_f a_o a_s latestRefusal, oX1 a_h words depth allocated collections freed a_owner a_fieldCount a_dataCount a_pinned a_age a_content a_roots a_weaks a_movedTo a_reports, oI a_owner cI 200 owner, oI a_fieldCount cI 200 fieldCount, oI a_dataCount cI 200 dataCount] [(0, .ref a_x), (1, .int p1)] 0 []
  unfold FX6_next at hF
  refine r_iload_n (pc' := 1) X dX6_next_0 rfl 1 rfl rfl ?_
  refine r_iconst (pc' := 2) X (-1 : Int32) dX6_next_1 (by decide) rfl ?_
  refine r_icmp_ne (pc' := 5) X 14 dX6_next_2 (by decide) rfl (fun c9 => ?_) (fun c9 => ?_)
  · replace hF := g_f c9 hF
    refine r_aload_n (pc' := 15) X dX6_next_14 rfl 0 rfl rfl ?_
    refine r_get (pc' := 18) X uX6_next_X6 0 0 dX6_next_15 rfl rfl (by decide) kX6_next_1 rfl rfl ?_
    refine r_iload_n (pc' := 19) X dX6_next_18 rfl 1 rfl rfl ?_
    obtain ⟨r1, hc2, hF⟩ := g_bd hF
    refine r_callVF (pc' := 22) (ws' := [oX6 a_x a_h a_saved_ a_c a_r a_f a_o a_s latestRefusal, oX1 a_h words depth allocated collections freed a_owner a_fieldCount a_dataCount a_pinned a_age a_content a_roots a_weaks a_movedTo a_reports, oI a_owner cI 200 owner, oI a_fieldCount cI 200 fieldCount, oI a_dataCount cI 200 dataCount]) (st' := [.int r1]) X (mX1_objectAt D cI cZ cH a_h a_owner a_fieldCount a_dataCount a_pinned a_age a_content a_roots a_weaks a_movedTo a_reports words depth allocated collections freed owner p1 r1 hc2) 1 gX6_next_X1_objectAt rfl (by decide +kernel) rfl rfl ⟨Nat.le_of_ble_eq_true rfl, Nat.le_of_ble_eq_true rfl⟩ ⟨Nat.le_of_ble_eq_true rfl, Nat.le_of_ble_eq_true rfl⟩ rfl (Nat.le_of_ble_eq_true rfl) dX6_next_19 1 rfl rfl [1, 2] rfl rfl rfl rfl rfl rfl ?_
    refine r_istore_n (pc' := 23) (lv' := [(0, .ref a_x), (1, .int p1), (2, .int r1)]) X dX6_next_22 rfl (by decide) [1, 2, 0] rfl rfl ?_
    refine r_iload_n (pc' := 24) X dX6_next_23 rfl 2 rfl rfl ?_
    refine r_iconst (pc' := 25) X (-1 : Int32) dX6_next_24 (by decide) rfl ?_
    refine r_icmp_ne (pc' := 28) X 31 dX6_next_25 (by decide) rfl (fun c9 => ?_) (fun c9 => ?_)
    · replace hF := g_f c9 hF
      refine r_aload_n (pc' := 32) X dX6_next_31 rfl 0 rfl rfl ?_
      refine r_get (pc' := 35) X uX6_next_X6 0 0 dX6_next_32 rfl rfl (by decide) kX6_next_1 rfl rfl ?_
      refine r_iload_n (pc' := 36) X dX6_next_35 rfl 2 rfl rfl ?_
      refine r_aload_n (pc' := 37) X dX6_next_36 rfl 0 rfl rfl ?_
      refine r_get (pc' := 40) X uX6_next_X6 0 0 dX6_next_37 rfl rfl (by decide) kX6_next_1 rfl rfl ?_
      refine r_iload_n (pc' := 41) X dX6_next_40 rfl 2 rfl rfl ?_
      obtain ⟨r3, hc4, hF⟩ := g_bd hF
      refine r_callVF (pc' := 44) (ws' := [oX6 a_x a_h a_saved_ a_c a_r a_f a_o a_s latestRefusal, oX1 a_h words depth allocated collections freed a_owner a_fieldCount a_dataCount a_pinned a_age a_content a_roots a_weaks a_movedTo a_reports, oI a_owner cI 200 owner, oI a_fieldCount cI 200 fieldCount, oI a_dataCount cI 200 dataCount]) (st' := [.int r3, .int r1, .ref a_h]) X (mX1_sizeOf D cI cZ cH a_h a_fieldCount a_dataCount a_owner a_pinned a_age a_content a_roots a_weaks a_movedTo a_reports words depth allocated collections freed fieldCount dataCount r1 r3 hc4) 1 gX6_next_X1_sizeOf rfl (by decide +kernel) rfl rfl ⟨Nat.le_of_ble_eq_true rfl, Nat.le_of_ble_eq_true rfl⟩ ⟨Nat.le_of_ble_eq_true rfl, Nat.le_of_ble_eq_true rfl⟩ rfl (Nat.le_of_ble_eq_true rfl) dX6_next_41 1 rfl rfl [1, 3, 4] rfl rfl rfl rfl rfl rfl ?_
      refine r_iadd (pc' := 45) X dX6_next_44 rfl ?_
      obtain ⟨r5, hc6, hF⟩ := g_bd hF
      refine r_callVF (pc' := 48) (ws' := [oX6 a_x a_h a_saved_ a_c a_r a_f a_o a_s latestRefusal, oX1 a_h words depth allocated collections freed a_owner a_fieldCount a_dataCount a_pinned a_age a_content a_roots a_weaks a_movedTo a_reports, oI a_owner cI 200 owner, oI a_fieldCount cI 200 fieldCount, oI a_dataCount cI 200 dataCount]) (st' := [.int r5]) X (mX1_objectFrom D cI cZ cH a_h a_owner a_fieldCount a_dataCount a_pinned a_age a_content a_roots a_weaks a_movedTo a_reports words depth allocated collections freed owner (r1 + r3) r5 hc6) 1 gX6_next_X1_objectFrom rfl (by decide +kernel) rfl rfl ⟨Nat.le_of_ble_eq_true rfl, Nat.le_of_ble_eq_true rfl⟩ ⟨Nat.le_of_ble_eq_true rfl, Nat.le_of_ble_eq_true rfl⟩ rfl (Nat.le_of_ble_eq_true rfl) dX6_next_45 1 rfl rfl [1, 2] rfl rfl rfl rfl rfl rfl ?_
      cases hF
      exact RT.1 0 0 _ _ _ _ .int rfl rfl dX6_next_48 ⟨rfl, rfl⟩ (Nat.le_refl 0) (Nat.le_refl 0)
    · replace hF := g_t c9 hF
      refine r_ldc (pc' := 30) X dX6_next_28 kX6_next_2 rfl ?_
      cases hF
      exact RT.1 0 0 _ _ _ _ .int rfl rfl dX6_next_30 ⟨rfl, rfl⟩ (Nat.le_refl 0) (Nat.le_refl 0)
  · replace hF := g_t c9 hF
    refine r_aload_n (pc' := 6) X dX6_next_5 rfl 0 rfl rfl ?_
    refine r_get (pc' := 9) X uX6_next_X6 0 0 dX6_next_6 rfl rfl (by decide) kX6_next_1 rfl rfl ?_
    refine r_iconst (pc' := 10) X (0 : Int32) dX6_next_9 (by decide) rfl ?_
    obtain ⟨r7, hc8, hF⟩ := g_bd hF
    refine r_callVF (pc' := 13) (ws' := [oX6 a_x a_h a_saved_ a_c a_r a_f a_o a_s latestRefusal, oX1 a_h words depth allocated collections freed a_owner a_fieldCount a_dataCount a_pinned a_age a_content a_roots a_weaks a_movedTo a_reports, oI a_owner cI 200 owner, oI a_fieldCount cI 200 fieldCount, oI a_dataCount cI 200 dataCount]) (st' := [.int r7]) X (mX1_objectFrom D cI cZ cH a_h a_owner a_fieldCount a_dataCount a_pinned a_age a_content a_roots a_weaks a_movedTo a_reports words depth allocated collections freed owner (0 : Int32) r7 hc8) 1 gX6_next_X1_objectFrom rfl (by decide +kernel) rfl rfl ⟨Nat.le_of_ble_eq_true rfl, Nat.le_of_ble_eq_true rfl⟩ ⟨Nat.le_of_ble_eq_true rfl, Nat.le_of_ble_eq_true rfl⟩ rfl (Nat.le_of_ble_eq_true rfl) dX6_next_10 1 rfl rfl [1, 2] rfl rfl rfl rfl rfl rfl ?_
    cases hF
    exact RT.1 0 0 _ _ _ _ .int rfl rfl dX6_next_13 ⟨rfl, rfl⟩ (Nat.le_refl 0) (Nat.le_refl 0)
theorem kX6_fieldWord_1 : Cond.fieldLink RX6 12 "IslandHeap" "heap" "LIslandHeap$Heap;" ∈ wsX6_fieldWord := List.mem_of_getElem? (i := 1) (by decide +kernel)
theorem kX6_fieldWord_2 : Cond.fieldLink RX6 229 "IslandHeap$Heap" "fieldCount" "[I" ∈ wsX6_fieldWord := List.mem_of_getElem? (i := 2) (by decide +kernel)
theorem uX6_fieldWord_X6 : ∀ w ∈ u_ws RX6 TX6 8, w ∈ wsX6_fieldWord := by decide +kernel
theorem uX6_fieldWord_X1 : ∀ w ∈ u_ws RX1 TX1 15, w ∈ wsX6_fieldWord := by decide +kernel
set_option maxHeartbeats 4000000 in
set_option maxRecDepth 100000 in
theorem mX6_fieldWord (D : va_G) (cI cZ cH : ClassId) (a_x : Nat) (a_h : Nat) (a_owner : Nat) (a_fieldCount : Nat) (a_saved_ : Nat) (a_c : Nat) (a_r : Nat) (a_f : Nat) (a_o : Nat) (a_s : Nat) (a_dataCount : Nat) (a_pinned : Nat) (a_age : Nat) (a_content : Nat) (a_roots : Nat) (a_weaks : Nat) (a_movedTo : Nat) (a_reports : Nat) (latestRefusal : Int32) (words : Int32) (depth : Int32) (allocated : Int32) (collections : Int32) (freed : Int32) (owner : Nat → Int32) (fieldCount : Nat → Int32) (p1 : Int32) (p2 : Int32) (r0 : Int32) (hF : FX6_fieldWord words owner fieldCount p1 p2 = some r0) : g_CM yX6_fieldWord wsX6_fieldWord ({ frames := 2, cells := 0, slots := 0, locals := 42 }) D cI cZ cH [.ref a_x, .int p1, .int p2] [oX6 a_x a_h a_saved_ a_c a_r a_f a_o a_s latestRefusal, oX1 a_h words depth allocated collections freed a_owner a_fieldCount a_dataCount a_pinned a_age a_content a_roots a_weaks a_movedTo a_reports, oI a_owner cI 200 owner, oI a_fieldCount cI 200 fieldCount] 0 0 (g_Tm (some (.int r0)) [oX6 a_x a_h a_saved_ a_c a_r a_f a_o a_s latestRefusal, oX1 a_h words depth allocated collections freed a_owner a_fieldCount a_dataCount a_pinned a_age a_content a_roots a_weaks a_movedTo a_reports, oI a_owner cI 200 owner, oI a_fieldCount cI 200 fieldCount]) := by
  refine g_met (own := RX6) (mn := "fieldWord") (cc := cX6_fieldWord) (maxL := 4) (ret := (some .int)) rfl rfl (by decide +kernel) rfl (Nat.le_of_ble_eq_true rfl) (fun G X RT => ?_)
  show G 0 0 [oX6 a_x a_h a_saved_ a_c a_r a_f a_o a_s latestRefusal, oX1 a_h words depth allocated collections freed a_owner a_fieldCount a_dataCount a_pinned a_age a_content a_roots a_weaks a_movedTo a_reports, oI a_owner cI 200 owner, oI a_fieldCount cI 200 fieldCount] [(0, .ref a_x), (1, .int p1), (2, .int p2)] 0 []
  unfold FX6_fieldWord at hF
  refine r_aload_n (pc' := 1) X dX6_fieldWord_0 rfl 0 rfl rfl ?_
  refine r_get (pc' := 4) X uX6_fieldWord_X6 0 0 dX6_fieldWord_1 rfl rfl (by decide) kX6_fieldWord_1 rfl rfl ?_
  refine r_iload_n (pc' := 5) X dX6_fieldWord_4 rfl 1 rfl rfl ?_
  obtain ⟨r1, hc2, hF⟩ := g_bd hF
  refine r_callVF (pc' := 8) (ws' := [oX6 a_x a_h a_saved_ a_c a_r a_f a_o a_s latestRefusal, oX1 a_h words depth allocated collections freed a_owner a_fieldCount a_dataCount a_pinned a_age a_content a_roots a_weaks a_movedTo a_reports, oI a_owner cI 200 owner, oI a_fieldCount cI 200 fieldCount]) (st' := [.int r1]) X (mX1_objectAt D cI cZ cH a_h a_owner a_fieldCount a_dataCount a_pinned a_age a_content a_roots a_weaks a_movedTo a_reports words depth allocated collections freed owner p1 r1 hc2) 1 gX6_fieldWord_X1_objectAt rfl (by decide +kernel) rfl rfl ⟨Nat.le_of_ble_eq_true rfl, Nat.le_of_ble_eq_true rfl⟩ ⟨Nat.le_of_ble_eq_true rfl, Nat.le_of_ble_eq_true rfl⟩ rfl (Nat.le_of_ble_eq_true rfl) dX6_fieldWord_5 1 rfl rfl [1, 2] rfl rfl rfl rfl rfl rfl ?_
  refine r_istore_n (pc' := 9) (lv' := [(0, .ref a_x), (1, .int p1), (2, .int p2), (3, .int r1)]) X dX6_fieldWord_8 rfl (by decide) [1, 2, 3, 0] rfl rfl ?_
  refine r_iload_n (pc' := 10) X dX6_fieldWord_9 rfl 3 rfl rfl ?_
  refine r_iconst (pc' := 11) X (-1 : Int32) dX6_fieldWord_10 (by decide) rfl ?_
  refine r_icmp_eq (pc' := 14) X 31 dX6_fieldWord_11 (by decide) rfl (fun c9 => ?_) (fun c9 => ?_)
  · replace hF := g_t c9 hF
    refine r_iconst (pc' := 32) X (-1 : Int32) dX6_fieldWord_31 (by decide) rfl ?_
    cases hF
    exact RT.1 0 0 _ _ _ _ .int rfl rfl dX6_fieldWord_32 ⟨rfl, rfl⟩ (Nat.le_refl 0) (Nat.le_refl 0)
  · replace hF := g_f c9 hF
    refine r_iload_n (pc' := 15) X dX6_fieldWord_14 rfl 2 rfl rfl ?_
    refine r_if_lt (pc' := 18) X 31 dX6_fieldWord_15 (by decide) rfl (fun c9 => ?_) (fun c9 => ?_)
    · replace hF := g_t c9 hF
      refine r_iconst (pc' := 32) X (-1 : Int32) dX6_fieldWord_31 (by decide) rfl ?_
      cases hF
      exact RT.1 0 0 _ _ _ _ .int rfl rfl dX6_fieldWord_32 ⟨rfl, rfl⟩ (Nat.le_refl 0) (Nat.le_refl 0)
    · replace hF := g_f c9 hF
      refine r_iload_n (pc' := 19) X dX6_fieldWord_18 rfl 2 rfl rfl ?_
      refine r_aload_n (pc' := 20) X dX6_fieldWord_19 rfl 0 rfl rfl ?_
      refine r_get (pc' := 23) X uX6_fieldWord_X6 0 0 dX6_fieldWord_20 rfl rfl (by decide) kX6_fieldWord_1 rfl rfl ?_
      refine r_get (pc' := 26) X uX6_fieldWord_X1 1 6 dX6_fieldWord_23 rfl rfl (by decide) kX6_fieldWord_2 rfl rfl ?_
      refine r_iload_n (pc' := 27) X dX6_fieldWord_26 rfl 3 rfl rfl ?_
      obtain ⟨hi3, hF⟩ := g_gt hF
      refine r_iald (pc' := 28) X 3 dX6_fieldWord_27 rfl (g_vi hi3) rfl ?_
      refine r_icmp_lt (pc' := 31) X 33 dX6_fieldWord_28 (by decide) rfl (fun c9 => ?_) (fun c9 => ?_)
      · replace hF := g_t c9 hF
        refine r_iload_n (pc' := 34) X dX6_fieldWord_33 rfl 3 rfl rfl ?_
        refine r_iconst (pc' := 35) X (1 : Int32) dX6_fieldWord_34 (by decide) rfl ?_
        refine r_iadd (pc' := 36) X dX6_fieldWord_35 rfl ?_
        refine r_iload_n (pc' := 37) X dX6_fieldWord_36 rfl 2 rfl rfl ?_
        refine r_iadd (pc' := 38) X dX6_fieldWord_37 rfl ?_
        cases hF
        exact RT.1 0 0 _ _ _ _ .int rfl rfl dX6_fieldWord_38 ⟨rfl, rfl⟩ (Nat.le_refl 0) (Nat.le_refl 0)
      · replace hF := g_f c9 hF
        refine r_iconst (pc' := 32) X (-1 : Int32) dX6_fieldWord_31 (by decide) rfl ?_
        cases hF
        exact RT.1 0 0 _ _ _ _ .int rfl rfl dX6_fieldWord_32 ⟨rfl, rfl⟩ (Nat.le_refl 0) (Nat.le_refl 0)
set_option maxHeartbeats 4000000 in
set_option maxRecDepth 100000 in
theorem mX6_exchange (D : va_G) (cI cZ cH : ClassId) (a_row : Nat) (row : Nat → Int32) (n_row : Nat) (p1 : Int32) (p2 : Int32) (r0 : Int32) (w_row : Nat → Int32) (hF : FX6_exchange row n_row p1 p2 = some (r0, w_row)) : g_CM yX6_exchange wsX6_exchange ({ frames := 0, cells := 0, slots := 0, locals := 0 }) D cI cZ cH [.ref a_row, .int p1, .int p2] [oI a_row cI n_row row] 0 0 (g_Tm (some (.int r0)) [oI a_row cI n_row w_row]) := by
  refine g_met (own := RX6) (mn := "exchange") (cc := cX6_exchange) (maxL := 4) (ret := (some .int)) rfl rfl (by decide +kernel) rfl (Nat.le_of_ble_eq_true rfl) (fun G X RT => ?_)
  show G 0 0 [oI a_row cI n_row row] [(0, .ref a_row), (1, .int p1), (2, .int p2)] 0 []
  unfold FX6_exchange at hF
  refine r_aload_n (pc' := 1) X dX6_exchange_0 rfl 0 rfl rfl ?_
  refine r_iload_n (pc' := 2) X dX6_exchange_1 rfl 1 rfl rfl ?_
  obtain ⟨hi1, hF⟩ := g_gt hF
  refine r_iald (pc' := 3) X 0 dX6_exchange_2 rfl (g_vi hi1) rfl ?_
  refine r_istore_n (pc' := 4) (lv' := [(0, .ref a_row), (1, .int p1), (2, .int p2), (3, .int (row p1.toNatClampNeg))]) X dX6_exchange_3 rfl (by decide) [1, 2, 3, 0] rfl rfl ?_
  refine r_aload_n (pc' := 5) X dX6_exchange_4 rfl 0 rfl rfl ?_
  refine r_iload_n (pc' := 6) X dX6_exchange_5 rfl 1 rfl rfl ?_
  refine r_iload_n (pc' := 7) X dX6_exchange_6 rfl 2 rfl rfl ?_
  obtain ⟨hi2, hF⟩ := g_gt hF
  refine r_iast (pc' := 8) (ws' := [oI a_row cI n_row (upd row p1.toNatClampNeg p2)]) X 0 dX6_exchange_7 rfl (g_vi hi2) rfl rfl ?_
  refine r_iload_n (pc' := 9) X dX6_exchange_8 rfl 3 rfl rfl ?_
  cases hF
  exact RT.1 0 0 _ _ _ _ .int rfl rfl dX6_exchange_9 ⟨rfl, rfl⟩ (Nat.le_refl 0) (Nat.le_refl 0)
theorem kX6_setField_2 : Cond.constant RX6 63 (-1000002) ∈ wsX6_setField := List.mem_of_getElem? (i := 2) (by decide +kernel)
theorem kX6_setField_1 : Cond.fieldLink RX6 12 "IslandHeap" "heap" "LIslandHeap$Heap;" ∈ wsX6_setField := List.mem_of_getElem? (i := 1) (by decide +kernel)
theorem kX6_setField_3 : Cond.fieldLink RX6 101 "IslandHeap$Heap" "content" "[I" ∈ wsX6_setField := List.mem_of_getElem? (i := 3) (by decide +kernel)
theorem uX6_setField_X6 : ∀ w ∈ u_ws RX6 TX6 8, w ∈ wsX6_setField := by decide +kernel
theorem uX6_setField_X1 : ∀ w ∈ u_ws RX1 TX1 15, w ∈ wsX6_setField := by decide +kernel
set_option maxHeartbeats 4000000 in
set_option maxRecDepth 100000 in
theorem mX6_setField (D : va_G) (cI cZ cH : ClassId) (a_x : Nat) (a_h : Nat) (a_owner : Nat) (a_fieldCount : Nat) (a_content : Nat) (a_saved_ : Nat) (a_c : Nat) (a_r : Nat) (a_f : Nat) (a_o : Nat) (a_s : Nat) (a_dataCount : Nat) (a_pinned : Nat) (a_age : Nat) (a_roots : Nat) (a_weaks : Nat) (a_movedTo : Nat) (a_reports : Nat) (latestRefusal : Int32) (words : Int32) (depth : Int32) (allocated : Int32) (collections : Int32) (freed : Int32) (owner : Nat → Int32) (fieldCount : Nat → Int32) (content : Nat → Int32) (p1 : Int32) (p2 : Int32) (p3 : Int32) (r0 : Int32) (w_content : Nat → Int32) (hF : FX6_setField words owner fieldCount content p1 p2 p3 = some (r0, w_content)) : g_CM yX6_setField wsX6_setField ({ frames := 3, cells := 0, slots := 0, locals := 65 }) D cI cZ cH [.ref a_x, .int p1, .int p2, .int p3] [oX6 a_x a_h a_saved_ a_c a_r a_f a_o a_s latestRefusal, oX1 a_h words depth allocated collections freed a_owner a_fieldCount a_dataCount a_pinned a_age a_content a_roots a_weaks a_movedTo a_reports, oI a_owner cI 200 owner, oI a_fieldCount cI 200 fieldCount, oI a_content cI 200 content] 0 0 (g_Tm (some (.int r0)) [oX6 a_x a_h a_saved_ a_c a_r a_f a_o a_s latestRefusal, oX1 a_h words depth allocated collections freed a_owner a_fieldCount a_dataCount a_pinned a_age a_content a_roots a_weaks a_movedTo a_reports, oI a_owner cI 200 owner, oI a_fieldCount cI 200 fieldCount, oI a_content cI 200 w_content]) := by
  refine g_met (own := RX6) (mn := "setField") (cc := cX6_setField) (maxL := 5) (ret := (some .int)) rfl rfl (by decide +kernel) rfl (Nat.le_of_ble_eq_true rfl) (fun G X RT => ?_)
  show G 0 0 [oX6 a_x a_h a_saved_ a_c a_r a_f a_o a_s latestRefusal, oX1 a_h words depth allocated collections freed a_owner a_fieldCount a_dataCount a_pinned a_age a_content a_roots a_weaks a_movedTo a_reports, oI a_owner cI 200 owner, oI a_fieldCount cI 200 fieldCount, oI a_content cI 200 content] [(0, .ref a_x), (1, .int p1), (2, .int p2), (3, .int p3)] 0 []
  unfold FX6_setField at hF
  refine r_aload_n (pc' := 1) X dX6_setField_0 rfl 0 rfl rfl ?_
  refine r_iload_n (pc' := 2) X dX6_setField_1 rfl 1 rfl rfl ?_
  refine r_iload_n (pc' := 3) X dX6_setField_2 rfl 2 rfl rfl ?_
  obtain ⟨r1, hc2, hF⟩ := g_bd hF
  refine r_callVF (pc' := 6) (ws' := [oX6 a_x a_h a_saved_ a_c a_r a_f a_o a_s latestRefusal, oX1 a_h words depth allocated collections freed a_owner a_fieldCount a_dataCount a_pinned a_age a_content a_roots a_weaks a_movedTo a_reports, oI a_owner cI 200 owner, oI a_fieldCount cI 200 fieldCount, oI a_content cI 200 content]) (st' := [.int r1]) X (mX6_fieldWord D cI cZ cH a_x a_h a_owner a_fieldCount a_saved_ a_c a_r a_f a_o a_s a_dataCount a_pinned a_age a_content a_roots a_weaks a_movedTo a_reports latestRefusal words depth allocated collections freed owner fieldCount p1 p2 r1 hc2) 2 gX6_setField_X6_fieldWord rfl (by decide +kernel) rfl rfl ⟨Nat.le_of_ble_eq_true rfl, Nat.le_of_ble_eq_true rfl⟩ ⟨Nat.le_of_ble_eq_true rfl, Nat.le_of_ble_eq_true rfl⟩ rfl (Nat.le_of_ble_eq_true rfl) dX6_setField_3 0 rfl rfl [0, 1, 2, 3] rfl rfl rfl rfl rfl rfl ?_
  refine r_istore (pc' := 8) (lv' := [(0, .ref a_x), (1, .int p1), (2, .int p2), (3, .int p3), (4, .int r1)]) X dX6_setField_6 (by decide) [1, 2, 3, 4, 0] rfl rfl ?_
  refine r_iload (pc' := 10) X dX6_setField_8 4 rfl rfl ?_
  refine r_iconst (pc' := 11) X (-1 : Int32) dX6_setField_10 (by decide) rfl ?_
  refine r_icmp_eq (pc' := 14) X 25 dX6_setField_11 (by decide) rfl (fun c9 => ?_) (fun c9 => ?_)
  · replace hF := g_t c9 hF
    refine r_ldc (pc' := 27) X dX6_setField_25 kX6_setField_2 rfl ?_
    cases hF
    exact RT.1 0 0 _ _ _ _ .int rfl rfl dX6_setField_27 ⟨rfl, rfl⟩ (Nat.le_refl 0) (Nat.le_refl 0)
  · replace hF := g_f c9 hF
    refine r_aload_n (pc' := 15) X dX6_setField_14 rfl 0 rfl rfl ?_
    refine r_get (pc' := 18) X uX6_setField_X6 0 0 dX6_setField_15 rfl rfl (by decide) kX6_setField_1 rfl rfl ?_
    refine r_iload_n (pc' := 19) X dX6_setField_18 rfl 3 rfl rfl ?_
    obtain ⟨r3, hc4, hF⟩ := g_bd hF
    refine r_callVF (pc' := 22) (ws' := [oX6 a_x a_h a_saved_ a_c a_r a_f a_o a_s latestRefusal, oX1 a_h words depth allocated collections freed a_owner a_fieldCount a_dataCount a_pinned a_age a_content a_roots a_weaks a_movedTo a_reports, oI a_owner cI 200 owner, oI a_fieldCount cI 200 fieldCount, oI a_content cI 200 content]) (st' := [.int r3]) X (mX1_isReference D cI cZ cH a_h a_owner a_fieldCount a_dataCount a_pinned a_age a_content a_roots a_weaks a_movedTo a_reports words depth allocated collections freed owner p3 r3 hc4) 1 gX6_setField_X1_isReference rfl (by decide +kernel) rfl rfl ⟨Nat.le_of_ble_eq_true rfl, Nat.le_of_ble_eq_true rfl⟩ ⟨Nat.le_of_ble_eq_true rfl, Nat.le_of_ble_eq_true rfl⟩ rfl (Nat.le_of_ble_eq_true rfl) dX6_setField_19 1 rfl rfl [1, 2] rfl rfl rfl rfl rfl rfl ?_
    refine r_if_ne (pc' := 25) X 28 dX6_setField_22 (by decide) rfl (fun c9 => ?_) (fun c9 => ?_)
    · replace hF := g_f c9 hF
      refine r_aload_n (pc' := 29) X dX6_setField_28 rfl 0 rfl rfl ?_
      refine r_get (pc' := 32) X uX6_setField_X6 0 0 dX6_setField_29 rfl rfl (by decide) kX6_setField_1 rfl rfl ?_
      refine r_get (pc' := 35) X uX6_setField_X1 1 10 dX6_setField_32 rfl rfl (by decide) kX6_setField_3 rfl rfl ?_
      refine r_iload (pc' := 37) X dX6_setField_35 4 rfl rfl ?_
      refine r_iload_n (pc' := 38) X dX6_setField_37 rfl 3 rfl rfl ?_
      obtain ⟨⟨r5, content_6⟩, hc7, hF⟩ := g_bd hF
      refine r_callSF (pc' := 41) (ws' := [oX6 a_x a_h a_saved_ a_c a_r a_f a_o a_s latestRefusal, oX1 a_h words depth allocated collections freed a_owner a_fieldCount a_dataCount a_pinned a_age a_content a_roots a_weaks a_movedTo a_reports, oI a_owner cI 200 owner, oI a_fieldCount cI 200 fieldCount, oI a_content cI 200 content_6]) (st' := [.int r5]) X (mX6_exchange D cI cZ cH a_content content 200 r1 p3 r5 content_6 hc7) 3 gX6_setField_X6_exchange rfl (by decide +kernel) rfl rfl ⟨Nat.le_of_ble_eq_true rfl, Nat.le_of_ble_eq_true rfl⟩ ⟨Nat.le_of_ble_eq_true rfl, Nat.le_of_ble_eq_true rfl⟩ rfl (Nat.le_of_ble_eq_true rfl) dX6_setField_38 [4] rfl rfl rfl rfl rfl rfl ?_
      cases hF
      exact RT.1 0 0 _ _ _ _ .int rfl rfl dX6_setField_41 ⟨rfl, rfl⟩ (Nat.le_refl 0) (Nat.le_refl 0)
    · replace hF := g_t c9 hF
      refine r_ldc (pc' := 27) X dX6_setField_25 kX6_setField_2 rfl ?_
      cases hF
      exact RT.1 0 0 _ _ _ _ .int rfl rfl dX6_setField_27 ⟨rfl, rfl⟩ (Nat.le_refl 0) (Nat.le_refl 0)
theorem kX6_field_2 : Cond.fieldLink RX6 12 "IslandHeap" "heap" "LIslandHeap$Heap;" ∈ wsX6_field := List.mem_of_getElem? (i := 2) (by decide +kernel)
theorem kX6_field_3 : Cond.fieldLink RX6 101 "IslandHeap$Heap" "content" "[I" ∈ wsX6_field := List.mem_of_getElem? (i := 3) (by decide +kernel)
theorem kX6_field_1 : Cond.constant RX6 63 (-1000002) ∈ wsX6_field := List.mem_of_getElem? (i := 1) (by decide +kernel)
theorem uX6_field_X6 : ∀ w ∈ u_ws RX6 TX6 8, w ∈ wsX6_field := by decide +kernel
theorem uX6_field_X1 : ∀ w ∈ u_ws RX1 TX1 15, w ∈ wsX6_field := by decide +kernel
set_option maxHeartbeats 4000000 in
set_option maxRecDepth 100000 in
theorem mX6_field (D : va_G) (cI cZ cH : ClassId) (a_x : Nat) (a_h : Nat) (a_owner : Nat) (a_fieldCount : Nat) (a_content : Nat) (a_saved_ : Nat) (a_c : Nat) (a_r : Nat) (a_f : Nat) (a_o : Nat) (a_s : Nat) (a_dataCount : Nat) (a_pinned : Nat) (a_age : Nat) (a_roots : Nat) (a_weaks : Nat) (a_movedTo : Nat) (a_reports : Nat) (latestRefusal : Int32) (words : Int32) (depth : Int32) (allocated : Int32) (collections : Int32) (freed : Int32) (owner : Nat → Int32) (fieldCount : Nat → Int32) (content : Nat → Int32) (p1 : Int32) (p2 : Int32) (r0 : Int32) (hF : FX6_field words owner fieldCount content p1 p2 = some r0) : g_CM yX6_field wsX6_field ({ frames := 3, cells := 0, slots := 0, locals := 65 }) D cI cZ cH [.ref a_x, .int p1, .int p2] [oX6 a_x a_h a_saved_ a_c a_r a_f a_o a_s latestRefusal, oX1 a_h words depth allocated collections freed a_owner a_fieldCount a_dataCount a_pinned a_age a_content a_roots a_weaks a_movedTo a_reports, oI a_owner cI 200 owner, oI a_fieldCount cI 200 fieldCount, oI a_content cI 200 content] 0 0 (g_Tm (some (.int r0)) [oX6 a_x a_h a_saved_ a_c a_r a_f a_o a_s latestRefusal, oX1 a_h words depth allocated collections freed a_owner a_fieldCount a_dataCount a_pinned a_age a_content a_roots a_weaks a_movedTo a_reports, oI a_owner cI 200 owner, oI a_fieldCount cI 200 fieldCount, oI a_content cI 200 content]) := by
  refine g_met (own := RX6) (mn := "field") (cc := cX6_field) (maxL := 4) (ret := (some .int)) rfl rfl (by decide +kernel) rfl (Nat.le_of_ble_eq_true rfl) (fun G X RT => ?_)
  show G 0 0 [oX6 a_x a_h a_saved_ a_c a_r a_f a_o a_s latestRefusal, oX1 a_h words depth allocated collections freed a_owner a_fieldCount a_dataCount a_pinned a_age a_content a_roots a_weaks a_movedTo a_reports, oI a_owner cI 200 owner, oI a_fieldCount cI 200 fieldCount, oI a_content cI 200 content] [(0, .ref a_x), (1, .int p1), (2, .int p2)] 0 []
  unfold FX6_field at hF
  refine r_aload_n (pc' := 1) X dX6_field_0 rfl 0 rfl rfl ?_
  refine r_iload_n (pc' := 2) X dX6_field_1 rfl 1 rfl rfl ?_
  refine r_iload_n (pc' := 3) X dX6_field_2 rfl 2 rfl rfl ?_
  obtain ⟨r1, hc2, hF⟩ := g_bd hF
  refine r_callVF (pc' := 6) (ws' := [oX6 a_x a_h a_saved_ a_c a_r a_f a_o a_s latestRefusal, oX1 a_h words depth allocated collections freed a_owner a_fieldCount a_dataCount a_pinned a_age a_content a_roots a_weaks a_movedTo a_reports, oI a_owner cI 200 owner, oI a_fieldCount cI 200 fieldCount, oI a_content cI 200 content]) (st' := [.int r1]) X (mX6_fieldWord D cI cZ cH a_x a_h a_owner a_fieldCount a_saved_ a_c a_r a_f a_o a_s a_dataCount a_pinned a_age a_content a_roots a_weaks a_movedTo a_reports latestRefusal words depth allocated collections freed owner fieldCount p1 p2 r1 hc2) 2 gX6_field_X6_fieldWord rfl (by decide +kernel) rfl rfl ⟨Nat.le_of_ble_eq_true rfl, Nat.le_of_ble_eq_true rfl⟩ ⟨Nat.le_of_ble_eq_true rfl, Nat.le_of_ble_eq_true rfl⟩ rfl (Nat.le_of_ble_eq_true rfl) dX6_field_3 0 rfl rfl [0, 1, 2, 3] rfl rfl rfl rfl rfl rfl ?_
  refine r_istore_n (pc' := 7) (lv' := [(0, .ref a_x), (1, .int p1), (2, .int p2), (3, .int r1)]) X dX6_field_6 rfl (by decide) [1, 2, 3, 0] rfl rfl ?_
  refine r_iload_n (pc' := 8) X dX6_field_7 rfl 3 rfl rfl ?_
  refine r_iconst (pc' := 9) X (-1 : Int32) dX6_field_8 (by decide) rfl ?_
  refine r_icmp_ne (pc' := 12) X 17 dX6_field_9 (by decide) rfl (fun c9 => ?_) (fun c9 => ?_)
  · replace hF := g_f c9 hF
    refine r_aload_n (pc' := 18) X dX6_field_17 rfl 0 rfl rfl ?_
    refine r_get (pc' := 21) X uX6_field_X6 0 0 dX6_field_18 rfl rfl (by decide) kX6_field_2 rfl rfl ?_
    refine r_get (pc' := 24) X uX6_field_X1 1 10 dX6_field_21 rfl rfl (by decide) kX6_field_3 rfl rfl ?_
    refine r_iload_n (pc' := 25) X dX6_field_24 rfl 3 rfl rfl ?_
    obtain ⟨hi3, hF⟩ := g_gt hF
    refine r_iald (pc' := 26) X 4 dX6_field_25 rfl (g_vi hi3) rfl ?_
    cases hF
    exact RT.1 0 0 _ _ _ _ .int rfl rfl dX6_field_26 ⟨rfl, rfl⟩ (Nat.le_refl 0) (Nat.le_refl 0)
  · replace hF := g_t c9 hF
    refine r_ldc (pc' := 14) X dX6_field_12 kX6_field_1 rfl ?_
    refine r_goto X 26 dX6_field_14 (by decide) ?_
    cases hF
    exact RT.1 0 0 _ _ _ _ .int rfl rfl dX6_field_26 ⟨rfl, rfl⟩ (Nat.le_refl 0) (Nat.le_refl 0)
theorem kX6_dataWord_1 : Cond.fieldLink RX6 12 "IslandHeap" "heap" "LIslandHeap$Heap;" ∈ wsX6_dataWord := List.mem_of_getElem? (i := 1) (by decide +kernel)
theorem kX6_dataWord_2 : Cond.fieldLink RX6 232 "IslandHeap$Heap" "dataCount" "[I" ∈ wsX6_dataWord := List.mem_of_getElem? (i := 2) (by decide +kernel)
theorem kX6_dataWord_3 : Cond.fieldLink RX6 229 "IslandHeap$Heap" "fieldCount" "[I" ∈ wsX6_dataWord := List.mem_of_getElem? (i := 3) (by decide +kernel)
theorem uX6_dataWord_X6 : ∀ w ∈ u_ws RX6 TX6 8, w ∈ wsX6_dataWord := by decide +kernel
theorem uX6_dataWord_X1 : ∀ w ∈ u_ws RX1 TX1 15, w ∈ wsX6_dataWord := by decide +kernel
set_option maxHeartbeats 4000000 in
set_option maxRecDepth 100000 in
theorem mX6_dataWord (D : va_G) (cI cZ cH : ClassId) (a_x : Nat) (a_h : Nat) (a_owner : Nat) (a_fieldCount : Nat) (a_dataCount : Nat) (a_saved_ : Nat) (a_c : Nat) (a_r : Nat) (a_f : Nat) (a_o : Nat) (a_s : Nat) (a_pinned : Nat) (a_age : Nat) (a_content : Nat) (a_roots : Nat) (a_weaks : Nat) (a_movedTo : Nat) (a_reports : Nat) (latestRefusal : Int32) (words : Int32) (depth : Int32) (allocated : Int32) (collections : Int32) (freed : Int32) (owner : Nat → Int32) (fieldCount : Nat → Int32) (dataCount : Nat → Int32) (p1 : Int32) (p2 : Int32) (r0 : Int32) (hF : FX6_dataWord words owner fieldCount dataCount p1 p2 = some r0) : g_CM yX6_dataWord wsX6_dataWord ({ frames := 2, cells := 0, slots := 0, locals := 42 }) D cI cZ cH [.ref a_x, .int p1, .int p2] [oX6 a_x a_h a_saved_ a_c a_r a_f a_o a_s latestRefusal, oX1 a_h words depth allocated collections freed a_owner a_fieldCount a_dataCount a_pinned a_age a_content a_roots a_weaks a_movedTo a_reports, oI a_owner cI 200 owner, oI a_fieldCount cI 200 fieldCount, oI a_dataCount cI 200 dataCount] 0 0 (g_Tm (some (.int r0)) [oX6 a_x a_h a_saved_ a_c a_r a_f a_o a_s latestRefusal, oX1 a_h words depth allocated collections freed a_owner a_fieldCount a_dataCount a_pinned a_age a_content a_roots a_weaks a_movedTo a_reports, oI a_owner cI 200 owner, oI a_fieldCount cI 200 fieldCount, oI a_dataCount cI 200 dataCount]) := by
  refine g_met (own := RX6) (mn := "dataWord") (cc := cX6_dataWord) (maxL := 4) (ret := (some .int)) rfl rfl (by decide +kernel) rfl (Nat.le_of_ble_eq_true rfl) (fun G X RT => ?_)
  show G 0 0 [oX6 a_x a_h a_saved_ a_c a_r a_f a_o a_s latestRefusal, oX1 a_h words depth allocated collections freed a_owner a_fieldCount a_dataCount a_pinned a_age a_content a_roots a_weaks a_movedTo a_reports, oI a_owner cI 200 owner, oI a_fieldCount cI 200 fieldCount, oI a_dataCount cI 200 dataCount] [(0, .ref a_x), (1, .int p1), (2, .int p2)] 0 []
  unfold FX6_dataWord at hF
  refine r_aload_n (pc' := 1) X dX6_dataWord_0 rfl 0 rfl rfl ?_
  refine r_get (pc' := 4) X uX6_dataWord_X6 0 0 dX6_dataWord_1 rfl rfl (by decide) kX6_dataWord_1 rfl rfl ?_
  refine r_iload_n (pc' := 5) X dX6_dataWord_4 rfl 1 rfl rfl ?_
  obtain ⟨r1, hc2, hF⟩ := g_bd hF
  refine r_callVF (pc' := 8) (ws' := [oX6 a_x a_h a_saved_ a_c a_r a_f a_o a_s latestRefusal, oX1 a_h words depth allocated collections freed a_owner a_fieldCount a_dataCount a_pinned a_age a_content a_roots a_weaks a_movedTo a_reports, oI a_owner cI 200 owner, oI a_fieldCount cI 200 fieldCount, oI a_dataCount cI 200 dataCount]) (st' := [.int r1]) X (mX1_objectAt D cI cZ cH a_h a_owner a_fieldCount a_dataCount a_pinned a_age a_content a_roots a_weaks a_movedTo a_reports words depth allocated collections freed owner p1 r1 hc2) 1 gX6_dataWord_X1_objectAt rfl (by decide +kernel) rfl rfl ⟨Nat.le_of_ble_eq_true rfl, Nat.le_of_ble_eq_true rfl⟩ ⟨Nat.le_of_ble_eq_true rfl, Nat.le_of_ble_eq_true rfl⟩ rfl (Nat.le_of_ble_eq_true rfl) dX6_dataWord_5 1 rfl rfl [1, 2] rfl rfl rfl rfl rfl rfl ?_
  refine r_istore_n (pc' := 9) (lv' := [(0, .ref a_x), (1, .int p1), (2, .int p2), (3, .int r1)]) X dX6_dataWord_8 rfl (by decide) [1, 2, 3, 0] rfl rfl ?_
  refine r_iload_n (pc' := 10) X dX6_dataWord_9 rfl 3 rfl rfl ?_
  refine r_iconst (pc' := 11) X (-1 : Int32) dX6_dataWord_10 (by decide) rfl ?_
  refine r_icmp_eq (pc' := 14) X 31 dX6_dataWord_11 (by decide) rfl (fun c9 => ?_) (fun c9 => ?_)
  · replace hF := g_t c9 hF
    refine r_iconst (pc' := 32) X (-1 : Int32) dX6_dataWord_31 (by decide) rfl ?_
    cases hF
    exact RT.1 0 0 _ _ _ _ .int rfl rfl dX6_dataWord_32 ⟨rfl, rfl⟩ (Nat.le_refl 0) (Nat.le_refl 0)
  · replace hF := g_f c9 hF
    refine r_iload_n (pc' := 15) X dX6_dataWord_14 rfl 2 rfl rfl ?_
    refine r_if_lt (pc' := 18) X 31 dX6_dataWord_15 (by decide) rfl (fun c9 => ?_) (fun c9 => ?_)
    · replace hF := g_t c9 hF
      refine r_iconst (pc' := 32) X (-1 : Int32) dX6_dataWord_31 (by decide) rfl ?_
      cases hF
      exact RT.1 0 0 _ _ _ _ .int rfl rfl dX6_dataWord_32 ⟨rfl, rfl⟩ (Nat.le_refl 0) (Nat.le_refl 0)
    · replace hF := g_f c9 hF
      refine r_iload_n (pc' := 19) X dX6_dataWord_18 rfl 2 rfl rfl ?_
      refine r_aload_n (pc' := 20) X dX6_dataWord_19 rfl 0 rfl rfl ?_
      refine r_get (pc' := 23) X uX6_dataWord_X6 0 0 dX6_dataWord_20 rfl rfl (by decide) kX6_dataWord_1 rfl rfl ?_
      refine r_get (pc' := 26) X uX6_dataWord_X1 1 7 dX6_dataWord_23 rfl rfl (by decide) kX6_dataWord_2 rfl rfl ?_
      refine r_iload_n (pc' := 27) X dX6_dataWord_26 rfl 3 rfl rfl ?_
      obtain ⟨hi3, hF⟩ := g_gt hF
      refine r_iald (pc' := 28) X 4 dX6_dataWord_27 rfl (g_vi hi3) rfl ?_
      refine r_icmp_lt (pc' := 31) X 33 dX6_dataWord_28 (by decide) rfl (fun c9 => ?_) (fun c9 => ?_)
      · replace hF := g_t c9 hF
        refine r_iload_n (pc' := 34) X dX6_dataWord_33 rfl 3 rfl rfl ?_
        refine r_iconst (pc' := 35) X (1 : Int32) dX6_dataWord_34 (by decide) rfl ?_
        refine r_iadd (pc' := 36) X dX6_dataWord_35 rfl ?_
        refine r_aload_n (pc' := 37) X dX6_dataWord_36 rfl 0 rfl rfl ?_
        refine r_get (pc' := 40) X uX6_dataWord_X6 0 0 dX6_dataWord_37 rfl rfl (by decide) kX6_dataWord_1 rfl rfl ?_
        refine r_get (pc' := 43) X uX6_dataWord_X1 1 6 dX6_dataWord_40 rfl rfl (by decide) kX6_dataWord_3 rfl rfl ?_
        refine r_iload_n (pc' := 44) X dX6_dataWord_43 rfl 3 rfl rfl ?_
        obtain ⟨hi4, hF⟩ := g_gt hF
        refine r_iald (pc' := 45) X 3 dX6_dataWord_44 rfl (g_vi hi4) rfl ?_
        refine r_iadd (pc' := 46) X dX6_dataWord_45 rfl ?_
        refine r_iload_n (pc' := 47) X dX6_dataWord_46 rfl 2 rfl rfl ?_
        refine r_iadd (pc' := 48) X dX6_dataWord_47 rfl ?_
        cases hF
        exact RT.1 0 0 _ _ _ _ .int rfl rfl dX6_dataWord_48 ⟨rfl, rfl⟩ (Nat.le_refl 0) (Nat.le_refl 0)
      · replace hF := g_f c9 hF
        refine r_iconst (pc' := 32) X (-1 : Int32) dX6_dataWord_31 (by decide) rfl ?_
        cases hF
        exact RT.1 0 0 _ _ _ _ .int rfl rfl dX6_dataWord_32 ⟨rfl, rfl⟩ (Nat.le_refl 0) (Nat.le_refl 0)
theorem kX6_setData_3 : Cond.constant RX6 63 (-1000002) ∈ wsX6_setData := List.mem_of_getElem? (i := 3) (by decide +kernel)
theorem kX6_setData_1 : Cond.constant RX6 112 (-1000000) ∈ wsX6_setData := List.mem_of_getElem? (i := 1) (by decide +kernel)
theorem kX6_setData_2 : Cond.constant RX6 113 (1000000) ∈ wsX6_setData := List.mem_of_getElem? (i := 2) (by decide +kernel)
theorem kX6_setData_4 : Cond.fieldLink RX6 12 "IslandHeap" "heap" "LIslandHeap$Heap;" ∈ wsX6_setData := List.mem_of_getElem? (i := 4) (by decide +kernel)
theorem kX6_setData_5 : Cond.fieldLink RX6 101 "IslandHeap$Heap" "content" "[I" ∈ wsX6_setData := List.mem_of_getElem? (i := 5) (by decide +kernel)
theorem uX6_setData_X6 : ∀ w ∈ u_ws RX6 TX6 8, w ∈ wsX6_setData := by decide +kernel
theorem uX6_setData_X1 : ∀ w ∈ u_ws RX1 TX1 15, w ∈ wsX6_setData := by decide +kernel
set_option maxHeartbeats 4000000 in
set_option maxRecDepth 100000 in
theorem mX6_setData (D : va_G) (cI cZ cH : ClassId) (a_x : Nat) (a_h : Nat) (a_owner : Nat) (a_fieldCount : Nat) (a_dataCount : Nat) (a_content : Nat) (a_saved_ : Nat) (a_c : Nat) (a_r : Nat) (a_f : Nat) (a_o : Nat) (a_s : Nat) (a_pinned : Nat) (a_age : Nat) (a_roots : Nat) (a_weaks : Nat) (a_movedTo : Nat) (a_reports : Nat) (latestRefusal : Int32) (words : Int32) (depth : Int32) (allocated : Int32) (collections : Int32) (freed : Int32) (owner : Nat → Int32) (fieldCount : Nat → Int32) (dataCount : Nat → Int32) (content : Nat → Int32) (p1 : Int32) (p2 : Int32) (p3 : Int32) (r0 : Int32) (w_content : Nat → Int32) (hF : FX6_setData words owner fieldCount dataCount content p1 p2 p3 = some (r0, w_content)) : g_CM yX6_setData wsX6_setData ({ frames := 3, cells := 0, slots := 0, locals := 65 }) D cI cZ cH [.ref a_x, .int p1, .int p2, .int p3] [oX6 a_x a_h a_saved_ a_c a_r a_f a_o a_s latestRefusal, oX1 a_h words depth allocated collections freed a_owner a_fieldCount a_dataCount a_pinned a_age a_content a_roots a_weaks a_movedTo a_reports, oI a_owner cI 200 owner, oI a_fieldCount cI 200 fieldCount, oI a_dataCount cI 200 dataCount, oI a_content cI 200 content] 0 0 (g_Tm (some (.int r0)) [oX6 a_x a_h a_saved_ a_c a_r a_f a_o a_s latestRefusal, oX1 a_h words depth allocated collections freed a_owner a_fieldCount a_dataCount a_pinned a_age a_content a_roots a_weaks a_movedTo a_reports, oI a_owner cI 200 owner, oI a_fieldCount cI 200 fieldCount, oI a_dataCount cI 200 dataCount, oI a_content cI 200 w_content]) := by
  refine g_met (own := RX6) (mn := "setData") (cc := cX6_setData) (maxL := 5) (ret := (some .int)) rfl rfl (by decide +kernel) rfl (Nat.le_of_ble_eq_true rfl) (fun G X RT => ?_)
  show G 0 0 [oX6 a_x a_h a_saved_ a_c a_r a_f a_o a_s latestRefusal, oX1 a_h words depth allocated collections freed a_owner a_fieldCount a_dataCount a_pinned a_age a_content a_roots a_weaks a_movedTo a_reports, oI a_owner cI 200 owner, oI a_fieldCount cI 200 fieldCount, oI a_dataCount cI 200 dataCount, oI a_content cI 200 content] [(0, .ref a_x), (1, .int p1), (2, .int p2), (3, .int p3)] 0 []
  unfold FX6_setData at hF
  refine r_aload_n (pc' := 1) X dX6_setData_0 rfl 0 rfl rfl ?_
  refine r_iload_n (pc' := 2) X dX6_setData_1 rfl 1 rfl rfl ?_
  refine r_iload_n (pc' := 3) X dX6_setData_2 rfl 2 rfl rfl ?_
  obtain ⟨r1, hc2, hF⟩ := g_bd hF
  refine r_callVF (pc' := 6) (ws' := [oX6 a_x a_h a_saved_ a_c a_r a_f a_o a_s latestRefusal, oX1 a_h words depth allocated collections freed a_owner a_fieldCount a_dataCount a_pinned a_age a_content a_roots a_weaks a_movedTo a_reports, oI a_owner cI 200 owner, oI a_fieldCount cI 200 fieldCount, oI a_dataCount cI 200 dataCount, oI a_content cI 200 content]) (st' := [.int r1]) X (mX6_dataWord D cI cZ cH a_x a_h a_owner a_fieldCount a_dataCount a_saved_ a_c a_r a_f a_o a_s a_pinned a_age a_content a_roots a_weaks a_movedTo a_reports latestRefusal words depth allocated collections freed owner fieldCount dataCount p1 p2 r1 hc2) 2 gX6_setData_X6_dataWord rfl (by decide +kernel) rfl rfl ⟨Nat.le_of_ble_eq_true rfl, Nat.le_of_ble_eq_true rfl⟩ ⟨Nat.le_of_ble_eq_true rfl, Nat.le_of_ble_eq_true rfl⟩ rfl (Nat.le_of_ble_eq_true rfl) dX6_setData_3 0 rfl rfl [0, 1, 2, 3, 4] rfl rfl rfl rfl rfl rfl ?_
  refine r_istore (pc' := 8) (lv' := [(0, .ref a_x), (1, .int p1), (2, .int p2), (3, .int p3), (4, .int r1)]) X dX6_setData_6 (by decide) [1, 2, 3, 4, 0] rfl rfl ?_
  refine r_iload (pc' := 10) X dX6_setData_8 4 rfl rfl ?_
  refine r_iconst (pc' := 11) X (-1 : Int32) dX6_setData_10 (by decide) rfl ?_
  refine r_icmp_eq (pc' := 14) X 26 dX6_setData_11 (by decide) rfl (fun c9 => ?_) (fun c9 => ?_)
  · replace hF := g_t c9 hF
    refine r_ldc (pc' := 28) X dX6_setData_26 kX6_setData_3 rfl ?_
    cases hF
    exact RT.1 0 0 _ _ _ _ .int rfl rfl dX6_setData_28 ⟨rfl, rfl⟩ (Nat.le_refl 0) (Nat.le_refl 0)
  · replace hF := g_f c9 hF
    refine r_iload_n (pc' := 15) X dX6_setData_14 rfl 3 rfl rfl ?_
    refine r_ldc (pc' := 17) X dX6_setData_15 kX6_setData_1 rfl ?_
    refine r_icmp_lt (pc' := 20) X 26 dX6_setData_17 (by decide) rfl (fun c9 => ?_) (fun c9 => ?_)
    · replace hF := g_t c9 hF
      refine r_ldc (pc' := 28) X dX6_setData_26 kX6_setData_3 rfl ?_
      cases hF
      exact RT.1 0 0 _ _ _ _ .int rfl rfl dX6_setData_28 ⟨rfl, rfl⟩ (Nat.le_refl 0) (Nat.le_refl 0)
    · replace hF := g_f c9 hF
      refine r_iload_n (pc' := 21) X dX6_setData_20 rfl 3 rfl rfl ?_
      refine r_ldc (pc' := 23) X dX6_setData_21 kX6_setData_2 rfl ?_
      refine r_icmp_le (pc' := 26) X 29 dX6_setData_23 (by decide) rfl (fun c9 => ?_) (fun c9 => ?_)
      · replace hF := g_t c9 hF
        refine r_aload_n (pc' := 30) X dX6_setData_29 rfl 0 rfl rfl ?_
        refine r_get (pc' := 33) X uX6_setData_X6 0 0 dX6_setData_30 rfl rfl (by decide) kX6_setData_4 rfl rfl ?_
        refine r_get (pc' := 36) X uX6_setData_X1 1 10 dX6_setData_33 rfl rfl (by decide) kX6_setData_5 rfl rfl ?_
        refine r_iload (pc' := 38) X dX6_setData_36 4 rfl rfl ?_
        refine r_iload_n (pc' := 39) X dX6_setData_38 rfl 3 rfl rfl ?_
        obtain ⟨⟨r3, content_4⟩, hc5, hF⟩ := g_bd hF
        refine r_callSF (pc' := 42) (ws' := [oX6 a_x a_h a_saved_ a_c a_r a_f a_o a_s latestRefusal, oX1 a_h words depth allocated collections freed a_owner a_fieldCount a_dataCount a_pinned a_age a_content a_roots a_weaks a_movedTo a_reports, oI a_owner cI 200 owner, oI a_fieldCount cI 200 fieldCount, oI a_dataCount cI 200 dataCount, oI a_content cI 200 content_4]) (st' := [.int r3]) X (mX6_exchange D cI cZ cH a_content content 200 r1 p3 r3 content_4 hc5) 3 gX6_setData_X6_exchange rfl (by decide +kernel) rfl rfl ⟨Nat.le_of_ble_eq_true rfl, Nat.le_of_ble_eq_true rfl⟩ ⟨Nat.le_of_ble_eq_true rfl, Nat.le_of_ble_eq_true rfl⟩ rfl (Nat.le_of_ble_eq_true rfl) dX6_setData_39 [5] rfl rfl rfl rfl rfl rfl ?_
        cases hF
        exact RT.1 0 0 _ _ _ _ .int rfl rfl dX6_setData_42 ⟨rfl, rfl⟩ (Nat.le_refl 0) (Nat.le_refl 0)
      · replace hF := g_f c9 hF
        refine r_ldc (pc' := 28) X dX6_setData_26 kX6_setData_3 rfl ?_
        cases hF
        exact RT.1 0 0 _ _ _ _ .int rfl rfl dX6_setData_28 ⟨rfl, rfl⟩ (Nat.le_refl 0) (Nat.le_refl 0)
theorem kX6_data_2 : Cond.fieldLink RX6 12 "IslandHeap" "heap" "LIslandHeap$Heap;" ∈ wsX6_data := List.mem_of_getElem? (i := 2) (by decide +kernel)
theorem kX6_data_3 : Cond.fieldLink RX6 101 "IslandHeap$Heap" "content" "[I" ∈ wsX6_data := List.mem_of_getElem? (i := 3) (by decide +kernel)
theorem kX6_data_1 : Cond.constant RX6 63 (-1000002) ∈ wsX6_data := List.mem_of_getElem? (i := 1) (by decide +kernel)
theorem uX6_data_X6 : ∀ w ∈ u_ws RX6 TX6 8, w ∈ wsX6_data := by decide +kernel
theorem uX6_data_X1 : ∀ w ∈ u_ws RX1 TX1 15, w ∈ wsX6_data := by decide +kernel
set_option maxHeartbeats 4000000 in
set_option maxRecDepth 100000 in
theorem mX6_data (D : va_G) (cI cZ cH : ClassId) (a_x : Nat) (a_h : Nat) (a_owner : Nat) (a_fieldCount : Nat) (a_dataCount : Nat) (a_content : Nat) (a_saved_ : Nat) (a_c : Nat) (a_r : Nat) (a_f : Nat) (a_o : Nat) (a_s : Nat) (a_pinned : Nat) (a_age : Nat) (a_roots : Nat) (a_weaks : Nat) (a_movedTo : Nat) (a_reports : Nat) (latestRefusal : Int32) (words : Int32) (depth : Int32) (allocated : Int32) (collections : Int32) (freed : Int32) (owner : Nat → Int32) (fieldCount : Nat → Int32) (dataCount : Nat → Int32) (content : Nat → Int32) (p1 : Int32) (p2 : Int32) (r0 : Int32) (hF : FX6_data words owner fieldCount dataCount content p1 p2 = some r0) : g_CM yX6_data wsX6_data ({ frames := 3, cells := 0, slots := 0, locals := 65 }) D cI cZ cH [.ref a_x, .int p1, .int p2] [oX6 a_x a_h a_saved_ a_c a_r a_f a_o a_s latestRefusal, oX1 a_h words depth allocated collections freed a_owner a_fieldCount a_dataCount a_pinned a_age a_content a_roots a_weaks a_movedTo a_reports, oI a_owner cI 200 owner, oI a_fieldCount cI 200 fieldCount, oI a_dataCount cI 200 dataCount, oI a_content cI 200 content] 0 0 (g_Tm (some (.int r0)) [oX6 a_x a_h a_saved_ a_c a_r a_f a_o a_s latestRefusal, oX1 a_h words depth allocated collections freed a_owner a_fieldCount a_dataCount a_pinned a_age a_content a_roots a_weaks a_movedTo a_reports, oI a_owner cI 200 owner, oI a_fieldCount cI 200 fieldCount, oI a_dataCount cI 200 dataCount, oI a_content cI 200 content]) := by
  refine g_met (own := RX6) (mn := "data") (cc := cX6_data) (maxL := 4) (ret := (some .int)) rfl rfl (by decide +kernel) rfl (Nat.le_of_ble_eq_true rfl) (fun G X RT => ?_)
  show G 0 0 [oX6 a_x a_h a_saved_ a_c a_r a_f a_o a_s latestRefusal, oX1 a_h words depth allocated collections freed a_owner a_fieldCount a_dataCount a_pinned a_age a_content a_roots a_weaks a_movedTo a_reports, oI a_owner cI 200 owner, oI a_fieldCount cI 200 fieldCount, oI a_dataCount cI 200 dataCount, oI a_content cI 200 content] [(0, .ref a_x), (1, .int p1), (2, .int p2)] 0 []
  unfold FX6_data at hF
  refine r_aload_n (pc' := 1) X dX6_data_0 rfl 0 rfl rfl ?_
  refine r_iload_n (pc' := 2) X dX6_data_1 rfl 1 rfl rfl ?_
  refine r_iload_n (pc' := 3) X dX6_data_2 rfl 2 rfl rfl ?_
  obtain ⟨r1, hc2, hF⟩ := g_bd hF
  refine r_callVF (pc' := 6) (ws' := [oX6 a_x a_h a_saved_ a_c a_r a_f a_o a_s latestRefusal, oX1 a_h words depth allocated collections freed a_owner a_fieldCount a_dataCount a_pinned a_age a_content a_roots a_weaks a_movedTo a_reports, oI a_owner cI 200 owner, oI a_fieldCount cI 200 fieldCount, oI a_dataCount cI 200 dataCount, oI a_content cI 200 content]) (st' := [.int r1]) X (mX6_dataWord D cI cZ cH a_x a_h a_owner a_fieldCount a_dataCount a_saved_ a_c a_r a_f a_o a_s a_pinned a_age a_content a_roots a_weaks a_movedTo a_reports latestRefusal words depth allocated collections freed owner fieldCount dataCount p1 p2 r1 hc2) 2 gX6_data_X6_dataWord rfl (by decide +kernel) rfl rfl ⟨Nat.le_of_ble_eq_true rfl, Nat.le_of_ble_eq_true rfl⟩ ⟨Nat.le_of_ble_eq_true rfl, Nat.le_of_ble_eq_true rfl⟩ rfl (Nat.le_of_ble_eq_true rfl) dX6_data_3 0 rfl rfl [0, 1, 2, 3, 4] rfl rfl rfl rfl rfl rfl ?_
  refine r_istore_n (pc' := 7) (lv' := [(0, .ref a_x), (1, .int p1), (2, .int p2), (3, .int r1)]) X dX6_data_6 rfl (by decide) [1, 2, 3, 0] rfl rfl ?_
  refine r_iload_n (pc' := 8) X dX6_data_7 rfl 3 rfl rfl ?_
  refine r_iconst (pc' := 9) X (-1 : Int32) dX6_data_8 (by decide) rfl ?_
  refine r_icmp_ne (pc' := 12) X 17 dX6_data_9 (by decide) rfl (fun c9 => ?_) (fun c9 => ?_)
  · replace hF := g_f c9 hF
    refine r_aload_n (pc' := 18) X dX6_data_17 rfl 0 rfl rfl ?_
    refine r_get (pc' := 21) X uX6_data_X6 0 0 dX6_data_18 rfl rfl (by decide) kX6_data_2 rfl rfl ?_
    refine r_get (pc' := 24) X uX6_data_X1 1 10 dX6_data_21 rfl rfl (by decide) kX6_data_3 rfl rfl ?_
    refine r_iload_n (pc' := 25) X dX6_data_24 rfl 3 rfl rfl ?_
    obtain ⟨hi3, hF⟩ := g_gt hF
    refine r_iald (pc' := 26) X 5 dX6_data_25 rfl (g_vi hi3) rfl ?_
    cases hF
    exact RT.1 0 0 _ _ _ _ .int rfl rfl dX6_data_26 ⟨rfl, rfl⟩ (Nat.le_refl 0) (Nat.le_refl 0)
  · replace hF := g_t c9 hF
    refine r_ldc (pc' := 14) X dX6_data_12 kX6_data_1 rfl ?_
    refine r_goto X 26 dX6_data_14 (by decide) ?_
    cases hF
    exact RT.1 0 0 _ _ _ _ .int rfl rfl dX6_data_26 ⟨rfl, rfl⟩ (Nat.le_refl 0) (Nat.le_refl 0)
theorem kX6_pin_1 : Cond.fieldLink RX6 12 "IslandHeap" "heap" "LIslandHeap$Heap;" ∈ wsX6_pin := List.mem_of_getElem? (i := 1) (by decide +kernel)
theorem kX6_pin_3 : Cond.fieldLink RX6 114 "IslandHeap$Heap" "pinned" "[I" ∈ wsX6_pin := List.mem_of_getElem? (i := 3) (by decide +kernel)
theorem kX6_pin_4 : Cond.constant RX6 117 (-1000003) ∈ wsX6_pin := List.mem_of_getElem? (i := 4) (by decide +kernel)
theorem kX6_pin_2 : Cond.constant RX6 63 (-1000002) ∈ wsX6_pin := List.mem_of_getElem? (i := 2) (by decide +kernel)
theorem uX6_pin_X6 : ∀ w ∈ u_ws RX6 TX6 8, w ∈ wsX6_pin := by decide +kernel
theorem uX6_pin_X1 : ∀ w ∈ u_ws RX1 TX1 15, w ∈ wsX6_pin := by decide +kernel
set_option maxHeartbeats 4000000 in
set_option maxRecDepth 100000 in
theorem mX6_pin (D : va_G) (cI cZ cH : ClassId) (a_x : Nat) (a_h : Nat) (a_owner : Nat) (a_pinned : Nat) (a_saved_ : Nat) (a_c : Nat) (a_r : Nat) (a_f : Nat) (a_o : Nat) (a_s : Nat) (a_fieldCount : Nat) (a_dataCount : Nat) (a_age : Nat) (a_content : Nat) (a_roots : Nat) (a_weaks : Nat) (a_movedTo : Nat) (a_reports : Nat) (latestRefusal : Int32) (words : Int32) (depth : Int32) (allocated : Int32) (collections : Int32) (freed : Int32) (owner : Nat → Int32) (pinned : Nat → Int32) (p1 : Int32) (p2 : Int32) (r0 : Int32) (w_pinned : Nat → Int32) (hF : FX6_pin words owner pinned p1 p2 = some (r0, w_pinned)) : g_CM yX6_pin wsX6_pin ({ frames := 4, cells := 0, slots := 0, locals := 85 }) D cI cZ cH [.ref a_x, .int p1, .int p2] [oX6 a_x a_h a_saved_ a_c a_r a_f a_o a_s latestRefusal, oX1 a_h words depth allocated collections freed a_owner a_fieldCount a_dataCount a_pinned a_age a_content a_roots a_weaks a_movedTo a_reports, oI a_owner cI 200 owner, oI a_pinned cI 200 pinned] 0 0 (g_Tm (some (.int r0)) [oX6 a_x a_h a_saved_ a_c a_r a_f a_o a_s latestRefusal, oX1 a_h words depth allocated collections freed a_owner a_fieldCount a_dataCount a_pinned a_age a_content a_roots a_weaks a_movedTo a_reports, oI a_owner cI 200 owner, oI a_pinned cI 200 w_pinned]) := by
  refine g_met (own := RX6) (mn := "pin") (cc := cX6_pin) (maxL := 5) (ret := (some .int)) rfl rfl (by decide +kernel) rfl (Nat.le_of_ble_eq_true rfl) (fun G X RT => ?_)
  show G 0 0 [oX6 a_x a_h a_saved_ a_c a_r a_f a_o a_s latestRefusal, oX1 a_h words depth allocated collections freed a_owner a_fieldCount a_dataCount a_pinned a_age a_content a_roots a_weaks a_movedTo a_reports, oI a_owner cI 200 owner, oI a_pinned cI 200 pinned] [(0, .ref a_x), (1, .int p1), (2, .int p2)] 0 []
  unfold FX6_pin at hF
  refine r_aload_n (pc' := 1) X dX6_pin_0 rfl 0 rfl rfl ?_
  refine r_get (pc' := 4) X uX6_pin_X6 0 0 dX6_pin_1 rfl rfl (by decide) kX6_pin_1 rfl rfl ?_
  refine r_iload_n (pc' := 5) X dX6_pin_4 rfl 1 rfl rfl ?_
  obtain ⟨r1, hc2, hF⟩ := g_bd hF
  refine r_callVF (pc' := 8) (ws' := [oX6 a_x a_h a_saved_ a_c a_r a_f a_o a_s latestRefusal, oX1 a_h words depth allocated collections freed a_owner a_fieldCount a_dataCount a_pinned a_age a_content a_roots a_weaks a_movedTo a_reports, oI a_owner cI 200 owner, oI a_pinned cI 200 pinned]) (st' := [.int r1]) X (mX1_objectAt D cI cZ cH a_h a_owner a_fieldCount a_dataCount a_pinned a_age a_content a_roots a_weaks a_movedTo a_reports words depth allocated collections freed owner p1 r1 hc2) 1 gX6_pin_X1_objectAt rfl (by decide +kernel) rfl rfl ⟨Nat.le_of_ble_eq_true rfl, Nat.le_of_ble_eq_true rfl⟩ ⟨Nat.le_of_ble_eq_true rfl, Nat.le_of_ble_eq_true rfl⟩ rfl (Nat.le_of_ble_eq_true rfl) dX6_pin_5 1 rfl rfl [1, 2] rfl rfl rfl rfl rfl rfl ?_
  refine r_istore_n (pc' := 9) (lv' := [(0, .ref a_x), (1, .int p1), (2, .int p2), (3, .int r1)]) X dX6_pin_8 rfl (by decide) [1, 2, 3, 0] rfl rfl ?_
  refine r_iload_n (pc' := 10) X dX6_pin_9 rfl 3 rfl rfl ?_
  refine r_iconst (pc' := 11) X (-1 : Int32) dX6_pin_10 (by decide) rfl ?_
  refine r_icmp_ne (pc' := 14) X 17 dX6_pin_11 (by decide) rfl (fun c9 => ?_) (fun c9 => ?_)
  · replace hF := g_f c9 hF
    refine r_iload_n (pc' := 18) X dX6_pin_17 rfl 2 rfl rfl ?_
    obtain ⟨exJ4, hR, hF⟩ := g_bd hF
    have hJ4 : ∀ (t3 : Int32), t3 = exJ4 → G 0 0 [oX6 a_x a_h a_saved_ a_c a_r a_f a_o a_s latestRefusal, oX1 a_h words depth allocated collections freed a_owner a_fieldCount a_dataCount a_pinned a_age a_content a_roots a_weaks a_movedTo a_reports, oI a_owner cI 200 owner, oI a_pinned cI 200 pinned] [(0, .ref a_x), (3, .int r1)] 26 [.int t3] := by
      intro t3 hx; subst hx
      refine r_istore (pc' := 28) (lv' := [(0, .ref a_x), (3, .int r1), (4, .int t3)]) X dX6_pin_26 (by decide) [1, 2, 0] rfl rfl ?_
      refine r_aload_n (pc' := 29) X dX6_pin_28 rfl 0 rfl rfl ?_
      refine r_get (pc' := 32) X uX6_pin_X6 0 0 dX6_pin_29 rfl rfl (by decide) kX6_pin_1 rfl rfl ?_
      refine r_get (pc' := 35) X uX6_pin_X1 1 8 dX6_pin_32 rfl rfl (by decide) kX6_pin_3 rfl rfl ?_
      refine r_iload_n (pc' := 36) X dX6_pin_35 rfl 1 rfl rfl ?_
      obtain ⟨hi5, hF⟩ := g_gt hF
      refine r_iald (pc' := 37) X 3 dX6_pin_36 rfl (g_vi hi5) rfl ?_
      refine r_iload (pc' := 39) X dX6_pin_37 2 rfl rfl ?_
      refine r_icmp_ne (pc' := 42) X 45 dX6_pin_39 (by decide) rfl (fun c9 => ?_) (fun c9 => ?_)
      · replace hF := g_f c9 hF
        refine r_aload_n (pc' := 46) X dX6_pin_45 rfl 0 rfl rfl ?_
        refine r_get (pc' := 49) X uX6_pin_X6 0 0 dX6_pin_46 rfl rfl (by decide) kX6_pin_1 rfl rfl ?_
        refine r_get (pc' := 52) X uX6_pin_X1 1 8 dX6_pin_49 rfl rfl (by decide) kX6_pin_3 rfl rfl ?_
        refine r_iload_n (pc' := 53) X dX6_pin_52 rfl 1 rfl rfl ?_
        refine r_iload (pc' := 55) X dX6_pin_53 2 rfl rfl ?_
        obtain ⟨hi6, hF⟩ := g_gt hF
        refine r_iast (pc' := 56) (ws' := [oX6 a_x a_h a_saved_ a_c a_r a_f a_o a_s latestRefusal, oX1 a_h words depth allocated collections freed a_owner a_fieldCount a_dataCount a_pinned a_age a_content a_roots a_weaks a_movedTo a_reports, oI a_owner cI 200 owner, oI a_pinned cI 200 (upd pinned r1.toNatClampNeg t3)]) X 3 dX6_pin_55 rfl (g_vi hi6) rfl rfl ?_
        refine r_aload_n (pc' := 57) X dX6_pin_56 rfl 0 rfl rfl ?_
        refine r_get (pc' := 60) X uX6_pin_X6 0 0 dX6_pin_57 rfl rfl (by decide) kX6_pin_1 rfl rfl ?_
        obtain ⟨r7, hc8, hF⟩ := g_bd hF
        refine r_callVF (pc' := 63) (ws' := [oX6 a_x a_h a_saved_ a_c a_r a_f a_o a_s latestRefusal, oX1 a_h words depth allocated collections freed a_owner a_fieldCount a_dataCount a_pinned a_age a_content a_roots a_weaks a_movedTo a_reports, oI a_owner cI 200 owner, oI a_pinned cI 200 (upd pinned r1.toNatClampNeg t3)]) (st' := [.int r7]) X (mX1_pinnedCount D cI cZ cH a_h a_owner a_pinned a_fieldCount a_dataCount a_age a_content a_roots a_weaks a_movedTo a_reports words depth allocated collections freed owner (upd pinned r1.toNatClampNeg t3) r7 hc8) 0 gX6_pin_X1_pinnedCount rfl (by decide +kernel) rfl rfl ⟨Nat.le_of_ble_eq_true rfl, Nat.le_of_ble_eq_true rfl⟩ ⟨Nat.le_of_ble_eq_true rfl, Nat.le_of_ble_eq_true rfl⟩ rfl (Nat.le_of_ble_eq_true rfl) dX6_pin_60 1 rfl rfl [1, 2, 3] rfl rfl rfl rfl rfl rfl ?_
        cases hF
        exact RT.1 0 0 _ _ _ _ .int rfl rfl dX6_pin_63 ⟨rfl, rfl⟩ (Nat.le_refl 0) (Nat.le_refl 0)
      · replace hF := g_t c9 hF
        refine r_ldc (pc' := 44) X dX6_pin_42 kX6_pin_4 rfl ?_
        cases hF
        exact RT.1 0 0 _ _ _ _ .int rfl rfl dX6_pin_44 ⟨rfl, rfl⟩ (Nat.le_refl 0) (Nat.le_refl 0)
    replace hF := hR
    refine r_if_eq (pc' := 21) X 25 dX6_pin_18 (by decide) rfl (fun c9 => ?_) (fun c9 => ?_)
    · replace hF := g_t c9 hF
      refine r_iconst (pc' := 26) X (0 : Int32) dX6_pin_25 (by decide) rfl ?_
      refine r_sub (lv' := [(0, .ref a_x), (3, .int r1)]) X [0, 3] rfl ?_
      exact hJ4 (0 : Int32) (Option.some.inj hF)
    · replace hF := g_f c9 hF
      refine r_iconst (pc' := 22) X (1 : Int32) dX6_pin_21 (by decide) rfl ?_
      refine r_goto X 26 dX6_pin_22 (by decide) ?_
      refine r_sub (lv' := [(0, .ref a_x), (3, .int r1)]) X [0, 3] rfl ?_
      exact hJ4 (1 : Int32) (Option.some.inj hF)
  · replace hF := g_t c9 hF
    refine r_ldc (pc' := 16) X dX6_pin_14 kX6_pin_2 rfl ?_
    cases hF
    exact RT.1 0 0 _ _ _ _ .int rfl rfl dX6_pin_16 ⟨rfl, rfl⟩ (Nat.le_refl 0) (Nat.le_refl 0)
theorem kX6_setRoot_2 : Cond.constant RX6 63 (-1000002) ∈ wsX6_setRoot := List.mem_of_getElem? (i := 2) (by decide +kernel)
theorem kX6_setRoot_1 : Cond.fieldLink RX6 12 "IslandHeap" "heap" "LIslandHeap$Heap;" ∈ wsX6_setRoot := List.mem_of_getElem? (i := 1) (by decide +kernel)
theorem kX6_setRoot_3 : Cond.fieldLink RX6 122 "IslandHeap$Heap" "roots" "[I" ∈ wsX6_setRoot := List.mem_of_getElem? (i := 3) (by decide +kernel)
theorem uX6_setRoot_X6 : ∀ w ∈ u_ws RX6 TX6 8, w ∈ wsX6_setRoot := by decide +kernel
theorem uX6_setRoot_X1 : ∀ w ∈ u_ws RX1 TX1 15, w ∈ wsX6_setRoot := by decide +kernel
set_option maxHeartbeats 4000000 in
set_option maxRecDepth 100000 in
theorem mX6_setRoot (D : va_G) (cI cZ cH : ClassId) (a_x : Nat) (a_h : Nat) (a_owner : Nat) (a_roots : Nat) (a_saved_ : Nat) (a_c : Nat) (a_r : Nat) (a_f : Nat) (a_o : Nat) (a_s : Nat) (a_fieldCount : Nat) (a_dataCount : Nat) (a_pinned : Nat) (a_age : Nat) (a_content : Nat) (a_weaks : Nat) (a_movedTo : Nat) (a_reports : Nat) (latestRefusal : Int32) (words : Int32) (depth : Int32) (allocated : Int32) (collections : Int32) (freed : Int32) (owner : Nat → Int32) (roots : Nat → Int32) (p1 : Int32) (p2 : Int32) (r0 : Int32) (w_roots : Nat → Int32) (hF : FX6_setRoot words owner roots p1 p2 = some (r0, w_roots)) : g_CM yX6_setRoot wsX6_setRoot ({ frames := 3, cells := 0, slots := 0, locals := 63 }) D cI cZ cH [.ref a_x, .int p1, .int p2] [oX6 a_x a_h a_saved_ a_c a_r a_f a_o a_s latestRefusal, oX1 a_h words depth allocated collections freed a_owner a_fieldCount a_dataCount a_pinned a_age a_content a_roots a_weaks a_movedTo a_reports, oI a_owner cI 200 owner, oI a_roots cI 6 roots] 0 0 (g_Tm (some (.int r0)) [oX6 a_x a_h a_saved_ a_c a_r a_f a_o a_s latestRefusal, oX1 a_h words depth allocated collections freed a_owner a_fieldCount a_dataCount a_pinned a_age a_content a_roots a_weaks a_movedTo a_reports, oI a_owner cI 200 owner, oI a_roots cI 6 w_roots]) := by
  refine g_met (own := RX6) (mn := "setRoot") (cc := cX6_setRoot) (maxL := 3) (ret := (some .int)) rfl rfl (by decide +kernel) rfl (Nat.le_of_ble_eq_true rfl) (fun G X RT => ?_)
  show G 0 0 [oX6 a_x a_h a_saved_ a_c a_r a_f a_o a_s latestRefusal, oX1 a_h words depth allocated collections freed a_owner a_fieldCount a_dataCount a_pinned a_age a_content a_roots a_weaks a_movedTo a_reports, oI a_owner cI 200 owner, oI a_roots cI 6 roots] [(0, .ref a_x), (1, .int p1), (2, .int p2)] 0 []
  unfold FX6_setRoot at hF
  refine r_iload_n (pc' := 1) X dX6_setRoot_0 rfl 1 rfl rfl ?_
  refine r_if_lt (pc' := 4) X 21 dX6_setRoot_1 (by decide) rfl (fun c9 => ?_) (fun c9 => ?_)
  · replace hF := g_t c9 hF
    refine r_ldc (pc' := 23) X dX6_setRoot_21 kX6_setRoot_2 rfl ?_
    cases hF
    exact RT.1 0 0 _ _ _ _ .int rfl rfl dX6_setRoot_23 ⟨rfl, rfl⟩ (Nat.le_refl 0) (Nat.le_refl 0)
  · replace hF := g_f c9 hF
    refine r_iload_n (pc' := 5) X dX6_setRoot_4 rfl 1 rfl rfl ?_
    refine r_bipush (pc' := 7) X (6 : Int32) dX6_setRoot_5 (by decide) rfl ?_
    refine r_icmp_ge (pc' := 10) X 21 dX6_setRoot_7 (by decide) rfl (fun c9 => ?_) (fun c9 => ?_)
    · replace hF := g_t c9 hF
      refine r_ldc (pc' := 23) X dX6_setRoot_21 kX6_setRoot_2 rfl ?_
      cases hF
      exact RT.1 0 0 _ _ _ _ .int rfl rfl dX6_setRoot_23 ⟨rfl, rfl⟩ (Nat.le_refl 0) (Nat.le_refl 0)
    · replace hF := g_f c9 hF
      refine r_aload_n (pc' := 11) X dX6_setRoot_10 rfl 0 rfl rfl ?_
      refine r_get (pc' := 14) X uX6_setRoot_X6 0 0 dX6_setRoot_11 rfl rfl (by decide) kX6_setRoot_1 rfl rfl ?_
      refine r_iload_n (pc' := 15) X dX6_setRoot_14 rfl 2 rfl rfl ?_
      obtain ⟨r1, hc2, hF⟩ := g_bd hF
      refine r_callVF (pc' := 18) (ws' := [oX6 a_x a_h a_saved_ a_c a_r a_f a_o a_s latestRefusal, oX1 a_h words depth allocated collections freed a_owner a_fieldCount a_dataCount a_pinned a_age a_content a_roots a_weaks a_movedTo a_reports, oI a_owner cI 200 owner, oI a_roots cI 6 roots]) (st' := [.int r1]) X (mX1_isReference D cI cZ cH a_h a_owner a_fieldCount a_dataCount a_pinned a_age a_content a_roots a_weaks a_movedTo a_reports words depth allocated collections freed owner p2 r1 hc2) 1 gX6_setRoot_X1_isReference rfl (by decide +kernel) rfl rfl ⟨Nat.le_of_ble_eq_true rfl, Nat.le_of_ble_eq_true rfl⟩ ⟨Nat.le_of_ble_eq_true rfl, Nat.le_of_ble_eq_true rfl⟩ rfl (Nat.le_of_ble_eq_true rfl) dX6_setRoot_15 1 rfl rfl [1, 2] rfl rfl rfl rfl rfl rfl ?_
      refine r_if_ne (pc' := 21) X 24 dX6_setRoot_18 (by decide) rfl (fun c9 => ?_) (fun c9 => ?_)
      · replace hF := g_f c9 hF
        refine r_aload_n (pc' := 25) X dX6_setRoot_24 rfl 0 rfl rfl ?_
        refine r_get (pc' := 28) X uX6_setRoot_X6 0 0 dX6_setRoot_25 rfl rfl (by decide) kX6_setRoot_1 rfl rfl ?_
        refine r_get (pc' := 31) X uX6_setRoot_X1 1 11 dX6_setRoot_28 rfl rfl (by decide) kX6_setRoot_3 rfl rfl ?_
        refine r_iload_n (pc' := 32) X dX6_setRoot_31 rfl 1 rfl rfl ?_
        refine r_iload_n (pc' := 33) X dX6_setRoot_32 rfl 2 rfl rfl ?_
        obtain ⟨⟨r3, roots_4⟩, hc5, hF⟩ := g_bd hF
        refine r_callSF (pc' := 36) (ws' := [oX6 a_x a_h a_saved_ a_c a_r a_f a_o a_s latestRefusal, oX1 a_h words depth allocated collections freed a_owner a_fieldCount a_dataCount a_pinned a_age a_content a_roots a_weaks a_movedTo a_reports, oI a_owner cI 200 owner, oI a_roots cI 6 roots_4]) (st' := [.int r3]) X (mX6_exchange D cI cZ cH a_roots roots 6 p1 p2 r3 roots_4 hc5) 3 gX6_setRoot_X6_exchange rfl (by decide +kernel) rfl rfl ⟨Nat.le_of_ble_eq_true rfl, Nat.le_of_ble_eq_true rfl⟩ ⟨Nat.le_of_ble_eq_true rfl, Nat.le_of_ble_eq_true rfl⟩ rfl (Nat.le_of_ble_eq_true rfl) dX6_setRoot_33 [3] rfl rfl rfl rfl rfl rfl ?_
        cases hF
        exact RT.1 0 0 _ _ _ _ .int rfl rfl dX6_setRoot_36 ⟨rfl, rfl⟩ (Nat.le_refl 0) (Nat.le_refl 0)
      · replace hF := g_t c9 hF
        refine r_ldc (pc' := 23) X dX6_setRoot_21 kX6_setRoot_2 rfl ?_
        cases hF
        exact RT.1 0 0 _ _ _ _ .int rfl rfl dX6_setRoot_23 ⟨rfl, rfl⟩ (Nat.le_refl 0) (Nat.le_refl 0)
theorem kX6_root_1 : Cond.constant RX6 63 (-1000002) ∈ wsX6_root := List.mem_of_getElem? (i := 1) (by decide +kernel)
theorem kX6_root_2 : Cond.fieldLink RX6 12 "IslandHeap" "heap" "LIslandHeap$Heap;" ∈ wsX6_root := List.mem_of_getElem? (i := 2) (by decide +kernel)
theorem kX6_root_3 : Cond.fieldLink RX6 122 "IslandHeap$Heap" "roots" "[I" ∈ wsX6_root := List.mem_of_getElem? (i := 3) (by decide +kernel)
theorem uX6_root_X6 : ∀ w ∈ u_ws RX6 TX6 8, w ∈ wsX6_root := by decide +kernel
theorem uX6_root_X1 : ∀ w ∈ u_ws RX1 TX1 15, w ∈ wsX6_root := by decide +kernel
set_option maxHeartbeats 4000000 in
set_option maxRecDepth 100000 in
theorem mX6_root (D : va_G) (cI cZ cH : ClassId) (a_x : Nat) (a_h : Nat) (a_roots : Nat) (a_saved_ : Nat) (a_c : Nat) (a_r : Nat) (a_f : Nat) (a_o : Nat) (a_s : Nat) (a_owner : Nat) (a_fieldCount : Nat) (a_dataCount : Nat) (a_pinned : Nat) (a_age : Nat) (a_content : Nat) (a_weaks : Nat) (a_movedTo : Nat) (a_reports : Nat) (latestRefusal : Int32) (words : Int32) (depth : Int32) (allocated : Int32) (collections : Int32) (freed : Int32) (roots : Nat → Int32) (p1 : Int32) (r0 : Int32) (hF : FX6_root roots p1 = some r0) : g_CM yX6_root wsX6_root ({ frames := 0, cells := 0, slots := 0, locals := 0 }) D cI cZ cH [.ref a_x, .int p1] [oX6 a_x a_h a_saved_ a_c a_r a_f a_o a_s latestRefusal, oX1 a_h words depth allocated collections freed a_owner a_fieldCount a_dataCount a_pinned a_age a_content a_roots a_weaks a_movedTo a_reports, oI a_roots cI 6 roots] 0 0 (g_Tm (some (.int r0)) [oX6 a_x a_h a_saved_ a_c a_r a_f a_o a_s latestRefusal, oX1 a_h words depth allocated collections freed a_owner a_fieldCount a_dataCount a_pinned a_age a_content a_roots a_weaks a_movedTo a_reports, oI a_roots cI 6 roots]) := by
  refine g_met (own := RX6) (mn := "root") (cc := cX6_root) (maxL := 2) (ret := (some .int)) rfl rfl (by decide +kernel) rfl (Nat.le_of_ble_eq_true rfl) (fun G X RT => ?_)
  show G 0 0 [oX6 a_x a_h a_saved_ a_c a_r a_f a_o a_s latestRefusal, oX1 a_h words depth allocated collections freed a_owner a_fieldCount a_dataCount a_pinned a_age a_content a_roots a_weaks a_movedTo a_reports, oI a_roots cI 6 roots] [(0, .ref a_x), (1, .int p1)] 0 []
  unfold FX6_root at hF
  refine r_iload_n (pc' := 1) X dX6_root_0 rfl 1 rfl rfl ?_
  refine r_if_lt (pc' := 4) X 10 dX6_root_1 (by decide) rfl (fun c9 => ?_) (fun c9 => ?_)
  · replace hF := g_t c9 hF
    refine r_ldc (pc' := 12) X dX6_root_10 kX6_root_1 rfl ?_
    refine r_goto X 24 dX6_root_12 (by decide) ?_
    cases hF
    exact RT.1 0 0 _ _ _ _ .int rfl rfl dX6_root_24 ⟨rfl, rfl⟩ (Nat.le_refl 0) (Nat.le_refl 0)
  · replace hF := g_f c9 hF
    refine r_iload_n (pc' := 5) X dX6_root_4 rfl 1 rfl rfl ?_
    refine r_bipush (pc' := 7) X (6 : Int32) dX6_root_5 (by decide) rfl ?_
    refine r_icmp_lt (pc' := 10) X 15 dX6_root_7 (by decide) rfl (fun c9 => ?_) (fun c9 => ?_)
    · replace hF := g_t c9 hF
      refine r_aload_n (pc' := 16) X dX6_root_15 rfl 0 rfl rfl ?_
      refine r_get (pc' := 19) X uX6_root_X6 0 0 dX6_root_16 rfl rfl (by decide) kX6_root_2 rfl rfl ?_
      refine r_get (pc' := 22) X uX6_root_X1 1 11 dX6_root_19 rfl rfl (by decide) kX6_root_3 rfl rfl ?_
      refine r_iload_n (pc' := 23) X dX6_root_22 rfl 1 rfl rfl ?_
      obtain ⟨hi1, hF⟩ := g_gt hF
      refine r_iald (pc' := 24) X 2 dX6_root_23 rfl (g_vi hi1) rfl ?_
      cases hF
      exact RT.1 0 0 _ _ _ _ .int rfl rfl dX6_root_24 ⟨rfl, rfl⟩ (Nat.le_refl 0) (Nat.le_refl 0)
    · replace hF := g_f c9 hF
      refine r_ldc (pc' := 12) X dX6_root_10 kX6_root_1 rfl ?_
      refine r_goto X 24 dX6_root_12 (by decide) ?_
      cases hF
      exact RT.1 0 0 _ _ _ _ .int rfl rfl dX6_root_24 ⟨rfl, rfl⟩ (Nat.le_refl 0) (Nat.le_refl 0)
theorem kX6_setWeak_2 : Cond.constant RX6 63 (-1000002) ∈ wsX6_setWeak := List.mem_of_getElem? (i := 2) (by decide +kernel)
theorem kX6_setWeak_1 : Cond.fieldLink RX6 12 "IslandHeap" "heap" "LIslandHeap$Heap;" ∈ wsX6_setWeak := List.mem_of_getElem? (i := 1) (by decide +kernel)
theorem kX6_setWeak_3 : Cond.fieldLink RX6 125 "IslandHeap$Heap" "weaks" "[I" ∈ wsX6_setWeak := List.mem_of_getElem? (i := 3) (by decide +kernel)
theorem uX6_setWeak_X6 : ∀ w ∈ u_ws RX6 TX6 8, w ∈ wsX6_setWeak := by decide +kernel
theorem uX6_setWeak_X1 : ∀ w ∈ u_ws RX1 TX1 15, w ∈ wsX6_setWeak := by decide +kernel
set_option maxHeartbeats 4000000 in
set_option maxRecDepth 100000 in
theorem mX6_setWeak (D : va_G) (cI cZ cH : ClassId) (a_x : Nat) (a_h : Nat) (a_owner : Nat) (a_weaks : Nat) (a_saved_ : Nat) (a_c : Nat) (a_r : Nat) (a_f : Nat) (a_o : Nat) (a_s : Nat) (a_fieldCount : Nat) (a_dataCount : Nat) (a_pinned : Nat) (a_age : Nat) (a_content : Nat) (a_roots : Nat) (a_movedTo : Nat) (a_reports : Nat) (latestRefusal : Int32) (words : Int32) (depth : Int32) (allocated : Int32) (collections : Int32) (freed : Int32) (owner : Nat → Int32) (weaks : Nat → Int32) (p1 : Int32) (p2 : Int32) (r0 : Int32) (w_weaks : Nat → Int32) (hF : FX6_setWeak words owner weaks p1 p2 = some (r0, w_weaks)) : g_CM yX6_setWeak wsX6_setWeak ({ frames := 3, cells := 0, slots := 0, locals := 63 }) D cI cZ cH [.ref a_x, .int p1, .int p2] [oX6 a_x a_h a_saved_ a_c a_r a_f a_o a_s latestRefusal, oX1 a_h words depth allocated collections freed a_owner a_fieldCount a_dataCount a_pinned a_age a_content a_roots a_weaks a_movedTo a_reports, oI a_owner cI 200 owner, oI a_weaks cI 4 weaks] 0 0 (g_Tm (some (.int r0)) [oX6 a_x a_h a_saved_ a_c a_r a_f a_o a_s latestRefusal, oX1 a_h words depth allocated collections freed a_owner a_fieldCount a_dataCount a_pinned a_age a_content a_roots a_weaks a_movedTo a_reports, oI a_owner cI 200 owner, oI a_weaks cI 4 w_weaks]) := by
  refine g_met (own := RX6) (mn := "setWeak") (cc := cX6_setWeak) (maxL := 3) (ret := (some .int)) rfl rfl (by decide +kernel) rfl (Nat.le_of_ble_eq_true rfl) (fun G X RT => ?_)
  show G 0 0 [oX6 a_x a_h a_saved_ a_c a_r a_f a_o a_s latestRefusal, oX1 a_h words depth allocated collections freed a_owner a_fieldCount a_dataCount a_pinned a_age a_content a_roots a_weaks a_movedTo a_reports, oI a_owner cI 200 owner, oI a_weaks cI 4 weaks] [(0, .ref a_x), (1, .int p1), (2, .int p2)] 0 []
  unfold FX6_setWeak at hF
  refine r_iload_n (pc' := 1) X dX6_setWeak_0 rfl 1 rfl rfl ?_
  refine r_if_lt (pc' := 4) X 20 dX6_setWeak_1 (by decide) rfl (fun c9 => ?_) (fun c9 => ?_)
  · replace hF := g_t c9 hF
    refine r_ldc (pc' := 22) X dX6_setWeak_20 kX6_setWeak_2 rfl ?_
    cases hF
    exact RT.1 0 0 _ _ _ _ .int rfl rfl dX6_setWeak_22 ⟨rfl, rfl⟩ (Nat.le_refl 0) (Nat.le_refl 0)
  · replace hF := g_f c9 hF
    refine r_iload_n (pc' := 5) X dX6_setWeak_4 rfl 1 rfl rfl ?_
    refine r_iconst (pc' := 6) X (4 : Int32) dX6_setWeak_5 (by decide) rfl ?_
    refine r_icmp_ge (pc' := 9) X 20 dX6_setWeak_6 (by decide) rfl (fun c9 => ?_) (fun c9 => ?_)
    · replace hF := g_t c9 hF
      refine r_ldc (pc' := 22) X dX6_setWeak_20 kX6_setWeak_2 rfl ?_
      cases hF
      exact RT.1 0 0 _ _ _ _ .int rfl rfl dX6_setWeak_22 ⟨rfl, rfl⟩ (Nat.le_refl 0) (Nat.le_refl 0)
    · replace hF := g_f c9 hF
      refine r_aload_n (pc' := 10) X dX6_setWeak_9 rfl 0 rfl rfl ?_
      refine r_get (pc' := 13) X uX6_setWeak_X6 0 0 dX6_setWeak_10 rfl rfl (by decide) kX6_setWeak_1 rfl rfl ?_
      refine r_iload_n (pc' := 14) X dX6_setWeak_13 rfl 2 rfl rfl ?_
      obtain ⟨r1, hc2, hF⟩ := g_bd hF
      refine r_callVF (pc' := 17) (ws' := [oX6 a_x a_h a_saved_ a_c a_r a_f a_o a_s latestRefusal, oX1 a_h words depth allocated collections freed a_owner a_fieldCount a_dataCount a_pinned a_age a_content a_roots a_weaks a_movedTo a_reports, oI a_owner cI 200 owner, oI a_weaks cI 4 weaks]) (st' := [.int r1]) X (mX1_isReference D cI cZ cH a_h a_owner a_fieldCount a_dataCount a_pinned a_age a_content a_roots a_weaks a_movedTo a_reports words depth allocated collections freed owner p2 r1 hc2) 1 gX6_setWeak_X1_isReference rfl (by decide +kernel) rfl rfl ⟨Nat.le_of_ble_eq_true rfl, Nat.le_of_ble_eq_true rfl⟩ ⟨Nat.le_of_ble_eq_true rfl, Nat.le_of_ble_eq_true rfl⟩ rfl (Nat.le_of_ble_eq_true rfl) dX6_setWeak_14 1 rfl rfl [1, 2] rfl rfl rfl rfl rfl rfl ?_
      refine r_if_ne (pc' := 20) X 23 dX6_setWeak_17 (by decide) rfl (fun c9 => ?_) (fun c9 => ?_)
      · replace hF := g_f c9 hF
        refine r_aload_n (pc' := 24) X dX6_setWeak_23 rfl 0 rfl rfl ?_
        refine r_get (pc' := 27) X uX6_setWeak_X6 0 0 dX6_setWeak_24 rfl rfl (by decide) kX6_setWeak_1 rfl rfl ?_
        refine r_get (pc' := 30) X uX6_setWeak_X1 1 12 dX6_setWeak_27 rfl rfl (by decide) kX6_setWeak_3 rfl rfl ?_
        refine r_iload_n (pc' := 31) X dX6_setWeak_30 rfl 1 rfl rfl ?_
        refine r_iload_n (pc' := 32) X dX6_setWeak_31 rfl 2 rfl rfl ?_
        obtain ⟨⟨r3, weaks_4⟩, hc5, hF⟩ := g_bd hF
        refine r_callSF (pc' := 35) (ws' := [oX6 a_x a_h a_saved_ a_c a_r a_f a_o a_s latestRefusal, oX1 a_h words depth allocated collections freed a_owner a_fieldCount a_dataCount a_pinned a_age a_content a_roots a_weaks a_movedTo a_reports, oI a_owner cI 200 owner, oI a_weaks cI 4 weaks_4]) (st' := [.int r3]) X (mX6_exchange D cI cZ cH a_weaks weaks 4 p1 p2 r3 weaks_4 hc5) 3 gX6_setWeak_X6_exchange rfl (by decide +kernel) rfl rfl ⟨Nat.le_of_ble_eq_true rfl, Nat.le_of_ble_eq_true rfl⟩ ⟨Nat.le_of_ble_eq_true rfl, Nat.le_of_ble_eq_true rfl⟩ rfl (Nat.le_of_ble_eq_true rfl) dX6_setWeak_32 [3] rfl rfl rfl rfl rfl rfl ?_
        cases hF
        exact RT.1 0 0 _ _ _ _ .int rfl rfl dX6_setWeak_35 ⟨rfl, rfl⟩ (Nat.le_refl 0) (Nat.le_refl 0)
      · replace hF := g_t c9 hF
        refine r_ldc (pc' := 22) X dX6_setWeak_20 kX6_setWeak_2 rfl ?_
        cases hF
        exact RT.1 0 0 _ _ _ _ .int rfl rfl dX6_setWeak_22 ⟨rfl, rfl⟩ (Nat.le_refl 0) (Nat.le_refl 0)
theorem kX6_weak_1 : Cond.constant RX6 63 (-1000002) ∈ wsX6_weak := List.mem_of_getElem? (i := 1) (by decide +kernel)
theorem kX6_weak_2 : Cond.fieldLink RX6 12 "IslandHeap" "heap" "LIslandHeap$Heap;" ∈ wsX6_weak := List.mem_of_getElem? (i := 2) (by decide +kernel)
theorem kX6_weak_3 : Cond.fieldLink RX6 125 "IslandHeap$Heap" "weaks" "[I" ∈ wsX6_weak := List.mem_of_getElem? (i := 3) (by decide +kernel)
theorem uX6_weak_X6 : ∀ w ∈ u_ws RX6 TX6 8, w ∈ wsX6_weak := by decide +kernel
theorem uX6_weak_X1 : ∀ w ∈ u_ws RX1 TX1 15, w ∈ wsX6_weak := by decide +kernel
set_option maxHeartbeats 4000000 in
set_option maxRecDepth 100000 in
theorem mX6_weak (D : va_G) (cI cZ cH : ClassId) (a_x : Nat) (a_h : Nat) (a_weaks : Nat) (a_saved_ : Nat) (a_c : Nat) (a_r : Nat) (a_f : Nat) (a_o : Nat) (a_s : Nat) (a_owner : Nat) (a_fieldCount : Nat) (a_dataCount : Nat) (a_pinned : Nat) (a_age : Nat) (a_content : Nat) (a_roots : Nat) (a_movedTo : Nat) (a_reports : Nat) (latestRefusal : Int32) (words : Int32) (depth : Int32) (allocated : Int32) (collections : Int32) (freed : Int32) (weaks : Nat → Int32) (p1 : Int32) (r0 : Int32) (hF : FX6_weak weaks p1 = some r0) : g_CM yX6_weak wsX6_weak ({ frames := 0, cells := 0, slots := 0, locals := 0 }) D cI cZ cH [.ref a_x, .int p1] [oX6 a_x a_h a_saved_ a_c a_r a_f a_o a_s latestRefusal, oX1 a_h words depth allocated collections freed a_owner a_fieldCount a_dataCount a_pinned a_age a_content a_roots a_weaks a_movedTo a_reports, oI a_weaks cI 4 weaks] 0 0 (g_Tm (some (.int r0)) [oX6 a_x a_h a_saved_ a_c a_r a_f a_o a_s latestRefusal, oX1 a_h words depth allocated collections freed a_owner a_fieldCount a_dataCount a_pinned a_age a_content a_roots a_weaks a_movedTo a_reports, oI a_weaks cI 4 weaks]) := by
  refine g_met (own := RX6) (mn := "weak") (cc := cX6_weak) (maxL := 2) (ret := (some .int)) rfl rfl (by decide +kernel) rfl (Nat.le_of_ble_eq_true rfl) (fun G X RT => ?_)
  show G 0 0 [oX6 a_x a_h a_saved_ a_c a_r a_f a_o a_s latestRefusal, oX1 a_h words depth allocated collections freed a_owner a_fieldCount a_dataCount a_pinned a_age a_content a_roots a_weaks a_movedTo a_reports, oI a_weaks cI 4 weaks] [(0, .ref a_x), (1, .int p1)] 0 []
  unfold FX6_weak at hF
  refine r_iload_n (pc' := 1) X dX6_weak_0 rfl 1 rfl rfl ?_
  refine r_if_lt (pc' := 4) X 9 dX6_weak_1 (by decide) rfl (fun c9 => ?_) (fun c9 => ?_)
  · replace hF := g_t c9 hF
    refine r_ldc (pc' := 11) X dX6_weak_9 kX6_weak_1 rfl ?_
    refine r_goto X 23 dX6_weak_11 (by decide) ?_
    cases hF
    exact RT.1 0 0 _ _ _ _ .int rfl rfl dX6_weak_23 ⟨rfl, rfl⟩ (Nat.le_refl 0) (Nat.le_refl 0)
  · replace hF := g_f c9 hF
    refine r_iload_n (pc' := 5) X dX6_weak_4 rfl 1 rfl rfl ?_
    refine r_iconst (pc' := 6) X (4 : Int32) dX6_weak_5 (by decide) rfl ?_
    refine r_icmp_lt (pc' := 9) X 14 dX6_weak_6 (by decide) rfl (fun c9 => ?_) (fun c9 => ?_)
    · replace hF := g_t c9 hF
      refine r_aload_n (pc' := 15) X dX6_weak_14 rfl 0 rfl rfl ?_
      refine r_get (pc' := 18) X uX6_weak_X6 0 0 dX6_weak_15 rfl rfl (by decide) kX6_weak_2 rfl rfl ?_
      refine r_get (pc' := 21) X uX6_weak_X1 1 12 dX6_weak_18 rfl rfl (by decide) kX6_weak_3 rfl rfl ?_
      refine r_iload_n (pc' := 22) X dX6_weak_21 rfl 1 rfl rfl ?_
      obtain ⟨hi1, hF⟩ := g_gt hF
      refine r_iald (pc' := 23) X 2 dX6_weak_22 rfl (g_vi hi1) rfl ?_
      cases hF
      exact RT.1 0 0 _ _ _ _ .int rfl rfl dX6_weak_23 ⟨rfl, rfl⟩ (Nat.le_refl 0) (Nat.le_refl 0)
    · replace hF := g_f c9 hF
      refine r_ldc (pc' := 11) X dX6_weak_9 kX6_weak_1 rfl ?_
      refine r_goto X 23 dX6_weak_11 (by decide) ?_
      cases hF
      exact RT.1 0 0 _ _ _ _ .int rfl rfl dX6_weak_23 ⟨rfl, rfl⟩ (Nat.le_refl 0) (Nat.le_refl 0)
theorem kX6_collect_1 : Cond.fieldLink RX6 12 "IslandHeap" "heap" "LIslandHeap$Heap;" ∈ wsX6_collect := List.mem_of_getElem? (i := 1) (by decide +kernel)
theorem kX6_collect_2 : Cond.fieldLink RX6 27 "IslandHeap" "collector" "LIslandHeap$Collector;" ∈ wsX6_collect := List.mem_of_getElem? (i := 2) (by decide +kernel)
theorem kX6_collect_3 : Cond.fieldLink RX6 143 "IslandHeap$Heap" "collections" "I" ∈ wsX6_collect := List.mem_of_getElem? (i := 3) (by decide +kernel)
theorem kX6_collect_4 : Cond.fieldLink RX6 146 "IslandHeap$Heap" "freed" "I" ∈ wsX6_collect := List.mem_of_getElem? (i := 4) (by decide +kernel)
theorem uX6_collect_X6 : ∀ w ∈ u_ws RX6 TX6 8, w ∈ wsX6_collect := by decide +kernel
theorem uX6_collect_X1 : ∀ w ∈ u_ws RX1 TX1 15, w ∈ wsX6_collect := by decide +kernel
set_option maxHeartbeats 4000000 in
set_option maxRecDepth 100000 in
theorem mX6_collect (D : va_G) (cI cZ cH : ClassId) (a_x : Nat) (a_h : Nat) (a_owner : Nat) (a_fieldCount : Nat) (a_dataCount : Nat) (a_pinned : Nat) (a_age : Nat) (a_content : Nat) (a_roots : Nat) (a_weaks : Nat) (a_movedTo : Nat) (a_reports : Nat) (a_c : Nat) (a_marked : Nat) (a_stack : Nat) (a_saved_ : Nat) (a_r : Nat) (a_f : Nat) (a_o : Nat) (a_s : Nat) (latestRefusal : Int32) (words : Int32) (depth : Int32) (allocated : Int32) (collections : Int32) (freed : Int32) (owner : Nat → Int32) (fieldCount : Nat → Int32) (dataCount : Nat → Int32) (pinned : Nat → Int32) (age : Nat → Int32) (content : Nat → Int32) (roots : Nat → Int32) (weaks : Nat → Int32) (movedTo : Nat → Int32) (reports : Nat → Int32) (stacked : Int32) (deepest : Int32) (scans : Int32) (overflow : Int32) (marked : Nat → Int32) (stack : Nat → Int32) (r0 : Int32) (w_collections : Int32) (w_freed : Int32) (w_owner : Nat → Int32) (w_fieldCount : Nat → Int32) (w_dataCount : Nat → Int32) (w_pinned : Nat → Int32) (w_age : Nat → Int32) (w_content : Nat → Int32) (w_roots : Nat → Int32) (w_weaks : Nat → Int32) (w_movedTo : Nat → Int32) (w_reports : Nat → Int32) (w_stacked : Int32) (w_deepest : Int32) (w_scans : Int32) (w_overflow : Int32) (w_marked : Nat → Int32) (w_stack : Nat → Int32) (hF : FX6_collect words depth collections freed owner fieldCount dataCount pinned age content roots weaks movedTo reports stacked deepest scans overflow marked stack = some (r0, w_collections, w_freed, w_owner, w_fieldCount, w_dataCount, w_pinned, w_age, w_content, w_roots, w_weaks, w_movedTo, w_reports, w_stacked, w_deepest, w_scans, w_overflow, w_marked, w_stack)) : g_CM yX6_collect wsX6_collect ({ frames := 5, cells := 0, slots := 0, locals := 111 }) D cI cZ cH [.ref a_x] [oX6 a_x a_h a_saved_ a_c a_r a_f a_o a_s latestRefusal, oX1 a_h words depth allocated collections freed a_owner a_fieldCount a_dataCount a_pinned a_age a_content a_roots a_weaks a_movedTo a_reports, oI a_owner cI 200 owner, oI a_fieldCount cI 200 fieldCount, oI a_dataCount cI 200 dataCount, oI a_pinned cI 200 pinned, oI a_age cI 200 age, oI a_content cI 200 content, oI a_roots cI 6 roots, oI a_weaks cI 4 weaks, oI a_movedTo cI 200 movedTo, oI a_reports cI 6 reports, oX0 a_c a_marked a_stack stacked deepest scans overflow, oZ a_marked cZ 200 marked, oI a_stack cI 20 stack] 0 0 (g_Tm (some (.int r0)) [oX6 a_x a_h a_saved_ a_c a_r a_f a_o a_s latestRefusal, oX1 a_h words depth allocated w_collections w_freed a_owner a_fieldCount a_dataCount a_pinned a_age a_content a_roots a_weaks a_movedTo a_reports, oI a_owner cI 200 w_owner, oI a_fieldCount cI 200 w_fieldCount, oI a_dataCount cI 200 w_dataCount, oI a_pinned cI 200 w_pinned, oI a_age cI 200 w_age, oI a_content cI 200 w_content, oI a_roots cI 6 w_roots, oI a_weaks cI 4 w_weaks, oI a_movedTo cI 200 w_movedTo, oI a_reports cI 6 w_reports, oX0 a_c a_marked a_stack w_stacked w_deepest w_scans w_overflow, oZ a_marked cZ 200 w_marked, oI a_stack cI 20 w_stack]) := by
  refine g_met (own := RX6) (mn := "collect") (cc := cX6_collect) (maxL := 3) (ret := (some .int)) rfl rfl (by decide +kernel) rfl (Nat.le_of_ble_eq_true rfl) (fun G X RT => ?_)
  show G 0 0 [oX6 a_x a_h a_saved_ a_c a_r a_f a_o a_s latestRefusal, oX1 a_h words depth allocated collections freed a_owner a_fieldCount a_dataCount a_pinned a_age a_content a_roots a_weaks a_movedTo a_reports, oI a_owner cI 200 owner, oI a_fieldCount cI 200 fieldCount, oI a_dataCount cI 200 dataCount, oI a_pinned cI 200 pinned, oI a_age cI 200 age, oI a_content cI 200 content, oI a_roots cI 6 roots, oI a_weaks cI 4 weaks, oI a_movedTo cI 200 movedTo, oI a_reports cI 6 reports, oX0 a_c a_marked a_stack stacked deepest scans overflow, oZ a_marked cZ 200 marked, oI a_stack cI 20 stack] [(0, .ref a_x)] 0 []
  unfold FX6_collect at hF
  refine r_aload_n (pc' := 1) X dX6_collect_0 rfl 0 rfl rfl ?_
  refine r_get (pc' := 4) X uX6_collect_X6 0 0 dX6_collect_1 rfl rfl (by decide) kX6_collect_1 rfl rfl ?_
  obtain ⟨r1, hc2, hF⟩ := g_bd hF
  refine r_callVF (pc' := 7) (ws' := [oX6 a_x a_h a_saved_ a_c a_r a_f a_o a_s latestRefusal, oX1 a_h words depth allocated collections freed a_owner a_fieldCount a_dataCount a_pinned a_age a_content a_roots a_weaks a_movedTo a_reports, oI a_owner cI 200 owner, oI a_fieldCount cI 200 fieldCount, oI a_dataCount cI 200 dataCount, oI a_pinned cI 200 pinned, oI a_age cI 200 age, oI a_content cI 200 content, oI a_roots cI 6 roots, oI a_weaks cI 4 weaks, oI a_movedTo cI 200 movedTo, oI a_reports cI 6 reports, oX0 a_c a_marked a_stack stacked deepest scans overflow, oZ a_marked cZ 200 marked, oI a_stack cI 20 stack]) (st' := [.int r1]) X (mX1_usedWords D cI cZ cH a_h a_owner a_fieldCount a_dataCount a_pinned a_age a_content a_roots a_weaks a_movedTo a_reports words depth allocated collections freed owner r1 hc2) 0 gX6_collect_X1_usedWords rfl (by decide +kernel) rfl rfl ⟨Nat.le_of_ble_eq_true rfl, Nat.le_of_ble_eq_true rfl⟩ ⟨Nat.le_of_ble_eq_true rfl, Nat.le_of_ble_eq_true rfl⟩ rfl (Nat.le_of_ble_eq_true rfl) dX6_collect_4 1 rfl rfl [1, 2] rfl rfl rfl rfl rfl rfl ?_
  refine r_istore_n (pc' := 8) (lv' := [(0, .ref a_x), (1, .int r1)]) X dX6_collect_7 rfl (by decide) [1, 0] rfl rfl ?_
  refine r_aload_n (pc' := 9) X dX6_collect_8 rfl 0 rfl rfl ?_
  refine r_get (pc' := 12) X uX6_collect_X6 0 2 dX6_collect_9 rfl rfl (by decide) kX6_collect_2 rfl rfl ?_
  refine r_aload_n (pc' := 13) X dX6_collect_12 rfl 0 rfl rfl ?_
  refine r_get (pc' := 16) X uX6_collect_X6 0 0 dX6_collect_13 rfl rfl (by decide) kX6_collect_1 rfl rfl ?_
  obtain ⟨⟨stacked_3, deepest_4, scans_5, overflow_6, marked_7, stack_8⟩, hc9, hF⟩ := g_bd hF
  refine r_callVF (pc' := 19) (ws' := [oX6 a_x a_h a_saved_ a_c a_r a_f a_o a_s latestRefusal, oX1 a_h words depth allocated collections freed a_owner a_fieldCount a_dataCount a_pinned a_age a_content a_roots a_weaks a_movedTo a_reports, oI a_owner cI 200 owner, oI a_fieldCount cI 200 fieldCount, oI a_dataCount cI 200 dataCount, oI a_pinned cI 200 pinned, oI a_age cI 200 age, oI a_content cI 200 content, oI a_roots cI 6 roots, oI a_weaks cI 4 weaks, oI a_movedTo cI 200 movedTo, oI a_reports cI 6 reports, oX0 a_c a_marked a_stack stacked_3 deepest_4 scans_5 overflow_6, oZ a_marked cZ 200 marked_7, oI a_stack cI 20 stack_8]) (st' := []) X (mX0_mark D cI cZ cH a_c a_marked a_stack a_h a_owner a_fieldCount a_pinned a_content a_roots a_dataCount a_age a_weaks a_movedTo a_reports stacked deepest scans overflow marked stack words depth allocated collections freed owner fieldCount pinned content roots stacked_3 deepest_4 scans_5 overflow_6 marked_7 stack_8 hc9) 1 gX6_collect_X0_mark rfl (by decide +kernel) rfl rfl ⟨Nat.le_of_ble_eq_true rfl, Nat.le_of_ble_eq_true rfl⟩ ⟨Nat.le_of_ble_eq_true rfl, Nat.le_of_ble_eq_true rfl⟩ rfl (Nat.le_of_ble_eq_true rfl) dX6_collect_16 12 rfl rfl [12, 13, 14, 1, 2, 3, 5, 7, 8] rfl rfl rfl rfl rfl rfl ?_
  refine r_aload_n (pc' := 20) X dX6_collect_19 rfl 0 rfl rfl ?_
  refine r_get (pc' := 23) X uX6_collect_X6 0 2 dX6_collect_20 rfl rfl (by decide) kX6_collect_2 rfl rfl ?_
  refine r_aload_n (pc' := 24) X dX6_collect_23 rfl 0 rfl rfl ?_
  refine r_get (pc' := 27) X uX6_collect_X6 0 0 dX6_collect_24 rfl rfl (by decide) kX6_collect_1 rfl rfl ?_
  obtain ⟨⟨movedTo_10, reports_11⟩, hc12, hF⟩ := g_bd hF
  refine r_callVF (pc' := 30) (ws' := [oX6 a_x a_h a_saved_ a_c a_r a_f a_o a_s latestRefusal, oX1 a_h words depth allocated collections freed a_owner a_fieldCount a_dataCount a_pinned a_age a_content a_roots a_weaks a_movedTo a_reports, oI a_owner cI 200 owner, oI a_fieldCount cI 200 fieldCount, oI a_dataCount cI 200 dataCount, oI a_pinned cI 200 pinned, oI a_age cI 200 age, oI a_content cI 200 content, oI a_roots cI 6 roots, oI a_weaks cI 4 weaks, oI a_movedTo cI 200 movedTo_10, oI a_reports cI 6 reports_11, oX0 a_c a_marked a_stack stacked_3 deepest_4 scans_5 overflow_6, oZ a_marked cZ 200 marked_7, oI a_stack cI 20 stack_8]) (st' := []) X (mX0_plan D cI cZ cH a_c a_marked a_h a_owner a_fieldCount a_dataCount a_pinned a_movedTo a_reports a_stack a_age a_content a_roots a_weaks stacked_3 deepest_4 scans_5 overflow_6 marked_7 words depth allocated collections freed owner fieldCount dataCount pinned movedTo reports movedTo_10 reports_11 hc12) 1 gX6_collect_X0_plan rfl (by decide +kernel) rfl rfl ⟨Nat.le_of_ble_eq_true rfl, Nat.le_of_ble_eq_true rfl⟩ ⟨Nat.le_of_ble_eq_true rfl, Nat.le_of_ble_eq_true rfl⟩ rfl (Nat.le_of_ble_eq_true rfl) dX6_collect_27 12 rfl rfl [12, 13, 1, 2, 3, 4, 5, 10, 11] rfl rfl rfl rfl rfl rfl ?_
  refine r_aload_n (pc' := 31) X dX6_collect_30 rfl 0 rfl rfl ?_
  refine r_get (pc' := 34) X uX6_collect_X6 0 2 dX6_collect_31 rfl rfl (by decide) kX6_collect_2 rfl rfl ?_
  refine r_aload_n (pc' := 35) X dX6_collect_34 rfl 0 rfl rfl ?_
  refine r_get (pc' := 38) X uX6_collect_X6 0 0 dX6_collect_35 rfl rfl (by decide) kX6_collect_1 rfl rfl ?_
  obtain ⟨⟨content_13, roots_14, weaks_15⟩, hc16, hF⟩ := g_bd hF
  refine r_callVF (pc' := 41) (ws' := [oX6 a_x a_h a_saved_ a_c a_r a_f a_o a_s latestRefusal, oX1 a_h words depth allocated collections freed a_owner a_fieldCount a_dataCount a_pinned a_age a_content a_roots a_weaks a_movedTo a_reports, oI a_owner cI 200 owner, oI a_fieldCount cI 200 fieldCount, oI a_dataCount cI 200 dataCount, oI a_pinned cI 200 pinned, oI a_age cI 200 age, oI a_content cI 200 content_13, oI a_roots cI 6 roots_14, oI a_weaks cI 4 weaks_15, oI a_movedTo cI 200 movedTo_10, oI a_reports cI 6 reports_11, oX0 a_c a_marked a_stack stacked_3 deepest_4 scans_5 overflow_6, oZ a_marked cZ 200 marked_7, oI a_stack cI 20 stack_8]) (st' := []) X (mX0_redirect D cI cZ cH a_c a_marked a_h a_fieldCount a_content a_roots a_weaks a_movedTo a_stack a_owner a_dataCount a_pinned a_age a_reports stacked_3 deepest_4 scans_5 overflow_6 marked_7 words depth allocated collections freed fieldCount content roots weaks movedTo_10 content_13 roots_14 weaks_15 hc16) 1 gX6_collect_X0_redirect rfl (by decide +kernel) rfl rfl ⟨Nat.le_of_ble_eq_true rfl, Nat.le_of_ble_eq_true rfl⟩ ⟨Nat.le_of_ble_eq_true rfl, Nat.le_of_ble_eq_true rfl⟩ rfl (Nat.le_of_ble_eq_true rfl) dX6_collect_38 12 rfl rfl [12, 13, 1, 3, 7, 8, 9, 10] rfl rfl rfl rfl rfl rfl ?_
  refine r_aload_n (pc' := 42) X dX6_collect_41 rfl 0 rfl rfl ?_
  refine r_get (pc' := 45) X uX6_collect_X6 0 2 dX6_collect_42 rfl rfl (by decide) kX6_collect_2 rfl rfl ?_
  refine r_aload_n (pc' := 46) X dX6_collect_45 rfl 0 rfl rfl ?_
  refine r_get (pc' := 49) X uX6_collect_X6 0 0 dX6_collect_46 rfl rfl (by decide) kX6_collect_1 rfl rfl ?_
  obtain ⟨⟨owner_17, fieldCount_18, dataCount_19, pinned_20, age_21, content_22⟩, hc23, hF⟩ := g_bd hF
  refine r_callVF (pc' := 52) (ws' := [oX6 a_x a_h a_saved_ a_c a_r a_f a_o a_s latestRefusal, oX1 a_h words depth allocated collections freed a_owner a_fieldCount a_dataCount a_pinned a_age a_content a_roots a_weaks a_movedTo a_reports, oI a_owner cI 200 owner_17, oI a_fieldCount cI 200 fieldCount_18, oI a_dataCount cI 200 dataCount_19, oI a_pinned cI 200 pinned_20, oI a_age cI 200 age_21, oI a_content cI 200 content_22, oI a_roots cI 6 roots_14, oI a_weaks cI 4 weaks_15, oI a_movedTo cI 200 movedTo_10, oI a_reports cI 6 reports_11, oX0 a_c a_marked a_stack stacked_3 deepest_4 scans_5 overflow_6, oZ a_marked cZ 200 marked_7, oI a_stack cI 20 stack_8]) (st' := []) X (mX0_slide D cI cZ cH a_c a_marked a_h a_owner a_fieldCount a_dataCount a_pinned a_age a_content a_movedTo a_stack a_roots a_weaks a_reports stacked_3 deepest_4 scans_5 overflow_6 marked_7 words depth allocated collections freed owner fieldCount dataCount pinned age content_13 movedTo_10 owner_17 fieldCount_18 dataCount_19 pinned_20 age_21 content_22 hc23) 1 gX6_collect_X0_slide rfl (by decide +kernel) rfl rfl ⟨Nat.le_of_ble_eq_true rfl, Nat.le_of_ble_eq_true rfl⟩ ⟨Nat.le_of_ble_eq_true rfl, Nat.le_of_ble_eq_true rfl⟩ rfl (Nat.le_of_ble_eq_true rfl) dX6_collect_49 12 rfl rfl [12, 13, 1, 2, 3, 4, 5, 6, 7, 10] rfl rfl rfl rfl rfl rfl ?_
  refine r_iload_n (pc' := 53) X dX6_collect_52 rfl 1 rfl rfl ?_
  refine r_aload_n (pc' := 54) X dX6_collect_53 rfl 0 rfl rfl ?_
  refine r_get (pc' := 57) X uX6_collect_X6 0 0 dX6_collect_54 rfl rfl (by decide) kX6_collect_1 rfl rfl ?_
  obtain ⟨r24, hc25, hF⟩ := g_bd hF
  refine r_callVF (pc' := 60) (ws' := [oX6 a_x a_h a_saved_ a_c a_r a_f a_o a_s latestRefusal, oX1 a_h words depth allocated collections freed a_owner a_fieldCount a_dataCount a_pinned a_age a_content a_roots a_weaks a_movedTo a_reports, oI a_owner cI 200 owner_17, oI a_fieldCount cI 200 fieldCount_18, oI a_dataCount cI 200 dataCount_19, oI a_pinned cI 200 pinned_20, oI a_age cI 200 age_21, oI a_content cI 200 content_22, oI a_roots cI 6 roots_14, oI a_weaks cI 4 weaks_15, oI a_movedTo cI 200 movedTo_10, oI a_reports cI 6 reports_11, oX0 a_c a_marked a_stack stacked_3 deepest_4 scans_5 overflow_6, oZ a_marked cZ 200 marked_7, oI a_stack cI 20 stack_8]) (st' := [.int r24, .int r1]) X (mX1_usedWords D cI cZ cH a_h a_owner a_fieldCount a_dataCount a_pinned a_age a_content a_roots a_weaks a_movedTo a_reports words depth allocated collections freed owner_17 r24 hc25) 0 gX6_collect_X1_usedWords rfl (by decide +kernel) rfl rfl ⟨Nat.le_of_ble_eq_true rfl, Nat.le_of_ble_eq_true rfl⟩ ⟨Nat.le_of_ble_eq_true rfl, Nat.le_of_ble_eq_true rfl⟩ rfl (Nat.le_of_ble_eq_true rfl) dX6_collect_57 1 rfl rfl [1, 2] rfl rfl rfl rfl rfl rfl ?_
  refine r_isub (pc' := 61) X dX6_collect_60 rfl ?_
  refine r_istore_n (pc' := 62) (lv' := [(0, .ref a_x), (1, .int r1), (2, .int (r1 - r24))]) X dX6_collect_61 rfl (by decide) [1, 2, 0] rfl rfl ?_
  refine r_aload_n (pc' := 63) X dX6_collect_62 rfl 0 rfl rfl ?_
  refine r_get (pc' := 66) X uX6_collect_X6 0 0 dX6_collect_63 rfl rfl (by decide) kX6_collect_1 rfl rfl ?_
  refine r_dup (pc' := 67) X dX6_collect_66 rfl rfl ?_
  refine r_get (pc' := 70) X uX6_collect_X1 1 3 dX6_collect_67 rfl rfl (by decide) kX6_collect_3 rfl rfl ?_
  refine r_iconst (pc' := 71) X (1 : Int32) dX6_collect_70 (by decide) rfl ?_
  refine r_iadd (pc' := 72) X dX6_collect_71 rfl ?_
  refine r_put (pc' := 75) (ty := .int) (ws' := [oX6 a_x a_h a_saved_ a_c a_r a_f a_o a_s latestRefusal, oX1 a_h words depth allocated (collections + (1 : Int32)) freed a_owner a_fieldCount a_dataCount a_pinned a_age a_content a_roots a_weaks a_movedTo a_reports, oI a_owner cI 200 owner_17, oI a_fieldCount cI 200 fieldCount_18, oI a_dataCount cI 200 dataCount_19, oI a_pinned cI 200 pinned_20, oI a_age cI 200 age_21, oI a_content cI 200 content_22, oI a_roots cI 6 roots_14, oI a_weaks cI 4 weaks_15, oI a_movedTo cI 200 movedTo_10, oI a_reports cI 6 reports_11, oX0 a_c a_marked a_stack stacked_3 deepest_4 scans_5 overflow_6, oZ a_marked cZ 200 marked_7, oI a_stack cI 20 stack_8]) X uX6_collect_X1 1 3 tyX1 tyX1_ok nmX1 dX6_collect_72 rfl rfl (by decide) kX6_collect_3 rfl (by decide +kernel) rfl rfl (Nat.le_of_ble_eq_true rfl) rfl rfl ?_
  refine r_aload_n (pc' := 76) X dX6_collect_75 rfl 0 rfl rfl ?_
  refine r_get (pc' := 79) X uX6_collect_X6 0 0 dX6_collect_76 rfl rfl (by decide) kX6_collect_1 rfl rfl ?_
  refine r_dup (pc' := 80) X dX6_collect_79 rfl rfl ?_
  refine r_get (pc' := 83) X uX6_collect_X1 1 4 dX6_collect_80 rfl rfl (by decide) kX6_collect_4 rfl rfl ?_
  refine r_iload_n (pc' := 84) X dX6_collect_83 rfl 2 rfl rfl ?_
  refine r_iadd (pc' := 85) X dX6_collect_84 rfl ?_
  refine r_put (pc' := 88) (ty := .int) (ws' := [oX6 a_x a_h a_saved_ a_c a_r a_f a_o a_s latestRefusal, oX1 a_h words depth allocated (collections + (1 : Int32)) (freed + (r1 - r24)) a_owner a_fieldCount a_dataCount a_pinned a_age a_content a_roots a_weaks a_movedTo a_reports, oI a_owner cI 200 owner_17, oI a_fieldCount cI 200 fieldCount_18, oI a_dataCount cI 200 dataCount_19, oI a_pinned cI 200 pinned_20, oI a_age cI 200 age_21, oI a_content cI 200 content_22, oI a_roots cI 6 roots_14, oI a_weaks cI 4 weaks_15, oI a_movedTo cI 200 movedTo_10, oI a_reports cI 6 reports_11, oX0 a_c a_marked a_stack stacked_3 deepest_4 scans_5 overflow_6, oZ a_marked cZ 200 marked_7, oI a_stack cI 20 stack_8]) X uX6_collect_X1 1 4 tyX1 tyX1_ok nmX1 dX6_collect_85 rfl rfl (by decide) kX6_collect_4 rfl (by decide +kernel) rfl rfl (Nat.le_of_ble_eq_true rfl) rfl rfl ?_
  refine r_iload_n (pc' := 89) X dX6_collect_88 rfl 2 rfl rfl ?_
  cases hF
  exact RT.1 0 0 _ _ _ _ .int rfl rfl dX6_collect_89 ⟨rfl, rfl⟩ (Nat.le_refl 0) (Nat.le_refl 0)
theorem kX6_moved_1 : Cond.fieldLink RX6 12 "IslandHeap" "heap" "LIslandHeap$Heap;" ∈ wsX6_moved := List.mem_of_getElem? (i := 1) (by decide +kernel)
theorem kX6_moved_3 : Cond.fieldLink RX6 143 "IslandHeap$Heap" "collections" "I" ∈ wsX6_moved := List.mem_of_getElem? (i := 3) (by decide +kernel)
theorem kX6_moved_5 : Cond.fieldLink RX6 152 "IslandHeap$Heap" "movedTo" "[I" ∈ wsX6_moved := List.mem_of_getElem? (i := 5) (by decide +kernel)
theorem kX6_moved_4 : Cond.constant RX6 117 (-1000003) ∈ wsX6_moved := List.mem_of_getElem? (i := 4) (by decide +kernel)
theorem kX6_moved_2 : Cond.constant RX6 63 (-1000002) ∈ wsX6_moved := List.mem_of_getElem? (i := 2) (by decide +kernel)
theorem uX6_moved_X6 : ∀ w ∈ u_ws RX6 TX6 8, w ∈ wsX6_moved := by decide +kernel
theorem uX6_moved_X1 : ∀ w ∈ u_ws RX1 TX1 15, w ∈ wsX6_moved := by decide +kernel
set_option maxHeartbeats 4000000 in
set_option maxRecDepth 100000 in
theorem mX6_moved (D : va_G) (cI cZ cH : ClassId) (a_x : Nat) (a_h : Nat) (a_movedTo : Nat) (a_saved_ : Nat) (a_c : Nat) (a_r : Nat) (a_f : Nat) (a_o : Nat) (a_s : Nat) (a_owner : Nat) (a_fieldCount : Nat) (a_dataCount : Nat) (a_pinned : Nat) (a_age : Nat) (a_content : Nat) (a_roots : Nat) (a_weaks : Nat) (a_reports : Nat) (latestRefusal : Int32) (words : Int32) (depth : Int32) (allocated : Int32) (collections : Int32) (freed : Int32) (movedTo : Nat → Int32) (p1 : Int32) (r0 : Int32) (hF : FX6_moved words collections movedTo p1 = some r0) : g_CM yX6_moved wsX6_moved ({ frames := 1, cells := 0, slots := 0, locals := 21 }) D cI cZ cH [.ref a_x, .int p1] [oX6 a_x a_h a_saved_ a_c a_r a_f a_o a_s latestRefusal, oX1 a_h words depth allocated collections freed a_owner a_fieldCount a_dataCount a_pinned a_age a_content a_roots a_weaks a_movedTo a_reports, oI a_movedTo cI 200 movedTo] 0 0 (g_Tm (some (.int r0)) [oX6 a_x a_h a_saved_ a_c a_r a_f a_o a_s latestRefusal, oX1 a_h words depth allocated collections freed a_owner a_fieldCount a_dataCount a_pinned a_age a_content a_roots a_weaks a_movedTo a_reports, oI a_movedTo cI 200 movedTo]) := by
  refine g_met (own := RX6) (mn := "moved") (cc := cX6_moved) (maxL := 2) (ret := (some .int)) rfl rfl (by decide +kernel) rfl (Nat.le_of_ble_eq_true rfl) (fun G X RT => ?_)
  show G 0 0 [oX6 a_x a_h a_saved_ a_c a_r a_f a_o a_s latestRefusal, oX1 a_h words depth allocated collections freed a_owner a_fieldCount a_dataCount a_pinned a_age a_content a_roots a_weaks a_movedTo a_reports, oI a_movedTo cI 200 movedTo] [(0, .ref a_x), (1, .int p1)] 0 []
  unfold FX6_moved at hF
  refine r_aload_n (pc' := 1) X dX6_moved_0 rfl 0 rfl rfl ?_
  refine r_get (pc' := 4) X uX6_moved_X6 0 0 dX6_moved_1 rfl rfl (by decide) kX6_moved_1 rfl rfl ?_
  refine r_iload_n (pc' := 5) X dX6_moved_4 rfl 1 rfl rfl ?_
  obtain ⟨r1, hc2, hF⟩ := g_bd hF
  refine r_callVF (pc' := 8) (ws' := [oX6 a_x a_h a_saved_ a_c a_r a_f a_o a_s latestRefusal, oX1 a_h words depth allocated collections freed a_owner a_fieldCount a_dataCount a_pinned a_age a_content a_roots a_weaks a_movedTo a_reports, oI a_movedTo cI 200 movedTo]) (st' := [.int r1]) X (mX1_isAddress D cI cZ cH a_h a_owner a_fieldCount a_dataCount a_pinned a_age a_content a_roots a_weaks a_movedTo a_reports words depth allocated collections freed p1 r1 hc2) 1 gX6_moved_X1_isAddress rfl (by decide +kernel) rfl rfl ⟨Nat.le_of_ble_eq_true rfl, Nat.le_of_ble_eq_true rfl⟩ ⟨Nat.le_of_ble_eq_true rfl, Nat.le_of_ble_eq_true rfl⟩ rfl (Nat.le_of_ble_eq_true rfl) dX6_moved_5 1 rfl rfl [1] rfl rfl rfl rfl rfl rfl ?_
  refine r_if_ne (pc' := 11) X 14 dX6_moved_8 (by decide) rfl (fun c9 => ?_) (fun c9 => ?_)
  · replace hF := g_f c9 hF
    refine r_aload_n (pc' := 15) X dX6_moved_14 rfl 0 rfl rfl ?_
    refine r_get (pc' := 18) X uX6_moved_X6 0 0 dX6_moved_15 rfl rfl (by decide) kX6_moved_1 rfl rfl ?_
    refine r_get (pc' := 21) X uX6_moved_X1 1 3 dX6_moved_18 rfl rfl (by decide) kX6_moved_3 rfl rfl ?_
    refine r_if_ne (pc' := 24) X 29 dX6_moved_21 (by decide) rfl (fun c9 => ?_) (fun c9 => ?_)
    · replace hF := g_f c9 hF
      refine r_aload_n (pc' := 30) X dX6_moved_29 rfl 0 rfl rfl ?_
      refine r_get (pc' := 33) X uX6_moved_X6 0 0 dX6_moved_30 rfl rfl (by decide) kX6_moved_1 rfl rfl ?_
      refine r_get (pc' := 36) X uX6_moved_X1 1 13 dX6_moved_33 rfl rfl (by decide) kX6_moved_5 rfl rfl ?_
      refine r_iload_n (pc' := 37) X dX6_moved_36 rfl 1 rfl rfl ?_
      obtain ⟨hi3, hF⟩ := g_gt hF
      refine r_iald (pc' := 38) X 2 dX6_moved_37 rfl (g_vi hi3) rfl ?_
      cases hF
      exact RT.1 0 0 _ _ _ _ .int rfl rfl dX6_moved_38 ⟨rfl, rfl⟩ (Nat.le_refl 0) (Nat.le_refl 0)
    · replace hF := g_t c9 hF
      refine r_ldc (pc' := 26) X dX6_moved_24 kX6_moved_4 rfl ?_
      refine r_goto X 38 dX6_moved_26 (by decide) ?_
      cases hF
      exact RT.1 0 0 _ _ _ _ .int rfl rfl dX6_moved_38 ⟨rfl, rfl⟩ (Nat.le_refl 0) (Nat.le_refl 0)
  · replace hF := g_t c9 hF
    refine r_ldc (pc' := 13) X dX6_moved_11 kX6_moved_2 rfl ?_
    cases hF
    exact RT.1 0 0 _ _ _ _ .int rfl rfl dX6_moved_13 ⟨rfl, rfl⟩ (Nat.le_refl 0) (Nat.le_refl 0)
theorem kX6_report_1 : Cond.constant RX6 63 (-1000002) ∈ wsX6_report := List.mem_of_getElem? (i := 1) (by decide +kernel)
theorem kX6_report_2 : Cond.fieldLink RX6 12 "IslandHeap" "heap" "LIslandHeap$Heap;" ∈ wsX6_report := List.mem_of_getElem? (i := 2) (by decide +kernel)
theorem kX6_report_3 : Cond.fieldLink RX6 143 "IslandHeap$Heap" "collections" "I" ∈ wsX6_report := List.mem_of_getElem? (i := 3) (by decide +kernel)
theorem kX6_report_5 : Cond.fieldLink RX6 155 "IslandHeap$Heap" "reports" "[I" ∈ wsX6_report := List.mem_of_getElem? (i := 5) (by decide +kernel)
theorem kX6_report_4 : Cond.constant RX6 117 (-1000003) ∈ wsX6_report := List.mem_of_getElem? (i := 4) (by decide +kernel)
theorem uX6_report_X6 : ∀ w ∈ u_ws RX6 TX6 8, w ∈ wsX6_report := by decide +kernel
theorem uX6_report_X1 : ∀ w ∈ u_ws RX1 TX1 15, w ∈ wsX6_report := by decide +kernel
set_option maxHeartbeats 4000000 in
set_option maxRecDepth 100000 in
theorem mX6_report (D : va_G) (cI cZ cH : ClassId) (a_x : Nat) (a_h : Nat) (a_reports : Nat) (a_saved_ : Nat) (a_c : Nat) (a_r : Nat) (a_f : Nat) (a_o : Nat) (a_s : Nat) (a_owner : Nat) (a_fieldCount : Nat) (a_dataCount : Nat) (a_pinned : Nat) (a_age : Nat) (a_content : Nat) (a_roots : Nat) (a_weaks : Nat) (a_movedTo : Nat) (latestRefusal : Int32) (words : Int32) (depth : Int32) (allocated : Int32) (collections : Int32) (freed : Int32) (reports : Nat → Int32) (p1 : Int32) (r0 : Int32) (hF : FX6_report collections reports p1 = some r0) : g_CM yX6_report wsX6_report ({ frames := 0, cells := 0, slots := 0, locals := 0 }) D cI cZ cH [.ref a_x, .int p1] [oX6 a_x a_h a_saved_ a_c a_r a_f a_o a_s latestRefusal, oX1 a_h words depth allocated collections freed a_owner a_fieldCount a_dataCount a_pinned a_age a_content a_roots a_weaks a_movedTo a_reports, oI a_reports cI 6 reports] 0 0 (g_Tm (some (.int r0)) [oX6 a_x a_h a_saved_ a_c a_r a_f a_o a_s latestRefusal, oX1 a_h words depth allocated collections freed a_owner a_fieldCount a_dataCount a_pinned a_age a_content a_roots a_weaks a_movedTo a_reports, oI a_reports cI 6 reports]) := by
  refine g_met (own := RX6) (mn := "report") (cc := cX6_report) (maxL := 2) (ret := (some .int)) rfl rfl (by decide +kernel) rfl (Nat.le_of_ble_eq_true rfl) (fun G X RT => ?_)
  show G 0 0 [oX6 a_x a_h a_saved_ a_c a_r a_f a_o a_s latestRefusal, oX1 a_h words depth allocated collections freed a_owner a_fieldCount a_dataCount a_pinned a_age a_content a_roots a_weaks a_movedTo a_reports, oI a_reports cI 6 reports] [(0, .ref a_x), (1, .int p1)] 0 []
  unfold FX6_report at hF
  refine r_iload_n (pc' := 1) X dX6_report_0 rfl 1 rfl rfl ?_
  refine r_if_lt (pc' := 4) X 10 dX6_report_1 (by decide) rfl (fun c9 => ?_) (fun c9 => ?_)
  · replace hF := g_t c9 hF
    refine r_ldc (pc' := 12) X dX6_report_10 kX6_report_1 rfl ?_
    cases hF
    exact RT.1 0 0 _ _ _ _ .int rfl rfl dX6_report_12 ⟨rfl, rfl⟩ (Nat.le_refl 0) (Nat.le_refl 0)
  · replace hF := g_f c9 hF
    refine r_iload_n (pc' := 5) X dX6_report_4 rfl 1 rfl rfl ?_
    refine r_bipush (pc' := 7) X (6 : Int32) dX6_report_5 (by decide) rfl ?_
    refine r_icmp_lt (pc' := 10) X 13 dX6_report_7 (by decide) rfl (fun c9 => ?_) (fun c9 => ?_)
    · replace hF := g_t c9 hF
      refine r_aload_n (pc' := 14) X dX6_report_13 rfl 0 rfl rfl ?_
      refine r_get (pc' := 17) X uX6_report_X6 0 0 dX6_report_14 rfl rfl (by decide) kX6_report_2 rfl rfl ?_
      refine r_get (pc' := 20) X uX6_report_X1 1 3 dX6_report_17 rfl rfl (by decide) kX6_report_3 rfl rfl ?_
      refine r_if_ne (pc' := 23) X 28 dX6_report_20 (by decide) rfl (fun c9 => ?_) (fun c9 => ?_)
      · replace hF := g_f c9 hF
        refine r_aload_n (pc' := 29) X dX6_report_28 rfl 0 rfl rfl ?_
        refine r_get (pc' := 32) X uX6_report_X6 0 0 dX6_report_29 rfl rfl (by decide) kX6_report_2 rfl rfl ?_
        refine r_get (pc' := 35) X uX6_report_X1 1 14 dX6_report_32 rfl rfl (by decide) kX6_report_5 rfl rfl ?_
        refine r_iload_n (pc' := 36) X dX6_report_35 rfl 1 rfl rfl ?_
        obtain ⟨hi1, hF⟩ := g_gt hF
        refine r_iald (pc' := 37) X 2 dX6_report_36 rfl (g_vi hi1) rfl ?_
        cases hF
        exact RT.1 0 0 _ _ _ _ .int rfl rfl dX6_report_37 ⟨rfl, rfl⟩ (Nat.le_refl 0) (Nat.le_refl 0)
      · replace hF := g_t c9 hF
        refine r_ldc (pc' := 25) X dX6_report_23 kX6_report_4 rfl ?_
        refine r_goto X 37 dX6_report_25 (by decide) ?_
        cases hF
        exact RT.1 0 0 _ _ _ _ .int rfl rfl dX6_report_37 ⟨rfl, rfl⟩ (Nat.le_refl 0) (Nat.le_refl 0)
    · replace hF := g_f c9 hF
      refine r_ldc (pc' := 12) X dX6_report_10 kX6_report_1 rfl ?_
      cases hF
      exact RT.1 0 0 _ _ _ _ .int rfl rfl dX6_report_12 ⟨rfl, rfl⟩ (Nat.le_refl 0) (Nat.le_refl 0)
theorem kX6_garbage_1 : Cond.fieldLink RX6 34 "IslandHeap" "reach" "LIslandHeap$Reach;" ∈ wsX6_garbage := List.mem_of_getElem? (i := 1) (by decide +kernel)
theorem kX6_garbage_2 : Cond.fieldLink RX6 12 "IslandHeap" "heap" "LIslandHeap$Heap;" ∈ wsX6_garbage := List.mem_of_getElem? (i := 2) (by decide +kernel)
theorem uX6_garbage_X6 : ∀ w ∈ u_ws RX6 TX6 8, w ∈ wsX6_garbage := by decide +kernel
set_option maxHeartbeats 4000000 in
set_option maxRecDepth 100000 in
theorem mX6_garbage (D : va_G) (cI cZ cH : ClassId) (a_x : Nat) (a_h : Nat) (a_owner : Nat) (a_fieldCount : Nat) (a_dataCount : Nat) (a_pinned : Nat) (a_content : Nat) (a_roots : Nat) (a_r : Nat) (a_steps : Nat) (a_queue : Nat) (a_saved_ : Nat) (a_c : Nat) (a_f : Nat) (a_o : Nat) (a_s : Nat) (a_age : Nat) (a_weaks : Nat) (a_movedTo : Nat) (a_reports : Nat) (latestRefusal : Int32) (words : Int32) (depth : Int32) (allocated : Int32) (collections : Int32) (freed : Int32) (owner : Nat → Int32) (fieldCount : Nat → Int32) (dataCount : Nat → Int32) (pinned : Nat → Int32) (content : Nat → Int32) (roots : Nat → Int32) (queued : Int32) (steps : Nat → Int32) (queue : Nat → Int32) (r0 : Int32) (w_queued : Int32) (w_steps : Nat → Int32) (w_queue : Nat → Int32) (hF : FX6_garbage words owner fieldCount dataCount pinned content roots queued steps queue = some (r0, w_queued, w_steps, w_queue)) : g_CM yX6_garbage wsX6_garbage ({ frames := 4, cells := 0, slots := 0, locals := 88 }) D cI cZ cH [.ref a_x] [oX6 a_x a_h a_saved_ a_c a_r a_f a_o a_s latestRefusal, oX1 a_h words depth allocated collections freed a_owner a_fieldCount a_dataCount a_pinned a_age a_content a_roots a_weaks a_movedTo a_reports, oI a_owner cI 200 owner, oI a_fieldCount cI 200 fieldCount, oI a_dataCount cI 200 dataCount, oI a_pinned cI 200 pinned, oI a_content cI 200 content, oI a_roots cI 6 roots, oX3 a_r a_steps a_queue queued, oI a_steps cI 200 steps, oI a_queue cI 200 queue] 0 0 (g_Tm (some (.int r0)) [oX6 a_x a_h a_saved_ a_c a_r a_f a_o a_s latestRefusal, oX1 a_h words depth allocated collections freed a_owner a_fieldCount a_dataCount a_pinned a_age a_content a_roots a_weaks a_movedTo a_reports, oI a_owner cI 200 owner, oI a_fieldCount cI 200 fieldCount, oI a_dataCount cI 200 dataCount, oI a_pinned cI 200 pinned, oI a_content cI 200 content, oI a_roots cI 6 roots, oX3 a_r a_steps a_queue w_queued, oI a_steps cI 200 w_steps, oI a_queue cI 200 w_queue]) := by
  refine g_met (own := RX6) (mn := "garbage") (cc := cX6_garbage) (maxL := 1) (ret := (some .int)) rfl rfl (by decide +kernel) rfl (Nat.le_of_ble_eq_true rfl) (fun G X RT => ?_)
  show G 0 0 [oX6 a_x a_h a_saved_ a_c a_r a_f a_o a_s latestRefusal, oX1 a_h words depth allocated collections freed a_owner a_fieldCount a_dataCount a_pinned a_age a_content a_roots a_weaks a_movedTo a_reports, oI a_owner cI 200 owner, oI a_fieldCount cI 200 fieldCount, oI a_dataCount cI 200 dataCount, oI a_pinned cI 200 pinned, oI a_content cI 200 content, oI a_roots cI 6 roots, oX3 a_r a_steps a_queue queued, oI a_steps cI 200 steps, oI a_queue cI 200 queue] [(0, .ref a_x)] 0 []
  unfold FX6_garbage at hF
  refine r_aload_n (pc' := 1) X dX6_garbage_0 rfl 0 rfl rfl ?_
  refine r_get (pc' := 4) X uX6_garbage_X6 0 3 dX6_garbage_1 rfl rfl (by decide) kX6_garbage_1 rfl rfl ?_
  refine r_aload_n (pc' := 5) X dX6_garbage_4 rfl 0 rfl rfl ?_
  refine r_get (pc' := 8) X uX6_garbage_X6 0 0 dX6_garbage_5 rfl rfl (by decide) kX6_garbage_2 rfl rfl ?_
  refine r_iconst (pc' := 9) X (-1 : Int32) dX6_garbage_8 (by decide) rfl ?_
  obtain ⟨⟨queued_1, steps_2, queue_3⟩, hc4, hF⟩ := g_bd hF
  refine r_callVF (pc' := 12) (ws' := [oX6 a_x a_h a_saved_ a_c a_r a_f a_o a_s latestRefusal, oX1 a_h words depth allocated collections freed a_owner a_fieldCount a_dataCount a_pinned a_age a_content a_roots a_weaks a_movedTo a_reports, oI a_owner cI 200 owner, oI a_fieldCount cI 200 fieldCount, oI a_dataCount cI 200 dataCount, oI a_pinned cI 200 pinned, oI a_content cI 200 content, oI a_roots cI 6 roots, oX3 a_r a_steps a_queue queued_1, oI a_steps cI 200 steps_2, oI a_queue cI 200 queue_3]) (st' := []) X (mX3_trace D cI cZ cH a_r a_steps a_queue a_h a_owner a_fieldCount a_pinned a_content a_roots a_dataCount a_age a_weaks a_movedTo a_reports queued steps queue words depth allocated collections freed owner fieldCount pinned content roots (-1 : Int32) queued_1 steps_2 queue_3 hc4) 2 gX6_garbage_X3_trace rfl (by decide +kernel) rfl rfl ⟨Nat.le_of_ble_eq_true rfl, Nat.le_of_ble_eq_true rfl⟩ ⟨Nat.le_of_ble_eq_true rfl, Nat.le_of_ble_eq_true rfl⟩ rfl (Nat.le_of_ble_eq_true rfl) dX6_garbage_9 8 rfl rfl [8, 9, 10, 1, 2, 3, 5, 6, 7] rfl rfl rfl rfl rfl rfl ?_
  refine r_aload_n (pc' := 13) X dX6_garbage_12 rfl 0 rfl rfl ?_
  refine r_get (pc' := 16) X uX6_garbage_X6 0 0 dX6_garbage_13 rfl rfl (by decide) kX6_garbage_2 rfl rfl ?_
  obtain ⟨r5, hc6, hF⟩ := g_bd hF
  refine r_callVF (pc' := 19) (ws' := [oX6 a_x a_h a_saved_ a_c a_r a_f a_o a_s latestRefusal, oX1 a_h words depth allocated collections freed a_owner a_fieldCount a_dataCount a_pinned a_age a_content a_roots a_weaks a_movedTo a_reports, oI a_owner cI 200 owner, oI a_fieldCount cI 200 fieldCount, oI a_dataCount cI 200 dataCount, oI a_pinned cI 200 pinned, oI a_content cI 200 content, oI a_roots cI 6 roots, oX3 a_r a_steps a_queue queued_1, oI a_steps cI 200 steps_2, oI a_queue cI 200 queue_3]) (st' := [.int r5]) X (mX1_usedWords D cI cZ cH a_h a_owner a_fieldCount a_dataCount a_pinned a_age a_content a_roots a_weaks a_movedTo a_reports words depth allocated collections freed owner r5 hc6) 0 gX6_garbage_X1_usedWords rfl (by decide +kernel) rfl rfl ⟨Nat.le_of_ble_eq_true rfl, Nat.le_of_ble_eq_true rfl⟩ ⟨Nat.le_of_ble_eq_true rfl, Nat.le_of_ble_eq_true rfl⟩ rfl (Nat.le_of_ble_eq_true rfl) dX6_garbage_16 1 rfl rfl [1, 2] rfl rfl rfl rfl rfl rfl ?_
  refine r_aload_n (pc' := 20) X dX6_garbage_19 rfl 0 rfl rfl ?_
  refine r_get (pc' := 23) X uX6_garbage_X6 0 3 dX6_garbage_20 rfl rfl (by decide) kX6_garbage_1 rfl rfl ?_
  refine r_aload_n (pc' := 24) X dX6_garbage_23 rfl 0 rfl rfl ?_
  refine r_get (pc' := 27) X uX6_garbage_X6 0 0 dX6_garbage_24 rfl rfl (by decide) kX6_garbage_2 rfl rfl ?_
  obtain ⟨r7, hc8, hF⟩ := g_bd hF
  refine r_callVF (pc' := 30) (ws' := [oX6 a_x a_h a_saved_ a_c a_r a_f a_o a_s latestRefusal, oX1 a_h words depth allocated collections freed a_owner a_fieldCount a_dataCount a_pinned a_age a_content a_roots a_weaks a_movedTo a_reports, oI a_owner cI 200 owner, oI a_fieldCount cI 200 fieldCount, oI a_dataCount cI 200 dataCount, oI a_pinned cI 200 pinned, oI a_content cI 200 content, oI a_roots cI 6 roots, oX3 a_r a_steps a_queue queued_1, oI a_steps cI 200 steps_2, oI a_queue cI 200 queue_3]) (st' := [.int r7, .int r5]) X (mX3_liveWords D cI cZ cH a_r a_queue a_h a_fieldCount a_dataCount a_steps a_owner a_pinned a_age a_content a_roots a_weaks a_movedTo a_reports queued_1 queue_3 words depth allocated collections freed fieldCount dataCount r7 hc8) 1 gX6_garbage_X3_liveWords rfl (by decide +kernel) rfl rfl ⟨Nat.le_of_ble_eq_true rfl, Nat.le_of_ble_eq_true rfl⟩ ⟨Nat.le_of_ble_eq_true rfl, Nat.le_of_ble_eq_true rfl⟩ rfl (Nat.le_of_ble_eq_true rfl) dX6_garbage_27 8 rfl rfl [8, 10, 1, 3, 4] rfl rfl rfl rfl rfl rfl ?_
  refine r_isub (pc' := 31) X dX6_garbage_30 rfl ?_
  cases hF
  exact RT.1 0 0 _ _ _ _ .int rfl rfl dX6_garbage_31 ⟨rfl, rfl⟩ (Nat.le_refl 0) (Nat.le_refl 0)
theorem kX6_distance_1 : Cond.fieldLink RX6 12 "IslandHeap" "heap" "LIslandHeap$Heap;" ∈ wsX6_distance := List.mem_of_getElem? (i := 1) (by decide +kernel)
theorem kX6_distance_3 : Cond.fieldLink RX6 34 "IslandHeap" "reach" "LIslandHeap$Reach;" ∈ wsX6_distance := List.mem_of_getElem? (i := 3) (by decide +kernel)
theorem kX6_distance_4 : Cond.fieldLink RX6 162 "IslandHeap$Reach" "steps" "[I" ∈ wsX6_distance := List.mem_of_getElem? (i := 4) (by decide +kernel)
theorem kX6_distance_2 : Cond.constant RX6 63 (-1000002) ∈ wsX6_distance := List.mem_of_getElem? (i := 2) (by decide +kernel)
theorem uX6_distance_X6 : ∀ w ∈ u_ws RX6 TX6 8, w ∈ wsX6_distance := by decide +kernel
theorem uX6_distance_X3 : ∀ w ∈ u_ws RX3 TX3 3, w ∈ wsX6_distance := by decide +kernel
set_option maxHeartbeats 4000000 in
set_option maxRecDepth 100000 in
theorem mX6_distance (D : va_G) (cI cZ cH : ClassId) (a_x : Nat) (a_h : Nat) (a_owner : Nat) (a_fieldCount : Nat) (a_pinned : Nat) (a_content : Nat) (a_roots : Nat) (a_r : Nat) (a_steps : Nat) (a_queue : Nat) (a_saved_ : Nat) (a_c : Nat) (a_f : Nat) (a_o : Nat) (a_s : Nat) (a_dataCount : Nat) (a_age : Nat) (a_weaks : Nat) (a_movedTo : Nat) (a_reports : Nat) (latestRefusal : Int32) (words : Int32) (depth : Int32) (allocated : Int32) (collections : Int32) (freed : Int32) (owner : Nat → Int32) (fieldCount : Nat → Int32) (pinned : Nat → Int32) (content : Nat → Int32) (roots : Nat → Int32) (queued : Int32) (steps : Nat → Int32) (queue : Nat → Int32) (p1 : Int32) (r0 : Int32) (w_queued : Int32) (w_steps : Nat → Int32) (w_queue : Nat → Int32) (hF : FX6_distance words owner fieldCount pinned content roots queued steps queue p1 = some (r0, w_queued, w_steps, w_queue)) : g_CM yX6_distance wsX6_distance ({ frames := 4, cells := 0, slots := 0, locals := 88 }) D cI cZ cH [.ref a_x, .int p1] [oX6 a_x a_h a_saved_ a_c a_r a_f a_o a_s latestRefusal, oX1 a_h words depth allocated collections freed a_owner a_fieldCount a_dataCount a_pinned a_age a_content a_roots a_weaks a_movedTo a_reports, oI a_owner cI 200 owner, oI a_fieldCount cI 200 fieldCount, oI a_pinned cI 200 pinned, oI a_content cI 200 content, oI a_roots cI 6 roots, oX3 a_r a_steps a_queue queued, oI a_steps cI 200 steps, oI a_queue cI 200 queue] 0 0 (g_Tm (some (.int r0)) [oX6 a_x a_h a_saved_ a_c a_r a_f a_o a_s latestRefusal, oX1 a_h words depth allocated collections freed a_owner a_fieldCount a_dataCount a_pinned a_age a_content a_roots a_weaks a_movedTo a_reports, oI a_owner cI 200 owner, oI a_fieldCount cI 200 fieldCount, oI a_pinned cI 200 pinned, oI a_content cI 200 content, oI a_roots cI 6 roots, oX3 a_r a_steps a_queue w_queued, oI a_steps cI 200 w_steps, oI a_queue cI 200 w_queue]) := by
  refine g_met (own := RX6) (mn := "distance") (cc := cX6_distance) (maxL := 3) (ret := (some .int)) rfl rfl (by decide +kernel) rfl (Nat.le_of_ble_eq_true rfl) (fun G X RT => ?_)
  show G 0 0 [oX6 a_x a_h a_saved_ a_c a_r a_f a_o a_s latestRefusal, oX1 a_h words depth allocated collections freed a_owner a_fieldCount a_dataCount a_pinned a_age a_content a_roots a_weaks a_movedTo a_reports, oI a_owner cI 200 owner, oI a_fieldCount cI 200 fieldCount, oI a_pinned cI 200 pinned, oI a_content cI 200 content, oI a_roots cI 6 roots, oX3 a_r a_steps a_queue queued, oI a_steps cI 200 steps, oI a_queue cI 200 queue] [(0, .ref a_x), (1, .int p1)] 0 []
  unfold FX6_distance at hF
  refine r_aload_n (pc' := 1) X dX6_distance_0 rfl 0 rfl rfl ?_
  refine r_get (pc' := 4) X uX6_distance_X6 0 0 dX6_distance_1 rfl rfl (by decide) kX6_distance_1 rfl rfl ?_
  refine r_iload_n (pc' := 5) X dX6_distance_4 rfl 1 rfl rfl ?_
  obtain ⟨r1, hc2, hF⟩ := g_bd hF
  refine r_callVF (pc' := 8) (ws' := [oX6 a_x a_h a_saved_ a_c a_r a_f a_o a_s latestRefusal, oX1 a_h words depth allocated collections freed a_owner a_fieldCount a_dataCount a_pinned a_age a_content a_roots a_weaks a_movedTo a_reports, oI a_owner cI 200 owner, oI a_fieldCount cI 200 fieldCount, oI a_pinned cI 200 pinned, oI a_content cI 200 content, oI a_roots cI 6 roots, oX3 a_r a_steps a_queue queued, oI a_steps cI 200 steps, oI a_queue cI 200 queue]) (st' := [.int r1]) X (mX1_objectAt D cI cZ cH a_h a_owner a_fieldCount a_dataCount a_pinned a_age a_content a_roots a_weaks a_movedTo a_reports words depth allocated collections freed owner p1 r1 hc2) 1 gX6_distance_X1_objectAt rfl (by decide +kernel) rfl rfl ⟨Nat.le_of_ble_eq_true rfl, Nat.le_of_ble_eq_true rfl⟩ ⟨Nat.le_of_ble_eq_true rfl, Nat.le_of_ble_eq_true rfl⟩ rfl (Nat.le_of_ble_eq_true rfl) dX6_distance_5 1 rfl rfl [1, 2] rfl rfl rfl rfl rfl rfl ?_
  refine r_istore_n (pc' := 9) (lv' := [(0, .ref a_x), (1, .int p1), (2, .int r1)]) X dX6_distance_8 rfl (by decide) [1, 2, 0] rfl rfl ?_
  refine r_iload_n (pc' := 10) X dX6_distance_9 rfl 2 rfl rfl ?_
  refine r_iconst (pc' := 11) X (-1 : Int32) dX6_distance_10 (by decide) rfl ?_
  refine r_icmp_ne (pc' := 14) X 17 dX6_distance_11 (by decide) rfl (fun c9 => ?_) (fun c9 => ?_)
  · replace hF := g_f c9 hF
    refine r_aload_n (pc' := 18) X dX6_distance_17 rfl 0 rfl rfl ?_
    refine r_get (pc' := 21) X uX6_distance_X6 0 3 dX6_distance_18 rfl rfl (by decide) kX6_distance_3 rfl rfl ?_
    refine r_aload_n (pc' := 22) X dX6_distance_21 rfl 0 rfl rfl ?_
    refine r_get (pc' := 25) X uX6_distance_X6 0 0 dX6_distance_22 rfl rfl (by decide) kX6_distance_1 rfl rfl ?_
    refine r_iconst (pc' := 26) X (-1 : Int32) dX6_distance_25 (by decide) rfl ?_
    obtain ⟨⟨queued_3, steps_4, queue_5⟩, hc6, hF⟩ := g_bd hF
    refine r_callVF (pc' := 29) (ws' := [oX6 a_x a_h a_saved_ a_c a_r a_f a_o a_s latestRefusal, oX1 a_h words depth allocated collections freed a_owner a_fieldCount a_dataCount a_pinned a_age a_content a_roots a_weaks a_movedTo a_reports, oI a_owner cI 200 owner, oI a_fieldCount cI 200 fieldCount, oI a_pinned cI 200 pinned, oI a_content cI 200 content, oI a_roots cI 6 roots, oX3 a_r a_steps a_queue queued_3, oI a_steps cI 200 steps_4, oI a_queue cI 200 queue_5]) (st' := []) X (mX3_trace D cI cZ cH a_r a_steps a_queue a_h a_owner a_fieldCount a_pinned a_content a_roots a_dataCount a_age a_weaks a_movedTo a_reports queued steps queue words depth allocated collections freed owner fieldCount pinned content roots (-1 : Int32) queued_3 steps_4 queue_5 hc6) 2 gX6_distance_X3_trace rfl (by decide +kernel) rfl rfl ⟨Nat.le_of_ble_eq_true rfl, Nat.le_of_ble_eq_true rfl⟩ ⟨Nat.le_of_ble_eq_true rfl, Nat.le_of_ble_eq_true rfl⟩ rfl (Nat.le_of_ble_eq_true rfl) dX6_distance_26 7 rfl rfl [7, 8, 9, 1, 2, 3, 4, 5, 6] rfl rfl rfl rfl rfl rfl ?_
    refine r_aload_n (pc' := 30) X dX6_distance_29 rfl 0 rfl rfl ?_
    refine r_get (pc' := 33) X uX6_distance_X6 0 3 dX6_distance_30 rfl rfl (by decide) kX6_distance_3 rfl rfl ?_
    refine r_get (pc' := 36) X uX6_distance_X3 7 0 dX6_distance_33 rfl rfl (by decide) kX6_distance_4 rfl rfl ?_
    refine r_iload_n (pc' := 37) X dX6_distance_36 rfl 2 rfl rfl ?_
    obtain ⟨hi7, hF⟩ := g_gt hF
    refine r_iald (pc' := 38) X 8 dX6_distance_37 rfl (g_vi hi7) rfl ?_
    cases hF
    exact RT.1 0 0 _ _ _ _ .int rfl rfl dX6_distance_38 ⟨rfl, rfl⟩ (Nat.le_refl 0) (Nat.le_refl 0)
  · replace hF := g_t c9 hF
    refine r_ldc (pc' := 16) X dX6_distance_14 kX6_distance_2 rfl ?_
    cases hF
    exact RT.1 0 0 _ _ _ _ .int rfl rfl dX6_distance_16 ⟨rfl, rfl⟩ (Nat.le_refl 0) (Nat.le_refl 0)
theorem kX6_retained_1 : Cond.fieldLink RX6 12 "IslandHeap" "heap" "LIslandHeap$Heap;" ∈ wsX6_retained := List.mem_of_getElem? (i := 1) (by decide +kernel)
theorem kX6_retained_3 : Cond.fieldLink RX6 34 "IslandHeap" "reach" "LIslandHeap$Reach;" ∈ wsX6_retained := List.mem_of_getElem? (i := 3) (by decide +kernel)
theorem kX6_retained_2 : Cond.constant RX6 63 (-1000002) ∈ wsX6_retained := List.mem_of_getElem? (i := 2) (by decide +kernel)
theorem uX6_retained_X6 : ∀ w ∈ u_ws RX6 TX6 8, w ∈ wsX6_retained := by decide +kernel
set_option maxHeartbeats 4000000 in
set_option maxRecDepth 100000 in
theorem mX6_retained (D : va_G) (cI cZ cH : ClassId) (a_x : Nat) (a_h : Nat) (a_owner : Nat) (a_fieldCount : Nat) (a_dataCount : Nat) (a_pinned : Nat) (a_content : Nat) (a_roots : Nat) (a_r : Nat) (a_steps : Nat) (a_queue : Nat) (a_saved_ : Nat) (a_c : Nat) (a_f : Nat) (a_o : Nat) (a_s : Nat) (a_age : Nat) (a_weaks : Nat) (a_movedTo : Nat) (a_reports : Nat) (latestRefusal : Int32) (words : Int32) (depth : Int32) (allocated : Int32) (collections : Int32) (freed : Int32) (owner : Nat → Int32) (fieldCount : Nat → Int32) (dataCount : Nat → Int32) (pinned : Nat → Int32) (content : Nat → Int32) (roots : Nat → Int32) (queued : Int32) (steps : Nat → Int32) (queue : Nat → Int32) (p1 : Int32) (r0 : Int32) (w_queued : Int32) (w_steps : Nat → Int32) (w_queue : Nat → Int32) (hF : FX6_retained words owner fieldCount dataCount pinned content roots queued steps queue p1 = some (r0, w_queued, w_steps, w_queue)) : g_CM yX6_retained wsX6_retained ({ frames := 4, cells := 0, slots := 0, locals := 88 }) D cI cZ cH [.ref a_x, .int p1] [oX6 a_x a_h a_saved_ a_c a_r a_f a_o a_s latestRefusal, oX1 a_h words depth allocated collections freed a_owner a_fieldCount a_dataCount a_pinned a_age a_content a_roots a_weaks a_movedTo a_reports, oI a_owner cI 200 owner, oI a_fieldCount cI 200 fieldCount, oI a_dataCount cI 200 dataCount, oI a_pinned cI 200 pinned, oI a_content cI 200 content, oI a_roots cI 6 roots, oX3 a_r a_steps a_queue queued, oI a_steps cI 200 steps, oI a_queue cI 200 queue] 0 0 (g_Tm (some (.int r0)) [oX6 a_x a_h a_saved_ a_c a_r a_f a_o a_s latestRefusal, oX1 a_h words depth allocated collections freed a_owner a_fieldCount a_dataCount a_pinned a_age a_content a_roots a_weaks a_movedTo a_reports, oI a_owner cI 200 owner, oI a_fieldCount cI 200 fieldCount, oI a_dataCount cI 200 dataCount, oI a_pinned cI 200 pinned, oI a_content cI 200 content, oI a_roots cI 6 roots, oX3 a_r a_steps a_queue w_queued, oI a_steps cI 200 w_steps, oI a_queue cI 200 w_queue]) := by
  refine g_met (own := RX6) (mn := "retained") (cc := cX6_retained) (maxL := 4) (ret := (some .int)) rfl rfl (by decide +kernel) rfl (Nat.le_of_ble_eq_true rfl) (fun G X RT => ?_)
  show G 0 0 [oX6 a_x a_h a_saved_ a_c a_r a_f a_o a_s latestRefusal, oX1 a_h words depth allocated collections freed a_owner a_fieldCount a_dataCount a_pinned a_age a_content a_roots a_weaks a_movedTo a_reports, oI a_owner cI 200 owner, oI a_fieldCount cI 200 fieldCount, oI a_dataCount cI 200 dataCount, oI a_pinned cI 200 pinned, oI a_content cI 200 content, oI a_roots cI 6 roots, oX3 a_r a_steps a_queue queued, oI a_steps cI 200 steps, oI a_queue cI 200 queue] [(0, .ref a_x), (1, .int p1)] 0 []
  unfold FX6_retained at hF
  refine r_aload_n (pc' := 1) X dX6_retained_0 rfl 0 rfl rfl ?_
  refine r_get (pc' := 4) X uX6_retained_X6 0 0 dX6_retained_1 rfl rfl (by decide) kX6_retained_1 rfl rfl ?_
  refine r_iload_n (pc' := 5) X dX6_retained_4 rfl 1 rfl rfl ?_
  obtain ⟨r1, hc2, hF⟩ := g_bd hF
  refine r_callVF (pc' := 8) (ws' := [oX6 a_x a_h a_saved_ a_c a_r a_f a_o a_s latestRefusal, oX1 a_h words depth allocated collections freed a_owner a_fieldCount a_dataCount a_pinned a_age a_content a_roots a_weaks a_movedTo a_reports, oI a_owner cI 200 owner, oI a_fieldCount cI 200 fieldCount, oI a_dataCount cI 200 dataCount, oI a_pinned cI 200 pinned, oI a_content cI 200 content, oI a_roots cI 6 roots, oX3 a_r a_steps a_queue queued, oI a_steps cI 200 steps, oI a_queue cI 200 queue]) (st' := [.int r1]) X (mX1_objectAt D cI cZ cH a_h a_owner a_fieldCount a_dataCount a_pinned a_age a_content a_roots a_weaks a_movedTo a_reports words depth allocated collections freed owner p1 r1 hc2) 1 gX6_retained_X1_objectAt rfl (by decide +kernel) rfl rfl ⟨Nat.le_of_ble_eq_true rfl, Nat.le_of_ble_eq_true rfl⟩ ⟨Nat.le_of_ble_eq_true rfl, Nat.le_of_ble_eq_true rfl⟩ rfl (Nat.le_of_ble_eq_true rfl) dX6_retained_5 1 rfl rfl [1, 2] rfl rfl rfl rfl rfl rfl ?_
  refine r_istore_n (pc' := 9) (lv' := [(0, .ref a_x), (1, .int p1), (2, .int r1)]) X dX6_retained_8 rfl (by decide) [1, 2, 0] rfl rfl ?_
  refine r_iload_n (pc' := 10) X dX6_retained_9 rfl 2 rfl rfl ?_
  refine r_iconst (pc' := 11) X (-1 : Int32) dX6_retained_10 (by decide) rfl ?_
  refine r_icmp_ne (pc' := 14) X 17 dX6_retained_11 (by decide) rfl (fun c9 => ?_) (fun c9 => ?_)
  · replace hF := g_f c9 hF
    refine r_aload_n (pc' := 18) X dX6_retained_17 rfl 0 rfl rfl ?_
    refine r_get (pc' := 21) X uX6_retained_X6 0 3 dX6_retained_18 rfl rfl (by decide) kX6_retained_3 rfl rfl ?_
    refine r_aload_n (pc' := 22) X dX6_retained_21 rfl 0 rfl rfl ?_
    refine r_get (pc' := 25) X uX6_retained_X6 0 0 dX6_retained_22 rfl rfl (by decide) kX6_retained_1 rfl rfl ?_
    refine r_iconst (pc' := 26) X (-1 : Int32) dX6_retained_25 (by decide) rfl ?_
    obtain ⟨⟨queued_3, steps_4, queue_5⟩, hc6, hF⟩ := g_bd hF
    refine r_callVF (pc' := 29) (ws' := [oX6 a_x a_h a_saved_ a_c a_r a_f a_o a_s latestRefusal, oX1 a_h words depth allocated collections freed a_owner a_fieldCount a_dataCount a_pinned a_age a_content a_roots a_weaks a_movedTo a_reports, oI a_owner cI 200 owner, oI a_fieldCount cI 200 fieldCount, oI a_dataCount cI 200 dataCount, oI a_pinned cI 200 pinned, oI a_content cI 200 content, oI a_roots cI 6 roots, oX3 a_r a_steps a_queue queued_3, oI a_steps cI 200 steps_4, oI a_queue cI 200 queue_5]) (st' := []) X (mX3_trace D cI cZ cH a_r a_steps a_queue a_h a_owner a_fieldCount a_pinned a_content a_roots a_dataCount a_age a_weaks a_movedTo a_reports queued steps queue words depth allocated collections freed owner fieldCount pinned content roots (-1 : Int32) queued_3 steps_4 queue_5 hc6) 2 gX6_retained_X3_trace rfl (by decide +kernel) rfl rfl ⟨Nat.le_of_ble_eq_true rfl, Nat.le_of_ble_eq_true rfl⟩ ⟨Nat.le_of_ble_eq_true rfl, Nat.le_of_ble_eq_true rfl⟩ rfl (Nat.le_of_ble_eq_true rfl) dX6_retained_26 8 rfl rfl [8, 9, 10, 1, 2, 3, 5, 6, 7] rfl rfl rfl rfl rfl rfl ?_
    refine r_aload_n (pc' := 30) X dX6_retained_29 rfl 0 rfl rfl ?_
    refine r_get (pc' := 33) X uX6_retained_X6 0 3 dX6_retained_30 rfl rfl (by decide) kX6_retained_3 rfl rfl ?_
    refine r_aload_n (pc' := 34) X dX6_retained_33 rfl 0 rfl rfl ?_
    refine r_get (pc' := 37) X uX6_retained_X6 0 0 dX6_retained_34 rfl rfl (by decide) kX6_retained_1 rfl rfl ?_
    obtain ⟨r7, hc8, hF⟩ := g_bd hF
    refine r_callVF (pc' := 40) (ws' := [oX6 a_x a_h a_saved_ a_c a_r a_f a_o a_s latestRefusal, oX1 a_h words depth allocated collections freed a_owner a_fieldCount a_dataCount a_pinned a_age a_content a_roots a_weaks a_movedTo a_reports, oI a_owner cI 200 owner, oI a_fieldCount cI 200 fieldCount, oI a_dataCount cI 200 dataCount, oI a_pinned cI 200 pinned, oI a_content cI 200 content, oI a_roots cI 6 roots, oX3 a_r a_steps a_queue queued_3, oI a_steps cI 200 steps_4, oI a_queue cI 200 queue_5]) (st' := [.int r7]) X (mX3_liveWords D cI cZ cH a_r a_queue a_h a_fieldCount a_dataCount a_steps a_owner a_pinned a_age a_content a_roots a_weaks a_movedTo a_reports queued_3 queue_5 words depth allocated collections freed fieldCount dataCount r7 hc8) 1 gX6_retained_X3_liveWords rfl (by decide +kernel) rfl rfl ⟨Nat.le_of_ble_eq_true rfl, Nat.le_of_ble_eq_true rfl⟩ ⟨Nat.le_of_ble_eq_true rfl, Nat.le_of_ble_eq_true rfl⟩ rfl (Nat.le_of_ble_eq_true rfl) dX6_retained_37 8 rfl rfl [8, 10, 1, 3, 4] rfl rfl rfl rfl rfl rfl ?_
    refine r_istore_n (pc' := 41) (lv' := [(0, .ref a_x), (1, .int p1), (2, .int r1), (3, .int r7)]) X dX6_retained_40 rfl (by decide) [1, 2, 3, 0] rfl rfl ?_
    refine r_aload_n (pc' := 42) X dX6_retained_41 rfl 0 rfl rfl ?_
    refine r_get (pc' := 45) X uX6_retained_X6 0 3 dX6_retained_42 rfl rfl (by decide) kX6_retained_3 rfl rfl ?_
    refine r_aload_n (pc' := 46) X dX6_retained_45 rfl 0 rfl rfl ?_
    refine r_get (pc' := 49) X uX6_retained_X6 0 0 dX6_retained_46 rfl rfl (by decide) kX6_retained_1 rfl rfl ?_
    refine r_iload_n (pc' := 50) X dX6_retained_49 rfl 2 rfl rfl ?_
    obtain ⟨⟨queued_9, steps_10, queue_11⟩, hc12, hF⟩ := g_bd hF
    refine r_callVF (pc' := 53) (ws' := [oX6 a_x a_h a_saved_ a_c a_r a_f a_o a_s latestRefusal, oX1 a_h words depth allocated collections freed a_owner a_fieldCount a_dataCount a_pinned a_age a_content a_roots a_weaks a_movedTo a_reports, oI a_owner cI 200 owner, oI a_fieldCount cI 200 fieldCount, oI a_dataCount cI 200 dataCount, oI a_pinned cI 200 pinned, oI a_content cI 200 content, oI a_roots cI 6 roots, oX3 a_r a_steps a_queue queued_9, oI a_steps cI 200 steps_10, oI a_queue cI 200 queue_11]) (st' := []) X (mX3_trace D cI cZ cH a_r a_steps a_queue a_h a_owner a_fieldCount a_pinned a_content a_roots a_dataCount a_age a_weaks a_movedTo a_reports queued_3 steps_4 queue_5 words depth allocated collections freed owner fieldCount pinned content roots r1 queued_9 steps_10 queue_11 hc12) 2 gX6_retained_X3_trace rfl (by decide +kernel) rfl rfl ⟨Nat.le_of_ble_eq_true rfl, Nat.le_of_ble_eq_true rfl⟩ ⟨Nat.le_of_ble_eq_true rfl, Nat.le_of_ble_eq_true rfl⟩ rfl (Nat.le_of_ble_eq_true rfl) dX6_retained_50 8 rfl rfl [8, 9, 10, 1, 2, 3, 5, 6, 7] rfl rfl rfl rfl rfl rfl ?_
    refine r_iload_n (pc' := 54) X dX6_retained_53 rfl 3 rfl rfl ?_
    refine r_aload_n (pc' := 55) X dX6_retained_54 rfl 0 rfl rfl ?_
    refine r_get (pc' := 58) X uX6_retained_X6 0 3 dX6_retained_55 rfl rfl (by decide) kX6_retained_3 rfl rfl ?_
    refine r_aload_n (pc' := 59) X dX6_retained_58 rfl 0 rfl rfl ?_
    refine r_get (pc' := 62) X uX6_retained_X6 0 0 dX6_retained_59 rfl rfl (by decide) kX6_retained_1 rfl rfl ?_
    obtain ⟨r13, hc14, hF⟩ := g_bd hF
    refine r_callVF (pc' := 65) (ws' := [oX6 a_x a_h a_saved_ a_c a_r a_f a_o a_s latestRefusal, oX1 a_h words depth allocated collections freed a_owner a_fieldCount a_dataCount a_pinned a_age a_content a_roots a_weaks a_movedTo a_reports, oI a_owner cI 200 owner, oI a_fieldCount cI 200 fieldCount, oI a_dataCount cI 200 dataCount, oI a_pinned cI 200 pinned, oI a_content cI 200 content, oI a_roots cI 6 roots, oX3 a_r a_steps a_queue queued_9, oI a_steps cI 200 steps_10, oI a_queue cI 200 queue_11]) (st' := [.int r13, .int r7]) X (mX3_liveWords D cI cZ cH a_r a_queue a_h a_fieldCount a_dataCount a_steps a_owner a_pinned a_age a_content a_roots a_weaks a_movedTo a_reports queued_9 queue_11 words depth allocated collections freed fieldCount dataCount r13 hc14) 1 gX6_retained_X3_liveWords rfl (by decide +kernel) rfl rfl ⟨Nat.le_of_ble_eq_true rfl, Nat.le_of_ble_eq_true rfl⟩ ⟨Nat.le_of_ble_eq_true rfl, Nat.le_of_ble_eq_true rfl⟩ rfl (Nat.le_of_ble_eq_true rfl) dX6_retained_62 8 rfl rfl [8, 10, 1, 3, 4] rfl rfl rfl rfl rfl rfl ?_
    refine r_isub (pc' := 66) X dX6_retained_65 rfl ?_
    cases hF
    exact RT.1 0 0 _ _ _ _ .int rfl rfl dX6_retained_66 ⟨rfl, rfl⟩ (Nat.le_refl 0) (Nat.le_refl 0)
  · replace hF := g_t c9 hF
    refine r_ldc (pc' := 16) X dX6_retained_14 kX6_retained_2 rfl ?_
    cases hF
    exact RT.1 0 0 _ _ _ _ .int rfl rfl dX6_retained_16 ⟨rfl, rfl⟩ (Nat.le_refl 0) (Nat.le_refl 0)
theorem kX6_free_1 : Cond.constant RX6 63 (-1000002) ∈ wsX6_free := List.mem_of_getElem? (i := 1) (by decide +kernel)
theorem kX6_free_2 : Cond.fieldLink RX6 48 "IslandHeap" "holes" "LIslandHeap$Holes;" ∈ wsX6_free := List.mem_of_getElem? (i := 2) (by decide +kernel)
theorem kX6_free_3 : Cond.fieldLink RX6 12 "IslandHeap" "heap" "LIslandHeap$Heap;" ∈ wsX6_free := List.mem_of_getElem? (i := 3) (by decide +kernel)
theorem kX6_free_4 : Cond.fieldLink RX6 168 "IslandHeap$Holes" "numbers" "[I" ∈ wsX6_free := List.mem_of_getElem? (i := 4) (by decide +kernel)
theorem uX6_free_X6 : ∀ w ∈ u_ws RX6 TX6 8, w ∈ wsX6_free := by decide +kernel
theorem uX6_free_X2 : ∀ w ∈ u_ws RX2 TX2 1, w ∈ wsX6_free := by decide +kernel
set_option maxHeartbeats 4000000 in
set_option maxRecDepth 100000 in
theorem mX6_free (D : va_G) (cI cZ cH : ClassId) (a_x : Nat) (a_h : Nat) (a_owner : Nat) (a_o : Nat) (a_numbers : Nat) (a_saved_ : Nat) (a_c : Nat) (a_r : Nat) (a_f : Nat) (a_s : Nat) (a_fieldCount : Nat) (a_dataCount : Nat) (a_pinned : Nat) (a_age : Nat) (a_content : Nat) (a_roots : Nat) (a_weaks : Nat) (a_movedTo : Nat) (a_reports : Nat) (latestRefusal : Int32) (words : Int32) (depth : Int32) (allocated : Int32) (collections : Int32) (freed : Int32) (owner : Nat → Int32) (numbers : Nat → Int32) (p1 : Int32) (r0 : Int32) (w_numbers : Nat → Int32) (hF : FX6_free words owner numbers p1 = some (r0, w_numbers)) : g_CM yX6_free wsX6_free ({ frames := 3, cells := 0, slots := 0, locals := 85 }) D cI cZ cH [.ref a_x, .int p1] [oX6 a_x a_h a_saved_ a_c a_r a_f a_o a_s latestRefusal, oX1 a_h words depth allocated collections freed a_owner a_fieldCount a_dataCount a_pinned a_age a_content a_roots a_weaks a_movedTo a_reports, oI a_owner cI 200 owner, oX2 a_o a_numbers, oI a_numbers cI 5 numbers] 0 0 (g_Tm (some (.int r0)) [oX6 a_x a_h a_saved_ a_c a_r a_f a_o a_s latestRefusal, oX1 a_h words depth allocated collections freed a_owner a_fieldCount a_dataCount a_pinned a_age a_content a_roots a_weaks a_movedTo a_reports, oI a_owner cI 200 owner, oX2 a_o a_numbers, oI a_numbers cI 5 w_numbers]) := by
  refine g_met (own := RX6) (mn := "free") (cc := cX6_free) (maxL := 2) (ret := (some .int)) rfl rfl (by decide +kernel) rfl (Nat.le_of_ble_eq_true rfl) (fun G X RT => ?_)
  show G 0 0 [oX6 a_x a_h a_saved_ a_c a_r a_f a_o a_s latestRefusal, oX1 a_h words depth allocated collections freed a_owner a_fieldCount a_dataCount a_pinned a_age a_content a_roots a_weaks a_movedTo a_reports, oI a_owner cI 200 owner, oX2 a_o a_numbers, oI a_numbers cI 5 numbers] [(0, .ref a_x), (1, .int p1)] 0 []
  unfold FX6_free at hF
  refine r_iload_n (pc' := 1) X dX6_free_0 rfl 1 rfl rfl ?_
  refine r_if_lt (pc' := 4) X 9 dX6_free_1 (by decide) rfl (fun c9 => ?_) (fun c9 => ?_)
  · replace hF := g_t c9 hF
    refine r_ldc (pc' := 11) X dX6_free_9 kX6_free_1 rfl ?_
    cases hF
    exact RT.1 0 0 _ _ _ _ .int rfl rfl dX6_free_11 ⟨rfl, rfl⟩ (Nat.le_refl 0) (Nat.le_refl 0)
  · replace hF := g_f c9 hF
    refine r_iload_n (pc' := 5) X dX6_free_4 rfl 1 rfl rfl ?_
    refine r_iconst (pc' := 6) X (5 : Int32) dX6_free_5 (by decide) rfl ?_
    refine r_icmp_lt (pc' := 9) X 12 dX6_free_6 (by decide) rfl (fun c9 => ?_) (fun c9 => ?_)
    · replace hF := g_t c9 hF
      refine r_aload_n (pc' := 13) X dX6_free_12 rfl 0 rfl rfl ?_
      refine r_get (pc' := 16) X uX6_free_X6 0 5 dX6_free_13 rfl rfl (by decide) kX6_free_2 rfl rfl ?_
      refine r_aload_n (pc' := 17) X dX6_free_16 rfl 0 rfl rfl ?_
      refine r_get (pc' := 20) X uX6_free_X6 0 0 dX6_free_17 rfl rfl (by decide) kX6_free_3 rfl rfl ?_
      obtain ⟨numbers_1, hc2, hF⟩ := g_bd hF
      refine r_callVF (pc' := 23) (ws' := [oX6 a_x a_h a_saved_ a_c a_r a_f a_o a_s latestRefusal, oX1 a_h words depth allocated collections freed a_owner a_fieldCount a_dataCount a_pinned a_age a_content a_roots a_weaks a_movedTo a_reports, oI a_owner cI 200 owner, oX2 a_o a_numbers, oI a_numbers cI 5 numbers_1]) (st' := []) X (mX2_measure D cI cZ cH a_o a_numbers a_h a_owner a_fieldCount a_dataCount a_pinned a_age a_content a_roots a_weaks a_movedTo a_reports numbers words depth allocated collections freed owner numbers_1 hc2) 1 gX6_free_X2_measure rfl (by decide +kernel) rfl rfl ⟨Nat.le_of_ble_eq_true rfl, Nat.le_of_ble_eq_true rfl⟩ ⟨Nat.le_of_ble_eq_true rfl, Nat.le_of_ble_eq_true rfl⟩ rfl (Nat.le_of_ble_eq_true rfl) dX6_free_20 3 rfl rfl [3, 4, 1, 2] rfl rfl rfl rfl rfl rfl ?_
      refine r_aload_n (pc' := 24) X dX6_free_23 rfl 0 rfl rfl ?_
      refine r_get (pc' := 27) X uX6_free_X6 0 5 dX6_free_24 rfl rfl (by decide) kX6_free_2 rfl rfl ?_
      refine r_get (pc' := 30) X uX6_free_X2 3 0 dX6_free_27 rfl rfl (by decide) kX6_free_4 rfl rfl ?_
      refine r_iload_n (pc' := 31) X dX6_free_30 rfl 1 rfl rfl ?_
      obtain ⟨hi3, hF⟩ := g_gt hF
      refine r_iald (pc' := 32) X 4 dX6_free_31 rfl (g_vi hi3) rfl ?_
      cases hF
      exact RT.1 0 0 _ _ _ _ .int rfl rfl dX6_free_32 ⟨rfl, rfl⟩ (Nat.le_refl 0) (Nat.le_refl 0)
    · replace hF := g_f c9 hF
      refine r_ldc (pc' := 11) X dX6_free_9 kX6_free_1 rfl ?_
      cases hF
      exact RT.1 0 0 _ _ _ _ .int rfl rfl dX6_free_11 ⟨rfl, rfl⟩ (Nat.le_refl 0) (Nat.le_refl 0)
theorem kX6_type_1 : Cond.constant RX6 63 (-1000002) ∈ wsX6_type := List.mem_of_getElem? (i := 1) (by decide +kernel)
theorem kX6_type_2 : Cond.fieldLink RX6 55 "IslandHeap" "script" "LIslandHeap$Script;" ∈ wsX6_type := List.mem_of_getElem? (i := 2) (by decide +kernel)
theorem kX6_type_3 : Cond.fieldLink RX6 171 "IslandHeap$Script" "length" "I" ∈ wsX6_type := List.mem_of_getElem? (i := 3) (by decide +kernel)
theorem kX6_type_5 : Cond.fieldLink RX6 174 "IslandHeap$Script" "letters" "[I" ∈ wsX6_type := List.mem_of_getElem? (i := 5) (by decide +kernel)
theorem kX6_type_4 : Cond.constant RX6 68 (-1000004) ∈ wsX6_type := List.mem_of_getElem? (i := 4) (by decide +kernel)
theorem uX6_type_X6 : ∀ w ∈ u_ws RX6 TX6 8, w ∈ wsX6_type := by decide +kernel
theorem uX6_type_X5 : ∀ w ∈ u_ws RX5 TX5 9, w ∈ wsX6_type := by decide +kernel
set_option maxHeartbeats 4000000 in
set_option maxRecDepth 100000 in
theorem mX6_type (D : va_G) (cI cZ cH : ClassId) (a_x : Nat) (a_s : Nat) (a_letters : Nat) (a_h : Nat) (a_saved_ : Nat) (a_c : Nat) (a_r : Nat) (a_f : Nat) (a_o : Nat) (a_kinds : Nat) (a_firsts : Nat) (a_seconds : Nat) (a_thirds : Nat) (latestRefusal : Int32) (length_ : Int32) (commands : Int32) (faultIndex : Int32) (position : Int32) (letters : Nat → Int32) (p1 : Int32) (r0 : Int32) (w_length_ : Int32) (w_letters : Nat → Int32) (hF : FX6_type length_ letters p1 = some (r0, w_length_, w_letters)) : g_CM yX6_type wsX6_type ({ frames := 0, cells := 0, slots := 0, locals := 0 }) D cI cZ cH [.ref a_x, .int p1] [oX6 a_x a_h a_saved_ a_c a_r a_f a_o a_s latestRefusal, oX5 a_s a_letters length_ a_kinds a_firsts a_seconds a_thirds commands faultIndex position, oI a_letters cI 80 letters] 0 0 (g_Tm (some (.int r0)) [oX6 a_x a_h a_saved_ a_c a_r a_f a_o a_s latestRefusal, oX5 a_s a_letters w_length_ a_kinds a_firsts a_seconds a_thirds commands faultIndex position, oI a_letters cI 80 w_letters]) := by
  refine g_met (own := RX6) (mn := "type") (cc := cX6_type) (maxL := 2) (ret := (some .int)) rfl rfl (by decide +kernel) rfl (Nat.le_of_ble_eq_true rfl) (fun G X RT => ?_)
  show G 0 0 [oX6 a_x a_h a_saved_ a_c a_r a_f a_o a_s latestRefusal, oX5 a_s a_letters length_ a_kinds a_firsts a_seconds a_thirds commands faultIndex position, oI a_letters cI 80 letters] [(0, .ref a_x), (1, .int p1)] 0 []
  unfold FX6_type at hF
  refine r_iload_n (pc' := 1) X dX6_type_0 rfl 1 rfl rfl ?_
  refine r_if_lt (pc' := 4) X 10 dX6_type_1 (by decide) rfl (fun c9 => ?_) (fun c9 => ?_)
  · replace hF := g_t c9 hF
    refine r_ldc (pc' := 12) X dX6_type_10 kX6_type_1 rfl ?_
    cases hF
    exact RT.1 0 0 _ _ _ _ .int rfl rfl dX6_type_12 ⟨rfl, rfl⟩ (Nat.le_refl 0) (Nat.le_refl 0)
  · replace hF := g_f c9 hF
    refine r_iload_n (pc' := 5) X dX6_type_4 rfl 1 rfl rfl ?_
    refine r_bipush (pc' := 7) X (127 : Int32) dX6_type_5 (by decide) rfl ?_
    refine r_icmp_le (pc' := 10) X 13 dX6_type_7 (by decide) rfl (fun c9 => ?_) (fun c9 => ?_)
    · replace hF := g_t c9 hF
      refine r_aload_n (pc' := 14) X dX6_type_13 rfl 0 rfl rfl ?_
      refine r_get (pc' := 17) X uX6_type_X6 0 6 dX6_type_14 rfl rfl (by decide) kX6_type_2 rfl rfl ?_
      refine r_get (pc' := 20) X uX6_type_X5 1 1 dX6_type_17 rfl rfl (by decide) kX6_type_3 rfl rfl ?_
      refine r_bipush (pc' := 22) X (80 : Int32) dX6_type_20 (by decide) rfl ?_
      refine r_icmp_lt (pc' := 25) X 28 dX6_type_22 (by decide) rfl (fun c9 => ?_) (fun c9 => ?_)
      · replace hF := g_t c9 hF
        refine r_aload_n (pc' := 29) X dX6_type_28 rfl 0 rfl rfl ?_
        refine r_get (pc' := 32) X uX6_type_X6 0 6 dX6_type_29 rfl rfl (by decide) kX6_type_2 rfl rfl ?_
        refine r_get (pc' := 35) X uX6_type_X5 1 0 dX6_type_32 rfl rfl (by decide) kX6_type_5 rfl rfl ?_
        refine r_aload_n (pc' := 36) X dX6_type_35 rfl 0 rfl rfl ?_
        refine r_get (pc' := 39) X uX6_type_X6 0 6 dX6_type_36 rfl rfl (by decide) kX6_type_2 rfl rfl ?_
        refine r_get (pc' := 42) X uX6_type_X5 1 1 dX6_type_39 rfl rfl (by decide) kX6_type_3 rfl rfl ?_
        refine r_iload_n (pc' := 43) X dX6_type_42 rfl 1 rfl rfl ?_
        obtain ⟨hi1, hF⟩ := g_gt hF
        refine r_iast (pc' := 44) (ws' := [oX6 a_x a_h a_saved_ a_c a_r a_f a_o a_s latestRefusal, oX5 a_s a_letters length_ a_kinds a_firsts a_seconds a_thirds commands faultIndex position, oI a_letters cI 80 (upd letters length_.toNatClampNeg p1)]) X 2 dX6_type_43 rfl (g_vi hi1) rfl rfl ?_
        refine r_aload_n (pc' := 45) X dX6_type_44 rfl 0 rfl rfl ?_
        refine r_get (pc' := 48) X uX6_type_X6 0 6 dX6_type_45 rfl rfl (by decide) kX6_type_2 rfl rfl ?_
        refine r_dup (pc' := 49) X dX6_type_48 rfl rfl ?_
        refine r_get (pc' := 52) X uX6_type_X5 1 1 dX6_type_49 rfl rfl (by decide) kX6_type_3 rfl rfl ?_
        refine r_iconst (pc' := 53) X (1 : Int32) dX6_type_52 (by decide) rfl ?_
        refine r_iadd (pc' := 54) X dX6_type_53 rfl ?_
        refine r_put (pc' := 57) (ty := .int) (ws' := [oX6 a_x a_h a_saved_ a_c a_r a_f a_o a_s latestRefusal, oX5 a_s a_letters (length_ + (1 : Int32)) a_kinds a_firsts a_seconds a_thirds commands faultIndex position, oI a_letters cI 80 (upd letters length_.toNatClampNeg p1)]) X uX6_type_X5 1 1 tyX5 tyX5_ok nmX5 dX6_type_54 rfl rfl (by decide) kX6_type_3 rfl (by decide +kernel) rfl rfl (Nat.le_of_ble_eq_true rfl) rfl rfl ?_
        refine r_aload_n (pc' := 58) X dX6_type_57 rfl 0 rfl rfl ?_
        refine r_get (pc' := 61) X uX6_type_X6 0 6 dX6_type_58 rfl rfl (by decide) kX6_type_2 rfl rfl ?_
        refine r_get (pc' := 64) X uX6_type_X5 1 1 dX6_type_61 rfl rfl (by decide) kX6_type_3 rfl rfl ?_
        cases hF
        exact RT.1 0 0 _ _ _ _ .int rfl rfl dX6_type_64 ⟨rfl, rfl⟩ (Nat.le_refl 0) (Nat.le_refl 0)
      · replace hF := g_f c9 hF
        refine r_ldc (pc' := 27) X dX6_type_25 kX6_type_4 rfl ?_
        cases hF
        exact RT.1 0 0 _ _ _ _ .int rfl rfl dX6_type_27 ⟨rfl, rfl⟩ (Nat.le_refl 0) (Nat.le_refl 0)
    · replace hF := g_f c9 hF
      refine r_ldc (pc' := 12) X dX6_type_10 kX6_type_1 rfl ?_
      cases hF
      exact RT.1 0 0 _ _ _ _ .int rfl rfl dX6_type_12 ⟨rfl, rfl⟩ (Nat.le_refl 0) (Nat.le_refl 0)
theorem kX6_clearText_1 : Cond.fieldLink RX6 55 "IslandHeap" "script" "LIslandHeap$Script;" ∈ wsX6_clearText := List.mem_of_getElem? (i := 1) (by decide +kernel)
theorem kX6_clearText_2 : Cond.fieldLink RX6 171 "IslandHeap$Script" "length" "I" ∈ wsX6_clearText := List.mem_of_getElem? (i := 2) (by decide +kernel)
theorem uX6_clearText_X6 : ∀ w ∈ u_ws RX6 TX6 8, w ∈ wsX6_clearText := by decide +kernel
theorem uX6_clearText_X5 : ∀ w ∈ u_ws RX5 TX5 9, w ∈ wsX6_clearText := by decide +kernel
set_option maxHeartbeats 4000000 in
set_option maxRecDepth 100000 in
theorem mX6_clearText (D : va_G) (cI cZ cH : ClassId) (a_x : Nat) (a_s : Nat) (a_h : Nat) (a_saved_ : Nat) (a_c : Nat) (a_r : Nat) (a_f : Nat) (a_o : Nat) (a_letters : Nat) (a_kinds : Nat) (a_firsts : Nat) (a_seconds : Nat) (a_thirds : Nat) (latestRefusal : Int32) (length_ : Int32) (commands : Int32) (faultIndex : Int32) (position : Int32) (r0 : Int32) (w_length_ : Int32) (hF : FX6_clearText length_ = some (r0, w_length_)) : g_CM yX6_clearText wsX6_clearText ({ frames := 0, cells := 0, slots := 0, locals := 0 }) D cI cZ cH [.ref a_x] [oX6 a_x a_h a_saved_ a_c a_r a_f a_o a_s latestRefusal, oX5 a_s a_letters length_ a_kinds a_firsts a_seconds a_thirds commands faultIndex position] 0 0 (g_Tm (some (.int r0)) [oX6 a_x a_h a_saved_ a_c a_r a_f a_o a_s latestRefusal, oX5 a_s a_letters w_length_ a_kinds a_firsts a_seconds a_thirds commands faultIndex position]) := by
  refine g_met (own := RX6) (mn := "clearText") (cc := cX6_clearText) (maxL := 2) (ret := (some .int)) rfl rfl (by decide +kernel) rfl (Nat.le_of_ble_eq_true rfl) (fun G X RT => ?_)
  show G 0 0 [oX6 a_x a_h a_saved_ a_c a_r a_f a_o a_s latestRefusal, oX5 a_s a_letters length_ a_kinds a_firsts a_seconds a_thirds commands faultIndex position] [(0, .ref a_x)] 0 []
  unfold FX6_clearText at hF
  refine r_aload_n (pc' := 1) X dX6_clearText_0 rfl 0 rfl rfl ?_
  refine r_get (pc' := 4) X uX6_clearText_X6 0 6 dX6_clearText_1 rfl rfl (by decide) kX6_clearText_1 rfl rfl ?_
  refine r_get (pc' := 7) X uX6_clearText_X5 1 1 dX6_clearText_4 rfl rfl (by decide) kX6_clearText_2 rfl rfl ?_
  refine r_istore_n (pc' := 8) (lv' := [(0, .ref a_x), (1, .int length_)]) X dX6_clearText_7 rfl (by decide) [1, 0] rfl rfl ?_
  refine r_aload_n (pc' := 9) X dX6_clearText_8 rfl 0 rfl rfl ?_
  refine r_get (pc' := 12) X uX6_clearText_X6 0 6 dX6_clearText_9 rfl rfl (by decide) kX6_clearText_1 rfl rfl ?_
  refine r_iconst (pc' := 13) X (0 : Int32) dX6_clearText_12 (by decide) rfl ?_
  refine r_put (pc' := 16) (ty := .int) (ws' := [oX6 a_x a_h a_saved_ a_c a_r a_f a_o a_s latestRefusal, oX5 a_s a_letters (0 : Int32) a_kinds a_firsts a_seconds a_thirds commands faultIndex position]) X uX6_clearText_X5 1 1 tyX5 tyX5_ok nmX5 dX6_clearText_13 rfl rfl (by decide) kX6_clearText_2 rfl (by decide +kernel) rfl rfl (Nat.le_of_ble_eq_true rfl) rfl rfl ?_
  refine r_iload_n (pc' := 17) X dX6_clearText_16 rfl 1 rfl rfl ?_
  cases hF
  exact RT.1 0 0 _ _ _ _ .int rfl rfl dX6_clearText_17 ⟨rfl, rfl⟩ (Nat.le_refl 0) (Nat.le_refl 0)
theorem kX6_fault_1 : Cond.fieldLink RX6 55 "IslandHeap" "script" "LIslandHeap$Script;" ∈ wsX6_fault := List.mem_of_getElem? (i := 1) (by decide +kernel)
theorem kX6_fault_2 : Cond.fieldLink RX6 180 "IslandHeap$Script" "faultIndex" "I" ∈ wsX6_fault := List.mem_of_getElem? (i := 2) (by decide +kernel)
theorem uX6_fault_X6 : ∀ w ∈ u_ws RX6 TX6 8, w ∈ wsX6_fault := by decide +kernel
theorem uX6_fault_X5 : ∀ w ∈ u_ws RX5 TX5 9, w ∈ wsX6_fault := by decide +kernel
set_option maxHeartbeats 4000000 in
set_option maxRecDepth 100000 in
theorem mX6_fault (D : va_G) (cI cZ cH : ClassId) (a_x : Nat) (a_s : Nat) (a_letters : Nat) (a_kinds : Nat) (a_firsts : Nat) (a_seconds : Nat) (a_thirds : Nat) (a_h : Nat) (a_saved_ : Nat) (a_c : Nat) (a_r : Nat) (a_f : Nat) (a_o : Nat) (latestRefusal : Int32) (length_ : Int32) (commands : Int32) (faultIndex : Int32) (position : Int32) (letters : Nat → Int32) (kinds : Nat → Int32) (firsts : Nat → Int32) (seconds : Nat → Int32) (thirds : Nat → Int32) (r0 : Int32) (w_commands : Int32) (w_faultIndex : Int32) (w_position : Int32) (w_kinds : Nat → Int32) (w_firsts : Nat → Int32) (w_seconds : Nat → Int32) (w_thirds : Nat → Int32) (hF : FX6_fault length_ commands faultIndex position letters kinds firsts seconds thirds = some (r0, w_commands, w_faultIndex, w_position, w_kinds, w_firsts, w_seconds, w_thirds)) : g_CM yX6_fault wsX6_fault ({ frames := 6, cells := 0, slots := 0, locals := 127 }) D cI cZ cH [.ref a_x] [oX6 a_x a_h a_saved_ a_c a_r a_f a_o a_s latestRefusal, oX5 a_s a_letters length_ a_kinds a_firsts a_seconds a_thirds commands faultIndex position, oI a_letters cI 80 letters, oI a_kinds cI 40 kinds, oI a_firsts cI 40 firsts, oI a_seconds cI 40 seconds, oI a_thirds cI 40 thirds] 0 0 (g_Tm (some (.int r0)) [oX6 a_x a_h a_saved_ a_c a_r a_f a_o a_s latestRefusal, oX5 a_s a_letters length_ a_kinds a_firsts a_seconds a_thirds w_commands w_faultIndex w_position, oI a_letters cI 80 letters, oI a_kinds cI 40 w_kinds, oI a_firsts cI 40 w_firsts, oI a_seconds cI 40 w_seconds, oI a_thirds cI 40 w_thirds]) := by
  refine g_met (own := RX6) (mn := "fault") (cc := cX6_fault) (maxL := 1) (ret := (some .int)) rfl rfl (by decide +kernel) rfl (Nat.le_of_ble_eq_true rfl) (fun G X RT => ?_)
  show G 0 0 [oX6 a_x a_h a_saved_ a_c a_r a_f a_o a_s latestRefusal, oX5 a_s a_letters length_ a_kinds a_firsts a_seconds a_thirds commands faultIndex position, oI a_letters cI 80 letters, oI a_kinds cI 40 kinds, oI a_firsts cI 40 firsts, oI a_seconds cI 40 seconds, oI a_thirds cI 40 thirds] [(0, .ref a_x)] 0 []
  unfold FX6_fault at hF
  refine r_aload_n (pc' := 1) X dX6_fault_0 rfl 0 rfl rfl ?_
  refine r_get (pc' := 4) X uX6_fault_X6 0 6 dX6_fault_1 rfl rfl (by decide) kX6_fault_1 rfl rfl ?_
  obtain ⟨⟨commands_1, faultIndex_2, position_3, kinds_4, firsts_5, seconds_6, thirds_7⟩, hc8, hF⟩ := g_bd hF
  refine r_callVF (pc' := 7) (ws' := [oX6 a_x a_h a_saved_ a_c a_r a_f a_o a_s latestRefusal, oX5 a_s a_letters length_ a_kinds a_firsts a_seconds a_thirds commands_1 faultIndex_2 position_3, oI a_letters cI 80 letters, oI a_kinds cI 40 kinds_4, oI a_firsts cI 40 firsts_5, oI a_seconds cI 40 seconds_6, oI a_thirds cI 40 thirds_7]) (st' := []) X (mX5_read D cI cZ cH a_s a_letters a_kinds a_firsts a_seconds a_thirds length_ commands faultIndex position letters kinds firsts seconds thirds commands_1 faultIndex_2 position_3 kinds_4 firsts_5 seconds_6 thirds_7 hc8) 0 gX6_fault_X5_read rfl (by decide +kernel) rfl rfl ⟨Nat.le_of_ble_eq_true rfl, Nat.le_of_ble_eq_true rfl⟩ ⟨Nat.le_of_ble_eq_true rfl, Nat.le_of_ble_eq_true rfl⟩ rfl (Nat.le_of_ble_eq_true rfl) dX6_fault_4 1 rfl rfl [1, 2, 3, 4, 5, 6] rfl rfl rfl rfl rfl rfl ?_
  refine r_aload_n (pc' := 8) X dX6_fault_7 rfl 0 rfl rfl ?_
  refine r_get (pc' := 11) X uX6_fault_X6 0 6 dX6_fault_8 rfl rfl (by decide) kX6_fault_1 rfl rfl ?_
  refine r_get (pc' := 14) X uX6_fault_X5 1 7 dX6_fault_11 rfl rfl (by decide) kX6_fault_2 rfl rfl ?_
  cases hF
  exact RT.1 0 0 _ _ _ _ .int rfl rfl dX6_fault_14 ⟨rfl, rfl⟩ (Nat.le_refl 0) (Nat.le_refl 0)
theorem kX6_perform_1 : Cond.fieldLink RX6 55 "IslandHeap" "script" "LIslandHeap$Script;" ∈ wsX6_perform := List.mem_of_getElem? (i := 1) (by decide +kernel)
theorem kX6_perform_2 : Cond.fieldLink RX6 241 "IslandHeap$Script" "firsts" "[I" ∈ wsX6_perform := List.mem_of_getElem? (i := 2) (by decide +kernel)
theorem kX6_perform_3 : Cond.fieldLink RX6 244 "IslandHeap$Script" "seconds" "[I" ∈ wsX6_perform := List.mem_of_getElem? (i := 3) (by decide +kernel)
theorem kX6_perform_4 : Cond.fieldLink RX6 247 "IslandHeap$Script" "kinds" "[I" ∈ wsX6_perform := List.mem_of_getElem? (i := 4) (by decide +kernel)
theorem kX6_perform_5 : Cond.fieldLink RX6 259 "IslandHeap$Script" "thirds" "[I" ∈ wsX6_perform := List.mem_of_getElem? (i := 5) (by decide +kernel)
theorem uX6_perform_X6 : ∀ w ∈ u_ws RX6 TX6 8, w ∈ wsX6_perform := by decide +kernel
theorem uX6_perform_X5 : ∀ w ∈ u_ws RX5 TX5 9, w ∈ wsX6_perform := by decide +kernel
set_option maxHeartbeats 4000000 in
set_option maxRecDepth 100000 in
theorem mX6_perform (D : va_G) (cI cZ cH : ClassId) (a_x : Nat) (a_h : Nat) (a_owner : Nat) (a_fieldCount : Nat) (a_dataCount : Nat) (a_pinned : Nat) (a_age : Nat) (a_content : Nat) (a_roots : Nat) (a_weaks : Nat) (a_movedTo : Nat) (a_reports : Nat) (a_c : Nat) (a_marked : Nat) (a_stack : Nat) (a_s : Nat) (a_kinds : Nat) (a_firsts : Nat) (a_seconds : Nat) (a_thirds : Nat) (a_saved_ : Nat) (a_r : Nat) (a_f : Nat) (a_o : Nat) (a_letters : Nat) (latestRefusal : Int32) (words : Int32) (depth : Int32) (allocated : Int32) (collections : Int32) (freed : Int32) (owner : Nat → Int32) (fieldCount : Nat → Int32) (dataCount : Nat → Int32) (pinned : Nat → Int32) (age : Nat → Int32) (content : Nat → Int32) (roots : Nat → Int32) (weaks : Nat → Int32) (movedTo : Nat → Int32) (reports : Nat → Int32) (stacked : Int32) (deepest : Int32) (scans : Int32) (overflow : Int32) (marked : Nat → Int32) (stack : Nat → Int32) (length_ : Int32) (commands : Int32) (faultIndex : Int32) (position : Int32) (kinds : Nat → Int32) (firsts : Nat → Int32) (seconds : Nat → Int32) (thirds : Nat → Int32) (p1 : Int32) (r0 : Int32) (w_allocated : Int32) (w_collections : Int32) (w_freed : Int32) (w_owner : Nat → Int32) (w_fieldCount : Nat → Int32) (w_dataCount : Nat → Int32) (w_pinned : Nat → Int32) (w_age : Nat → Int32) (w_content : Nat → Int32) (w_roots : Nat → Int32) (w_weaks : Nat → Int32) (w_movedTo : Nat → Int32) (w_reports : Nat → Int32) (w_stacked : Int32) (w_deepest : Int32) (w_scans : Int32) (w_overflow : Int32) (w_marked : Nat → Int32) (w_stack : Nat → Int32) (hF : FX6_perform words depth allocated collections freed owner fieldCount dataCount pinned age content roots weaks movedTo reports stacked deepest scans overflow marked stack kinds firsts seconds thirds p1 = some (r0, w_allocated, w_collections, w_freed, w_owner, w_fieldCount, w_dataCount, w_pinned, w_age, w_content, w_roots, w_weaks, w_movedTo, w_reports, w_stacked, w_deepest, w_scans, w_overflow, w_marked, w_stack)) : g_CM yX6_perform wsX6_perform ({ frames := 6, cells := 0, slots := 0, locals := 133 }) D cI cZ cH [.ref a_x, .int p1] [oX6 a_x a_h a_saved_ a_c a_r a_f a_o a_s latestRefusal, oX1 a_h words depth allocated collections freed a_owner a_fieldCount a_dataCount a_pinned a_age a_content a_roots a_weaks a_movedTo a_reports, oI a_owner cI 200 owner, oI a_fieldCount cI 200 fieldCount, oI a_dataCount cI 200 dataCount, oI a_pinned cI 200 pinned, oI a_age cI 200 age, oI a_content cI 200 content, oI a_roots cI 6 roots, oI a_weaks cI 4 weaks, oI a_movedTo cI 200 movedTo, oI a_reports cI 6 reports, oX0 a_c a_marked a_stack stacked deepest scans overflow, oZ a_marked cZ 200 marked, oI a_stack cI 20 stack, oX5 a_s a_letters length_ a_kinds a_firsts a_seconds a_thirds commands faultIndex position, oI a_kinds cI 40 kinds, oI a_firsts cI 40 firsts, oI a_seconds cI 40 seconds, oI a_thirds cI 40 thirds] 0 0 (g_Tm (some (.int r0)) [oX6 a_x a_h a_saved_ a_c a_r a_f a_o a_s latestRefusal, oX1 a_h words depth w_allocated w_collections w_freed a_owner a_fieldCount a_dataCount a_pinned a_age a_content a_roots a_weaks a_movedTo a_reports, oI a_owner cI 200 w_owner, oI a_fieldCount cI 200 w_fieldCount, oI a_dataCount cI 200 w_dataCount, oI a_pinned cI 200 w_pinned, oI a_age cI 200 w_age, oI a_content cI 200 w_content, oI a_roots cI 6 w_roots, oI a_weaks cI 4 w_weaks, oI a_movedTo cI 200 w_movedTo, oI a_reports cI 6 w_reports, oX0 a_c a_marked a_stack w_stacked w_deepest w_scans w_overflow, oZ a_marked cZ 200 w_marked, oI a_stack cI 20 w_stack, oX5 a_s a_letters length_ a_kinds a_firsts a_seconds a_thirds commands faultIndex position, oI a_kinds cI 40 kinds, oI a_firsts cI 40 firsts, oI a_seconds cI 40 seconds, oI a_thirds cI 40 thirds]) := by
  refine g_met (own := RX6) (mn := "perform") (cc := cX6_perform) (maxL := 4) (ret := (some .int)) rfl rfl (by decide +kernel) rfl (Nat.le_of_ble_eq_true rfl) (fun G X RT => ?_)
  show G 0 0 [oX6 a_x a_h a_saved_ a_c a_r a_f a_o a_s latestRefusal, oX1 a_h words depth allocated collections freed a_owner a_fieldCount a_dataCount a_pinned a_age a_content a_roots a_weaks a_movedTo a_reports, oI a_owner cI 200 owner, oI a_fieldCount cI 200 fieldCount, oI a_dataCount cI 200 dataCount, oI a_pinned cI 200 pinned, oI a_age cI 200 age, oI a_content cI 200 content, oI a_roots cI 6 roots, oI a_weaks cI 4 weaks, oI a_movedTo cI 200 movedTo, oI a_reports cI 6 reports, oX0 a_c a_marked a_stack stacked deepest scans overflow, oZ a_marked cZ 200 marked, oI a_stack cI 20 stack, oX5 a_s a_letters length_ a_kinds a_firsts a_seconds a_thirds commands faultIndex position, oI a_kinds cI 40 kinds, oI a_firsts cI 40 firsts, oI a_seconds cI 40 seconds, oI a_thirds cI 40 thirds] [(0, .ref a_x), (1, .int p1)] 0 []
  unfold FX6_perform at hF
  refine r_aload_n (pc' := 1) X dX6_perform_0 rfl 0 rfl rfl ?_
  refine r_get (pc' := 4) X uX6_perform_X6 0 6 dX6_perform_1 rfl rfl (by decide) kX6_perform_1 rfl rfl ?_
  refine r_get (pc' := 7) X uX6_perform_X5 15 3 dX6_perform_4 rfl rfl (by decide) kX6_perform_2 rfl rfl ?_
  refine r_iload_n (pc' := 8) X dX6_perform_7 rfl 1 rfl rfl ?_
  obtain ⟨hi1, hF⟩ := g_gt hF
  refine r_iald (pc' := 9) X 17 dX6_perform_8 rfl (g_vi hi1) rfl ?_
  refine r_istore_n (pc' := 10) (lv' := [(0, .ref a_x), (1, .int p1), (2, .int (firsts p1.toNatClampNeg))]) X dX6_perform_9 rfl (by decide) [1, 2, 0] rfl rfl ?_
  refine r_aload_n (pc' := 11) X dX6_perform_10 rfl 0 rfl rfl ?_
  refine r_get (pc' := 14) X uX6_perform_X6 0 6 dX6_perform_11 rfl rfl (by decide) kX6_perform_1 rfl rfl ?_
  refine r_get (pc' := 17) X uX6_perform_X5 15 4 dX6_perform_14 rfl rfl (by decide) kX6_perform_3 rfl rfl ?_
  refine r_iload_n (pc' := 18) X dX6_perform_17 rfl 1 rfl rfl ?_
  obtain ⟨hi2, hF⟩ := g_gt hF
  refine r_iald (pc' := 19) X 18 dX6_perform_18 rfl (g_vi hi2) rfl ?_
  refine r_istore_n (pc' := 20) (lv' := [(0, .ref a_x), (1, .int p1), (2, .int (firsts p1.toNatClampNeg)), (3, .int (seconds p1.toNatClampNeg))]) X dX6_perform_19 rfl (by decide) [1, 2, 3, 0] rfl rfl ?_
  refine r_aload_n (pc' := 21) X dX6_perform_20 rfl 0 rfl rfl ?_
  refine r_get (pc' := 24) X uX6_perform_X6 0 6 dX6_perform_21 rfl rfl (by decide) kX6_perform_1 rfl rfl ?_
  refine r_get (pc' := 27) X uX6_perform_X5 15 2 dX6_perform_24 rfl rfl (by decide) kX6_perform_4 rfl rfl ?_
  refine r_iload_n (pc' := 28) X dX6_perform_27 rfl 1 rfl rfl ?_
  obtain ⟨hi3, hF⟩ := g_gt hF
  refine r_iald (pc' := 29) X 16 dX6_perform_28 rfl (g_vi hi3) rfl ?_
  by_cases e102 : kinds p1.toNatClampNeg = (102 : Int32)
  · replace hF := g_t e102 hF
    refine r_tsIn (off := 108) X 137 dX6_perform_29 e102 (by decide +kernel) (by decide +kernel) (by decide +kernel) (by decide +kernel) ?_
    refine r_aload_n (pc' := 138) X dX6_perform_137 rfl 0 rfl rfl ?_
    refine r_iload_n (pc' := 139) X dX6_perform_138 rfl 2 rfl rfl ?_
    refine r_iload_n (pc' := 140) X dX6_perform_139 rfl 3 rfl rfl ?_
    refine r_aload_n (pc' := 141) X dX6_perform_140 rfl 0 rfl rfl ?_
    refine r_get (pc' := 144) X uX6_perform_X6 0 6 dX6_perform_141 rfl rfl (by decide) kX6_perform_1 rfl rfl ?_
    refine r_get (pc' := 147) X uX6_perform_X5 15 5 dX6_perform_144 rfl rfl (by decide) kX6_perform_5 rfl rfl ?_
    refine r_iload_n (pc' := 148) X dX6_perform_147 rfl 1 rfl rfl ?_
    obtain ⟨hi24, hF⟩ := g_gt hF
    refine r_iald (pc' := 149) X 19 dX6_perform_148 rfl (g_vi hi24) rfl ?_
    obtain ⟨⟨r25, content_26⟩, hc27, hF⟩ := g_bd hF
    refine r_callVF (pc' := 152) (ws' := [oX6 a_x a_h a_saved_ a_c a_r a_f a_o a_s latestRefusal, oX1 a_h words depth allocated collections freed a_owner a_fieldCount a_dataCount a_pinned a_age a_content a_roots a_weaks a_movedTo a_reports, oI a_owner cI 200 owner, oI a_fieldCount cI 200 fieldCount, oI a_dataCount cI 200 dataCount, oI a_pinned cI 200 pinned, oI a_age cI 200 age, oI a_content cI 200 content_26, oI a_roots cI 6 roots, oI a_weaks cI 4 weaks, oI a_movedTo cI 200 movedTo, oI a_reports cI 6 reports, oX0 a_c a_marked a_stack stacked deepest scans overflow, oZ a_marked cZ 200 marked, oI a_stack cI 20 stack, oX5 a_s a_letters length_ a_kinds a_firsts a_seconds a_thirds commands faultIndex position, oI a_kinds cI 40 kinds, oI a_firsts cI 40 firsts, oI a_seconds cI 40 seconds, oI a_thirds cI 40 thirds]) (st' := [.int r25]) X (mX6_setField D cI cZ cH a_x a_h a_owner a_fieldCount a_content a_saved_ a_c a_r a_f a_o a_s a_dataCount a_pinned a_age a_roots a_weaks a_movedTo a_reports latestRefusal words depth allocated collections freed owner fieldCount content (firsts p1.toNatClampNeg) (seconds p1.toNatClampNeg) (thirds p1.toNatClampNeg) r25 content_26 hc27) 3 gX6_perform_X6_setField rfl (by decide +kernel) rfl rfl ⟨Nat.le_of_ble_eq_true rfl, Nat.le_of_ble_eq_true rfl⟩ ⟨Nat.le_of_ble_eq_true rfl, Nat.le_of_ble_eq_true rfl⟩ rfl (Nat.le_of_ble_eq_true rfl) dX6_perform_149 0 rfl rfl [0, 1, 2, 3, 7] rfl rfl rfl rfl rfl rfl ?_
    cases hF
    exact RT.1 0 0 _ _ _ _ .int rfl rfl dX6_perform_152 ⟨rfl, rfl⟩ (Nat.le_refl 0) (Nat.le_refl 0)
  replace hF := g_f e102 hF
  by_cases e110 : kinds p1.toNatClampNeg = (110 : Int32)
  · replace hF := g_t e110 hF
    refine r_tsIn (off := 87) X 116 dX6_perform_29 e110 (by decide +kernel) (by decide +kernel) (by decide +kernel) (by decide +kernel) ?_
    refine r_aload_n (pc' := 117) X dX6_perform_116 rfl 0 rfl rfl ?_
    refine r_iload_n (pc' := 118) X dX6_perform_117 rfl 2 rfl rfl ?_
    refine r_iload_n (pc' := 119) X dX6_perform_118 rfl 3 rfl rfl ?_
    obtain ⟨⟨r28, allocated_29, owner_30, fieldCount_31, dataCount_32, pinned_33, age_34, content_35⟩, hc36, hF⟩ := g_bd hF
    refine r_callVF (pc' := 122) (ws' := [oX6 a_x a_h a_saved_ a_c a_r a_f a_o a_s latestRefusal, oX1 a_h words depth allocated_29 collections freed a_owner a_fieldCount a_dataCount a_pinned a_age a_content a_roots a_weaks a_movedTo a_reports, oI a_owner cI 200 owner_30, oI a_fieldCount cI 200 fieldCount_31, oI a_dataCount cI 200 dataCount_32, oI a_pinned cI 200 pinned_33, oI a_age cI 200 age_34, oI a_content cI 200 content_35, oI a_roots cI 6 roots, oI a_weaks cI 4 weaks, oI a_movedTo cI 200 movedTo, oI a_reports cI 6 reports, oX0 a_c a_marked a_stack stacked deepest scans overflow, oZ a_marked cZ 200 marked, oI a_stack cI 20 stack, oX5 a_s a_letters length_ a_kinds a_firsts a_seconds a_thirds commands faultIndex position, oI a_kinds cI 40 kinds, oI a_firsts cI 40 firsts, oI a_seconds cI 40 seconds, oI a_thirds cI 40 thirds]) (st' := [.int r28]) X (mX6_alloc D cI cZ cH a_x a_h a_owner a_fieldCount a_dataCount a_pinned a_age a_content a_saved_ a_c a_r a_f a_o a_s a_roots a_weaks a_movedTo a_reports latestRefusal words depth allocated collections freed owner fieldCount dataCount pinned age content (firsts p1.toNatClampNeg) (seconds p1.toNatClampNeg) r28 allocated_29 owner_30 fieldCount_31 dataCount_32 pinned_33 age_34 content_35 hc36) 2 gX6_perform_X6_alloc rfl (by decide +kernel) rfl rfl ⟨Nat.le_of_ble_eq_true rfl, Nat.le_of_ble_eq_true rfl⟩ ⟨Nat.le_of_ble_eq_true rfl, Nat.le_of_ble_eq_true rfl⟩ rfl (Nat.le_of_ble_eq_true rfl) dX6_perform_119 0 rfl rfl [0, 1, 2, 3, 4, 5, 6, 7] rfl rfl rfl rfl rfl rfl ?_
    cases hF
    exact RT.1 0 0 _ _ _ _ .int rfl rfl dX6_perform_122 ⟨rfl, rfl⟩ (Nat.le_refl 0) (Nat.le_refl 0)
  replace hF := g_f e110 hF
  by_cases e112 : kinds p1.toNatClampNeg = (112 : Int32)
  · replace hF := g_t e112 hF
    refine r_tsIn (off := 124) X 153 dX6_perform_29 e112 (by decide +kernel) (by decide +kernel) (by decide +kernel) (by decide +kernel) ?_
    refine r_aload_n (pc' := 154) X dX6_perform_153 rfl 0 rfl rfl ?_
    refine r_iload_n (pc' := 155) X dX6_perform_154 rfl 2 rfl rfl ?_
    refine r_iconst (pc' := 156) X (1 : Int32) dX6_perform_155 (by decide) rfl ?_
    obtain ⟨⟨r37, pinned_38⟩, hc39, hF⟩ := g_bd hF
    refine r_callVF (pc' := 159) (ws' := [oX6 a_x a_h a_saved_ a_c a_r a_f a_o a_s latestRefusal, oX1 a_h words depth allocated collections freed a_owner a_fieldCount a_dataCount a_pinned a_age a_content a_roots a_weaks a_movedTo a_reports, oI a_owner cI 200 owner, oI a_fieldCount cI 200 fieldCount, oI a_dataCount cI 200 dataCount, oI a_pinned cI 200 pinned_38, oI a_age cI 200 age, oI a_content cI 200 content, oI a_roots cI 6 roots, oI a_weaks cI 4 weaks, oI a_movedTo cI 200 movedTo, oI a_reports cI 6 reports, oX0 a_c a_marked a_stack stacked deepest scans overflow, oZ a_marked cZ 200 marked, oI a_stack cI 20 stack, oX5 a_s a_letters length_ a_kinds a_firsts a_seconds a_thirds commands faultIndex position, oI a_kinds cI 40 kinds, oI a_firsts cI 40 firsts, oI a_seconds cI 40 seconds, oI a_thirds cI 40 thirds]) (st' := [.int r37]) X (mX6_pin D cI cZ cH a_x a_h a_owner a_pinned a_saved_ a_c a_r a_f a_o a_s a_fieldCount a_dataCount a_age a_content a_roots a_weaks a_movedTo a_reports latestRefusal words depth allocated collections freed owner pinned (firsts p1.toNatClampNeg) (1 : Int32) r37 pinned_38 hc39) 2 gX6_perform_X6_pin rfl (by decide +kernel) rfl rfl ⟨Nat.le_of_ble_eq_true rfl, Nat.le_of_ble_eq_true rfl⟩ ⟨Nat.le_of_ble_eq_true rfl, Nat.le_of_ble_eq_true rfl⟩ rfl (Nat.le_of_ble_eq_true rfl) dX6_perform_156 0 rfl rfl [0, 1, 2, 5] rfl rfl rfl rfl rfl rfl ?_
    cases hF
    exact RT.1 0 0 _ _ _ _ .int rfl rfl dX6_perform_159 ⟨rfl, rfl⟩ (Nat.le_refl 0) (Nat.le_refl 0)
  replace hF := g_f e112 hF
  by_cases e114 : kinds p1.toNatClampNeg = (114 : Int32)
  · replace hF := g_t e114 hF
    refine r_tsIn (off := 94) X 123 dX6_perform_29 e114 (by decide +kernel) (by decide +kernel) (by decide +kernel) (by decide +kernel) ?_
    refine r_aload_n (pc' := 124) X dX6_perform_123 rfl 0 rfl rfl ?_
    refine r_iload_n (pc' := 125) X dX6_perform_124 rfl 2 rfl rfl ?_
    refine r_iload_n (pc' := 126) X dX6_perform_125 rfl 3 rfl rfl ?_
    obtain ⟨⟨r40, roots_41⟩, hc42, hF⟩ := g_bd hF
    refine r_callVF (pc' := 129) (ws' := [oX6 a_x a_h a_saved_ a_c a_r a_f a_o a_s latestRefusal, oX1 a_h words depth allocated collections freed a_owner a_fieldCount a_dataCount a_pinned a_age a_content a_roots a_weaks a_movedTo a_reports, oI a_owner cI 200 owner, oI a_fieldCount cI 200 fieldCount, oI a_dataCount cI 200 dataCount, oI a_pinned cI 200 pinned, oI a_age cI 200 age, oI a_content cI 200 content, oI a_roots cI 6 roots_41, oI a_weaks cI 4 weaks, oI a_movedTo cI 200 movedTo, oI a_reports cI 6 reports, oX0 a_c a_marked a_stack stacked deepest scans overflow, oZ a_marked cZ 200 marked, oI a_stack cI 20 stack, oX5 a_s a_letters length_ a_kinds a_firsts a_seconds a_thirds commands faultIndex position, oI a_kinds cI 40 kinds, oI a_firsts cI 40 firsts, oI a_seconds cI 40 seconds, oI a_thirds cI 40 thirds]) (st' := [.int r40]) X (mX6_setRoot D cI cZ cH a_x a_h a_owner a_roots a_saved_ a_c a_r a_f a_o a_s a_fieldCount a_dataCount a_pinned a_age a_content a_weaks a_movedTo a_reports latestRefusal words depth allocated collections freed owner roots (firsts p1.toNatClampNeg) (seconds p1.toNatClampNeg) r40 roots_41 hc42) 2 gX6_perform_X6_setRoot rfl (by decide +kernel) rfl rfl ⟨Nat.le_of_ble_eq_true rfl, Nat.le_of_ble_eq_true rfl⟩ ⟨Nat.le_of_ble_eq_true rfl, Nat.le_of_ble_eq_true rfl⟩ rfl (Nat.le_of_ble_eq_true rfl) dX6_perform_126 0 rfl rfl [0, 1, 2, 8] rfl rfl rfl rfl rfl rfl ?_
    cases hF
    exact RT.1 0 0 _ _ _ _ .int rfl rfl dX6_perform_129 ⟨rfl, rfl⟩ (Nat.le_refl 0) (Nat.le_refl 0)
  replace hF := g_f e114 hF
  by_cases e117 : kinds p1.toNatClampNeg = (117 : Int32)
  · replace hF := g_t e117 hF
    refine r_tsIn (off := 131) X 160 dX6_perform_29 e117 (by decide +kernel) (by decide +kernel) (by decide +kernel) (by decide +kernel) ?_
    refine r_aload_n (pc' := 161) X dX6_perform_160 rfl 0 rfl rfl ?_
    refine r_iload_n (pc' := 162) X dX6_perform_161 rfl 2 rfl rfl ?_
    refine r_iconst (pc' := 163) X (0 : Int32) dX6_perform_162 (by decide) rfl ?_
    obtain ⟨⟨r43, pinned_44⟩, hc45, hF⟩ := g_bd hF
    refine r_callVF (pc' := 166) (ws' := [oX6 a_x a_h a_saved_ a_c a_r a_f a_o a_s latestRefusal, oX1 a_h words depth allocated collections freed a_owner a_fieldCount a_dataCount a_pinned a_age a_content a_roots a_weaks a_movedTo a_reports, oI a_owner cI 200 owner, oI a_fieldCount cI 200 fieldCount, oI a_dataCount cI 200 dataCount, oI a_pinned cI 200 pinned_44, oI a_age cI 200 age, oI a_content cI 200 content, oI a_roots cI 6 roots, oI a_weaks cI 4 weaks, oI a_movedTo cI 200 movedTo, oI a_reports cI 6 reports, oX0 a_c a_marked a_stack stacked deepest scans overflow, oZ a_marked cZ 200 marked, oI a_stack cI 20 stack, oX5 a_s a_letters length_ a_kinds a_firsts a_seconds a_thirds commands faultIndex position, oI a_kinds cI 40 kinds, oI a_firsts cI 40 firsts, oI a_seconds cI 40 seconds, oI a_thirds cI 40 thirds]) (st' := [.int r43]) X (mX6_pin D cI cZ cH a_x a_h a_owner a_pinned a_saved_ a_c a_r a_f a_o a_s a_fieldCount a_dataCount a_age a_content a_roots a_weaks a_movedTo a_reports latestRefusal words depth allocated collections freed owner pinned (firsts p1.toNatClampNeg) (0 : Int32) r43 pinned_44 hc45) 2 gX6_perform_X6_pin rfl (by decide +kernel) rfl rfl ⟨Nat.le_of_ble_eq_true rfl, Nat.le_of_ble_eq_true rfl⟩ ⟨Nat.le_of_ble_eq_true rfl, Nat.le_of_ble_eq_true rfl⟩ rfl (Nat.le_of_ble_eq_true rfl) dX6_perform_163 0 rfl rfl [0, 1, 2, 5] rfl rfl rfl rfl rfl rfl ?_
    cases hF
    exact RT.1 0 0 _ _ _ _ .int rfl rfl dX6_perform_166 ⟨rfl, rfl⟩ (Nat.le_refl 0) (Nat.le_refl 0)
  replace hF := g_f e117 hF
  by_cases e119 : kinds p1.toNatClampNeg = (119 : Int32)
  · replace hF := g_t e119 hF
    refine r_tsIn (off := 101) X 130 dX6_perform_29 e119 (by decide +kernel) (by decide +kernel) (by decide +kernel) (by decide +kernel) ?_
    refine r_aload_n (pc' := 131) X dX6_perform_130 rfl 0 rfl rfl ?_
    refine r_iload_n (pc' := 132) X dX6_perform_131 rfl 2 rfl rfl ?_
    refine r_iload_n (pc' := 133) X dX6_perform_132 rfl 3 rfl rfl ?_
    obtain ⟨⟨r46, weaks_47⟩, hc48, hF⟩ := g_bd hF
    refine r_callVF (pc' := 136) (ws' := [oX6 a_x a_h a_saved_ a_c a_r a_f a_o a_s latestRefusal, oX1 a_h words depth allocated collections freed a_owner a_fieldCount a_dataCount a_pinned a_age a_content a_roots a_weaks a_movedTo a_reports, oI a_owner cI 200 owner, oI a_fieldCount cI 200 fieldCount, oI a_dataCount cI 200 dataCount, oI a_pinned cI 200 pinned, oI a_age cI 200 age, oI a_content cI 200 content, oI a_roots cI 6 roots, oI a_weaks cI 4 weaks_47, oI a_movedTo cI 200 movedTo, oI a_reports cI 6 reports, oX0 a_c a_marked a_stack stacked deepest scans overflow, oZ a_marked cZ 200 marked, oI a_stack cI 20 stack, oX5 a_s a_letters length_ a_kinds a_firsts a_seconds a_thirds commands faultIndex position, oI a_kinds cI 40 kinds, oI a_firsts cI 40 firsts, oI a_seconds cI 40 seconds, oI a_thirds cI 40 thirds]) (st' := [.int r46]) X (mX6_setWeak D cI cZ cH a_x a_h a_owner a_weaks a_saved_ a_c a_r a_f a_o a_s a_fieldCount a_dataCount a_pinned a_age a_content a_roots a_movedTo a_reports latestRefusal words depth allocated collections freed owner weaks (firsts p1.toNatClampNeg) (seconds p1.toNatClampNeg) r46 weaks_47 hc48) 2 gX6_perform_X6_setWeak rfl (by decide +kernel) rfl rfl ⟨Nat.le_of_ble_eq_true rfl, Nat.le_of_ble_eq_true rfl⟩ ⟨Nat.le_of_ble_eq_true rfl, Nat.le_of_ble_eq_true rfl⟩ rfl (Nat.le_of_ble_eq_true rfl) dX6_perform_133 0 rfl rfl [0, 1, 2, 9] rfl rfl rfl rfl rfl rfl ?_
    cases hF
    exact RT.1 0 0 _ _ _ _ .int rfl rfl dX6_perform_136 ⟨rfl, rfl⟩ (Nat.le_refl 0) (Nat.le_refl 0)
  replace hF := g_f e119 hF
  have hdf : ∀ hh : True, G 0 0 [oX6 a_x a_h a_saved_ a_c a_r a_f a_o a_s latestRefusal, oX1 a_h words depth allocated collections freed a_owner a_fieldCount a_dataCount a_pinned a_age a_content a_roots a_weaks a_movedTo a_reports, oI a_owner cI 200 owner, oI a_fieldCount cI 200 fieldCount, oI a_dataCount cI 200 dataCount, oI a_pinned cI 200 pinned, oI a_age cI 200 age, oI a_content cI 200 content, oI a_roots cI 6 roots, oI a_weaks cI 4 weaks, oI a_movedTo cI 200 movedTo, oI a_reports cI 6 reports, oX0 a_c a_marked a_stack stacked deepest scans overflow, oZ a_marked cZ 200 marked, oI a_stack cI 20 stack, oX5 a_s a_letters length_ a_kinds a_firsts a_seconds a_thirds commands faultIndex position, oI a_kinds cI 40 kinds, oI a_firsts cI 40 firsts, oI a_seconds cI 40 seconds, oI a_thirds cI 40 thirds] [(0, .ref a_x), (1, .int p1), (2, .int (firsts p1.toNatClampNeg)), (3, .int (seconds p1.toNatClampNeg))] 167 [] := by
    intro _
    refine r_aload_n (pc' := 168) X dX6_perform_167 rfl 0 rfl rfl ?_
    obtain ⟨⟨r4, collections_5, freed_6, owner_7, fieldCount_8, dataCount_9, pinned_10, age_11, content_12, roots_13, weaks_14, movedTo_15, reports_16, stacked_17, deepest_18, scans_19, overflow_20, marked_21, stack_22⟩, hc23, hF⟩ := g_bd hF
    refine r_callVF (pc' := 171) (ws' := [oX6 a_x a_h a_saved_ a_c a_r a_f a_o a_s latestRefusal, oX1 a_h words depth allocated collections_5 freed_6 a_owner a_fieldCount a_dataCount a_pinned a_age a_content a_roots a_weaks a_movedTo a_reports, oI a_owner cI 200 owner_7, oI a_fieldCount cI 200 fieldCount_8, oI a_dataCount cI 200 dataCount_9, oI a_pinned cI 200 pinned_10, oI a_age cI 200 age_11, oI a_content cI 200 content_12, oI a_roots cI 6 roots_13, oI a_weaks cI 4 weaks_14, oI a_movedTo cI 200 movedTo_15, oI a_reports cI 6 reports_16, oX0 a_c a_marked a_stack stacked_17 deepest_18 scans_19 overflow_20, oZ a_marked cZ 200 marked_21, oI a_stack cI 20 stack_22, oX5 a_s a_letters length_ a_kinds a_firsts a_seconds a_thirds commands faultIndex position, oI a_kinds cI 40 kinds, oI a_firsts cI 40 firsts, oI a_seconds cI 40 seconds, oI a_thirds cI 40 thirds]) (st' := [.int r4]) X (mX6_collect D cI cZ cH a_x a_h a_owner a_fieldCount a_dataCount a_pinned a_age a_content a_roots a_weaks a_movedTo a_reports a_c a_marked a_stack a_saved_ a_r a_f a_o a_s latestRefusal words depth allocated collections freed owner fieldCount dataCount pinned age content roots weaks movedTo reports stacked deepest scans overflow marked stack r4 collections_5 freed_6 owner_7 fieldCount_8 dataCount_9 pinned_10 age_11 content_12 roots_13 weaks_14 movedTo_15 reports_16 stacked_17 deepest_18 scans_19 overflow_20 marked_21 stack_22 hc23) 0 gX6_perform_X6_collect rfl (by decide +kernel) rfl rfl ⟨Nat.le_of_ble_eq_true rfl, Nat.le_of_ble_eq_true rfl⟩ ⟨Nat.le_of_ble_eq_true rfl, Nat.le_of_ble_eq_true rfl⟩ rfl (Nat.le_of_ble_eq_true rfl) dX6_perform_168 0 rfl rfl [0, 1, 2, 3, 4, 5, 6, 7, 8, 9, 10, 11, 12, 13, 14] rfl rfl rfl rfl rfl rfl ?_
    cases hF
    exact RT.1 0 0 _ _ _ _ .int rfl rfl dX6_perform_171 ⟨rfl, rfl⟩ (Nat.le_refl 0) (Nat.le_refl 0)
  rcases g_ts (lo := 102) (hi := 119) (kinds p1.toNatClampNeg) with h9 | h9
  · exact r_tsOut X 167 dX6_perform_29 h9 (by decide +kernel) (hdf trivial)
  · obtain ⟨h8, h9⟩ := h9
    rcases g_sw102_119 (kinds p1.toNatClampNeg) h8 h9 with h9 | h9 | h9 | h9 | h9 | h9 | h9 | h9 | h9 | h9 | h9 | h9 | h9 | h9 | h9 | h9 | h9 | h9
    · exact absurd h9 e102
    · exact r_tsIn (off := 138) X 167 dX6_perform_29 h9 (by decide +kernel) (by decide +kernel) (by decide +kernel) (by decide +kernel) (hdf trivial)
    · exact r_tsIn (off := 138) X 167 dX6_perform_29 h9 (by decide +kernel) (by decide +kernel) (by decide +kernel) (by decide +kernel) (hdf trivial)
    · exact r_tsIn (off := 138) X 167 dX6_perform_29 h9 (by decide +kernel) (by decide +kernel) (by decide +kernel) (by decide +kernel) (hdf trivial)
    · exact r_tsIn (off := 138) X 167 dX6_perform_29 h9 (by decide +kernel) (by decide +kernel) (by decide +kernel) (by decide +kernel) (hdf trivial)
    · exact r_tsIn (off := 138) X 167 dX6_perform_29 h9 (by decide +kernel) (by decide +kernel) (by decide +kernel) (by decide +kernel) (hdf trivial)
    · exact r_tsIn (off := 138) X 167 dX6_perform_29 h9 (by decide +kernel) (by decide +kernel) (by decide +kernel) (by decide +kernel) (hdf trivial)
    · exact r_tsIn (off := 138) X 167 dX6_perform_29 h9 (by decide +kernel) (by decide +kernel) (by decide +kernel) (by decide +kernel) (hdf trivial)
    · exact absurd h9 e110
    · exact r_tsIn (off := 138) X 167 dX6_perform_29 h9 (by decide +kernel) (by decide +kernel) (by decide +kernel) (by decide +kernel) (hdf trivial)
    · exact absurd h9 e112
    · exact r_tsIn (off := 138) X 167 dX6_perform_29 h9 (by decide +kernel) (by decide +kernel) (by decide +kernel) (by decide +kernel) (hdf trivial)
    · exact absurd h9 e114
    · exact r_tsIn (off := 138) X 167 dX6_perform_29 h9 (by decide +kernel) (by decide +kernel) (by decide +kernel) (by decide +kernel) (hdf trivial)
    · exact r_tsIn (off := 138) X 167 dX6_perform_29 h9 (by decide +kernel) (by decide +kernel) (by decide +kernel) (by decide +kernel) (hdf trivial)
    · exact absurd h9 e117
    · exact r_tsIn (off := 138) X 167 dX6_perform_29 h9 (by decide +kernel) (by decide +kernel) (by decide +kernel) (by decide +kernel) (hdf trivial)
    · exact absurd h9 e119
theorem kX6_isError_1 : Cond.constant RX6 63 (-1000002) ∈ wsX6_isError := List.mem_of_getElem? (i := 1) (by decide +kernel)
theorem kX6_isError_2 : Cond.constant RX6 117 (-1000003) ∈ wsX6_isError := List.mem_of_getElem? (i := 2) (by decide +kernel)
theorem kX6_isError_3 : Cond.constant RX6 68 (-1000004) ∈ wsX6_isError := List.mem_of_getElem? (i := 3) (by decide +kernel)
set_option maxHeartbeats 4000000 in
set_option maxRecDepth 100000 in
theorem mX6_isError (D : va_G) (cI cZ cH : ClassId) (p0 : Int32) (r0 : Int32) (hF : FX6_isError p0 = some r0) : g_CM yX6_isError wsX6_isError ({ frames := 0, cells := 0, slots := 0, locals := 0 }) D cI cZ cH [.int p0] [] 0 0 (g_Tm (some (.int r0)) []) := by
  refine g_met (own := RX6) (mn := "isError") (cc := cX6_isError) (maxL := 1) (ret := (some .boolean)) rfl rfl (by decide +kernel) rfl (Nat.le_of_ble_eq_true rfl) (fun G X RT => ?_)
  show G 0 0 [] [(0, .int p0)] 0 []
  unfold FX6_isError at hF
  refine r_iload_n (pc' := 1) X dX6_isError_0 rfl 0 rfl rfl ?_
  refine r_ldc (pc' := 3) X dX6_isError_1 kX6_isError_1 rfl ?_
  refine r_icmp_eq (pc' := 6) X 18 dX6_isError_3 (by decide) rfl (fun c9 => ?_) (fun c9 => ?_)
  · replace hF := g_t c9 hF
    refine r_iconst (pc' := 19) X (1 : Int32) dX6_isError_18 (by decide) rfl ?_
    refine r_goto X 23 dX6_isError_19 (by decide) ?_
    cases hF
    exact RT.1 0 0 _ _ _ _ .boolean rfl rfl dX6_isError_23 ⟨rfl, rfl⟩ (Nat.le_refl 0) (Nat.le_refl 0)
  · replace hF := g_f c9 hF
    refine r_iload_n (pc' := 7) X dX6_isError_6 rfl 0 rfl rfl ?_
    refine r_ldc (pc' := 9) X dX6_isError_7 kX6_isError_2 rfl ?_
    refine r_icmp_eq (pc' := 12) X 18 dX6_isError_9 (by decide) rfl (fun c9 => ?_) (fun c9 => ?_)
    · replace hF := g_t c9 hF
      refine r_iconst (pc' := 19) X (1 : Int32) dX6_isError_18 (by decide) rfl ?_
      refine r_goto X 23 dX6_isError_19 (by decide) ?_
      cases hF
      exact RT.1 0 0 _ _ _ _ .boolean rfl rfl dX6_isError_23 ⟨rfl, rfl⟩ (Nat.le_refl 0) (Nat.le_refl 0)
    · replace hF := g_f c9 hF
      refine r_iload_n (pc' := 13) X dX6_isError_12 rfl 0 rfl rfl ?_
      refine r_ldc (pc' := 15) X dX6_isError_13 kX6_isError_3 rfl ?_
      refine r_icmp_ne (pc' := 18) X 22 dX6_isError_15 (by decide) rfl (fun c9 => ?_) (fun c9 => ?_)
      · replace hF := g_f c9 hF
        refine r_iconst (pc' := 23) X (0 : Int32) dX6_isError_22 (by decide) rfl ?_
        cases hF
        exact RT.1 0 0 _ _ _ _ .boolean rfl rfl dX6_isError_23 ⟨rfl, rfl⟩ (Nat.le_refl 0) (Nat.le_refl 0)
      · replace hF := g_t c9 hF
        refine r_iconst (pc' := 19) X (1 : Int32) dX6_isError_18 (by decide) rfl ?_
        refine r_goto X 23 dX6_isError_19 (by decide) ?_
        cases hF
        exact RT.1 0 0 _ _ _ _ .boolean rfl rfl dX6_isError_23 ⟨rfl, rfl⟩ (Nat.le_refl 0) (Nat.le_refl 0)
theorem kX6_run_1 : Cond.fieldLink RX6 55 "IslandHeap" "script" "LIslandHeap$Script;" ∈ wsX6_run := List.mem_of_getElem? (i := 1) (by decide +kernel)
theorem kX6_run_2 : Cond.fieldLink RX6 180 "IslandHeap$Script" "faultIndex" "I" ∈ wsX6_run := List.mem_of_getElem? (i := 2) (by decide +kernel)
theorem kX6_run_4 : Cond.fieldLink RX6 59 "IslandHeap" "latestRefusal" "I" ∈ wsX6_run := List.mem_of_getElem? (i := 4) (by decide +kernel)
theorem kX6_run_5 : Cond.fieldLink RX6 183 "IslandHeap$Script" "commands" "I" ∈ wsX6_run := List.mem_of_getElem? (i := 5) (by decide +kernel)
theorem kX6_run_3 : Cond.constant RX6 117 (-1000003) ∈ wsX6_run := List.mem_of_getElem? (i := 3) (by decide +kernel)
theorem uX6_run_X6 : ∀ w ∈ u_ws RX6 TX6 8, w ∈ wsX6_run := by decide +kernel
theorem uX6_run_X5 : ∀ w ∈ u_ws RX5 TX5 9, w ∈ wsX6_run := by decide +kernel
set_option maxHeartbeats 4000000 in
set_option maxRecDepth 100000 in
theorem mX6_run (D : va_G) (cI cZ cH : ClassId) (a_x : Nat) (a_h : Nat) (a_owner : Nat) (a_fieldCount : Nat) (a_dataCount : Nat) (a_pinned : Nat) (a_age : Nat) (a_content : Nat) (a_roots : Nat) (a_weaks : Nat) (a_movedTo : Nat) (a_reports : Nat) (a_c : Nat) (a_marked : Nat) (a_stack : Nat) (a_s : Nat) (a_letters : Nat) (a_kinds : Nat) (a_firsts : Nat) (a_seconds : Nat) (a_thirds : Nat) (a_saved_ : Nat) (a_r : Nat) (a_f : Nat) (a_o : Nat) (latestRefusal : Int32) (words : Int32) (depth : Int32) (allocated : Int32) (collections : Int32) (freed : Int32) (owner : Nat → Int32) (fieldCount : Nat → Int32) (dataCount : Nat → Int32) (pinned : Nat → Int32) (age : Nat → Int32) (content : Nat → Int32) (roots : Nat → Int32) (weaks : Nat → Int32) (movedTo : Nat → Int32) (reports : Nat → Int32) (stacked : Int32) (deepest : Int32) (scans : Int32) (overflow : Int32) (marked : Nat → Int32) (stack : Nat → Int32) (length_ : Int32) (commands : Int32) (faultIndex : Int32) (position : Int32) (letters : Nat → Int32) (kinds : Nat → Int32) (firsts : Nat → Int32) (seconds : Nat → Int32) (thirds : Nat → Int32) (r0 : Int32) (w_latestRefusal : Int32) (w_allocated : Int32) (w_collections : Int32) (w_freed : Int32) (w_owner : Nat → Int32) (w_fieldCount : Nat → Int32) (w_dataCount : Nat → Int32) (w_pinned : Nat → Int32) (w_age : Nat → Int32) (w_content : Nat → Int32) (w_roots : Nat → Int32) (w_weaks : Nat → Int32) (w_movedTo : Nat → Int32) (w_reports : Nat → Int32) (w_stacked : Int32) (w_deepest : Int32) (w_scans : Int32) (w_overflow : Int32) (w_marked : Nat → Int32) (w_stack : Nat → Int32) (w_commands : Int32) (w_faultIndex : Int32) (w_position : Int32) (w_kinds : Nat → Int32) (w_firsts : Nat → Int32) (w_seconds : Nat → Int32) (w_thirds : Nat → Int32) (hF : FX6_run latestRefusal words depth allocated collections freed owner fieldCount dataCount pinned age content roots weaks movedTo reports stacked deepest scans overflow marked stack length_ commands faultIndex position letters kinds firsts seconds thirds = some (r0, w_latestRefusal, w_allocated, w_collections, w_freed, w_owner, w_fieldCount, w_dataCount, w_pinned, w_age, w_content, w_roots, w_weaks, w_movedTo, w_reports, w_stacked, w_deepest, w_scans, w_overflow, w_marked, w_stack, w_commands, w_faultIndex, w_position, w_kinds, w_firsts, w_seconds, w_thirds)) : g_CM yX6_run wsX6_run ({ frames := 7, cells := 0, slots := 0, locals := 156 }) D cI cZ cH [.ref a_x] [oX6 a_x a_h a_saved_ a_c a_r a_f a_o a_s latestRefusal, oX1 a_h words depth allocated collections freed a_owner a_fieldCount a_dataCount a_pinned a_age a_content a_roots a_weaks a_movedTo a_reports, oI a_owner cI 200 owner, oI a_fieldCount cI 200 fieldCount, oI a_dataCount cI 200 dataCount, oI a_pinned cI 200 pinned, oI a_age cI 200 age, oI a_content cI 200 content, oI a_roots cI 6 roots, oI a_weaks cI 4 weaks, oI a_movedTo cI 200 movedTo, oI a_reports cI 6 reports, oX0 a_c a_marked a_stack stacked deepest scans overflow, oZ a_marked cZ 200 marked, oI a_stack cI 20 stack, oX5 a_s a_letters length_ a_kinds a_firsts a_seconds a_thirds commands faultIndex position, oI a_letters cI 80 letters, oI a_kinds cI 40 kinds, oI a_firsts cI 40 firsts, oI a_seconds cI 40 seconds, oI a_thirds cI 40 thirds] 0 0 (g_Tm (some (.int r0)) [oX6 a_x a_h a_saved_ a_c a_r a_f a_o a_s w_latestRefusal, oX1 a_h words depth w_allocated w_collections w_freed a_owner a_fieldCount a_dataCount a_pinned a_age a_content a_roots a_weaks a_movedTo a_reports, oI a_owner cI 200 w_owner, oI a_fieldCount cI 200 w_fieldCount, oI a_dataCount cI 200 w_dataCount, oI a_pinned cI 200 w_pinned, oI a_age cI 200 w_age, oI a_content cI 200 w_content, oI a_roots cI 6 w_roots, oI a_weaks cI 4 w_weaks, oI a_movedTo cI 200 w_movedTo, oI a_reports cI 6 w_reports, oX0 a_c a_marked a_stack w_stacked w_deepest w_scans w_overflow, oZ a_marked cZ 200 w_marked, oI a_stack cI 20 w_stack, oX5 a_s a_letters length_ a_kinds a_firsts a_seconds a_thirds w_commands w_faultIndex w_position, oI a_letters cI 80 letters, oI a_kinds cI 40 w_kinds, oI a_firsts cI 40 w_firsts, oI a_seconds cI 40 w_seconds, oI a_thirds cI 40 w_thirds]) := by
  refine g_met (own := RX6) (mn := "run") (cc := cX6_run) (maxL := 4) (ret := (some .int)) rfl rfl (by decide +kernel) rfl (Nat.le_of_ble_eq_true rfl) (fun G X RT => ?_)
  show G 0 0 [oX6 a_x a_h a_saved_ a_c a_r a_f a_o a_s latestRefusal, oX1 a_h words depth allocated collections freed a_owner a_fieldCount a_dataCount a_pinned a_age a_content a_roots a_weaks a_movedTo a_reports, oI a_owner cI 200 owner, oI a_fieldCount cI 200 fieldCount, oI a_dataCount cI 200 dataCount, oI a_pinned cI 200 pinned, oI a_age cI 200 age, oI a_content cI 200 content, oI a_roots cI 6 roots, oI a_weaks cI 4 weaks, oI a_movedTo cI 200 movedTo, oI a_reports cI 6 reports, oX0 a_c a_marked a_stack stacked deepest scans overflow, oZ a_marked cZ 200 marked, oI a_stack cI 20 stack, oX5 a_s a_letters length_ a_kinds a_firsts a_seconds a_thirds commands faultIndex position, oI a_letters cI 80 letters, oI a_kinds cI 40 kinds, oI a_firsts cI 40 firsts, oI a_seconds cI 40 seconds, oI a_thirds cI 40 thirds] [(0, .ref a_x)] 0 []
  unfold FX6_run at hF
  refine r_aload_n (pc' := 1) X dX6_run_0 rfl 0 rfl rfl ?_
  refine r_get (pc' := 4) X uX6_run_X6 0 6 dX6_run_1 rfl rfl (by decide) kX6_run_1 rfl rfl ?_
  obtain ⟨⟨commands_1, faultIndex_2, position_3, kinds_4, firsts_5, seconds_6, thirds_7⟩, hc8, hF⟩ := g_bd hF
  refine r_callVF (pc' := 7) (ws' := [oX6 a_x a_h a_saved_ a_c a_r a_f a_o a_s latestRefusal, oX1 a_h words depth allocated collections freed a_owner a_fieldCount a_dataCount a_pinned a_age a_content a_roots a_weaks a_movedTo a_reports, oI a_owner cI 200 owner, oI a_fieldCount cI 200 fieldCount, oI a_dataCount cI 200 dataCount, oI a_pinned cI 200 pinned, oI a_age cI 200 age, oI a_content cI 200 content, oI a_roots cI 6 roots, oI a_weaks cI 4 weaks, oI a_movedTo cI 200 movedTo, oI a_reports cI 6 reports, oX0 a_c a_marked a_stack stacked deepest scans overflow, oZ a_marked cZ 200 marked, oI a_stack cI 20 stack, oX5 a_s a_letters length_ a_kinds a_firsts a_seconds a_thirds commands_1 faultIndex_2 position_3, oI a_letters cI 80 letters, oI a_kinds cI 40 kinds_4, oI a_firsts cI 40 firsts_5, oI a_seconds cI 40 seconds_6, oI a_thirds cI 40 thirds_7]) (st' := []) X (mX5_read D cI cZ cH a_s a_letters a_kinds a_firsts a_seconds a_thirds length_ commands faultIndex position letters kinds firsts seconds thirds commands_1 faultIndex_2 position_3 kinds_4 firsts_5 seconds_6 thirds_7 hc8) 0 gX6_run_X5_read rfl (by decide +kernel) rfl rfl ⟨Nat.le_of_ble_eq_true rfl, Nat.le_of_ble_eq_true rfl⟩ ⟨Nat.le_of_ble_eq_true rfl, Nat.le_of_ble_eq_true rfl⟩ rfl (Nat.le_of_ble_eq_true rfl) dX6_run_4 15 rfl rfl [15, 16, 17, 18, 19, 20] rfl rfl rfl rfl rfl rfl ?_
  refine r_aload_n (pc' := 8) X dX6_run_7 rfl 0 rfl rfl ?_
  refine r_get (pc' := 11) X uX6_run_X6 0 6 dX6_run_8 rfl rfl (by decide) kX6_run_1 rfl rfl ?_
  refine r_get (pc' := 14) X uX6_run_X5 15 7 dX6_run_11 rfl rfl (by decide) kX6_run_2 rfl rfl ?_
  refine r_iconst (pc' := 15) X (-1 : Int32) dX6_run_14 (by decide) rfl ?_
  refine r_icmp_eq (pc' := 18) X 21 dX6_run_15 (by decide) rfl (fun c9 => ?_) (fun c9 => ?_)
  · replace hF := g_t c9 hF
    refine r_aload_n (pc' := 22) X dX6_run_21 rfl 0 rfl rfl ?_
    refine r_iconst (pc' := 23) X (0 : Int32) dX6_run_22 (by decide) rfl ?_
    refine r_put (pc' := 26) (ty := .int) (ws' := [oX6 a_x a_h a_saved_ a_c a_r a_f a_o a_s (0 : Int32), oX1 a_h words depth allocated collections freed a_owner a_fieldCount a_dataCount a_pinned a_age a_content a_roots a_weaks a_movedTo a_reports, oI a_owner cI 200 owner, oI a_fieldCount cI 200 fieldCount, oI a_dataCount cI 200 dataCount, oI a_pinned cI 200 pinned, oI a_age cI 200 age, oI a_content cI 200 content, oI a_roots cI 6 roots, oI a_weaks cI 4 weaks, oI a_movedTo cI 200 movedTo, oI a_reports cI 6 reports, oX0 a_c a_marked a_stack stacked deepest scans overflow, oZ a_marked cZ 200 marked, oI a_stack cI 20 stack, oX5 a_s a_letters length_ a_kinds a_firsts a_seconds a_thirds commands_1 faultIndex_2 position_3, oI a_letters cI 80 letters, oI a_kinds cI 40 kinds_4, oI a_firsts cI 40 firsts_5, oI a_seconds cI 40 seconds_6, oI a_thirds cI 40 thirds_7]) X uX6_run_X6 0 7 tyX6 tyX6_ok nmX6 dX6_run_23 rfl rfl (by decide) kX6_run_4 rfl (by decide +kernel) rfl rfl (Nat.le_of_ble_eq_true rfl) rfl rfl ?_
    refine r_iconst (pc' := 27) X (0 : Int32) dX6_run_26 (by decide) rfl ?_
    refine r_istore_n (pc' := 28) (lv' := [(0, .ref a_x), (1, .int (0 : Int32))]) X dX6_run_27 rfl (by decide) [1, 0] rfl rfl ?_
    refine r_iconst (pc' := 29) X (0 : Int32) dX6_run_28 (by decide) rfl ?_
    refine r_istore_n (pc' := 30) (lv' := [(0, .ref a_x), (1, .int (0 : Int32)), (2, .int (0 : Int32))]) X dX6_run_29 rfl (by decide) [1, 2, 0] rfl rfl ?_
    obtain ⟨ex30, hR, hF⟩ := g_bd hF
    have hE30 : ∀ (v1_31 : Int32) (latestRefusal_32 : Int32) (allocated_33 : Int32) (collections_34 : Int32) (freed_35 : Int32) (owner_36 : Nat → Int32) (fieldCount_37 : Nat → Int32) (dataCount_38 : Nat → Int32) (pinned_39 : Nat → Int32) (age_40 : Nat → Int32) (content_41 : Nat → Int32) (roots_42 : Nat → Int32) (weaks_43 : Nat → Int32) (movedTo_44 : Nat → Int32) (reports_45 : Nat → Int32) (stacked_46 : Int32) (deepest_47 : Int32) (scans_48 : Int32) (overflow_49 : Int32) (marked_50 : Nat → Int32) (stack_51 : Nat → Int32), (v1_31, latestRefusal_32, allocated_33, collections_34, freed_35, owner_36, fieldCount_37, dataCount_38, pinned_39, age_40, content_41, roots_42, weaks_43, movedTo_44, reports_45, stacked_46, deepest_47, scans_48, overflow_49, marked_50, stack_51) = ex30 → G 0 0 [oX6 a_x a_h a_saved_ a_c a_r a_f a_o a_s latestRefusal_32, oX1 a_h words depth allocated_33 collections_34 freed_35 a_owner a_fieldCount a_dataCount a_pinned a_age a_content a_roots a_weaks a_movedTo a_reports, oI a_owner cI 200 owner_36, oI a_fieldCount cI 200 fieldCount_37, oI a_dataCount cI 200 dataCount_38, oI a_pinned cI 200 pinned_39, oI a_age cI 200 age_40, oI a_content cI 200 content_41, oI a_roots cI 6 roots_42, oI a_weaks cI 4 weaks_43, oI a_movedTo cI 200 movedTo_44, oI a_reports cI 6 reports_45, oX0 a_c a_marked a_stack stacked_46 deepest_47 scans_48 overflow_49, oZ a_marked cZ 200 marked_50, oI a_stack cI 20 stack_51, oX5 a_s a_letters length_ a_kinds a_firsts a_seconds a_thirds commands_1 faultIndex_2 position_3, oI a_letters cI 80 letters, oI a_kinds cI 40 kinds_4, oI a_firsts cI 40 firsts_5, oI a_seconds cI 40 seconds_6, oI a_thirds cI 40 thirds_7] [(1, .int v1_31)] 78 [] := by
      intro v1_31 latestRefusal_32 allocated_33 collections_34 freed_35 owner_36 fieldCount_37 dataCount_38 pinned_39 age_40 content_41 roots_42 weaks_43 movedTo_44 reports_45 stacked_46 deepest_47 scans_48 overflow_49 marked_50 stack_51 hx; subst hx
      refine r_iload_n (pc' := 79) X dX6_run_78 rfl 0 rfl rfl ?_
      cases hF
      exact RT.1 0 0 _ _ _ _ .int rfl rfl dX6_run_79 ⟨rfl, rfl⟩ (Nat.le_refl 0) (Nat.le_refl 0)
    have hL30 : ∀ (fu : Nat) (v1_9 : Int32) (v2_10 : Int32) (latestRefusal_11 : Int32) (allocated_12 : Int32) (collections_13 : Int32) (freed_14 : Int32) (owner_15 : Nat → Int32) (fieldCount_16 : Nat → Int32) (dataCount_17 : Nat → Int32) (pinned_18 : Nat → Int32) (age_19 : Nat → Int32) (content_20 : Nat → Int32) (roots_21 : Nat → Int32) (weaks_22 : Nat → Int32) (movedTo_23 : Nat → Int32) (reports_24 : Nat → Int32) (stacked_25 : Int32) (deepest_26 : Int32) (scans_27 : Int32) (overflow_28 : Int32) (marked_29 : Nat → Int32) (stack_30 : Nat → Int32), g_itn (FX6_run_L30 words depth commands_1 kinds_4 firsts_5 seconds_6 thirds_7) fu (v1_9, v2_10, latestRefusal_11, allocated_12, collections_13, freed_14, owner_15, fieldCount_16, dataCount_17, pinned_18, age_19, content_20, roots_21, weaks_22, movedTo_23, reports_24, stacked_25, deepest_26, scans_27, overflow_28, marked_29, stack_30) = some ex30 → G 0 0 [oX6 a_x a_h a_saved_ a_c a_r a_f a_o a_s latestRefusal_11, oX1 a_h words depth allocated_12 collections_13 freed_14 a_owner a_fieldCount a_dataCount a_pinned a_age a_content a_roots a_weaks a_movedTo a_reports, oI a_owner cI 200 owner_15, oI a_fieldCount cI 200 fieldCount_16, oI a_dataCount cI 200 dataCount_17, oI a_pinned cI 200 pinned_18, oI a_age cI 200 age_19, oI a_content cI 200 content_20, oI a_roots cI 6 roots_21, oI a_weaks cI 4 weaks_22, oI a_movedTo cI 200 movedTo_23, oI a_reports cI 6 reports_24, oX0 a_c a_marked a_stack stacked_25 deepest_26 scans_27 overflow_28, oZ a_marked cZ 200 marked_29, oI a_stack cI 20 stack_30, oX5 a_s a_letters length_ a_kinds a_firsts a_seconds a_thirds commands_1 faultIndex_2 position_3, oI a_letters cI 80 letters, oI a_kinds cI 40 kinds_4, oI a_firsts cI 40 firsts_5, oI a_seconds cI 40 seconds_6, oI a_thirds cI 40 thirds_7] [(0, .ref a_x), (1, .int v1_9), (2, .int v2_10)] 30 [] := by
      intro fu
      induction fu with
      | zero => intro v1_9 v2_10 latestRefusal_11 allocated_12 collections_13 freed_14 owner_15 fieldCount_16 dataCount_17 pinned_18 age_19 content_20 roots_21 weaks_22 movedTo_23 reports_24 stacked_25 deepest_26 scans_27 overflow_28 marked_29 stack_30 h9; exact (g_it0 h9).elim
      | succ fu ih =>
        intro v1_9 v2_10 latestRefusal_11 allocated_12 collections_13 freed_14 owner_15 fieldCount_16 dataCount_17 pinned_18 age_19 content_20 roots_21 weaks_22 movedTo_23 reports_24 stacked_25 deepest_26 scans_27 overflow_28 marked_29 stack_30 h9
        obtain ⟨y30, hF, hI30⟩ := g_its h9
        unfold FX6_run_L30 at hF
        refine r_iload_n (pc' := 31) X dX6_run_30 rfl 2 rfl rfl ?_
        refine r_aload_n (pc' := 32) X dX6_run_31 rfl 0 rfl rfl ?_
        refine r_get (pc' := 35) X uX6_run_X6 0 6 dX6_run_32 rfl rfl (by decide) kX6_run_1 rfl rfl ?_
        refine r_get (pc' := 38) X uX6_run_X5 15 6 dX6_run_35 rfl rfl (by decide) kX6_run_5 rfl rfl ?_
        refine r_icmp_ge (pc' := 41) X 78 dX6_run_38 (by decide) rfl (fun c9 => ?_) (fun c9 => ?_)
        · replace hF := g_t c9 hF
          cases hF
          refine r_sub (lv' := [(1, .int v1_9)]) X [1] rfl ?_
          exact hE30 v1_9 latestRefusal_11 allocated_12 collections_13 freed_14 owner_15 fieldCount_16 dataCount_17 pinned_18 age_19 content_20 roots_21 weaks_22 movedTo_23 reports_24 stacked_25 deepest_26 scans_27 overflow_28 marked_29 stack_30 hI30
        · replace hF := g_f c9 hF
          refine r_aload_n (pc' := 42) X dX6_run_41 rfl 0 rfl rfl ?_
          refine r_get (pc' := 45) X uX6_run_X6 0 7 dX6_run_42 rfl rfl (by decide) kX6_run_4 rfl rfl ?_
          refine r_if_ne (pc' := 48) X 78 dX6_run_45 (by decide) rfl (fun c9 => ?_) (fun c9 => ?_)
          · replace hF := g_f c9 hF
            cases hF
            refine r_sub (lv' := [(1, .int v1_9)]) X [1] rfl ?_
            exact hE30 v1_9 latestRefusal_11 allocated_12 collections_13 freed_14 owner_15 fieldCount_16 dataCount_17 pinned_18 age_19 content_20 roots_21 weaks_22 movedTo_23 reports_24 stacked_25 deepest_26 scans_27 overflow_28 marked_29 stack_30 hI30
          · replace hF := g_t c9 hF
            refine r_aload_n (pc' := 49) X dX6_run_48 rfl 0 rfl rfl ?_
            refine r_iload_n (pc' := 50) X dX6_run_49 rfl 2 rfl rfl ?_
            obtain ⟨⟨r52, allocated_53, collections_54, freed_55, owner_56, fieldCount_57, dataCount_58, pinned_59, age_60, content_61, roots_62, weaks_63, movedTo_64, reports_65, stacked_66, deepest_67, scans_68, overflow_69, marked_70, stack_71⟩, hc72, hF⟩ := g_bd hF
            refine r_callVF (pc' := 53) (ws' := [oX6 a_x a_h a_saved_ a_c a_r a_f a_o a_s latestRefusal_11, oX1 a_h words depth allocated_53 collections_54 freed_55 a_owner a_fieldCount a_dataCount a_pinned a_age a_content a_roots a_weaks a_movedTo a_reports, oI a_owner cI 200 owner_56, oI a_fieldCount cI 200 fieldCount_57, oI a_dataCount cI 200 dataCount_58, oI a_pinned cI 200 pinned_59, oI a_age cI 200 age_60, oI a_content cI 200 content_61, oI a_roots cI 6 roots_62, oI a_weaks cI 4 weaks_63, oI a_movedTo cI 200 movedTo_64, oI a_reports cI 6 reports_65, oX0 a_c a_marked a_stack stacked_66 deepest_67 scans_68 overflow_69, oZ a_marked cZ 200 marked_70, oI a_stack cI 20 stack_71, oX5 a_s a_letters length_ a_kinds a_firsts a_seconds a_thirds commands_1 faultIndex_2 position_3, oI a_letters cI 80 letters, oI a_kinds cI 40 kinds_4, oI a_firsts cI 40 firsts_5, oI a_seconds cI 40 seconds_6, oI a_thirds cI 40 thirds_7]) (st' := [.int r52]) X (mX6_perform D cI cZ cH a_x a_h a_owner a_fieldCount a_dataCount a_pinned a_age a_content a_roots a_weaks a_movedTo a_reports a_c a_marked a_stack a_s a_kinds a_firsts a_seconds a_thirds a_saved_ a_r a_f a_o a_letters latestRefusal_11 words depth allocated_12 collections_13 freed_14 owner_15 fieldCount_16 dataCount_17 pinned_18 age_19 content_20 roots_21 weaks_22 movedTo_23 reports_24 stacked_25 deepest_26 scans_27 overflow_28 marked_29 stack_30 length_ commands_1 faultIndex_2 position_3 kinds_4 firsts_5 seconds_6 thirds_7 v2_10 r52 allocated_53 collections_54 freed_55 owner_56 fieldCount_57 dataCount_58 pinned_59 age_60 content_61 roots_62 weaks_63 movedTo_64 reports_65 stacked_66 deepest_67 scans_68 overflow_69 marked_70 stack_71 hc72) 1 gX6_run_X6_perform rfl (by decide +kernel) rfl rfl ⟨Nat.le_of_ble_eq_true rfl, Nat.le_of_ble_eq_true rfl⟩ ⟨Nat.le_of_ble_eq_true rfl, Nat.le_of_ble_eq_true rfl⟩ rfl (Nat.le_of_ble_eq_true rfl) dX6_run_50 0 rfl rfl [0, 1, 2, 3, 4, 5, 6, 7, 8, 9, 10, 11, 12, 13, 14, 15, 17, 18, 19, 20] rfl rfl rfl rfl rfl rfl ?_
            refine r_istore_n (pc' := 54) (lv' := [(0, .ref a_x), (1, .int v1_9), (2, .int v2_10), (3, .int r52)]) X dX6_run_53 rfl (by decide) [1, 2, 3, 0] rfl rfl ?_
            refine r_iload_n (pc' := 55) X dX6_run_54 rfl 3 rfl rfl ?_
            obtain ⟨r73, hc74, hF⟩ := g_bd hF
            refine r_callSF (pc' := 58) (ws' := [oX6 a_x a_h a_saved_ a_c a_r a_f a_o a_s latestRefusal_11, oX1 a_h words depth allocated_53 collections_54 freed_55 a_owner a_fieldCount a_dataCount a_pinned a_age a_content a_roots a_weaks a_movedTo a_reports, oI a_owner cI 200 owner_56, oI a_fieldCount cI 200 fieldCount_57, oI a_dataCount cI 200 dataCount_58, oI a_pinned cI 200 pinned_59, oI a_age cI 200 age_60, oI a_content cI 200 content_61, oI a_roots cI 6 roots_62, oI a_weaks cI 4 weaks_63, oI a_movedTo cI 200 movedTo_64, oI a_reports cI 6 reports_65, oX0 a_c a_marked a_stack stacked_66 deepest_67 scans_68 overflow_69, oZ a_marked cZ 200 marked_70, oI a_stack cI 20 stack_71, oX5 a_s a_letters length_ a_kinds a_firsts a_seconds a_thirds commands_1 faultIndex_2 position_3, oI a_letters cI 80 letters, oI a_kinds cI 40 kinds_4, oI a_firsts cI 40 firsts_5, oI a_seconds cI 40 seconds_6, oI a_thirds cI 40 thirds_7]) (st' := [.int r73]) X (mX6_isError D cI cZ cH r52 r73 hc74) 1 gX6_run_X6_isError rfl (by decide +kernel) rfl rfl ⟨Nat.le_of_ble_eq_true rfl, Nat.le_of_ble_eq_true rfl⟩ ⟨Nat.le_of_ble_eq_true rfl, Nat.le_of_ble_eq_true rfl⟩ rfl (Nat.le_of_ble_eq_true rfl) dX6_run_55 [] rfl rfl rfl rfl rfl rfl ?_
            obtain ⟨exJ77, hR, hF⟩ := g_bd hF
            have hJ77 : ∀ (v1_75 : Int32) (latestRefusal_76 : Int32), (v1_75, latestRefusal_76) = exJ77 → G 0 0 [oX6 a_x a_h a_saved_ a_c a_r a_f a_o a_s latestRefusal_76, oX1 a_h words depth allocated_53 collections_54 freed_55 a_owner a_fieldCount a_dataCount a_pinned a_age a_content a_roots a_weaks a_movedTo a_reports, oI a_owner cI 200 owner_56, oI a_fieldCount cI 200 fieldCount_57, oI a_dataCount cI 200 dataCount_58, oI a_pinned cI 200 pinned_59, oI a_age cI 200 age_60, oI a_content cI 200 content_61, oI a_roots cI 6 roots_62, oI a_weaks cI 4 weaks_63, oI a_movedTo cI 200 movedTo_64, oI a_reports cI 6 reports_65, oX0 a_c a_marked a_stack stacked_66 deepest_67 scans_68 overflow_69, oZ a_marked cZ 200 marked_70, oI a_stack cI 20 stack_71, oX5 a_s a_letters length_ a_kinds a_firsts a_seconds a_thirds commands_1 faultIndex_2 position_3, oI a_letters cI 80 letters, oI a_kinds cI 40 kinds_4, oI a_firsts cI 40 firsts_5, oI a_seconds cI 40 seconds_6, oI a_thirds cI 40 thirds_7] [(0, .ref a_x), (1, .int v1_75), (2, .int v2_10)] 72 [] := by
              intro v1_75 latestRefusal_76 hx; subst hx
              refine r_iinc (pc' := 75) (lv' := [(0, .ref a_x), (1, .int v1_75), (2, .int (v2_10 + (1 : Int32)))]) X (v2_10 + (1 : Int32)) dX6_run_72 2 rfl (congrArg (fun z => v2_10 + z) (by decide)) (by decide) [1, 2, 0] rfl rfl ?_
              refine r_goto X 30 dX6_run_75 (by decide) ?_
              cases hF
              exact ih v1_75 (v2_10 + (1 : Int32)) latestRefusal_76 allocated_53 collections_54 freed_55 owner_56 fieldCount_57 dataCount_58 pinned_59 age_60 content_61 roots_62 weaks_63 movedTo_64 reports_65 stacked_66 deepest_67 scans_68 overflow_69 marked_70 stack_71 hI30
            replace hF := hR
            refine r_if_eq (pc' := 61) X 69 dX6_run_58 (by decide) rfl (fun c9 => ?_) (fun c9 => ?_)
            · replace hF := g_t c9 hF
              refine r_iinc (pc' := 72) (lv' := [(0, .ref a_x), (1, .int (v1_9 + (1 : Int32))), (2, .int v2_10), (3, .int r52)]) X (v1_9 + (1 : Int32)) dX6_run_69 1 rfl (congrArg (fun z => v1_9 + z) (by decide)) (by decide) [1, 0, 2, 3] rfl rfl ?_
              refine r_sub (lv' := [(0, .ref a_x), (1, .int (v1_9 + (1 : Int32))), (2, .int v2_10)]) X [0, 1, 2] rfl ?_
              exact hJ77 (v1_9 + (1 : Int32)) latestRefusal_11 (Option.some.inj hF)
            · replace hF := g_f c9 hF
              refine r_aload_n (pc' := 62) X dX6_run_61 rfl 0 rfl rfl ?_
              refine r_iload_n (pc' := 63) X dX6_run_62 rfl 3 rfl rfl ?_
              refine r_put (pc' := 66) (ty := .int) (ws' := [oX6 a_x a_h a_saved_ a_c a_r a_f a_o a_s r52, oX1 a_h words depth allocated_53 collections_54 freed_55 a_owner a_fieldCount a_dataCount a_pinned a_age a_content a_roots a_weaks a_movedTo a_reports, oI a_owner cI 200 owner_56, oI a_fieldCount cI 200 fieldCount_57, oI a_dataCount cI 200 dataCount_58, oI a_pinned cI 200 pinned_59, oI a_age cI 200 age_60, oI a_content cI 200 content_61, oI a_roots cI 6 roots_62, oI a_weaks cI 4 weaks_63, oI a_movedTo cI 200 movedTo_64, oI a_reports cI 6 reports_65, oX0 a_c a_marked a_stack stacked_66 deepest_67 scans_68 overflow_69, oZ a_marked cZ 200 marked_70, oI a_stack cI 20 stack_71, oX5 a_s a_letters length_ a_kinds a_firsts a_seconds a_thirds commands_1 faultIndex_2 position_3, oI a_letters cI 80 letters, oI a_kinds cI 40 kinds_4, oI a_firsts cI 40 firsts_5, oI a_seconds cI 40 seconds_6, oI a_thirds cI 40 thirds_7]) X uX6_run_X6 0 7 tyX6 tyX6_ok nmX6 dX6_run_63 rfl rfl (by decide) kX6_run_4 rfl (by decide +kernel) rfl rfl (Nat.le_of_ble_eq_true rfl) rfl rfl ?_
              refine r_goto X 72 dX6_run_66 (by decide) ?_
              refine r_sub (lv' := [(0, .ref a_x), (1, .int v1_9), (2, .int v2_10)]) X [0, 1, 2] rfl ?_
              exact hJ77 v1_9 r52 (Option.some.inj hF)
    exact hL30 g_fuel (0 : Int32) (0 : Int32) (0 : Int32) allocated collections freed owner fieldCount dataCount pinned age content roots weaks movedTo reports stacked deepest scans overflow marked stack hR
  · replace hF := g_f c9 hF
    refine r_ldc (pc' := 20) X dX6_run_18 kX6_run_3 rfl ?_
    cases hF
    exact RT.1 0 0 _ _ _ _ .int rfl rfl dX6_run_20 ⟨rfl, rfl⟩ (Nat.le_refl 0) (Nat.le_refl 0)
theorem kX6_refusal_1 : Cond.fieldLink RX6 59 "IslandHeap" "latestRefusal" "I" ∈ wsX6_refusal := List.mem_of_getElem? (i := 1) (by decide +kernel)
theorem uX6_refusal_X6 : ∀ w ∈ u_ws RX6 TX6 8, w ∈ wsX6_refusal := by decide +kernel
set_option maxHeartbeats 4000000 in
set_option maxRecDepth 100000 in
theorem mX6_refusal (D : va_G) (cI cZ cH : ClassId) (a_x : Nat) (a_h : Nat) (a_saved_ : Nat) (a_c : Nat) (a_r : Nat) (a_f : Nat) (a_o : Nat) (a_s : Nat) (latestRefusal : Int32) (r0 : Int32) (hF : FX6_refusal latestRefusal = some r0) : g_CM yX6_refusal wsX6_refusal ({ frames := 0, cells := 0, slots := 0, locals := 0 }) D cI cZ cH [.ref a_x] [oX6 a_x a_h a_saved_ a_c a_r a_f a_o a_s latestRefusal] 0 0 (g_Tm (some (.int r0)) [oX6 a_x a_h a_saved_ a_c a_r a_f a_o a_s latestRefusal]) := by
  refine g_met (own := RX6) (mn := "refusal") (cc := cX6_refusal) (maxL := 1) (ret := (some .int)) rfl rfl (by decide +kernel) rfl (Nat.le_of_ble_eq_true rfl) (fun G X RT => ?_)
  show G 0 0 [oX6 a_x a_h a_saved_ a_c a_r a_f a_o a_s latestRefusal] [(0, .ref a_x)] 0 []
  unfold FX6_refusal at hF
  refine r_aload_n (pc' := 1) X dX6_refusal_0 rfl 0 rfl rfl ?_
  refine r_get (pc' := 4) X uX6_refusal_X6 0 7 dX6_refusal_1 rfl rfl (by decide) kX6_refusal_1 rfl rfl ?_
  cases hF
  exact RT.1 0 0 _ _ _ _ .int rfl rfl dX6_refusal_4 ⟨rfl, rfl⟩ (Nat.le_refl 0) (Nat.le_refl 0)
theorem kX6_count_9 : Cond.constant RX6 63 (-1000002) ∈ wsX6_count := List.mem_of_getElem? (i := 9) (by decide +kernel)
theorem kX6_count_1 : Cond.fieldLink RX6 12 "IslandHeap" "heap" "LIslandHeap$Heap;" ∈ wsX6_count := List.mem_of_getElem? (i := 1) (by decide +kernel)
theorem kX6_count_2 : Cond.fieldLink RX6 198 "IslandHeap$Heap" "words" "I" ∈ wsX6_count := List.mem_of_getElem? (i := 2) (by decide +kernel)
theorem kX6_count_3 : Cond.fieldLink RX6 201 "IslandHeap$Heap" "depth" "I" ∈ wsX6_count := List.mem_of_getElem? (i := 3) (by decide +kernel)
theorem kX6_count_4 : Cond.fieldLink RX6 204 "IslandHeap$Heap" "allocated" "I" ∈ wsX6_count := List.mem_of_getElem? (i := 4) (by decide +kernel)
theorem kX6_count_5 : Cond.fieldLink RX6 143 "IslandHeap$Heap" "collections" "I" ∈ wsX6_count := List.mem_of_getElem? (i := 5) (by decide +kernel)
theorem kX6_count_6 : Cond.fieldLink RX6 146 "IslandHeap$Heap" "freed" "I" ∈ wsX6_count := List.mem_of_getElem? (i := 6) (by decide +kernel)
theorem kX6_count_7 : Cond.fieldLink RX6 55 "IslandHeap" "script" "LIslandHeap$Script;" ∈ wsX6_count := List.mem_of_getElem? (i := 7) (by decide +kernel)
theorem kX6_count_8 : Cond.fieldLink RX6 171 "IslandHeap$Script" "length" "I" ∈ wsX6_count := List.mem_of_getElem? (i := 8) (by decide +kernel)
theorem uX6_count_X6 : ∀ w ∈ u_ws RX6 TX6 8, w ∈ wsX6_count := by decide +kernel
theorem uX6_count_X1 : ∀ w ∈ u_ws RX1 TX1 15, w ∈ wsX6_count := by decide +kernel
theorem uX6_count_X5 : ∀ w ∈ u_ws RX5 TX5 9, w ∈ wsX6_count := by decide +kernel
set_option maxHeartbeats 4000000 in
set_option maxRecDepth 100000 in
theorem mX6_count (D : va_G) (cI cZ cH : ClassId) (a_x : Nat) (a_h : Nat) (a_owner : Nat) (a_pinned : Nat) (a_s : Nat) (a_saved_ : Nat) (a_c : Nat) (a_r : Nat) (a_f : Nat) (a_o : Nat) (a_fieldCount : Nat) (a_dataCount : Nat) (a_age : Nat) (a_content : Nat) (a_roots : Nat) (a_weaks : Nat) (a_movedTo : Nat) (a_reports : Nat) (a_letters : Nat) (a_kinds : Nat) (a_firsts : Nat) (a_seconds : Nat) (a_thirds : Nat) (latestRefusal : Int32) (words : Int32) (depth : Int32) (allocated : Int32) (collections : Int32) (freed : Int32) (owner : Nat → Int32) (pinned : Nat → Int32) (length_ : Int32) (commands : Int32) (faultIndex : Int32) (position : Int32) (p1 : Int32) (r0 : Int32) (hF : FX6_count words depth allocated collections freed owner pinned length_ p1 = some r0) : g_CM yX6_count wsX6_count ({ frames := 4, cells := 0, slots := 0, locals := 85 }) D cI cZ cH [.ref a_x, .int p1] [oX6 a_x a_h a_saved_ a_c a_r a_f a_o a_s latestRefusal, oX1 a_h words depth allocated collections freed a_owner a_fieldCount a_dataCount a_pinned a_age a_content a_roots a_weaks a_movedTo a_reports, oI a_owner cI 200 owner, oI a_pinned cI 200 pinned, oX5 a_s a_letters length_ a_kinds a_firsts a_seconds a_thirds commands faultIndex position] 0 0 (g_Tm (some (.int r0)) [oX6 a_x a_h a_saved_ a_c a_r a_f a_o a_s latestRefusal, oX1 a_h words depth allocated collections freed a_owner a_fieldCount a_dataCount a_pinned a_age a_content a_roots a_weaks a_movedTo a_reports, oI a_owner cI 200 owner, oI a_pinned cI 200 pinned, oX5 a_s a_letters length_ a_kinds a_firsts a_seconds a_thirds commands faultIndex position]) := by
  refine g_met (own := RX6) (mn := "count") (cc := cX6_count) (maxL := 2) (ret := (some .int)) rfl rfl (by decide +kernel) rfl (Nat.le_of_ble_eq_true rfl) (fun G X RT => ?_)
  show G 0 0 [oX6 a_x a_h a_saved_ a_c a_r a_f a_o a_s latestRefusal, oX1 a_h words depth allocated collections freed a_owner a_fieldCount a_dataCount a_pinned a_age a_content a_roots a_weaks a_movedTo a_reports, oI a_owner cI 200 owner, oI a_pinned cI 200 pinned, oX5 a_s a_letters length_ a_kinds a_firsts a_seconds a_thirds commands faultIndex position] [(0, .ref a_x), (1, .int p1)] 0 []
  unfold FX6_count at hF
  refine r_iload_n (pc' := 1) X dX6_count_0 rfl 1 rfl rfl ?_
  by_cases e0 : p1 = (0 : Int32)
  · replace hF := g_t e0 hF
    refine r_tsIn (off := 47) X 48 dX6_count_1 e0 (by decide +kernel) (by decide +kernel) (by decide +kernel) (by decide +kernel) ?_
    refine r_aload_n (pc' := 49) X dX6_count_48 rfl 0 rfl rfl ?_
    refine r_get (pc' := 52) X uX6_count_X6 0 0 dX6_count_49 rfl rfl (by decide) kX6_count_1 rfl rfl ?_
    refine r_get (pc' := 55) X uX6_count_X1 1 0 dX6_count_52 rfl rfl (by decide) kX6_count_2 rfl rfl ?_
    cases hF
    exact RT.1 0 0 _ _ _ _ .int rfl rfl dX6_count_55 ⟨rfl, rfl⟩ (Nat.le_refl 0) (Nat.le_refl 0)
  replace hF := g_f e0 hF
  by_cases e1 : p1 = (1 : Int32)
  · replace hF := g_t e1 hF
    refine r_tsIn (off := 55) X 56 dX6_count_1 e1 (by decide +kernel) (by decide +kernel) (by decide +kernel) (by decide +kernel) ?_
    refine r_aload_n (pc' := 57) X dX6_count_56 rfl 0 rfl rfl ?_
    refine r_get (pc' := 60) X uX6_count_X6 0 0 dX6_count_57 rfl rfl (by decide) kX6_count_1 rfl rfl ?_
    refine r_get (pc' := 63) X uX6_count_X1 1 1 dX6_count_60 rfl rfl (by decide) kX6_count_3 rfl rfl ?_
    cases hF
    exact RT.1 0 0 _ _ _ _ .int rfl rfl dX6_count_63 ⟨rfl, rfl⟩ (Nat.le_refl 0) (Nat.le_refl 0)
  replace hF := g_f e1 hF
  by_cases e2 : p1 = (2 : Int32)
  · replace hF := g_t e2 hF
    refine r_tsIn (off := 63) X 64 dX6_count_1 e2 (by decide +kernel) (by decide +kernel) (by decide +kernel) (by decide +kernel) ?_
    refine r_aload_n (pc' := 65) X dX6_count_64 rfl 0 rfl rfl ?_
    refine r_get (pc' := 68) X uX6_count_X6 0 0 dX6_count_65 rfl rfl (by decide) kX6_count_1 rfl rfl ?_
    obtain ⟨r1, hc2, hF⟩ := g_bd hF
    refine r_callVF (pc' := 71) (ws' := [oX6 a_x a_h a_saved_ a_c a_r a_f a_o a_s latestRefusal, oX1 a_h words depth allocated collections freed a_owner a_fieldCount a_dataCount a_pinned a_age a_content a_roots a_weaks a_movedTo a_reports, oI a_owner cI 200 owner, oI a_pinned cI 200 pinned, oX5 a_s a_letters length_ a_kinds a_firsts a_seconds a_thirds commands faultIndex position]) (st' := [.int r1]) X (mX1_objectCount D cI cZ cH a_h a_owner a_fieldCount a_dataCount a_pinned a_age a_content a_roots a_weaks a_movedTo a_reports words depth allocated collections freed owner r1 hc2) 0 gX6_count_X1_objectCount rfl (by decide +kernel) rfl rfl ⟨Nat.le_of_ble_eq_true rfl, Nat.le_of_ble_eq_true rfl⟩ ⟨Nat.le_of_ble_eq_true rfl, Nat.le_of_ble_eq_true rfl⟩ rfl (Nat.le_of_ble_eq_true rfl) dX6_count_68 1 rfl rfl [1, 2] rfl rfl rfl rfl rfl rfl ?_
    cases hF
    exact RT.1 0 0 _ _ _ _ .int rfl rfl dX6_count_71 ⟨rfl, rfl⟩ (Nat.le_refl 0) (Nat.le_refl 0)
  replace hF := g_f e2 hF
  by_cases e3 : p1 = (3 : Int32)
  · replace hF := g_t e3 hF
    refine r_tsIn (off := 71) X 72 dX6_count_1 e3 (by decide +kernel) (by decide +kernel) (by decide +kernel) (by decide +kernel) ?_
    refine r_aload_n (pc' := 73) X dX6_count_72 rfl 0 rfl rfl ?_
    refine r_get (pc' := 76) X uX6_count_X6 0 0 dX6_count_73 rfl rfl (by decide) kX6_count_1 rfl rfl ?_
    obtain ⟨r3, hc4, hF⟩ := g_bd hF
    refine r_callVF (pc' := 79) (ws' := [oX6 a_x a_h a_saved_ a_c a_r a_f a_o a_s latestRefusal, oX1 a_h words depth allocated collections freed a_owner a_fieldCount a_dataCount a_pinned a_age a_content a_roots a_weaks a_movedTo a_reports, oI a_owner cI 200 owner, oI a_pinned cI 200 pinned, oX5 a_s a_letters length_ a_kinds a_firsts a_seconds a_thirds commands faultIndex position]) (st' := [.int r3]) X (mX1_pinnedCount D cI cZ cH a_h a_owner a_pinned a_fieldCount a_dataCount a_age a_content a_roots a_weaks a_movedTo a_reports words depth allocated collections freed owner pinned r3 hc4) 0 gX6_count_X1_pinnedCount rfl (by decide +kernel) rfl rfl ⟨Nat.le_of_ble_eq_true rfl, Nat.le_of_ble_eq_true rfl⟩ ⟨Nat.le_of_ble_eq_true rfl, Nat.le_of_ble_eq_true rfl⟩ rfl (Nat.le_of_ble_eq_true rfl) dX6_count_76 1 rfl rfl [1, 2, 3] rfl rfl rfl rfl rfl rfl ?_
    cases hF
    exact RT.1 0 0 _ _ _ _ .int rfl rfl dX6_count_79 ⟨rfl, rfl⟩ (Nat.le_refl 0) (Nat.le_refl 0)
  replace hF := g_f e3 hF
  by_cases e4 : p1 = (4 : Int32)
  · replace hF := g_t e4 hF
    refine r_tsIn (off := 79) X 80 dX6_count_1 e4 (by decide +kernel) (by decide +kernel) (by decide +kernel) (by decide +kernel) ?_
    refine r_aload_n (pc' := 81) X dX6_count_80 rfl 0 rfl rfl ?_
    refine r_get (pc' := 84) X uX6_count_X6 0 0 dX6_count_81 rfl rfl (by decide) kX6_count_1 rfl rfl ?_
    refine r_get (pc' := 87) X uX6_count_X1 1 2 dX6_count_84 rfl rfl (by decide) kX6_count_4 rfl rfl ?_
    cases hF
    exact RT.1 0 0 _ _ _ _ .int rfl rfl dX6_count_87 ⟨rfl, rfl⟩ (Nat.le_refl 0) (Nat.le_refl 0)
  replace hF := g_f e4 hF
  by_cases e5 : p1 = (5 : Int32)
  · replace hF := g_t e5 hF
    refine r_tsIn (off := 87) X 88 dX6_count_1 e5 (by decide +kernel) (by decide +kernel) (by decide +kernel) (by decide +kernel) ?_
    refine r_aload_n (pc' := 89) X dX6_count_88 rfl 0 rfl rfl ?_
    refine r_get (pc' := 92) X uX6_count_X6 0 0 dX6_count_89 rfl rfl (by decide) kX6_count_1 rfl rfl ?_
    refine r_get (pc' := 95) X uX6_count_X1 1 3 dX6_count_92 rfl rfl (by decide) kX6_count_5 rfl rfl ?_
    cases hF
    exact RT.1 0 0 _ _ _ _ .int rfl rfl dX6_count_95 ⟨rfl, rfl⟩ (Nat.le_refl 0) (Nat.le_refl 0)
  replace hF := g_f e5 hF
  by_cases e6 : p1 = (6 : Int32)
  · replace hF := g_t e6 hF
    refine r_tsIn (off := 95) X 96 dX6_count_1 e6 (by decide +kernel) (by decide +kernel) (by decide +kernel) (by decide +kernel) ?_
    refine r_aload_n (pc' := 97) X dX6_count_96 rfl 0 rfl rfl ?_
    refine r_get (pc' := 100) X uX6_count_X6 0 0 dX6_count_97 rfl rfl (by decide) kX6_count_1 rfl rfl ?_
    refine r_get (pc' := 103) X uX6_count_X1 1 4 dX6_count_100 rfl rfl (by decide) kX6_count_6 rfl rfl ?_
    cases hF
    exact RT.1 0 0 _ _ _ _ .int rfl rfl dX6_count_103 ⟨rfl, rfl⟩ (Nat.le_refl 0) (Nat.le_refl 0)
  replace hF := g_f e6 hF
  by_cases e7 : p1 = (7 : Int32)
  · replace hF := g_t e7 hF
    refine r_tsIn (off := 103) X 104 dX6_count_1 e7 (by decide +kernel) (by decide +kernel) (by decide +kernel) (by decide +kernel) ?_
    refine r_aload_n (pc' := 105) X dX6_count_104 rfl 0 rfl rfl ?_
    refine r_get (pc' := 108) X uX6_count_X6 0 6 dX6_count_105 rfl rfl (by decide) kX6_count_7 rfl rfl ?_
    refine r_get (pc' := 111) X uX6_count_X5 4 1 dX6_count_108 rfl rfl (by decide) kX6_count_8 rfl rfl ?_
    cases hF
    exact RT.1 0 0 _ _ _ _ .int rfl rfl dX6_count_111 ⟨rfl, rfl⟩ (Nat.le_refl 0) (Nat.le_refl 0)
  replace hF := g_f e7 hF
  have hdf : ∀ hh : True, G 0 0 [oX6 a_x a_h a_saved_ a_c a_r a_f a_o a_s latestRefusal, oX1 a_h words depth allocated collections freed a_owner a_fieldCount a_dataCount a_pinned a_age a_content a_roots a_weaks a_movedTo a_reports, oI a_owner cI 200 owner, oI a_pinned cI 200 pinned, oX5 a_s a_letters length_ a_kinds a_firsts a_seconds a_thirds commands faultIndex position] [(0, .ref a_x), (1, .int p1)] 112 [] := by
    intro _
    refine r_ldc (pc' := 114) X dX6_count_112 kX6_count_9 rfl ?_
    cases hF
    exact RT.1 0 0 _ _ _ _ .int rfl rfl dX6_count_114 ⟨rfl, rfl⟩ (Nat.le_refl 0) (Nat.le_refl 0)
  rcases g_ts (lo := 0) (hi := 7) p1 with h9 | h9
  · exact r_tsOut X 112 dX6_count_1 h9 (by decide +kernel) (hdf trivial)
  · obtain ⟨h8, h9⟩ := h9
    rcases g_sw0_7 p1 h8 h9 with h9 | h9 | h9 | h9 | h9 | h9 | h9 | h9
    · exact absurd h9 e0
    · exact absurd h9 e1
    · exact absurd h9 e2
    · exact absurd h9 e3
    · exact absurd h9 e4
    · exact absurd h9 e5
    · exact absurd h9 e6
    · exact absurd h9 e7
theorem kX6_absorb_1 : Cond.constantLong RX6 227 (31) ∈ wsX6_absorb := List.mem_of_getElem? (i := 1) (by decide +kernel)
set_option maxHeartbeats 4000000 in
set_option maxRecDepth 100000 in
theorem mX6_absorb (D : va_G) (cI cZ cH : ClassId) (p0 : Int64) (p2 : Int32) (r0 : Int64) (hF : FX6_absorb p0 p2 = some r0) : g_CM yX6_absorb wsX6_absorb ({ frames := 0, cells := 0, slots := 0, locals := 0 }) D cI cZ cH [.long p0, .int p2] [] 0 0 (g_Tm (some (.long r0)) []) := by
  refine g_met (own := RX6) (mn := "absorb") (cc := cX6_absorb) (maxL := 3) (ret := (some .long)) rfl rfl (by decide +kernel) rfl (Nat.le_of_ble_eq_true rfl) (fun G X RT => ?_)
  show G 0 0 [] [(0, .long p0), (2, .int p2)] 0 []
  unfold FX6_absorb at hF
  refine r_ldc2 (pc' := 3) X dX6_absorb_0 kX6_absorb_1 rfl ?_
  refine r_lload_n (pc' := 4) X dX6_absorb_3 rfl 0 rfl rfl ?_
  refine r_lmul (pc' := 5) X dX6_absorb_4 rfl ?_
  refine r_iload_n (pc' := 6) X dX6_absorb_5 rfl 1 rfl rfl ?_
  refine r_i2l (pc' := 7) X dX6_absorb_6 rfl ?_
  refine r_ladd (pc' := 8) X dX6_absorb_7 rfl ?_
  cases hF
  exact RT.2.1 0 0 _ _ _ _ rfl dX6_absorb_8 ⟨rfl, rfl⟩ (Nat.le_refl 0) (Nat.le_refl 0)
set_option maxHeartbeats 4000000 in
set_option maxRecDepth 100000 in
theorem mX6_absorbRow (D : va_G) (cI cZ cH : ClassId) (a_row : Nat) (row : Nat → Int32) (n_row : Nat) (p0 : Int64) (p3 : Int32) (p4 : Int32) (r0 : Int64) (hF : FX6_absorbRow row n_row p0 p3 p4 = some r0) : g_CM yX6_absorbRow wsX6_absorbRow ({ frames := 1, cells := 0, slots := 0, locals := 22 }) D cI cZ cH [.long p0, .ref a_row, .int p3, .int p4] [oI a_row cI n_row row] 0 0 (g_Tm (some (.long r0)) [oI a_row cI n_row row]) := by
  refine g_met (own := RX6) (mn := "absorbRow") (cc := cX6_absorbRow) (maxL := 8) (ret := (some .long)) rfl rfl (by decide +kernel) rfl (Nat.le_of_ble_eq_true rfl) (fun G X RT => ?_)
  show G 0 0 [oI a_row cI n_row row] [(0, .long p0), (2, .ref a_row), (3, .int p3), (4, .int p4)] 0 []
  unfold FX6_absorbRow at hF
  refine r_lload_n (pc' := 1) X dX6_absorbRow_0 rfl 0 rfl rfl ?_
  refine r_lstore (pc' := 3) (lv' := [(0, .long p0), (2, .ref a_row), (3, .int p3), (4, .int p4), (5, .long p0)]) X dX6_absorbRow_1 (by decide) [1, 2, 3, 4, 0] rfl rfl ?_
  refine r_iload_n (pc' := 4) X dX6_absorbRow_3 rfl 2 rfl rfl ?_
  refine r_istore (pc' := 6) (lv' := [(0, .long p0), (2, .ref a_row), (3, .int p3), (4, .int p4), (5, .long p0), (7, .int p3)]) X dX6_absorbRow_4 (by decide) [1, 2, 3, 4, 5, 0] rfl rfl ?_
  obtain ⟨ex6, hR, hF⟩ := g_bd hF
  have hE6 : ∀ (v5_3 : Int64), v5_3 = ex6 → G 0 0 [oI a_row cI n_row row] [(5, .long v5_3)] 37 [] := by
    intro v5_3 hx; subst hx
    refine r_lload (pc' := 39) X dX6_absorbRow_37 0 rfl rfl ?_
    cases hF
    exact RT.2.1 0 0 _ _ _ _ rfl dX6_absorbRow_39 ⟨rfl, rfl⟩ (Nat.le_refl 0) (Nat.le_refl 0)
  have hL6 : ∀ (fu : Nat) (v5_1 : Int64) (v7_2 : Int32), g_itn (FX6_absorbRow_L6 row n_row p4) fu (v5_1, v7_2) = some ex6 → G 0 0 [oI a_row cI n_row row] [(2, .ref a_row), (4, .int p4), (5, .long v5_1), (7, .int v7_2)] 6 [] := by
    intro fu
    induction fu with
    | zero => intro v5_1 v7_2 h9; exact (g_it0 h9).elim
    | succ fu ih =>
      intro v5_1 v7_2 h9
      obtain ⟨y6, hF, hI6⟩ := g_its h9
      unfold FX6_absorbRow_L6 at hF
      refine r_iload (pc' := 8) X dX6_absorbRow_6 3 rfl rfl ?_
      refine r_iload (pc' := 10) X dX6_absorbRow_8 1 rfl rfl ?_
      refine r_icmp_ge (pc' := 13) X 37 dX6_absorbRow_10 (by decide) rfl (fun c9 => ?_) (fun c9 => ?_)
      · replace hF := g_t c9 hF
        cases hF
        refine r_sub (lv' := [(5, .long v5_1)]) X [2] rfl ?_
        exact hE6 v5_1 hI6
      · replace hF := g_f c9 hF
        refine r_iload (pc' := 15) X dX6_absorbRow_13 3 rfl rfl ?_
        refine r_aload_n (pc' := 16) X dX6_absorbRow_15 rfl 0 rfl rfl ?_
        refine r_alen (pc' := 17) X 0 0 dX6_absorbRow_16 rfl rfl rfl ?_
        refine r_icmp_ge (pc' := 20) X 37 dX6_absorbRow_17 (by decide) rfl (fun c9 => ?_) (fun c9 => ?_)
        · replace hF := g_t c9 hF
          cases hF
          refine r_sub (lv' := [(5, .long v5_1)]) X [2] rfl ?_
          exact hE6 v5_1 hI6
        · replace hF := g_f c9 hF
          refine r_lload (pc' := 22) X dX6_absorbRow_20 2 rfl rfl ?_
          refine r_aload_n (pc' := 23) X dX6_absorbRow_22 rfl 0 rfl rfl ?_
          refine r_iload (pc' := 25) X dX6_absorbRow_23 3 rfl rfl ?_
          obtain ⟨hi4, hF⟩ := g_gt hF
          refine r_iald (pc' := 26) X 0 dX6_absorbRow_25 rfl (g_vi hi4) rfl ?_
          obtain ⟨r5, hc6, hF⟩ := g_bd hF
          refine r_callSF (pc' := 29) (ws' := [oI a_row cI n_row row]) (st' := [.long r5]) X (mX6_absorb D cI cZ cH v5_1 (row v7_2.toNatClampNeg) r5 hc6) 2 gX6_absorbRow_X6_absorb rfl (by decide +kernel) rfl rfl ⟨Nat.le_of_ble_eq_true rfl, Nat.le_of_ble_eq_true rfl⟩ ⟨Nat.le_of_ble_eq_true rfl, Nat.le_of_ble_eq_true rfl⟩ rfl (Nat.le_of_ble_eq_true rfl) dX6_absorbRow_26 [] rfl rfl rfl rfl rfl rfl ?_
          refine r_lstore (pc' := 31) (lv' := [(2, .ref a_row), (4, .int p4), (5, .long r5), (7, .int v7_2)]) X dX6_absorbRow_29 (by decide) [1, 2, 0, 3] rfl rfl ?_
          refine r_iinc (pc' := 34) (lv' := [(2, .ref a_row), (4, .int p4), (5, .long r5), (7, .int (v7_2 + (1 : Int32)))]) X (v7_2 + (1 : Int32)) dX6_absorbRow_31 3 rfl (congrArg (fun z => v7_2 + z) (by decide)) (by decide) [1, 2, 3, 0] rfl rfl ?_
          refine r_goto X 6 dX6_absorbRow_34 (by decide) ?_
          cases hF
          exact ih r5 (v7_2 + (1 : Int32)) hI6
  refine r_sub (lv' := [(2, .ref a_row), (4, .int p4), (5, .long p0), (7, .int p3)]) X [1, 3, 4, 5] rfl ?_
  exact hL6 g_fuel p0 p3 hR
theorem kX6_absorbObjects_1 : Cond.fieldLink RX6 41 "IslandHeap" "referrers" "LIslandHeap$Referrers;" ∈ wsX6_absorbObjects := List.mem_of_getElem? (i := 1) (by decide +kernel)
theorem kX6_absorbObjects_2 : Cond.fieldLink RX6 12 "IslandHeap" "heap" "LIslandHeap$Heap;" ∈ wsX6_absorbObjects := List.mem_of_getElem? (i := 2) (by decide +kernel)
theorem kX6_absorbObjects_3 : Cond.fieldLink RX6 34 "IslandHeap" "reach" "LIslandHeap$Reach;" ∈ wsX6_absorbObjects := List.mem_of_getElem? (i := 3) (by decide +kernel)
theorem kX6_absorbObjects_4 : Cond.fieldLink RX6 198 "IslandHeap$Heap" "words" "I" ∈ wsX6_absorbObjects := List.mem_of_getElem? (i := 4) (by decide +kernel)
theorem kX6_absorbObjects_5 : Cond.fieldLink RX6 101 "IslandHeap$Heap" "content" "[I" ∈ wsX6_absorbObjects := List.mem_of_getElem? (i := 5) (by decide +kernel)
theorem uX6_absorbObjects_X6 : ∀ w ∈ u_ws RX6 TX6 8, w ∈ wsX6_absorbObjects := by decide +kernel
theorem uX6_absorbObjects_X1 : ∀ w ∈ u_ws RX1 TX1 15, w ∈ wsX6_absorbObjects := by decide +kernel
set_option maxHeartbeats 4000000 in
set_option maxRecDepth 100000 in
theorem mX6_absorbObjects (D : va_G) (cI cZ cH : ClassId) (a_x : Nat) (a_h : Nat) (a_owner : Nat) (a_fieldCount : Nat) (a_dataCount : Nat) (a_pinned : Nat) (a_age : Nat) (a_content : Nat) (a_roots : Nat) (a_weaks : Nat) (a_r : Nat) (a_steps : Nat) (a_queue : Nat) (a_f : Nat) (a_tallies : Nat) (a_saved_ : Nat) (a_c : Nat) (a_o : Nat) (a_s : Nat) (a_movedTo : Nat) (a_reports : Nat) (latestRefusal : Int32) (words : Int32) (depth : Int32) (allocated : Int32) (collections : Int32) (freed : Int32) (owner : Nat → Int32) (fieldCount : Nat → Int32) (dataCount : Nat → Int32) (pinned : Nat → Int32) (age : Nat → Int32) (content : Nat → Int32) (roots : Nat → Int32) (weaks : Nat → Int32) (queued : Int32) (steps : Nat → Int32) (queue : Nat → Int32) (tallies : Nat → Int32) (p1 : Int64) (r0 : Int64) (w_queued : Int32) (w_steps : Nat → Int32) (w_queue : Nat → Int32) (w_tallies : Nat → Int32) (hF : FX6_absorbObjects words owner fieldCount dataCount pinned age content roots weaks queued steps queue tallies p1 = some (r0, w_queued, w_steps, w_queue, w_tallies)) : g_CM yX6_absorbObjects wsX6_absorbObjects ({ frames := 4, cells := 0, slots := 0, locals := 90 }) D cI cZ cH [.ref a_x, .long p1] [oX6 a_x a_h a_saved_ a_c a_r a_f a_o a_s latestRefusal, oX1 a_h words depth allocated collections freed a_owner a_fieldCount a_dataCount a_pinned a_age a_content a_roots a_weaks a_movedTo a_reports, oI a_owner cI 200 owner, oI a_fieldCount cI 200 fieldCount, oI a_dataCount cI 200 dataCount, oI a_pinned cI 200 pinned, oI a_age cI 200 age, oI a_content cI 200 content, oI a_roots cI 6 roots, oI a_weaks cI 4 weaks, oX3 a_r a_steps a_queue queued, oI a_steps cI 200 steps, oI a_queue cI 200 queue, oX4 a_f a_tallies, oI a_tallies cI 200 tallies] 0 0 (g_Tm (some (.long r0)) [oX6 a_x a_h a_saved_ a_c a_r a_f a_o a_s latestRefusal, oX1 a_h words depth allocated collections freed a_owner a_fieldCount a_dataCount a_pinned a_age a_content a_roots a_weaks a_movedTo a_reports, oI a_owner cI 200 owner, oI a_fieldCount cI 200 fieldCount, oI a_dataCount cI 200 dataCount, oI a_pinned cI 200 pinned, oI a_age cI 200 age, oI a_content cI 200 content, oI a_roots cI 6 roots, oI a_weaks cI 4 weaks, oX3 a_r a_steps a_queue w_queued, oI a_steps cI 200 w_steps, oI a_queue cI 200 w_queue, oX4 a_f a_tallies, oI a_tallies cI 200 w_tallies]) := by
  refine g_met (own := RX6) (mn := "absorbObjects") (cc := cX6_absorbObjects) (maxL := 7) (ret := (some .long)) rfl rfl (by decide +kernel) rfl (Nat.le_of_ble_eq_true rfl) (fun G X RT => ?_)
  show G 0 0 [oX6 a_x a_h a_saved_ a_c a_r a_f a_o a_s latestRefusal, oX1 a_h words depth allocated collections freed a_owner a_fieldCount a_dataCount a_pinned a_age a_content a_roots a_weaks a_movedTo a_reports, oI a_owner cI 200 owner, oI a_fieldCount cI 200 fieldCount, oI a_dataCount cI 200 dataCount, oI a_pinned cI 200 pinned, oI a_age cI 200 age, oI a_content cI 200 content, oI a_roots cI 6 roots, oI a_weaks cI 4 weaks, oX3 a_r a_steps a_queue queued, oI a_steps cI 200 steps, oI a_queue cI 200 queue, oX4 a_f a_tallies, oI a_tallies cI 200 tallies] [(0, .ref a_x), (1, .long p1)] 0 []
  unfold FX6_absorbObjects at hF
  refine r_lload_n (pc' := 1) X dX6_absorbObjects_0 rfl 1 rfl rfl ?_
  refine r_lstore_n (pc' := 2) (lv' := [(0, .ref a_x), (1, .long p1), (3, .long p1)]) X dX6_absorbObjects_1 rfl (by decide) [1, 2, 0] rfl rfl ?_
  refine r_aload_n (pc' := 3) X dX6_absorbObjects_2 rfl 0 rfl rfl ?_
  refine r_get (pc' := 6) X uX6_absorbObjects_X6 0 4 dX6_absorbObjects_3 rfl rfl (by decide) kX6_absorbObjects_1 rfl rfl ?_
  refine r_aload_n (pc' := 7) X dX6_absorbObjects_6 rfl 0 rfl rfl ?_
  refine r_get (pc' := 10) X uX6_absorbObjects_X6 0 0 dX6_absorbObjects_7 rfl rfl (by decide) kX6_absorbObjects_2 rfl rfl ?_
  obtain ⟨tallies_1, hc2, hF⟩ := g_bd hF
  refine r_callVF (pc' := 13) (ws' := [oX6 a_x a_h a_saved_ a_c a_r a_f a_o a_s latestRefusal, oX1 a_h words depth allocated collections freed a_owner a_fieldCount a_dataCount a_pinned a_age a_content a_roots a_weaks a_movedTo a_reports, oI a_owner cI 200 owner, oI a_fieldCount cI 200 fieldCount, oI a_dataCount cI 200 dataCount, oI a_pinned cI 200 pinned, oI a_age cI 200 age, oI a_content cI 200 content, oI a_roots cI 6 roots, oI a_weaks cI 4 weaks, oX3 a_r a_steps a_queue queued, oI a_steps cI 200 steps, oI a_queue cI 200 queue, oX4 a_f a_tallies, oI a_tallies cI 200 tallies_1]) (st' := []) X (mX4_tally D cI cZ cH a_f a_tallies a_h a_owner a_fieldCount a_content a_roots a_weaks a_dataCount a_pinned a_age a_movedTo a_reports tallies words depth allocated collections freed owner fieldCount content roots weaks tallies_1 hc2) 1 gX6_absorbObjects_X4_tally rfl (by decide +kernel) rfl rfl ⟨Nat.le_of_ble_eq_true rfl, Nat.le_of_ble_eq_true rfl⟩ ⟨Nat.le_of_ble_eq_true rfl, Nat.le_of_ble_eq_true rfl⟩ rfl (Nat.le_of_ble_eq_true rfl) dX6_absorbObjects_10 13 rfl rfl [13, 14, 1, 2, 3, 7, 8, 9] rfl rfl rfl rfl rfl rfl ?_
  refine r_aload_n (pc' := 14) X dX6_absorbObjects_13 rfl 0 rfl rfl ?_
  refine r_get (pc' := 17) X uX6_absorbObjects_X6 0 3 dX6_absorbObjects_14 rfl rfl (by decide) kX6_absorbObjects_3 rfl rfl ?_
  refine r_aload_n (pc' := 18) X dX6_absorbObjects_17 rfl 0 rfl rfl ?_
  refine r_get (pc' := 21) X uX6_absorbObjects_X6 0 0 dX6_absorbObjects_18 rfl rfl (by decide) kX6_absorbObjects_2 rfl rfl ?_
  refine r_iconst (pc' := 22) X (-1 : Int32) dX6_absorbObjects_21 (by decide) rfl ?_
  obtain ⟨⟨queued_3, steps_4, queue_5⟩, hc6, hF⟩ := g_bd hF
  refine r_callVF (pc' := 25) (ws' := [oX6 a_x a_h a_saved_ a_c a_r a_f a_o a_s latestRefusal, oX1 a_h words depth allocated collections freed a_owner a_fieldCount a_dataCount a_pinned a_age a_content a_roots a_weaks a_movedTo a_reports, oI a_owner cI 200 owner, oI a_fieldCount cI 200 fieldCount, oI a_dataCount cI 200 dataCount, oI a_pinned cI 200 pinned, oI a_age cI 200 age, oI a_content cI 200 content, oI a_roots cI 6 roots, oI a_weaks cI 4 weaks, oX3 a_r a_steps a_queue queued_3, oI a_steps cI 200 steps_4, oI a_queue cI 200 queue_5, oX4 a_f a_tallies, oI a_tallies cI 200 tallies_1]) (st' := []) X (mX3_trace D cI cZ cH a_r a_steps a_queue a_h a_owner a_fieldCount a_pinned a_content a_roots a_dataCount a_age a_weaks a_movedTo a_reports queued steps queue words depth allocated collections freed owner fieldCount pinned content roots (-1 : Int32) queued_3 steps_4 queue_5 hc6) 2 gX6_absorbObjects_X3_trace rfl (by decide +kernel) rfl rfl ⟨Nat.le_of_ble_eq_true rfl, Nat.le_of_ble_eq_true rfl⟩ ⟨Nat.le_of_ble_eq_true rfl, Nat.le_of_ble_eq_true rfl⟩ rfl (Nat.le_of_ble_eq_true rfl) dX6_absorbObjects_22 10 rfl rfl [10, 11, 12, 1, 2, 3, 5, 7, 8] rfl rfl rfl rfl rfl rfl ?_
  refine r_iconst (pc' := 26) X (0 : Int32) dX6_absorbObjects_25 (by decide) rfl ?_
  refine r_istore (pc' := 28) (lv' := [(0, .ref a_x), (1, .long p1), (3, .long p1), (5, .int (0 : Int32))]) X dX6_absorbObjects_26 (by decide) [1, 2, 3, 0] rfl rfl ?_
  obtain ⟨ex28, hR, hF⟩ := g_bd hF
  have hE28 : ∀ (v3_9 : Int64), v3_9 = ex28 → G 0 0 [oX6 a_x a_h a_saved_ a_c a_r a_f a_o a_s latestRefusal, oX1 a_h words depth allocated collections freed a_owner a_fieldCount a_dataCount a_pinned a_age a_content a_roots a_weaks a_movedTo a_reports, oI a_owner cI 200 owner, oI a_fieldCount cI 200 fieldCount, oI a_dataCount cI 200 dataCount, oI a_pinned cI 200 pinned, oI a_age cI 200 age, oI a_content cI 200 content, oI a_roots cI 6 roots, oI a_weaks cI 4 weaks, oX3 a_r a_steps a_queue queued_3, oI a_steps cI 200 steps_4, oI a_queue cI 200 queue_5, oX4 a_f a_tallies, oI a_tallies cI 200 tallies_1] [(3, .long v3_9)] 115 [] := by
    intro v3_9 hx; subst hx
    refine r_lload_n (pc' := 116) X dX6_absorbObjects_115 rfl 0 rfl rfl ?_
    cases hF
    exact RT.2.1 0 0 _ _ _ _ rfl dX6_absorbObjects_116 ⟨rfl, rfl⟩ (Nat.le_refl 0) (Nat.le_refl 0)
  have hL28 : ∀ (fu : Nat) (v3_7 : Int64) (v5_8 : Int32), g_itn (FX6_absorbObjects_L28 words owner fieldCount dataCount pinned age content tallies_1 steps_4) fu (v3_7, v5_8) = some ex28 → G 0 0 [oX6 a_x a_h a_saved_ a_c a_r a_f a_o a_s latestRefusal, oX1 a_h words depth allocated collections freed a_owner a_fieldCount a_dataCount a_pinned a_age a_content a_roots a_weaks a_movedTo a_reports, oI a_owner cI 200 owner, oI a_fieldCount cI 200 fieldCount, oI a_dataCount cI 200 dataCount, oI a_pinned cI 200 pinned, oI a_age cI 200 age, oI a_content cI 200 content, oI a_roots cI 6 roots, oI a_weaks cI 4 weaks, oX3 a_r a_steps a_queue queued_3, oI a_steps cI 200 steps_4, oI a_queue cI 200 queue_5, oX4 a_f a_tallies, oI a_tallies cI 200 tallies_1] [(0, .ref a_x), (3, .long v3_7), (5, .int v5_8)] 28 [] := by
    intro fu
    induction fu with
    | zero => intro v3_7 v5_8 h9; exact (g_it0 h9).elim
    | succ fu ih =>
      intro v3_7 v5_8 h9
      obtain ⟨y28, hF, hI28⟩ := g_its h9
      unfold FX6_absorbObjects_L28 at hF
      refine r_iload (pc' := 30) X dX6_absorbObjects_28 2 rfl rfl ?_
      refine r_aload_n (pc' := 31) X dX6_absorbObjects_30 rfl 0 rfl rfl ?_
      refine r_get (pc' := 34) X uX6_absorbObjects_X6 0 0 dX6_absorbObjects_31 rfl rfl (by decide) kX6_absorbObjects_2 rfl rfl ?_
      refine r_get (pc' := 37) X uX6_absorbObjects_X1 1 0 dX6_absorbObjects_34 rfl rfl (by decide) kX6_absorbObjects_4 rfl rfl ?_
      refine r_icmp_ge (pc' := 40) X 115 dX6_absorbObjects_37 (by decide) rfl (fun c9 => ?_) (fun c9 => ?_)
      · replace hF := g_t c9 hF
        cases hF
        refine r_sub (lv' := [(3, .long v3_7)]) X [1] rfl ?_
        exact hE28 v3_7 hI28
      · replace hF := g_f c9 hF
        refine r_aload_n (pc' := 41) X dX6_absorbObjects_40 rfl 0 rfl rfl ?_
        refine r_get (pc' := 44) X uX6_absorbObjects_X6 0 0 dX6_absorbObjects_41 rfl rfl (by decide) kX6_absorbObjects_2 rfl rfl ?_
        refine r_iload (pc' := 46) X dX6_absorbObjects_44 2 rfl rfl ?_
        obtain ⟨r10, hc11, hF⟩ := g_bd hF
        refine r_callVF (pc' := 49) (ws' := [oX6 a_x a_h a_saved_ a_c a_r a_f a_o a_s latestRefusal, oX1 a_h words depth allocated collections freed a_owner a_fieldCount a_dataCount a_pinned a_age a_content a_roots a_weaks a_movedTo a_reports, oI a_owner cI 200 owner, oI a_fieldCount cI 200 fieldCount, oI a_dataCount cI 200 dataCount, oI a_pinned cI 200 pinned, oI a_age cI 200 age, oI a_content cI 200 content, oI a_roots cI 6 roots, oI a_weaks cI 4 weaks, oX3 a_r a_steps a_queue queued_3, oI a_steps cI 200 steps_4, oI a_queue cI 200 queue_5, oX4 a_f a_tallies, oI a_tallies cI 200 tallies_1]) (st' := [.int r10]) X (mX1_isObject D cI cZ cH a_h a_owner a_fieldCount a_dataCount a_pinned a_age a_content a_roots a_weaks a_movedTo a_reports words depth allocated collections freed owner v5_8 r10 hc11) 1 gX6_absorbObjects_X1_isObject rfl (by decide +kernel) rfl rfl ⟨Nat.le_of_ble_eq_true rfl, Nat.le_of_ble_eq_true rfl⟩ ⟨Nat.le_of_ble_eq_true rfl, Nat.le_of_ble_eq_true rfl⟩ rfl (Nat.le_of_ble_eq_true rfl) dX6_absorbObjects_46 1 rfl rfl [1, 2] rfl rfl rfl rfl rfl rfl ?_
        obtain ⟨exJ13, hR, hF⟩ := g_bd hF
        have hJ13 : ∀ (v3_12 : Int64), v3_12 = exJ13 → G 0 0 [oX6 a_x a_h a_saved_ a_c a_r a_f a_o a_s latestRefusal, oX1 a_h words depth allocated collections freed a_owner a_fieldCount a_dataCount a_pinned a_age a_content a_roots a_weaks a_movedTo a_reports, oI a_owner cI 200 owner, oI a_fieldCount cI 200 fieldCount, oI a_dataCount cI 200 dataCount, oI a_pinned cI 200 pinned, oI a_age cI 200 age, oI a_content cI 200 content, oI a_roots cI 6 roots, oI a_weaks cI 4 weaks, oX3 a_r a_steps a_queue queued_3, oI a_steps cI 200 steps_4, oI a_queue cI 200 queue_5, oX4 a_f a_tallies, oI a_tallies cI 200 tallies_1] [(0, .ref a_x), (3, .long v3_12), (5, .int v5_8)] 109 [] := by
          intro v3_12 hx; subst hx
          refine r_iinc (pc' := 112) (lv' := [(0, .ref a_x), (3, .long v3_12), (5, .int (v5_8 + (1 : Int32)))]) X (v5_8 + (1 : Int32)) dX6_absorbObjects_109 2 rfl (congrArg (fun z => v5_8 + z) (by decide)) (by decide) [1, 2, 0] rfl rfl ?_
          refine r_goto X 28 dX6_absorbObjects_112 (by decide) ?_
          cases hF
          exact ih v3_12 (v5_8 + (1 : Int32)) hI28
        replace hF := hR
        refine r_if_eq (pc' := 52) X 109 dX6_absorbObjects_49 (by decide) rfl (fun c9 => ?_) (fun c9 => ?_)
        · replace hF := g_t c9 hF
          exact hJ13 v3_7 (Option.some.inj hF)
        · replace hF := g_f c9 hF
          refine r_iconst (pc' := 53) X (0 : Int32) dX6_absorbObjects_52 (by decide) rfl ?_
          refine r_istore (pc' := 55) (lv' := [(0, .ref a_x), (3, .long v3_7), (5, .int v5_8), (6, .int (0 : Int32))]) X dX6_absorbObjects_53 (by decide) [1, 2, 3, 0] rfl rfl ?_
          obtain ⟨ex55, hR, hF⟩ := g_bd hF
          have hE55 : ∀ (v3_16 : Int64), v3_16 = ex55 → G 0 0 [oX6 a_x a_h a_saved_ a_c a_r a_f a_o a_s latestRefusal, oX1 a_h words depth allocated collections freed a_owner a_fieldCount a_dataCount a_pinned a_age a_content a_roots a_weaks a_movedTo a_reports, oI a_owner cI 200 owner, oI a_fieldCount cI 200 fieldCount, oI a_dataCount cI 200 dataCount, oI a_pinned cI 200 pinned, oI a_age cI 200 age, oI a_content cI 200 content, oI a_roots cI 6 roots, oI a_weaks cI 4 weaks, oX3 a_r a_steps a_queue queued_3, oI a_steps cI 200 steps_4, oI a_queue cI 200 queue_5, oX4 a_f a_tallies, oI a_tallies cI 200 tallies_1] [(0, .ref a_x), (3, .long v3_16), (5, .int v5_8)] 81 [] := by
            intro v3_16 hx; subst hx
            refine r_lload_n (pc' := 82) X dX6_absorbObjects_81 rfl 1 rfl rfl ?_
            refine r_aload_n (pc' := 83) X dX6_absorbObjects_82 rfl 0 rfl rfl ?_
            refine r_get (pc' := 86) X uX6_absorbObjects_X6 0 0 dX6_absorbObjects_83 rfl rfl (by decide) kX6_absorbObjects_2 rfl rfl ?_
            refine r_get (pc' := 89) X uX6_absorbObjects_X1 1 10 dX6_absorbObjects_86 rfl rfl (by decide) kX6_absorbObjects_5 rfl rfl ?_
            refine r_iload (pc' := 91) X dX6_absorbObjects_89 2 rfl rfl ?_
            refine r_iconst (pc' := 92) X (1 : Int32) dX6_absorbObjects_91 (by decide) rfl ?_
            refine r_iadd (pc' := 93) X dX6_absorbObjects_92 rfl ?_
            refine r_iload (pc' := 95) X dX6_absorbObjects_93 2 rfl rfl ?_
            refine r_aload_n (pc' := 96) X dX6_absorbObjects_95 rfl 0 rfl rfl ?_
            refine r_get (pc' := 99) X uX6_absorbObjects_X6 0 0 dX6_absorbObjects_96 rfl rfl (by decide) kX6_absorbObjects_2 rfl rfl ?_
            refine r_iload (pc' := 101) X dX6_absorbObjects_99 2 rfl rfl ?_
            obtain ⟨r17, hc18, hF⟩ := g_bd hF
            refine r_callVF (pc' := 104) (ws' := [oX6 a_x a_h a_saved_ a_c a_r a_f a_o a_s latestRefusal, oX1 a_h words depth allocated collections freed a_owner a_fieldCount a_dataCount a_pinned a_age a_content a_roots a_weaks a_movedTo a_reports, oI a_owner cI 200 owner, oI a_fieldCount cI 200 fieldCount, oI a_dataCount cI 200 dataCount, oI a_pinned cI 200 pinned, oI a_age cI 200 age, oI a_content cI 200 content, oI a_roots cI 6 roots, oI a_weaks cI 4 weaks, oX3 a_r a_steps a_queue queued_3, oI a_steps cI 200 steps_4, oI a_queue cI 200 queue_5, oX4 a_f a_tallies, oI a_tallies cI 200 tallies_1]) (st' := [.int r17, .int v5_8, .int (v5_8 + (1 : Int32)), .ref a_content, .long v3_16]) X (mX1_sizeOf D cI cZ cH a_h a_fieldCount a_dataCount a_owner a_pinned a_age a_content a_roots a_weaks a_movedTo a_reports words depth allocated collections freed fieldCount dataCount v5_8 r17 hc18) 1 gX6_absorbObjects_X1_sizeOf rfl (by decide +kernel) rfl rfl ⟨Nat.le_of_ble_eq_true rfl, Nat.le_of_ble_eq_true rfl⟩ ⟨Nat.le_of_ble_eq_true rfl, Nat.le_of_ble_eq_true rfl⟩ rfl (Nat.le_of_ble_eq_true rfl) dX6_absorbObjects_101 1 rfl rfl [1, 3, 4] rfl rfl rfl rfl rfl rfl ?_
            refine r_iadd (pc' := 105) X dX6_absorbObjects_104 rfl ?_
            obtain ⟨r19, hc20, hF⟩ := g_bd hF
            refine r_callSF (pc' := 108) (ws' := [oX6 a_x a_h a_saved_ a_c a_r a_f a_o a_s latestRefusal, oX1 a_h words depth allocated collections freed a_owner a_fieldCount a_dataCount a_pinned a_age a_content a_roots a_weaks a_movedTo a_reports, oI a_owner cI 200 owner, oI a_fieldCount cI 200 fieldCount, oI a_dataCount cI 200 dataCount, oI a_pinned cI 200 pinned, oI a_age cI 200 age, oI a_content cI 200 content, oI a_roots cI 6 roots, oI a_weaks cI 4 weaks, oX3 a_r a_steps a_queue queued_3, oI a_steps cI 200 steps_4, oI a_queue cI 200 queue_5, oX4 a_f a_tallies, oI a_tallies cI 200 tallies_1]) (st' := [.long r19]) X (mX6_absorbRow D cI cZ cH a_content content 200 v3_16 (v5_8 + (1 : Int32)) (v5_8 + r17) r19 hc20) 4 gX6_absorbObjects_X6_absorbRow rfl (by decide +kernel) rfl rfl ⟨Nat.le_of_ble_eq_true rfl, Nat.le_of_ble_eq_true rfl⟩ ⟨Nat.le_of_ble_eq_true rfl, Nat.le_of_ble_eq_true rfl⟩ rfl (Nat.le_of_ble_eq_true rfl) dX6_absorbObjects_105 [7] rfl rfl rfl rfl rfl rfl ?_
            refine r_lstore_n (pc' := 109) (lv' := [(0, .ref a_x), (3, .long r19), (5, .int v5_8)]) X dX6_absorbObjects_108 rfl (by decide) [1, 0, 2] rfl rfl ?_
            exact hJ13 r19 (Option.some.inj hF)
          have hL55 : ∀ (fu : Nat) (v3_14 : Int64) (v6_15 : Int32), g_itn (FX6_absorbObjects_L55 fieldCount dataCount pinned age tallies_1 steps_4 v5_8) fu (v3_14, v6_15) = some ex55 → G 0 0 [oX6 a_x a_h a_saved_ a_c a_r a_f a_o a_s latestRefusal, oX1 a_h words depth allocated collections freed a_owner a_fieldCount a_dataCount a_pinned a_age a_content a_roots a_weaks a_movedTo a_reports, oI a_owner cI 200 owner, oI a_fieldCount cI 200 fieldCount, oI a_dataCount cI 200 dataCount, oI a_pinned cI 200 pinned, oI a_age cI 200 age, oI a_content cI 200 content, oI a_roots cI 6 roots, oI a_weaks cI 4 weaks, oX3 a_r a_steps a_queue queued_3, oI a_steps cI 200 steps_4, oI a_queue cI 200 queue_5, oX4 a_f a_tallies, oI a_tallies cI 200 tallies_1] [(0, .ref a_x), (3, .long v3_14), (5, .int v5_8), (6, .int v6_15)] 55 [] := by
            intro fu
            induction fu with
            | zero => intro v3_14 v6_15 h9; exact (g_it0 h9).elim
            | succ fu ih =>
              intro v3_14 v6_15 h9
              obtain ⟨y55, hF, hI55⟩ := g_its h9
              unfold FX6_absorbObjects_L55 at hF
              refine r_iload (pc' := 57) X dX6_absorbObjects_55 3 rfl rfl ?_
              refine r_bipush (pc' := 59) X (8 : Int32) dX6_absorbObjects_57 (by decide) rfl ?_
              refine r_icmp_ge (pc' := 62) X 81 dX6_absorbObjects_59 (by decide) rfl (fun c9 => ?_) (fun c9 => ?_)
              · replace hF := g_t c9 hF
                cases hF
                refine r_sub (lv' := [(0, .ref a_x), (3, .long v3_14), (5, .int v5_8)]) X [0, 1, 2] rfl ?_
                exact hE55 v3_14 hI55
              · replace hF := g_f c9 hF
                refine r_lload_n (pc' := 63) X dX6_absorbObjects_62 rfl 1 rfl rfl ?_
                refine r_aload_n (pc' := 64) X dX6_absorbObjects_63 rfl 0 rfl rfl ?_
                refine r_iload (pc' := 66) X dX6_absorbObjects_64 2 rfl rfl ?_
                refine r_iload (pc' := 68) X dX6_absorbObjects_66 3 rfl rfl ?_
                obtain ⟨r21, hc22, hF⟩ := g_bd hF
                refine r_callVF (pc' := 71) (ws' := [oX6 a_x a_h a_saved_ a_c a_r a_f a_o a_s latestRefusal, oX1 a_h words depth allocated collections freed a_owner a_fieldCount a_dataCount a_pinned a_age a_content a_roots a_weaks a_movedTo a_reports, oI a_owner cI 200 owner, oI a_fieldCount cI 200 fieldCount, oI a_dataCount cI 200 dataCount, oI a_pinned cI 200 pinned, oI a_age cI 200 age, oI a_content cI 200 content, oI a_roots cI 6 roots, oI a_weaks cI 4 weaks, oX3 a_r a_steps a_queue queued_3, oI a_steps cI 200 steps_4, oI a_queue cI 200 queue_5, oX4 a_f a_tallies, oI a_tallies cI 200 tallies_1]) (st' := [.int r21, .long v3_14]) X (mX6_property D cI cZ cH a_x a_h a_fieldCount a_dataCount a_pinned a_age a_r a_steps a_f a_tallies a_saved_ a_c a_o a_s a_owner a_content a_roots a_weaks a_movedTo a_reports a_queue latestRefusal words depth allocated collections freed fieldCount dataCount pinned age queued_3 steps_4 tallies_1 v5_8 v6_15 r21 hc22) 2 gX6_absorbObjects_X6_property rfl (by decide +kernel) rfl rfl ⟨Nat.le_of_ble_eq_true rfl, Nat.le_of_ble_eq_true rfl⟩ ⟨Nat.le_of_ble_eq_true rfl, Nat.le_of_ble_eq_true rfl⟩ rfl (Nat.le_of_ble_eq_true rfl) dX6_absorbObjects_68 0 rfl rfl [0, 1, 3, 4, 5, 6, 10, 11, 13, 14] rfl rfl rfl rfl rfl rfl ?_
                obtain ⟨r23, hc24, hF⟩ := g_bd hF
                refine r_callSF (pc' := 74) (ws' := [oX6 a_x a_h a_saved_ a_c a_r a_f a_o a_s latestRefusal, oX1 a_h words depth allocated collections freed a_owner a_fieldCount a_dataCount a_pinned a_age a_content a_roots a_weaks a_movedTo a_reports, oI a_owner cI 200 owner, oI a_fieldCount cI 200 fieldCount, oI a_dataCount cI 200 dataCount, oI a_pinned cI 200 pinned, oI a_age cI 200 age, oI a_content cI 200 content, oI a_roots cI 6 roots, oI a_weaks cI 4 weaks, oX3 a_r a_steps a_queue queued_3, oI a_steps cI 200 steps_4, oI a_queue cI 200 queue_5, oX4 a_f a_tallies, oI a_tallies cI 200 tallies_1]) (st' := [.long r23]) X (mX6_absorb D cI cZ cH v3_14 r21 r23 hc24) 2 gX6_absorbObjects_X6_absorb rfl (by decide +kernel) rfl rfl ⟨Nat.le_of_ble_eq_true rfl, Nat.le_of_ble_eq_true rfl⟩ ⟨Nat.le_of_ble_eq_true rfl, Nat.le_of_ble_eq_true rfl⟩ rfl (Nat.le_of_ble_eq_true rfl) dX6_absorbObjects_71 [] rfl rfl rfl rfl rfl rfl ?_
                refine r_lstore_n (pc' := 75) (lv' := [(0, .ref a_x), (3, .long r23), (5, .int v5_8), (6, .int v6_15)]) X dX6_absorbObjects_74 rfl (by decide) [1, 0, 2, 3] rfl rfl ?_
                refine r_iinc (pc' := 78) (lv' := [(0, .ref a_x), (3, .long r23), (5, .int v5_8), (6, .int (v6_15 + (1 : Int32)))]) X (v6_15 + (1 : Int32)) dX6_absorbObjects_75 3 rfl (congrArg (fun z => v6_15 + z) (by decide)) (by decide) [1, 2, 3, 0] rfl rfl ?_
                refine r_goto X 55 dX6_absorbObjects_78 (by decide) ?_
                cases hF
                exact ih r23 (v6_15 + (1 : Int32)) hI55
          exact hL55 g_fuel v3_7 (0 : Int32) hR
  refine r_sub (lv' := [(0, .ref a_x), (3, .long p1), (5, .int (0 : Int32))]) X [0, 2, 3] rfl ?_
  exact hL28 g_fuel p1 (0 : Int32) hR
theorem kX6_digest_1 : Cond.constantLong RX6 207 (47) ∈ wsX6_digest := List.mem_of_getElem? (i := 1) (by decide +kernel)
theorem kX6_digest_2 : Cond.fieldLink RX6 12 "IslandHeap" "heap" "LIslandHeap$Heap;" ∈ wsX6_digest := List.mem_of_getElem? (i := 2) (by decide +kernel)
theorem kX6_digest_3 : Cond.fieldLink RX6 122 "IslandHeap$Heap" "roots" "[I" ∈ wsX6_digest := List.mem_of_getElem? (i := 3) (by decide +kernel)
theorem kX6_digest_4 : Cond.fieldLink RX6 125 "IslandHeap$Heap" "weaks" "[I" ∈ wsX6_digest := List.mem_of_getElem? (i := 4) (by decide +kernel)
theorem kX6_digest_5 : Cond.fieldLink RX6 48 "IslandHeap" "holes" "LIslandHeap$Holes;" ∈ wsX6_digest := List.mem_of_getElem? (i := 5) (by decide +kernel)
theorem kX6_digest_6 : Cond.fieldLink RX6 168 "IslandHeap$Holes" "numbers" "[I" ∈ wsX6_digest := List.mem_of_getElem? (i := 6) (by decide +kernel)
theorem kX6_digest_7 : Cond.fieldLink RX6 143 "IslandHeap$Heap" "collections" "I" ∈ wsX6_digest := List.mem_of_getElem? (i := 7) (by decide +kernel)
theorem kX6_digest_9 : Cond.fieldLink RX6 55 "IslandHeap" "script" "LIslandHeap$Script;" ∈ wsX6_digest := List.mem_of_getElem? (i := 9) (by decide +kernel)
theorem kX6_digest_10 : Cond.fieldLink RX6 174 "IslandHeap$Script" "letters" "[I" ∈ wsX6_digest := List.mem_of_getElem? (i := 10) (by decide +kernel)
theorem kX6_digest_11 : Cond.fieldLink RX6 171 "IslandHeap$Script" "length" "I" ∈ wsX6_digest := List.mem_of_getElem? (i := 11) (by decide +kernel)
theorem kX6_digest_8 : Cond.fieldLink RX6 155 "IslandHeap$Heap" "reports" "[I" ∈ wsX6_digest := List.mem_of_getElem? (i := 8) (by decide +kernel)
theorem uX6_digest_X6 : ∀ w ∈ u_ws RX6 TX6 8, w ∈ wsX6_digest := by decide +kernel
theorem uX6_digest_X1 : ∀ w ∈ u_ws RX1 TX1 15, w ∈ wsX6_digest := by decide +kernel
theorem uX6_digest_X2 : ∀ w ∈ u_ws RX2 TX2 1, w ∈ wsX6_digest := by decide +kernel
theorem uX6_digest_X5 : ∀ w ∈ u_ws RX5 TX5 9, w ∈ wsX6_digest := by decide +kernel
set_option maxHeartbeats 4000000 in
set_option maxRecDepth 100000 in
theorem mX6_digest (D : va_G) (cI cZ cH : ClassId) (a_x : Nat) (a_h : Nat) (a_owner : Nat) (a_fieldCount : Nat) (a_dataCount : Nat) (a_pinned : Nat) (a_age : Nat) (a_content : Nat) (a_roots : Nat) (a_weaks : Nat) (a_reports : Nat) (a_r : Nat) (a_steps : Nat) (a_queue : Nat) (a_f : Nat) (a_tallies : Nat) (a_o : Nat) (a_numbers : Nat) (a_s : Nat) (a_letters : Nat) (a_saved_ : Nat) (a_c : Nat) (a_movedTo : Nat) (a_kinds : Nat) (a_firsts : Nat) (a_seconds : Nat) (a_thirds : Nat) (latestRefusal : Int32) (words : Int32) (depth : Int32) (allocated : Int32) (collections : Int32) (freed : Int32) (owner : Nat → Int32) (fieldCount : Nat → Int32) (dataCount : Nat → Int32) (pinned : Nat → Int32) (age : Nat → Int32) (content : Nat → Int32) (roots : Nat → Int32) (weaks : Nat → Int32) (reports : Nat → Int32) (queued : Int32) (steps : Nat → Int32) (queue : Nat → Int32) (tallies : Nat → Int32) (numbers : Nat → Int32) (length_ : Int32) (commands : Int32) (faultIndex : Int32) (position : Int32) (letters : Nat → Int32) (r0 : Int64) (w_queued : Int32) (w_steps : Nat → Int32) (w_queue : Nat → Int32) (w_tallies : Nat → Int32) (w_numbers : Nat → Int32) (hF : FX6_digest words depth allocated collections freed owner fieldCount dataCount pinned age content roots weaks reports queued steps queue tallies numbers length_ letters = some (r0, w_queued, w_steps, w_queue, w_tallies, w_numbers)) : g_CM yX6_digest wsX6_digest ({ frames := 5, cells := 0, slots := 0, locals := 116 }) D cI cZ cH [.ref a_x] [oX6 a_x a_h a_saved_ a_c a_r a_f a_o a_s latestRefusal, oX1 a_h words depth allocated collections freed a_owner a_fieldCount a_dataCount a_pinned a_age a_content a_roots a_weaks a_movedTo a_reports, oI a_owner cI 200 owner, oI a_fieldCount cI 200 fieldCount, oI a_dataCount cI 200 dataCount, oI a_pinned cI 200 pinned, oI a_age cI 200 age, oI a_content cI 200 content, oI a_roots cI 6 roots, oI a_weaks cI 4 weaks, oI a_reports cI 6 reports, oX3 a_r a_steps a_queue queued, oI a_steps cI 200 steps, oI a_queue cI 200 queue, oX4 a_f a_tallies, oI a_tallies cI 200 tallies, oX2 a_o a_numbers, oI a_numbers cI 5 numbers, oX5 a_s a_letters length_ a_kinds a_firsts a_seconds a_thirds commands faultIndex position, oI a_letters cI 80 letters] 0 0 (g_Tm (some (.long r0)) [oX6 a_x a_h a_saved_ a_c a_r a_f a_o a_s latestRefusal, oX1 a_h words depth allocated collections freed a_owner a_fieldCount a_dataCount a_pinned a_age a_content a_roots a_weaks a_movedTo a_reports, oI a_owner cI 200 owner, oI a_fieldCount cI 200 fieldCount, oI a_dataCount cI 200 dataCount, oI a_pinned cI 200 pinned, oI a_age cI 200 age, oI a_content cI 200 content, oI a_roots cI 6 roots, oI a_weaks cI 4 weaks, oI a_reports cI 6 reports, oX3 a_r a_steps a_queue w_queued, oI a_steps cI 200 w_steps, oI a_queue cI 200 w_queue, oX4 a_f a_tallies, oI a_tallies cI 200 w_tallies, oX2 a_o a_numbers, oI a_numbers cI 5 w_numbers, oX5 a_s a_letters length_ a_kinds a_firsts a_seconds a_thirds commands faultIndex position, oI a_letters cI 80 letters]) := by
  refine g_met (own := RX6) (mn := "digest") (cc := cX6_digest) (maxL := 4) (ret := (some .long)) rfl rfl (by decide +kernel) rfl (Nat.le_of_ble_eq_true rfl) (fun G X RT => ?_)
  show G 0 0 [oX6 a_x a_h a_saved_ a_c a_r a_f a_o a_s latestRefusal, oX1 a_h words depth allocated collections freed a_owner a_fieldCount a_dataCount a_pinned a_age a_content a_roots a_weaks a_movedTo a_reports, oI a_owner cI 200 owner, oI a_fieldCount cI 200 fieldCount, oI a_dataCount cI 200 dataCount, oI a_pinned cI 200 pinned, oI a_age cI 200 age, oI a_content cI 200 content, oI a_roots cI 6 roots, oI a_weaks cI 4 weaks, oI a_reports cI 6 reports, oX3 a_r a_steps a_queue queued, oI a_steps cI 200 steps, oI a_queue cI 200 queue, oX4 a_f a_tallies, oI a_tallies cI 200 tallies, oX2 a_o a_numbers, oI a_numbers cI 5 numbers, oX5 a_s a_letters length_ a_kinds a_firsts a_seconds a_thirds commands faultIndex position, oI a_letters cI 80 letters] [(0, .ref a_x)] 0 []
  unfold FX6_digest at hF
  refine r_ldc2 (pc' := 3) X dX6_digest_0 kX6_digest_1 rfl ?_
  refine r_lstore_n (pc' := 4) (lv' := [(0, .ref a_x), (1, .long (47 : Int64))]) X dX6_digest_3 rfl (by decide) [1, 0] rfl rfl ?_
  refine r_iconst (pc' := 5) X (0 : Int32) dX6_digest_4 (by decide) rfl ?_
  refine r_istore_n (pc' := 6) (lv' := [(0, .ref a_x), (1, .long (47 : Int64)), (3, .int (0 : Int32))]) X dX6_digest_5 rfl (by decide) [1, 2, 0] rfl rfl ?_
  obtain ⟨ex6, hR, hF⟩ := g_bd hF
  have hE6 : ∀ (v1_3 : Int64), v1_3 = ex6 → G 0 0 [oX6 a_x a_h a_saved_ a_c a_r a_f a_o a_s latestRefusal, oX1 a_h words depth allocated collections freed a_owner a_fieldCount a_dataCount a_pinned a_age a_content a_roots a_weaks a_movedTo a_reports, oI a_owner cI 200 owner, oI a_fieldCount cI 200 fieldCount, oI a_dataCount cI 200 dataCount, oI a_pinned cI 200 pinned, oI a_age cI 200 age, oI a_content cI 200 content, oI a_roots cI 6 roots, oI a_weaks cI 4 weaks, oI a_reports cI 6 reports, oX3 a_r a_steps a_queue queued, oI a_steps cI 200 steps, oI a_queue cI 200 queue, oX4 a_f a_tallies, oI a_tallies cI 200 tallies, oX2 a_o a_numbers, oI a_numbers cI 5 numbers, oX5 a_s a_letters length_ a_kinds a_firsts a_seconds a_thirds commands faultIndex position, oI a_letters cI 80 letters] [(0, .ref a_x), (1, .long v1_3)] 28 [] := by
    intro v1_3 hx; subst hx
    refine r_lload_n (pc' := 29) X dX6_digest_28 rfl 1 rfl rfl ?_
    refine r_aload_n (pc' := 30) X dX6_digest_29 rfl 0 rfl rfl ?_
    refine r_get (pc' := 33) X uX6_digest_X6 0 0 dX6_digest_30 rfl rfl (by decide) kX6_digest_2 rfl rfl ?_
    refine r_get (pc' := 36) X uX6_digest_X1 1 11 dX6_digest_33 rfl rfl (by decide) kX6_digest_3 rfl rfl ?_
    refine r_iconst (pc' := 37) X (0 : Int32) dX6_digest_36 (by decide) rfl ?_
    refine r_bipush (pc' := 39) X (6 : Int32) dX6_digest_37 (by decide) rfl ?_
    obtain ⟨r4, hc5, hF⟩ := g_bd hF
    refine r_callSF (pc' := 42) (ws' := [oX6 a_x a_h a_saved_ a_c a_r a_f a_o a_s latestRefusal, oX1 a_h words depth allocated collections freed a_owner a_fieldCount a_dataCount a_pinned a_age a_content a_roots a_weaks a_movedTo a_reports, oI a_owner cI 200 owner, oI a_fieldCount cI 200 fieldCount, oI a_dataCount cI 200 dataCount, oI a_pinned cI 200 pinned, oI a_age cI 200 age, oI a_content cI 200 content, oI a_roots cI 6 roots, oI a_weaks cI 4 weaks, oI a_reports cI 6 reports, oX3 a_r a_steps a_queue queued, oI a_steps cI 200 steps, oI a_queue cI 200 queue, oX4 a_f a_tallies, oI a_tallies cI 200 tallies, oX2 a_o a_numbers, oI a_numbers cI 5 numbers, oX5 a_s a_letters length_ a_kinds a_firsts a_seconds a_thirds commands faultIndex position, oI a_letters cI 80 letters]) (st' := [.long r4]) X (mX6_absorbRow D cI cZ cH a_roots roots 6 v1_3 (0 : Int32) (6 : Int32) r4 hc5) 4 gX6_digest_X6_absorbRow rfl (by decide +kernel) rfl rfl ⟨Nat.le_of_ble_eq_true rfl, Nat.le_of_ble_eq_true rfl⟩ ⟨Nat.le_of_ble_eq_true rfl, Nat.le_of_ble_eq_true rfl⟩ rfl (Nat.le_of_ble_eq_true rfl) dX6_digest_39 [8] rfl rfl rfl rfl rfl rfl ?_
    refine r_lstore_n (pc' := 43) (lv' := [(0, .ref a_x), (1, .long r4)]) X dX6_digest_42 rfl (by decide) [1, 0] rfl rfl ?_
    refine r_lload_n (pc' := 44) X dX6_digest_43 rfl 1 rfl rfl ?_
    refine r_aload_n (pc' := 45) X dX6_digest_44 rfl 0 rfl rfl ?_
    refine r_get (pc' := 48) X uX6_digest_X6 0 0 dX6_digest_45 rfl rfl (by decide) kX6_digest_2 rfl rfl ?_
    refine r_get (pc' := 51) X uX6_digest_X1 1 12 dX6_digest_48 rfl rfl (by decide) kX6_digest_4 rfl rfl ?_
    refine r_iconst (pc' := 52) X (0 : Int32) dX6_digest_51 (by decide) rfl ?_
    refine r_iconst (pc' := 53) X (4 : Int32) dX6_digest_52 (by decide) rfl ?_
    obtain ⟨r6, hc7, hF⟩ := g_bd hF
    refine r_callSF (pc' := 56) (ws' := [oX6 a_x a_h a_saved_ a_c a_r a_f a_o a_s latestRefusal, oX1 a_h words depth allocated collections freed a_owner a_fieldCount a_dataCount a_pinned a_age a_content a_roots a_weaks a_movedTo a_reports, oI a_owner cI 200 owner, oI a_fieldCount cI 200 fieldCount, oI a_dataCount cI 200 dataCount, oI a_pinned cI 200 pinned, oI a_age cI 200 age, oI a_content cI 200 content, oI a_roots cI 6 roots, oI a_weaks cI 4 weaks, oI a_reports cI 6 reports, oX3 a_r a_steps a_queue queued, oI a_steps cI 200 steps, oI a_queue cI 200 queue, oX4 a_f a_tallies, oI a_tallies cI 200 tallies, oX2 a_o a_numbers, oI a_numbers cI 5 numbers, oX5 a_s a_letters length_ a_kinds a_firsts a_seconds a_thirds commands faultIndex position, oI a_letters cI 80 letters]) (st' := [.long r6]) X (mX6_absorbRow D cI cZ cH a_weaks weaks 4 r4 (0 : Int32) (4 : Int32) r6 hc7) 4 gX6_digest_X6_absorbRow rfl (by decide +kernel) rfl rfl ⟨Nat.le_of_ble_eq_true rfl, Nat.le_of_ble_eq_true rfl⟩ ⟨Nat.le_of_ble_eq_true rfl, Nat.le_of_ble_eq_true rfl⟩ rfl (Nat.le_of_ble_eq_true rfl) dX6_digest_53 [9] rfl rfl rfl rfl rfl rfl ?_
    refine r_lstore_n (pc' := 57) (lv' := [(0, .ref a_x), (1, .long r6)]) X dX6_digest_56 rfl (by decide) [1, 0] rfl rfl ?_
    refine r_aload_n (pc' := 58) X dX6_digest_57 rfl 0 rfl rfl ?_
    refine r_lload_n (pc' := 59) X dX6_digest_58 rfl 1 rfl rfl ?_
    obtain ⟨⟨r8, queued_9, steps_10, queue_11, tallies_12⟩, hc13, hF⟩ := g_bd hF
    refine r_callVF (pc' := 62) (ws' := [oX6 a_x a_h a_saved_ a_c a_r a_f a_o a_s latestRefusal, oX1 a_h words depth allocated collections freed a_owner a_fieldCount a_dataCount a_pinned a_age a_content a_roots a_weaks a_movedTo a_reports, oI a_owner cI 200 owner, oI a_fieldCount cI 200 fieldCount, oI a_dataCount cI 200 dataCount, oI a_pinned cI 200 pinned, oI a_age cI 200 age, oI a_content cI 200 content, oI a_roots cI 6 roots, oI a_weaks cI 4 weaks, oI a_reports cI 6 reports, oX3 a_r a_steps a_queue queued_9, oI a_steps cI 200 steps_10, oI a_queue cI 200 queue_11, oX4 a_f a_tallies, oI a_tallies cI 200 tallies_12, oX2 a_o a_numbers, oI a_numbers cI 5 numbers, oX5 a_s a_letters length_ a_kinds a_firsts a_seconds a_thirds commands faultIndex position, oI a_letters cI 80 letters]) (st' := [.long r8]) X (mX6_absorbObjects D cI cZ cH a_x a_h a_owner a_fieldCount a_dataCount a_pinned a_age a_content a_roots a_weaks a_r a_steps a_queue a_f a_tallies a_saved_ a_c a_o a_s a_movedTo a_reports latestRefusal words depth allocated collections freed owner fieldCount dataCount pinned age content roots weaks queued steps queue tallies r6 r8 queued_9 steps_10 queue_11 tallies_12 hc13) 1 gX6_digest_X6_absorbObjects rfl (by decide +kernel) rfl rfl ⟨Nat.le_of_ble_eq_true rfl, Nat.le_of_ble_eq_true rfl⟩ ⟨Nat.le_of_ble_eq_true rfl, Nat.le_of_ble_eq_true rfl⟩ rfl (Nat.le_of_ble_eq_true rfl) dX6_digest_59 0 rfl rfl [0, 1, 2, 3, 4, 5, 6, 7, 8, 9, 11, 12, 13, 14, 15] rfl rfl rfl rfl rfl rfl ?_
    refine r_lstore_n (pc' := 63) (lv' := [(0, .ref a_x), (1, .long r8)]) X dX6_digest_62 rfl (by decide) [1, 0] rfl rfl ?_
    refine r_aload_n (pc' := 64) X dX6_digest_63 rfl 0 rfl rfl ?_
    refine r_get (pc' := 67) X uX6_digest_X6 0 5 dX6_digest_64 rfl rfl (by decide) kX6_digest_5 rfl rfl ?_
    refine r_aload_n (pc' := 68) X dX6_digest_67 rfl 0 rfl rfl ?_
    refine r_get (pc' := 71) X uX6_digest_X6 0 0 dX6_digest_68 rfl rfl (by decide) kX6_digest_2 rfl rfl ?_
    obtain ⟨numbers_14, hc15, hF⟩ := g_bd hF
    refine r_callVF (pc' := 74) (ws' := [oX6 a_x a_h a_saved_ a_c a_r a_f a_o a_s latestRefusal, oX1 a_h words depth allocated collections freed a_owner a_fieldCount a_dataCount a_pinned a_age a_content a_roots a_weaks a_movedTo a_reports, oI a_owner cI 200 owner, oI a_fieldCount cI 200 fieldCount, oI a_dataCount cI 200 dataCount, oI a_pinned cI 200 pinned, oI a_age cI 200 age, oI a_content cI 200 content, oI a_roots cI 6 roots, oI a_weaks cI 4 weaks, oI a_reports cI 6 reports, oX3 a_r a_steps a_queue queued_9, oI a_steps cI 200 steps_10, oI a_queue cI 200 queue_11, oX4 a_f a_tallies, oI a_tallies cI 200 tallies_12, oX2 a_o a_numbers, oI a_numbers cI 5 numbers_14, oX5 a_s a_letters length_ a_kinds a_firsts a_seconds a_thirds commands faultIndex position, oI a_letters cI 80 letters]) (st' := []) X (mX2_measure D cI cZ cH a_o a_numbers a_h a_owner a_fieldCount a_dataCount a_pinned a_age a_content a_roots a_weaks a_movedTo a_reports numbers words depth allocated collections freed owner numbers_14 hc15) 1 gX6_digest_X2_measure rfl (by decide +kernel) rfl rfl ⟨Nat.le_of_ble_eq_true rfl, Nat.le_of_ble_eq_true rfl⟩ ⟨Nat.le_of_ble_eq_true rfl, Nat.le_of_ble_eq_true rfl⟩ rfl (Nat.le_of_ble_eq_true rfl) dX6_digest_71 16 rfl rfl [16, 17, 1, 2] rfl rfl rfl rfl rfl rfl ?_
    refine r_lload_n (pc' := 75) X dX6_digest_74 rfl 1 rfl rfl ?_
    refine r_aload_n (pc' := 76) X dX6_digest_75 rfl 0 rfl rfl ?_
    refine r_get (pc' := 79) X uX6_digest_X6 0 5 dX6_digest_76 rfl rfl (by decide) kX6_digest_5 rfl rfl ?_
    refine r_get (pc' := 82) X uX6_digest_X2 16 0 dX6_digest_79 rfl rfl (by decide) kX6_digest_6 rfl rfl ?_
    refine r_iconst (pc' := 83) X (0 : Int32) dX6_digest_82 (by decide) rfl ?_
    refine r_iconst (pc' := 84) X (5 : Int32) dX6_digest_83 (by decide) rfl ?_
    obtain ⟨r16, hc17, hF⟩ := g_bd hF
    refine r_callSF (pc' := 87) (ws' := [oX6 a_x a_h a_saved_ a_c a_r a_f a_o a_s latestRefusal, oX1 a_h words depth allocated collections freed a_owner a_fieldCount a_dataCount a_pinned a_age a_content a_roots a_weaks a_movedTo a_reports, oI a_owner cI 200 owner, oI a_fieldCount cI 200 fieldCount, oI a_dataCount cI 200 dataCount, oI a_pinned cI 200 pinned, oI a_age cI 200 age, oI a_content cI 200 content, oI a_roots cI 6 roots, oI a_weaks cI 4 weaks, oI a_reports cI 6 reports, oX3 a_r a_steps a_queue queued_9, oI a_steps cI 200 steps_10, oI a_queue cI 200 queue_11, oX4 a_f a_tallies, oI a_tallies cI 200 tallies_12, oX2 a_o a_numbers, oI a_numbers cI 5 numbers_14, oX5 a_s a_letters length_ a_kinds a_firsts a_seconds a_thirds commands faultIndex position, oI a_letters cI 80 letters]) (st' := [.long r16]) X (mX6_absorbRow D cI cZ cH a_numbers numbers_14 5 r8 (0 : Int32) (5 : Int32) r16 hc17) 4 gX6_digest_X6_absorbRow rfl (by decide +kernel) rfl rfl ⟨Nat.le_of_ble_eq_true rfl, Nat.le_of_ble_eq_true rfl⟩ ⟨Nat.le_of_ble_eq_true rfl, Nat.le_of_ble_eq_true rfl⟩ rfl (Nat.le_of_ble_eq_true rfl) dX6_digest_84 [17] rfl rfl rfl rfl rfl rfl ?_
    refine r_lstore_n (pc' := 88) (lv' := [(0, .ref a_x), (1, .long r16)]) X dX6_digest_87 rfl (by decide) [1, 0] rfl rfl ?_
    refine r_aload_n (pc' := 89) X dX6_digest_88 rfl 0 rfl rfl ?_
    refine r_get (pc' := 92) X uX6_digest_X6 0 0 dX6_digest_89 rfl rfl (by decide) kX6_digest_2 rfl rfl ?_
    refine r_get (pc' := 95) X uX6_digest_X1 1 3 dX6_digest_92 rfl rfl (by decide) kX6_digest_7 rfl rfl ?_
    obtain ⟨exJ19, hR, hF⟩ := g_bd hF
    have hJ19 : ∀ (v1_18 : Int64), v1_18 = exJ19 → G 0 0 [oX6 a_x a_h a_saved_ a_c a_r a_f a_o a_s latestRefusal, oX1 a_h words depth allocated collections freed a_owner a_fieldCount a_dataCount a_pinned a_age a_content a_roots a_weaks a_movedTo a_reports, oI a_owner cI 200 owner, oI a_fieldCount cI 200 fieldCount, oI a_dataCount cI 200 dataCount, oI a_pinned cI 200 pinned, oI a_age cI 200 age, oI a_content cI 200 content, oI a_roots cI 6 roots, oI a_weaks cI 4 weaks, oI a_reports cI 6 reports, oX3 a_r a_steps a_queue queued_9, oI a_steps cI 200 steps_10, oI a_queue cI 200 queue_11, oX4 a_f a_tallies, oI a_tallies cI 200 tallies_12, oX2 a_o a_numbers, oI a_numbers cI 5 numbers_14, oX5 a_s a_letters length_ a_kinds a_firsts a_seconds a_thirds commands faultIndex position, oI a_letters cI 80 letters] [(0, .ref a_x), (1, .long v1_18)] 113 [] := by
      intro v1_18 hx; subst hx
      refine r_lload_n (pc' := 114) X dX6_digest_113 rfl 1 rfl rfl ?_
      refine r_aload_n (pc' := 115) X dX6_digest_114 rfl 0 rfl rfl ?_
      refine r_get (pc' := 118) X uX6_digest_X6 0 6 dX6_digest_115 rfl rfl (by decide) kX6_digest_9 rfl rfl ?_
      refine r_get (pc' := 121) X uX6_digest_X5 18 0 dX6_digest_118 rfl rfl (by decide) kX6_digest_10 rfl rfl ?_
      refine r_iconst (pc' := 122) X (0 : Int32) dX6_digest_121 (by decide) rfl ?_
      refine r_aload_n (pc' := 123) X dX6_digest_122 rfl 0 rfl rfl ?_
      refine r_get (pc' := 126) X uX6_digest_X6 0 6 dX6_digest_123 rfl rfl (by decide) kX6_digest_9 rfl rfl ?_
      refine r_get (pc' := 129) X uX6_digest_X5 18 1 dX6_digest_126 rfl rfl (by decide) kX6_digest_11 rfl rfl ?_
      obtain ⟨r20, hc21, hF⟩ := g_bd hF
      refine r_callSF (pc' := 132) (ws' := [oX6 a_x a_h a_saved_ a_c a_r a_f a_o a_s latestRefusal, oX1 a_h words depth allocated collections freed a_owner a_fieldCount a_dataCount a_pinned a_age a_content a_roots a_weaks a_movedTo a_reports, oI a_owner cI 200 owner, oI a_fieldCount cI 200 fieldCount, oI a_dataCount cI 200 dataCount, oI a_pinned cI 200 pinned, oI a_age cI 200 age, oI a_content cI 200 content, oI a_roots cI 6 roots, oI a_weaks cI 4 weaks, oI a_reports cI 6 reports, oX3 a_r a_steps a_queue queued_9, oI a_steps cI 200 steps_10, oI a_queue cI 200 queue_11, oX4 a_f a_tallies, oI a_tallies cI 200 tallies_12, oX2 a_o a_numbers, oI a_numbers cI 5 numbers_14, oX5 a_s a_letters length_ a_kinds a_firsts a_seconds a_thirds commands faultIndex position, oI a_letters cI 80 letters]) (st' := [.long r20]) X (mX6_absorbRow D cI cZ cH a_letters letters 80 v1_18 (0 : Int32) length_ r20 hc21) 4 gX6_digest_X6_absorbRow rfl (by decide +kernel) rfl rfl ⟨Nat.le_of_ble_eq_true rfl, Nat.le_of_ble_eq_true rfl⟩ ⟨Nat.le_of_ble_eq_true rfl, Nat.le_of_ble_eq_true rfl⟩ rfl (Nat.le_of_ble_eq_true rfl) dX6_digest_129 [19] rfl rfl rfl rfl rfl rfl ?_
      cases hF
      exact RT.2.1 0 0 _ _ _ _ rfl dX6_digest_132 ⟨rfl, rfl⟩ (Nat.le_refl 0) (Nat.le_refl 0)
    replace hF := hR
    refine r_if_le (pc' := 98) X 113 dX6_digest_95 (by decide) rfl (fun c9 => ?_) (fun c9 => ?_)
    · replace hF := g_t c9 hF
      exact hJ19 r16 (Option.some.inj hF)
    · replace hF := g_f c9 hF
      refine r_lload_n (pc' := 99) X dX6_digest_98 rfl 1 rfl rfl ?_
      refine r_aload_n (pc' := 100) X dX6_digest_99 rfl 0 rfl rfl ?_
      refine r_get (pc' := 103) X uX6_digest_X6 0 0 dX6_digest_100 rfl rfl (by decide) kX6_digest_2 rfl rfl ?_
      refine r_get (pc' := 106) X uX6_digest_X1 1 14 dX6_digest_103 rfl rfl (by decide) kX6_digest_8 rfl rfl ?_
      refine r_iconst (pc' := 107) X (0 : Int32) dX6_digest_106 (by decide) rfl ?_
      refine r_bipush (pc' := 109) X (6 : Int32) dX6_digest_107 (by decide) rfl ?_
      obtain ⟨r22, hc23, hF⟩ := g_bd hF
      refine r_callSF (pc' := 112) (ws' := [oX6 a_x a_h a_saved_ a_c a_r a_f a_o a_s latestRefusal, oX1 a_h words depth allocated collections freed a_owner a_fieldCount a_dataCount a_pinned a_age a_content a_roots a_weaks a_movedTo a_reports, oI a_owner cI 200 owner, oI a_fieldCount cI 200 fieldCount, oI a_dataCount cI 200 dataCount, oI a_pinned cI 200 pinned, oI a_age cI 200 age, oI a_content cI 200 content, oI a_roots cI 6 roots, oI a_weaks cI 4 weaks, oI a_reports cI 6 reports, oX3 a_r a_steps a_queue queued_9, oI a_steps cI 200 steps_10, oI a_queue cI 200 queue_11, oX4 a_f a_tallies, oI a_tallies cI 200 tallies_12, oX2 a_o a_numbers, oI a_numbers cI 5 numbers_14, oX5 a_s a_letters length_ a_kinds a_firsts a_seconds a_thirds commands faultIndex position, oI a_letters cI 80 letters]) (st' := [.long r22]) X (mX6_absorbRow D cI cZ cH a_reports reports 6 r16 (0 : Int32) (6 : Int32) r22 hc23) 4 gX6_digest_X6_absorbRow rfl (by decide +kernel) rfl rfl ⟨Nat.le_of_ble_eq_true rfl, Nat.le_of_ble_eq_true rfl⟩ ⟨Nat.le_of_ble_eq_true rfl, Nat.le_of_ble_eq_true rfl⟩ rfl (Nat.le_of_ble_eq_true rfl) dX6_digest_109 [10] rfl rfl rfl rfl rfl rfl ?_
      refine r_lstore_n (pc' := 113) (lv' := [(0, .ref a_x), (1, .long r22)]) X dX6_digest_112 rfl (by decide) [1, 0] rfl rfl ?_
      exact hJ19 r22 (Option.some.inj hF)
  have hL6 : ∀ (fu : Nat) (v1_1 : Int64) (v3_2 : Int32), g_itn (FX6_digest_L6 words depth allocated collections freed owner pinned length_) fu (v1_1, v3_2) = some ex6 → G 0 0 [oX6 a_x a_h a_saved_ a_c a_r a_f a_o a_s latestRefusal, oX1 a_h words depth allocated collections freed a_owner a_fieldCount a_dataCount a_pinned a_age a_content a_roots a_weaks a_movedTo a_reports, oI a_owner cI 200 owner, oI a_fieldCount cI 200 fieldCount, oI a_dataCount cI 200 dataCount, oI a_pinned cI 200 pinned, oI a_age cI 200 age, oI a_content cI 200 content, oI a_roots cI 6 roots, oI a_weaks cI 4 weaks, oI a_reports cI 6 reports, oX3 a_r a_steps a_queue queued, oI a_steps cI 200 steps, oI a_queue cI 200 queue, oX4 a_f a_tallies, oI a_tallies cI 200 tallies, oX2 a_o a_numbers, oI a_numbers cI 5 numbers, oX5 a_s a_letters length_ a_kinds a_firsts a_seconds a_thirds commands faultIndex position, oI a_letters cI 80 letters] [(0, .ref a_x), (1, .long v1_1), (3, .int v3_2)] 6 [] := by
    intro fu
    induction fu with
    | zero => intro v1_1 v3_2 h9; exact (g_it0 h9).elim
    | succ fu ih =>
      intro v1_1 v3_2 h9
      obtain ⟨y6, hF, hI6⟩ := g_its h9
      unfold FX6_digest_L6 at hF
      refine r_iload_n (pc' := 7) X dX6_digest_6 rfl 2 rfl rfl ?_
      refine r_bipush (pc' := 9) X (8 : Int32) dX6_digest_7 (by decide) rfl ?_
      refine r_icmp_ge (pc' := 12) X 28 dX6_digest_9 (by decide) rfl (fun c9 => ?_) (fun c9 => ?_)
      · replace hF := g_t c9 hF
        cases hF
        refine r_sub (lv' := [(0, .ref a_x), (1, .long v1_1)]) X [0, 1] rfl ?_
        exact hE6 v1_1 hI6
      · replace hF := g_f c9 hF
        refine r_lload_n (pc' := 13) X dX6_digest_12 rfl 1 rfl rfl ?_
        refine r_aload_n (pc' := 14) X dX6_digest_13 rfl 0 rfl rfl ?_
        refine r_iload_n (pc' := 15) X dX6_digest_14 rfl 2 rfl rfl ?_
        obtain ⟨r24, hc25, hF⟩ := g_bd hF
        refine r_callVF (pc' := 18) (ws' := [oX6 a_x a_h a_saved_ a_c a_r a_f a_o a_s latestRefusal, oX1 a_h words depth allocated collections freed a_owner a_fieldCount a_dataCount a_pinned a_age a_content a_roots a_weaks a_movedTo a_reports, oI a_owner cI 200 owner, oI a_fieldCount cI 200 fieldCount, oI a_dataCount cI 200 dataCount, oI a_pinned cI 200 pinned, oI a_age cI 200 age, oI a_content cI 200 content, oI a_roots cI 6 roots, oI a_weaks cI 4 weaks, oI a_reports cI 6 reports, oX3 a_r a_steps a_queue queued, oI a_steps cI 200 steps, oI a_queue cI 200 queue, oX4 a_f a_tallies, oI a_tallies cI 200 tallies, oX2 a_o a_numbers, oI a_numbers cI 5 numbers, oX5 a_s a_letters length_ a_kinds a_firsts a_seconds a_thirds commands faultIndex position, oI a_letters cI 80 letters]) (st' := [.int r24, .long v1_1]) X (mX6_count D cI cZ cH a_x a_h a_owner a_pinned a_s a_saved_ a_c a_r a_f a_o a_fieldCount a_dataCount a_age a_content a_roots a_weaks a_movedTo a_reports a_letters a_kinds a_firsts a_seconds a_thirds latestRefusal words depth allocated collections freed owner pinned length_ commands faultIndex position v3_2 r24 hc25) 1 gX6_digest_X6_count rfl (by decide +kernel) rfl rfl ⟨Nat.le_of_ble_eq_true rfl, Nat.le_of_ble_eq_true rfl⟩ ⟨Nat.le_of_ble_eq_true rfl, Nat.le_of_ble_eq_true rfl⟩ rfl (Nat.le_of_ble_eq_true rfl) dX6_digest_15 0 rfl rfl [0, 1, 2, 5, 18] rfl rfl rfl rfl rfl rfl ?_
        obtain ⟨r26, hc27, hF⟩ := g_bd hF
        refine r_callSF (pc' := 21) (ws' := [oX6 a_x a_h a_saved_ a_c a_r a_f a_o a_s latestRefusal, oX1 a_h words depth allocated collections freed a_owner a_fieldCount a_dataCount a_pinned a_age a_content a_roots a_weaks a_movedTo a_reports, oI a_owner cI 200 owner, oI a_fieldCount cI 200 fieldCount, oI a_dataCount cI 200 dataCount, oI a_pinned cI 200 pinned, oI a_age cI 200 age, oI a_content cI 200 content, oI a_roots cI 6 roots, oI a_weaks cI 4 weaks, oI a_reports cI 6 reports, oX3 a_r a_steps a_queue queued, oI a_steps cI 200 steps, oI a_queue cI 200 queue, oX4 a_f a_tallies, oI a_tallies cI 200 tallies, oX2 a_o a_numbers, oI a_numbers cI 5 numbers, oX5 a_s a_letters length_ a_kinds a_firsts a_seconds a_thirds commands faultIndex position, oI a_letters cI 80 letters]) (st' := [.long r26]) X (mX6_absorb D cI cZ cH v1_1 r24 r26 hc27) 2 gX6_digest_X6_absorb rfl (by decide +kernel) rfl rfl ⟨Nat.le_of_ble_eq_true rfl, Nat.le_of_ble_eq_true rfl⟩ ⟨Nat.le_of_ble_eq_true rfl, Nat.le_of_ble_eq_true rfl⟩ rfl (Nat.le_of_ble_eq_true rfl) dX6_digest_18 [] rfl rfl rfl rfl rfl rfl ?_
        refine r_lstore_n (pc' := 22) (lv' := [(0, .ref a_x), (1, .long r26), (3, .int v3_2)]) X dX6_digest_21 rfl (by decide) [1, 0, 2] rfl rfl ?_
        refine r_iinc (pc' := 25) (lv' := [(0, .ref a_x), (1, .long r26), (3, .int (v3_2 + (1 : Int32)))]) X (v3_2 + (1 : Int32)) dX6_digest_22 2 rfl (congrArg (fun z => v3_2 + z) (by decide)) (by decide) [1, 2, 0] rfl rfl ?_
        refine r_goto X 6 dX6_digest_25 (by decide) ?_
        cases hF
        exact ih r26 (v3_2 + (1 : Int32)) hI6
  exact hL6 g_fuel (47 : Int64) (0 : Int32) hR
