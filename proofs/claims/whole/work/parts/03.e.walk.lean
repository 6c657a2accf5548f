set_option maxHeartbeats 4000000 in
set_option maxRecDepth 100000 in
theorem mX7_in (D : va_G) (cI cZ cH : ClassId) (p0 : Int32) (p1 : Int32) (p2 : Int32) (r0 : Int32) (hF : FX7_in p0 p1 p2 = some r0) : g_CM yX7_in wsX7_in ({ frames := 0, cells := 0, slots := 0, locals := 0 }) D cI cZ cH [.int p0, .int p1, .int p2] [] 0 0 (g_Tm (some (.int r0)) []) := by
  refine g_met (own := RX7) (mn := "in") (cc := cX7_in) (maxL := 3) (ret := (some .boolean)) rfl rfl (by decide +kernel) rfl (Nat.le_of_ble_eq_true rfl) (fun G X RT => ?_)
  show G 0 0 [] [(0, .int p0), (1, .int p1), (2, .int p2)] 0 []
  unfold FX7_in at hF
  refine r_iload_n (pc' := 1) X dX7_in_0 rfl 0 rfl rfl ?_
  refine r_iload_n (pc' := 2) X dX7_in_1 rfl 1 rfl rfl ?_
  refine r_icmp_lt (pc' := 5) X 14 dX7_in_2 (by decide) rfl (fun c9 => ?_) (fun c9 => ?_)
  · replace hF := g_t c9 hF
    refine r_iconst (pc' := 15) X (0 : Int32) dX7_in_14 (by decide) rfl ?_
    cases hF
    exact RT.1 0 0 _ _ _ _ .boolean rfl rfl dX7_in_15 ⟨rfl, rfl⟩ (Nat.le_refl 0) (Nat.le_refl 0)
  · replace hF := g_f c9 hF
    refine r_iload_n (pc' := 6) X dX7_in_5 rfl 0 rfl rfl ?_
    refine r_iload_n (pc' := 7) X dX7_in_6 rfl 2 rfl rfl ?_
    refine r_icmp_gt (pc' := 10) X 14 dX7_in_7 (by decide) rfl (fun c9 => ?_) (fun c9 => ?_)
    · replace hF := g_t c9 hF
      refine r_iconst (pc' := 15) X (0 : Int32) dX7_in_14 (by decide) rfl ?_
      cases hF
      exact RT.1 0 0 _ _ _ _ .boolean rfl rfl dX7_in_15 ⟨rfl, rfl⟩ (Nat.le_refl 0) (Nat.le_refl 0)
    · replace hF := g_f c9 hF
      refine r_iconst (pc' := 11) X (1 : Int32) dX7_in_10 (by decide) rfl ?_
      refine r_goto X 15 dX7_in_11 (by decide) ?_
      cases hF
      exact RT.1 0 0 _ _ _ _ .boolean rfl rfl dX7_in_15 ⟨rfl, rfl⟩ (Nat.le_refl 0) (Nat.le_refl 0)
theorem kX7_begins_1 : Cond.fieldLink RX7 7 "IslandHeapModel" "m" "[I" ∈ wsX7_begins := List.mem_of_getElem? (i := 1) (by decide +kernel)
theorem uX7_begins_X7 : ∀ w ∈ u_ws RX7 TX7 18, w ∈ wsX7_begins := by decide +kernel
set_option maxHeartbeats 4000000 in
set_option maxRecDepth 100000 in
theorem mX7_begins (D : va_G) (cI cZ cH : ClassId) (a_z : Nat) (a_mm : Nat) (a_old : Nat) (a_saved_ : Nat) (a_isSaved : Nat) (a_text : Nat) (a_far : Nat) (a_marked : Nat) (a_stack : Nat) (a_command : Nat) (textLength : Int32) (refused : Int32) (top : Int32) (highest : Int32) (overflowed : Int32) (commands : Int32) (at_ : Int32) (fault_ : Int32) (hash : Int64) (mm : Nat → Int32) (p1 : Int32) (p2 : Int32) (w_mm : Nat → Int32) (hF : FX7_begins mm p1 p2 = some w_mm) : g_CM yX7_begins wsX7_begins ({ frames := 0, cells := 0, slots := 0, locals := 0 }) D cI cZ cH [.ref a_z, .int p1, .int p2] [oX7 a_z a_mm a_old a_saved_ a_isSaved a_text textLength refused a_far a_marked a_stack top highest overflowed a_command commands at_ fault_ hash, oI a_mm cI 1222 mm] 0 0 (g_Tm (none) [oX7 a_z a_mm a_old a_saved_ a_isSaved a_text textLength refused a_far a_marked a_stack top highest overflowed a_command commands at_ fault_ hash, oI a_mm cI 1222 w_mm]) := by
  refine g_met (own := RX7) (mn := "begins") (cc := cX7_begins) (maxL := 4) (ret := none) rfl rfl (by decide +kernel) rfl (Nat.le_of_ble_eq_true rfl) (fun G X RT => ?_)
  show G 0 0 [oX7 a_z a_mm a_old a_saved_ a_isSaved a_text textLength refused a_far a_marked a_stack top highest overflowed a_command commands at_ fault_ hash, oI a_mm cI 1222 mm] [(0, .ref a_z), (1, .int p1), (2, .int p2)] 0 []
  unfold FX7_begins at hF
  refine r_iconst (pc' := 1) X (0 : Int32) dX7_begins_0 (by decide) rfl ?_
  refine r_istore_n (pc' := 2) (lv' := [(0, .ref a_z), (1, .int p1), (2, .int p2), (3, .int (0 : Int32))]) X dX7_begins_1 rfl (by decide) [1, 2, 3, 0] rfl rfl ?_
  obtain ⟨ex2, hR, hF⟩ := g_bd hF
  have hE2 : ∀ (mm_3 : Nat → Int32), mm_3 = ex2 → G 0 0 [oX7 a_z a_mm a_old a_saved_ a_isSaved a_text textLength refused a_far a_marked a_stack top highest overflowed a_command commands at_ fault_ hash, oI a_mm cI 1222 mm_3] [(0, .ref a_z), (1, .int p1), (2, .int p2)] 40 [] := by
    intro mm_3 hx; subst hx
    refine r_aload_n (pc' := 41) X dX7_begins_40 rfl 0 rfl rfl ?_
    refine r_get (pc' := 44) X uX7_begins_X7 0 0 dX7_begins_41 rfl rfl (by decide) kX7_begins_1 rfl rfl ?_
    refine r_sipush (pc' := 47) X (1216 : Int32) dX7_begins_44 (by decide) rfl ?_
    refine r_iload_n (pc' := 48) X dX7_begins_47 rfl 1 rfl rfl ?_
    refine r_iastK (pc' := 49) (j := 1216) (ws' := [oX7 a_z a_mm a_old a_saved_ a_isSaved a_text textLength refused a_far a_marked a_stack top highest overflowed a_command commands at_ fault_ hash, oI a_mm cI 1222 (upd mm_3 1216 p1)]) X 1 dX7_begins_48 rfl (by decide +kernel) (by decide +kernel) rfl rfl ?_
    refine r_aload_n (pc' := 50) X dX7_begins_49 rfl 0 rfl rfl ?_
    refine r_get (pc' := 53) X uX7_begins_X7 0 0 dX7_begins_50 rfl rfl (by decide) kX7_begins_1 rfl rfl ?_
    refine r_sipush (pc' := 56) X (1217 : Int32) dX7_begins_53 (by decide) rfl ?_
    refine r_iload_n (pc' := 57) X dX7_begins_56 rfl 2 rfl rfl ?_
    refine r_iastK (pc' := 58) (j := 1217) (ws' := [oX7 a_z a_mm a_old a_saved_ a_isSaved a_text textLength refused a_far a_marked a_stack top highest overflowed a_command commands at_ fault_ hash, oI a_mm cI 1222 (upd (upd mm_3 1216 p1) 1217 p2)]) X 1 dX7_begins_57 rfl (by decide +kernel) (by decide +kernel) rfl rfl ?_
    cases hF
    exact RT.2.2 0 0 _ _ _ rfl dX7_begins_58 ⟨rfl, rfl⟩ (Nat.le_refl 0) (Nat.le_refl 0)
  have hL2 : ∀ (fu : Nat) (v3_1 : Int32) (mm_2 : Nat → Int32), g_itn (FX7_begins_L2) fu (v3_1, mm_2) = some ex2 → G 0 0 [oX7 a_z a_mm a_old a_saved_ a_isSaved a_text textLength refused a_far a_marked a_stack top highest overflowed a_command commands at_ fault_ hash, oI a_mm cI 1222 mm_2] [(0, .ref a_z), (1, .int p1), (2, .int p2), (3, .int v3_1)] 2 [] := by
    intro fu
    induction fu with
    | zero => intro v3_1 mm_2 h9; exact (g_it0 h9).elim
    | succ fu ih =>
      intro v3_1 mm_2 h9
      obtain ⟨y2, hF, hI2⟩ := g_its h9
      unfold FX7_begins_L2 at hF
      refine r_iload_n (pc' := 3) X dX7_begins_2 rfl 3 rfl rfl ?_
      refine r_sipush (pc' := 6) X (1222 : Int32) dX7_begins_3 (by decide) rfl ?_
      refine r_icmp_ge (pc' := 9) X 40 dX7_begins_6 (by decide) rfl (fun c9 => ?_) (fun c9 => ?_)
      · replace hF := g_t c9 hF
        cases hF
        refine r_sub (lv' := [(0, .ref a_z), (1, .int p1), (2, .int p2)]) X [0, 1, 2] rfl ?_
        exact hE2 mm_2 hI2
      · replace hF := g_f c9 hF
        refine r_aload_n (pc' := 10) X dX7_begins_9 rfl 0 rfl rfl ?_
        refine r_get (pc' := 13) X uX7_begins_X7 0 0 dX7_begins_10 rfl rfl (by decide) kX7_begins_1 rfl rfl ?_
        refine r_iload_n (pc' := 14) X dX7_begins_13 rfl 3 rfl rfl ?_
        refine r_iload_n (pc' := 15) X dX7_begins_14 rfl 3 rfl rfl ?_
        refine r_sipush (pc' := 18) X (1200 : Int32) dX7_begins_15 (by decide) rfl ?_
        obtain ⟨exJ5, hR, hF⟩ := g_bd hF
        have hJ5 : ∀ (t4 : Int32), t4 = exJ5 → G 0 0 [oX7 a_z a_mm a_old a_saved_ a_isSaved a_text textLength refused a_far a_marked a_stack top highest overflowed a_command commands at_ fault_ hash, oI a_mm cI 1222 mm_2] [(0, .ref a_z), (1, .int p1), (2, .int p2), (3, .int v3_1)] 33 [.int t4, .int v3_1, .ref a_mm] := by
          intro t4 hx; subst hx
          obtain ⟨hi6, hF⟩ := g_gt hF
          refine r_iast (pc' := 34) (ws' := [oX7 a_z a_mm a_old a_saved_ a_isSaved a_text textLength refused a_far a_marked a_stack top highest overflowed a_command commands at_ fault_ hash, oI a_mm cI 1222 (upd mm_2 v3_1.toNatClampNeg t4)]) X 1 dX7_begins_33 rfl (g_vi hi6) rfl rfl ?_
          refine r_iinc (pc' := 37) (lv' := [(0, .ref a_z), (1, .int p1), (2, .int p2), (3, .int (v3_1 + (1 : Int32)))]) X (v3_1 + (1 : Int32)) dX7_begins_34 3 rfl (congrArg (fun z => v3_1 + z) (by decide)) (by decide) [1, 2, 3, 0] rfl rfl ?_
          refine r_goto X 2 dX7_begins_37 (by decide) ?_
          cases hF
          exact ih (v3_1 + (1 : Int32)) (upd mm_2 v3_1.toNatClampNeg t4) hI2
        replace hF := hR
        refine r_icmp_lt (pc' := 21) X 32 dX7_begins_18 (by decide) rfl (fun c9 => ?_) (fun c9 => ?_)
        · replace hF := g_t c9 hF
          refine r_iconst (pc' := 33) X (0 : Int32) dX7_begins_32 (by decide) rfl ?_
          exact hJ5 (0 : Int32) (Option.some.inj hF)
        · replace hF := g_f c9 hF
          refine r_iload_n (pc' := 22) X dX7_begins_21 rfl 3 rfl rfl ?_
          refine r_sipush (pc' := 25) X (1210 : Int32) dX7_begins_22 (by decide) rfl ?_
          refine r_icmp_ge (pc' := 28) X 32 dX7_begins_25 (by decide) rfl (fun c9 => ?_) (fun c9 => ?_)
          · replace hF := g_t c9 hF
            refine r_iconst (pc' := 33) X (0 : Int32) dX7_begins_32 (by decide) rfl ?_
            exact hJ5 (0 : Int32) (Option.some.inj hF)
          · replace hF := g_f c9 hF
            refine r_iconst (pc' := 29) X (-1 : Int32) dX7_begins_28 (by decide) rfl ?_
            refine r_goto X 33 dX7_begins_29 (by decide) ?_
            exact hJ5 (-1 : Int32) (Option.some.inj hF)
  exact hL2 g_fuel (0 : Int32) mm hR
theorem kX7_reset_1 : Cond.constant RX7 50 (-1000002) ∈ wsX7_reset := List.mem_of_getElem? (i := 1) (by decide +kernel)
set_option maxHeartbeats 4000000 in
set_option maxRecDepth 100000 in
theorem mX7_reset (D : va_G) (cI cZ cH : ClassId) (a_z : Nat) (a_mm : Nat) (a_old : Nat) (a_saved_ : Nat) (a_isSaved : Nat) (a_text : Nat) (a_far : Nat) (a_marked : Nat) (a_stack : Nat) (a_command : Nat) (textLength : Int32) (refused : Int32) (top : Int32) (highest : Int32) (overflowed : Int32) (commands : Int32) (at_ : Int32) (fault_ : Int32) (hash : Int64) (mm : Nat → Int32) (p1 : Int32) (p2 : Int32) (r0 : Int32) (w_mm : Nat → Int32) (hF : FX7_reset mm p1 p2 = some (r0, w_mm)) : g_CM yX7_reset wsX7_reset ({ frames := 1, cells := 0, slots := 0, locals := 23 }) D cI cZ cH [.ref a_z, .int p1, .int p2] [oX7 a_z a_mm a_old a_saved_ a_isSaved a_text textLength refused a_far a_marked a_stack top highest overflowed a_command commands at_ fault_ hash, oI a_mm cI 1222 mm] 0 0 (g_Tm (some (.int r0)) [oX7 a_z a_mm a_old a_saved_ a_isSaved a_text textLength refused a_far a_marked a_stack top highest overflowed a_command commands at_ fault_ hash, oI a_mm cI 1222 w_mm]) := by
  refine g_met (own := RX7) (mn := "reset") (cc := cX7_reset) (maxL := 3) (ret := (some .int)) rfl rfl (by decide +kernel) rfl (Nat.le_of_ble_eq_true rfl) (fun G X RT => ?_)
  show G 0 0 [oX7 a_z a_mm a_old a_saved_ a_isSaved a_text textLength refused a_far a_marked a_stack top highest overflowed a_command commands at_ fault_ hash, oI a_mm cI 1222 mm] [(0, .ref a_z), (1, .int p1), (2, .int p2)] 0 []
  unfold FX7_reset at hF
  refine r_iload_n (pc' := 1) X dX7_reset_0 rfl 1 rfl rfl ?_
  refine r_bipush (pc' := 3) X (8 : Int32) dX7_reset_1 (by decide) rfl ?_
  refine r_sipush (pc' := 6) X (200 : Int32) dX7_reset_3 (by decide) rfl ?_
  obtain ⟨r1, hc2, hF⟩ := g_bd hF
  refine r_callSF (pc' := 9) (ws' := [oX7 a_z a_mm a_old a_saved_ a_isSaved a_text textLength refused a_far a_marked a_stack top highest overflowed a_command commands at_ fault_ hash, oI a_mm cI 1222 mm]) (st' := [.int r1]) X (mX7_in D cI cZ cH p1 (8 : Int32) (200 : Int32) r1 hc2) 3 gX7_reset_X7_in rfl (by decide +kernel) rfl rfl ⟨Nat.le_of_ble_eq_true rfl, Nat.le_of_ble_eq_true rfl⟩ ⟨Nat.le_of_ble_eq_true rfl, Nat.le_of_ble_eq_true rfl⟩ rfl (Nat.le_of_ble_eq_true rfl) dX7_reset_6 [] rfl rfl rfl rfl rfl rfl ?_
  refine r_if_eq (pc' := 12) X 22 dX7_reset_9 (by decide) rfl (fun c9 => ?_) (fun c9 => ?_)
  · replace hF := g_t c9 hF
    refine r_ldc (pc' := 24) X dX7_reset_22 kX7_reset_1 rfl ?_
    cases hF
    exact RT.1 0 0 _ _ _ _ .int rfl rfl dX7_reset_24 ⟨rfl, rfl⟩ (Nat.le_refl 0) (Nat.le_refl 0)
  · replace hF := g_f c9 hF
    refine r_iload_n (pc' := 13) X dX7_reset_12 rfl 2 rfl rfl ?_
    refine r_iconst (pc' := 14) X (1 : Int32) dX7_reset_13 (by decide) rfl ?_
    refine r_bipush (pc' := 16) X (20 : Int32) dX7_reset_14 (by decide) rfl ?_
    obtain ⟨r3, hc4, hF⟩ := g_bd hF
    refine r_callSF (pc' := 19) (ws' := [oX7 a_z a_mm a_old a_saved_ a_isSaved a_text textLength refused a_far a_marked a_stack top highest overflowed a_command commands at_ fault_ hash, oI a_mm cI 1222 mm]) (st' := [.int r3]) X (mX7_in D cI cZ cH p2 (1 : Int32) (20 : Int32) r3 hc4) 3 gX7_reset_X7_in rfl (by decide +kernel) rfl rfl ⟨Nat.le_of_ble_eq_true rfl, Nat.le_of_ble_eq_true rfl⟩ ⟨Nat.le_of_ble_eq_true rfl, Nat.le_of_ble_eq_true rfl⟩ rfl (Nat.le_of_ble_eq_true rfl) dX7_reset_16 [] rfl rfl rfl rfl rfl rfl ?_
    refine r_if_ne (pc' := 22) X 25 dX7_reset_19 (by decide) rfl (fun c9 => ?_) (fun c9 => ?_)
    · replace hF := g_f c9 hF
      refine r_aload_n (pc' := 26) X dX7_reset_25 rfl 0 rfl rfl ?_
      refine r_iload_n (pc' := 27) X dX7_reset_26 rfl 1 rfl rfl ?_
      refine r_iload_n (pc' := 28) X dX7_reset_27 rfl 2 rfl rfl ?_
      obtain ⟨mm_5, hc6, hF⟩ := g_bd hF
      refine r_callVF (pc' := 31) (ws' := [oX7 a_z a_mm a_old a_saved_ a_isSaved a_text textLength refused a_far a_marked a_stack top highest overflowed a_command commands at_ fault_ hash, oI a_mm cI 1222 mm_5]) (st' := []) X (mX7_begins D cI cZ cH a_z a_mm a_old a_saved_ a_isSaved a_text a_far a_marked a_stack a_command textLength refused top highest overflowed commands at_ fault_ hash mm p1 p2 mm_5 hc6) 2 gX7_reset_X7_begins rfl (by decide +kernel) rfl rfl ⟨Nat.le_of_ble_eq_true rfl, Nat.le_of_ble_eq_true rfl⟩ ⟨Nat.le_of_ble_eq_true rfl, Nat.le_of_ble_eq_true rfl⟩ rfl (Nat.le_of_ble_eq_true rfl) dX7_reset_28 0 rfl rfl [0, 1] rfl rfl rfl rfl rfl rfl ?_
      refine r_iload_n (pc' := 32) X dX7_reset_31 rfl 1 rfl rfl ?_
      cases hF
      exact RT.1 0 0 _ _ _ _ .int rfl rfl dX7_reset_32 ⟨rfl, rfl⟩ (Nat.le_refl 0) (Nat.le_refl 0)
    · replace hF := g_t c9 hF
      refine r_ldc (pc' := 24) X dX7_reset_22 kX7_reset_1 rfl ?_
      cases hF
      exact RT.1 0 0 _ _ _ _ .int rfl rfl dX7_reset_24 ⟨rfl, rfl⟩ (Nat.le_refl 0) (Nat.le_refl 0)
theorem kX7_objectOf_1 : Cond.fieldLink RX7 7 "IslandHeapModel" "m" "[I" ∈ wsX7_objectOf := List.mem_of_getElem? (i := 1) (by decide +kernel)
theorem uX7_objectOf_X7 : ∀ w ∈ u_ws RX7 TX7 18, w ∈ wsX7_objectOf := by decide +kernel
set_option maxHeartbeats 4000000 in
set_option maxRecDepth 100000 in
theorem mX7_objectOf (D : va_G) (cI cZ cH : ClassId) (a_z : Nat) (a_mm : Nat) (a_old : Nat) (a_saved_ : Nat) (a_isSaved : Nat) (a_text : Nat) (a_far : Nat) (a_marked : Nat) (a_stack : Nat) (a_command : Nat) (textLength : Int32) (refused : Int32) (top : Int32) (highest : Int32) (overflowed : Int32) (commands : Int32) (at_ : Int32) (fault_ : Int32) (hash : Int64) (mm : Nat → Int32) (p1 : Int32) (r0 : Int32) (hF : FX7_objectOf mm p1 = some r0) : g_CM yX7_objectOf wsX7_objectOf ({ frames := 1, cells := 0, slots := 0, locals := 22 }) D cI cZ cH [.ref a_z, .int p1] [oX7 a_z a_mm a_old a_saved_ a_isSaved a_text textLength refused a_far a_marked a_stack top highest overflowed a_command commands at_ fault_ hash, oI a_mm cI 1222 mm] 0 0 (g_Tm (some (.int r0)) [oX7 a_z a_mm a_old a_saved_ a_isSaved a_text textLength refused a_far a_marked a_stack top highest overflowed a_command commands at_ fault_ hash, oI a_mm cI 1222 mm]) := by
  refine g_met (own := RX7) (mn := "objectOf") (cc := cX7_objectOf) (maxL := 3) (ret := (some .int)) rfl rfl (by decide +kernel) rfl (Nat.le_of_ble_eq_true rfl) (fun G X RT => ?_)
  show G 0 0 [oX7 a_z a_mm a_old a_saved_ a_isSaved a_text textLength refused a_far a_marked a_stack top highest overflowed a_command commands at_ fault_ hash, oI a_mm cI 1222 mm] [(0, .ref a_z), (1, .int p1)] 0 []
  unfold FX7_objectOf at hF
  refine r_iload_n (pc' := 1) X dX7_objectOf_0 rfl 1 rfl rfl ?_
  refine r_iconst (pc' := 2) X (0 : Int32) dX7_objectOf_1 (by decide) rfl ?_
  refine r_aload_n (pc' := 3) X dX7_objectOf_2 rfl 0 rfl rfl ?_
  refine r_get (pc' := 6) X uX7_objectOf_X7 0 0 dX7_objectOf_3 rfl rfl (by decide) kX7_objectOf_1 rfl rfl ?_
  refine r_sipush (pc' := 9) X (1216 : Int32) dX7_objectOf_6 (by decide) rfl ?_
  refine r_ialdK (pc' := 10) (j := 1216) X 1 dX7_objectOf_9 rfl (by decide +kernel) (by decide +kernel) rfl ?_
  refine r_iconst (pc' := 11) X (1 : Int32) dX7_objectOf_10 (by decide) rfl ?_
  refine r_isub (pc' := 12) X dX7_objectOf_11 rfl ?_
  obtain ⟨r1, hc2, hF⟩ := g_bd hF
  refine r_callSF (pc' := 15) (ws' := [oX7 a_z a_mm a_old a_saved_ a_isSaved a_text textLength refused a_far a_marked a_stack top highest overflowed a_command commands at_ fault_ hash, oI a_mm cI 1222 mm]) (st' := [.int r1]) X (mX7_in D cI cZ cH p1 (0 : Int32) ((mm 1216) - (1 : Int32)) r1 hc2) 3 gX7_objectOf_X7_in rfl (by decide +kernel) rfl rfl ⟨Nat.le_of_ble_eq_true rfl, Nat.le_of_ble_eq_true rfl⟩ ⟨Nat.le_of_ble_eq_true rfl, Nat.le_of_ble_eq_true rfl⟩ rfl (Nat.le_of_ble_eq_true rfl) dX7_objectOf_12 [] rfl rfl rfl rfl rfl rfl ?_
  refine r_if_ne (pc' := 18) X 20 dX7_objectOf_15 (by decide) rfl (fun c9 => ?_) (fun c9 => ?_)
  · replace hF := g_f c9 hF
    refine r_iload_n (pc' := 21) X dX7_objectOf_20 rfl 1 rfl rfl ?_
    refine r_istore_n (pc' := 22) (lv' := [(0, .ref a_z), (1, .int p1), (2, .int p1)]) X dX7_objectOf_21 rfl (by decide) [1, 2, 0] rfl rfl ?_
    obtain ⟨ex22, hR, hF⟩ := g_bd hF
    have hE22 : ∀ (v2_4 : Int32), v2_4 = ex22 → G 0 0 [oX7 a_z a_mm a_old a_saved_ a_isSaved a_text textLength refused a_far a_marked a_stack top highest overflowed a_command commands at_ fault_ hash, oI a_mm cI 1222 mm] [(0, .ref a_z), (1, .int p1), (2, .int v2_4)] 43 [] := by
      intro v2_4 hx; subst hx
      refine r_iload_n (pc' := 44) X dX7_objectOf_43 rfl 2 rfl rfl ?_
      refine r_if_lt (pc' := 47) X 65 dX7_objectOf_44 (by decide) rfl (fun c9 => ?_) (fun c9 => ?_)
      · replace hF := g_t c9 hF
        refine r_iconst (pc' := 66) X (-1 : Int32) dX7_objectOf_65 (by decide) rfl ?_
        cases hF
        exact RT.1 0 0 _ _ _ _ .int rfl rfl dX7_objectOf_66 ⟨rfl, rfl⟩ (Nat.le_refl 0) (Nat.le_refl 0)
      · replace hF := g_f c9 hF
        refine r_iload_n (pc' := 48) X dX7_objectOf_47 rfl 2 rfl rfl ?_
        refine r_aload_n (pc' := 49) X dX7_objectOf_48 rfl 0 rfl rfl ?_
        refine r_get (pc' := 52) X uX7_objectOf_X7 0 0 dX7_objectOf_49 rfl rfl (by decide) kX7_objectOf_1 rfl rfl ?_
        refine r_iconst (pc' := 53) X (0 : Int32) dX7_objectOf_52 (by decide) rfl ?_
        refine r_iload_n (pc' := 54) X dX7_objectOf_53 rfl 2 rfl rfl ?_
        refine r_iadd (pc' := 55) X dX7_objectOf_54 rfl ?_
        obtain ⟨hi5, hF⟩ := g_gt hF
        refine r_iald (pc' := 56) X 1 dX7_objectOf_55 rfl (g_vi hi5) rfl ?_
        refine r_iadd (pc' := 57) X dX7_objectOf_56 rfl ?_
        refine r_iload_n (pc' := 58) X dX7_objectOf_57 rfl 1 rfl rfl ?_
        refine r_icmp_le (pc' := 61) X 65 dX7_objectOf_58 (by decide) rfl (fun c9 => ?_) (fun c9 => ?_)
        · replace hF := g_t c9 hF
          refine r_iconst (pc' := 66) X (-1 : Int32) dX7_objectOf_65 (by decide) rfl ?_
          cases hF
          exact RT.1 0 0 _ _ _ _ .int rfl rfl dX7_objectOf_66 ⟨rfl, rfl⟩ (Nat.le_refl 0) (Nat.le_refl 0)
        · replace hF := g_f c9 hF
          refine r_iload_n (pc' := 62) X dX7_objectOf_61 rfl 2 rfl rfl ?_
          refine r_goto X 66 dX7_objectOf_62 (by decide) ?_
          cases hF
          exact RT.1 0 0 _ _ _ _ .int rfl rfl dX7_objectOf_66 ⟨rfl, rfl⟩ (Nat.le_refl 0) (Nat.le_refl 0)
    have hL22 : ∀ (fu : Nat) (v2_3 : Int32), g_itn (FX7_objectOf_L22 mm) fu v2_3 = some ex22 → G 0 0 [oX7 a_z a_mm a_old a_saved_ a_isSaved a_text textLength refused a_far a_marked a_stack top highest overflowed a_command commands at_ fault_ hash, oI a_mm cI 1222 mm] [(0, .ref a_z), (1, .int p1), (2, .int v2_3)] 22 [] := by
      intro fu
      induction fu with
      | zero => intro v2_3 h9; exact (g_it0 h9).elim
      | succ fu ih =>
        intro v2_3 h9
        obtain ⟨y22, hF, hI22⟩ := g_its h9
        unfold FX7_objectOf_L22 at hF
        refine r_iload_n (pc' := 23) X dX7_objectOf_22 rfl 2 rfl rfl ?_
        refine r_if_lt (pc' := 26) X 43 dX7_objectOf_23 (by decide) rfl (fun c9 => ?_) (fun c9 => ?_)
        · replace hF := g_t c9 hF
          cases hF
          exact hE22 v2_3 hI22
        · replace hF := g_f c9 hF
          refine r_aload_n (pc' := 27) X dX7_objectOf_26 rfl 0 rfl rfl ?_
          refine r_get (pc' := 30) X uX7_objectOf_X7 0 0 dX7_objectOf_27 rfl rfl (by decide) kX7_objectOf_1 rfl rfl ?_
          refine r_iconst (pc' := 31) X (0 : Int32) dX7_objectOf_30 (by decide) rfl ?_
          refine r_iload_n (pc' := 32) X dX7_objectOf_31 rfl 2 rfl rfl ?_
          refine r_iadd (pc' := 33) X dX7_objectOf_32 rfl ?_
          obtain ⟨hi6, hF⟩ := g_gt hF
          refine r_iald (pc' := 34) X 1 dX7_objectOf_33 rfl (g_vi hi6) rfl ?_
          refine r_if_ne (pc' := 37) X 43 dX7_objectOf_34 (by decide) rfl (fun c9 => ?_) (fun c9 => ?_)
          · replace hF := g_f c9 hF
            cases hF
            exact hE22 v2_3 hI22
          · replace hF := g_t c9 hF
            refine r_iinc (pc' := 40) (lv' := [(0, .ref a_z), (1, .int p1), (2, .int (v2_3 + (-1 : Int32)))]) X (v2_3 + (-1 : Int32)) dX7_objectOf_37 2 rfl (congrArg (fun z => v2_3 + z) (by decide)) (by decide) [1, 2, 0] rfl rfl ?_
            refine r_goto X 22 dX7_objectOf_40 (by decide) ?_
            cases hF
            exact ih (v2_3 + (-1 : Int32)) hI22
    exact hL22 g_fuel p1 hR
  · replace hF := g_t c9 hF
    refine r_iconst (pc' := 19) X (-1 : Int32) dX7_objectOf_18 (by decide) rfl ?_
    cases hF
    exact RT.1 0 0 _ _ _ _ .int rfl rfl dX7_objectOf_19 ⟨rfl, rfl⟩ (Nat.le_refl 0) (Nat.le_refl 0)
set_option maxHeartbeats 4000000 in
set_option maxRecDepth 100000 in
theorem mX7_isReference (D : va_G) (cI cZ cH : ClassId) (a_z : Nat) (a_mm : Nat) (a_old : Nat) (a_saved_ : Nat) (a_isSaved : Nat) (a_text : Nat) (a_far : Nat) (a_marked : Nat) (a_stack : Nat) (a_command : Nat) (textLength : Int32) (refused : Int32) (top : Int32) (highest : Int32) (overflowed : Int32) (commands : Int32) (at_ : Int32) (fault_ : Int32) (hash : Int64) (mm : Nat → Int32) (p1 : Int32) (r0 : Int32) (hF : FX7_isReference mm p1 = some r0) : g_CM yX7_isReference wsX7_isReference ({ frames := 2, cells := 0, slots := 0, locals := 44 }) D cI cZ cH [.ref a_z, .int p1] [oX7 a_z a_mm a_old a_saved_ a_isSaved a_text textLength refused a_far a_marked a_stack top highest overflowed a_command commands at_ fault_ hash, oI a_mm cI 1222 mm] 0 0 (g_Tm (some (.int r0)) [oX7 a_z a_mm a_old a_saved_ a_isSaved a_text textLength refused a_far a_marked a_stack top highest overflowed a_command commands at_ fault_ hash, oI a_mm cI 1222 mm]) := by
  refine g_met (own := RX7) (mn := "isReference") (cc := cX7_isReference) (maxL := 2) (ret := (some .boolean)) rfl rfl (by decide +kernel) rfl (Nat.le_of_ble_eq_true rfl) (fun G X RT => ?_)
  show G 0 0 [oX7 a_z a_mm a_old a_saved_ a_isSaved a_text textLength refused a_far a_marked a_stack top highest overflowed a_command commands at_ fault_ hash, oI a_mm cI 1222 mm] [(0, .ref a_z), (1, .int p1)] 0 []
  unfold FX7_isReference at hF
  refine r_iload_n (pc' := 1) X dX7_isReference_0 rfl 1 rfl rfl ?_
  refine r_iconst (pc' := 2) X (-1 : Int32) dX7_isReference_1 (by decide) rfl ?_
  refine r_icmp_eq (pc' := 5) X 14 dX7_isReference_2 (by decide) rfl (fun c9 => ?_) (fun c9 => ?_)
  · replace hF := g_t c9 hF
    refine r_iconst (pc' := 15) X (1 : Int32) dX7_isReference_14 (by decide) rfl ?_
    refine r_goto X 19 dX7_isReference_15 (by decide) ?_
    cases hF
    exact RT.1 0 0 _ _ _ _ .boolean rfl rfl dX7_isReference_19 ⟨rfl, rfl⟩ (Nat.le_refl 0) (Nat.le_refl 0)
  · replace hF := g_f c9 hF
    refine r_aload_n (pc' := 6) X dX7_isReference_5 rfl 0 rfl rfl ?_
    refine r_iload_n (pc' := 7) X dX7_isReference_6 rfl 1 rfl rfl ?_
    obtain ⟨r1, hc2, hF⟩ := g_bd hF
    refine r_callVF (pc' := 10) (ws' := [oX7 a_z a_mm a_old a_saved_ a_isSaved a_text textLength refused a_far a_marked a_stack top highest overflowed a_command commands at_ fault_ hash, oI a_mm cI 1222 mm]) (st' := [.int r1]) X (mX7_objectOf D cI cZ cH a_z a_mm a_old a_saved_ a_isSaved a_text a_far a_marked a_stack a_command textLength refused top highest overflowed commands at_ fault_ hash mm p1 r1 hc2) 1 gX7_isReference_X7_objectOf rfl (by decide +kernel) rfl rfl ⟨Nat.le_of_ble_eq_true rfl, Nat.le_of_ble_eq_true rfl⟩ ⟨Nat.le_of_ble_eq_true rfl, Nat.le_of_ble_eq_true rfl⟩ rfl (Nat.le_of_ble_eq_true rfl) dX7_isReference_7 0 rfl rfl [0, 1] rfl rfl rfl rfl rfl rfl ?_
    refine r_iconst (pc' := 11) X (-1 : Int32) dX7_isReference_10 (by decide) rfl ?_
    refine r_icmp_eq (pc' := 14) X 18 dX7_isReference_11 (by decide) rfl (fun c9 => ?_) (fun c9 => ?_)
    · replace hF := g_t c9 hF
      refine r_iconst (pc' := 19) X (0 : Int32) dX7_isReference_18 (by decide) rfl ?_
      cases hF
      exact RT.1 0 0 _ _ _ _ .boolean rfl rfl dX7_isReference_19 ⟨rfl, rfl⟩ (Nat.le_refl 0) (Nat.le_refl 0)
    · replace hF := g_f c9 hF
      refine r_iconst (pc' := 15) X (1 : Int32) dX7_isReference_14 (by decide) rfl ?_
      refine r_goto X 19 dX7_isReference_15 (by decide) ?_
      cases hF
      exact RT.1 0 0 _ _ _ _ .boolean rfl rfl dX7_isReference_19 ⟨rfl, rfl⟩ (Nat.le_refl 0) (Nat.le_refl 0)
theorem kX7_dataOf_1 : Cond.fieldLink RX7 7 "IslandHeapModel" "m" "[I" ∈ wsX7_dataOf := List.mem_of_getElem? (i := 1) (by decide +kernel)
theorem uX7_dataOf_X7 : ∀ w ∈ u_ws RX7 TX7 18, w ∈ wsX7_dataOf := by decide +kernel
set_option maxHeartbeats 4000000 in
set_option maxRecDepth 100000 in
theorem mX7_dataOf (D : va_G) (cI cZ cH : ClassId) (a_z : Nat) (a_mm : Nat) (a_old : Nat) (a_saved_ : Nat) (a_isSaved : Nat) (a_text : Nat) (a_far : Nat) (a_marked : Nat) (a_stack : Nat) (a_command : Nat) (textLength : Int32) (refused : Int32) (top : Int32) (highest : Int32) (overflowed : Int32) (commands : Int32) (at_ : Int32) (fault_ : Int32) (hash : Int64) (mm : Nat → Int32) (p1 : Int32) (r0 : Int32) (hF : FX7_dataOf mm p1 = some r0) : g_CM yX7_dataOf wsX7_dataOf ({ frames := 0, cells := 0, slots := 0, locals := 0 }) D cI cZ cH [.ref a_z, .int p1] [oX7 a_z a_mm a_old a_saved_ a_isSaved a_text textLength refused a_far a_marked a_stack top highest overflowed a_command commands at_ fault_ hash, oI a_mm cI 1222 mm] 0 0 (g_Tm (some (.int r0)) [oX7 a_z a_mm a_old a_saved_ a_isSaved a_text textLength refused a_far a_marked a_stack top highest overflowed a_command commands at_ fault_ hash, oI a_mm cI 1222 mm]) := by
  refine g_met (own := RX7) (mn := "dataOf") (cc := cX7_dataOf) (maxL := 2) (ret := (some .int)) rfl rfl (by decide +kernel) rfl (Nat.le_of_ble_eq_true rfl) (fun G X RT => ?_)
  show G 0 0 [oX7 a_z a_mm a_old a_saved_ a_isSaved a_text textLength refused a_far a_marked a_stack top highest overflowed a_command commands at_ fault_ hash, oI a_mm cI 1222 mm] [(0, .ref a_z), (1, .int p1)] 0 []
  unfold FX7_dataOf at hF
  refine r_aload_n (pc' := 1) X dX7_dataOf_0 rfl 0 rfl rfl ?_
  refine r_get (pc' := 4) X uX7_dataOf_X7 0 0 dX7_dataOf_1 rfl rfl (by decide) kX7_dataOf_1 rfl rfl ?_
  refine r_iconst (pc' := 5) X (0 : Int32) dX7_dataOf_4 (by decide) rfl ?_
  refine r_iload_n (pc' := 6) X dX7_dataOf_5 rfl 1 rfl rfl ?_
  refine r_iadd (pc' := 7) X dX7_dataOf_6 rfl ?_
  obtain ⟨hi1, hF⟩ := g_gt hF
  refine r_iald (pc' := 8) X 1 dX7_dataOf_7 rfl (g_vi hi1) rfl ?_
  refine r_iconst (pc' := 9) X (1 : Int32) dX7_dataOf_8 (by decide) rfl ?_
  refine r_isub (pc' := 10) X dX7_dataOf_9 rfl ?_
  refine r_aload_n (pc' := 11) X dX7_dataOf_10 rfl 0 rfl rfl ?_
  refine r_get (pc' := 14) X uX7_dataOf_X7 0 0 dX7_dataOf_11 rfl rfl (by decide) kX7_dataOf_1 rfl rfl ?_
  refine r_sipush (pc' := 17) X (200 : Int32) dX7_dataOf_14 (by decide) rfl ?_
  refine r_iload_n (pc' := 18) X dX7_dataOf_17 rfl 1 rfl rfl ?_
  refine r_iadd (pc' := 19) X dX7_dataOf_18 rfl ?_
  obtain ⟨hi2, hF⟩ := g_gt hF
  refine r_iald (pc' := 20) X 1 dX7_dataOf_19 rfl (g_vi hi2) rfl ?_
  refine r_isub (pc' := 21) X dX7_dataOf_20 rfl ?_
  cases hF
  exact RT.1 0 0 _ _ _ _ .int rfl rfl dX7_dataOf_21 ⟨rfl, rfl⟩ (Nat.le_refl 0) (Nat.le_refl 0)
theorem kX7_lays_1 : Cond.fieldLink RX7 7 "IslandHeapModel" "m" "[I" ∈ wsX7_lays := List.mem_of_getElem? (i := 1) (by decide +kernel)
theorem uX7_lays_X7 : ∀ w ∈ u_ws RX7 TX7 18, w ∈ wsX7_lays := by decide +kernel
set_option maxHeartbeats 4000000 in
set_option maxRecDepth 100000 in
theorem mX7_lays (D : va_G) (cI cZ cH : ClassId) (a_z : Nat) (a_mm : Nat) (a_old : Nat) (a_saved_ : Nat) (a_isSaved : Nat) (a_text : Nat) (a_far : Nat) (a_marked : Nat) (a_stack : Nat) (a_command : Nat) (textLength : Int32) (refused : Int32) (top : Int32) (highest : Int32) (overflowed : Int32) (commands : Int32) (at_ : Int32) (fault_ : Int32) (hash : Int64) (mm : Nat → Int32) (p1 : Int32) (p2 : Int32) (p3 : Int32) (w_mm : Nat → Int32) (hF : FX7_lays mm p1 p2 p3 = some w_mm) : g_CM yX7_lays wsX7_lays ({ frames := 0, cells := 0, slots := 0, locals := 0 }) D cI cZ cH [.ref a_z, .int p1, .int p2, .int p3] [oX7 a_z a_mm a_old a_saved_ a_isSaved a_text textLength refused a_far a_marked a_stack top highest overflowed a_command commands at_ fault_ hash, oI a_mm cI 1222 mm] 0 0 (g_Tm (none) [oX7 a_z a_mm a_old a_saved_ a_isSaved a_text textLength refused a_far a_marked a_stack top highest overflowed a_command commands at_ fault_ hash, oI a_mm cI 1222 w_mm]) := by
  refine g_met (own := RX7) (mn := "lays") (cc := cX7_lays) (maxL := 5) (ret := none) rfl rfl (by decide +kernel) rfl (Nat.le_of_ble_eq_true rfl) (fun G X RT => ?_)
  show G 0 0 [oX7 a_z a_mm a_old a_saved_ a_isSaved a_text textLength refused a_far a_marked a_stack top highest overflowed a_command commands at_ fault_ hash, oI a_mm cI 1222 mm] [(0, .ref a_z), (1, .int p1), (2, .int p2), (3, .int p3)] 0 []
  unfold FX7_lays at hF
  refine r_aload_n (pc' := 1) X dX7_lays_0 rfl 0 rfl rfl ?_
  refine r_get (pc' := 4) X uX7_lays_X7 0 0 dX7_lays_1 rfl rfl (by decide) kX7_lays_1 rfl rfl ?_
  refine r_iconst (pc' := 5) X (0 : Int32) dX7_lays_4 (by decide) rfl ?_
  refine r_iload_n (pc' := 6) X dX7_lays_5 rfl 1 rfl rfl ?_
  refine r_iadd (pc' := 7) X dX7_lays_6 rfl ?_
  refine r_iconst (pc' := 8) X (1 : Int32) dX7_lays_7 (by decide) rfl ?_
  refine r_iload_n (pc' := 9) X dX7_lays_8 rfl 2 rfl rfl ?_
  refine r_iadd (pc' := 10) X dX7_lays_9 rfl ?_
  refine r_iload_n (pc' := 11) X dX7_lays_10 rfl 3 rfl rfl ?_
  refine r_iadd (pc' := 12) X dX7_lays_11 rfl ?_
  obtain ⟨hi1, hF⟩ := g_gt hF
  refine r_iast (pc' := 13) (ws' := [oX7 a_z a_mm a_old a_saved_ a_isSaved a_text textLength refused a_far a_marked a_stack top highest overflowed a_command commands at_ fault_ hash, oI a_mm cI 1222 (upd mm ((0 : Int32) + p1).toNatClampNeg (((1 : Int32) + p2) + p3))]) X 1 dX7_lays_12 rfl (g_vi hi1) rfl rfl ?_
  refine r_aload_n (pc' := 14) X dX7_lays_13 rfl 0 rfl rfl ?_
  refine r_get (pc' := 17) X uX7_lays_X7 0 0 dX7_lays_14 rfl rfl (by decide) kX7_lays_1 rfl rfl ?_
  refine r_sipush (pc' := 20) X (200 : Int32) dX7_lays_17 (by decide) rfl ?_
  refine r_iload_n (pc' := 21) X dX7_lays_20 rfl 1 rfl rfl ?_
  refine r_iadd (pc' := 22) X dX7_lays_21 rfl ?_
  refine r_iload_n (pc' := 23) X dX7_lays_22 rfl 2 rfl rfl ?_
  obtain ⟨hi2, hF⟩ := g_gt hF
  refine r_iast (pc' := 24) (ws' := [oX7 a_z a_mm a_old a_saved_ a_isSaved a_text textLength refused a_far a_marked a_stack top highest overflowed a_command commands at_ fault_ hash, oI a_mm cI 1222 (upd (upd mm ((0 : Int32) + p1).toNatClampNeg (((1 : Int32) + p2) + p3)) ((200 : Int32) + p1).toNatClampNeg p2)]) X 1 dX7_lays_23 rfl (g_vi hi2) rfl rfl ?_
  refine r_aload_n (pc' := 25) X dX7_lays_24 rfl 0 rfl rfl ?_
  refine r_get (pc' := 28) X uX7_lays_X7 0 0 dX7_lays_25 rfl rfl (by decide) kX7_lays_1 rfl rfl ?_
  refine r_sipush (pc' := 31) X (400 : Int32) dX7_lays_28 (by decide) rfl ?_
  refine r_iload_n (pc' := 32) X dX7_lays_31 rfl 1 rfl rfl ?_
  refine r_iadd (pc' := 33) X dX7_lays_32 rfl ?_
  refine r_iconst (pc' := 34) X (0 : Int32) dX7_lays_33 (by decide) rfl ?_
  obtain ⟨hi3, hF⟩ := g_gt hF
  refine r_iast (pc' := 35) (ws' := [oX7 a_z a_mm a_old a_saved_ a_isSaved a_text textLength refused a_far a_marked a_stack top highest overflowed a_command commands at_ fault_ hash, oI a_mm cI 1222 (upd (upd (upd mm ((0 : Int32) + p1).toNatClampNeg (((1 : Int32) + p2) + p3)) ((200 : Int32) + p1).toNatClampNeg p2) ((400 : Int32) + p1).toNatClampNeg (0 : Int32))]) X 1 dX7_lays_34 rfl (g_vi hi3) rfl rfl ?_
  refine r_aload_n (pc' := 36) X dX7_lays_35 rfl 0 rfl rfl ?_
  refine r_get (pc' := 39) X uX7_lays_X7 0 0 dX7_lays_36 rfl rfl (by decide) kX7_lays_1 rfl rfl ?_
  refine r_sipush (pc' := 42) X (600 : Int32) dX7_lays_39 (by decide) rfl ?_
  refine r_iload_n (pc' := 43) X dX7_lays_42 rfl 1 rfl rfl ?_
  refine r_iadd (pc' := 44) X dX7_lays_43 rfl ?_
  refine r_iconst (pc' := 45) X (0 : Int32) dX7_lays_44 (by decide) rfl ?_
  obtain ⟨hi4, hF⟩ := g_gt hF
  refine r_iast (pc' := 46) (ws' := [oX7 a_z a_mm a_old a_saved_ a_isSaved a_text textLength refused a_far a_marked a_stack top highest overflowed a_command commands at_ fault_ hash, oI a_mm cI 1222 (upd (upd (upd (upd mm ((0 : Int32) + p1).toNatClampNeg (((1 : Int32) + p2) + p3)) ((200 : Int32) + p1).toNatClampNeg p2) ((400 : Int32) + p1).toNatClampNeg (0 : Int32)) ((600 : Int32) + p1).toNatClampNeg (0 : Int32))]) X 1 dX7_lays_45 rfl (g_vi hi4) rfl rfl ?_
  refine r_iconst (pc' := 47) X (1 : Int32) dX7_lays_46 (by decide) rfl ?_
  refine r_istore (pc' := 49) (lv' := [(0, .ref a_z), (1, .int p1), (2, .int p2), (3, .int p3), (4, .int (1 : Int32))]) X dX7_lays_47 (by decide) [1, 2, 3, 4, 0] rfl rfl ?_
  obtain ⟨ex49, hR, hF⟩ := g_bd hF
  have hE49 : ∀ (mm_7 : Nat → Int32), mm_7 = ex49 → G 0 0 [oX7 a_z a_mm a_old a_saved_ a_isSaved a_text textLength refused a_far a_marked a_stack top highest overflowed a_command commands at_ fault_ hash, oI a_mm cI 1222 mm_7] [(0, .ref a_z)] 87 [] := by
    intro mm_7 hx; subst hx
    refine r_aload_n (pc' := 88) X dX7_lays_87 rfl 0 rfl rfl ?_
    refine r_get (pc' := 91) X uX7_lays_X7 0 0 dX7_lays_88 rfl rfl (by decide) kX7_lays_1 rfl rfl ?_
    refine r_sipush (pc' := 94) X (1218 : Int32) dX7_lays_91 (by decide) rfl ?_
    refine r_dup2 (pc' := 95) X dX7_lays_94 rfl rfl rfl ?_
    refine r_ialdK (pc' := 96) (j := 1218) X 1 dX7_lays_95 rfl (by decide +kernel) (by decide +kernel) rfl ?_
    refine r_iconst (pc' := 97) X (1 : Int32) dX7_lays_96 (by decide) rfl ?_
    refine r_iadd (pc' := 98) X dX7_lays_97 rfl ?_
    refine r_iastK (pc' := 99) (j := 1218) (ws' := [oX7 a_z a_mm a_old a_saved_ a_isSaved a_text textLength refused a_far a_marked a_stack top highest overflowed a_command commands at_ fault_ hash, oI a_mm cI 1222 (upd mm_7 1218 ((mm_7 1218) + (1 : Int32)))]) X 1 dX7_lays_98 rfl (by decide +kernel) (by decide +kernel) rfl rfl ?_
    cases hF
    exact RT.2.2 0 0 _ _ _ rfl dX7_lays_99 ⟨rfl, rfl⟩ (Nat.le_refl 0) (Nat.le_refl 0)
  have hL49 : ∀ (fu : Nat) (v4_5 : Int32) (mm_6 : Nat → Int32), g_itn (FX7_lays_L49 p1 p2 p3) fu (v4_5, mm_6) = some ex49 → G 0 0 [oX7 a_z a_mm a_old a_saved_ a_isSaved a_text textLength refused a_far a_marked a_stack top highest overflowed a_command commands at_ fault_ hash, oI a_mm cI 1222 mm_6] [(0, .ref a_z), (1, .int p1), (2, .int p2), (3, .int p3), (4, .int v4_5)] 49 [] := by
    intro fu
    induction fu with
    | zero => intro v4_5 mm_6 h9; exact (g_it0 h9).elim
    | succ fu ih =>
      intro v4_5 mm_6 h9
      obtain ⟨y49, hF, hI49⟩ := g_its h9
      unfold FX7_lays_L49 at hF
      refine r_iload (pc' := 51) X dX7_lays_49 4 rfl rfl ?_
      refine r_iload_n (pc' := 52) X dX7_lays_51 rfl 2 rfl rfl ?_
      refine r_iload_n (pc' := 53) X dX7_lays_52 rfl 3 rfl rfl ?_
      refine r_iadd (pc' := 54) X dX7_lays_53 rfl ?_
      refine r_icmp_gt (pc' := 57) X 87 dX7_lays_54 (by decide) rfl (fun c9 => ?_) (fun c9 => ?_)
      · replace hF := g_t c9 hF
        cases hF
        refine r_sub (lv' := [(0, .ref a_z)]) X [0] rfl ?_
        exact hE49 mm_6 hI49
      · replace hF := g_f c9 hF
        refine r_aload_n (pc' := 58) X dX7_lays_57 rfl 0 rfl rfl ?_
        refine r_get (pc' := 61) X uX7_lays_X7 0 0 dX7_lays_58 rfl rfl (by decide) kX7_lays_1 rfl rfl ?_
        refine r_sipush (pc' := 64) X (800 : Int32) dX7_lays_61 (by decide) rfl ?_
        refine r_iload_n (pc' := 65) X dX7_lays_64 rfl 1 rfl rfl ?_
        refine r_iadd (pc' := 66) X dX7_lays_65 rfl ?_
        refine r_iload (pc' := 68) X dX7_lays_66 4 rfl rfl ?_
        refine r_iadd (pc' := 69) X dX7_lays_68 rfl ?_
        refine r_iload (pc' := 71) X dX7_lays_69 4 rfl rfl ?_
        refine r_iload_n (pc' := 72) X dX7_lays_71 rfl 2 rfl rfl ?_
        obtain ⟨exJ9, hR, hF⟩ := g_bd hF
        have hJ9 : ∀ (t8 : Int32), t8 = exJ9 → G 0 0 [oX7 a_z a_mm a_old a_saved_ a_isSaved a_text textLength refused a_far a_marked a_stack top highest overflowed a_command commands at_ fault_ hash, oI a_mm cI 1222 mm_6] [(0, .ref a_z), (1, .int p1), (2, .int p2), (3, .int p3), (4, .int v4_5)] 80 [.int t8, .int (((800 : Int32) + p1) + v4_5), .ref a_mm] := by
          intro t8 hx; subst hx
          obtain ⟨hi10, hF⟩ := g_gt hF
          refine r_iast (pc' := 81) (ws' := [oX7 a_z a_mm a_old a_saved_ a_isSaved a_text textLength refused a_far a_marked a_stack top highest overflowed a_command commands at_ fault_ hash, oI a_mm cI 1222 (upd mm_6 (((800 : Int32) + p1) + v4_5).toNatClampNeg t8)]) X 1 dX7_lays_80 rfl (g_vi hi10) rfl rfl ?_
          refine r_iinc (pc' := 84) (lv' := [(0, .ref a_z), (1, .int p1), (2, .int p2), (3, .int p3), (4, .int (v4_5 + (1 : Int32)))]) X (v4_5 + (1 : Int32)) dX7_lays_81 4 rfl (congrArg (fun z => v4_5 + z) (by decide)) (by decide) [1, 2, 3, 4, 0] rfl rfl ?_
          refine r_goto X 49 dX7_lays_84 (by decide) ?_
          cases hF
          exact ih (v4_5 + (1 : Int32)) (upd mm_6 (((800 : Int32) + p1) + v4_5).toNatClampNeg t8) hI49
        replace hF := hR
        refine r_icmp_gt (pc' := 75) X 79 dX7_lays_72 (by decide) rfl (fun c9 => ?_) (fun c9 => ?_)
        · replace hF := g_t c9 hF
          refine r_iconst (pc' := 80) X (0 : Int32) dX7_lays_79 (by decide) rfl ?_
          exact hJ9 (0 : Int32) (Option.some.inj hF)
        · replace hF := g_f c9 hF
          refine r_iconst (pc' := 76) X (-1 : Int32) dX7_lays_75 (by decide) rfl ?_
          refine r_goto X 80 dX7_lays_76 (by decide) ?_
          exact hJ9 (-1 : Int32) (Option.some.inj hF)
  exact hL49 g_fuel (1 : Int32) (upd (upd (upd (upd mm ((0 : Int32) + p1).toNatClampNeg (((1 : Int32) + p2) + p3)) ((200 : Int32) + p1).toNatClampNeg p2) ((400 : Int32) + p1).toNatClampNeg (0 : Int32)) ((600 : Int32) + p1).toNatClampNeg (0 : Int32)) hR
theorem kX7_alloc_1 : Cond.constant RX7 50 (-1000002) ∈ wsX7_alloc := List.mem_of_getElem? (i := 1) (by decide +kernel)
theorem kX7_alloc_2 : Cond.fieldLink RX7 7 "IslandHeapModel" "m" "[I" ∈ wsX7_alloc := List.mem_of_getElem? (i := 2) (by decide +kernel)
theorem kX7_alloc_3 : Cond.constant RX7 59 (-1000004) ∈ wsX7_alloc := List.mem_of_getElem? (i := 3) (by decide +kernel)
theorem uX7_alloc_X7 : ∀ w ∈ u_ws RX7 TX7 18, w ∈ wsX7_alloc := by decide +kernel
set_option maxHeartbeats 4000000 in
set_option maxRecDepth 100000 in
theorem mX7_alloc (D : va_G) (cI cZ cH : ClassId) (a_z : Nat) (a_mm : Nat) (a_old : Nat) (a_saved_ : Nat) (a_isSaved : Nat) (a_text : Nat) (a_far : Nat) (a_marked : Nat) (a_stack : Nat) (a_command : Nat) (textLength : Int32) (refused : Int32) (top : Int32) (highest : Int32) (overflowed : Int32) (commands : Int32) (at_ : Int32) (fault_ : Int32) (hash : Int64) (mm : Nat → Int32) (p1 : Int32) (p2 : Int32) (r0 : Int32) (w_mm : Nat → Int32) (hF : FX7_alloc mm p1 p2 = some (r0, w_mm)) : g_CM yX7_alloc wsX7_alloc ({ frames := 1, cells := 0, slots := 0, locals := 24 }) D cI cZ cH [.ref a_z, .int p1, .int p2] [oX7 a_z a_mm a_old a_saved_ a_isSaved a_text textLength refused a_far a_marked a_stack top highest overflowed a_command commands at_ fault_ hash, oI a_mm cI 1222 mm] 0 0 (g_Tm (some (.int r0)) [oX7 a_z a_mm a_old a_saved_ a_isSaved a_text textLength refused a_far a_marked a_stack top highest overflowed a_command commands at_ fault_ hash, oI a_mm cI 1222 w_mm]) := by
  refine g_met (own := RX7) (mn := "alloc") (cc := cX7_alloc) (maxL := 6) (ret := (some .int)) rfl rfl (by decide +kernel) rfl (Nat.le_of_ble_eq_true rfl) (fun G X RT => ?_)
  show G 0 0 [oX7 a_z a_mm a_old a_saved_ a_isSaved a_text textLength refused a_far a_marked a_stack top highest overflowed a_command commands at_ fault_ hash, oI a_mm cI 1222 mm] [(0, .ref a_z), (1, .int p1), (2, .int p2)] 0 []
  unfold FX7_alloc at hF
  refine r_iload_n (pc' := 1) X dX7_alloc_0 rfl 1 rfl rfl ?_
  refine r_iconst (pc' := 2) X (0 : Int32) dX7_alloc_1 (by decide) rfl ?_
  refine r_bipush (pc' := 4) X (6 : Int32) dX7_alloc_2 (by decide) rfl ?_
  obtain ⟨r1, hc2, hF⟩ := g_bd hF
  refine r_callSF (pc' := 7) (ws' := [oX7 a_z a_mm a_old a_saved_ a_isSaved a_text textLength refused a_far a_marked a_stack top highest overflowed a_command commands at_ fault_ hash, oI a_mm cI 1222 mm]) (st' := [.int r1]) X (mX7_in D cI cZ cH p1 (0 : Int32) (6 : Int32) r1 hc2) 3 gX7_alloc_X7_in rfl (by decide +kernel) rfl rfl ⟨Nat.le_of_ble_eq_true rfl, Nat.le_of_ble_eq_true rfl⟩ ⟨Nat.le_of_ble_eq_true rfl, Nat.le_of_ble_eq_true rfl⟩ rfl (Nat.le_of_ble_eq_true rfl) dX7_alloc_4 [] rfl rfl rfl rfl rfl rfl ?_
  refine r_if_eq (pc' := 10) X 20 dX7_alloc_7 (by decide) rfl (fun c9 => ?_) (fun c9 => ?_)
  · replace hF := g_t c9 hF
    refine r_ldc (pc' := 22) X dX7_alloc_20 kX7_alloc_1 rfl ?_
    cases hF
    exact RT.1 0 0 _ _ _ _ .int rfl rfl dX7_alloc_22 ⟨rfl, rfl⟩ (Nat.le_refl 0) (Nat.le_refl 0)
  · replace hF := g_f c9 hF
    refine r_iload_n (pc' := 11) X dX7_alloc_10 rfl 2 rfl rfl ?_
    refine r_iconst (pc' := 12) X (0 : Int32) dX7_alloc_11 (by decide) rfl ?_
    refine r_bipush (pc' := 14) X (6 : Int32) dX7_alloc_12 (by decide) rfl ?_
    obtain ⟨r3, hc4, hF⟩ := g_bd hF
    refine r_callSF (pc' := 17) (ws' := [oX7 a_z a_mm a_old a_saved_ a_isSaved a_text textLength refused a_far a_marked a_stack top highest overflowed a_command commands at_ fault_ hash, oI a_mm cI 1222 mm]) (st' := [.int r3]) X (mX7_in D cI cZ cH p2 (0 : Int32) (6 : Int32) r3 hc4) 3 gX7_alloc_X7_in rfl (by decide +kernel) rfl rfl ⟨Nat.le_of_ble_eq_true rfl, Nat.le_of_ble_eq_true rfl⟩ ⟨Nat.le_of_ble_eq_true rfl, Nat.le_of_ble_eq_true rfl⟩ rfl (Nat.le_of_ble_eq_true rfl) dX7_alloc_14 [] rfl rfl rfl rfl rfl rfl ?_
    refine r_if_ne (pc' := 20) X 23 dX7_alloc_17 (by decide) rfl (fun c9 => ?_) (fun c9 => ?_)
    · replace hF := g_f c9 hF
      refine r_iconst (pc' := 24) X (1 : Int32) dX7_alloc_23 (by decide) rfl ?_
      refine r_iload_n (pc' := 25) X dX7_alloc_24 rfl 1 rfl rfl ?_
      refine r_iadd (pc' := 26) X dX7_alloc_25 rfl ?_
      refine r_iload_n (pc' := 27) X dX7_alloc_26 rfl 2 rfl rfl ?_
      refine r_iadd (pc' := 28) X dX7_alloc_27 rfl ?_
      refine r_istore_n (pc' := 29) (lv' := [(0, .ref a_z), (1, .int p1), (2, .int p2), (3, .int (((1 : Int32) + p1) + p2))]) X dX7_alloc_28 rfl (by decide) [1, 2, 3, 0] rfl rfl ?_
      refine r_iconst (pc' := 30) X (0 : Int32) dX7_alloc_29 (by decide) rfl ?_
      refine r_istore (pc' := 32) (lv' := [(0, .ref a_z), (1, .int p1), (2, .int p2), (3, .int (((1 : Int32) + p1) + p2)), (4, .int (0 : Int32))]) X dX7_alloc_30 (by decide) [1, 2, 3, 4, 0] rfl rfl ?_
      have hL32 : ∀ (fu : Nat) (v4_5 : Int32), g_itn (FX7_alloc_L32 mm p1 p2) fu v4_5 = some (r0, w_mm) → G 0 0 [oX7 a_z a_mm a_old a_saved_ a_isSaved a_text textLength refused a_far a_marked a_stack top highest overflowed a_command commands at_ fault_ hash, oI a_mm cI 1222 mm] [(0, .ref a_z), (1, .int p1), (2, .int p2), (3, .int (((1 : Int32) + p1) + p2)), (4, .int v4_5)] 32 [] := by
        intro fu
        induction fu with
        | zero => intro v4_5 h9; exact (g_it0 h9).elim
        | succ fu ih =>
          intro v4_5 h9
          obtain ⟨y32, hF, hI32⟩ := g_its h9
          unfold FX7_alloc_L32 at hF
          refine r_iload (pc' := 34) X dX7_alloc_32 4 rfl rfl ?_
          refine r_iload_n (pc' := 35) X dX7_alloc_34 rfl 3 rfl rfl ?_
          refine r_iadd (pc' := 36) X dX7_alloc_35 rfl ?_
          refine r_aload_n (pc' := 37) X dX7_alloc_36 rfl 0 rfl rfl ?_
          refine r_get (pc' := 40) X uX7_alloc_X7 0 0 dX7_alloc_37 rfl rfl (by decide) kX7_alloc_2 rfl rfl ?_
          refine r_sipush (pc' := 43) X (1216 : Int32) dX7_alloc_40 (by decide) rfl ?_
          refine r_ialdK (pc' := 44) (j := 1216) X 1 dX7_alloc_43 rfl (by decide +kernel) (by decide +kernel) rfl ?_
          refine r_icmp_gt (pc' := 47) X 117 dX7_alloc_44 (by decide) rfl (fun c9 => ?_) (fun c9 => ?_)
          · replace hF := g_t c9 hF
            refine r_ldc (pc' := 119) X dX7_alloc_117 kX7_alloc_3 rfl ?_
            cases hF
            replace hF := congrArg some hI32
            cases hF
            exact RT.1 0 0 _ _ _ _ .int rfl rfl dX7_alloc_119 ⟨rfl, rfl⟩ (Nat.le_refl 0) (Nat.le_refl 0)
          · replace hF := g_f c9 hF
            refine r_iconst (pc' := 48) X (0 : Int32) dX7_alloc_47 (by decide) rfl ?_
            refine r_istore (pc' := 50) (lv' := [(0, .ref a_z), (1, .int p1), (2, .int p2), (3, .int (((1 : Int32) + p1) + p2)), (4, .int v4_5), (5, .int (0 : Int32))]) X dX7_alloc_48 (by decide) [1, 2, 3, 4, 5, 0] rfl rfl ?_
            obtain ⟨ex50, hR, hF⟩ := g_bd hF
            have hE50 : ∀ (v5_7 : Int32), v5_7 = ex50 → G 0 0 [oX7 a_z a_mm a_old a_saved_ a_isSaved a_text textLength refused a_far a_marked a_stack top highest overflowed a_command commands at_ fault_ hash, oI a_mm cI 1222 mm] [(0, .ref a_z), (1, .int p1), (2, .int p2), (3, .int (((1 : Int32) + p1) + p2)), (4, .int v4_5), (5, .int v5_7)] 77 [] := by
              intro v5_7 hx; subst hx
              refine r_iload (pc' := 79) X dX7_alloc_77 5 rfl rfl ?_
              refine r_iload_n (pc' := 80) X dX7_alloc_79 rfl 3 rfl rfl ?_
              refine r_icmp_ne (pc' := 83) X 94 dX7_alloc_80 (by decide) rfl (fun c9 => ?_) (fun c9 => ?_)
              · replace hF := g_f c9 hF
                refine r_iload (pc' := 96) X dX7_alloc_94 4 rfl rfl ?_
                refine r_iload (pc' := 98) X dX7_alloc_96 5 rfl rfl ?_
                refine r_aload_n (pc' := 99) X dX7_alloc_98 rfl 0 rfl rfl ?_
                refine r_get (pc' := 102) X uX7_alloc_X7 0 0 dX7_alloc_99 rfl rfl (by decide) kX7_alloc_2 rfl rfl ?_
                refine r_iconst (pc' := 103) X (0 : Int32) dX7_alloc_102 (by decide) rfl ?_
                refine r_iload (pc' := 105) X dX7_alloc_103 4 rfl rfl ?_
                refine r_iadd (pc' := 106) X dX7_alloc_105 rfl ?_
                refine r_iload (pc' := 108) X dX7_alloc_106 5 rfl rfl ?_
                refine r_iadd (pc' := 109) X dX7_alloc_108 rfl ?_
                obtain ⟨hi8, hF⟩ := g_gt hF
                refine r_iald (pc' := 110) X 1 dX7_alloc_109 rfl (g_vi hi8) rfl ?_
                refine r_iadd (pc' := 111) X dX7_alloc_110 rfl ?_
                refine r_iadd (pc' := 112) X dX7_alloc_111 rfl ?_
                refine r_istore (pc' := 114) (lv' := [(0, .ref a_z), (1, .int p1), (2, .int p2), (3, .int (((1 : Int32) + p1) + p2)), (4, .int (v4_5 + (v5_7 + (mm (((0 : Int32) + v4_5) + v5_7).toNatClampNeg)))), (5, .int v5_7)]) X dX7_alloc_112 (by decide) [1, 2, 3, 4, 0, 5] rfl rfl ?_
                refine r_goto X 32 dX7_alloc_114 (by decide) ?_
                cases hF
                refine r_sub (lv' := [(0, .ref a_z), (1, .int p1), (2, .int p2), (3, .int (((1 : Int32) + p1) + p2)), (4, .int (v4_5 + (v5_7 + (mm (((0 : Int32) + v4_5) + v5_7).toNatClampNeg))))]) X [0, 1, 2, 3, 4] rfl ?_
                exact ih (v4_5 + (v5_7 + (mm (((0 : Int32) + v4_5) + v5_7).toNatClampNeg))) hI32
              · replace hF := g_t c9 hF
                refine r_aload_n (pc' := 84) X dX7_alloc_83 rfl 0 rfl rfl ?_
                refine r_iload (pc' := 86) X dX7_alloc_84 4 rfl rfl ?_
                refine r_iload_n (pc' := 87) X dX7_alloc_86 rfl 1 rfl rfl ?_
                refine r_iload_n (pc' := 88) X dX7_alloc_87 rfl 2 rfl rfl ?_
                obtain ⟨mm_9, hc10, hF⟩ := g_bd hF
                refine r_callVF (pc' := 91) (ws' := [oX7 a_z a_mm a_old a_saved_ a_isSaved a_text textLength refused a_far a_marked a_stack top highest overflowed a_command commands at_ fault_ hash, oI a_mm cI 1222 mm_9]) (st' := []) X (mX7_lays D cI cZ cH a_z a_mm a_old a_saved_ a_isSaved a_text a_far a_marked a_stack a_command textLength refused top highest overflowed commands at_ fault_ hash mm v4_5 p1 p2 mm_9 hc10) 3 gX7_alloc_X7_lays rfl (by decide +kernel) rfl rfl ⟨Nat.le_of_ble_eq_true rfl, Nat.le_of_ble_eq_true rfl⟩ ⟨Nat.le_of_ble_eq_true rfl, Nat.le_of_ble_eq_true rfl⟩ rfl (Nat.le_of_ble_eq_true rfl) dX7_alloc_88 0 rfl rfl [0, 1] rfl rfl rfl rfl rfl rfl ?_
                refine r_iload (pc' := 93) X dX7_alloc_91 4 rfl rfl ?_
                cases hF
                replace hF := congrArg some hI32
                cases hF
                exact RT.1 0 0 _ _ _ _ .int rfl rfl dX7_alloc_93 ⟨rfl, rfl⟩ (Nat.le_refl 0) (Nat.le_refl 0)
            have hL50 : ∀ (fu : Nat) (v5_6 : Int32), g_itn (FX7_alloc_L50 mm p1 p2 v4_5) fu v5_6 = some ex50 → G 0 0 [oX7 a_z a_mm a_old a_saved_ a_isSaved a_text textLength refused a_far a_marked a_stack top highest overflowed a_command commands at_ fault_ hash, oI a_mm cI 1222 mm] [(0, .ref a_z), (1, .int p1), (2, .int p2), (3, .int (((1 : Int32) + p1) + p2)), (4, .int v4_5), (5, .int v5_6)] 50 [] := by
              intro fu
              induction fu with
              | zero => intro v5_6 h9; exact (g_it0 h9).elim
              | succ fu ih =>
                intro v5_6 h9
                obtain ⟨y50, hF, hI50⟩ := g_its h9
                unfold FX7_alloc_L50 at hF
                refine r_iload (pc' := 52) X dX7_alloc_50 5 rfl rfl ?_
                refine r_iload_n (pc' := 53) X dX7_alloc_52 rfl 3 rfl rfl ?_
                refine r_icmp_ge (pc' := 56) X 77 dX7_alloc_53 (by decide) rfl (fun c9 => ?_) (fun c9 => ?_)
                · replace hF := g_t c9 hF
                  cases hF
                  exact hE50 v5_6 hI50
                · replace hF := g_f c9 hF
                  refine r_aload_n (pc' := 57) X dX7_alloc_56 rfl 0 rfl rfl ?_
                  refine r_get (pc' := 60) X uX7_alloc_X7 0 0 dX7_alloc_57 rfl rfl (by decide) kX7_alloc_2 rfl rfl ?_
                  refine r_iconst (pc' := 61) X (0 : Int32) dX7_alloc_60 (by decide) rfl ?_
                  refine r_iload (pc' := 63) X dX7_alloc_61 4 rfl rfl ?_
                  refine r_iadd (pc' := 64) X dX7_alloc_63 rfl ?_
                  refine r_iload (pc' := 66) X dX7_alloc_64 5 rfl rfl ?_
                  refine r_iadd (pc' := 67) X dX7_alloc_66 rfl ?_
                  obtain ⟨hi11, hF⟩ := g_gt hF
                  refine r_iald (pc' := 68) X 1 dX7_alloc_67 rfl (g_vi hi11) rfl ?_
                  refine r_if_ne (pc' := 71) X 77 dX7_alloc_68 (by decide) rfl (fun c9 => ?_) (fun c9 => ?_)
                  · replace hF := g_f c9 hF
                    cases hF
                    exact hE50 v5_6 hI50
                  · replace hF := g_t c9 hF
                    refine r_iinc (pc' := 74) (lv' := [(0, .ref a_z), (1, .int p1), (2, .int p2), (3, .int (((1 : Int32) + p1) + p2)), (4, .int v4_5), (5, .int (v5_6 + (1 : Int32)))]) X (v5_6 + (1 : Int32)) dX7_alloc_71 5 rfl (congrArg (fun z => v5_6 + z) (by decide)) (by decide) [1, 2, 3, 4, 5, 0] rfl rfl ?_
                    refine r_goto X 50 dX7_alloc_74 (by decide) ?_
                    cases hF
                    exact ih (v5_6 + (1 : Int32)) hI50
            exact hL50 g_fuel (0 : Int32) hR
      exact hL32 g_fuel (0 : Int32) hF
    · replace hF := g_t c9 hF
      refine r_ldc (pc' := 22) X dX7_alloc_20 kX7_alloc_1 rfl ?_
      cases hF
      exact RT.1 0 0 _ _ _ _ .int rfl rfl dX7_alloc_22 ⟨rfl, rfl⟩ (Nat.le_refl 0) (Nat.le_refl 0)
theorem kX7_referring_1 : Cond.fieldLink RX7 7 "IslandHeapModel" "m" "[I" ∈ wsX7_referring := List.mem_of_getElem? (i := 1) (by decide +kernel)
theorem uX7_referring_X7 : ∀ w ∈ u_ws RX7 TX7 18, w ∈ wsX7_referring := by decide +kernel
set_option maxHeartbeats 4000000 in
set_option maxRecDepth 100000 in
theorem mX7_referring (D : va_G) (cI cZ cH : ClassId) (a_z : Nat) (a_mm : Nat) (a_old : Nat) (a_saved_ : Nat) (a_isSaved : Nat) (a_text : Nat) (a_far : Nat) (a_marked : Nat) (a_stack : Nat) (a_command : Nat) (textLength : Int32) (refused : Int32) (top : Int32) (highest : Int32) (overflowed : Int32) (commands : Int32) (at_ : Int32) (fault_ : Int32) (hash : Int64) (mm : Nat → Int32) (p1 : Int32) (r0 : Int32) (hF : FX7_referring mm p1 = some r0) : g_CM yX7_referring wsX7_referring ({ frames := 2, cells := 0, slots := 0, locals := 44 }) D cI cZ cH [.ref a_z, .int p1] [oX7 a_z a_mm a_old a_saved_ a_isSaved a_text textLength refused a_far a_marked a_stack top highest overflowed a_command commands at_ fault_ hash, oI a_mm cI 1222 mm] 0 0 (g_Tm (some (.int r0)) [oX7 a_z a_mm a_old a_saved_ a_isSaved a_text textLength refused a_far a_marked a_stack top highest overflowed a_command commands at_ fault_ hash, oI a_mm cI 1222 mm]) := by
  refine g_met (own := RX7) (mn := "referring") (cc := cX7_referring) (maxL := 5) (ret := (some .int)) rfl rfl (by decide +kernel) rfl (Nat.le_of_ble_eq_true rfl) (fun G X RT => ?_)
  show G 0 0 [oX7 a_z a_mm a_old a_saved_ a_isSaved a_text textLength refused a_far a_marked a_stack top highest overflowed a_command commands at_ fault_ hash, oI a_mm cI 1222 mm] [(0, .ref a_z), (1, .int p1)] 0 []
  unfold FX7_referring at hF
  refine r_iconst (pc' := 1) X (0 : Int32) dX7_referring_0 (by decide) rfl ?_
  refine r_istore_n (pc' := 2) (lv' := [(0, .ref a_z), (1, .int p1), (2, .int (0 : Int32))]) X dX7_referring_1 rfl (by decide) [1, 2, 0] rfl rfl ?_
  refine r_iconst (pc' := 3) X (0 : Int32) dX7_referring_2 (by decide) rfl ?_
  refine r_istore_n (pc' := 4) (lv' := [(0, .ref a_z), (1, .int p1), (2, .int (0 : Int32)), (3, .int (0 : Int32))]) X dX7_referring_3 rfl (by decide) [1, 2, 3, 0] rfl rfl ?_
  obtain ⟨ex4, hR, hF⟩ := g_bd hF
  have hE4 : ∀ (v2_3 : Int32), v2_3 = ex4 → G 0 0 [oX7 a_z a_mm a_old a_saved_ a_isSaved a_text textLength refused a_far a_marked a_stack top highest overflowed a_command commands at_ fault_ hash, oI a_mm cI 1222 mm] [(0, .ref a_z), (1, .int p1), (2, .int v2_3)] 56 [] := by
    intro v2_3 hx; subst hx
    refine r_iconst (pc' := 57) X (0 : Int32) dX7_referring_56 (by decide) rfl ?_
    refine r_istore_n (pc' := 58) (lv' := [(0, .ref a_z), (1, .int p1), (2, .int v2_3), (3, .int (0 : Int32))]) X dX7_referring_57 rfl (by decide) [1, 2, 3, 0] rfl rfl ?_
    obtain ⟨ex58, hR, hF⟩ := g_bd hF
    have hE58 : ∀ (v2_6 : Int32), v2_6 = ex58 → G 0 0 [oX7 a_z a_mm a_old a_saved_ a_isSaved a_text textLength refused a_far a_marked a_stack top highest overflowed a_command commands at_ fault_ hash, oI a_mm cI 1222 mm] [(2, .int v2_6)] 157 [] := by
      intro v2_6 hx; subst hx
      refine r_iload_n (pc' := 158) X dX7_referring_157 rfl 0 rfl rfl ?_
      cases hF
      exact RT.1 0 0 _ _ _ _ .int rfl rfl dX7_referring_158 ⟨rfl, rfl⟩ (Nat.le_refl 0) (Nat.le_refl 0)
    have hL58 : ∀ (fu : Nat) (v2_4 : Int32) (v3_5 : Int32), g_itn (FX7_referring_L58 mm p1) fu (v2_4, v3_5) = some ex58 → G 0 0 [oX7 a_z a_mm a_old a_saved_ a_isSaved a_text textLength refused a_far a_marked a_stack top highest overflowed a_command commands at_ fault_ hash, oI a_mm cI 1222 mm] [(0, .ref a_z), (1, .int p1), (2, .int v2_4), (3, .int v3_5)] 58 [] := by
      intro fu
      induction fu with
      | zero => intro v2_4 v3_5 h9; exact (g_it0 h9).elim
      | succ fu ih =>
        intro v2_4 v3_5 h9
        obtain ⟨y58, hF, hI58⟩ := g_its h9
        unfold FX7_referring_L58 at hF
        refine r_iload_n (pc' := 59) X dX7_referring_58 rfl 3 rfl rfl ?_
        refine r_aload_n (pc' := 60) X dX7_referring_59 rfl 0 rfl rfl ?_
        refine r_get (pc' := 63) X uX7_referring_X7 0 0 dX7_referring_60 rfl rfl (by decide) kX7_referring_1 rfl rfl ?_
        refine r_sipush (pc' := 66) X (1216 : Int32) dX7_referring_63 (by decide) rfl ?_
        refine r_ialdK (pc' := 67) (j := 1216) X 1 dX7_referring_66 rfl (by decide +kernel) (by decide +kernel) rfl ?_
        refine r_icmp_ge (pc' := 70) X 157 dX7_referring_67 (by decide) rfl (fun c9 => ?_) (fun c9 => ?_)
        · replace hF := g_t c9 hF
          cases hF
          refine r_sub (lv' := [(2, .int v2_4)]) X [2] rfl ?_
          exact hE58 v2_4 hI58
        · replace hF := g_f c9 hF
          refine r_iconst (pc' := 71) X (1 : Int32) dX7_referring_70 (by decide) rfl ?_
          refine r_istore (pc' := 73) (lv' := [(0, .ref a_z), (1, .int p1), (2, .int v2_4), (3, .int v3_5), (4, .int (1 : Int32))]) X dX7_referring_71 (by decide) [1, 2, 3, 4, 0] rfl rfl ?_
          obtain ⟨ex73, hR, hF⟩ := g_bd hF
          have hE73 : ∀ (v2_9 : Int32), v2_9 = ex73 → G 0 0 [oX7 a_z a_mm a_old a_saved_ a_isSaved a_text textLength refused a_far a_marked a_stack top highest overflowed a_command commands at_ fault_ hash, oI a_mm cI 1222 mm] [(0, .ref a_z), (1, .int p1), (2, .int v2_9), (3, .int v3_5)] 151 [] := by
            intro v2_9 hx; subst hx
            refine r_iinc (pc' := 154) (lv' := [(0, .ref a_z), (1, .int p1), (2, .int v2_9), (3, .int (v3_5 + (1 : Int32)))]) X (v3_5 + (1 : Int32)) dX7_referring_151 3 rfl (congrArg (fun z => v3_5 + z) (by decide)) (by decide) [1, 2, 3, 0] rfl rfl ?_
            refine r_goto X 58 dX7_referring_154 (by decide) ?_
            cases hF
            exact ih v2_9 (v3_5 + (1 : Int32)) hI58
          have hL73 : ∀ (fu : Nat) (v2_7 : Int32) (v4_8 : Int32), g_itn (FX7_referring_L73 mm p1 v3_5) fu (v2_7, v4_8) = some ex73 → G 0 0 [oX7 a_z a_mm a_old a_saved_ a_isSaved a_text textLength refused a_far a_marked a_stack top highest overflowed a_command commands at_ fault_ hash, oI a_mm cI 1222 mm] [(0, .ref a_z), (1, .int p1), (2, .int v2_7), (3, .int v3_5), (4, .int v4_8)] 73 [] := by
            intro fu
            induction fu with
            | zero => intro v2_7 v4_8 h9; exact (g_it0 h9).elim
            | succ fu ih =>
              intro v2_7 v4_8 h9
              obtain ⟨y73, hF, hI73⟩ := g_its h9
              unfold FX7_referring_L73 at hF
              refine r_iload (pc' := 75) X dX7_referring_73 4 rfl rfl ?_
              refine r_aload_n (pc' := 76) X dX7_referring_75 rfl 0 rfl rfl ?_
              refine r_get (pc' := 79) X uX7_referring_X7 0 0 dX7_referring_76 rfl rfl (by decide) kX7_referring_1 rfl rfl ?_
              refine r_sipush (pc' := 82) X (200 : Int32) dX7_referring_79 (by decide) rfl ?_
              refine r_iload_n (pc' := 83) X dX7_referring_82 rfl 3 rfl rfl ?_
              refine r_iadd (pc' := 84) X dX7_referring_83 rfl ?_
              obtain ⟨hi10, hF⟩ := g_gt hF
              refine r_iald (pc' := 85) X 1 dX7_referring_84 rfl (g_vi hi10) rfl ?_
              refine r_icmp_gt (pc' := 88) X 151 dX7_referring_85 (by decide) rfl (fun c9 => ?_) (fun c9 => ?_)
              · replace hF := g_t c9 hF
                cases hF
                refine r_sub (lv' := [(0, .ref a_z), (1, .int p1), (2, .int v2_7), (3, .int v3_5)]) X [0, 1, 2, 3] rfl ?_
                exact hE73 v2_7 hI73
              · replace hF := g_f c9 hF
                refine r_aload_n (pc' := 89) X dX7_referring_88 rfl 0 rfl rfl ?_
                refine r_get (pc' := 92) X uX7_referring_X7 0 0 dX7_referring_89 rfl rfl (by decide) kX7_referring_1 rfl rfl ?_
                refine r_iconst (pc' := 93) X (0 : Int32) dX7_referring_92 (by decide) rfl ?_
                refine r_iload_n (pc' := 94) X dX7_referring_93 rfl 3 rfl rfl ?_
                refine r_iadd (pc' := 95) X dX7_referring_94 rfl ?_
                obtain ⟨hi11, hF⟩ := g_gt hF
                refine r_iald (pc' := 96) X 1 dX7_referring_95 rfl (g_vi hi11) rfl ?_
                refine r_if_le (pc' := 99) X 151 dX7_referring_96 (by decide) rfl (fun c9 => ?_) (fun c9 => ?_)
                · replace hF := g_t c9 hF
                  cases hF
                  refine r_sub (lv' := [(0, .ref a_z), (1, .int p1), (2, .int v2_7), (3, .int v3_5)]) X [0, 1, 2, 3] rfl ?_
                  exact hE73 v2_7 hI73
                · replace hF := g_f c9 hF
                  refine r_iload_n (pc' := 100) X dX7_referring_99 rfl 2 rfl rfl ?_
                  refine r_aload_n (pc' := 101) X dX7_referring_100 rfl 0 rfl rfl ?_
                  refine r_get (pc' := 104) X uX7_referring_X7 0 0 dX7_referring_101 rfl rfl (by decide) kX7_referring_1 rfl rfl ?_
                  refine r_sipush (pc' := 107) X (800 : Int32) dX7_referring_104 (by decide) rfl ?_
                  refine r_iload_n (pc' := 108) X dX7_referring_107 rfl 3 rfl rfl ?_
                  refine r_iadd (pc' := 109) X dX7_referring_108 rfl ?_
                  refine r_iload (pc' := 111) X dX7_referring_109 4 rfl rfl ?_
                  refine r_iadd (pc' := 112) X dX7_referring_111 rfl ?_
                  obtain ⟨hi12, hF⟩ := g_gt hF
                  refine r_iald (pc' := 113) X 1 dX7_referring_112 rfl (g_vi hi12) rfl ?_
                  refine r_iconst (pc' := 114) X (-1 : Int32) dX7_referring_113 (by decide) rfl ?_
                  obtain ⟨exJ14, hR, hF⟩ := g_bd hF
                  have hJ14 : ∀ (t13 : Int32), t13 = exJ14 → G 0 0 [oX7 a_z a_mm a_old a_saved_ a_isSaved a_text textLength refused a_far a_marked a_stack top highest overflowed a_command commands at_ fault_ hash, oI a_mm cI 1222 mm] [(0, .ref a_z), (1, .int p1), (3, .int v3_5), (4, .int v4_8)] 143 [.int t13, .int v2_7] := by
                    intro t13 hx; subst hx
                    refine r_iadd (pc' := 144) X dX7_referring_143 rfl ?_
                    refine r_istore_n (pc' := 145) (lv' := [(0, .ref a_z), (1, .int p1), (2, .int (v2_7 + t13)), (3, .int v3_5), (4, .int v4_8)]) X dX7_referring_144 rfl (by decide) [1, 2, 0, 3, 4] rfl rfl ?_
                    refine r_iinc (pc' := 148) (lv' := [(0, .ref a_z), (1, .int p1), (2, .int (v2_7 + t13)), (3, .int v3_5), (4, .int (v4_8 + (1 : Int32)))]) X (v4_8 + (1 : Int32)) dX7_referring_145 4 rfl (congrArg (fun z => v4_8 + z) (by decide)) (by decide) [1, 2, 3, 4, 0] rfl rfl ?_
                    refine r_goto X 73 dX7_referring_148 (by decide) ?_
                    cases hF
                    exact ih (v2_7 + t13) (v4_8 + (1 : Int32)) hI73
                  replace hF := hR
                  refine r_icmp_eq (pc' := 117) X 142 dX7_referring_114 (by decide) rfl (fun c9 => ?_) (fun c9 => ?_)
                  · replace hF := g_t c9 hF
                    refine r_iconst (pc' := 143) X (0 : Int32) dX7_referring_142 (by decide) rfl ?_
                    refine r_sub (lv' := [(0, .ref a_z), (1, .int p1), (3, .int v3_5), (4, .int v4_8)]) X [0, 1, 3, 4] rfl ?_
                    exact hJ14 (0 : Int32) (Option.some.inj hF)
                  · replace hF := g_f c9 hF
                    refine r_aload_n (pc' := 118) X dX7_referring_117 rfl 0 rfl rfl ?_
                    refine r_aload_n (pc' := 119) X dX7_referring_118 rfl 0 rfl rfl ?_
                    refine r_get (pc' := 122) X uX7_referring_X7 0 0 dX7_referring_119 rfl rfl (by decide) kX7_referring_1 rfl rfl ?_
                    refine r_sipush (pc' := 125) X (800 : Int32) dX7_referring_122 (by decide) rfl ?_
                    refine r_iload_n (pc' := 126) X dX7_referring_125 rfl 3 rfl rfl ?_
                    refine r_iadd (pc' := 127) X dX7_referring_126 rfl ?_
                    refine r_iload (pc' := 129) X dX7_referring_127 4 rfl rfl ?_
                    refine r_iadd (pc' := 130) X dX7_referring_129 rfl ?_
                    obtain ⟨hi15, hF⟩ := g_gt hF
                    refine r_iald (pc' := 131) X 1 dX7_referring_130 rfl (g_vi hi15) rfl ?_
                    obtain ⟨r16, hc17, hF⟩ := g_bd hF
                    refine r_callVF (pc' := 134) (ws' := [oX7 a_z a_mm a_old a_saved_ a_isSaved a_text textLength refused a_far a_marked a_stack top highest overflowed a_command commands at_ fault_ hash, oI a_mm cI 1222 mm]) (st' := [.int r16, .int v2_7]) X (mX7_objectOf D cI cZ cH a_z a_mm a_old a_saved_ a_isSaved a_text a_far a_marked a_stack a_command textLength refused top highest overflowed commands at_ fault_ hash mm (mm (((800 : Int32) + v3_5) + v4_8).toNatClampNeg) r16 hc17) 1 gX7_referring_X7_objectOf rfl (by decide +kernel) rfl rfl ⟨Nat.le_of_ble_eq_true rfl, Nat.le_of_ble_eq_true rfl⟩ ⟨Nat.le_of_ble_eq_true rfl, Nat.le_of_ble_eq_true rfl⟩ rfl (Nat.le_of_ble_eq_true rfl) dX7_referring_131 0 rfl rfl [0, 1] rfl rfl rfl rfl rfl rfl ?_
                    refine r_iload_n (pc' := 135) X dX7_referring_134 rfl 1 rfl rfl ?_
                    refine r_icmp_ne (pc' := 138) X 142 dX7_referring_135 (by decide) rfl (fun c9 => ?_) (fun c9 => ?_)
                    · replace hF := g_f c9 hF
                      refine r_iconst (pc' := 143) X (0 : Int32) dX7_referring_142 (by decide) rfl ?_
                      refine r_sub (lv' := [(0, .ref a_z), (1, .int p1), (3, .int v3_5), (4, .int v4_8)]) X [0, 1, 3, 4] rfl ?_
                      exact hJ14 (0 : Int32) (Option.some.inj hF)
                    · replace hF := g_t c9 hF
                      refine r_iconst (pc' := 139) X (1 : Int32) dX7_referring_138 (by decide) rfl ?_
                      refine r_goto X 143 dX7_referring_139 (by decide) ?_
                      refine r_sub (lv' := [(0, .ref a_z), (1, .int p1), (3, .int v3_5), (4, .int v4_8)]) X [0, 1, 3, 4] rfl ?_
                      exact hJ14 (1 : Int32) (Option.some.inj hF)
          exact hL73 g_fuel v2_4 (1 : Int32) hR
    exact hL58 g_fuel v2_3 (0 : Int32) hR
  have hL4 : ∀ (fu : Nat) (v2_1 : Int32) (v3_2 : Int32), g_itn (FX7_referring_L4 mm p1) fu (v2_1, v3_2) = some ex4 → G 0 0 [oX7 a_z a_mm a_old a_saved_ a_isSaved a_text textLength refused a_far a_marked a_stack top highest overflowed a_command commands at_ fault_ hash, oI a_mm cI 1222 mm] [(0, .ref a_z), (1, .int p1), (2, .int v2_1), (3, .int v3_2)] 4 [] := by
    intro fu
    induction fu with
    | zero => intro v2_1 v3_2 h9; exact (g_it0 h9).elim
    | succ fu ih =>
      intro v2_1 v3_2 h9
      obtain ⟨y4, hF, hI4⟩ := g_its h9
      unfold FX7_referring_L4 at hF
      refine r_iload_n (pc' := 5) X dX7_referring_4 rfl 3 rfl rfl ?_
      refine r_bipush (pc' := 7) X (10 : Int32) dX7_referring_5 (by decide) rfl ?_
      refine r_icmp_ge (pc' := 10) X 56 dX7_referring_7 (by decide) rfl (fun c9 => ?_) (fun c9 => ?_)
      · replace hF := g_t c9 hF
        cases hF
        refine r_sub (lv' := [(0, .ref a_z), (1, .int p1), (2, .int v2_1)]) X [0, 1, 2] rfl ?_
        exact hE4 v2_1 hI4
      · replace hF := g_f c9 hF
        refine r_iload_n (pc' := 11) X dX7_referring_10 rfl 2 rfl rfl ?_
        refine r_aload_n (pc' := 12) X dX7_referring_11 rfl 0 rfl rfl ?_
        refine r_get (pc' := 15) X uX7_referring_X7 0 0 dX7_referring_12 rfl rfl (by decide) kX7_referring_1 rfl rfl ?_
        refine r_sipush (pc' := 18) X (1200 : Int32) dX7_referring_15 (by decide) rfl ?_
        refine r_iload_n (pc' := 19) X dX7_referring_18 rfl 3 rfl rfl ?_
        refine r_iadd (pc' := 20) X dX7_referring_19 rfl ?_
        obtain ⟨hi18, hF⟩ := g_gt hF
        refine r_iald (pc' := 21) X 1 dX7_referring_20 rfl (g_vi hi18) rfl ?_
        refine r_iconst (pc' := 22) X (-1 : Int32) dX7_referring_21 (by decide) rfl ?_
        obtain ⟨exJ20, hR, hF⟩ := g_bd hF
        have hJ20 : ∀ (t19 : Int32), t19 = exJ20 → G 0 0 [oX7 a_z a_mm a_old a_saved_ a_isSaved a_text textLength refused a_far a_marked a_stack top highest overflowed a_command commands at_ fault_ hash, oI a_mm cI 1222 mm] [(0, .ref a_z), (1, .int p1), (3, .int v3_2)] 48 [.int t19, .int v2_1] := by
          intro t19 hx; subst hx
          refine r_iadd (pc' := 49) X dX7_referring_48 rfl ?_
          refine r_istore_n (pc' := 50) (lv' := [(0, .ref a_z), (1, .int p1), (2, .int (v2_1 + t19)), (3, .int v3_2)]) X dX7_referring_49 rfl (by decide) [1, 2, 0, 3] rfl rfl ?_
          refine r_iinc (pc' := 53) (lv' := [(0, .ref a_z), (1, .int p1), (2, .int (v2_1 + t19)), (3, .int (v3_2 + (1 : Int32)))]) X (v3_2 + (1 : Int32)) dX7_referring_50 3 rfl (congrArg (fun z => v3_2 + z) (by decide)) (by decide) [1, 2, 3, 0] rfl rfl ?_
          refine r_goto X 4 dX7_referring_53 (by decide) ?_
          cases hF
          exact ih (v2_1 + t19) (v3_2 + (1 : Int32)) hI4
        replace hF := hR
        refine r_icmp_eq (pc' := 25) X 47 dX7_referring_22 (by decide) rfl (fun c9 => ?_) (fun c9 => ?_)
        · replace hF := g_t c9 hF
          refine r_iconst (pc' := 48) X (0 : Int32) dX7_referring_47 (by decide) rfl ?_
          refine r_sub (lv' := [(0, .ref a_z), (1, .int p1), (3, .int v3_2)]) X [0, 1, 3] rfl ?_
          exact hJ20 (0 : Int32) (Option.some.inj hF)
        · replace hF := g_f c9 hF
          refine r_aload_n (pc' := 26) X dX7_referring_25 rfl 0 rfl rfl ?_
          refine r_aload_n (pc' := 27) X dX7_referring_26 rfl 0 rfl rfl ?_
          refine r_get (pc' := 30) X uX7_referring_X7 0 0 dX7_referring_27 rfl rfl (by decide) kX7_referring_1 rfl rfl ?_
          refine r_sipush (pc' := 33) X (1200 : Int32) dX7_referring_30 (by decide) rfl ?_
          refine r_iload_n (pc' := 34) X dX7_referring_33 rfl 3 rfl rfl ?_
          refine r_iadd (pc' := 35) X dX7_referring_34 rfl ?_
          obtain ⟨hi21, hF⟩ := g_gt hF
          refine r_iald (pc' := 36) X 1 dX7_referring_35 rfl (g_vi hi21) rfl ?_
          obtain ⟨r22, hc23, hF⟩ := g_bd hF
          refine r_callVF (pc' := 39) (ws' := [oX7 a_z a_mm a_old a_saved_ a_isSaved a_text textLength refused a_far a_marked a_stack top highest overflowed a_command commands at_ fault_ hash, oI a_mm cI 1222 mm]) (st' := [.int r22, .int v2_1]) X (mX7_objectOf D cI cZ cH a_z a_mm a_old a_saved_ a_isSaved a_text a_far a_marked a_stack a_command textLength refused top highest overflowed commands at_ fault_ hash mm (mm ((1200 : Int32) + v3_2).toNatClampNeg) r22 hc23) 1 gX7_referring_X7_objectOf rfl (by decide +kernel) rfl rfl ⟨Nat.le_of_ble_eq_true rfl, Nat.le_of_ble_eq_true rfl⟩ ⟨Nat.le_of_ble_eq_true rfl, Nat.le_of_ble_eq_true rfl⟩ rfl (Nat.le_of_ble_eq_true rfl) dX7_referring_36 0 rfl rfl [0, 1] rfl rfl rfl rfl rfl rfl ?_
          refine r_iload_n (pc' := 40) X dX7_referring_39 rfl 1 rfl rfl ?_
          refine r_icmp_ne (pc' := 43) X 47 dX7_referring_40 (by decide) rfl (fun c9 => ?_) (fun c9 => ?_)
          · replace hF := g_f c9 hF
            refine r_iconst (pc' := 48) X (0 : Int32) dX7_referring_47 (by decide) rfl ?_
            refine r_sub (lv' := [(0, .ref a_z), (1, .int p1), (3, .int v3_2)]) X [0, 1, 3] rfl ?_
            exact hJ20 (0 : Int32) (Option.some.inj hF)
          · replace hF := g_t c9 hF
            refine r_iconst (pc' := 44) X (1 : Int32) dX7_referring_43 (by decide) rfl ?_
            refine r_goto X 48 dX7_referring_44 (by decide) ?_
            refine r_sub (lv' := [(0, .ref a_z), (1, .int p1), (3, .int v3_2)]) X [0, 1, 3] rfl ?_
            exact hJ20 (1 : Int32) (Option.some.inj hF)
  exact hL4 g_fuel (0 : Int32) (0 : Int32) hR
theorem kX7_starts_1 : Cond.fieldLink RX7 30 "IslandHeapModel" "far" "[I" ∈ wsX7_starts := List.mem_of_getElem? (i := 1) (by decide +kernel)
theorem uX7_starts_X7 : ∀ w ∈ u_ws RX7 TX7 18, w ∈ wsX7_starts := by decide +kernel
set_option maxHeartbeats 4000000 in
set_option maxRecDepth 100000 in
theorem mX7_starts (D : va_G) (cI cZ cH : ClassId) (a_z : Nat) (a_mm : Nat) (a_far : Nat) (a_old : Nat) (a_saved_ : Nat) (a_isSaved : Nat) (a_text : Nat) (a_marked : Nat) (a_stack : Nat) (a_command : Nat) (textLength : Int32) (refused : Int32) (top : Int32) (highest : Int32) (overflowed : Int32) (commands : Int32) (at_ : Int32) (fault_ : Int32) (hash : Int64) (mm : Nat → Int32) (far : Nat → Int32) (p1 : Int32) (p2 : Int32) (w_far : Nat → Int32) (hF : FX7_starts mm far p1 p2 = some w_far) : g_CM yX7_starts wsX7_starts ({ frames := 2, cells := 0, slots := 0, locals := 44 }) D cI cZ cH [.ref a_z, .int p1, .int p2] [oX7 a_z a_mm a_old a_saved_ a_isSaved a_text textLength refused a_far a_marked a_stack top highest overflowed a_command commands at_ fault_ hash, oI a_mm cI 1222 mm, oI a_far cI 200 far] 0 0 (g_Tm (none) [oX7 a_z a_mm a_old a_saved_ a_isSaved a_text textLength refused a_far a_marked a_stack top highest overflowed a_command commands at_ fault_ hash, oI a_mm cI 1222 mm, oI a_far cI 200 w_far]) := by
  refine g_met (own := RX7) (mn := "starts") (cc := cX7_starts) (maxL := 4) (ret := none) rfl rfl (by decide +kernel) rfl (Nat.le_of_ble_eq_true rfl) (fun G X RT => ?_)
  show G 0 0 [oX7 a_z a_mm a_old a_saved_ a_isSaved a_text textLength refused a_far a_marked a_stack top highest overflowed a_command commands at_ fault_ hash, oI a_mm cI 1222 mm, oI a_far cI 200 far] [(0, .ref a_z), (1, .int p1), (2, .int p2)] 0 []
  unfold FX7_starts at hF
  refine r_iload_n (pc' := 1) X dX7_starts_0 rfl 1 rfl rfl ?_
  refine r_iconst (pc' := 2) X (-1 : Int32) dX7_starts_1 (by decide) rfl ?_
  obtain ⟨exJ2, hR, hF⟩ := g_bd hF
  have hJ2 : ∀ (t1 : Int32), t1 = exJ2 → G 0 0 [oX7 a_z a_mm a_old a_saved_ a_isSaved a_text textLength refused a_far a_marked a_stack top highest overflowed a_command commands at_ fault_ hash, oI a_mm cI 1222 mm, oI a_far cI 200 far] [(0, .ref a_z), (2, .int p2)] 14 [.int t1] := by
    intro t1 hx; subst hx
    refine r_istore_n (pc' := 15) (lv' := [(0, .ref a_z), (2, .int p2), (3, .int t1)]) X dX7_starts_14 rfl (by decide) [1, 2, 0] rfl rfl ?_
    refine r_iload_n (pc' := 16) X dX7_starts_15 rfl 2 rfl rfl ?_
    refine r_iconst (pc' := 17) X (-1 : Int32) dX7_starts_16 (by decide) rfl ?_
    refine r_icmp_eq (pc' := 20) X 32 dX7_starts_17 (by decide) rfl (fun c9 => ?_) (fun c9 => ?_)
    · replace hF := g_t c9 hF
      cases hF
      exact RT.2.2 0 0 _ _ _ rfl dX7_starts_32 ⟨rfl, rfl⟩ (Nat.le_refl 0) (Nat.le_refl 0)
    · replace hF := g_f c9 hF
      refine r_iload_n (pc' := 21) X dX7_starts_20 rfl 2 rfl rfl ?_
      refine r_iload_n (pc' := 22) X dX7_starts_21 rfl 1 rfl rfl ?_
      refine r_icmp_eq (pc' := 25) X 32 dX7_starts_22 (by decide) rfl (fun c9 => ?_) (fun c9 => ?_)
      · replace hF := g_t c9 hF
        cases hF
        exact RT.2.2 0 0 _ _ _ rfl dX7_starts_32 ⟨rfl, rfl⟩ (Nat.le_refl 0) (Nat.le_refl 0)
      · replace hF := g_f c9 hF
        refine r_aload_n (pc' := 26) X dX7_starts_25 rfl 0 rfl rfl ?_
        refine r_get (pc' := 29) X uX7_starts_X7 0 7 dX7_starts_26 rfl rfl (by decide) kX7_starts_1 rfl rfl ?_
        refine r_iload_n (pc' := 30) X dX7_starts_29 rfl 2 rfl rfl ?_
        refine r_iconst (pc' := 31) X (0 : Int32) dX7_starts_30 (by decide) rfl ?_
        obtain ⟨hi3, hF⟩ := g_gt hF
        refine r_iast (pc' := 32) (ws' := [oX7 a_z a_mm a_old a_saved_ a_isSaved a_text textLength refused a_far a_marked a_stack top highest overflowed a_command commands at_ fault_ hash, oI a_mm cI 1222 mm, oI a_far cI 200 (upd far t1.toNatClampNeg (0 : Int32))]) X 2 dX7_starts_31 rfl (g_vi hi3) rfl rfl ?_
        cases hF
        exact RT.2.2 0 0 _ _ _ rfl dX7_starts_32 ⟨rfl, rfl⟩ (Nat.le_refl 0) (Nat.le_refl 0)
  replace hF := hR
  refine r_icmp_ne (pc' := 5) X 9 dX7_starts_2 (by decide) rfl (fun c9 => ?_) (fun c9 => ?_)
  · replace hF := g_f c9 hF
    refine r_aload_n (pc' := 10) X dX7_starts_9 rfl 0 rfl rfl ?_
    refine r_iload_n (pc' := 11) X dX7_starts_10 rfl 1 rfl rfl ?_
    obtain ⟨r4, hc5, hF⟩ := g_bd hF
    refine r_callVF (pc' := 14) (ws' := [oX7 a_z a_mm a_old a_saved_ a_isSaved a_text textLength refused a_far a_marked a_stack top highest overflowed a_command commands at_ fault_ hash, oI a_mm cI 1222 mm, oI a_far cI 200 far]) (st' := [.int r4]) X (mX7_objectOf D cI cZ cH a_z a_mm a_old a_saved_ a_isSaved a_text a_far a_marked a_stack a_command textLength refused top highest overflowed commands at_ fault_ hash mm p1 r4 hc5) 1 gX7_starts_X7_objectOf rfl (by decide +kernel) rfl rfl ⟨Nat.le_of_ble_eq_true rfl, Nat.le_of_ble_eq_true rfl⟩ ⟨Nat.le_of_ble_eq_true rfl, Nat.le_of_ble_eq_true rfl⟩ rfl (Nat.le_of_ble_eq_true rfl) dX7_starts_11 0 rfl rfl [0, 1] rfl rfl rfl rfl rfl rfl ?_
    refine r_sub (lv' := [(0, .ref a_z), (2, .int p2)]) X [0, 2] rfl ?_
    exact hJ2 r4 (Option.some.inj hF)
  · replace hF := g_t c9 hF
    refine r_iconst (pc' := 6) X (-1 : Int32) dX7_starts_5 (by decide) rfl ?_
    refine r_goto X 14 dX7_starts_6 (by decide) ?_
    refine r_sub (lv' := [(0, .ref a_z), (2, .int p2)]) X [0, 2] rfl ?_
    exact hJ2 (-1 : Int32) (Option.some.inj hF)
theorem kX7_reaches_2 : Cond.fieldLink RX7 7 "IslandHeapModel" "m" "[I" ∈ wsX7_reaches := List.mem_of_getElem? (i := 2) (by decide +kernel)
theorem kX7_reaches_1 : Cond.fieldLink RX7 30 "IslandHeapModel" "far" "[I" ∈ wsX7_reaches := List.mem_of_getElem? (i := 1) (by decide +kernel)
theorem uX7_reaches_X7 : ∀ w ∈ u_ws RX7 TX7 18, w ∈ wsX7_reaches := by decide +kernel
set_option maxHeartbeats 4000000 in
set_option maxRecDepth 100000 in
theorem mX7_reaches (D : va_G) (cI cZ cH : ClassId) (a_z : Nat) (a_mm : Nat) (a_far : Nat) (a_old : Nat) (a_saved_ : Nat) (a_isSaved : Nat) (a_text : Nat) (a_marked : Nat) (a_stack : Nat) (a_command : Nat) (textLength : Int32) (refused : Int32) (top : Int32) (highest : Int32) (overflowed : Int32) (commands : Int32) (at_ : Int32) (fault_ : Int32) (hash : Int64) (mm : Nat → Int32) (far : Nat → Int32) (p1 : Int32) (w_far : Nat → Int32) (hF : FX7_reaches mm far p1 = some w_far) : g_CM yX7_reaches wsX7_reaches ({ frames := 3, cells := 0, slots := 0, locals := 67 }) D cI cZ cH [.ref a_z, .int p1] [oX7 a_z a_mm a_old a_saved_ a_isSaved a_text textLength refused a_far a_marked a_stack top highest overflowed a_command commands at_ fault_ hash, oI a_mm cI 1222 mm, oI a_far cI 200 far] 0 0 (g_Tm (none) [oX7 a_z a_mm a_old a_saved_ a_isSaved a_text textLength refused a_far a_marked a_stack top highest overflowed a_command commands at_ fault_ hash, oI a_mm cI 1222 mm, oI a_far cI 200 w_far]) := by
  refine g_met (own := RX7) (mn := "reaches") (cc := cX7_reaches) (maxL := 7) (ret := none) rfl rfl (by decide +kernel) rfl (Nat.le_of_ble_eq_true rfl) (fun G X RT => ?_)
  show G 0 0 [oX7 a_z a_mm a_old a_saved_ a_isSaved a_text textLength refused a_far a_marked a_stack top highest overflowed a_command commands at_ fault_ hash, oI a_mm cI 1222 mm, oI a_far cI 200 far] [(0, .ref a_z), (1, .int p1)] 0 []
  unfold FX7_reaches at hF
  refine r_iconst (pc' := 1) X (0 : Int32) dX7_reaches_0 (by decide) rfl ?_
  refine r_istore_n (pc' := 2) (lv' := [(0, .ref a_z), (1, .int p1), (2, .int (0 : Int32))]) X dX7_reaches_1 rfl (by decide) [1, 2, 0] rfl rfl ?_
  obtain ⟨ex2, hR, hF⟩ := g_bd hF
  have hE2 : ∀ (far_3 : Nat → Int32), far_3 = ex2 → G 0 0 [oX7 a_z a_mm a_old a_saved_ a_isSaved a_text textLength refused a_far a_marked a_stack top highest overflowed a_command commands at_ fault_ hash, oI a_mm cI 1222 mm, oI a_far cI 200 far_3] [(0, .ref a_z), (1, .int p1)] 22 [] := by
    intro far_3 hx; subst hx
    refine r_iconst (pc' := 23) X (0 : Int32) dX7_reaches_22 (by decide) rfl ?_
    refine r_istore_n (pc' := 24) (lv' := [(0, .ref a_z), (1, .int p1), (2, .int (0 : Int32))]) X dX7_reaches_23 rfl (by decide) [1, 2, 0] rfl rfl ?_
    obtain ⟨ex24, hR, hF⟩ := g_bd hF
    have hE24 : ∀ (far_6 : Nat → Int32), far_6 = ex24 → G 0 0 [oX7 a_z a_mm a_old a_saved_ a_isSaved a_text textLength refused a_far a_marked a_stack top highest overflowed a_command commands at_ fault_ hash, oI a_mm cI 1222 mm, oI a_far cI 200 far_6] [(0, .ref a_z), (1, .int p1)] 51 [] := by
      intro far_6 hx; subst hx
      refine r_iconst (pc' := 52) X (0 : Int32) dX7_reaches_51 (by decide) rfl ?_
      refine r_istore_n (pc' := 53) (lv' := [(0, .ref a_z), (1, .int p1), (2, .int (0 : Int32))]) X dX7_reaches_52 rfl (by decide) [1, 2, 0] rfl rfl ?_
      obtain ⟨ex53, hR, hF⟩ := g_bd hF
      have hE53 : ∀ (far_9 : Nat → Int32), far_9 = ex53 → G 0 0 [oX7 a_z a_mm a_old a_saved_ a_isSaved a_text textLength refused a_far a_marked a_stack top highest overflowed a_command commands at_ fault_ hash, oI a_mm cI 1222 mm, oI a_far cI 200 far_9] [(0, .ref a_z), (1, .int p1)] 106 [] := by
        intro far_9 hx; subst hx
        refine r_iconst (pc' := 107) X (1 : Int32) dX7_reaches_106 (by decide) rfl ?_
        refine r_istore_n (pc' := 108) (lv' := [(0, .ref a_z), (1, .int p1), (2, .int (1 : Int32))]) X dX7_reaches_107 rfl (by decide) [1, 2, 0] rfl rfl ?_
        refine r_iconst (pc' := 109) X (0 : Int32) dX7_reaches_108 (by decide) rfl ?_
        refine r_istore_n (pc' := 110) (lv' := [(0, .ref a_z), (1, .int p1), (2, .int (1 : Int32)), (3, .int (0 : Int32))]) X dX7_reaches_109 rfl (by decide) [1, 2, 3, 0] rfl rfl ?_
        obtain ⟨ex110, hR, hF⟩ := g_bd hF
        have hE110 : ∀ (far_13 : Nat → Int32), far_13 = ex110 → G 0 0 [oX7 a_z a_mm a_old a_saved_ a_isSaved a_text textLength refused a_far a_marked a_stack top highest overflowed a_command commands at_ fault_ hash, oI a_mm cI 1222 mm, oI a_far cI 200 far_13] [] 269 [] := by
          intro far_13 hx; subst hx
          cases hF
          exact RT.2.2 0 0 _ _ _ rfl dX7_reaches_269 ⟨rfl, rfl⟩ (Nat.le_refl 0) (Nat.le_refl 0)
        have hL110 : ∀ (fu : Nat) (v2_10 : Int32) (v3_11 : Int32) (far_12 : Nat → Int32), g_itn (FX7_reaches_L110 mm p1) fu (v2_10, v3_11, far_12) = some ex110 → G 0 0 [oX7 a_z a_mm a_old a_saved_ a_isSaved a_text textLength refused a_far a_marked a_stack top highest overflowed a_command commands at_ fault_ hash, oI a_mm cI 1222 mm, oI a_far cI 200 far_12] [(0, .ref a_z), (1, .int p1), (2, .int v2_10), (3, .int v3_11)] 110 [] := by
          intro fu
          induction fu with
          | zero => intro v2_10 v3_11 far_12 h9; exact (g_it0 h9).elim
          | succ fu ih =>
            intro v2_10 v3_11 far_12 h9
            obtain ⟨y110, hF, hI110⟩ := g_its h9
            unfold FX7_reaches_L110 at hF
            refine r_iload_n (pc' := 111) X dX7_reaches_110 rfl 2 rfl rfl ?_
            refine r_if_eq (pc' := 114) X 269 dX7_reaches_111 (by decide) rfl (fun c9 => ?_) (fun c9 => ?_)
            · replace hF := g_t c9 hF
              cases hF
              refine r_sub (lv' := []) X [] rfl ?_
              exact hE110 far_12 hI110
            · replace hF := g_f c9 hF
              refine r_iconst (pc' := 115) X (0 : Int32) dX7_reaches_114 (by decide) rfl ?_
              refine r_istore_n (pc' := 116) (lv' := [(0, .ref a_z), (1, .int p1), (2, .int (0 : Int32)), (3, .int v3_11)]) X dX7_reaches_115 rfl (by decide) [1, 2, 0, 3] rfl rfl ?_
              refine r_iconst (pc' := 117) X (0 : Int32) dX7_reaches_116 (by decide) rfl ?_
              refine r_istore (pc' := 119) (lv' := [(0, .ref a_z), (1, .int p1), (2, .int (0 : Int32)), (3, .int v3_11), (4, .int (0 : Int32))]) X dX7_reaches_117 (by decide) [1, 2, 3, 4, 0] rfl rfl ?_
              obtain ⟨ex119, hR, hF⟩ := g_bd hF
              have hE119 : ∀ (v2_17 : Int32) (far_18 : Nat → Int32), (v2_17, far_18) = ex119 → G 0 0 [oX7 a_z a_mm a_old a_saved_ a_isSaved a_text textLength refused a_far a_marked a_stack top highest overflowed a_command commands at_ fault_ hash, oI a_mm cI 1222 mm, oI a_far cI 200 far_18] [(0, .ref a_z), (1, .int p1), (2, .int v2_17), (3, .int v3_11)] 263 [] := by
                intro v2_17 far_18 hx; subst hx
                refine r_iinc (pc' := 266) (lv' := [(0, .ref a_z), (1, .int p1), (2, .int v2_17), (3, .int (v3_11 + (1 : Int32)))]) X (v3_11 + (1 : Int32)) dX7_reaches_263 3 rfl (congrArg (fun z => v3_11 + z) (by decide)) (by decide) [1, 2, 3, 0] rfl rfl ?_
                refine r_goto X 110 dX7_reaches_266 (by decide) ?_
                cases hF
                exact ih v2_17 (v3_11 + (1 : Int32)) far_18 hI110
              have hL119 : ∀ (fu : Nat) (v2_14 : Int32) (v4_15 : Int32) (far_16 : Nat → Int32), g_itn (FX7_reaches_L119 mm p1 v3_11) fu (v2_14, v4_15, far_16) = some ex119 → G 0 0 [oX7 a_z a_mm a_old a_saved_ a_isSaved a_text textLength refused a_far a_marked a_stack top highest overflowed a_command commands at_ fault_ hash, oI a_mm cI 1222 mm, oI a_far cI 200 far_16] [(0, .ref a_z), (1, .int p1), (2, .int v2_14), (3, .int v3_11), (4, .int v4_15)] 119 [] := by
                intro fu
                induction fu with
                | zero => intro v2_14 v4_15 far_16 h9; exact (g_it0 h9).elim
                | succ fu ih =>
                  intro v2_14 v4_15 far_16 h9
                  obtain ⟨y119, hF, hI119⟩ := g_its h9
                  unfold FX7_reaches_L119 at hF
                  refine r_iload (pc' := 121) X dX7_reaches_119 4 rfl rfl ?_
                  refine r_aload_n (pc' := 122) X dX7_reaches_121 rfl 0 rfl rfl ?_
                  refine r_get (pc' := 125) X uX7_reaches_X7 0 0 dX7_reaches_122 rfl rfl (by decide) kX7_reaches_2 rfl rfl ?_
                  refine r_sipush (pc' := 128) X (1216 : Int32) dX7_reaches_125 (by decide) rfl ?_
                  refine r_ialdK (pc' := 129) (j := 1216) X 1 dX7_reaches_128 rfl (by decide +kernel) (by decide +kernel) rfl ?_
                  refine r_icmp_ge (pc' := 132) X 263 dX7_reaches_129 (by decide) rfl (fun c9 => ?_) (fun c9 => ?_)
                  · replace hF := g_t c9 hF
                    cases hF
                    refine r_sub (lv' := [(0, .ref a_z), (1, .int p1), (2, .int v2_14), (3, .int v3_11)]) X [0, 1, 2, 3] rfl ?_
                    exact hE119 v2_14 far_16 hI119
                  · replace hF := g_f c9 hF
                    refine r_iconst (pc' := 133) X (1 : Int32) dX7_reaches_132 (by decide) rfl ?_
                    refine r_istore (pc' := 135) (lv' := [(0, .ref a_z), (1, .int p1), (2, .int v2_14), (3, .int v3_11), (4, .int v4_15), (5, .int (1 : Int32))]) X dX7_reaches_133 (by decide) [1, 2, 3, 4, 5, 0] rfl rfl ?_
                    obtain ⟨ex135, hR, hF⟩ := g_bd hF
                    have hE135 : ∀ (v2_22 : Int32) (far_23 : Nat → Int32), (v2_22, far_23) = ex135 → G 0 0 [oX7 a_z a_mm a_old a_saved_ a_isSaved a_text textLength refused a_far a_marked a_stack top highest overflowed a_command commands at_ fault_ hash, oI a_mm cI 1222 mm, oI a_far cI 200 far_23] [(0, .ref a_z), (1, .int p1), (2, .int v2_22), (3, .int v3_11), (4, .int v4_15)] 257 [] := by
                      intro v2_22 far_23 hx; subst hx
                      refine r_iinc (pc' := 260) (lv' := [(0, .ref a_z), (1, .int p1), (2, .int v2_22), (3, .int v3_11), (4, .int (v4_15 + (1 : Int32)))]) X (v4_15 + (1 : Int32)) dX7_reaches_257 4 rfl (congrArg (fun z => v4_15 + z) (by decide)) (by decide) [1, 2, 3, 4, 0] rfl rfl ?_
                      refine r_goto X 119 dX7_reaches_260 (by decide) ?_
                      cases hF
                      exact ih v2_22 (v4_15 + (1 : Int32)) far_23 hI119
                    have hL135 : ∀ (fu : Nat) (v2_19 : Int32) (v5_20 : Int32) (far_21 : Nat → Int32), g_itn (FX7_reaches_L135 mm p1 v3_11 v4_15) fu (v2_19, v5_20, far_21) = some ex135 → G 0 0 [oX7 a_z a_mm a_old a_saved_ a_isSaved a_text textLength refused a_far a_marked a_stack top highest overflowed a_command commands at_ fault_ hash, oI a_mm cI 1222 mm, oI a_far cI 200 far_21] [(0, .ref a_z), (1, .int p1), (2, .int v2_19), (3, .int v3_11), (4, .int v4_15), (5, .int v5_20)] 135 [] := by
                      intro fu
                      induction fu with
                      | zero => intro v2_19 v5_20 far_21 h9; exact (g_it0 h9).elim
                      | succ fu ih =>
                        intro v2_19 v5_20 far_21 h9
                        obtain ⟨y135, hF, hI135⟩ := g_its h9
                        unfold FX7_reaches_L135 at hF
                        refine r_iload (pc' := 137) X dX7_reaches_135 5 rfl rfl ?_
                        refine r_aload_n (pc' := 138) X dX7_reaches_137 rfl 0 rfl rfl ?_
                        refine r_get (pc' := 141) X uX7_reaches_X7 0 0 dX7_reaches_138 rfl rfl (by decide) kX7_reaches_2 rfl rfl ?_
                        refine r_sipush (pc' := 144) X (200 : Int32) dX7_reaches_141 (by decide) rfl ?_
                        refine r_iload (pc' := 146) X dX7_reaches_144 4 rfl rfl ?_
                        refine r_iadd (pc' := 147) X dX7_reaches_146 rfl ?_
                        obtain ⟨hi24, hF⟩ := g_gt hF
                        refine r_iald (pc' := 148) X 1 dX7_reaches_147 rfl (g_vi hi24) rfl ?_
                        refine r_icmp_gt (pc' := 151) X 257 dX7_reaches_148 (by decide) rfl (fun c9 => ?_) (fun c9 => ?_)
                        · replace hF := g_t c9 hF
                          cases hF
                          refine r_sub (lv' := [(0, .ref a_z), (1, .int p1), (2, .int v2_19), (3, .int v3_11), (4, .int v4_15)]) X [0, 1, 2, 3, 4] rfl ?_
                          exact hE135 v2_19 far_21 hI135
                        · replace hF := g_f c9 hF
                          refine r_aload_n (pc' := 152) X dX7_reaches_151 rfl 0 rfl rfl ?_
                          refine r_get (pc' := 155) X uX7_reaches_X7 0 0 dX7_reaches_152 rfl rfl (by decide) kX7_reaches_2 rfl rfl ?_
                          refine r_iconst (pc' := 156) X (0 : Int32) dX7_reaches_155 (by decide) rfl ?_
                          refine r_iload (pc' := 158) X dX7_reaches_156 4 rfl rfl ?_
                          refine r_iadd (pc' := 159) X dX7_reaches_158 rfl ?_
                          obtain ⟨hi25, hF⟩ := g_gt hF
                          refine r_iald (pc' := 160) X 1 dX7_reaches_159 rfl (g_vi hi25) rfl ?_
                          refine r_if_le (pc' := 163) X 257 dX7_reaches_160 (by decide) rfl (fun c9 => ?_) (fun c9 => ?_)
                          · replace hF := g_t c9 hF
                            cases hF
                            refine r_sub (lv' := [(0, .ref a_z), (1, .int p1), (2, .int v2_19), (3, .int v3_11), (4, .int v4_15)]) X [0, 1, 2, 3, 4] rfl ?_
                            exact hE135 v2_19 far_21 hI135
                          · replace hF := g_f c9 hF
                            refine r_aload_n (pc' := 164) X dX7_reaches_163 rfl 0 rfl rfl ?_
                            refine r_get (pc' := 167) X uX7_reaches_X7 0 7 dX7_reaches_164 rfl rfl (by decide) kX7_reaches_1 rfl rfl ?_
                            refine r_iload (pc' := 169) X dX7_reaches_167 4 rfl rfl ?_
                            obtain ⟨hi26, hF⟩ := g_gt hF
                            refine r_iald (pc' := 170) X 2 dX7_reaches_169 rfl (g_vi hi26) rfl ?_
                            refine r_iload_n (pc' := 171) X dX7_reaches_170 rfl 3 rfl rfl ?_
                            refine r_icmp_ne (pc' := 174) X 257 dX7_reaches_171 (by decide) rfl (fun c9 => ?_) (fun c9 => ?_)
                            · replace hF := g_f c9 hF
                              cases hF
                              refine r_sub (lv' := [(0, .ref a_z), (1, .int p1), (2, .int v2_19), (3, .int v3_11), (4, .int v4_15)]) X [0, 1, 2, 3, 4] rfl ?_
                              exact hE135 v2_19 far_21 hI135
                            · replace hF := g_t c9 hF
                              refine r_aload_n (pc' := 175) X dX7_reaches_174 rfl 0 rfl rfl ?_
                              refine r_get (pc' := 178) X uX7_reaches_X7 0 0 dX7_reaches_175 rfl rfl (by decide) kX7_reaches_2 rfl rfl ?_
                              refine r_sipush (pc' := 181) X (800 : Int32) dX7_reaches_178 (by decide) rfl ?_
                              refine r_iload (pc' := 183) X dX7_reaches_181 4 rfl rfl ?_
                              refine r_iadd (pc' := 184) X dX7_reaches_183 rfl ?_
                              refine r_iload (pc' := 186) X dX7_reaches_184 5 rfl rfl ?_
                              refine r_iadd (pc' := 187) X dX7_reaches_186 rfl ?_
                              obtain ⟨hi27, hF⟩ := g_gt hF
                              refine r_iald (pc' := 188) X 1 dX7_reaches_187 rfl (g_vi hi27) rfl ?_
                              refine r_iconst (pc' := 189) X (-1 : Int32) dX7_reaches_188 (by decide) rfl ?_
                              obtain ⟨exJ29, hR, hF⟩ := g_bd hF
                              have hJ29 : ∀ (t28 : Int32), t28 = exJ29 → G 0 0 [oX7 a_z a_mm a_old a_saved_ a_isSaved a_text textLength refused a_far a_marked a_stack top highest overflowed a_command commands at_ fault_ hash, oI a_mm cI 1222 mm, oI a_far cI 200 far_21] [(0, .ref a_z), (1, .int p1), (2, .int v2_19), (3, .int v3_11), (4, .int v4_15), (5, .int v5_20)] 214 [.int t28] := by
                                intro t28 hx; subst hx
                                refine r_istore (pc' := 216) (lv' := [(0, .ref a_z), (1, .int p1), (2, .int v2_19), (3, .int v3_11), (4, .int v4_15), (5, .int v5_20), (6, .int t28)]) X dX7_reaches_214 (by decide) [1, 2, 3, 4, 5, 6, 0] rfl rfl ?_
                                refine r_iload (pc' := 218) X dX7_reaches_216 6 rfl rfl ?_
                                refine r_iconst (pc' := 219) X (-1 : Int32) dX7_reaches_218 (by decide) rfl ?_
                                obtain ⟨exJ32, hR, hF⟩ := g_bd hF
                                have hJ32 : ∀ (v2_30 : Int32) (far_31 : Nat → Int32), (v2_30, far_31) = exJ32 → G 0 0 [oX7 a_z a_mm a_old a_saved_ a_isSaved a_text textLength refused a_far a_marked a_stack top highest overflowed a_command commands at_ fault_ hash, oI a_mm cI 1222 mm, oI a_far cI 200 far_31] [(0, .ref a_z), (1, .int p1), (2, .int v2_30), (3, .int v3_11), (4, .int v4_15), (5, .int v5_20)] 251 [] := by
                                  intro v2_30 far_31 hx; subst hx
                                  refine r_iinc (pc' := 254) (lv' := [(0, .ref a_z), (1, .int p1), (2, .int v2_30), (3, .int v3_11), (4, .int v4_15), (5, .int (v5_20 + (1 : Int32)))]) X (v5_20 + (1 : Int32)) dX7_reaches_251 5 rfl (congrArg (fun z => v5_20 + z) (by decide)) (by decide) [1, 2, 3, 4, 5, 0] rfl rfl ?_
                                  refine r_goto X 135 dX7_reaches_254 (by decide) ?_
                                  cases hF
                                  exact ih v2_30 (v5_20 + (1 : Int32)) far_31 hI135
                                replace hF := hR
                                refine r_icmp_eq (pc' := 222) X 251 dX7_reaches_219 (by decide) rfl (fun c9 => ?_) (fun c9 => ?_)
                                · replace hF := g_t c9 hF
                                  refine r_sub (lv' := [(0, .ref a_z), (1, .int p1), (2, .int v2_19), (3, .int v3_11), (4, .int v4_15), (5, .int v5_20)]) X [0, 1, 2, 3, 4, 5] rfl ?_
                                  exact hJ32 v2_19 far_21 (Option.some.inj hF)
                                · replace hF := g_f c9 hF
                                  refine r_iload (pc' := 224) X dX7_reaches_222 6 rfl rfl ?_
                                  refine r_iload_n (pc' := 225) X dX7_reaches_224 rfl 1 rfl rfl ?_
                                  refine r_icmp_eq (pc' := 228) X 251 dX7_reaches_225 (by decide) rfl (fun c9 => ?_) (fun c9 => ?_)
                                  · replace hF := g_t c9 hF
                                    refine r_sub (lv' := [(0, .ref a_z), (1, .int p1), (2, .int v2_19), (3, .int v3_11), (4, .int v4_15), (5, .int v5_20)]) X [0, 1, 2, 3, 4, 5] rfl ?_
                                    exact hJ32 v2_19 far_21 (Option.some.inj hF)
                                  · replace hF := g_f c9 hF
                                    refine r_aload_n (pc' := 229) X dX7_reaches_228 rfl 0 rfl rfl ?_
                                    refine r_get (pc' := 232) X uX7_reaches_X7 0 7 dX7_reaches_229 rfl rfl (by decide) kX7_reaches_1 rfl rfl ?_
                                    refine r_iload (pc' := 234) X dX7_reaches_232 6 rfl rfl ?_
                                    obtain ⟨hi33, hF⟩ := g_gt hF
                                    refine r_iald (pc' := 235) X 2 dX7_reaches_234 rfl (g_vi hi33) rfl ?_
                                    refine r_iconst (pc' := 236) X (-1 : Int32) dX7_reaches_235 (by decide) rfl ?_
                                    refine r_icmp_ne (pc' := 239) X 251 dX7_reaches_236 (by decide) rfl (fun c9 => ?_) (fun c9 => ?_)
                                    · replace hF := g_f c9 hF
                                      refine r_sub (lv' := [(0, .ref a_z), (1, .int p1), (2, .int v2_19), (3, .int v3_11), (4, .int v4_15), (5, .int v5_20)]) X [0, 1, 2, 3, 4, 5] rfl ?_
                                      exact hJ32 v2_19 far_21 (Option.some.inj hF)
                                    · replace hF := g_t c9 hF
                                      refine r_aload_n (pc' := 240) X dX7_reaches_239 rfl 0 rfl rfl ?_
                                      refine r_get (pc' := 243) X uX7_reaches_X7 0 7 dX7_reaches_240 rfl rfl (by decide) kX7_reaches_1 rfl rfl ?_
                                      refine r_iload (pc' := 245) X dX7_reaches_243 6 rfl rfl ?_
                                      refine r_iload_n (pc' := 246) X dX7_reaches_245 rfl 3 rfl rfl ?_
                                      refine r_iconst (pc' := 247) X (1 : Int32) dX7_reaches_246 (by decide) rfl ?_
                                      refine r_iadd (pc' := 248) X dX7_reaches_247 rfl ?_
                                      obtain ⟨hi34, hF⟩ := g_gt hF
                                      refine r_iast (pc' := 249) (ws' := [oX7 a_z a_mm a_old a_saved_ a_isSaved a_text textLength refused a_far a_marked a_stack top highest overflowed a_command commands at_ fault_ hash, oI a_mm cI 1222 mm, oI a_far cI 200 (upd far_21 t28.toNatClampNeg (v3_11 + (1 : Int32)))]) X 2 dX7_reaches_248 rfl (g_vi hi34) rfl rfl ?_
                                      refine r_iconst (pc' := 250) X (1 : Int32) dX7_reaches_249 (by decide) rfl ?_
                                      refine r_istore_n (pc' := 251) (lv' := [(0, .ref a_z), (1, .int p1), (2, .int (1 : Int32)), (3, .int v3_11), (4, .int v4_15), (5, .int v5_20), (6, .int t28)]) X dX7_reaches_250 rfl (by decide) [1, 2, 0, 3, 4, 5, 6] rfl rfl ?_
                                      refine r_sub (lv' := [(0, .ref a_z), (1, .int p1), (2, .int (1 : Int32)), (3, .int v3_11), (4, .int v4_15), (5, .int v5_20)]) X [0, 1, 2, 3, 4, 5] rfl ?_
                                      exact hJ32 (1 : Int32) (upd far_21 t28.toNatClampNeg (v3_11 + (1 : Int32))) (Option.some.inj hF)
                              replace hF := hR
                              refine r_icmp_ne (pc' := 192) X 196 dX7_reaches_189 (by decide) rfl (fun c9 => ?_) (fun c9 => ?_)
                              · replace hF := g_f c9 hF
                                refine r_aload_n (pc' := 197) X dX7_reaches_196 rfl 0 rfl rfl ?_
                                refine r_aload_n (pc' := 198) X dX7_reaches_197 rfl 0 rfl rfl ?_
                                refine r_get (pc' := 201) X uX7_reaches_X7 0 0 dX7_reaches_198 rfl rfl (by decide) kX7_reaches_2 rfl rfl ?_
                                refine r_sipush (pc' := 204) X (800 : Int32) dX7_reaches_201 (by decide) rfl ?_
                                refine r_iload (pc' := 206) X dX7_reaches_204 4 rfl rfl ?_
                                refine r_iadd (pc' := 207) X dX7_reaches_206 rfl ?_
                                refine r_iload (pc' := 209) X dX7_reaches_207 5 rfl rfl ?_
                                refine r_iadd (pc' := 210) X dX7_reaches_209 rfl ?_
                                obtain ⟨hi35, hF⟩ := g_gt hF
                                refine r_iald (pc' := 211) X 1 dX7_reaches_210 rfl (g_vi hi35) rfl ?_
                                obtain ⟨r36, hc37, hF⟩ := g_bd hF
                                refine r_callVF (pc' := 214) (ws' := [oX7 a_z a_mm a_old a_saved_ a_isSaved a_text textLength refused a_far a_marked a_stack top highest overflowed a_command commands at_ fault_ hash, oI a_mm cI 1222 mm, oI a_far cI 200 far_21]) (st' := [.int r36]) X (mX7_objectOf D cI cZ cH a_z a_mm a_old a_saved_ a_isSaved a_text a_far a_marked a_stack a_command textLength refused top highest overflowed commands at_ fault_ hash mm (mm (((800 : Int32) + v4_15) + v5_20).toNatClampNeg) r36 hc37) 1 gX7_reaches_X7_objectOf rfl (by decide +kernel) rfl rfl ⟨Nat.le_of_ble_eq_true rfl, Nat.le_of_ble_eq_true rfl⟩ ⟨Nat.le_of_ble_eq_true rfl, Nat.le_of_ble_eq_true rfl⟩ rfl (Nat.le_of_ble_eq_true rfl) dX7_reaches_211 0 rfl rfl [0, 1] rfl rfl rfl rfl rfl rfl ?_
                                exact hJ29 r36 (Option.some.inj hF)
                              · replace hF := g_t c9 hF
                                refine r_iconst (pc' := 193) X (-1 : Int32) dX7_reaches_192 (by decide) rfl ?_
                                refine r_goto X 214 dX7_reaches_193 (by decide) ?_
                                exact hJ29 (-1 : Int32) (Option.some.inj hF)
                    exact hL135 g_fuel v2_14 (1 : Int32) far_16 hR
              exact hL119 g_fuel (0 : Int32) (0 : Int32) far_12 hR
        exact hL110 g_fuel (1 : Int32) (0 : Int32) far_9 hR
      have hL53 : ∀ (fu : Nat) (v2_7 : Int32) (far_8 : Nat → Int32), g_itn (FX7_reaches_L53 mm p1) fu (v2_7, far_8) = some ex53 → G 0 0 [oX7 a_z a_mm a_old a_saved_ a_isSaved a_text textLength refused a_far a_marked a_stack top highest overflowed a_command commands at_ fault_ hash, oI a_mm cI 1222 mm, oI a_far cI 200 far_8] [(0, .ref a_z), (1, .int p1), (2, .int v2_7)] 53 [] := by
        intro fu
        induction fu with
        | zero => intro v2_7 far_8 h9; exact (g_it0 h9).elim
        | succ fu ih =>
          intro v2_7 far_8 h9
          obtain ⟨y53, hF, hI53⟩ := g_its h9
          unfold FX7_reaches_L53 at hF
          refine r_iload_n (pc' := 54) X dX7_reaches_53 rfl 2 rfl rfl ?_
          refine r_aload_n (pc' := 55) X dX7_reaches_54 rfl 0 rfl rfl ?_
          refine r_get (pc' := 58) X uX7_reaches_X7 0 0 dX7_reaches_55 rfl rfl (by decide) kX7_reaches_2 rfl rfl ?_
          refine r_sipush (pc' := 61) X (1216 : Int32) dX7_reaches_58 (by decide) rfl ?_
          refine r_ialdK (pc' := 62) (j := 1216) X 1 dX7_reaches_61 rfl (by decide +kernel) (by decide +kernel) rfl ?_
          refine r_icmp_ge (pc' := 65) X 106 dX7_reaches_62 (by decide) rfl (fun c9 => ?_) (fun c9 => ?_)
          · replace hF := g_t c9 hF
            cases hF
            refine r_sub (lv' := [(0, .ref a_z), (1, .int p1)]) X [0, 1] rfl ?_
            exact hE53 far_8 hI53
          · replace hF := g_f c9 hF
            refine r_aload_n (pc' := 66) X dX7_reaches_65 rfl 0 rfl rfl ?_
            refine r_aload_n (pc' := 67) X dX7_reaches_66 rfl 0 rfl rfl ?_
            refine r_get (pc' := 70) X uX7_reaches_X7 0 0 dX7_reaches_67 rfl rfl (by decide) kX7_reaches_2 rfl rfl ?_
            refine r_iconst (pc' := 71) X (0 : Int32) dX7_reaches_70 (by decide) rfl ?_
            refine r_iload_n (pc' := 72) X dX7_reaches_71 rfl 2 rfl rfl ?_
            refine r_iadd (pc' := 73) X dX7_reaches_72 rfl ?_
            obtain ⟨hi38, hF⟩ := g_gt hF
            refine r_iald (pc' := 74) X 1 dX7_reaches_73 rfl (g_vi hi38) rfl ?_
            obtain ⟨exJ40, hR, hF⟩ := g_bd hF
            have hJ40 : ∀ (t39 : Int32), t39 = exJ40 → G 0 0 [oX7 a_z a_mm a_old a_saved_ a_isSaved a_text textLength refused a_far a_marked a_stack top highest overflowed a_command commands at_ fault_ hash, oI a_mm cI 1222 mm, oI a_far cI 200 far_8] [(0, .ref a_z), (1, .int p1), (2, .int v2_7)] 96 [.int t39, .ref a_z] := by
              intro t39 hx; subst hx
              refine r_iload_n (pc' := 97) X dX7_reaches_96 rfl 1 rfl rfl ?_
              obtain ⟨far_41, hc42, hF⟩ := g_bd hF
              refine r_callVF (pc' := 100) (ws' := [oX7 a_z a_mm a_old a_saved_ a_isSaved a_text textLength refused a_far a_marked a_stack top highest overflowed a_command commands at_ fault_ hash, oI a_mm cI 1222 mm, oI a_far cI 200 far_41]) (st' := []) X (mX7_starts D cI cZ cH a_z a_mm a_far a_old a_saved_ a_isSaved a_text a_marked a_stack a_command textLength refused top highest overflowed commands at_ fault_ hash mm far_8 t39 p1 far_41 hc42) 2 gX7_reaches_X7_starts rfl (by decide +kernel) rfl rfl ⟨Nat.le_of_ble_eq_true rfl, Nat.le_of_ble_eq_true rfl⟩ ⟨Nat.le_of_ble_eq_true rfl, Nat.le_of_ble_eq_true rfl⟩ rfl (Nat.le_of_ble_eq_true rfl) dX7_reaches_97 0 rfl rfl [0, 1, 2] rfl rfl rfl rfl rfl rfl ?_
              refine r_iinc (pc' := 103) (lv' := [(0, .ref a_z), (1, .int p1), (2, .int (v2_7 + (1 : Int32)))]) X (v2_7 + (1 : Int32)) dX7_reaches_100 2 rfl (congrArg (fun z => v2_7 + z) (by decide)) (by decide) [1, 2, 0] rfl rfl ?_
              refine r_goto X 53 dX7_reaches_103 (by decide) ?_
              cases hF
              exact ih (v2_7 + (1 : Int32)) far_41 hI53
            replace hF := hR
            refine r_if_le (pc' := 77) X 95 dX7_reaches_74 (by decide) rfl (fun c9 => ?_) (fun c9 => ?_)
            · replace hF := g_t c9 hF
              refine r_iconst (pc' := 96) X (-1 : Int32) dX7_reaches_95 (by decide) rfl ?_
              exact hJ40 (-1 : Int32) (Option.some.inj hF)
            · replace hF := g_f c9 hF
              refine r_aload_n (pc' := 78) X dX7_reaches_77 rfl 0 rfl rfl ?_
              refine r_get (pc' := 81) X uX7_reaches_X7 0 0 dX7_reaches_78 rfl rfl (by decide) kX7_reaches_2 rfl rfl ?_
              refine r_sipush (pc' := 84) X (400 : Int32) dX7_reaches_81 (by decide) rfl ?_
              refine r_iload_n (pc' := 85) X dX7_reaches_84 rfl 2 rfl rfl ?_
              refine r_iadd (pc' := 86) X dX7_reaches_85 rfl ?_
              obtain ⟨hi43, hF⟩ := g_gt hF
              refine r_iald (pc' := 87) X 1 dX7_reaches_86 rfl (g_vi hi43) rfl ?_
              refine r_iconst (pc' := 88) X (1 : Int32) dX7_reaches_87 (by decide) rfl ?_
              refine r_icmp_ne (pc' := 91) X 95 dX7_reaches_88 (by decide) rfl (fun c9 => ?_) (fun c9 => ?_)
              · replace hF := g_f c9 hF
                refine r_iconst (pc' := 96) X (-1 : Int32) dX7_reaches_95 (by decide) rfl ?_
                exact hJ40 (-1 : Int32) (Option.some.inj hF)
              · replace hF := g_t c9 hF
                refine r_iload_n (pc' := 92) X dX7_reaches_91 rfl 2 rfl rfl ?_
                refine r_goto X 96 dX7_reaches_92 (by decide) ?_
                exact hJ40 v2_7 (Option.some.inj hF)
      exact hL53 g_fuel (0 : Int32) far_6 hR
    have hL24 : ∀ (fu : Nat) (v2_4 : Int32) (far_5 : Nat → Int32), g_itn (FX7_reaches_L24 mm p1) fu (v2_4, far_5) = some ex24 → G 0 0 [oX7 a_z a_mm a_old a_saved_ a_isSaved a_text textLength refused a_far a_marked a_stack top highest overflowed a_command commands at_ fault_ hash, oI a_mm cI 1222 mm, oI a_far cI 200 far_5] [(0, .ref a_z), (1, .int p1), (2, .int v2_4)] 24 [] := by
      intro fu
      induction fu with
      | zero => intro v2_4 far_5 h9; exact (g_it0 h9).elim
      | succ fu ih =>
        intro v2_4 far_5 h9
        obtain ⟨y24, hF, hI24⟩ := g_its h9
        unfold FX7_reaches_L24 at hF
        refine r_iload_n (pc' := 25) X dX7_reaches_24 rfl 2 rfl rfl ?_
        refine r_bipush (pc' := 27) X (6 : Int32) dX7_reaches_25 (by decide) rfl ?_
        refine r_icmp_ge (pc' := 30) X 51 dX7_reaches_27 (by decide) rfl (fun c9 => ?_) (fun c9 => ?_)
        · replace hF := g_t c9 hF
          cases hF
          refine r_sub (lv' := [(0, .ref a_z), (1, .int p1)]) X [0, 1] rfl ?_
          exact hE24 far_5 hI24
        · replace hF := g_f c9 hF
          refine r_aload_n (pc' := 31) X dX7_reaches_30 rfl 0 rfl rfl ?_
          refine r_aload_n (pc' := 32) X dX7_reaches_31 rfl 0 rfl rfl ?_
          refine r_get (pc' := 35) X uX7_reaches_X7 0 0 dX7_reaches_32 rfl rfl (by decide) kX7_reaches_2 rfl rfl ?_
          refine r_sipush (pc' := 38) X (1200 : Int32) dX7_reaches_35 (by decide) rfl ?_
          refine r_iload_n (pc' := 39) X dX7_reaches_38 rfl 2 rfl rfl ?_
          refine r_iadd (pc' := 40) X dX7_reaches_39 rfl ?_
          obtain ⟨hi44, hF⟩ := g_gt hF
          refine r_iald (pc' := 41) X 1 dX7_reaches_40 rfl (g_vi hi44) rfl ?_
          refine r_iload_n (pc' := 42) X dX7_reaches_41 rfl 1 rfl rfl ?_
          obtain ⟨far_45, hc46, hF⟩ := g_bd hF
          refine r_callVF (pc' := 45) (ws' := [oX7 a_z a_mm a_old a_saved_ a_isSaved a_text textLength refused a_far a_marked a_stack top highest overflowed a_command commands at_ fault_ hash, oI a_mm cI 1222 mm, oI a_far cI 200 far_45]) (st' := []) X (mX7_starts D cI cZ cH a_z a_mm a_far a_old a_saved_ a_isSaved a_text a_marked a_stack a_command textLength refused top highest overflowed commands at_ fault_ hash mm far_5 (mm ((1200 : Int32) + v2_4).toNatClampNeg) p1 far_45 hc46) 2 gX7_reaches_X7_starts rfl (by decide +kernel) rfl rfl ⟨Nat.le_of_ble_eq_true rfl, Nat.le_of_ble_eq_true rfl⟩ ⟨Nat.le_of_ble_eq_true rfl, Nat.le_of_ble_eq_true rfl⟩ rfl (Nat.le_of_ble_eq_true rfl) dX7_reaches_42 0 rfl rfl [0, 1, 2] rfl rfl rfl rfl rfl rfl ?_
          refine r_iinc (pc' := 48) (lv' := [(0, .ref a_z), (1, .int p1), (2, .int (v2_4 + (1 : Int32)))]) X (v2_4 + (1 : Int32)) dX7_reaches_45 2 rfl (congrArg (fun z => v2_4 + z) (by decide)) (by decide) [1, 2, 0] rfl rfl ?_
          refine r_goto X 24 dX7_reaches_48 (by decide) ?_
          cases hF
          exact ih (v2_4 + (1 : Int32)) far_45 hI24
    exact hL24 g_fuel (0 : Int32) far_3 hR
  have hL2 : ∀ (fu : Nat) (v2_1 : Int32) (far_2 : Nat → Int32), g_itn (FX7_reaches_L2) fu (v2_1, far_2) = some ex2 → G 0 0 [oX7 a_z a_mm a_old a_saved_ a_isSaved a_text textLength refused a_far a_marked a_stack top highest overflowed a_command commands at_ fault_ hash, oI a_mm cI 1222 mm, oI a_far cI 200 far_2] [(0, .ref a_z), (1, .int p1), (2, .int v2_1)] 2 [] := by
    intro fu
    induction fu with
    | zero => intro v2_1 far_2 h9; exact (g_it0 h9).elim
    | succ fu ih =>
      intro v2_1 far_2 h9
      obtain ⟨y2, hF, hI2⟩ := g_its h9
      unfold FX7_reaches_L2 at hF
      refine r_iload_n (pc' := 3) X dX7_reaches_2 rfl 2 rfl rfl ?_
      refine r_sipush (pc' := 6) X (200 : Int32) dX7_reaches_3 (by decide) rfl ?_
      refine r_icmp_ge (pc' := 9) X 22 dX7_reaches_6 (by decide) rfl (fun c9 => ?_) (fun c9 => ?_)
      · replace hF := g_t c9 hF
        cases hF
        refine r_sub (lv' := [(0, .ref a_z), (1, .int p1)]) X [0, 1] rfl ?_
        exact hE2 far_2 hI2
      · replace hF := g_f c9 hF
        refine r_aload_n (pc' := 10) X dX7_reaches_9 rfl 0 rfl rfl ?_
        refine r_get (pc' := 13) X uX7_reaches_X7 0 7 dX7_reaches_10 rfl rfl (by decide) kX7_reaches_1 rfl rfl ?_
        refine r_iload_n (pc' := 14) X dX7_reaches_13 rfl 2 rfl rfl ?_
        refine r_iconst (pc' := 15) X (-1 : Int32) dX7_reaches_14 (by decide) rfl ?_
        obtain ⟨hi47, hF⟩ := g_gt hF
        refine r_iast (pc' := 16) (ws' := [oX7 a_z a_mm a_old a_saved_ a_isSaved a_text textLength refused a_far a_marked a_stack top highest overflowed a_command commands at_ fault_ hash, oI a_mm cI 1222 mm, oI a_far cI 200 (upd far_2 v2_1.toNatClampNeg (-1 : Int32))]) X 2 dX7_reaches_15 rfl (g_vi hi47) rfl rfl ?_
        refine r_iinc (pc' := 19) (lv' := [(0, .ref a_z), (1, .int p1), (2, .int (v2_1 + (1 : Int32)))]) X (v2_1 + (1 : Int32)) dX7_reaches_16 2 rfl (congrArg (fun z => v2_1 + z) (by decide)) (by decide) [1, 2, 0] rfl rfl ?_
        refine r_goto X 2 dX7_reaches_19 (by decide) ?_
        cases hF
        exact ih (v2_1 + (1 : Int32)) (upd far_2 v2_1.toNatClampNeg (-1 : Int32)) hI2
  exact hL2 g_fuel (0 : Int32) far hR
theorem kX7_reachedWords_1 : Cond.fieldLink RX7 7 "IslandHeapModel" "m" "[I" ∈ wsX7_reachedWords := List.mem_of_getElem? (i := 1) (by decide +kernel)
theorem kX7_reachedWords_2 : Cond.fieldLink RX7 30 "IslandHeapModel" "far" "[I" ∈ wsX7_reachedWords := List.mem_of_getElem? (i := 2) (by decide +kernel)
theorem uX7_reachedWords_X7 : ∀ w ∈ u_ws RX7 TX7 18, w ∈ wsX7_reachedWords := by decide +kernel
set_option maxHeartbeats 4000000 in
set_option maxRecDepth 100000 in
theorem mX7_reachedWords (D : va_G) (cI cZ cH : ClassId) (a_z : Nat) (a_mm : Nat) (a_far : Nat) (a_old : Nat) (a_saved_ : Nat) (a_isSaved : Nat) (a_text : Nat) (a_marked : Nat) (a_stack : Nat) (a_command : Nat) (textLength : Int32) (refused : Int32) (top : Int32) (highest : Int32) (overflowed : Int32) (commands : Int32) (at_ : Int32) (fault_ : Int32) (hash : Int64) (mm : Nat → Int32) (far : Nat → Int32) (r0 : Int32) (hF : FX7_reachedWords mm far = some r0) : g_CM yX7_reachedWords wsX7_reachedWords ({ frames := 0, cells := 0, slots := 0, locals := 0 }) D cI cZ cH [.ref a_z] [oX7 a_z a_mm a_old a_saved_ a_isSaved a_text textLength refused a_far a_marked a_stack top highest overflowed a_command commands at_ fault_ hash, oI a_mm cI 1222 mm, oI a_far cI 200 far] 0 0 (g_Tm (some (.int r0)) [oX7 a_z a_mm a_old a_saved_ a_isSaved a_text textLength refused a_far a_marked a_stack top highest overflowed a_command commands at_ fault_ hash, oI a_mm cI 1222 mm, oI a_far cI 200 far]) := by
  refine g_met (own := RX7) (mn := "reachedWords") (cc := cX7_reachedWords) (maxL := 3) (ret := (some .int)) rfl rfl (by decide +kernel) rfl (Nat.le_of_ble_eq_true rfl) (fun G X RT => ?_)
  show G 0 0 [oX7 a_z a_mm a_old a_saved_ a_isSaved a_text textLength refused a_far a_marked a_stack top highest overflowed a_command commands at_ fault_ hash, oI a_mm cI 1222 mm, oI a_far cI 200 far] [(0, .ref a_z)] 0 []
  unfold FX7_reachedWords at hF
  refine r_iconst (pc' := 1) X (0 : Int32) dX7_reachedWords_0 (by decide) rfl ?_
  refine r_istore_n (pc' := 2) (lv' := [(0, .ref a_z), (1, .int (0 : Int32))]) X dX7_reachedWords_1 rfl (by decide) [1, 0] rfl rfl ?_
  refine r_iconst (pc' := 3) X (0 : Int32) dX7_reachedWords_2 (by decide) rfl ?_
  refine r_istore_n (pc' := 4) (lv' := [(0, .ref a_z), (1, .int (0 : Int32)), (2, .int (0 : Int32))]) X dX7_reachedWords_3 rfl (by decide) [1, 2, 0] rfl rfl ?_
  obtain ⟨ex4, hR, hF⟩ := g_bd hF
  have hE4 : ∀ (v1_3 : Int32), v1_3 = ex4 → G 0 0 [oX7 a_z a_mm a_old a_saved_ a_isSaved a_text textLength refused a_far a_marked a_stack top highest overflowed a_command commands at_ fault_ hash, oI a_mm cI 1222 mm, oI a_far cI 200 far] [(1, .int v1_3)] 47 [] := by
    intro v1_3 hx; subst hx
    refine r_iload_n (pc' := 48) X dX7_reachedWords_47 rfl 0 rfl rfl ?_
    cases hF
    exact RT.1 0 0 _ _ _ _ .int rfl rfl dX7_reachedWords_48 ⟨rfl, rfl⟩ (Nat.le_refl 0) (Nat.le_refl 0)
  have hL4 : ∀ (fu : Nat) (v1_1 : Int32) (v2_2 : Int32), g_itn (FX7_reachedWords_L4 mm far) fu (v1_1, v2_2) = some ex4 → G 0 0 [oX7 a_z a_mm a_old a_saved_ a_isSaved a_text textLength refused a_far a_marked a_stack top highest overflowed a_command commands at_ fault_ hash, oI a_mm cI 1222 mm, oI a_far cI 200 far] [(0, .ref a_z), (1, .int v1_1), (2, .int v2_2)] 4 [] := by
    intro fu
    induction fu with
    | zero => intro v1_1 v2_2 h9; exact (g_it0 h9).elim
    | succ fu ih =>
      intro v1_1 v2_2 h9
      obtain ⟨y4, hF, hI4⟩ := g_its h9
      unfold FX7_reachedWords_L4 at hF
      refine r_iload_n (pc' := 5) X dX7_reachedWords_4 rfl 2 rfl rfl ?_
      refine r_aload_n (pc' := 6) X dX7_reachedWords_5 rfl 0 rfl rfl ?_
      refine r_get (pc' := 9) X uX7_reachedWords_X7 0 0 dX7_reachedWords_6 rfl rfl (by decide) kX7_reachedWords_1 rfl rfl ?_
      refine r_sipush (pc' := 12) X (1216 : Int32) dX7_reachedWords_9 (by decide) rfl ?_
      refine r_ialdK (pc' := 13) (j := 1216) X 1 dX7_reachedWords_12 rfl (by decide +kernel) (by decide +kernel) rfl ?_
      refine r_icmp_ge (pc' := 16) X 47 dX7_reachedWords_13 (by decide) rfl (fun c9 => ?_) (fun c9 => ?_)
      · replace hF := g_t c9 hF
        cases hF
        refine r_sub (lv' := [(1, .int v1_1)]) X [1] rfl ?_
        exact hE4 v1_1 hI4
      · replace hF := g_f c9 hF
        refine r_iload_n (pc' := 17) X dX7_reachedWords_16 rfl 1 rfl rfl ?_
        refine r_aload_n (pc' := 18) X dX7_reachedWords_17 rfl 0 rfl rfl ?_
        refine r_get (pc' := 21) X uX7_reachedWords_X7 0 7 dX7_reachedWords_18 rfl rfl (by decide) kX7_reachedWords_2 rfl rfl ?_
        refine r_iload_n (pc' := 22) X dX7_reachedWords_21 rfl 2 rfl rfl ?_
        obtain ⟨hi4, hF⟩ := g_gt hF
        refine r_iald (pc' := 23) X 2 dX7_reachedWords_22 rfl (g_vi hi4) rfl ?_
        refine r_iconst (pc' := 24) X (-1 : Int32) dX7_reachedWords_23 (by decide) rfl ?_
        obtain ⟨exJ6, hR, hF⟩ := g_bd hF
        have hJ6 : ∀ (t5 : Int32), t5 = exJ6 → G 0 0 [oX7 a_z a_mm a_old a_saved_ a_isSaved a_text textLength refused a_far a_marked a_stack top highest overflowed a_command commands at_ fault_ hash, oI a_mm cI 1222 mm, oI a_far cI 200 far] [(0, .ref a_z), (2, .int v2_2)] 39 [.int t5, .int v1_1] := by
          intro t5 hx; subst hx
          refine r_iadd (pc' := 40) X dX7_reachedWords_39 rfl ?_
          refine r_istore_n (pc' := 41) (lv' := [(0, .ref a_z), (1, .int (v1_1 + t5)), (2, .int v2_2)]) X dX7_reachedWords_40 rfl (by decide) [1, 0, 2] rfl rfl ?_
          refine r_iinc (pc' := 44) (lv' := [(0, .ref a_z), (1, .int (v1_1 + t5)), (2, .int (v2_2 + (1 : Int32)))]) X (v2_2 + (1 : Int32)) dX7_reachedWords_41 2 rfl (congrArg (fun z => v2_2 + z) (by decide)) (by decide) [1, 2, 0] rfl rfl ?_
          refine r_goto X 4 dX7_reachedWords_44 (by decide) ?_
          cases hF
          exact ih (v1_1 + t5) (v2_2 + (1 : Int32)) hI4
        replace hF := hR
        refine r_icmp_eq (pc' := 27) X 38 dX7_reachedWords_24 (by decide) rfl (fun c9 => ?_) (fun c9 => ?_)
        · replace hF := g_t c9 hF
          refine r_iconst (pc' := 39) X (0 : Int32) dX7_reachedWords_38 (by decide) rfl ?_
          refine r_sub (lv' := [(0, .ref a_z), (2, .int v2_2)]) X [0, 2] rfl ?_
          exact hJ6 (0 : Int32) (Option.some.inj hF)
        · replace hF := g_f c9 hF
          refine r_aload_n (pc' := 28) X dX7_reachedWords_27 rfl 0 rfl rfl ?_
          refine r_get (pc' := 31) X uX7_reachedWords_X7 0 0 dX7_reachedWords_28 rfl rfl (by decide) kX7_reachedWords_1 rfl rfl ?_
          refine r_iconst (pc' := 32) X (0 : Int32) dX7_reachedWords_31 (by decide) rfl ?_
          refine r_iload_n (pc' := 33) X dX7_reachedWords_32 rfl 2 rfl rfl ?_
          refine r_iadd (pc' := 34) X dX7_reachedWords_33 rfl ?_
          obtain ⟨hi7, hF⟩ := g_gt hF
          refine r_iald (pc' := 35) X 1 dX7_reachedWords_34 rfl (g_vi hi7) rfl ?_
          refine r_goto X 39 dX7_reachedWords_35 (by decide) ?_
          refine r_sub (lv' := [(0, .ref a_z), (2, .int v2_2)]) X [0, 2] rfl ?_
          exact hJ6 (mm ((0 : Int32) + v2_2).toNatClampNeg) (Option.some.inj hF)
  exact hL4 g_fuel (0 : Int32) (0 : Int32) hR
theorem kX7_object_1 : Cond.constant RX7 50 (-1000002) ∈ wsX7_object := List.mem_of_getElem? (i := 1) (by decide +kernel)
theorem kX7_object_3 : Cond.fieldLink RX7 30 "IslandHeapModel" "far" "[I" ∈ wsX7_object := List.mem_of_getElem? (i := 3) (by decide +kernel)
theorem kX7_object_2 : Cond.fieldLink RX7 7 "IslandHeapModel" "m" "[I" ∈ wsX7_object := List.mem_of_getElem? (i := 2) (by decide +kernel)
theorem uX7_object_X7 : ∀ w ∈ u_ws RX7 TX7 18, w ∈ wsX7_object := by decide +kernel
set_option maxHeartbeats 4000000 in
set_option maxRecDepth 100000 in
theorem mX7_object (D : va_G) (cI cZ cH : ClassId) (a_z : Nat) (a_mm : Nat) (a_far : Nat) (a_old : Nat) (a_saved_ : Nat) (a_isSaved : Nat) (a_text : Nat) (a_marked : Nat) (a_stack : Nat) (a_command : Nat) (textLength : Int32) (refused : Int32) (top : Int32) (highest : Int32) (overflowed : Int32) (commands : Int32) (at_ : Int32) (fault_ : Int32) (hash : Int64) (mm : Nat → Int32) (far : Nat → Int32) (p1 : Int32) (p2 : Int32) (r0 : Int32) (w_far : Nat → Int32) (hF : FX7_object mm far p1 p2 = some (r0, w_far)) : g_CM yX7_object wsX7_object ({ frames := 4, cells := 0, slots := 0, locals := 93 }) D cI cZ cH [.ref a_z, .int p1, .int p2] [oX7 a_z a_mm a_old a_saved_ a_isSaved a_text textLength refused a_far a_marked a_stack top highest overflowed a_command commands at_ fault_ hash, oI a_mm cI 1222 mm, oI a_far cI 200 far] 0 0 (g_Tm (some (.int r0)) [oX7 a_z a_mm a_old a_saved_ a_isSaved a_text textLength refused a_far a_marked a_stack top highest overflowed a_command commands at_ fault_ hash, oI a_mm cI 1222 mm, oI a_far cI 200 w_far]) := by
  refine g_met (own := RX7) (mn := "object") (cc := cX7_object) (maxL := 4) (ret := (some .int)) rfl rfl (by decide +kernel) rfl (Nat.le_of_ble_eq_true rfl) (fun G X RT => ?_)
  show G 0 0 [oX7 a_z a_mm a_old a_saved_ a_isSaved a_text textLength refused a_far a_marked a_stack top highest overflowed a_command commands at_ fault_ hash, oI a_mm cI 1222 mm, oI a_far cI 200 far] [(0, .ref a_z), (1, .int p1), (2, .int p2)] 0 []
  unfold FX7_object at hF
  refine r_aload_n (pc' := 1) X dX7_object_0 rfl 0 rfl rfl ?_
  refine r_iload_n (pc' := 2) X dX7_object_1 rfl 1 rfl rfl ?_
  obtain ⟨r1, hc2, hF⟩ := g_bd hF
  refine r_callVF (pc' := 5) (ws' := [oX7 a_z a_mm a_old a_saved_ a_isSaved a_text textLength refused a_far a_marked a_stack top highest overflowed a_command commands at_ fault_ hash, oI a_mm cI 1222 mm, oI a_far cI 200 far]) (st' := [.int r1]) X (mX7_objectOf D cI cZ cH a_z a_mm a_old a_saved_ a_isSaved a_text a_far a_marked a_stack a_command textLength refused top highest overflowed commands at_ fault_ hash mm p1 r1 hc2) 1 gX7_object_X7_objectOf rfl (by decide +kernel) rfl rfl ⟨Nat.le_of_ble_eq_true rfl, Nat.le_of_ble_eq_true rfl⟩ ⟨Nat.le_of_ble_eq_true rfl, Nat.le_of_ble_eq_true rfl⟩ rfl (Nat.le_of_ble_eq_true rfl) dX7_object_2 0 rfl rfl [0, 1] rfl rfl rfl rfl rfl rfl ?_
  refine r_istore_n (pc' := 6) (lv' := [(0, .ref a_z), (1, .int p1), (2, .int p2), (3, .int r1)]) X dX7_object_5 rfl (by decide) [1, 2, 3, 0] rfl rfl ?_
  refine r_iload_n (pc' := 7) X dX7_object_6 rfl 3 rfl rfl ?_
  refine r_iconst (pc' := 8) X (-1 : Int32) dX7_object_7 (by decide) rfl ?_
  refine r_icmp_eq (pc' := 11) X 21 dX7_object_8 (by decide) rfl (fun c9 => ?_) (fun c9 => ?_)
  · replace hF := g_t c9 hF
    refine r_ldc (pc' := 23) X dX7_object_21 kX7_object_1 rfl ?_
    cases hF
    exact RT.1 0 0 _ _ _ _ .int rfl rfl dX7_object_23 ⟨rfl, rfl⟩ (Nat.le_refl 0) (Nat.le_refl 0)
  · replace hF := g_f c9 hF
    refine r_iload_n (pc' := 12) X dX7_object_11 rfl 2 rfl rfl ?_
    refine r_iconst (pc' := 13) X (0 : Int32) dX7_object_12 (by decide) rfl ?_
    refine r_bipush (pc' := 15) X (7 : Int32) dX7_object_13 (by decide) rfl ?_
    obtain ⟨r3, hc4, hF⟩ := g_bd hF
    refine r_callSF (pc' := 18) (ws' := [oX7 a_z a_mm a_old a_saved_ a_isSaved a_text textLength refused a_far a_marked a_stack top highest overflowed a_command commands at_ fault_ hash, oI a_mm cI 1222 mm, oI a_far cI 200 far]) (st' := [.int r3]) X (mX7_in D cI cZ cH p2 (0 : Int32) (7 : Int32) r3 hc4) 3 gX7_object_X7_in rfl (by decide +kernel) rfl rfl ⟨Nat.le_of_ble_eq_true rfl, Nat.le_of_ble_eq_true rfl⟩ ⟨Nat.le_of_ble_eq_true rfl, Nat.le_of_ble_eq_true rfl⟩ rfl (Nat.le_of_ble_eq_true rfl) dX7_object_15 [] rfl rfl rfl rfl rfl rfl ?_
    refine r_if_ne (pc' := 21) X 24 dX7_object_18 (by decide) rfl (fun c9 => ?_) (fun c9 => ?_)
    · replace hF := g_f c9 hF
      refine r_iload_n (pc' := 25) X dX7_object_24 rfl 2 rfl rfl ?_
      by_cases e0 : p2 = (0 : Int32)
      · replace hF := g_t e0 hF
        refine r_tsIn (off := 43) X 68 dX7_object_25 e0 (by decide +kernel) (by decide +kernel) (by decide +kernel) (by decide +kernel) ?_
        refine r_iload_n (pc' := 69) X dX7_object_68 rfl 3 rfl rfl ?_
        cases hF
        exact RT.1 0 0 _ _ _ _ .int rfl rfl dX7_object_69 ⟨rfl, rfl⟩ (Nat.le_refl 0) (Nat.le_refl 0)
      replace hF := g_f e0 hF
      by_cases e1 : p2 = (1 : Int32)
      · replace hF := g_t e1 hF
        refine r_tsIn (off := 45) X 70 dX7_object_25 e1 (by decide +kernel) (by decide +kernel) (by decide +kernel) (by decide +kernel) ?_
        refine r_aload_n (pc' := 71) X dX7_object_70 rfl 0 rfl rfl ?_
        refine r_get (pc' := 74) X uX7_object_X7 0 0 dX7_object_71 rfl rfl (by decide) kX7_object_2 rfl rfl ?_
        refine r_iconst (pc' := 75) X (0 : Int32) dX7_object_74 (by decide) rfl ?_
        refine r_iload_n (pc' := 76) X dX7_object_75 rfl 3 rfl rfl ?_
        refine r_iadd (pc' := 77) X dX7_object_76 rfl ?_
        obtain ⟨hi8, hF⟩ := g_gt hF
        refine r_iald (pc' := 78) X 1 dX7_object_77 rfl (g_vi hi8) rfl ?_
        cases hF
        exact RT.1 0 0 _ _ _ _ .int rfl rfl dX7_object_78 ⟨rfl, rfl⟩ (Nat.le_refl 0) (Nat.le_refl 0)
      replace hF := g_f e1 hF
      by_cases e2 : p2 = (2 : Int32)
      · replace hF := g_t e2 hF
        refine r_tsIn (off := 54) X 79 dX7_object_25 e2 (by decide +kernel) (by decide +kernel) (by decide +kernel) (by decide +kernel) ?_
        refine r_aload_n (pc' := 80) X dX7_object_79 rfl 0 rfl rfl ?_
        refine r_get (pc' := 83) X uX7_object_X7 0 0 dX7_object_80 rfl rfl (by decide) kX7_object_2 rfl rfl ?_
        refine r_sipush (pc' := 86) X (200 : Int32) dX7_object_83 (by decide) rfl ?_
        refine r_iload_n (pc' := 87) X dX7_object_86 rfl 3 rfl rfl ?_
        refine r_iadd (pc' := 88) X dX7_object_87 rfl ?_
        obtain ⟨hi9, hF⟩ := g_gt hF
        refine r_iald (pc' := 89) X 1 dX7_object_88 rfl (g_vi hi9) rfl ?_
        cases hF
        exact RT.1 0 0 _ _ _ _ .int rfl rfl dX7_object_89 ⟨rfl, rfl⟩ (Nat.le_refl 0) (Nat.le_refl 0)
      replace hF := g_f e2 hF
      by_cases e3 : p2 = (3 : Int32)
      · replace hF := g_t e3 hF
        refine r_tsIn (off := 65) X 90 dX7_object_25 e3 (by decide +kernel) (by decide +kernel) (by decide +kernel) (by decide +kernel) ?_
        refine r_aload_n (pc' := 91) X dX7_object_90 rfl 0 rfl rfl ?_
        refine r_iload_n (pc' := 92) X dX7_object_91 rfl 3 rfl rfl ?_
        obtain ⟨r10, hc11, hF⟩ := g_bd hF
        refine r_callVF (pc' := 95) (ws' := [oX7 a_z a_mm a_old a_saved_ a_isSaved a_text textLength refused a_far a_marked a_stack top highest overflowed a_command commands at_ fault_ hash, oI a_mm cI 1222 mm, oI a_far cI 200 far]) (st' := [.int r10]) X (mX7_dataOf D cI cZ cH a_z a_mm a_old a_saved_ a_isSaved a_text a_far a_marked a_stack a_command textLength refused top highest overflowed commands at_ fault_ hash mm r1 r10 hc11) 1 gX7_object_X7_dataOf rfl (by decide +kernel) rfl rfl ⟨Nat.le_of_ble_eq_true rfl, Nat.le_of_ble_eq_true rfl⟩ ⟨Nat.le_of_ble_eq_true rfl, Nat.le_of_ble_eq_true rfl⟩ rfl (Nat.le_of_ble_eq_true rfl) dX7_object_92 0 rfl rfl [0, 1] rfl rfl rfl rfl rfl rfl ?_
        cases hF
        exact RT.1 0 0 _ _ _ _ .int rfl rfl dX7_object_95 ⟨rfl, rfl⟩ (Nat.le_refl 0) (Nat.le_refl 0)
      replace hF := g_f e3 hF
      by_cases e4 : p2 = (4 : Int32)
      · replace hF := g_t e4 hF
        refine r_tsIn (off := 71) X 96 dX7_object_25 e4 (by decide +kernel) (by decide +kernel) (by decide +kernel) (by decide +kernel) ?_
        refine r_aload_n (pc' := 97) X dX7_object_96 rfl 0 rfl rfl ?_
        refine r_get (pc' := 100) X uX7_object_X7 0 0 dX7_object_97 rfl rfl (by decide) kX7_object_2 rfl rfl ?_
        refine r_sipush (pc' := 103) X (400 : Int32) dX7_object_100 (by decide) rfl ?_
        refine r_iload_n (pc' := 104) X dX7_object_103 rfl 3 rfl rfl ?_
        refine r_iadd (pc' := 105) X dX7_object_104 rfl ?_
        obtain ⟨hi12, hF⟩ := g_gt hF
        refine r_iald (pc' := 106) X 1 dX7_object_105 rfl (g_vi hi12) rfl ?_
        cases hF
        exact RT.1 0 0 _ _ _ _ .int rfl rfl dX7_object_106 ⟨rfl, rfl⟩ (Nat.le_refl 0) (Nat.le_refl 0)
      replace hF := g_f e4 hF
      by_cases e5 : p2 = (5 : Int32)
      · replace hF := g_t e5 hF
        refine r_tsIn (off := 82) X 107 dX7_object_25 e5 (by decide +kernel) (by decide +kernel) (by decide +kernel) (by decide +kernel) ?_
        refine r_aload_n (pc' := 108) X dX7_object_107 rfl 0 rfl rfl ?_
        refine r_get (pc' := 111) X uX7_object_X7 0 0 dX7_object_108 rfl rfl (by decide) kX7_object_2 rfl rfl ?_
        refine r_sipush (pc' := 114) X (600 : Int32) dX7_object_111 (by decide) rfl ?_
        refine r_iload_n (pc' := 115) X dX7_object_114 rfl 3 rfl rfl ?_
        refine r_iadd (pc' := 116) X dX7_object_115 rfl ?_
        obtain ⟨hi13, hF⟩ := g_gt hF
        refine r_iald (pc' := 117) X 1 dX7_object_116 rfl (g_vi hi13) rfl ?_
        cases hF
        exact RT.1 0 0 _ _ _ _ .int rfl rfl dX7_object_117 ⟨rfl, rfl⟩ (Nat.le_refl 0) (Nat.le_refl 0)
      replace hF := g_f e5 hF
      by_cases e6 : p2 = (6 : Int32)
      · replace hF := g_t e6 hF
        refine r_tsIn (off := 93) X 118 dX7_object_25 e6 (by decide +kernel) (by decide +kernel) (by decide +kernel) (by decide +kernel) ?_
        refine r_aload_n (pc' := 119) X dX7_object_118 rfl 0 rfl rfl ?_
        refine r_iload_n (pc' := 120) X dX7_object_119 rfl 3 rfl rfl ?_
        obtain ⟨r14, hc15, hF⟩ := g_bd hF
        refine r_callVF (pc' := 123) (ws' := [oX7 a_z a_mm a_old a_saved_ a_isSaved a_text textLength refused a_far a_marked a_stack top highest overflowed a_command commands at_ fault_ hash, oI a_mm cI 1222 mm, oI a_far cI 200 far]) (st' := [.int r14]) X (mX7_referring D cI cZ cH a_z a_mm a_old a_saved_ a_isSaved a_text a_far a_marked a_stack a_command textLength refused top highest overflowed commands at_ fault_ hash mm r1 r14 hc15) 1 gX7_object_X7_referring rfl (by decide +kernel) rfl rfl ⟨Nat.le_of_ble_eq_true rfl, Nat.le_of_ble_eq_true rfl⟩ ⟨Nat.le_of_ble_eq_true rfl, Nat.le_of_ble_eq_true rfl⟩ rfl (Nat.le_of_ble_eq_true rfl) dX7_object_120 0 rfl rfl [0, 1] rfl rfl rfl rfl rfl rfl ?_
        cases hF
        exact RT.1 0 0 _ _ _ _ .int rfl rfl dX7_object_123 ⟨rfl, rfl⟩ (Nat.le_refl 0) (Nat.le_refl 0)
      replace hF := g_f e6 hF
      have hdf : ∀ hh : True, G 0 0 [oX7 a_z a_mm a_old a_saved_ a_isSaved a_text textLength refused a_far a_marked a_stack top highest overflowed a_command commands at_ fault_ hash, oI a_mm cI 1222 mm, oI a_far cI 200 far] [(0, .ref a_z), (1, .int p1), (2, .int p2), (3, .int r1)] 124 [] := by
        intro _
        refine r_aload_n (pc' := 125) X dX7_object_124 rfl 0 rfl rfl ?_
        refine r_iconst (pc' := 126) X (-1 : Int32) dX7_object_125 (by decide) rfl ?_
        obtain ⟨far_5, hc6, hF⟩ := g_bd hF
        refine r_callVF (pc' := 129) (ws' := [oX7 a_z a_mm a_old a_saved_ a_isSaved a_text textLength refused a_far a_marked a_stack top highest overflowed a_command commands at_ fault_ hash, oI a_mm cI 1222 mm, oI a_far cI 200 far_5]) (st' := []) X (mX7_reaches D cI cZ cH a_z a_mm a_far a_old a_saved_ a_isSaved a_text a_marked a_stack a_command textLength refused top highest overflowed commands at_ fault_ hash mm far (-1 : Int32) far_5 hc6) 1 gX7_object_X7_reaches rfl (by decide +kernel) rfl rfl ⟨Nat.le_of_ble_eq_true rfl, Nat.le_of_ble_eq_true rfl⟩ ⟨Nat.le_of_ble_eq_true rfl, Nat.le_of_ble_eq_true rfl⟩ rfl (Nat.le_of_ble_eq_true rfl) dX7_object_126 0 rfl rfl [0, 1, 2] rfl rfl rfl rfl rfl rfl ?_
        refine r_aload_n (pc' := 130) X dX7_object_129 rfl 0 rfl rfl ?_
        refine r_get (pc' := 133) X uX7_object_X7 0 7 dX7_object_130 rfl rfl (by decide) kX7_object_3 rfl rfl ?_
        refine r_iload_n (pc' := 134) X dX7_object_133 rfl 3 rfl rfl ?_
        obtain ⟨hi7, hF⟩ := g_gt hF
        refine r_iald (pc' := 135) X 2 dX7_object_134 rfl (g_vi hi7) rfl ?_
        refine r_iconst (pc' := 136) X (-1 : Int32) dX7_object_135 (by decide) rfl ?_
        refine r_icmp_eq (pc' := 139) X 143 dX7_object_136 (by decide) rfl (fun c9 => ?_) (fun c9 => ?_)
        · replace hF := g_t c9 hF
          refine r_iconst (pc' := 144) X (0 : Int32) dX7_object_143 (by decide) rfl ?_
          cases hF
          exact RT.1 0 0 _ _ _ _ .int rfl rfl dX7_object_144 ⟨rfl, rfl⟩ (Nat.le_refl 0) (Nat.le_refl 0)
        · replace hF := g_f c9 hF
          refine r_iconst (pc' := 140) X (1 : Int32) dX7_object_139 (by decide) rfl ?_
          refine r_goto X 144 dX7_object_140 (by decide) ?_
          cases hF
          exact RT.1 0 0 _ _ _ _ .int rfl rfl dX7_object_144 ⟨rfl, rfl⟩ (Nat.le_refl 0) (Nat.le_refl 0)
      rcases g_ts (lo := 0) (hi := 6) p2 with h9 | h9
      · exact r_tsOut X 124 dX7_object_25 h9 (by decide +kernel) (hdf trivial)
      · obtain ⟨h8, h9⟩ := h9
        rcases g_sw0_6 p2 h8 h9 with h9 | h9 | h9 | h9 | h9 | h9 | h9
        · exact absurd h9 e0
        · exact absurd h9 e1
        · exact absurd h9 e2
        · exact absurd h9 e3
        · exact absurd h9 e4
        · exact absurd h9 e5
        · exact absurd h9 e6
    · replace hF := g_t c9 hF
      refine r_ldc (pc' := 23) X dX7_object_21 kX7_object_1 rfl ?_
      cases hF
      exact RT.1 0 0 _ _ _ _ .int rfl rfl dX7_object_23 ⟨rfl, rfl⟩ (Nat.le_refl 0) (Nat.le_refl 0)
theorem kX7_objectFrom_1 : Cond.fieldLink RX7 7 "IslandHeapModel" "m" "[I" ∈ wsX7_objectFrom := List.mem_of_getElem? (i := 1) (by decide +kernel)
theorem uX7_objectFrom_X7 : ∀ w ∈ u_ws RX7 TX7 18, w ∈ wsX7_objectFrom := by decide +kernel
set_option maxHeartbeats 4000000 in
set_option maxRecDepth 100000 in
theorem mX7_objectFrom (D : va_G) (cI cZ cH : ClassId) (a_z : Nat) (a_mm : Nat) (a_old : Nat) (a_saved_ : Nat) (a_isSaved : Nat) (a_text : Nat) (a_far : Nat) (a_marked : Nat) (a_stack : Nat) (a_command : Nat) (textLength : Int32) (refused : Int32) (top : Int32) (highest : Int32) (overflowed : Int32) (commands : Int32) (at_ : Int32) (fault_ : Int32) (hash : Int64) (mm : Nat → Int32) (p1 : Int32) (r0 : Int32) (hF : FX7_objectFrom mm p1 = some r0) : g_CM yX7_objectFrom wsX7_objectFrom ({ frames := 0, cells := 0, slots := 0, locals := 0 }) D cI cZ cH [.ref a_z, .int p1] [oX7 a_z a_mm a_old a_saved_ a_isSaved a_text textLength refused a_far a_marked a_stack top highest overflowed a_command commands at_ fault_ hash, oI a_mm cI 1222 mm] 0 0 (g_Tm (some (.int r0)) [oX7 a_z a_mm a_old a_saved_ a_isSaved a_text textLength refused a_far a_marked a_stack top highest overflowed a_command commands at_ fault_ hash, oI a_mm cI 1222 mm]) := by
  refine g_met (own := RX7) (mn := "objectFrom") (cc := cX7_objectFrom) (maxL := 3) (ret := (some .int)) rfl rfl (by decide +kernel) rfl (Nat.le_of_ble_eq_true rfl) (fun G X RT => ?_)
  show G 0 0 [oX7 a_z a_mm a_old a_saved_ a_isSaved a_text textLength refused a_far a_marked a_stack top highest overflowed a_command commands at_ fault_ hash, oI a_mm cI 1222 mm] [(0, .ref a_z), (1, .int p1)] 0 []
  unfold FX7_objectFrom at hF
  refine r_iload_n (pc' := 1) X dX7_objectFrom_0 rfl 1 rfl rfl ?_
  refine r_istore_n (pc' := 2) (lv' := [(0, .ref a_z), (1, .int p1), (2, .int p1)]) X dX7_objectFrom_1 rfl (by decide) [1, 2, 0] rfl rfl ?_
  have hL2 : ∀ (fu : Nat) (v2_1 : Int32), g_itn (FX7_objectFrom_L2 mm) fu v2_1 = some r0 → G 0 0 [oX7 a_z a_mm a_old a_saved_ a_isSaved a_text textLength refused a_far a_marked a_stack top highest overflowed a_command commands at_ fault_ hash, oI a_mm cI 1222 mm] [(0, .ref a_z), (2, .int v2_1)] 2 [] := by
    intro fu
    induction fu with
    | zero => intro v2_1 h9; exact (g_it0 h9).elim
    | succ fu ih =>
      intro v2_1 h9
      obtain ⟨y2, hF, hI2⟩ := g_its h9
      unfold FX7_objectFrom_L2 at hF
      refine r_iload_n (pc' := 3) X dX7_objectFrom_2 rfl 1 rfl rfl ?_
      refine r_aload_n (pc' := 4) X dX7_objectFrom_3 rfl 0 rfl rfl ?_
      refine r_get (pc' := 7) X uX7_objectFrom_X7 0 0 dX7_objectFrom_4 rfl rfl (by decide) kX7_objectFrom_1 rfl rfl ?_
      refine r_sipush (pc' := 10) X (1216 : Int32) dX7_objectFrom_7 (by decide) rfl ?_
      refine r_ialdK (pc' := 11) (j := 1216) X 1 dX7_objectFrom_10 rfl (by decide +kernel) (by decide +kernel) rfl ?_
      refine r_icmp_ge (pc' := 14) X 33 dX7_objectFrom_11 (by decide) rfl (fun c9 => ?_) (fun c9 => ?_)
      · replace hF := g_t c9 hF
        refine r_iconst (pc' := 34) X (-1 : Int32) dX7_objectFrom_33 (by decide) rfl ?_
        cases hF
        replace hF := congrArg some hI2
        cases hF
        exact RT.1 0 0 _ _ _ _ .int rfl rfl dX7_objectFrom_34 ⟨rfl, rfl⟩ (Nat.le_refl 0) (Nat.le_refl 0)
      · replace hF := g_f c9 hF
        refine r_aload_n (pc' := 15) X dX7_objectFrom_14 rfl 0 rfl rfl ?_
        refine r_get (pc' := 18) X uX7_objectFrom_X7 0 0 dX7_objectFrom_15 rfl rfl (by decide) kX7_objectFrom_1 rfl rfl ?_
        refine r_iconst (pc' := 19) X (0 : Int32) dX7_objectFrom_18 (by decide) rfl ?_
        refine r_iload_n (pc' := 20) X dX7_objectFrom_19 rfl 1 rfl rfl ?_
        refine r_iadd (pc' := 21) X dX7_objectFrom_20 rfl ?_
        obtain ⟨hi2, hF⟩ := g_gt hF
        refine r_iald (pc' := 22) X 1 dX7_objectFrom_21 rfl (g_vi hi2) rfl ?_
        refine r_if_le (pc' := 25) X 27 dX7_objectFrom_22 (by decide) rfl (fun c9 => ?_) (fun c9 => ?_)
        · replace hF := g_t c9 hF
          refine r_iinc (pc' := 30) (lv' := [(0, .ref a_z), (2, .int (v2_1 + (1 : Int32)))]) X (v2_1 + (1 : Int32)) dX7_objectFrom_27 1 rfl (congrArg (fun z => v2_1 + z) (by decide)) (by decide) [1, 0] rfl rfl ?_
          refine r_goto X 2 dX7_objectFrom_30 (by decide) ?_
          cases hF
          exact ih (v2_1 + (1 : Int32)) hI2
        · replace hF := g_f c9 hF
          refine r_iload_n (pc' := 26) X dX7_objectFrom_25 rfl 1 rfl rfl ?_
          cases hF
          replace hF := congrArg some hI2
          cases hF
          exact RT.1 0 0 _ _ _ _ .int rfl rfl dX7_objectFrom_26 ⟨rfl, rfl⟩ (Nat.le_refl 0) (Nat.le_refl 0)
  refine r_sub (lv' := [(0, .ref a_z), (2, .int p1)]) X [0, 2] rfl ?_
  exact hL2 g_fuel p1 hF
theorem kX7_next_1 : Cond.constant RX7 50 (-1000002) ∈ wsX7_next := List.mem_of_getElem? (i := 1) (by decide +kernel)
set_option maxHeartbeats 4000000 in
set_option maxRecDepth 100000 in
theorem mX7_next (D : va_G) (cI cZ cH : ClassId) (a_z : Nat) (a_mm : Nat) (a_old : Nat) (a_saved_ : Nat) (a_isSaved : Nat) (a_text : Nat) (a_far : Nat) (a_marked : Nat) (a_stack : Nat) (a_command : Nat) (textLength : Int32) (refused : Int32) (top : Int32) (highest : Int32) (overflowed : Int32) (commands : Int32) (at_ : Int32) (fault_ : Int32) (hash : Int64) (mm : Nat → Int32) (p1 : Int32) (r0 : Int32) (hF : FX7_next mm p1 = some r0) : g_CM yX7_next wsX7_next ({ frames := 2, cells := 0, slots := 0, locals := 44 }) D cI cZ cH [.ref a_z, .int p1] [oX7 a_z a_mm a_old a_saved_ a_isSaved a_text textLength refused a_far a_marked a_stack top highest overflowed a_command commands at_ fault_ hash, oI a_mm cI 1222 mm] 0 0 (g_Tm (some (.int r0)) [oX7 a_z a_mm a_old a_saved_ a_isSaved a_text textLength refused a_far a_marked a_stack top highest overflowed a_command commands at_ fault_ hash, oI a_mm cI 1222 mm]) := by
  refine g_met (own := RX7) (mn := "next") (cc := cX7_next) (maxL := 3) (ret := (some .int)) rfl rfl (by decide +kernel) rfl (Nat.le_of_ble_eq_true rfl) (fun G X RT => ?_)
  show G 0 0 [oX7 a_z a_mm a_old a_saved_ a_isSaved a_text textLength refused a_far a_marked a_stack top highest overflowed a_command commands at_ fault_ hash, oI a_mm cI 1222 mm] [(0, .ref a_z), (1, .int p1)] 0 []
  unfold FX7_next at hF
  refine r_iload_n (pc' := 1) X dX7_next_0 rfl 1 rfl rfl ?_
  refine r_iconst (pc' := 2) X (-1 : Int32) dX7_next_1 (by decide) rfl ?_
  refine r_icmp_ne (pc' := 5) X 11 dX7_next_2 (by decide) rfl (fun c9 => ?_) (fun c9 => ?_)
  · replace hF := g_f c9 hF
    refine r_aload_n (pc' := 12) X dX7_next_11 rfl 0 rfl rfl ?_
    refine r_iload_n (pc' := 13) X dX7_next_12 rfl 1 rfl rfl ?_
    obtain ⟨r1, hc2, hF⟩ := g_bd hF
    refine r_callVF (pc' := 16) (ws' := [oX7 a_z a_mm a_old a_saved_ a_isSaved a_text textLength refused a_far a_marked a_stack top highest overflowed a_command commands at_ fault_ hash, oI a_mm cI 1222 mm]) (st' := [.int r1]) X (mX7_objectOf D cI cZ cH a_z a_mm a_old a_saved_ a_isSaved a_text a_far a_marked a_stack a_command textLength refused top highest overflowed commands at_ fault_ hash mm p1 r1 hc2) 1 gX7_next_X7_objectOf rfl (by decide +kernel) rfl rfl ⟨Nat.le_of_ble_eq_true rfl, Nat.le_of_ble_eq_true rfl⟩ ⟨Nat.le_of_ble_eq_true rfl, Nat.le_of_ble_eq_true rfl⟩ rfl (Nat.le_of_ble_eq_true rfl) dX7_next_13 0 rfl rfl [0, 1] rfl rfl rfl rfl rfl rfl ?_
    refine r_istore_n (pc' := 17) (lv' := [(0, .ref a_z), (1, .int p1), (2, .int r1)]) X dX7_next_16 rfl (by decide) [1, 2, 0] rfl rfl ?_
    refine r_iload_n (pc' := 18) X dX7_next_17 rfl 2 rfl rfl ?_
    refine r_iconst (pc' := 19) X (-1 : Int32) dX7_next_18 (by decide) rfl ?_
    refine r_icmp_ne (pc' := 22) X 27 dX7_next_19 (by decide) rfl (fun c9 => ?_) (fun c9 => ?_)
    · replace hF := g_f c9 hF
      refine r_aload_n (pc' := 28) X dX7_next_27 rfl 0 rfl rfl ?_
      refine r_iload_n (pc' := 29) X dX7_next_28 rfl 2 rfl rfl ?_
      refine r_iconst (pc' := 30) X (1 : Int32) dX7_next_29 (by decide) rfl ?_
      refine r_iadd (pc' := 31) X dX7_next_30 rfl ?_
      obtain ⟨r3, hc4, hF⟩ := g_bd hF
      refine r_callVF (pc' := 34) (ws' := [oX7 a_z a_mm a_old a_saved_ a_isSaved a_text textLength refused a_far a_marked a_stack top highest overflowed a_command commands at_ fault_ hash, oI a_mm cI 1222 mm]) (st' := [.int r3]) X (mX7_objectFrom D cI cZ cH a_z a_mm a_old a_saved_ a_isSaved a_text a_far a_marked a_stack a_command textLength refused top highest overflowed commands at_ fault_ hash mm (r1 + (1 : Int32)) r3 hc4) 1 gX7_next_X7_objectFrom rfl (by decide +kernel) rfl rfl ⟨Nat.le_of_ble_eq_true rfl, Nat.le_of_ble_eq_true rfl⟩ ⟨Nat.le_of_ble_eq_true rfl, Nat.le_of_ble_eq_true rfl⟩ rfl (Nat.le_of_ble_eq_true rfl) dX7_next_31 0 rfl rfl [0, 1] rfl rfl rfl rfl rfl rfl ?_
      cases hF
      exact RT.1 0 0 _ _ _ _ .int rfl rfl dX7_next_34 ⟨rfl, rfl⟩ (Nat.le_refl 0) (Nat.le_refl 0)
    · replace hF := g_t c9 hF
      refine r_ldc (pc' := 24) X dX7_next_22 kX7_next_1 rfl ?_
      refine r_goto X 34 dX7_next_24 (by decide) ?_
      cases hF
      exact RT.1 0 0 _ _ _ _ .int rfl rfl dX7_next_34 ⟨rfl, rfl⟩ (Nat.le_refl 0) (Nat.le_refl 0)
  · replace hF := g_t c9 hF
    refine r_aload_n (pc' := 6) X dX7_next_5 rfl 0 rfl rfl ?_
    refine r_iconst (pc' := 7) X (0 : Int32) dX7_next_6 (by decide) rfl ?_
    obtain ⟨r5, hc6, hF⟩ := g_bd hF
    refine r_callVF (pc' := 10) (ws' := [oX7 a_z a_mm a_old a_saved_ a_isSaved a_text textLength refused a_far a_marked a_stack top highest overflowed a_command commands at_ fault_ hash, oI a_mm cI 1222 mm]) (st' := [.int r5]) X (mX7_objectFrom D cI cZ cH a_z a_mm a_old a_saved_ a_isSaved a_text a_far a_marked a_stack a_command textLength refused top highest overflowed commands at_ fault_ hash mm (0 : Int32) r5 hc6) 1 gX7_next_X7_objectFrom rfl (by decide +kernel) rfl rfl ⟨Nat.le_of_ble_eq_true rfl, Nat.le_of_ble_eq_true rfl⟩ ⟨Nat.le_of_ble_eq_true rfl, Nat.le_of_ble_eq_true rfl⟩ rfl (Nat.le_of_ble_eq_true rfl) dX7_next_7 0 rfl rfl [0, 1] rfl rfl rfl rfl rfl rfl ?_
    cases hF
    exact RT.1 0 0 _ _ _ _ .int rfl rfl dX7_next_10 ⟨rfl, rfl⟩ (Nat.le_refl 0) (Nat.le_refl 0)
theorem kX7_setField_2 : Cond.constant RX7 50 (-1000002) ∈ wsX7_setField := List.mem_of_getElem? (i := 2) (by decide +kernel)
theorem kX7_setField_1 : Cond.fieldLink RX7 7 "IslandHeapModel" "m" "[I" ∈ wsX7_setField := List.mem_of_getElem? (i := 1) (by decide +kernel)
theorem uX7_setField_X7 : ∀ w ∈ u_ws RX7 TX7 18, w ∈ wsX7_setField := by decide +kernel
set_option maxHeartbeats 4000000 in
set_option maxRecDepth 100000 in
theorem mX7_setField (D : va_G) (cI cZ cH : ClassId) (a_z : Nat) (a_mm : Nat) (a_old : Nat) (a_saved_ : Nat) (a_isSaved : Nat) (a_text : Nat) (a_far : Nat) (a_marked : Nat) (a_stack : Nat) (a_command : Nat) (textLength : Int32) (refused : Int32) (top : Int32) (highest : Int32) (overflowed : Int32) (commands : Int32) (at_ : Int32) (fault_ : Int32) (hash : Int64) (mm : Nat → Int32) (p1 : Int32) (p2 : Int32) (p3 : Int32) (r0 : Int32) (w_mm : Nat → Int32) (hF : FX7_setField mm p1 p2 p3 = some (r0, w_mm)) : g_CM yX7_setField wsX7_setField ({ frames := 3, cells := 0, slots := 0, locals := 65 }) D cI cZ cH [.ref a_z, .int p1, .int p2, .int p3] [oX7 a_z a_mm a_old a_saved_ a_isSaved a_text textLength refused a_far a_marked a_stack top highest overflowed a_command commands at_ fault_ hash, oI a_mm cI 1222 mm] 0 0 (g_Tm (some (.int r0)) [oX7 a_z a_mm a_old a_saved_ a_isSaved a_text textLength refused a_far a_marked a_stack top highest overflowed a_command commands at_ fault_ hash, oI a_mm cI 1222 w_mm]) := by
  refine g_met (own := RX7) (mn := "setField") (cc := cX7_setField) (maxL := 6) (ret := (some .int)) rfl rfl (by decide +kernel) rfl (Nat.le_of_ble_eq_true rfl) (fun G X RT => ?_)
  show G 0 0 [oX7 a_z a_mm a_old a_saved_ a_isSaved a_text textLength refused a_far a_marked a_stack top highest overflowed a_command commands at_ fault_ hash, oI a_mm cI 1222 mm] [(0, .ref a_z), (1, .int p1), (2, .int p2), (3, .int p3)] 0 []
  unfold FX7_setField at hF
  refine r_aload_n (pc' := 1) X dX7_setField_0 rfl 0 rfl rfl ?_
  refine r_iload_n (pc' := 2) X dX7_setField_1 rfl 1 rfl rfl ?_
  obtain ⟨r1, hc2, hF⟩ := g_bd hF
  refine r_callVF (pc' := 5) (ws' := [oX7 a_z a_mm a_old a_saved_ a_isSaved a_text textLength refused a_far a_marked a_stack top highest overflowed a_command commands at_ fault_ hash, oI a_mm cI 1222 mm]) (st' := [.int r1]) X (mX7_objectOf D cI cZ cH a_z a_mm a_old a_saved_ a_isSaved a_text a_far a_marked a_stack a_command textLength refused top highest overflowed commands at_ fault_ hash mm p1 r1 hc2) 1 gX7_setField_X7_objectOf rfl (by decide +kernel) rfl rfl ⟨Nat.le_of_ble_eq_true rfl, Nat.le_of_ble_eq_true rfl⟩ ⟨Nat.le_of_ble_eq_true rfl, Nat.le_of_ble_eq_true rfl⟩ rfl (Nat.le_of_ble_eq_true rfl) dX7_setField_2 0 rfl rfl [0, 1] rfl rfl rfl rfl rfl rfl ?_
  refine r_istore (pc' := 7) (lv' := [(0, .ref a_z), (1, .int p1), (2, .int p2), (3, .int p3), (4, .int r1)]) X dX7_setField_5 (by decide) [1, 2, 3, 4, 0] rfl rfl ?_
  refine r_iload (pc' := 9) X dX7_setField_7 4 rfl rfl ?_
  refine r_iconst (pc' := 10) X (-1 : Int32) dX7_setField_9 (by decide) rfl ?_
  refine r_icmp_eq (pc' := 13) X 42 dX7_setField_10 (by decide) rfl (fun c9 => ?_) (fun c9 => ?_)
  · replace hF := g_t c9 hF
    refine r_ldc (pc' := 44) X dX7_setField_42 kX7_setField_2 rfl ?_
    cases hF
    exact RT.1 0 0 _ _ _ _ .int rfl rfl dX7_setField_44 ⟨rfl, rfl⟩ (Nat.le_refl 0) (Nat.le_refl 0)
  · replace hF := g_f c9 hF
    refine r_iload_n (pc' := 14) X dX7_setField_13 rfl 2 rfl rfl ?_
    refine r_iconst (pc' := 15) X (0 : Int32) dX7_setField_14 (by decide) rfl ?_
    refine r_aload_n (pc' := 16) X dX7_setField_15 rfl 0 rfl rfl ?_
    refine r_get (pc' := 19) X uX7_setField_X7 0 0 dX7_setField_16 rfl rfl (by decide) kX7_setField_1 rfl rfl ?_
    refine r_sipush (pc' := 22) X (200 : Int32) dX7_setField_19 (by decide) rfl ?_
    refine r_iload (pc' := 24) X dX7_setField_22 4 rfl rfl ?_
    refine r_iadd (pc' := 25) X dX7_setField_24 rfl ?_
    obtain ⟨hi3, hF⟩ := g_gt hF
    refine r_iald (pc' := 26) X 1 dX7_setField_25 rfl (g_vi hi3) rfl ?_
    refine r_iconst (pc' := 27) X (1 : Int32) dX7_setField_26 (by decide) rfl ?_
    refine r_isub (pc' := 28) X dX7_setField_27 rfl ?_
    obtain ⟨r4, hc5, hF⟩ := g_bd hF
    refine r_callSF (pc' := 31) (ws' := [oX7 a_z a_mm a_old a_saved_ a_isSaved a_text textLength refused a_far a_marked a_stack top highest overflowed a_command commands at_ fault_ hash, oI a_mm cI 1222 mm]) (st' := [.int r4]) X (mX7_in D cI cZ cH p2 (0 : Int32) ((mm ((200 : Int32) + r1).toNatClampNeg) - (1 : Int32)) r4 hc5) 3 gX7_setField_X7_in rfl (by decide +kernel) rfl rfl ⟨Nat.le_of_ble_eq_true rfl, Nat.le_of_ble_eq_true rfl⟩ ⟨Nat.le_of_ble_eq_true rfl, Nat.le_of_ble_eq_true rfl⟩ rfl (Nat.le_of_ble_eq_true rfl) dX7_setField_28 [] rfl rfl rfl rfl rfl rfl ?_
    refine r_if_eq (pc' := 34) X 42 dX7_setField_31 (by decide) rfl (fun c9 => ?_) (fun c9 => ?_)
    · replace hF := g_t c9 hF
      refine r_ldc (pc' := 44) X dX7_setField_42 kX7_setField_2 rfl ?_
      cases hF
      exact RT.1 0 0 _ _ _ _ .int rfl rfl dX7_setField_44 ⟨rfl, rfl⟩ (Nat.le_refl 0) (Nat.le_refl 0)
    · replace hF := g_f c9 hF
      refine r_aload_n (pc' := 35) X dX7_setField_34 rfl 0 rfl rfl ?_
      refine r_iload_n (pc' := 36) X dX7_setField_35 rfl 3 rfl rfl ?_
      obtain ⟨r6, hc7, hF⟩ := g_bd hF
      refine r_callVF (pc' := 39) (ws' := [oX7 a_z a_mm a_old a_saved_ a_isSaved a_text textLength refused a_far a_marked a_stack top highest overflowed a_command commands at_ fault_ hash, oI a_mm cI 1222 mm]) (st' := [.int r6]) X (mX7_isReference D cI cZ cH a_z a_mm a_old a_saved_ a_isSaved a_text a_far a_marked a_stack a_command textLength refused top highest overflowed commands at_ fault_ hash mm p3 r6 hc7) 1 gX7_setField_X7_isReference rfl (by decide +kernel) rfl rfl ⟨Nat.le_of_ble_eq_true rfl, Nat.le_of_ble_eq_true rfl⟩ ⟨Nat.le_of_ble_eq_true rfl, Nat.le_of_ble_eq_true rfl⟩ rfl (Nat.le_of_ble_eq_true rfl) dX7_setField_36 0 rfl rfl [0, 1] rfl rfl rfl rfl rfl rfl ?_
      refine r_if_ne (pc' := 42) X 45 dX7_setField_39 (by decide) rfl (fun c9 => ?_) (fun c9 => ?_)
      · replace hF := g_f c9 hF
        refine r_aload_n (pc' := 46) X dX7_setField_45 rfl 0 rfl rfl ?_
        refine r_get (pc' := 49) X uX7_setField_X7 0 0 dX7_setField_46 rfl rfl (by decide) kX7_setField_1 rfl rfl ?_
        refine r_sipush (pc' := 52) X (800 : Int32) dX7_setField_49 (by decide) rfl ?_
        refine r_iload (pc' := 54) X dX7_setField_52 4 rfl rfl ?_
        refine r_iadd (pc' := 55) X dX7_setField_54 rfl ?_
        refine r_iconst (pc' := 56) X (1 : Int32) dX7_setField_55 (by decide) rfl ?_
        refine r_iadd (pc' := 57) X dX7_setField_56 rfl ?_
        refine r_iload_n (pc' := 58) X dX7_setField_57 rfl 2 rfl rfl ?_
        refine r_iadd (pc' := 59) X dX7_setField_58 rfl ?_
        obtain ⟨hi8, hF⟩ := g_gt hF
        refine r_iald (pc' := 60) X 1 dX7_setField_59 rfl (g_vi hi8) rfl ?_
        refine r_istore (pc' := 62) (lv' := [(0, .ref a_z), (1, .int p1), (2, .int p2), (3, .int p3), (4, .int r1), (5, .int (mm ((((800 : Int32) + r1) + (1 : Int32)) + p2).toNatClampNeg))]) X dX7_setField_60 (by decide) [1, 2, 3, 4, 5, 0] rfl rfl ?_
        refine r_aload_n (pc' := 63) X dX7_setField_62 rfl 0 rfl rfl ?_
        refine r_get (pc' := 66) X uX7_setField_X7 0 0 dX7_setField_63 rfl rfl (by decide) kX7_setField_1 rfl rfl ?_
        refine r_sipush (pc' := 69) X (800 : Int32) dX7_setField_66 (by decide) rfl ?_
        refine r_iload (pc' := 71) X dX7_setField_69 4 rfl rfl ?_
        refine r_iadd (pc' := 72) X dX7_setField_71 rfl ?_
        refine r_iconst (pc' := 73) X (1 : Int32) dX7_setField_72 (by decide) rfl ?_
        refine r_iadd (pc' := 74) X dX7_setField_73 rfl ?_
        refine r_iload_n (pc' := 75) X dX7_setField_74 rfl 2 rfl rfl ?_
        refine r_iadd (pc' := 76) X dX7_setField_75 rfl ?_
        refine r_iload_n (pc' := 77) X dX7_setField_76 rfl 3 rfl rfl ?_
        obtain ⟨hi9, hF⟩ := g_gt hF
        refine r_iast (pc' := 78) (ws' := [oX7 a_z a_mm a_old a_saved_ a_isSaved a_text textLength refused a_far a_marked a_stack top highest overflowed a_command commands at_ fault_ hash, oI a_mm cI 1222 (upd mm ((((800 : Int32) + r1) + (1 : Int32)) + p2).toNatClampNeg p3)]) X 1 dX7_setField_77 rfl (g_vi hi9) rfl rfl ?_
        refine r_iload (pc' := 80) X dX7_setField_78 5 rfl rfl ?_
        cases hF
        exact RT.1 0 0 _ _ _ _ .int rfl rfl dX7_setField_80 ⟨rfl, rfl⟩ (Nat.le_refl 0) (Nat.le_refl 0)
      · replace hF := g_t c9 hF
        refine r_ldc (pc' := 44) X dX7_setField_42 kX7_setField_2 rfl ?_
        cases hF
        exact RT.1 0 0 _ _ _ _ .int rfl rfl dX7_setField_44 ⟨rfl, rfl⟩ (Nat.le_refl 0) (Nat.le_refl 0)
theorem kX7_field_2 : Cond.constant RX7 50 (-1000002) ∈ wsX7_field := List.mem_of_getElem? (i := 2) (by decide +kernel)
theorem kX7_field_1 : Cond.fieldLink RX7 7 "IslandHeapModel" "m" "[I" ∈ wsX7_field := List.mem_of_getElem? (i := 1) (by decide +kernel)
theorem uX7_field_X7 : ∀ w ∈ u_ws RX7 TX7 18, w ∈ wsX7_field := by decide +kernel
set_option maxHeartbeats 4000000 in
set_option maxRecDepth 100000 in
theorem mX7_field (D : va_G) (cI cZ cH : ClassId) (a_z : Nat) (a_mm : Nat) (a_old : Nat) (a_saved_ : Nat) (a_isSaved : Nat) (a_text : Nat) (a_far : Nat) (a_marked : Nat) (a_stack : Nat) (a_command : Nat) (textLength : Int32) (refused : Int32) (top : Int32) (highest : Int32) (overflowed : Int32) (commands : Int32) (at_ : Int32) (fault_ : Int32) (hash : Int64) (mm : Nat → Int32) (p1 : Int32) (p2 : Int32) (r0 : Int32) (hF : FX7_field mm p1 p2 = some r0) : g_CM yX7_field wsX7_field ({ frames := 2, cells := 0, slots := 0, locals := 44 }) D cI cZ cH [.ref a_z, .int p1, .int p2] [oX7 a_z a_mm a_old a_saved_ a_isSaved a_text textLength refused a_far a_marked a_stack top highest overflowed a_command commands at_ fault_ hash, oI a_mm cI 1222 mm] 0 0 (g_Tm (some (.int r0)) [oX7 a_z a_mm a_old a_saved_ a_isSaved a_text textLength refused a_far a_marked a_stack top highest overflowed a_command commands at_ fault_ hash, oI a_mm cI 1222 mm]) := by
  refine g_met (own := RX7) (mn := "field") (cc := cX7_field) (maxL := 4) (ret := (some .int)) rfl rfl (by decide +kernel) rfl (Nat.le_of_ble_eq_true rfl) (fun G X RT => ?_)
  show G 0 0 [oX7 a_z a_mm a_old a_saved_ a_isSaved a_text textLength refused a_far a_marked a_stack top highest overflowed a_command commands at_ fault_ hash, oI a_mm cI 1222 mm] [(0, .ref a_z), (1, .int p1), (2, .int p2)] 0 []
  unfold FX7_field at hF
  refine r_aload_n (pc' := 1) X dX7_field_0 rfl 0 rfl rfl ?_
  refine r_iload_n (pc' := 2) X dX7_field_1 rfl 1 rfl rfl ?_
  obtain ⟨r1, hc2, hF⟩ := g_bd hF
  refine r_callVF (pc' := 5) (ws' := [oX7 a_z a_mm a_old a_saved_ a_isSaved a_text textLength refused a_far a_marked a_stack top highest overflowed a_command commands at_ fault_ hash, oI a_mm cI 1222 mm]) (st' := [.int r1]) X (mX7_objectOf D cI cZ cH a_z a_mm a_old a_saved_ a_isSaved a_text a_far a_marked a_stack a_command textLength refused top highest overflowed commands at_ fault_ hash mm p1 r1 hc2) 1 gX7_field_X7_objectOf rfl (by decide +kernel) rfl rfl ⟨Nat.le_of_ble_eq_true rfl, Nat.le_of_ble_eq_true rfl⟩ ⟨Nat.le_of_ble_eq_true rfl, Nat.le_of_ble_eq_true rfl⟩ rfl (Nat.le_of_ble_eq_true rfl) dX7_field_2 0 rfl rfl [0, 1] rfl rfl rfl rfl rfl rfl ?_
  refine r_istore_n (pc' := 6) (lv' := [(0, .ref a_z), (1, .int p1), (2, .int p2), (3, .int r1)]) X dX7_field_5 rfl (by decide) [1, 2, 3, 0] rfl rfl ?_
  refine r_iload_n (pc' := 7) X dX7_field_6 rfl 3 rfl rfl ?_
  refine r_iconst (pc' := 8) X (-1 : Int32) dX7_field_7 (by decide) rfl ?_
  refine r_icmp_eq (pc' := 11) X 31 dX7_field_8 (by decide) rfl (fun c9 => ?_) (fun c9 => ?_)
  · replace hF := g_t c9 hF
    refine r_ldc (pc' := 33) X dX7_field_31 kX7_field_2 rfl ?_
    refine r_goto X 50 dX7_field_33 (by decide) ?_
    cases hF
    exact RT.1 0 0 _ _ _ _ .int rfl rfl dX7_field_50 ⟨rfl, rfl⟩ (Nat.le_refl 0) (Nat.le_refl 0)
  · replace hF := g_f c9 hF
    refine r_iload_n (pc' := 12) X dX7_field_11 rfl 2 rfl rfl ?_
    refine r_iconst (pc' := 13) X (0 : Int32) dX7_field_12 (by decide) rfl ?_
    refine r_aload_n (pc' := 14) X dX7_field_13 rfl 0 rfl rfl ?_
    refine r_get (pc' := 17) X uX7_field_X7 0 0 dX7_field_14 rfl rfl (by decide) kX7_field_1 rfl rfl ?_
    refine r_sipush (pc' := 20) X (200 : Int32) dX7_field_17 (by decide) rfl ?_
    refine r_iload_n (pc' := 21) X dX7_field_20 rfl 3 rfl rfl ?_
    refine r_iadd (pc' := 22) X dX7_field_21 rfl ?_
    obtain ⟨hi3, hF⟩ := g_gt hF
    refine r_iald (pc' := 23) X 1 dX7_field_22 rfl (g_vi hi3) rfl ?_
    refine r_iconst (pc' := 24) X (1 : Int32) dX7_field_23 (by decide) rfl ?_
    refine r_isub (pc' := 25) X dX7_field_24 rfl ?_
    obtain ⟨r4, hc5, hF⟩ := g_bd hF
    refine r_callSF (pc' := 28) (ws' := [oX7 a_z a_mm a_old a_saved_ a_isSaved a_text textLength refused a_far a_marked a_stack top highest overflowed a_command commands at_ fault_ hash, oI a_mm cI 1222 mm]) (st' := [.int r4]) X (mX7_in D cI cZ cH p2 (0 : Int32) ((mm ((200 : Int32) + r1).toNatClampNeg) - (1 : Int32)) r4 hc5) 3 gX7_field_X7_in rfl (by decide +kernel) rfl rfl ⟨Nat.le_of_ble_eq_true rfl, Nat.le_of_ble_eq_true rfl⟩ ⟨Nat.le_of_ble_eq_true rfl, Nat.le_of_ble_eq_true rfl⟩ rfl (Nat.le_of_ble_eq_true rfl) dX7_field_25 [] rfl rfl rfl rfl rfl rfl ?_
    refine r_if_ne (pc' := 31) X 36 dX7_field_28 (by decide) rfl (fun c9 => ?_) (fun c9 => ?_)
    · replace hF := g_f c9 hF
      refine r_aload_n (pc' := 37) X dX7_field_36 rfl 0 rfl rfl ?_
      refine r_get (pc' := 40) X uX7_field_X7 0 0 dX7_field_37 rfl rfl (by decide) kX7_field_1 rfl rfl ?_
      refine r_sipush (pc' := 43) X (800 : Int32) dX7_field_40 (by decide) rfl ?_
      refine r_iload_n (pc' := 44) X dX7_field_43 rfl 3 rfl rfl ?_
      refine r_iadd (pc' := 45) X dX7_field_44 rfl ?_
      refine r_iconst (pc' := 46) X (1 : Int32) dX7_field_45 (by decide) rfl ?_
      refine r_iadd (pc' := 47) X dX7_field_46 rfl ?_
      refine r_iload_n (pc' := 48) X dX7_field_47 rfl 2 rfl rfl ?_
      refine r_iadd (pc' := 49) X dX7_field_48 rfl ?_
      obtain ⟨hi6, hF⟩ := g_gt hF
      refine r_iald (pc' := 50) X 1 dX7_field_49 rfl (g_vi hi6) rfl ?_
      cases hF
      exact RT.1 0 0 _ _ _ _ .int rfl rfl dX7_field_50 ⟨rfl, rfl⟩ (Nat.le_refl 0) (Nat.le_refl 0)
    · replace hF := g_t c9 hF
      refine r_ldc (pc' := 33) X dX7_field_31 kX7_field_2 rfl ?_
      refine r_goto X 50 dX7_field_33 (by decide) ?_
      cases hF
      exact RT.1 0 0 _ _ _ _ .int rfl rfl dX7_field_50 ⟨rfl, rfl⟩ (Nat.le_refl 0) (Nat.le_refl 0)
theorem kX7_setData_3 : Cond.constant RX7 50 (-1000002) ∈ wsX7_setData := List.mem_of_getElem? (i := 3) (by decide +kernel)
theorem kX7_setData_1 : Cond.constant RX7 80 (-1000000) ∈ wsX7_setData := List.mem_of_getElem? (i := 1) (by decide +kernel)
theorem kX7_setData_2 : Cond.constant RX7 81 (1000000) ∈ wsX7_setData := List.mem_of_getElem? (i := 2) (by decide +kernel)
theorem kX7_setData_4 : Cond.fieldLink RX7 7 "IslandHeapModel" "m" "[I" ∈ wsX7_setData := List.mem_of_getElem? (i := 4) (by decide +kernel)
theorem uX7_setData_X7 : ∀ w ∈ u_ws RX7 TX7 18, w ∈ wsX7_setData := by decide +kernel
set_option maxHeartbeats 4000000 in
set_option maxRecDepth 100000 in
theorem mX7_setData (D : va_G) (cI cZ cH : ClassId) (a_z : Nat) (a_mm : Nat) (a_old : Nat) (a_saved_ : Nat) (a_isSaved : Nat) (a_text : Nat) (a_far : Nat) (a_marked : Nat) (a_stack : Nat) (a_command : Nat) (textLength : Int32) (refused : Int32) (top : Int32) (highest : Int32) (overflowed : Int32) (commands : Int32) (at_ : Int32) (fault_ : Int32) (hash : Int64) (mm : Nat → Int32) (p1 : Int32) (p2 : Int32) (p3 : Int32) (r0 : Int32) (w_mm : Nat → Int32) (hF : FX7_setData mm p1 p2 p3 = some (r0, w_mm)) : g_CM yX7_setData wsX7_setData ({ frames := 2, cells := 0, slots := 0, locals := 44 }) D cI cZ cH [.ref a_z, .int p1, .int p2, .int p3] [oX7 a_z a_mm a_old a_saved_ a_isSaved a_text textLength refused a_far a_marked a_stack top highest overflowed a_command commands at_ fault_ hash, oI a_mm cI 1222 mm] 0 0 (g_Tm (some (.int r0)) [oX7 a_z a_mm a_old a_saved_ a_isSaved a_text textLength refused a_far a_marked a_stack top highest overflowed a_command commands at_ fault_ hash, oI a_mm cI 1222 w_mm]) := by
  refine g_met (own := RX7) (mn := "setData") (cc := cX7_setData) (maxL := 7) (ret := (some .int)) rfl rfl (by decide +kernel) rfl (Nat.le_of_ble_eq_true rfl) (fun G X RT => ?_)
  show G 0 0 [oX7 a_z a_mm a_old a_saved_ a_isSaved a_text textLength refused a_far a_marked a_stack top highest overflowed a_command commands at_ fault_ hash, oI a_mm cI 1222 mm] [(0, .ref a_z), (1, .int p1), (2, .int p2), (3, .int p3)] 0 []
  unfold FX7_setData at hF
  refine r_aload_n (pc' := 1) X dX7_setData_0 rfl 0 rfl rfl ?_
  refine r_iload_n (pc' := 2) X dX7_setData_1 rfl 1 rfl rfl ?_
  obtain ⟨r1, hc2, hF⟩ := g_bd hF
  refine r_callVF (pc' := 5) (ws' := [oX7 a_z a_mm a_old a_saved_ a_isSaved a_text textLength refused a_far a_marked a_stack top highest overflowed a_command commands at_ fault_ hash, oI a_mm cI 1222 mm]) (st' := [.int r1]) X (mX7_objectOf D cI cZ cH a_z a_mm a_old a_saved_ a_isSaved a_text a_far a_marked a_stack a_command textLength refused top highest overflowed commands at_ fault_ hash mm p1 r1 hc2) 1 gX7_setData_X7_objectOf rfl (by decide +kernel) rfl rfl ⟨Nat.le_of_ble_eq_true rfl, Nat.le_of_ble_eq_true rfl⟩ ⟨Nat.le_of_ble_eq_true rfl, Nat.le_of_ble_eq_true rfl⟩ rfl (Nat.le_of_ble_eq_true rfl) dX7_setData_2 0 rfl rfl [0, 1] rfl rfl rfl rfl rfl rfl ?_
  refine r_istore (pc' := 7) (lv' := [(0, .ref a_z), (1, .int p1), (2, .int p2), (3, .int p3), (4, .int r1)]) X dX7_setData_5 (by decide) [1, 2, 3, 4, 0] rfl rfl ?_
  refine r_iload (pc' := 9) X dX7_setData_7 4 rfl rfl ?_
  refine r_iconst (pc' := 10) X (-1 : Int32) dX7_setData_9 (by decide) rfl ?_
  refine r_icmp_eq (pc' := 13) X 40 dX7_setData_10 (by decide) rfl (fun c9 => ?_) (fun c9 => ?_)
  · replace hF := g_t c9 hF
    refine r_ldc (pc' := 42) X dX7_setData_40 kX7_setData_3 rfl ?_
    cases hF
    exact RT.1 0 0 _ _ _ _ .int rfl rfl dX7_setData_42 ⟨rfl, rfl⟩ (Nat.le_refl 0) (Nat.le_refl 0)
  · replace hF := g_f c9 hF
    refine r_iload_n (pc' := 14) X dX7_setData_13 rfl 2 rfl rfl ?_
    refine r_iconst (pc' := 15) X (0 : Int32) dX7_setData_14 (by decide) rfl ?_
    refine r_aload_n (pc' := 16) X dX7_setData_15 rfl 0 rfl rfl ?_
    refine r_iload (pc' := 18) X dX7_setData_16 4 rfl rfl ?_
    obtain ⟨r3, hc4, hF⟩ := g_bd hF
    refine r_callVF (pc' := 21) (ws' := [oX7 a_z a_mm a_old a_saved_ a_isSaved a_text textLength refused a_far a_marked a_stack top highest overflowed a_command commands at_ fault_ hash, oI a_mm cI 1222 mm]) (st' := [.int r3, .int (0 : Int32), .int p2]) X (mX7_dataOf D cI cZ cH a_z a_mm a_old a_saved_ a_isSaved a_text a_far a_marked a_stack a_command textLength refused top highest overflowed commands at_ fault_ hash mm r1 r3 hc4) 1 gX7_setData_X7_dataOf rfl (by decide +kernel) rfl rfl ⟨Nat.le_of_ble_eq_true rfl, Nat.le_of_ble_eq_true rfl⟩ ⟨Nat.le_of_ble_eq_true rfl, Nat.le_of_ble_eq_true rfl⟩ rfl (Nat.le_of_ble_eq_true rfl) dX7_setData_18 0 rfl rfl [0, 1] rfl rfl rfl rfl rfl rfl ?_
    refine r_iconst (pc' := 22) X (1 : Int32) dX7_setData_21 (by decide) rfl ?_
    refine r_isub (pc' := 23) X dX7_setData_22 rfl ?_
    obtain ⟨r5, hc6, hF⟩ := g_bd hF
    refine r_callSF (pc' := 26) (ws' := [oX7 a_z a_mm a_old a_saved_ a_isSaved a_text textLength refused a_far a_marked a_stack top highest overflowed a_command commands at_ fault_ hash, oI a_mm cI 1222 mm]) (st' := [.int r5]) X (mX7_in D cI cZ cH p2 (0 : Int32) (r3 - (1 : Int32)) r5 hc6) 3 gX7_setData_X7_in rfl (by decide +kernel) rfl rfl ⟨Nat.le_of_ble_eq_true rfl, Nat.le_of_ble_eq_true rfl⟩ ⟨Nat.le_of_ble_eq_true rfl, Nat.le_of_ble_eq_true rfl⟩ rfl (Nat.le_of_ble_eq_true rfl) dX7_setData_23 [] rfl rfl rfl rfl rfl rfl ?_
    refine r_if_eq (pc' := 29) X 40 dX7_setData_26 (by decide) rfl (fun c9 => ?_) (fun c9 => ?_)
    · replace hF := g_t c9 hF
      refine r_ldc (pc' := 42) X dX7_setData_40 kX7_setData_3 rfl ?_
      cases hF
      exact RT.1 0 0 _ _ _ _ .int rfl rfl dX7_setData_42 ⟨rfl, rfl⟩ (Nat.le_refl 0) (Nat.le_refl 0)
    · replace hF := g_f c9 hF
      refine r_iload_n (pc' := 30) X dX7_setData_29 rfl 3 rfl rfl ?_
      refine r_ldc (pc' := 32) X dX7_setData_30 kX7_setData_1 rfl ?_
      refine r_ldc (pc' := 34) X dX7_setData_32 kX7_setData_2 rfl ?_
      obtain ⟨r7, hc8, hF⟩ := g_bd hF
      refine r_callSF (pc' := 37) (ws' := [oX7 a_z a_mm a_old a_saved_ a_isSaved a_text textLength refused a_far a_marked a_stack top highest overflowed a_command commands at_ fault_ hash, oI a_mm cI 1222 mm]) (st' := [.int r7]) X (mX7_in D cI cZ cH p3 (-1000000 : Int32) (1000000 : Int32) r7 hc8) 3 gX7_setData_X7_in rfl (by decide +kernel) rfl rfl ⟨Nat.le_of_ble_eq_true rfl, Nat.le_of_ble_eq_true rfl⟩ ⟨Nat.le_of_ble_eq_true rfl, Nat.le_of_ble_eq_true rfl⟩ rfl (Nat.le_of_ble_eq_true rfl) dX7_setData_34 [] rfl rfl rfl rfl rfl rfl ?_
      refine r_if_ne (pc' := 40) X 43 dX7_setData_37 (by decide) rfl (fun c9 => ?_) (fun c9 => ?_)
      · replace hF := g_f c9 hF
        refine r_sipush (pc' := 46) X (800 : Int32) dX7_setData_43 (by decide) rfl ?_
        refine r_iload (pc' := 48) X dX7_setData_46 4 rfl rfl ?_
        refine r_iadd (pc' := 49) X dX7_setData_48 rfl ?_
        refine r_iconst (pc' := 50) X (1 : Int32) dX7_setData_49 (by decide) rfl ?_
        refine r_iadd (pc' := 51) X dX7_setData_50 rfl ?_
        refine r_aload_n (pc' := 52) X dX7_setData_51 rfl 0 rfl rfl ?_
        refine r_get (pc' := 55) X uX7_setData_X7 0 0 dX7_setData_52 rfl rfl (by decide) kX7_setData_4 rfl rfl ?_
        refine r_sipush (pc' := 58) X (200 : Int32) dX7_setData_55 (by decide) rfl ?_
        refine r_iload (pc' := 60) X dX7_setData_58 4 rfl rfl ?_
        refine r_iadd (pc' := 61) X dX7_setData_60 rfl ?_
        obtain ⟨hi9, hF⟩ := g_gt hF
        refine r_iald (pc' := 62) X 1 dX7_setData_61 rfl (g_vi hi9) rfl ?_
        refine r_iadd (pc' := 63) X dX7_setData_62 rfl ?_
        refine r_iload_n (pc' := 64) X dX7_setData_63 rfl 2 rfl rfl ?_
        refine r_iadd (pc' := 65) X dX7_setData_64 rfl ?_
        refine r_istore (pc' := 67) (lv' := [(0, .ref a_z), (1, .int p1), (2, .int p2), (3, .int p3), (4, .int r1), (5, .int (((((800 : Int32) + r1) + (1 : Int32)) + (mm ((200 : Int32) + r1).toNatClampNeg)) + p2))]) X dX7_setData_65 (by decide) [1, 2, 3, 4, 5, 0] rfl rfl ?_
        refine r_aload_n (pc' := 68) X dX7_setData_67 rfl 0 rfl rfl ?_
        refine r_get (pc' := 71) X uX7_setData_X7 0 0 dX7_setData_68 rfl rfl (by decide) kX7_setData_4 rfl rfl ?_
        refine r_iload (pc' := 73) X dX7_setData_71 5 rfl rfl ?_
        obtain ⟨hi10, hF⟩ := g_gt hF
        refine r_iald (pc' := 74) X 1 dX7_setData_73 rfl (g_vi hi10) rfl ?_
        refine r_istore (pc' := 76) (lv' := [(0, .ref a_z), (1, .int p1), (2, .int p2), (3, .int p3), (4, .int r1), (5, .int (((((800 : Int32) + r1) + (1 : Int32)) + (mm ((200 : Int32) + r1).toNatClampNeg)) + p2)), (6, .int (mm (((((800 : Int32) + r1) + (1 : Int32)) + (mm ((200 : Int32) + r1).toNatClampNeg)) + p2).toNatClampNeg))]) X dX7_setData_74 (by decide) [1, 2, 3, 4, 5, 6, 0] rfl rfl ?_
        refine r_aload_n (pc' := 77) X dX7_setData_76 rfl 0 rfl rfl ?_
        refine r_get (pc' := 80) X uX7_setData_X7 0 0 dX7_setData_77 rfl rfl (by decide) kX7_setData_4 rfl rfl ?_
        refine r_iload (pc' := 82) X dX7_setData_80 5 rfl rfl ?_
        refine r_iload_n (pc' := 83) X dX7_setData_82 rfl 3 rfl rfl ?_
        obtain ⟨hi11, hF⟩ := g_gt hF
        refine r_iast (pc' := 84) (ws' := [oX7 a_z a_mm a_old a_saved_ a_isSaved a_text textLength refused a_far a_marked a_stack top highest overflowed a_command commands at_ fault_ hash, oI a_mm cI 1222 (upd mm (((((800 : Int32) + r1) + (1 : Int32)) + (mm ((200 : Int32) + r1).toNatClampNeg)) + p2).toNatClampNeg p3)]) X 1 dX7_setData_83 rfl (g_vi hi11) rfl rfl ?_
        refine r_iload (pc' := 86) X dX7_setData_84 6 rfl rfl ?_
        cases hF
        exact RT.1 0 0 _ _ _ _ .int rfl rfl dX7_setData_86 ⟨rfl, rfl⟩ (Nat.le_refl 0) (Nat.le_refl 0)
      · replace hF := g_t c9 hF
        refine r_ldc (pc' := 42) X dX7_setData_40 kX7_setData_3 rfl ?_
        cases hF
        exact RT.1 0 0 _ _ _ _ .int rfl rfl dX7_setData_42 ⟨rfl, rfl⟩ (Nat.le_refl 0) (Nat.le_refl 0)
theorem kX7_data_1 : Cond.constant RX7 50 (-1000002) ∈ wsX7_data := List.mem_of_getElem? (i := 1) (by decide +kernel)
theorem kX7_data_2 : Cond.fieldLink RX7 7 "IslandHeapModel" "m" "[I" ∈ wsX7_data := List.mem_of_getElem? (i := 2) (by decide +kernel)
theorem uX7_data_X7 : ∀ w ∈ u_ws RX7 TX7 18, w ∈ wsX7_data := by decide +kernel
set_option maxHeartbeats 4000000 in
set_option maxRecDepth 100000 in
theorem mX7_data (D : va_G) (cI cZ cH : ClassId) (a_z : Nat) (a_mm : Nat) (a_old : Nat) (a_saved_ : Nat) (a_isSaved : Nat) (a_text : Nat) (a_far : Nat) (a_marked : Nat) (a_stack : Nat) (a_command : Nat) (textLength : Int32) (refused : Int32) (top : Int32) (highest : Int32) (overflowed : Int32) (commands : Int32) (at_ : Int32) (fault_ : Int32) (hash : Int64) (mm : Nat → Int32) (p1 : Int32) (p2 : Int32) (r0 : Int32) (hF : FX7_data mm p1 p2 = some r0) : g_CM yX7_data wsX7_data ({ frames := 2, cells := 0, slots := 0, locals := 44 }) D cI cZ cH [.ref a_z, .int p1, .int p2] [oX7 a_z a_mm a_old a_saved_ a_isSaved a_text textLength refused a_far a_marked a_stack top highest overflowed a_command commands at_ fault_ hash, oI a_mm cI 1222 mm] 0 0 (g_Tm (some (.int r0)) [oX7 a_z a_mm a_old a_saved_ a_isSaved a_text textLength refused a_far a_marked a_stack top highest overflowed a_command commands at_ fault_ hash, oI a_mm cI 1222 mm]) := by
  refine g_met (own := RX7) (mn := "data") (cc := cX7_data) (maxL := 4) (ret := (some .int)) rfl rfl (by decide +kernel) rfl (Nat.le_of_ble_eq_true rfl) (fun G X RT => ?_)
  show G 0 0 [oX7 a_z a_mm a_old a_saved_ a_isSaved a_text textLength refused a_far a_marked a_stack top highest overflowed a_command commands at_ fault_ hash, oI a_mm cI 1222 mm] [(0, .ref a_z), (1, .int p1), (2, .int p2)] 0 []
  unfold FX7_data at hF
  refine r_aload_n (pc' := 1) X dX7_data_0 rfl 0 rfl rfl ?_
  refine r_iload_n (pc' := 2) X dX7_data_1 rfl 1 rfl rfl ?_
  obtain ⟨r1, hc2, hF⟩ := g_bd hF
  refine r_callVF (pc' := 5) (ws' := [oX7 a_z a_mm a_old a_saved_ a_isSaved a_text textLength refused a_far a_marked a_stack top highest overflowed a_command commands at_ fault_ hash, oI a_mm cI 1222 mm]) (st' := [.int r1]) X (mX7_objectOf D cI cZ cH a_z a_mm a_old a_saved_ a_isSaved a_text a_far a_marked a_stack a_command textLength refused top highest overflowed commands at_ fault_ hash mm p1 r1 hc2) 1 gX7_data_X7_objectOf rfl (by decide +kernel) rfl rfl ⟨Nat.le_of_ble_eq_true rfl, Nat.le_of_ble_eq_true rfl⟩ ⟨Nat.le_of_ble_eq_true rfl, Nat.le_of_ble_eq_true rfl⟩ rfl (Nat.le_of_ble_eq_true rfl) dX7_data_2 0 rfl rfl [0, 1] rfl rfl rfl rfl rfl rfl ?_
  refine r_istore_n (pc' := 6) (lv' := [(0, .ref a_z), (1, .int p1), (2, .int p2), (3, .int r1)]) X dX7_data_5 rfl (by decide) [1, 2, 3, 0] rfl rfl ?_
  refine r_iload_n (pc' := 7) X dX7_data_6 rfl 3 rfl rfl ?_
  refine r_iconst (pc' := 8) X (-1 : Int32) dX7_data_7 (by decide) rfl ?_
  refine r_icmp_eq (pc' := 11) X 26 dX7_data_8 (by decide) rfl (fun c9 => ?_) (fun c9 => ?_)
  · replace hF := g_t c9 hF
    refine r_ldc (pc' := 28) X dX7_data_26 kX7_data_1 rfl ?_
    refine r_goto X 56 dX7_data_28 (by decide) ?_
    cases hF
    exact RT.1 0 0 _ _ _ _ .int rfl rfl dX7_data_56 ⟨rfl, rfl⟩ (Nat.le_refl 0) (Nat.le_refl 0)
  · replace hF := g_f c9 hF
    refine r_iload_n (pc' := 12) X dX7_data_11 rfl 2 rfl rfl ?_
    refine r_iconst (pc' := 13) X (0 : Int32) dX7_data_12 (by decide) rfl ?_
    refine r_aload_n (pc' := 14) X dX7_data_13 rfl 0 rfl rfl ?_
    refine r_iload_n (pc' := 15) X dX7_data_14 rfl 3 rfl rfl ?_
    obtain ⟨r3, hc4, hF⟩ := g_bd hF
    refine r_callVF (pc' := 18) (ws' := [oX7 a_z a_mm a_old a_saved_ a_isSaved a_text textLength refused a_far a_marked a_stack top highest overflowed a_command commands at_ fault_ hash, oI a_mm cI 1222 mm]) (st' := [.int r3, .int (0 : Int32), .int p2]) X (mX7_dataOf D cI cZ cH a_z a_mm a_old a_saved_ a_isSaved a_text a_far a_marked a_stack a_command textLength refused top highest overflowed commands at_ fault_ hash mm r1 r3 hc4) 1 gX7_data_X7_dataOf rfl (by decide +kernel) rfl rfl ⟨Nat.le_of_ble_eq_true rfl, Nat.le_of_ble_eq_true rfl⟩ ⟨Nat.le_of_ble_eq_true rfl, Nat.le_of_ble_eq_true rfl⟩ rfl (Nat.le_of_ble_eq_true rfl) dX7_data_15 0 rfl rfl [0, 1] rfl rfl rfl rfl rfl rfl ?_
    refine r_iconst (pc' := 19) X (1 : Int32) dX7_data_18 (by decide) rfl ?_
    refine r_isub (pc' := 20) X dX7_data_19 rfl ?_
    obtain ⟨r5, hc6, hF⟩ := g_bd hF
    refine r_callSF (pc' := 23) (ws' := [oX7 a_z a_mm a_old a_saved_ a_isSaved a_text textLength refused a_far a_marked a_stack top highest overflowed a_command commands at_ fault_ hash, oI a_mm cI 1222 mm]) (st' := [.int r5]) X (mX7_in D cI cZ cH p2 (0 : Int32) (r3 - (1 : Int32)) r5 hc6) 3 gX7_data_X7_in rfl (by decide +kernel) rfl rfl ⟨Nat.le_of_ble_eq_true rfl, Nat.le_of_ble_eq_true rfl⟩ ⟨Nat.le_of_ble_eq_true rfl, Nat.le_of_ble_eq_true rfl⟩ rfl (Nat.le_of_ble_eq_true rfl) dX7_data_20 [] rfl rfl rfl rfl rfl rfl ?_
    refine r_if_ne (pc' := 26) X 31 dX7_data_23 (by decide) rfl (fun c9 => ?_) (fun c9 => ?_)
    · replace hF := g_f c9 hF
      refine r_aload_n (pc' := 32) X dX7_data_31 rfl 0 rfl rfl ?_
      refine r_get (pc' := 35) X uX7_data_X7 0 0 dX7_data_32 rfl rfl (by decide) kX7_data_2 rfl rfl ?_
      refine r_sipush (pc' := 38) X (800 : Int32) dX7_data_35 (by decide) rfl ?_
      refine r_iload_n (pc' := 39) X dX7_data_38 rfl 3 rfl rfl ?_
      refine r_iadd (pc' := 40) X dX7_data_39 rfl ?_
      refine r_iconst (pc' := 41) X (1 : Int32) dX7_data_40 (by decide) rfl ?_
      refine r_iadd (pc' := 42) X dX7_data_41 rfl ?_
      refine r_aload_n (pc' := 43) X dX7_data_42 rfl 0 rfl rfl ?_
      refine r_get (pc' := 46) X uX7_data_X7 0 0 dX7_data_43 rfl rfl (by decide) kX7_data_2 rfl rfl ?_
      refine r_sipush (pc' := 49) X (200 : Int32) dX7_data_46 (by decide) rfl ?_
      refine r_iload_n (pc' := 50) X dX7_data_49 rfl 3 rfl rfl ?_
      refine r_iadd (pc' := 51) X dX7_data_50 rfl ?_
      obtain ⟨hi7, hF⟩ := g_gt hF
      refine r_iald (pc' := 52) X 1 dX7_data_51 rfl (g_vi hi7) rfl ?_
      refine r_iadd (pc' := 53) X dX7_data_52 rfl ?_
      refine r_iload_n (pc' := 54) X dX7_data_53 rfl 2 rfl rfl ?_
      refine r_iadd (pc' := 55) X dX7_data_54 rfl ?_
      obtain ⟨hi8, hF⟩ := g_gt hF
      refine r_iald (pc' := 56) X 1 dX7_data_55 rfl (g_vi hi8) rfl ?_
      cases hF
      exact RT.1 0 0 _ _ _ _ .int rfl rfl dX7_data_56 ⟨rfl, rfl⟩ (Nat.le_refl 0) (Nat.le_refl 0)
    · replace hF := g_t c9 hF
      refine r_ldc (pc' := 28) X dX7_data_26 kX7_data_1 rfl ?_
      refine r_goto X 56 dX7_data_28 (by decide) ?_
      cases hF
      exact RT.1 0 0 _ _ _ _ .int rfl rfl dX7_data_56 ⟨rfl, rfl⟩ (Nat.le_refl 0) (Nat.le_refl 0)
theorem kX7_many_1 : Cond.fieldLink RX7 7 "IslandHeapModel" "m" "[I" ∈ wsX7_many := List.mem_of_getElem? (i := 1) (by decide +kernel)
theorem uX7_many_X7 : ∀ w ∈ u_ws RX7 TX7 18, w ∈ wsX7_many := by decide +kernel
set_option maxHeartbeats 4000000 in
set_option maxRecDepth 100000 in
theorem mX7_many (D : va_G) (cI cZ cH : ClassId) (a_z : Nat) (a_mm : Nat) (a_old : Nat) (a_saved_ : Nat) (a_isSaved : Nat) (a_text : Nat) (a_far : Nat) (a_marked : Nat) (a_stack : Nat) (a_command : Nat) (textLength : Int32) (refused : Int32) (top : Int32) (highest : Int32) (overflowed : Int32) (commands : Int32) (at_ : Int32) (fault_ : Int32) (hash : Int64) (mm : Nat → Int32) (p1 : Int32) (r0 : Int32) (hF : FX7_many mm p1 = some r0) : g_CM yX7_many wsX7_many ({ frames := 0, cells := 0, slots := 0, locals := 0 }) D cI cZ cH [.ref a_z, .int p1] [oX7 a_z a_mm a_old a_saved_ a_isSaved a_text textLength refused a_far a_marked a_stack top highest overflowed a_command commands at_ fault_ hash, oI a_mm cI 1222 mm] 0 0 (g_Tm (some (.int r0)) [oX7 a_z a_mm a_old a_saved_ a_isSaved a_text textLength refused a_far a_marked a_stack top highest overflowed a_command commands at_ fault_ hash, oI a_mm cI 1222 mm]) := by
  refine g_met (own := RX7) (mn := "many") (cc := cX7_many) (maxL := 4) (ret := (some .int)) rfl rfl (by decide +kernel) rfl (Nat.le_of_ble_eq_true rfl) (fun G X RT => ?_)
  show G 0 0 [oX7 a_z a_mm a_old a_saved_ a_isSaved a_text textLength refused a_far a_marked a_stack top highest overflowed a_command commands at_ fault_ hash, oI a_mm cI 1222 mm] [(0, .ref a_z), (1, .int p1)] 0 []
  unfold FX7_many at hF
  refine r_iconst (pc' := 1) X (0 : Int32) dX7_many_0 (by decide) rfl ?_
  refine r_istore_n (pc' := 2) (lv' := [(0, .ref a_z), (1, .int p1), (2, .int (0 : Int32))]) X dX7_many_1 rfl (by decide) [1, 2, 0] rfl rfl ?_
  refine r_iconst (pc' := 3) X (0 : Int32) dX7_many_2 (by decide) rfl ?_
  refine r_istore_n (pc' := 4) (lv' := [(0, .ref a_z), (1, .int p1), (2, .int (0 : Int32)), (3, .int (0 : Int32))]) X dX7_many_3 rfl (by decide) [1, 2, 3, 0] rfl rfl ?_
  obtain ⟨ex4, hR, hF⟩ := g_bd hF
  have hE4 : ∀ (v2_3 : Int32), v2_3 = ex4 → G 0 0 [oX7 a_z a_mm a_old a_saved_ a_isSaved a_text textLength refused a_far a_marked a_stack top highest overflowed a_command commands at_ fault_ hash, oI a_mm cI 1222 mm] [(2, .int v2_3)] 59 [] := by
    intro v2_3 hx; subst hx
    refine r_iload_n (pc' := 60) X dX7_many_59 rfl 0 rfl rfl ?_
    cases hF
    exact RT.1 0 0 _ _ _ _ .int rfl rfl dX7_many_60 ⟨rfl, rfl⟩ (Nat.le_refl 0) (Nat.le_refl 0)
  have hL4 : ∀ (fu : Nat) (v2_1 : Int32) (v3_2 : Int32), g_itn (FX7_many_L4 mm p1) fu (v2_1, v3_2) = some ex4 → G 0 0 [oX7 a_z a_mm a_old a_saved_ a_isSaved a_text textLength refused a_far a_marked a_stack top highest overflowed a_command commands at_ fault_ hash, oI a_mm cI 1222 mm] [(0, .ref a_z), (1, .int p1), (2, .int v2_1), (3, .int v3_2)] 4 [] := by
    intro fu
    induction fu with
    | zero => intro v2_1 v3_2 h9; exact (g_it0 h9).elim
    | succ fu ih =>
      intro v2_1 v3_2 h9
      obtain ⟨y4, hF, hI4⟩ := g_its h9
      unfold FX7_many_L4 at hF
      refine r_iload_n (pc' := 5) X dX7_many_4 rfl 3 rfl rfl ?_
      refine r_aload_n (pc' := 6) X dX7_many_5 rfl 0 rfl rfl ?_
      refine r_get (pc' := 9) X uX7_many_X7 0 0 dX7_many_6 rfl rfl (by decide) kX7_many_1 rfl rfl ?_
      refine r_sipush (pc' := 12) X (1216 : Int32) dX7_many_9 (by decide) rfl ?_
      refine r_ialdK (pc' := 13) (j := 1216) X 1 dX7_many_12 rfl (by decide +kernel) (by decide +kernel) rfl ?_
      refine r_icmp_ge (pc' := 16) X 59 dX7_many_13 (by decide) rfl (fun c9 => ?_) (fun c9 => ?_)
      · replace hF := g_t c9 hF
        cases hF
        refine r_sub (lv' := [(2, .int v2_1)]) X [2] rfl ?_
        exact hE4 v2_1 hI4
      · replace hF := g_f c9 hF
        refine r_iload_n (pc' := 17) X dX7_many_16 rfl 2 rfl rfl ?_
        refine r_aload_n (pc' := 18) X dX7_many_17 rfl 0 rfl rfl ?_
        refine r_get (pc' := 21) X uX7_many_X7 0 0 dX7_many_18 rfl rfl (by decide) kX7_many_1 rfl rfl ?_
        refine r_iconst (pc' := 22) X (0 : Int32) dX7_many_21 (by decide) rfl ?_
        refine r_iload_n (pc' := 23) X dX7_many_22 rfl 3 rfl rfl ?_
        refine r_iadd (pc' := 24) X dX7_many_23 rfl ?_
        obtain ⟨hi4, hF⟩ := g_gt hF
        refine r_iald (pc' := 25) X 1 dX7_many_24 rfl (g_vi hi4) rfl ?_
        obtain ⟨exJ6, hR, hF⟩ := g_bd hF
        have hJ6 : ∀ (t5 : Int32), t5 = exJ6 → G 0 0 [oX7 a_z a_mm a_old a_saved_ a_isSaved a_text textLength refused a_far a_marked a_stack top highest overflowed a_command commands at_ fault_ hash, oI a_mm cI 1222 mm] [(0, .ref a_z), (1, .int p1), (3, .int v3_2)] 51 [.int t5, .int v2_1] := by
          intro t5 hx; subst hx
          refine r_iadd (pc' := 52) X dX7_many_51 rfl ?_
          refine r_istore_n (pc' := 53) (lv' := [(0, .ref a_z), (1, .int p1), (2, .int (v2_1 + t5)), (3, .int v3_2)]) X dX7_many_52 rfl (by decide) [1, 2, 0, 3] rfl rfl ?_
          refine r_iinc (pc' := 56) (lv' := [(0, .ref a_z), (1, .int p1), (2, .int (v2_1 + t5)), (3, .int (v3_2 + (1 : Int32)))]) X (v3_2 + (1 : Int32)) dX7_many_53 3 rfl (congrArg (fun z => v3_2 + z) (by decide)) (by decide) [1, 2, 3, 0] rfl rfl ?_
          refine r_goto X 4 dX7_many_56 (by decide) ?_
          cases hF
          exact ih (v2_1 + t5) (v3_2 + (1 : Int32)) hI4
        replace hF := hR
        refine r_if_le (pc' := 28) X 50 dX7_many_25 (by decide) rfl (fun c9 => ?_) (fun c9 => ?_)
        · replace hF := g_t c9 hF
          refine r_iconst (pc' := 51) X (0 : Int32) dX7_many_50 (by decide) rfl ?_
          refine r_sub (lv' := [(0, .ref a_z), (1, .int p1), (3, .int v3_2)]) X [0, 1, 3] rfl ?_
          exact hJ6 (0 : Int32) (Option.some.inj hF)
        · replace hF := g_f c9 hF
          refine r_iload_n (pc' := 29) X dX7_many_28 rfl 1 rfl rfl ?_
          refine r_if_eq (pc' := 32) X 46 dX7_many_29 (by decide) rfl (fun c9 => ?_) (fun c9 => ?_)
          · replace hF := g_t c9 hF
            refine r_iconst (pc' := 47) X (1 : Int32) dX7_many_46 (by decide) rfl ?_
            refine r_goto X 51 dX7_many_47 (by decide) ?_
            refine r_sub (lv' := [(0, .ref a_z), (1, .int p1), (3, .int v3_2)]) X [0, 1, 3] rfl ?_
            exact hJ6 (1 : Int32) (Option.some.inj hF)
          · replace hF := g_f c9 hF
            refine r_aload_n (pc' := 33) X dX7_many_32 rfl 0 rfl rfl ?_
            refine r_get (pc' := 36) X uX7_many_X7 0 0 dX7_many_33 rfl rfl (by decide) kX7_many_1 rfl rfl ?_
            refine r_sipush (pc' := 39) X (400 : Int32) dX7_many_36 (by decide) rfl ?_
            refine r_iload_n (pc' := 40) X dX7_many_39 rfl 3 rfl rfl ?_
            refine r_iadd (pc' := 41) X dX7_many_40 rfl ?_
            obtain ⟨hi7, hF⟩ := g_gt hF
            refine r_iald (pc' := 42) X 1 dX7_many_41 rfl (g_vi hi7) rfl ?_
            refine r_iconst (pc' := 43) X (1 : Int32) dX7_many_42 (by decide) rfl ?_
            refine r_icmp_ne (pc' := 46) X 50 dX7_many_43 (by decide) rfl (fun c9 => ?_) (fun c9 => ?_)
            · replace hF := g_f c9 hF
              refine r_iconst (pc' := 51) X (0 : Int32) dX7_many_50 (by decide) rfl ?_
              refine r_sub (lv' := [(0, .ref a_z), (1, .int p1), (3, .int v3_2)]) X [0, 1, 3] rfl ?_
              exact hJ6 (0 : Int32) (Option.some.inj hF)
            · replace hF := g_t c9 hF
              refine r_iconst (pc' := 47) X (1 : Int32) dX7_many_46 (by decide) rfl ?_
              refine r_goto X 51 dX7_many_47 (by decide) ?_
              refine r_sub (lv' := [(0, .ref a_z), (1, .int p1), (3, .int v3_2)]) X [0, 1, 3] rfl ?_
              exact hJ6 (1 : Int32) (Option.some.inj hF)
  exact hL4 g_fuel (0 : Int32) (0 : Int32) hR
theorem kX7_pin_2 : Cond.fieldLink RX7 7 "IslandHeapModel" "m" "[I" ∈ wsX7_pin := List.mem_of_getElem? (i := 2) (by decide +kernel)
theorem kX7_pin_3 : Cond.constant RX7 82 (-1000003) ∈ wsX7_pin := List.mem_of_getElem? (i := 3) (by decide +kernel)
theorem kX7_pin_1 : Cond.constant RX7 50 (-1000002) ∈ wsX7_pin := List.mem_of_getElem? (i := 1) (by decide +kernel)
theorem uX7_pin_X7 : ∀ w ∈ u_ws RX7 TX7 18, w ∈ wsX7_pin := by decide +kernel
set_option maxHeartbeats 4000000 in
set_option maxRecDepth 100000 in
theorem mX7_pin (D : va_G) (cI cZ cH : ClassId) (a_z : Nat) (a_mm : Nat) (a_old : Nat) (a_saved_ : Nat) (a_isSaved : Nat) (a_text : Nat) (a_far : Nat) (a_marked : Nat) (a_stack : Nat) (a_command : Nat) (textLength : Int32) (refused : Int32) (top : Int32) (highest : Int32) (overflowed : Int32) (commands : Int32) (at_ : Int32) (fault_ : Int32) (hash : Int64) (mm : Nat → Int32) (p1 : Int32) (p2 : Int32) (r0 : Int32) (w_mm : Nat → Int32) (hF : FX7_pin mm p1 p2 = some (r0, w_mm)) : g_CM yX7_pin wsX7_pin ({ frames := 2, cells := 0, slots := 0, locals := 44 }) D cI cZ cH [.ref a_z, .int p1, .int p2] [oX7 a_z a_mm a_old a_saved_ a_isSaved a_text textLength refused a_far a_marked a_stack top highest overflowed a_command commands at_ fault_ hash, oI a_mm cI 1222 mm] 0 0 (g_Tm (some (.int r0)) [oX7 a_z a_mm a_old a_saved_ a_isSaved a_text textLength refused a_far a_marked a_stack top highest overflowed a_command commands at_ fault_ hash, oI a_mm cI 1222 w_mm]) := by
  refine g_met (own := RX7) (mn := "pin") (cc := cX7_pin) (maxL := 4) (ret := (some .int)) rfl rfl (by decide +kernel) rfl (Nat.le_of_ble_eq_true rfl) (fun G X RT => ?_)
  show G 0 0 [oX7 a_z a_mm a_old a_saved_ a_isSaved a_text textLength refused a_far a_marked a_stack top highest overflowed a_command commands at_ fault_ hash, oI a_mm cI 1222 mm] [(0, .ref a_z), (1, .int p1), (2, .int p2)] 0 []
  unfold FX7_pin at hF
  refine r_aload_n (pc' := 1) X dX7_pin_0 rfl 0 rfl rfl ?_
  refine r_iload_n (pc' := 2) X dX7_pin_1 rfl 1 rfl rfl ?_
  obtain ⟨r1, hc2, hF⟩ := g_bd hF
  refine r_callVF (pc' := 5) (ws' := [oX7 a_z a_mm a_old a_saved_ a_isSaved a_text textLength refused a_far a_marked a_stack top highest overflowed a_command commands at_ fault_ hash, oI a_mm cI 1222 mm]) (st' := [.int r1]) X (mX7_objectOf D cI cZ cH a_z a_mm a_old a_saved_ a_isSaved a_text a_far a_marked a_stack a_command textLength refused top highest overflowed commands at_ fault_ hash mm p1 r1 hc2) 1 gX7_pin_X7_objectOf rfl (by decide +kernel) rfl rfl ⟨Nat.le_of_ble_eq_true rfl, Nat.le_of_ble_eq_true rfl⟩ ⟨Nat.le_of_ble_eq_true rfl, Nat.le_of_ble_eq_true rfl⟩ rfl (Nat.le_of_ble_eq_true rfl) dX7_pin_2 0 rfl rfl [0, 1] rfl rfl rfl rfl rfl rfl ?_
  refine r_istore_n (pc' := 6) (lv' := [(0, .ref a_z), (1, .int p1), (2, .int p2), (3, .int r1)]) X dX7_pin_5 rfl (by decide) [1, 2, 3, 0] rfl rfl ?_
  refine r_iload_n (pc' := 7) X dX7_pin_6 rfl 3 rfl rfl ?_
  refine r_iconst (pc' := 8) X (-1 : Int32) dX7_pin_7 (by decide) rfl ?_
  refine r_icmp_ne (pc' := 11) X 14 dX7_pin_8 (by decide) rfl (fun c9 => ?_) (fun c9 => ?_)
  · replace hF := g_f c9 hF
    refine r_aload_n (pc' := 15) X dX7_pin_14 rfl 0 rfl rfl ?_
    refine r_get (pc' := 18) X uX7_pin_X7 0 0 dX7_pin_15 rfl rfl (by decide) kX7_pin_2 rfl rfl ?_
    refine r_sipush (pc' := 21) X (400 : Int32) dX7_pin_18 (by decide) rfl ?_
    refine r_iload_n (pc' := 22) X dX7_pin_21 rfl 3 rfl rfl ?_
    refine r_iadd (pc' := 23) X dX7_pin_22 rfl ?_
    obtain ⟨hi3, hF⟩ := g_gt hF
    refine r_iald (pc' := 24) X 1 dX7_pin_23 rfl (g_vi hi3) rfl ?_
    refine r_iload_n (pc' := 25) X dX7_pin_24 rfl 2 rfl rfl ?_
    obtain ⟨exJ5, hR, hF⟩ := g_bd hF
    have hJ5 : ∀ (t4 : Int32), t4 = exJ5 → G 0 0 [oX7 a_z a_mm a_old a_saved_ a_isSaved a_text textLength refused a_far a_marked a_stack top highest overflowed a_command commands at_ fault_ hash, oI a_mm cI 1222 mm] [(0, .ref a_z), (2, .int p2), (3, .int r1)] 33 [.int t4, .int (mm ((400 : Int32) + r1).toNatClampNeg)] := by
      intro t4 hx; subst hx
      refine r_icmp_ne (pc' := 36) X 39 dX7_pin_33 (by decide) rfl (fun c9 => ?_) (fun c9 => ?_)
      · replace hF := g_f c9 hF
        refine r_aload_n (pc' := 40) X dX7_pin_39 rfl 0 rfl rfl ?_
        refine r_get (pc' := 43) X uX7_pin_X7 0 0 dX7_pin_40 rfl rfl (by decide) kX7_pin_2 rfl rfl ?_
        refine r_sipush (pc' := 46) X (400 : Int32) dX7_pin_43 (by decide) rfl ?_
        refine r_iload_n (pc' := 47) X dX7_pin_46 rfl 2 rfl rfl ?_
        refine r_iadd (pc' := 48) X dX7_pin_47 rfl ?_
        refine r_iload_n (pc' := 49) X dX7_pin_48 rfl 1 rfl rfl ?_
        obtain ⟨exJ7, hR, hF⟩ := g_bd hF
        have hJ7 : ∀ (t6 : Int32), t6 = exJ7 → G 0 0 [oX7 a_z a_mm a_old a_saved_ a_isSaved a_text textLength refused a_far a_marked a_stack top highest overflowed a_command commands at_ fault_ hash, oI a_mm cI 1222 mm] [(0, .ref a_z)] 57 [.int t6, .int ((400 : Int32) + r1), .ref a_mm] := by
          intro t6 hx; subst hx
          obtain ⟨hi8, hF⟩ := g_gt hF
          refine r_iast (pc' := 58) (ws' := [oX7 a_z a_mm a_old a_saved_ a_isSaved a_text textLength refused a_far a_marked a_stack top highest overflowed a_command commands at_ fault_ hash, oI a_mm cI 1222 (upd mm ((400 : Int32) + r1).toNatClampNeg t6)]) X 1 dX7_pin_57 rfl (g_vi hi8) rfl rfl ?_
          refine r_aload_n (pc' := 59) X dX7_pin_58 rfl 0 rfl rfl ?_
          refine r_iconst (pc' := 60) X (1 : Int32) dX7_pin_59 (by decide) rfl ?_
          obtain ⟨r9, hc10, hF⟩ := g_bd hF
          refine r_callVF (pc' := 63) (ws' := [oX7 a_z a_mm a_old a_saved_ a_isSaved a_text textLength refused a_far a_marked a_stack top highest overflowed a_command commands at_ fault_ hash, oI a_mm cI 1222 (upd mm ((400 : Int32) + r1).toNatClampNeg t6)]) (st' := [.int r9]) X (mX7_many D cI cZ cH a_z a_mm a_old a_saved_ a_isSaved a_text a_far a_marked a_stack a_command textLength refused top highest overflowed commands at_ fault_ hash (upd mm ((400 : Int32) + r1).toNatClampNeg t6) (1 : Int32) r9 hc10) 1 gX7_pin_X7_many rfl (by decide +kernel) rfl rfl ⟨Nat.le_of_ble_eq_true rfl, Nat.le_of_ble_eq_true rfl⟩ ⟨Nat.le_of_ble_eq_true rfl, Nat.le_of_ble_eq_true rfl⟩ rfl (Nat.le_of_ble_eq_true rfl) dX7_pin_60 0 rfl rfl [0, 1] rfl rfl rfl rfl rfl rfl ?_
          cases hF
          exact RT.1 0 0 _ _ _ _ .int rfl rfl dX7_pin_63 ⟨rfl, rfl⟩ (Nat.le_refl 0) (Nat.le_refl 0)
        replace hF := hR
        refine r_if_eq (pc' := 52) X 56 dX7_pin_49 (by decide) rfl (fun c9 => ?_) (fun c9 => ?_)
        · replace hF := g_t c9 hF
          refine r_iconst (pc' := 57) X (0 : Int32) dX7_pin_56 (by decide) rfl ?_
          refine r_sub (lv' := [(0, .ref a_z)]) X [0] rfl ?_
          exact hJ7 (0 : Int32) (Option.some.inj hF)
        · replace hF := g_f c9 hF
          refine r_iconst (pc' := 53) X (1 : Int32) dX7_pin_52 (by decide) rfl ?_
          refine r_goto X 57 dX7_pin_53 (by decide) ?_
          refine r_sub (lv' := [(0, .ref a_z)]) X [0] rfl ?_
          exact hJ7 (1 : Int32) (Option.some.inj hF)
      · replace hF := g_t c9 hF
        refine r_ldc (pc' := 38) X dX7_pin_36 kX7_pin_3 rfl ?_
        cases hF
        exact RT.1 0 0 _ _ _ _ .int rfl rfl dX7_pin_38 ⟨rfl, rfl⟩ (Nat.le_refl 0) (Nat.le_refl 0)
    replace hF := hR
    refine r_if_eq (pc' := 28) X 32 dX7_pin_25 (by decide) rfl (fun c9 => ?_) (fun c9 => ?_)
    · replace hF := g_t c9 hF
      refine r_iconst (pc' := 33) X (0 : Int32) dX7_pin_32 (by decide) rfl ?_
      refine r_sub (lv' := [(0, .ref a_z), (2, .int p2), (3, .int r1)]) X [0, 2, 3] rfl ?_
      exact hJ5 (0 : Int32) (Option.some.inj hF)
    · replace hF := g_f c9 hF
      refine r_iconst (pc' := 29) X (1 : Int32) dX7_pin_28 (by decide) rfl ?_
      refine r_goto X 33 dX7_pin_29 (by decide) ?_
      refine r_sub (lv' := [(0, .ref a_z), (2, .int p2), (3, .int r1)]) X [0, 2, 3] rfl ?_
      exact hJ5 (1 : Int32) (Option.some.inj hF)
  · replace hF := g_t c9 hF
    refine r_ldc (pc' := 13) X dX7_pin_11 kX7_pin_1 rfl ?_
    cases hF
    exact RT.1 0 0 _ _ _ _ .int rfl rfl dX7_pin_13 ⟨rfl, rfl⟩ (Nat.le_refl 0) (Nat.le_refl 0)
theorem kX7_setsSlot_1 : Cond.fieldLink RX7 7 "IslandHeapModel" "m" "[I" ∈ wsX7_setsSlot := List.mem_of_getElem? (i := 1) (by decide +kernel)
theorem uX7_setsSlot_X7 : ∀ w ∈ u_ws RX7 TX7 18, w ∈ wsX7_setsSlot := by decide +kernel
set_option maxHeartbeats 4000000 in
set_option maxRecDepth 100000 in
theorem mX7_setsSlot (D : va_G) (cI cZ cH : ClassId) (a_z : Nat) (a_mm : Nat) (a_old : Nat) (a_saved_ : Nat) (a_isSaved : Nat) (a_text : Nat) (a_far : Nat) (a_marked : Nat) (a_stack : Nat) (a_command : Nat) (textLength : Int32) (refused : Int32) (top : Int32) (highest : Int32) (overflowed : Int32) (commands : Int32) (at_ : Int32) (fault_ : Int32) (hash : Int64) (mm : Nat → Int32) (p1 : Int32) (p2 : Int32) (r0 : Int32) (w_mm : Nat → Int32) (hF : FX7_setsSlot mm p1 p2 = some (r0, w_mm)) : g_CM yX7_setsSlot wsX7_setsSlot ({ frames := 0, cells := 0, slots := 0, locals := 0 }) D cI cZ cH [.ref a_z, .int p1, .int p2] [oX7 a_z a_mm a_old a_saved_ a_isSaved a_text textLength refused a_far a_marked a_stack top highest overflowed a_command commands at_ fault_ hash, oI a_mm cI 1222 mm] 0 0 (g_Tm (some (.int r0)) [oX7 a_z a_mm a_old a_saved_ a_isSaved a_text textLength refused a_far a_marked a_stack top highest overflowed a_command commands at_ fault_ hash, oI a_mm cI 1222 w_mm]) := by
  refine g_met (own := RX7) (mn := "setsSlot") (cc := cX7_setsSlot) (maxL := 4) (ret := (some .int)) rfl rfl (by decide +kernel) rfl (Nat.le_of_ble_eq_true rfl) (fun G X RT => ?_)
  show G 0 0 [oX7 a_z a_mm a_old a_saved_ a_isSaved a_text textLength refused a_far a_marked a_stack top highest overflowed a_command commands at_ fault_ hash, oI a_mm cI 1222 mm] [(0, .ref a_z), (1, .int p1), (2, .int p2)] 0 []
  unfold FX7_setsSlot at hF
  refine r_aload_n (pc' := 1) X dX7_setsSlot_0 rfl 0 rfl rfl ?_
  refine r_get (pc' := 4) X uX7_setsSlot_X7 0 0 dX7_setsSlot_1 rfl rfl (by decide) kX7_setsSlot_1 rfl rfl ?_
  refine r_iload_n (pc' := 5) X dX7_setsSlot_4 rfl 1 rfl rfl ?_
  obtain ⟨hi1, hF⟩ := g_gt hF
  refine r_iald (pc' := 6) X 1 dX7_setsSlot_5 rfl (g_vi hi1) rfl ?_
  refine r_istore_n (pc' := 7) (lv' := [(0, .ref a_z), (1, .int p1), (2, .int p2), (3, .int (mm p1.toNatClampNeg))]) X dX7_setsSlot_6 rfl (by decide) [1, 2, 3, 0] rfl rfl ?_
  refine r_aload_n (pc' := 8) X dX7_setsSlot_7 rfl 0 rfl rfl ?_
  refine r_get (pc' := 11) X uX7_setsSlot_X7 0 0 dX7_setsSlot_8 rfl rfl (by decide) kX7_setsSlot_1 rfl rfl ?_
  refine r_iload_n (pc' := 12) X dX7_setsSlot_11 rfl 1 rfl rfl ?_
  refine r_iload_n (pc' := 13) X dX7_setsSlot_12 rfl 2 rfl rfl ?_
  obtain ⟨hi2, hF⟩ := g_gt hF
  refine r_iast (pc' := 14) (ws' := [oX7 a_z a_mm a_old a_saved_ a_isSaved a_text textLength refused a_far a_marked a_stack top highest overflowed a_command commands at_ fault_ hash, oI a_mm cI 1222 (upd mm p1.toNatClampNeg p2)]) X 1 dX7_setsSlot_13 rfl (g_vi hi2) rfl rfl ?_
  refine r_iload_n (pc' := 15) X dX7_setsSlot_14 rfl 3 rfl rfl ?_
  cases hF
  exact RT.1 0 0 _ _ _ _ .int rfl rfl dX7_setsSlot_15 ⟨rfl, rfl⟩ (Nat.le_refl 0) (Nat.le_refl 0)
theorem kX7_setRoot_1 : Cond.constant RX7 50 (-1000002) ∈ wsX7_setRoot := List.mem_of_getElem? (i := 1) (by decide +kernel)
set_option maxHeartbeats 4000000 in
set_option maxRecDepth 100000 in
theorem mX7_setRoot (D : va_G) (cI cZ cH : ClassId) (a_z : Nat) (a_mm : Nat) (a_old : Nat) (a_saved_ : Nat) (a_isSaved : Nat) (a_text : Nat) (a_far : Nat) (a_marked : Nat) (a_stack : Nat) (a_command : Nat) (textLength : Int32) (refused : Int32) (top : Int32) (highest : Int32) (overflowed : Int32) (commands : Int32) (at_ : Int32) (fault_ : Int32) (hash : Int64) (mm : Nat → Int32) (p1 : Int32) (p2 : Int32) (r0 : Int32) (w_mm : Nat → Int32) (hF : FX7_setRoot mm p1 p2 = some (r0, w_mm)) : g_CM yX7_setRoot wsX7_setRoot ({ frames := 3, cells := 0, slots := 0, locals := 65 }) D cI cZ cH [.ref a_z, .int p1, .int p2] [oX7 a_z a_mm a_old a_saved_ a_isSaved a_text textLength refused a_far a_marked a_stack top highest overflowed a_command commands at_ fault_ hash, oI a_mm cI 1222 mm] 0 0 (g_Tm (some (.int r0)) [oX7 a_z a_mm a_old a_saved_ a_isSaved a_text textLength refused a_far a_marked a_stack top highest overflowed a_command commands at_ fault_ hash, oI a_mm cI 1222 w_mm]) := by
  refine g_met (own := RX7) (mn := "setRoot") (cc := cX7_setRoot) (maxL := 3) (ret := (some .int)) rfl rfl (by decide +kernel) rfl (Nat.le_of_ble_eq_true rfl) (fun G X RT => ?_)
  show G 0 0 [oX7 a_z a_mm a_old a_saved_ a_isSaved a_text textLength refused a_far a_marked a_stack top highest overflowed a_command commands at_ fault_ hash, oI a_mm cI 1222 mm] [(0, .ref a_z), (1, .int p1), (2, .int p2)] 0 []
  unfold FX7_setRoot at hF
  refine r_iload_n (pc' := 1) X dX7_setRoot_0 rfl 1 rfl rfl ?_
  refine r_iconst (pc' := 2) X (0 : Int32) dX7_setRoot_1 (by decide) rfl ?_
  refine r_iconst (pc' := 3) X (5 : Int32) dX7_setRoot_2 (by decide) rfl ?_
  obtain ⟨r1, hc2, hF⟩ := g_bd hF
  refine r_callSF (pc' := 6) (ws' := [oX7 a_z a_mm a_old a_saved_ a_isSaved a_text textLength refused a_far a_marked a_stack top highest overflowed a_command commands at_ fault_ hash, oI a_mm cI 1222 mm]) (st' := [.int r1]) X (mX7_in D cI cZ cH p1 (0 : Int32) (5 : Int32) r1 hc2) 3 gX7_setRoot_X7_in rfl (by decide +kernel) rfl rfl ⟨Nat.le_of_ble_eq_true rfl, Nat.le_of_ble_eq_true rfl⟩ ⟨Nat.le_of_ble_eq_true rfl, Nat.le_of_ble_eq_true rfl⟩ rfl (Nat.le_of_ble_eq_true rfl) dX7_setRoot_3 [] rfl rfl rfl rfl rfl rfl ?_
  refine r_if_eq (pc' := 9) X 30 dX7_setRoot_6 (by decide) rfl (fun c9 => ?_) (fun c9 => ?_)
  · replace hF := g_t c9 hF
    refine r_ldc (pc' := 32) X dX7_setRoot_30 kX7_setRoot_1 rfl ?_
    cases hF
    exact RT.1 0 0 _ _ _ _ .int rfl rfl dX7_setRoot_32 ⟨rfl, rfl⟩ (Nat.le_refl 0) (Nat.le_refl 0)
  · replace hF := g_f c9 hF
    refine r_aload_n (pc' := 10) X dX7_setRoot_9 rfl 0 rfl rfl ?_
    refine r_iload_n (pc' := 11) X dX7_setRoot_10 rfl 2 rfl rfl ?_
    obtain ⟨r3, hc4, hF⟩ := g_bd hF
    refine r_callVF (pc' := 14) (ws' := [oX7 a_z a_mm a_old a_saved_ a_isSaved a_text textLength refused a_far a_marked a_stack top highest overflowed a_command commands at_ fault_ hash, oI a_mm cI 1222 mm]) (st' := [.int r3]) X (mX7_isReference D cI cZ cH a_z a_mm a_old a_saved_ a_isSaved a_text a_far a_marked a_stack a_command textLength refused top highest overflowed commands at_ fault_ hash mm p2 r3 hc4) 1 gX7_setRoot_X7_isReference rfl (by decide +kernel) rfl rfl ⟨Nat.le_of_ble_eq_true rfl, Nat.le_of_ble_eq_true rfl⟩ ⟨Nat.le_of_ble_eq_true rfl, Nat.le_of_ble_eq_true rfl⟩ rfl (Nat.le_of_ble_eq_true rfl) dX7_setRoot_11 0 rfl rfl [0, 1] rfl rfl rfl rfl rfl rfl ?_
    refine r_if_eq (pc' := 17) X 30 dX7_setRoot_14 (by decide) rfl (fun c9 => ?_) (fun c9 => ?_)
    · replace hF := g_t c9 hF
      refine r_ldc (pc' := 32) X dX7_setRoot_30 kX7_setRoot_1 rfl ?_
      cases hF
      exact RT.1 0 0 _ _ _ _ .int rfl rfl dX7_setRoot_32 ⟨rfl, rfl⟩ (Nat.le_refl 0) (Nat.le_refl 0)
    · replace hF := g_f c9 hF
      refine r_aload_n (pc' := 18) X dX7_setRoot_17 rfl 0 rfl rfl ?_
      refine r_sipush (pc' := 21) X (1200 : Int32) dX7_setRoot_18 (by decide) rfl ?_
      refine r_iload_n (pc' := 22) X dX7_setRoot_21 rfl 1 rfl rfl ?_
      refine r_iadd (pc' := 23) X dX7_setRoot_22 rfl ?_
      refine r_iload_n (pc' := 24) X dX7_setRoot_23 rfl 2 rfl rfl ?_
      obtain ⟨⟨r5, mm_6⟩, hc7, hF⟩ := g_bd hF
      refine r_callVF (pc' := 27) (ws' := [oX7 a_z a_mm a_old a_saved_ a_isSaved a_text textLength refused a_far a_marked a_stack top highest overflowed a_command commands at_ fault_ hash, oI a_mm cI 1222 mm_6]) (st' := [.int r5]) X (mX7_setsSlot D cI cZ cH a_z a_mm a_old a_saved_ a_isSaved a_text a_far a_marked a_stack a_command textLength refused top highest overflowed commands at_ fault_ hash mm ((1200 : Int32) + p1) p2 r5 mm_6 hc7) 2 gX7_setRoot_X7_setsSlot rfl (by decide +kernel) rfl rfl ⟨Nat.le_of_ble_eq_true rfl, Nat.le_of_ble_eq_true rfl⟩ ⟨Nat.le_of_ble_eq_true rfl, Nat.le_of_ble_eq_true rfl⟩ rfl (Nat.le_of_ble_eq_true rfl) dX7_setRoot_24 0 rfl rfl [0, 1] rfl rfl rfl rfl rfl rfl ?_
      refine r_goto X 32 dX7_setRoot_27 (by decide) ?_
      cases hF
      exact RT.1 0 0 _ _ _ _ .int rfl rfl dX7_setRoot_32 ⟨rfl, rfl⟩ (Nat.le_refl 0) (Nat.le_refl 0)
theorem kX7_root_2 : Cond.constant RX7 50 (-1000002) ∈ wsX7_root := List.mem_of_getElem? (i := 2) (by decide +kernel)
theorem kX7_root_1 : Cond.fieldLink RX7 7 "IslandHeapModel" "m" "[I" ∈ wsX7_root := List.mem_of_getElem? (i := 1) (by decide +kernel)
theorem uX7_root_X7 : ∀ w ∈ u_ws RX7 TX7 18, w ∈ wsX7_root := by decide +kernel
set_option maxHeartbeats 4000000 in
set_option maxRecDepth 100000 in
theorem mX7_root (D : va_G) (cI cZ cH : ClassId) (a_z : Nat) (a_mm : Nat) (a_old : Nat) (a_saved_ : Nat) (a_isSaved : Nat) (a_text : Nat) (a_far : Nat) (a_marked : Nat) (a_stack : Nat) (a_command : Nat) (textLength : Int32) (refused : Int32) (top : Int32) (highest : Int32) (overflowed : Int32) (commands : Int32) (at_ : Int32) (fault_ : Int32) (hash : Int64) (mm : Nat → Int32) (p1 : Int32) (r0 : Int32) (hF : FX7_root mm p1 = some r0) : g_CM yX7_root wsX7_root ({ frames := 1, cells := 0, slots := 0, locals := 22 }) D cI cZ cH [.ref a_z, .int p1] [oX7 a_z a_mm a_old a_saved_ a_isSaved a_text textLength refused a_far a_marked a_stack top highest overflowed a_command commands at_ fault_ hash, oI a_mm cI 1222 mm] 0 0 (g_Tm (some (.int r0)) [oX7 a_z a_mm a_old a_saved_ a_isSaved a_text textLength refused a_far a_marked a_stack top highest overflowed a_command commands at_ fault_ hash, oI a_mm cI 1222 mm]) := by
  refine g_met (own := RX7) (mn := "root") (cc := cX7_root) (maxL := 2) (ret := (some .int)) rfl rfl (by decide +kernel) rfl (Nat.le_of_ble_eq_true rfl) (fun G X RT => ?_)
  show G 0 0 [oX7 a_z a_mm a_old a_saved_ a_isSaved a_text textLength refused a_far a_marked a_stack top highest overflowed a_command commands at_ fault_ hash, oI a_mm cI 1222 mm] [(0, .ref a_z), (1, .int p1)] 0 []
  unfold FX7_root at hF
  refine r_iload_n (pc' := 1) X dX7_root_0 rfl 1 rfl rfl ?_
  refine r_iconst (pc' := 2) X (0 : Int32) dX7_root_1 (by decide) rfl ?_
  refine r_iconst (pc' := 3) X (5 : Int32) dX7_root_2 (by decide) rfl ?_
  obtain ⟨r1, hc2, hF⟩ := g_bd hF
  refine r_callSF (pc' := 6) (ws' := [oX7 a_z a_mm a_old a_saved_ a_isSaved a_text textLength refused a_far a_marked a_stack top highest overflowed a_command commands at_ fault_ hash, oI a_mm cI 1222 mm]) (st' := [.int r1]) X (mX7_in D cI cZ cH p1 (0 : Int32) (5 : Int32) r1 hc2) 3 gX7_root_X7_in rfl (by decide +kernel) rfl rfl ⟨Nat.le_of_ble_eq_true rfl, Nat.le_of_ble_eq_true rfl⟩ ⟨Nat.le_of_ble_eq_true rfl, Nat.le_of_ble_eq_true rfl⟩ rfl (Nat.le_of_ble_eq_true rfl) dX7_root_3 [] rfl rfl rfl rfl rfl rfl ?_
  refine r_if_eq (pc' := 9) X 22 dX7_root_6 (by decide) rfl (fun c9 => ?_) (fun c9 => ?_)
  · replace hF := g_t c9 hF
    refine r_ldc (pc' := 24) X dX7_root_22 kX7_root_2 rfl ?_
    cases hF
    exact RT.1 0 0 _ _ _ _ .int rfl rfl dX7_root_24 ⟨rfl, rfl⟩ (Nat.le_refl 0) (Nat.le_refl 0)
  · replace hF := g_f c9 hF
    refine r_aload_n (pc' := 10) X dX7_root_9 rfl 0 rfl rfl ?_
    refine r_get (pc' := 13) X uX7_root_X7 0 0 dX7_root_10 rfl rfl (by decide) kX7_root_1 rfl rfl ?_
    refine r_sipush (pc' := 16) X (1200 : Int32) dX7_root_13 (by decide) rfl ?_
    refine r_iload_n (pc' := 17) X dX7_root_16 rfl 1 rfl rfl ?_
    refine r_iadd (pc' := 18) X dX7_root_17 rfl ?_
    obtain ⟨hi3, hF⟩ := g_gt hF
    refine r_iald (pc' := 19) X 1 dX7_root_18 rfl (g_vi hi3) rfl ?_
    refine r_goto X 24 dX7_root_19 (by decide) ?_
    cases hF
    exact RT.1 0 0 _ _ _ _ .int rfl rfl dX7_root_24 ⟨rfl, rfl⟩ (Nat.le_refl 0) (Nat.le_refl 0)
theorem kX7_setWeak_1 : Cond.constant RX7 50 (-1000002) ∈ wsX7_setWeak := List.mem_of_getElem? (i := 1) (by decide +kernel)
set_option maxHeartbeats 4000000 in
set_option maxRecDepth 100000 in
theorem mX7_setWeak (D : va_G) (cI cZ cH : ClassId) (a_z : Nat) (a_mm : Nat) (a_old : Nat) (a_saved_ : Nat) (a_isSaved : Nat) (a_text : Nat) (a_far : Nat) (a_marked : Nat) (a_stack : Nat) (a_command : Nat) (textLength : Int32) (refused : Int32) (top : Int32) (highest : Int32) (overflowed : Int32) (commands : Int32) (at_ : Int32) (fault_ : Int32) (hash : Int64) (mm : Nat → Int32) (p1 : Int32) (p2 : Int32) (r0 : Int32) (w_mm : Nat → Int32) (hF : FX7_setWeak mm p1 p2 = some (r0, w_mm)) : g_CM yX7_setWeak wsX7_setWeak ({ frames := 3, cells := 0, slots := 0, locals := 65 }) D cI cZ cH [.ref a_z, .int p1, .int p2] [oX7 a_z a_mm a_old a_saved_ a_isSaved a_text textLength refused a_far a_marked a_stack top highest overflowed a_command commands at_ fault_ hash, oI a_mm cI 1222 mm] 0 0 (g_Tm (some (.int r0)) [oX7 a_z a_mm a_old a_saved_ a_isSaved a_text textLength refused a_far a_marked a_stack top highest overflowed a_command commands at_ fault_ hash, oI a_mm cI 1222 w_mm]) := by
  refine g_met (own := RX7) (mn := "setWeak") (cc := cX7_setWeak) (maxL := 3) (ret := (some .int)) rfl rfl (by decide +kernel) rfl (Nat.le_of_ble_eq_true rfl) (fun G X RT => ?_)
  show G 0 0 [oX7 a_z a_mm a_old a_saved_ a_isSaved a_text textLength refused a_far a_marked a_stack top highest overflowed a_command commands at_ fault_ hash, oI a_mm cI 1222 mm] [(0, .ref a_z), (1, .int p1), (2, .int p2)] 0 []
  unfold FX7_setWeak at hF
  refine r_iload_n (pc' := 1) X dX7_setWeak_0 rfl 1 rfl rfl ?_
  refine r_iconst (pc' := 2) X (0 : Int32) dX7_setWeak_1 (by decide) rfl ?_
  refine r_iconst (pc' := 3) X (3 : Int32) dX7_setWeak_2 (by decide) rfl ?_
  obtain ⟨r1, hc2, hF⟩ := g_bd hF
  refine r_callSF (pc' := 6) (ws' := [oX7 a_z a_mm a_old a_saved_ a_isSaved a_text textLength refused a_far a_marked a_stack top highest overflowed a_command commands at_ fault_ hash, oI a_mm cI 1222 mm]) (st' := [.int r1]) X (mX7_in D cI cZ cH p1 (0 : Int32) (3 : Int32) r1 hc2) 3 gX7_setWeak_X7_in rfl (by decide +kernel) rfl rfl ⟨Nat.le_of_ble_eq_true rfl, Nat.le_of_ble_eq_true rfl⟩ ⟨Nat.le_of_ble_eq_true rfl, Nat.le_of_ble_eq_true rfl⟩ rfl (Nat.le_of_ble_eq_true rfl) dX7_setWeak_3 [] rfl rfl rfl rfl rfl rfl ?_
  refine r_if_eq (pc' := 9) X 30 dX7_setWeak_6 (by decide) rfl (fun c9 => ?_) (fun c9 => ?_)
  · replace hF := g_t c9 hF
    refine r_ldc (pc' := 32) X dX7_setWeak_30 kX7_setWeak_1 rfl ?_
    cases hF
    exact RT.1 0 0 _ _ _ _ .int rfl rfl dX7_setWeak_32 ⟨rfl, rfl⟩ (Nat.le_refl 0) (Nat.le_refl 0)
  · replace hF := g_f c9 hF
    refine r_aload_n (pc' := 10) X dX7_setWeak_9 rfl 0 rfl rfl ?_
    refine r_iload_n (pc' := 11) X dX7_setWeak_10 rfl 2 rfl rfl ?_
    obtain ⟨r3, hc4, hF⟩ := g_bd hF
    refine r_callVF (pc' := 14) (ws' := [oX7 a_z a_mm a_old a_saved_ a_isSaved a_text textLength refused a_far a_marked a_stack top highest overflowed a_command commands at_ fault_ hash, oI a_mm cI 1222 mm]) (st' := [.int r3]) X (mX7_isReference D cI cZ cH a_z a_mm a_old a_saved_ a_isSaved a_text a_far a_marked a_stack a_command textLength refused top highest overflowed commands at_ fault_ hash mm p2 r3 hc4) 1 gX7_setWeak_X7_isReference rfl (by decide +kernel) rfl rfl ⟨Nat.le_of_ble_eq_true rfl, Nat.le_of_ble_eq_true rfl⟩ ⟨Nat.le_of_ble_eq_true rfl, Nat.le_of_ble_eq_true rfl⟩ rfl (Nat.le_of_ble_eq_true rfl) dX7_setWeak_11 0 rfl rfl [0, 1] rfl rfl rfl rfl rfl rfl ?_
    refine r_if_eq (pc' := 17) X 30 dX7_setWeak_14 (by decide) rfl (fun c9 => ?_) (fun c9 => ?_)
    · replace hF := g_t c9 hF
      refine r_ldc (pc' := 32) X dX7_setWeak_30 kX7_setWeak_1 rfl ?_
      cases hF
      exact RT.1 0 0 _ _ _ _ .int rfl rfl dX7_setWeak_32 ⟨rfl, rfl⟩ (Nat.le_refl 0) (Nat.le_refl 0)
    · replace hF := g_f c9 hF
      refine r_aload_n (pc' := 18) X dX7_setWeak_17 rfl 0 rfl rfl ?_
      refine r_sipush (pc' := 21) X (1206 : Int32) dX7_setWeak_18 (by decide) rfl ?_
      refine r_iload_n (pc' := 22) X dX7_setWeak_21 rfl 1 rfl rfl ?_
      refine r_iadd (pc' := 23) X dX7_setWeak_22 rfl ?_
      refine r_iload_n (pc' := 24) X dX7_setWeak_23 rfl 2 rfl rfl ?_
      obtain ⟨⟨r5, mm_6⟩, hc7, hF⟩ := g_bd hF
      refine r_callVF (pc' := 27) (ws' := [oX7 a_z a_mm a_old a_saved_ a_isSaved a_text textLength refused a_far a_marked a_stack top highest overflowed a_command commands at_ fault_ hash, oI a_mm cI 1222 mm_6]) (st' := [.int r5]) X (mX7_setsSlot D cI cZ cH a_z a_mm a_old a_saved_ a_isSaved a_text a_far a_marked a_stack a_command textLength refused top highest overflowed commands at_ fault_ hash mm ((1206 : Int32) + p1) p2 r5 mm_6 hc7) 2 gX7_setWeak_X7_setsSlot rfl (by decide +kernel) rfl rfl ⟨Nat.le_of_ble_eq_true rfl, Nat.le_of_ble_eq_true rfl⟩ ⟨Nat.le_of_ble_eq_true rfl, Nat.le_of_ble_eq_true rfl⟩ rfl (Nat.le_of_ble_eq_true rfl) dX7_setWeak_24 0 rfl rfl [0, 1] rfl rfl rfl rfl rfl rfl ?_
      refine r_goto X 32 dX7_setWeak_27 (by decide) ?_
      cases hF
      exact RT.1 0 0 _ _ _ _ .int rfl rfl dX7_setWeak_32 ⟨rfl, rfl⟩ (Nat.le_refl 0) (Nat.le_refl 0)
theorem kX7_weak_2 : Cond.constant RX7 50 (-1000002) ∈ wsX7_weak := List.mem_of_getElem? (i := 2) (by decide +kernel)
theorem kX7_weak_1 : Cond.fieldLink RX7 7 "IslandHeapModel" "m" "[I" ∈ wsX7_weak := List.mem_of_getElem? (i := 1) (by decide +kernel)
theorem uX7_weak_X7 : ∀ w ∈ u_ws RX7 TX7 18, w ∈ wsX7_weak := by decide +kernel
set_option maxHeartbeats 4000000 in
set_option maxRecDepth 100000 in
theorem mX7_weak (D : va_G) (cI cZ cH : ClassId) (a_z : Nat) (a_mm : Nat) (a_old : Nat) (a_saved_ : Nat) (a_isSaved : Nat) (a_text : Nat) (a_far : Nat) (a_marked : Nat) (a_stack : Nat) (a_command : Nat) (textLength : Int32) (refused : Int32) (top : Int32) (highest : Int32) (overflowed : Int32) (commands : Int32) (at_ : Int32) (fault_ : Int32) (hash : Int64) (mm : Nat → Int32) (p1 : Int32) (r0 : Int32) (hF : FX7_weak mm p1 = some r0) : g_CM yX7_weak wsX7_weak ({ frames := 1, cells := 0, slots := 0, locals := 22 }) D cI cZ cH [.ref a_z, .int p1] [oX7 a_z a_mm a_old a_saved_ a_isSaved a_text textLength refused a_far a_marked a_stack top highest overflowed a_command commands at_ fault_ hash, oI a_mm cI 1222 mm] 0 0 (g_Tm (some (.int r0)) [oX7 a_z a_mm a_old a_saved_ a_isSaved a_text textLength refused a_far a_marked a_stack top highest overflowed a_command commands at_ fault_ hash, oI a_mm cI 1222 mm]) := by
  refine g_met (own := RX7) (mn := "weak") (cc := cX7_weak) (maxL := 2) (ret := (some .int)) rfl rfl (by decide +kernel) rfl (Nat.le_of_ble_eq_true rfl) (fun G X RT => ?_)
  show G 0 0 [oX7 a_z a_mm a_old a_saved_ a_isSaved a_text textLength refused a_far a_marked a_stack top highest overflowed a_command commands at_ fault_ hash, oI a_mm cI 1222 mm] [(0, .ref a_z), (1, .int p1)] 0 []
  unfold FX7_weak at hF
  refine r_iload_n (pc' := 1) X dX7_weak_0 rfl 1 rfl rfl ?_
  refine r_iconst (pc' := 2) X (0 : Int32) dX7_weak_1 (by decide) rfl ?_
  refine r_iconst (pc' := 3) X (3 : Int32) dX7_weak_2 (by decide) rfl ?_
  obtain ⟨r1, hc2, hF⟩ := g_bd hF
  refine r_callSF (pc' := 6) (ws' := [oX7 a_z a_mm a_old a_saved_ a_isSaved a_text textLength refused a_far a_marked a_stack top highest overflowed a_command commands at_ fault_ hash, oI a_mm cI 1222 mm]) (st' := [.int r1]) X (mX7_in D cI cZ cH p1 (0 : Int32) (3 : Int32) r1 hc2) 3 gX7_weak_X7_in rfl (by decide +kernel) rfl rfl ⟨Nat.le_of_ble_eq_true rfl, Nat.le_of_ble_eq_true rfl⟩ ⟨Nat.le_of_ble_eq_true rfl, Nat.le_of_ble_eq_true rfl⟩ rfl (Nat.le_of_ble_eq_true rfl) dX7_weak_3 [] rfl rfl rfl rfl rfl rfl ?_
  refine r_if_eq (pc' := 9) X 22 dX7_weak_6 (by decide) rfl (fun c9 => ?_) (fun c9 => ?_)
  · replace hF := g_t c9 hF
    refine r_ldc (pc' := 24) X dX7_weak_22 kX7_weak_2 rfl ?_
    cases hF
    exact RT.1 0 0 _ _ _ _ .int rfl rfl dX7_weak_24 ⟨rfl, rfl⟩ (Nat.le_refl 0) (Nat.le_refl 0)
  · replace hF := g_f c9 hF
    refine r_aload_n (pc' := 10) X dX7_weak_9 rfl 0 rfl rfl ?_
    refine r_get (pc' := 13) X uX7_weak_X7 0 0 dX7_weak_10 rfl rfl (by decide) kX7_weak_1 rfl rfl ?_
    refine r_sipush (pc' := 16) X (1206 : Int32) dX7_weak_13 (by decide) rfl ?_
    refine r_iload_n (pc' := 17) X dX7_weak_16 rfl 1 rfl rfl ?_
    refine r_iadd (pc' := 18) X dX7_weak_17 rfl ?_
    obtain ⟨hi3, hF⟩ := g_gt hF
    refine r_iald (pc' := 19) X 1 dX7_weak_18 rfl (g_vi hi3) rfl ?_
    refine r_goto X 24 dX7_weak_19 (by decide) ?_
    cases hF
    exact RT.1 0 0 _ _ _ _ .int rfl rfl dX7_weak_24 ⟨rfl, rfl⟩ (Nat.le_refl 0) (Nat.le_refl 0)
theorem kX7_reach_1 : Cond.fieldLink RX7 33 "IslandHeapModel" "marked" "[Z" ∈ wsX7_reach := List.mem_of_getElem? (i := 1) (by decide +kernel)
theorem kX7_reach_2 : Cond.fieldLink RX7 91 "IslandHeapModel" "top" "I" ∈ wsX7_reach := List.mem_of_getElem? (i := 2) (by decide +kernel)
theorem kX7_reach_3 : Cond.fieldLink RX7 7 "IslandHeapModel" "m" "[I" ∈ wsX7_reach := List.mem_of_getElem? (i := 3) (by decide +kernel)
theorem kX7_reach_5 : Cond.fieldLink RX7 36 "IslandHeapModel" "stack" "[I" ∈ wsX7_reach := List.mem_of_getElem? (i := 5) (by decide +kernel)
theorem kX7_reach_6 : Cond.fieldLink RX7 98 "IslandHeapModel" "highest" "I" ∈ wsX7_reach := List.mem_of_getElem? (i := 6) (by decide +kernel)
theorem kX7_reach_4 : Cond.fieldLink RX7 94 "IslandHeapModel" "overflowed" "Z" ∈ wsX7_reach := List.mem_of_getElem? (i := 4) (by decide +kernel)
theorem uX7_reach_X7 : ∀ w ∈ u_ws RX7 TX7 18, w ∈ wsX7_reach := by decide +kernel
set_option maxHeartbeats 4000000 in
set_option maxRecDepth 100000 in
theorem mX7_reach (D : va_G) (cI cZ cH : ClassId) (a_z : Nat) (a_mm : Nat) (a_marked : Nat) (a_stack : Nat) (a_old : Nat) (a_saved_ : Nat) (a_isSaved : Nat) (a_text : Nat) (a_far : Nat) (a_command : Nat) (textLength : Int32) (refused : Int32) (top : Int32) (highest : Int32) (overflowed : Int32) (commands : Int32) (at_ : Int32) (fault_ : Int32) (hash : Int64) (mm : Nat → Int32) (marked : Nat → Int32) (stack : Nat → Int32) (p1 : Int32) (w_top : Int32) (w_highest : Int32) (w_overflowed : Int32) (w_marked : Nat → Int32) (w_stack : Nat → Int32) (hF : FX7_reach top highest overflowed mm marked stack p1 = some (w_top, w_highest, w_overflowed, w_marked, w_stack)) : g_CM yX7_reach wsX7_reach ({ frames := 2, cells := 0, slots := 0, locals := 44 }) D cI cZ cH [.ref a_z, .int p1] [oX7 a_z a_mm a_old a_saved_ a_isSaved a_text textLength refused a_far a_marked a_stack top highest overflowed a_command commands at_ fault_ hash, oI a_mm cI 1222 mm, oZ a_marked cZ 200 marked, oI a_stack cI 20 stack] 0 0 (g_Tm (none) [oX7 a_z a_mm a_old a_saved_ a_isSaved a_text textLength refused a_far a_marked a_stack w_top w_highest w_overflowed a_command commands at_ fault_ hash, oI a_mm cI 1222 mm, oZ a_marked cZ 200 w_marked, oI a_stack cI 20 w_stack]) := by
  refine g_met (own := RX7) (mn := "reach") (cc := cX7_reach) (maxL := 3) (ret := none) rfl rfl (by decide +kernel) rfl (Nat.le_of_ble_eq_true rfl) (fun G X RT => ?_)
  show G 0 0 [oX7 a_z a_mm a_old a_saved_ a_isSaved a_text textLength refused a_far a_marked a_stack top highest overflowed a_command commands at_ fault_ hash, oI a_mm cI 1222 mm, oZ a_marked cZ 200 marked, oI a_stack cI 20 stack] [(0, .ref a_z), (1, .int p1)] 0 []
  unfold FX7_reach at hF
  refine r_iload_n (pc' := 1) X dX7_reach_0 rfl 1 rfl rfl ?_
  refine r_iconst (pc' := 2) X (-1 : Int32) dX7_reach_1 (by decide) rfl ?_
  obtain ⟨exJ2, hR, hF⟩ := g_bd hF
  have hJ2 : ∀ (t1 : Int32), t1 = exJ2 → G 0 0 [oX7 a_z a_mm a_old a_saved_ a_isSaved a_text textLength refused a_far a_marked a_stack top highest overflowed a_command commands at_ fault_ hash, oI a_mm cI 1222 mm, oZ a_marked cZ 200 marked, oI a_stack cI 20 stack] [(0, .ref a_z)] 14 [.int t1] := by
    intro t1 hx; subst hx
    refine r_istore_n (pc' := 15) (lv' := [(0, .ref a_z), (2, .int t1)]) X dX7_reach_14 rfl (by decide) [1, 0] rfl rfl ?_
    refine r_iload_n (pc' := 16) X dX7_reach_15 rfl 1 rfl rfl ?_
    refine r_iconst (pc' := 17) X (-1 : Int32) dX7_reach_16 (by decide) rfl ?_
    refine r_icmp_eq (pc' := 20) X 29 dX7_reach_17 (by decide) rfl (fun c9 => ?_) (fun c9 => ?_)
    · replace hF := g_t c9 hF
      cases hF
      exact RT.2.2 0 0 _ _ _ rfl dX7_reach_29 ⟨rfl, rfl⟩ (Nat.le_refl 0) (Nat.le_refl 0)
    · replace hF := g_f c9 hF
      refine r_aload_n (pc' := 21) X dX7_reach_20 rfl 0 rfl rfl ?_
      refine r_get (pc' := 24) X uX7_reach_X7 0 8 dX7_reach_21 rfl rfl (by decide) kX7_reach_1 rfl rfl ?_
      refine r_iload_n (pc' := 25) X dX7_reach_24 rfl 1 rfl rfl ?_
      obtain ⟨hi3, hF⟩ := g_gt hF
      refine r_zald (pc' := 26) X 2 dX7_reach_25 rfl (g_vi hi3) rfl ?_
      refine r_if_eq (pc' := 29) X 30 dX7_reach_26 (by decide) rfl (fun c9 => ?_) (fun c9 => ?_)
      · replace hF := g_t c9 hF
        refine r_aload_n (pc' := 31) X dX7_reach_30 rfl 0 rfl rfl ?_
        refine r_get (pc' := 34) X uX7_reach_X7 0 8 dX7_reach_31 rfl rfl (by decide) kX7_reach_1 rfl rfl ?_
        refine r_iload_n (pc' := 35) X dX7_reach_34 rfl 1 rfl rfl ?_
        refine r_iconst (pc' := 36) X (1 : Int32) dX7_reach_35 (by decide) rfl ?_
        obtain ⟨hi4, hF⟩ := g_gt hF
        refine r_zast (pc' := 37) (ws' := [oX7 a_z a_mm a_old a_saved_ a_isSaved a_text textLength refused a_far a_marked a_stack top highest overflowed a_command commands at_ fault_ hash, oI a_mm cI 1222 mm, oZ a_marked cZ 200 (upd marked t1.toNatClampNeg (1 : Int32)), oI a_stack cI 20 stack]) X 2 dX7_reach_36 rfl (g_vi hi4) (by decide +kernel) rfl rfl ?_
        refine r_aload_n (pc' := 38) X dX7_reach_37 rfl 0 rfl rfl ?_
        refine r_get (pc' := 41) X uX7_reach_X7 0 10 dX7_reach_38 rfl rfl (by decide) kX7_reach_2 rfl rfl ?_
        refine r_aload_n (pc' := 42) X dX7_reach_41 rfl 0 rfl rfl ?_
        refine r_get (pc' := 45) X uX7_reach_X7 0 0 dX7_reach_42 rfl rfl (by decide) kX7_reach_3 rfl rfl ?_
        refine r_sipush (pc' := 48) X (1217 : Int32) dX7_reach_45 (by decide) rfl ?_
        refine r_ialdK (pc' := 49) (j := 1217) X 1 dX7_reach_48 rfl (by decide +kernel) (by decide +kernel) rfl ?_
        refine r_icmp_ne (pc' := 52) X 58 dX7_reach_49 (by decide) rfl (fun c9 => ?_) (fun c9 => ?_)
        · replace hF := g_f c9 hF
          refine r_aload_n (pc' := 59) X dX7_reach_58 rfl 0 rfl rfl ?_
          refine r_get (pc' := 62) X uX7_reach_X7 0 9 dX7_reach_59 rfl rfl (by decide) kX7_reach_5 rfl rfl ?_
          refine r_aload_n (pc' := 63) X dX7_reach_62 rfl 0 rfl rfl ?_
          refine r_get (pc' := 66) X uX7_reach_X7 0 10 dX7_reach_63 rfl rfl (by decide) kX7_reach_2 rfl rfl ?_
          refine r_iload_n (pc' := 67) X dX7_reach_66 rfl 1 rfl rfl ?_
          obtain ⟨hi5, hF⟩ := g_gt hF
          refine r_iast (pc' := 68) (ws' := [oX7 a_z a_mm a_old a_saved_ a_isSaved a_text textLength refused a_far a_marked a_stack top highest overflowed a_command commands at_ fault_ hash, oI a_mm cI 1222 mm, oZ a_marked cZ 200 (upd marked t1.toNatClampNeg (1 : Int32)), oI a_stack cI 20 (upd stack top.toNatClampNeg t1)]) X 3 dX7_reach_67 rfl (g_vi hi5) rfl rfl ?_
          refine r_aload_n (pc' := 69) X dX7_reach_68 rfl 0 rfl rfl ?_
          refine r_dup (pc' := 70) X dX7_reach_69 rfl rfl ?_
          refine r_get (pc' := 73) X uX7_reach_X7 0 10 dX7_reach_70 rfl rfl (by decide) kX7_reach_2 rfl rfl ?_
          refine r_iconst (pc' := 74) X (1 : Int32) dX7_reach_73 (by decide) rfl ?_
          refine r_iadd (pc' := 75) X dX7_reach_74 rfl ?_
          refine r_put (pc' := 78) (ty := .int) (ws' := [oX7 a_z a_mm a_old a_saved_ a_isSaved a_text textLength refused a_far a_marked a_stack (top + (1 : Int32)) highest overflowed a_command commands at_ fault_ hash, oI a_mm cI 1222 mm, oZ a_marked cZ 200 (upd marked t1.toNatClampNeg (1 : Int32)), oI a_stack cI 20 (upd stack top.toNatClampNeg t1)]) X uX7_reach_X7 0 10 tyX7 tyX7_ok nmX7 dX7_reach_75 rfl rfl (by decide) kX7_reach_2 rfl (by decide +kernel) rfl rfl (Nat.le_of_ble_eq_true rfl) rfl rfl ?_
          refine r_aload_n (pc' := 79) X dX7_reach_78 rfl 0 rfl rfl ?_
          refine r_aload_n (pc' := 80) X dX7_reach_79 rfl 0 rfl rfl ?_
          refine r_get (pc' := 83) X uX7_reach_X7 0 10 dX7_reach_80 rfl rfl (by decide) kX7_reach_2 rfl rfl ?_
          refine r_aload_n (pc' := 84) X dX7_reach_83 rfl 0 rfl rfl ?_
          refine r_get (pc' := 87) X uX7_reach_X7 0 11 dX7_reach_84 rfl rfl (by decide) kX7_reach_6 rfl rfl ?_
          obtain ⟨exJ7, hR, hF⟩ := g_bd hF
          have hJ7 : ∀ (t6 : Int32), t6 = exJ7 → G 0 0 [oX7 a_z a_mm a_old a_saved_ a_isSaved a_text textLength refused a_far a_marked a_stack (top + (1 : Int32)) highest overflowed a_command commands at_ fault_ hash, oI a_mm cI 1222 mm, oZ a_marked cZ 200 (upd marked t1.toNatClampNeg (1 : Int32)), oI a_stack cI 20 (upd stack top.toNatClampNeg t1)] [] 101 [.int t6, .ref a_z] := by
            intro t6 hx; subst hx
            refine r_put (pc' := 104) (ty := .int) (ws' := [oX7 a_z a_mm a_old a_saved_ a_isSaved a_text textLength refused a_far a_marked a_stack (top + (1 : Int32)) t6 overflowed a_command commands at_ fault_ hash, oI a_mm cI 1222 mm, oZ a_marked cZ 200 (upd marked t1.toNatClampNeg (1 : Int32)), oI a_stack cI 20 (upd stack top.toNatClampNeg t1)]) X uX7_reach_X7 0 11 tyX7 tyX7_ok nmX7 dX7_reach_101 rfl rfl (by decide) kX7_reach_6 rfl (by decide +kernel) rfl rfl (Nat.le_of_ble_eq_true rfl) rfl rfl ?_
            cases hF
            exact RT.2.2 0 0 _ _ _ rfl dX7_reach_104 ⟨rfl, rfl⟩ (Nat.le_refl 0) (Nat.le_refl 0)
          replace hF := hR
          refine r_icmp_le (pc' := 90) X 97 dX7_reach_87 (by decide) rfl (fun c9 => ?_) (fun c9 => ?_)
          · replace hF := g_t c9 hF
            refine r_aload_n (pc' := 98) X dX7_reach_97 rfl 0 rfl rfl ?_
            refine r_get (pc' := 101) X uX7_reach_X7 0 11 dX7_reach_98 rfl rfl (by decide) kX7_reach_6 rfl rfl ?_
            refine r_sub (lv' := []) X [] rfl ?_
            exact hJ7 highest (Option.some.inj hF)
          · replace hF := g_f c9 hF
            refine r_aload_n (pc' := 91) X dX7_reach_90 rfl 0 rfl rfl ?_
            refine r_get (pc' := 94) X uX7_reach_X7 0 10 dX7_reach_91 rfl rfl (by decide) kX7_reach_2 rfl rfl ?_
            refine r_goto X 101 dX7_reach_94 (by decide) ?_
            refine r_sub (lv' := []) X [] rfl ?_
            exact hJ7 (top + (1 : Int32)) (Option.some.inj hF)
        · replace hF := g_t c9 hF
          refine r_aload_n (pc' := 53) X dX7_reach_52 rfl 0 rfl rfl ?_
          refine r_iconst (pc' := 54) X (1 : Int32) dX7_reach_53 (by decide) rfl ?_
          refine r_put (pc' := 57) (ty := .boolean) (ws' := [oX7 a_z a_mm a_old a_saved_ a_isSaved a_text textLength refused a_far a_marked a_stack top highest (1 : Int32) a_command commands at_ fault_ hash, oI a_mm cI 1222 mm, oZ a_marked cZ 200 (upd marked t1.toNatClampNeg (1 : Int32)), oI a_stack cI 20 stack]) X uX7_reach_X7 0 12 tyX7 tyX7_ok nmX7 dX7_reach_54 rfl rfl (by decide) kX7_reach_4 rfl (by decide +kernel) rfl rfl (Nat.le_of_ble_eq_true rfl) rfl rfl ?_
          cases hF
          exact RT.2.2 0 0 _ _ _ rfl dX7_reach_57 ⟨rfl, rfl⟩ (Nat.le_refl 0) (Nat.le_refl 0)
      · replace hF := g_f c9 hF
        cases hF
        exact RT.2.2 0 0 _ _ _ rfl dX7_reach_29 ⟨rfl, rfl⟩ (Nat.le_refl 0) (Nat.le_refl 0)
  replace hF := hR
  refine r_icmp_ne (pc' := 5) X 9 dX7_reach_2 (by decide) rfl (fun c9 => ?_) (fun c9 => ?_)
  · replace hF := g_f c9 hF
    refine r_aload_n (pc' := 10) X dX7_reach_9 rfl 0 rfl rfl ?_
    refine r_iload_n (pc' := 11) X dX7_reach_10 rfl 1 rfl rfl ?_
    obtain ⟨r8, hc9, hF⟩ := g_bd hF
    refine r_callVF (pc' := 14) (ws' := [oX7 a_z a_mm a_old a_saved_ a_isSaved a_text textLength refused a_far a_marked a_stack top highest overflowed a_command commands at_ fault_ hash, oI a_mm cI 1222 mm, oZ a_marked cZ 200 marked, oI a_stack cI 20 stack]) (st' := [.int r8]) X (mX7_objectOf D cI cZ cH a_z a_mm a_old a_saved_ a_isSaved a_text a_far a_marked a_stack a_command textLength refused top highest overflowed commands at_ fault_ hash mm p1 r8 hc9) 1 gX7_reach_X7_objectOf rfl (by decide +kernel) rfl rfl ⟨Nat.le_of_ble_eq_true rfl, Nat.le_of_ble_eq_true rfl⟩ ⟨Nat.le_of_ble_eq_true rfl, Nat.le_of_ble_eq_true rfl⟩ rfl (Nat.le_of_ble_eq_true rfl) dX7_reach_11 0 rfl rfl [0, 1] rfl rfl rfl rfl rfl rfl ?_
    refine r_sub (lv' := [(0, .ref a_z)]) X [0] rfl ?_
    exact hJ2 r8 (Option.some.inj hF)
  · replace hF := g_t c9 hF
    refine r_iconst (pc' := 6) X (-1 : Int32) dX7_reach_5 (by decide) rfl ?_
    refine r_goto X 14 dX7_reach_6 (by decide) ?_
    refine r_sub (lv' := [(0, .ref a_z)]) X [0] rfl ?_
    exact hJ2 (-1 : Int32) (Option.some.inj hF)
theorem kX7_drains_1 : Cond.fieldLink RX7 91 "IslandHeapModel" "top" "I" ∈ wsX7_drains := List.mem_of_getElem? (i := 1) (by decide +kernel)
theorem kX7_drains_2 : Cond.fieldLink RX7 36 "IslandHeapModel" "stack" "[I" ∈ wsX7_drains := List.mem_of_getElem? (i := 2) (by decide +kernel)
theorem kX7_drains_3 : Cond.fieldLink RX7 7 "IslandHeapModel" "m" "[I" ∈ wsX7_drains := List.mem_of_getElem? (i := 3) (by decide +kernel)
theorem uX7_drains_X7 : ∀ w ∈ u_ws RX7 TX7 18, w ∈ wsX7_drains := by decide +kernel
set_option maxHeartbeats 4000000 in
set_option maxRecDepth 100000 in
theorem mX7_drains (D : va_G) (cI cZ cH : ClassId) (a_z : Nat) (a_mm : Nat) (a_marked : Nat) (a_stack : Nat) (a_old : Nat) (a_saved_ : Nat) (a_isSaved : Nat) (a_text : Nat) (a_far : Nat) (a_command : Nat) (textLength : Int32) (refused : Int32) (top : Int32) (highest : Int32) (overflowed : Int32) (commands : Int32) (at_ : Int32) (fault_ : Int32) (hash : Int64) (mm : Nat → Int32) (marked : Nat → Int32) (stack : Nat → Int32) (w_top : Int32) (w_highest : Int32) (w_overflowed : Int32) (w_marked : Nat → Int32) (w_stack : Nat → Int32) (hF : FX7_drains top highest overflowed mm marked stack = some (w_top, w_highest, w_overflowed, w_marked, w_stack)) : g_CM yX7_drains wsX7_drains ({ frames := 3, cells := 0, slots := 0, locals := 66 }) D cI cZ cH [.ref a_z] [oX7 a_z a_mm a_old a_saved_ a_isSaved a_text textLength refused a_far a_marked a_stack top highest overflowed a_command commands at_ fault_ hash, oI a_mm cI 1222 mm, oZ a_marked cZ 200 marked, oI a_stack cI 20 stack] 0 0 (g_Tm (none) [oX7 a_z a_mm a_old a_saved_ a_isSaved a_text textLength refused a_far a_marked a_stack w_top w_highest w_overflowed a_command commands at_ fault_ hash, oI a_mm cI 1222 mm, oZ a_marked cZ 200 w_marked, oI a_stack cI 20 w_stack]) := by
  refine g_met (own := RX7) (mn := "drains") (cc := cX7_drains) (maxL := 3) (ret := none) rfl rfl (by decide +kernel) rfl (Nat.le_of_ble_eq_true rfl) (fun G X RT => ?_)
  show G 0 0 [oX7 a_z a_mm a_old a_saved_ a_isSaved a_text textLength refused a_far a_marked a_stack top highest overflowed a_command commands at_ fault_ hash, oI a_mm cI 1222 mm, oZ a_marked cZ 200 marked, oI a_stack cI 20 stack] [(0, .ref a_z)] 0 []
  unfold FX7_drains at hF
  obtain ⟨ex0, hR, hF⟩ := g_bd hF
  have hE0 : ∀ (top_6 : Int32) (highest_7 : Int32) (overflowed_8 : Int32) (marked_9 : Nat → Int32) (stack_10 : Nat → Int32), (top_6, highest_7, overflowed_8, marked_9, stack_10) = ex0 → G 0 0 [oX7 a_z a_mm a_old a_saved_ a_isSaved a_text textLength refused a_far a_marked a_stack top_6 highest_7 overflowed_8 a_command commands at_ fault_ hash, oI a_mm cI 1222 mm, oZ a_marked cZ 200 marked_9, oI a_stack cI 20 stack_10] [] 68 [] := by
    intro top_6 highest_7 overflowed_8 marked_9 stack_10 hx; subst hx
    cases hF
    exact RT.2.2 0 0 _ _ _ rfl dX7_drains_68 ⟨rfl, rfl⟩ (Nat.le_refl 0) (Nat.le_refl 0)
  have hL0 : ∀ (fu : Nat) (top_1 : Int32) (highest_2 : Int32) (overflowed_3 : Int32) (marked_4 : Nat → Int32) (stack_5 : Nat → Int32), g_itn (FX7_drains_L0 mm) fu (top_1, highest_2, overflowed_3, marked_4, stack_5) = some ex0 → G 0 0 [oX7 a_z a_mm a_old a_saved_ a_isSaved a_text textLength refused a_far a_marked a_stack top_1 highest_2 overflowed_3 a_command commands at_ fault_ hash, oI a_mm cI 1222 mm, oZ a_marked cZ 200 marked_4, oI a_stack cI 20 stack_5] [(0, .ref a_z)] 0 [] := by
    intro fu
    induction fu with
    | zero => intro top_1 highest_2 overflowed_3 marked_4 stack_5 h9; exact (g_it0 h9).elim
    | succ fu ih =>
      intro top_1 highest_2 overflowed_3 marked_4 stack_5 h9
      obtain ⟨y0, hF, hI0⟩ := g_its h9
      unfold FX7_drains_L0 at hF
      refine r_aload_n (pc' := 1) X dX7_drains_0 rfl 0 rfl rfl ?_
      refine r_get (pc' := 4) X uX7_drains_X7 0 10 dX7_drains_1 rfl rfl (by decide) kX7_drains_1 rfl rfl ?_
      refine r_if_le (pc' := 7) X 68 dX7_drains_4 (by decide) rfl (fun c9 => ?_) (fun c9 => ?_)
      · replace hF := g_t c9 hF
        cases hF
        refine r_sub (lv' := []) X [] rfl ?_
        exact hE0 top_1 highest_2 overflowed_3 marked_4 stack_5 hI0
      · replace hF := g_f c9 hF
        refine r_aload_n (pc' := 8) X dX7_drains_7 rfl 0 rfl rfl ?_
        refine r_dup (pc' := 9) X dX7_drains_8 rfl rfl ?_
        refine r_get (pc' := 12) X uX7_drains_X7 0 10 dX7_drains_9 rfl rfl (by decide) kX7_drains_1 rfl rfl ?_
        refine r_iconst (pc' := 13) X (1 : Int32) dX7_drains_12 (by decide) rfl ?_
        refine r_isub (pc' := 14) X dX7_drains_13 rfl ?_
        refine r_put (pc' := 17) (ty := .int) (ws' := [oX7 a_z a_mm a_old a_saved_ a_isSaved a_text textLength refused a_far a_marked a_stack (top_1 - (1 : Int32)) highest_2 overflowed_3 a_command commands at_ fault_ hash, oI a_mm cI 1222 mm, oZ a_marked cZ 200 marked_4, oI a_stack cI 20 stack_5]) X uX7_drains_X7 0 10 tyX7 tyX7_ok nmX7 dX7_drains_14 rfl rfl (by decide) kX7_drains_1 rfl (by decide +kernel) rfl rfl (Nat.le_of_ble_eq_true rfl) rfl rfl ?_
        refine r_aload_n (pc' := 18) X dX7_drains_17 rfl 0 rfl rfl ?_
        refine r_get (pc' := 21) X uX7_drains_X7 0 9 dX7_drains_18 rfl rfl (by decide) kX7_drains_2 rfl rfl ?_
        refine r_aload_n (pc' := 22) X dX7_drains_21 rfl 0 rfl rfl ?_
        refine r_get (pc' := 25) X uX7_drains_X7 0 10 dX7_drains_22 rfl rfl (by decide) kX7_drains_1 rfl rfl ?_
        obtain ⟨hi11, hF⟩ := g_gt hF
        refine r_iald (pc' := 26) X 3 dX7_drains_25 rfl (g_vi hi11) rfl ?_
        refine r_istore_n (pc' := 27) (lv' := [(0, .ref a_z), (1, .int (stack_5 (top_1 - (1 : Int32)).toNatClampNeg))]) X dX7_drains_26 rfl (by decide) [1, 0] rfl rfl ?_
        refine r_iconst (pc' := 28) X (1 : Int32) dX7_drains_27 (by decide) rfl ?_
        refine r_istore_n (pc' := 29) (lv' := [(0, .ref a_z), (1, .int (stack_5 (top_1 - (1 : Int32)).toNatClampNeg)), (2, .int (1 : Int32))]) X dX7_drains_28 rfl (by decide) [1, 2, 0] rfl rfl ?_
        obtain ⟨ex29, hR, hF⟩ := g_bd hF
        have hE29 : ∀ (top_18 : Int32) (highest_19 : Int32) (overflowed_20 : Int32) (marked_21 : Nat → Int32) (stack_22 : Nat → Int32), (top_18, highest_19, overflowed_20, marked_21, stack_22) = ex29 → G 0 0 [oX7 a_z a_mm a_old a_saved_ a_isSaved a_text textLength refused a_far a_marked a_stack top_18 highest_19 overflowed_20 a_command commands at_ fault_ hash, oI a_mm cI 1222 mm, oZ a_marked cZ 200 marked_21, oI a_stack cI 20 stack_22] [(0, .ref a_z)] 65 [] := by
          intro top_18 highest_19 overflowed_20 marked_21 stack_22 hx; subst hx
          refine r_goto X 0 dX7_drains_65 (by decide) ?_
          cases hF
          exact ih top_18 highest_19 overflowed_20 marked_21 stack_22 hI0
        have hL29 : ∀ (fu : Nat) (v2_12 : Int32) (top_13 : Int32) (highest_14 : Int32) (overflowed_15 : Int32) (marked_16 : Nat → Int32) (stack_17 : Nat → Int32), g_itn (FX7_drains_L29 mm top_1 stack_5) fu (v2_12, top_13, highest_14, overflowed_15, marked_16, stack_17) = some ex29 → G 0 0 [oX7 a_z a_mm a_old a_saved_ a_isSaved a_text textLength refused a_far a_marked a_stack top_13 highest_14 overflowed_15 a_command commands at_ fault_ hash, oI a_mm cI 1222 mm, oZ a_marked cZ 200 marked_16, oI a_stack cI 20 stack_17] [(0, .ref a_z), (1, .int (stack_5 (top_1 - (1 : Int32)).toNatClampNeg)), (2, .int v2_12)] 29 [] := by
          intro fu
          induction fu with
          | zero => intro v2_12 top_13 highest_14 overflowed_15 marked_16 stack_17 h9; exact (g_it0 h9).elim
          | succ fu ih =>
            intro v2_12 top_13 highest_14 overflowed_15 marked_16 stack_17 h9
            obtain ⟨y29, hF, hI29⟩ := g_its h9
            unfold FX7_drains_L29 at hF
            refine r_iload_n (pc' := 30) X dX7_drains_29 rfl 2 rfl rfl ?_
            refine r_aload_n (pc' := 31) X dX7_drains_30 rfl 0 rfl rfl ?_
            refine r_get (pc' := 34) X uX7_drains_X7 0 0 dX7_drains_31 rfl rfl (by decide) kX7_drains_3 rfl rfl ?_
            refine r_sipush (pc' := 37) X (200 : Int32) dX7_drains_34 (by decide) rfl ?_
            refine r_iload_n (pc' := 38) X dX7_drains_37 rfl 1 rfl rfl ?_
            refine r_iadd (pc' := 39) X dX7_drains_38 rfl ?_
            obtain ⟨hi23, hF⟩ := g_gt hF
            refine r_iald (pc' := 40) X 1 dX7_drains_39 rfl (g_vi hi23) rfl ?_
            refine r_icmp_gt (pc' := 43) X 65 dX7_drains_40 (by decide) rfl (fun c9 => ?_) (fun c9 => ?_)
            · replace hF := g_t c9 hF
              cases hF
              refine r_sub (lv' := [(0, .ref a_z)]) X [0] rfl ?_
              exact hE29 top_13 highest_14 overflowed_15 marked_16 stack_17 hI29
            · replace hF := g_f c9 hF
              refine r_aload_n (pc' := 44) X dX7_drains_43 rfl 0 rfl rfl ?_
              refine r_aload_n (pc' := 45) X dX7_drains_44 rfl 0 rfl rfl ?_
              refine r_get (pc' := 48) X uX7_drains_X7 0 0 dX7_drains_45 rfl rfl (by decide) kX7_drains_3 rfl rfl ?_
              refine r_sipush (pc' := 51) X (800 : Int32) dX7_drains_48 (by decide) rfl ?_
              refine r_iload_n (pc' := 52) X dX7_drains_51 rfl 1 rfl rfl ?_
              refine r_iadd (pc' := 53) X dX7_drains_52 rfl ?_
              refine r_iload_n (pc' := 54) X dX7_drains_53 rfl 2 rfl rfl ?_
              refine r_iadd (pc' := 55) X dX7_drains_54 rfl ?_
              obtain ⟨hi24, hF⟩ := g_gt hF
              refine r_iald (pc' := 56) X 1 dX7_drains_55 rfl (g_vi hi24) rfl ?_
              obtain ⟨⟨top_25, highest_26, overflowed_27, marked_28, stack_29⟩, hc30, hF⟩ := g_bd hF
              refine r_callVF (pc' := 59) (ws' := [oX7 a_z a_mm a_old a_saved_ a_isSaved a_text textLength refused a_far a_marked a_stack top_25 highest_26 overflowed_27 a_command commands at_ fault_ hash, oI a_mm cI 1222 mm, oZ a_marked cZ 200 marked_28, oI a_stack cI 20 stack_29]) (st' := []) X (mX7_reach D cI cZ cH a_z a_mm a_marked a_stack a_old a_saved_ a_isSaved a_text a_far a_command textLength refused top_13 highest_14 overflowed_15 commands at_ fault_ hash mm marked_16 stack_17 (mm (((800 : Int32) + (stack_5 (top_1 - (1 : Int32)).toNatClampNeg)) + v2_12).toNatClampNeg) top_25 highest_26 overflowed_27 marked_28 stack_29 hc30) 1 gX7_drains_X7_reach rfl (by decide +kernel) rfl rfl ⟨Nat.le_of_ble_eq_true rfl, Nat.le_of_ble_eq_true rfl⟩ ⟨Nat.le_of_ble_eq_true rfl, Nat.le_of_ble_eq_true rfl⟩ rfl (Nat.le_of_ble_eq_true rfl) dX7_drains_56 0 rfl rfl [0, 1, 2, 3] rfl rfl rfl rfl rfl rfl ?_
              refine r_iinc (pc' := 62) (lv' := [(0, .ref a_z), (1, .int (stack_5 (top_1 - (1 : Int32)).toNatClampNeg)), (2, .int (v2_12 + (1 : Int32)))]) X (v2_12 + (1 : Int32)) dX7_drains_59 2 rfl (congrArg (fun z => v2_12 + z) (by decide)) (by decide) [1, 2, 0] rfl rfl ?_
              refine r_goto X 29 dX7_drains_62 (by decide) ?_
              cases hF
              exact ih (v2_12 + (1 : Int32)) top_25 highest_26 overflowed_27 marked_28 stack_29 hI29
        exact hL29 g_fuel (1 : Int32) (top_1 - (1 : Int32)) highest_2 overflowed_3 marked_4 stack_5 hR
  exact hL0 g_fuel top highest overflowed marked stack hR
theorem kX7_scans_1 : Cond.fieldLink RX7 7 "IslandHeapModel" "m" "[I" ∈ wsX7_scans := List.mem_of_getElem? (i := 1) (by decide +kernel)
theorem kX7_scans_2 : Cond.fieldLink RX7 33 "IslandHeapModel" "marked" "[Z" ∈ wsX7_scans := List.mem_of_getElem? (i := 2) (by decide +kernel)
theorem uX7_scans_X7 : ∀ w ∈ u_ws RX7 TX7 18, w ∈ wsX7_scans := by decide +kernel
set_option maxHeartbeats 4000000 in
set_option maxRecDepth 100000 in
theorem mX7_scans (D : va_G) (cI cZ cH : ClassId) (a_z : Nat) (a_mm : Nat) (a_marked : Nat) (a_stack : Nat) (a_old : Nat) (a_saved_ : Nat) (a_isSaved : Nat) (a_text : Nat) (a_far : Nat) (a_command : Nat) (textLength : Int32) (refused : Int32) (top : Int32) (highest : Int32) (overflowed : Int32) (commands : Int32) (at_ : Int32) (fault_ : Int32) (hash : Int64) (mm : Nat → Int32) (marked : Nat → Int32) (stack : Nat → Int32) (w_top : Int32) (w_highest : Int32) (w_overflowed : Int32) (w_marked : Nat → Int32) (w_stack : Nat → Int32) (hF : FX7_scans top highest overflowed mm marked stack = some (w_top, w_highest, w_overflowed, w_marked, w_stack)) : g_CM yX7_scans wsX7_scans ({ frames := 4, cells := 0, slots := 0, locals := 88 }) D cI cZ cH [.ref a_z] [oX7 a_z a_mm a_old a_saved_ a_isSaved a_text textLength refused a_far a_marked a_stack top highest overflowed a_command commands at_ fault_ hash, oI a_mm cI 1222 mm, oZ a_marked cZ 200 marked, oI a_stack cI 20 stack] 0 0 (g_Tm (none) [oX7 a_z a_mm a_old a_saved_ a_isSaved a_text textLength refused a_far a_marked a_stack w_top w_highest w_overflowed a_command commands at_ fault_ hash, oI a_mm cI 1222 mm, oZ a_marked cZ 200 w_marked, oI a_stack cI 20 w_stack]) := by
  refine g_met (own := RX7) (mn := "scans") (cc := cX7_scans) (maxL := 3) (ret := none) rfl rfl (by decide +kernel) rfl (Nat.le_of_ble_eq_true rfl) (fun G X RT => ?_)
  show G 0 0 [oX7 a_z a_mm a_old a_saved_ a_isSaved a_text textLength refused a_far a_marked a_stack top highest overflowed a_command commands at_ fault_ hash, oI a_mm cI 1222 mm, oZ a_marked cZ 200 marked, oI a_stack cI 20 stack] [(0, .ref a_z)] 0 []
  unfold FX7_scans at hF
  refine r_iconst (pc' := 1) X (0 : Int32) dX7_scans_0 (by decide) rfl ?_
  refine r_istore_n (pc' := 2) (lv' := [(0, .ref a_z), (1, .int (0 : Int32))]) X dX7_scans_1 rfl (by decide) [1, 0] rfl rfl ?_
  obtain ⟨ex2, hR, hF⟩ := g_bd hF
  have hE2 : ∀ (top_7 : Int32) (highest_8 : Int32) (overflowed_9 : Int32) (marked_10 : Nat → Int32) (stack_11 : Nat → Int32), (top_7, highest_8, overflowed_9, marked_10, stack_11) = ex2 → G 0 0 [oX7 a_z a_mm a_old a_saved_ a_isSaved a_text textLength refused a_far a_marked a_stack top_7 highest_8 overflowed_9 a_command commands at_ fault_ hash, oI a_mm cI 1222 mm, oZ a_marked cZ 200 marked_10, oI a_stack cI 20 stack_11] [] 82 [] := by
    intro top_7 highest_8 overflowed_9 marked_10 stack_11 hx; subst hx
    cases hF
    exact RT.2.2 0 0 _ _ _ rfl dX7_scans_82 ⟨rfl, rfl⟩ (Nat.le_refl 0) (Nat.le_refl 0)
  have hL2 : ∀ (fu : Nat) (v1_1 : Int32) (top_2 : Int32) (highest_3 : Int32) (overflowed_4 : Int32) (marked_5 : Nat → Int32) (stack_6 : Nat → Int32), g_itn (FX7_scans_L2 mm) fu (v1_1, top_2, highest_3, overflowed_4, marked_5, stack_6) = some ex2 → G 0 0 [oX7 a_z a_mm a_old a_saved_ a_isSaved a_text textLength refused a_far a_marked a_stack top_2 highest_3 overflowed_4 a_command commands at_ fault_ hash, oI a_mm cI 1222 mm, oZ a_marked cZ 200 marked_5, oI a_stack cI 20 stack_6] [(0, .ref a_z), (1, .int v1_1)] 2 [] := by
    intro fu
    induction fu with
    | zero => intro v1_1 top_2 highest_3 overflowed_4 marked_5 stack_6 h9; exact (g_it0 h9).elim
    | succ fu ih =>
      intro v1_1 top_2 highest_3 overflowed_4 marked_5 stack_6 h9
      obtain ⟨y2, hF, hI2⟩ := g_its h9
      unfold FX7_scans_L2 at hF
      refine r_iload_n (pc' := 3) X dX7_scans_2 rfl 1 rfl rfl ?_
      refine r_aload_n (pc' := 4) X dX7_scans_3 rfl 0 rfl rfl ?_
      refine r_get (pc' := 7) X uX7_scans_X7 0 0 dX7_scans_4 rfl rfl (by decide) kX7_scans_1 rfl rfl ?_
      refine r_sipush (pc' := 10) X (1216 : Int32) dX7_scans_7 (by decide) rfl ?_
      refine r_ialdK (pc' := 11) (j := 1216) X 1 dX7_scans_10 rfl (by decide +kernel) (by decide +kernel) rfl ?_
      refine r_icmp_ge (pc' := 14) X 82 dX7_scans_11 (by decide) rfl (fun c9 => ?_) (fun c9 => ?_)
      · replace hF := g_t c9 hF
        cases hF
        refine r_sub (lv' := []) X [] rfl ?_
        exact hE2 top_2 highest_3 overflowed_4 marked_5 stack_6 hI2
      · replace hF := g_f c9 hF
        refine r_iconst (pc' := 15) X (1 : Int32) dX7_scans_14 (by decide) rfl ?_
        refine r_istore_n (pc' := 16) (lv' := [(0, .ref a_z), (1, .int v1_1), (2, .int (1 : Int32))]) X dX7_scans_15 rfl (by decide) [1, 2, 0] rfl rfl ?_
        obtain ⟨ex16, hR, hF⟩ := g_bd hF
        have hE16 : ∀ (top_18 : Int32) (highest_19 : Int32) (overflowed_20 : Int32) (marked_21 : Nat → Int32) (stack_22 : Nat → Int32), (top_18, highest_19, overflowed_20, marked_21, stack_22) = ex16 → G 0 0 [oX7 a_z a_mm a_old a_saved_ a_isSaved a_text textLength refused a_far a_marked a_stack top_18 highest_19 overflowed_20 a_command commands at_ fault_ hash, oI a_mm cI 1222 mm, oZ a_marked cZ 200 marked_21, oI a_stack cI 20 stack_22] [(0, .ref a_z), (1, .int v1_1)] 76 [] := by
          intro top_18 highest_19 overflowed_20 marked_21 stack_22 hx; subst hx
          refine r_iinc (pc' := 79) (lv' := [(0, .ref a_z), (1, .int (v1_1 + (1 : Int32)))]) X (v1_1 + (1 : Int32)) dX7_scans_76 1 rfl (congrArg (fun z => v1_1 + z) (by decide)) (by decide) [1, 0] rfl rfl ?_
          refine r_goto X 2 dX7_scans_79 (by decide) ?_
          cases hF
          exact ih (v1_1 + (1 : Int32)) top_18 highest_19 overflowed_20 marked_21 stack_22 hI2
        have hL16 : ∀ (fu : Nat) (v2_12 : Int32) (top_13 : Int32) (highest_14 : Int32) (overflowed_15 : Int32) (marked_16 : Nat → Int32) (stack_17 : Nat → Int32), g_itn (FX7_scans_L16 mm v1_1) fu (v2_12, top_13, highest_14, overflowed_15, marked_16, stack_17) = some ex16 → G 0 0 [oX7 a_z a_mm a_old a_saved_ a_isSaved a_text textLength refused a_far a_marked a_stack top_13 highest_14 overflowed_15 a_command commands at_ fault_ hash, oI a_mm cI 1222 mm, oZ a_marked cZ 200 marked_16, oI a_stack cI 20 stack_17] [(0, .ref a_z), (1, .int v1_1), (2, .int v2_12)] 16 [] := by
          intro fu
          induction fu with
          | zero => intro v2_12 top_13 highest_14 overflowed_15 marked_16 stack_17 h9; exact (g_it0 h9).elim
          | succ fu ih =>
            intro v2_12 top_13 highest_14 overflowed_15 marked_16 stack_17 h9
            obtain ⟨y16, hF, hI16⟩ := g_its h9
            unfold FX7_scans_L16 at hF
            refine r_iload_n (pc' := 17) X dX7_scans_16 rfl 2 rfl rfl ?_
            refine r_aload_n (pc' := 18) X dX7_scans_17 rfl 0 rfl rfl ?_
            refine r_get (pc' := 21) X uX7_scans_X7 0 0 dX7_scans_18 rfl rfl (by decide) kX7_scans_1 rfl rfl ?_
            refine r_sipush (pc' := 24) X (200 : Int32) dX7_scans_21 (by decide) rfl ?_
            refine r_iload_n (pc' := 25) X dX7_scans_24 rfl 1 rfl rfl ?_
            refine r_iadd (pc' := 26) X dX7_scans_25 rfl ?_
            obtain ⟨hi23, hF⟩ := g_gt hF
            refine r_iald (pc' := 27) X 1 dX7_scans_26 rfl (g_vi hi23) rfl ?_
            refine r_icmp_gt (pc' := 30) X 76 dX7_scans_27 (by decide) rfl (fun c9 => ?_) (fun c9 => ?_)
            · replace hF := g_t c9 hF
              cases hF
              refine r_sub (lv' := [(0, .ref a_z), (1, .int v1_1)]) X [0, 1] rfl ?_
              exact hE16 top_13 highest_14 overflowed_15 marked_16 stack_17 hI16
            · replace hF := g_f c9 hF
              refine r_aload_n (pc' := 31) X dX7_scans_30 rfl 0 rfl rfl ?_
              refine r_get (pc' := 34) X uX7_scans_X7 0 0 dX7_scans_31 rfl rfl (by decide) kX7_scans_1 rfl rfl ?_
              refine r_iconst (pc' := 35) X (0 : Int32) dX7_scans_34 (by decide) rfl ?_
              refine r_iload_n (pc' := 36) X dX7_scans_35 rfl 1 rfl rfl ?_
              refine r_iadd (pc' := 37) X dX7_scans_36 rfl ?_
              obtain ⟨hi24, hF⟩ := g_gt hF
              refine r_iald (pc' := 38) X 1 dX7_scans_37 rfl (g_vi hi24) rfl ?_
              refine r_if_le (pc' := 41) X 76 dX7_scans_38 (by decide) rfl (fun c9 => ?_) (fun c9 => ?_)
              · replace hF := g_t c9 hF
                cases hF
                refine r_sub (lv' := [(0, .ref a_z), (1, .int v1_1)]) X [0, 1] rfl ?_
                exact hE16 top_13 highest_14 overflowed_15 marked_16 stack_17 hI16
              · replace hF := g_f c9 hF
                refine r_aload_n (pc' := 42) X dX7_scans_41 rfl 0 rfl rfl ?_
                refine r_get (pc' := 45) X uX7_scans_X7 0 8 dX7_scans_42 rfl rfl (by decide) kX7_scans_2 rfl rfl ?_
                refine r_iload_n (pc' := 46) X dX7_scans_45 rfl 1 rfl rfl ?_
                obtain ⟨hi25, hF⟩ := g_gt hF
                refine r_zald (pc' := 47) X 2 dX7_scans_46 rfl (g_vi hi25) rfl ?_
                refine r_if_eq (pc' := 50) X 76 dX7_scans_47 (by decide) rfl (fun c9 => ?_) (fun c9 => ?_)
                · replace hF := g_t c9 hF
                  cases hF
                  refine r_sub (lv' := [(0, .ref a_z), (1, .int v1_1)]) X [0, 1] rfl ?_
                  exact hE16 top_13 highest_14 overflowed_15 marked_16 stack_17 hI16
                · replace hF := g_f c9 hF
                  refine r_aload_n (pc' := 51) X dX7_scans_50 rfl 0 rfl rfl ?_
                  refine r_aload_n (pc' := 52) X dX7_scans_51 rfl 0 rfl rfl ?_
                  refine r_get (pc' := 55) X uX7_scans_X7 0 0 dX7_scans_52 rfl rfl (by decide) kX7_scans_1 rfl rfl ?_
                  refine r_sipush (pc' := 58) X (800 : Int32) dX7_scans_55 (by decide) rfl ?_
                  refine r_iload_n (pc' := 59) X dX7_scans_58 rfl 1 rfl rfl ?_
                  refine r_iadd (pc' := 60) X dX7_scans_59 rfl ?_
                  refine r_iload_n (pc' := 61) X dX7_scans_60 rfl 2 rfl rfl ?_
                  refine r_iadd (pc' := 62) X dX7_scans_61 rfl ?_
                  obtain ⟨hi26, hF⟩ := g_gt hF
                  refine r_iald (pc' := 63) X 1 dX7_scans_62 rfl (g_vi hi26) rfl ?_
                  obtain ⟨⟨top_27, highest_28, overflowed_29, marked_30, stack_31⟩, hc32, hF⟩ := g_bd hF
                  refine r_callVF (pc' := 66) (ws' := [oX7 a_z a_mm a_old a_saved_ a_isSaved a_text textLength refused a_far a_marked a_stack top_27 highest_28 overflowed_29 a_command commands at_ fault_ hash, oI a_mm cI 1222 mm, oZ a_marked cZ 200 marked_30, oI a_stack cI 20 stack_31]) (st' := []) X (mX7_reach D cI cZ cH a_z a_mm a_marked a_stack a_old a_saved_ a_isSaved a_text a_far a_command textLength refused top_13 highest_14 overflowed_15 commands at_ fault_ hash mm marked_16 stack_17 (mm (((800 : Int32) + v1_1) + v2_12).toNatClampNeg) top_27 highest_28 overflowed_29 marked_30 stack_31 hc32) 1 gX7_scans_X7_reach rfl (by decide +kernel) rfl rfl ⟨Nat.le_of_ble_eq_true rfl, Nat.le_of_ble_eq_true rfl⟩ ⟨Nat.le_of_ble_eq_true rfl, Nat.le_of_ble_eq_true rfl⟩ rfl (Nat.le_of_ble_eq_true rfl) dX7_scans_63 0 rfl rfl [0, 1, 2, 3] rfl rfl rfl rfl rfl rfl ?_
                  refine r_aload_n (pc' := 67) X dX7_scans_66 rfl 0 rfl rfl ?_
                  obtain ⟨⟨top_33, highest_34, overflowed_35, marked_36, stack_37⟩, hc38, hF⟩ := g_bd hF
                  refine r_callVF (pc' := 70) (ws' := [oX7 a_z a_mm a_old a_saved_ a_isSaved a_text textLength refused a_far a_marked a_stack top_33 highest_34 overflowed_35 a_command commands at_ fault_ hash, oI a_mm cI 1222 mm, oZ a_marked cZ 200 marked_36, oI a_stack cI 20 stack_37]) (st' := []) X (mX7_drains D cI cZ cH a_z a_mm a_marked a_stack a_old a_saved_ a_isSaved a_text a_far a_command textLength refused top_27 highest_28 overflowed_29 commands at_ fault_ hash mm marked_30 stack_31 top_33 highest_34 overflowed_35 marked_36 stack_37 hc38) 0 gX7_scans_X7_drains rfl (by decide +kernel) rfl rfl ⟨Nat.le_of_ble_eq_true rfl, Nat.le_of_ble_eq_true rfl⟩ ⟨Nat.le_of_ble_eq_true rfl, Nat.le_of_ble_eq_true rfl⟩ rfl (Nat.le_of_ble_eq_true rfl) dX7_scans_67 0 rfl rfl [0, 1, 2, 3] rfl rfl rfl rfl rfl rfl ?_
                  refine r_iinc (pc' := 73) (lv' := [(0, .ref a_z), (1, .int v1_1), (2, .int (v2_12 + (1 : Int32)))]) X (v2_12 + (1 : Int32)) dX7_scans_70 2 rfl (congrArg (fun z => v2_12 + z) (by decide)) (by decide) [1, 2, 0] rfl rfl ?_
                  refine r_goto X 16 dX7_scans_73 (by decide) ?_
                  cases hF
                  exact ih (v2_12 + (1 : Int32)) top_33 highest_34 overflowed_35 marked_36 stack_37 hI16
        exact hL16 g_fuel (1 : Int32) top_2 highest_3 overflowed_4 marked_5 stack_6 hR
  exact hL2 g_fuel (0 : Int32) top highest overflowed marked stack hR
theorem kX7_marks_2 : Cond.fieldLink RX7 91 "IslandHeapModel" "top" "I" ∈ wsX7_marks := List.mem_of_getElem? (i := 2) (by decide +kernel)
theorem kX7_marks_3 : Cond.fieldLink RX7 98 "IslandHeapModel" "highest" "I" ∈ wsX7_marks := List.mem_of_getElem? (i := 3) (by decide +kernel)
theorem kX7_marks_4 : Cond.fieldLink RX7 94 "IslandHeapModel" "overflowed" "Z" ∈ wsX7_marks := List.mem_of_getElem? (i := 4) (by decide +kernel)
theorem kX7_marks_5 : Cond.fieldLink RX7 7 "IslandHeapModel" "m" "[I" ∈ wsX7_marks := List.mem_of_getElem? (i := 5) (by decide +kernel)
theorem kX7_marks_1 : Cond.fieldLink RX7 33 "IslandHeapModel" "marked" "[Z" ∈ wsX7_marks := List.mem_of_getElem? (i := 1) (by decide +kernel)
theorem uX7_marks_X7 : ∀ w ∈ u_ws RX7 TX7 18, w ∈ wsX7_marks := by decide +kernel
set_option maxHeartbeats 4000000 in
set_option maxRecDepth 100000 in
theorem mX7_marks (D : va_G) (cI cZ cH : ClassId) (a_z : Nat) (a_mm : Nat) (a_marked : Nat) (a_stack : Nat) (a_old : Nat) (a_saved_ : Nat) (a_isSaved : Nat) (a_text : Nat) (a_far : Nat) (a_command : Nat) (textLength : Int32) (refused : Int32) (top : Int32) (highest : Int32) (overflowed : Int32) (commands : Int32) (at_ : Int32) (fault_ : Int32) (hash : Int64) (mm : Nat → Int32) (marked : Nat → Int32) (stack : Nat → Int32) (r0 : Int32) (w_top : Int32) (w_highest : Int32) (w_overflowed : Int32) (w_marked : Nat → Int32) (w_stack : Nat → Int32) (hF : FX7_marks top highest overflowed mm marked stack = some (r0, w_top, w_highest, w_overflowed, w_marked, w_stack)) : g_CM yX7_marks wsX7_marks ({ frames := 5, cells := 0, slots := 0, locals := 110 }) D cI cZ cH [.ref a_z] [oX7 a_z a_mm a_old a_saved_ a_isSaved a_text textLength refused a_far a_marked a_stack top highest overflowed a_command commands at_ fault_ hash, oI a_mm cI 1222 mm, oZ a_marked cZ 200 marked, oI a_stack cI 20 stack] 0 0 (g_Tm (some (.int r0)) [oX7 a_z a_mm a_old a_saved_ a_isSaved a_text textLength refused a_far a_marked a_stack w_top w_highest w_overflowed a_command commands at_ fault_ hash, oI a_mm cI 1222 mm, oZ a_marked cZ 200 w_marked, oI a_stack cI 20 w_stack]) := by
  refine g_met (own := RX7) (mn := "marks") (cc := cX7_marks) (maxL := 2) (ret := (some .int)) rfl rfl (by decide +kernel) rfl (Nat.le_of_ble_eq_true rfl) (fun G X RT => ?_)
  show G 0 0 [oX7 a_z a_mm a_old a_saved_ a_isSaved a_text textLength refused a_far a_marked a_stack top highest overflowed a_command commands at_ fault_ hash, oI a_mm cI 1222 mm, oZ a_marked cZ 200 marked, oI a_stack cI 20 stack] [(0, .ref a_z)] 0 []
  unfold FX7_marks at hF
  refine r_iconst (pc' := 1) X (0 : Int32) dX7_marks_0 (by decide) rfl ?_
  refine r_istore_n (pc' := 2) (lv' := [(0, .ref a_z), (1, .int (0 : Int32))]) X dX7_marks_1 rfl (by decide) [1, 0] rfl rfl ?_
  obtain ⟨ex2, hR, hF⟩ := g_bd hF
  have hE2 : ∀ (marked_3 : Nat → Int32), marked_3 = ex2 → G 0 0 [oX7 a_z a_mm a_old a_saved_ a_isSaved a_text textLength refused a_far a_marked a_stack top highest overflowed a_command commands at_ fault_ hash, oI a_mm cI 1222 mm, oZ a_marked cZ 200 marked_3, oI a_stack cI 20 stack] [(0, .ref a_z)] 22 [] := by
    intro marked_3 hx; subst hx
    refine r_aload_n (pc' := 23) X dX7_marks_22 rfl 0 rfl rfl ?_
    refine r_iconst (pc' := 24) X (0 : Int32) dX7_marks_23 (by decide) rfl ?_
    refine r_put (pc' := 27) (ty := .int) (ws' := [oX7 a_z a_mm a_old a_saved_ a_isSaved a_text textLength refused a_far a_marked a_stack (0 : Int32) highest overflowed a_command commands at_ fault_ hash, oI a_mm cI 1222 mm, oZ a_marked cZ 200 marked_3, oI a_stack cI 20 stack]) X uX7_marks_X7 0 10 tyX7 tyX7_ok nmX7 dX7_marks_24 rfl rfl (by decide) kX7_marks_2 rfl (by decide +kernel) rfl rfl (Nat.le_of_ble_eq_true rfl) rfl rfl ?_
    refine r_aload_n (pc' := 28) X dX7_marks_27 rfl 0 rfl rfl ?_
    refine r_iconst (pc' := 29) X (0 : Int32) dX7_marks_28 (by decide) rfl ?_
    refine r_put (pc' := 32) (ty := .int) (ws' := [oX7 a_z a_mm a_old a_saved_ a_isSaved a_text textLength refused a_far a_marked a_stack (0 : Int32) (0 : Int32) overflowed a_command commands at_ fault_ hash, oI a_mm cI 1222 mm, oZ a_marked cZ 200 marked_3, oI a_stack cI 20 stack]) X uX7_marks_X7 0 11 tyX7 tyX7_ok nmX7 dX7_marks_29 rfl rfl (by decide) kX7_marks_3 rfl (by decide +kernel) rfl rfl (Nat.le_of_ble_eq_true rfl) rfl rfl ?_
    refine r_aload_n (pc' := 33) X dX7_marks_32 rfl 0 rfl rfl ?_
    refine r_iconst (pc' := 34) X (0 : Int32) dX7_marks_33 (by decide) rfl ?_
    refine r_put (pc' := 37) (ty := .boolean) (ws' := [oX7 a_z a_mm a_old a_saved_ a_isSaved a_text textLength refused a_far a_marked a_stack (0 : Int32) (0 : Int32) (0 : Int32) a_command commands at_ fault_ hash, oI a_mm cI 1222 mm, oZ a_marked cZ 200 marked_3, oI a_stack cI 20 stack]) X uX7_marks_X7 0 12 tyX7 tyX7_ok nmX7 dX7_marks_34 rfl rfl (by decide) kX7_marks_4 rfl (by decide +kernel) rfl rfl (Nat.le_of_ble_eq_true rfl) rfl rfl ?_
    refine r_iconst (pc' := 38) X (0 : Int32) dX7_marks_37 (by decide) rfl ?_
    refine r_istore_n (pc' := 39) (lv' := [(0, .ref a_z), (1, .int (0 : Int32))]) X dX7_marks_38 rfl (by decide) [1, 0] rfl rfl ?_
    obtain ⟨ex39, hR, hF⟩ := g_bd hF
    have hE39 : ∀ (top_10 : Int32) (highest_11 : Int32) (overflowed_12 : Int32) (marked_13 : Nat → Int32) (stack_14 : Nat → Int32), (top_10, highest_11, overflowed_12, marked_13, stack_14) = ex39 → G 0 0 [oX7 a_z a_mm a_old a_saved_ a_isSaved a_text textLength refused a_far a_marked a_stack top_10 highest_11 overflowed_12 a_command commands at_ fault_ hash, oI a_mm cI 1222 mm, oZ a_marked cZ 200 marked_13, oI a_stack cI 20 stack_14] [(0, .ref a_z)] 69 [] := by
      intro top_10 highest_11 overflowed_12 marked_13 stack_14 hx; subst hx
      refine r_iconst (pc' := 70) X (0 : Int32) dX7_marks_69 (by decide) rfl ?_
      refine r_istore_n (pc' := 71) (lv' := [(0, .ref a_z), (1, .int (0 : Int32))]) X dX7_marks_70 rfl (by decide) [1, 0] rfl rfl ?_
      obtain ⟨ex71, hR, hF⟩ := g_bd hF
      have hE71 : ∀ (top_21 : Int32) (highest_22 : Int32) (overflowed_23 : Int32) (marked_24 : Nat → Int32) (stack_25 : Nat → Int32), (top_21, highest_22, overflowed_23, marked_24, stack_25) = ex71 → G 0 0 [oX7 a_z a_mm a_old a_saved_ a_isSaved a_text textLength refused a_far a_marked a_stack top_21 highest_22 overflowed_23 a_command commands at_ fault_ hash, oI a_mm cI 1222 mm, oZ a_marked cZ 200 marked_24, oI a_stack cI 20 stack_25] [(0, .ref a_z)] 127 [] := by
        intro top_21 highest_22 overflowed_23 marked_24 stack_25 hx; subst hx
        refine r_iconst (pc' := 128) X (0 : Int32) dX7_marks_127 (by decide) rfl ?_
        refine r_istore_n (pc' := 129) (lv' := [(0, .ref a_z), (1, .int (0 : Int32))]) X dX7_marks_128 rfl (by decide) [1, 0] rfl rfl ?_
        obtain ⟨ex129, hR, hF⟩ := g_bd hF
        have hE129 : ∀ (v1_32 : Int32) (top_33 : Int32) (highest_34 : Int32) (overflowed_35 : Int32) (marked_36 : Nat → Int32) (stack_37 : Nat → Int32), (v1_32, top_33, highest_34, overflowed_35, marked_36, stack_37) = ex129 → G 0 0 [oX7 a_z a_mm a_old a_saved_ a_isSaved a_text textLength refused a_far a_marked a_stack top_33 highest_34 overflowed_35 a_command commands at_ fault_ hash, oI a_mm cI 1222 mm, oZ a_marked cZ 200 marked_36, oI a_stack cI 20 stack_37] [(1, .int v1_32)] 151 [] := by
          intro v1_32 top_33 highest_34 overflowed_35 marked_36 stack_37 hx; subst hx
          refine r_iload_n (pc' := 152) X dX7_marks_151 rfl 0 rfl rfl ?_
          cases hF
          exact RT.1 0 0 _ _ _ _ .int rfl rfl dX7_marks_152 ⟨rfl, rfl⟩ (Nat.le_refl 0) (Nat.le_refl 0)
        have hL129 : ∀ (fu : Nat) (v1_26 : Int32) (top_27 : Int32) (highest_28 : Int32) (overflowed_29 : Int32) (marked_30 : Nat → Int32) (stack_31 : Nat → Int32), g_itn (FX7_marks_L129 mm) fu (v1_26, top_27, highest_28, overflowed_29, marked_30, stack_31) = some ex129 → G 0 0 [oX7 a_z a_mm a_old a_saved_ a_isSaved a_text textLength refused a_far a_marked a_stack top_27 highest_28 overflowed_29 a_command commands at_ fault_ hash, oI a_mm cI 1222 mm, oZ a_marked cZ 200 marked_30, oI a_stack cI 20 stack_31] [(0, .ref a_z), (1, .int v1_26)] 129 [] := by
          intro fu
          induction fu with
          | zero => intro v1_26 top_27 highest_28 overflowed_29 marked_30 stack_31 h9; exact (g_it0 h9).elim
          | succ fu ih =>
            intro v1_26 top_27 highest_28 overflowed_29 marked_30 stack_31 h9
            obtain ⟨y129, hF, hI129⟩ := g_its h9
            unfold FX7_marks_L129 at hF
            refine r_aload_n (pc' := 130) X dX7_marks_129 rfl 0 rfl rfl ?_
            refine r_get (pc' := 133) X uX7_marks_X7 0 12 dX7_marks_130 rfl rfl (by decide) kX7_marks_4 rfl rfl ?_
            refine r_if_eq (pc' := 136) X 151 dX7_marks_133 (by decide) rfl (fun c9 => ?_) (fun c9 => ?_)
            · replace hF := g_t c9 hF
              cases hF
              refine r_sub (lv' := [(1, .int v1_26)]) X [1] rfl ?_
              exact hE129 v1_26 top_27 highest_28 overflowed_29 marked_30 stack_31 hI129
            · replace hF := g_f c9 hF
              refine r_aload_n (pc' := 137) X dX7_marks_136 rfl 0 rfl rfl ?_
              refine r_iconst (pc' := 138) X (0 : Int32) dX7_marks_137 (by decide) rfl ?_
              refine r_put (pc' := 141) (ty := .boolean) (ws' := [oX7 a_z a_mm a_old a_saved_ a_isSaved a_text textLength refused a_far a_marked a_stack top_27 highest_28 (0 : Int32) a_command commands at_ fault_ hash, oI a_mm cI 1222 mm, oZ a_marked cZ 200 marked_30, oI a_stack cI 20 stack_31]) X uX7_marks_X7 0 12 tyX7 tyX7_ok nmX7 dX7_marks_138 rfl rfl (by decide) kX7_marks_4 rfl (by decide +kernel) rfl rfl (Nat.le_of_ble_eq_true rfl) rfl rfl ?_
              refine r_iinc (pc' := 144) (lv' := [(0, .ref a_z), (1, .int (v1_26 + (1 : Int32)))]) X (v1_26 + (1 : Int32)) dX7_marks_141 1 rfl (congrArg (fun z => v1_26 + z) (by decide)) (by decide) [1, 0] rfl rfl ?_
              refine r_aload_n (pc' := 145) X dX7_marks_144 rfl 0 rfl rfl ?_
              obtain ⟨⟨top_38, highest_39, overflowed_40, marked_41, stack_42⟩, hc43, hF⟩ := g_bd hF
              refine r_callVF (pc' := 148) (ws' := [oX7 a_z a_mm a_old a_saved_ a_isSaved a_text textLength refused a_far a_marked a_stack top_38 highest_39 overflowed_40 a_command commands at_ fault_ hash, oI a_mm cI 1222 mm, oZ a_marked cZ 200 marked_41, oI a_stack cI 20 stack_42]) (st' := []) X (mX7_scans D cI cZ cH a_z a_mm a_marked a_stack a_old a_saved_ a_isSaved a_text a_far a_command textLength refused top_27 highest_28 (0 : Int32) commands at_ fault_ hash mm marked_30 stack_31 top_38 highest_39 overflowed_40 marked_41 stack_42 hc43) 0 gX7_marks_X7_scans rfl (by decide +kernel) rfl rfl ⟨Nat.le_of_ble_eq_true rfl, Nat.le_of_ble_eq_true rfl⟩ ⟨Nat.le_of_ble_eq_true rfl, Nat.le_of_ble_eq_true rfl⟩ rfl (Nat.le_of_ble_eq_true rfl) dX7_marks_145 0 rfl rfl [0, 1, 2, 3] rfl rfl rfl rfl rfl rfl ?_
              refine r_goto X 129 dX7_marks_148 (by decide) ?_
              cases hF
              exact ih (v1_26 + (1 : Int32)) top_38 highest_39 overflowed_40 marked_41 stack_42 hI129
        exact hL129 g_fuel (0 : Int32) top_21 highest_22 overflowed_23 marked_24 stack_25 hR
      have hL71 : ∀ (fu : Nat) (v1_15 : Int32) (top_16 : Int32) (highest_17 : Int32) (overflowed_18 : Int32) (marked_19 : Nat → Int32) (stack_20 : Nat → Int32), g_itn (FX7_marks_L71 mm) fu (v1_15, top_16, highest_17, overflowed_18, marked_19, stack_20) = some ex71 → G 0 0 [oX7 a_z a_mm a_old a_saved_ a_isSaved a_text textLength refused a_far a_marked a_stack top_16 highest_17 overflowed_18 a_command commands at_ fault_ hash, oI a_mm cI 1222 mm, oZ a_marked cZ 200 marked_19, oI a_stack cI 20 stack_20] [(0, .ref a_z), (1, .int v1_15)] 71 [] := by
        intro fu
        induction fu with
        | zero => intro v1_15 top_16 highest_17 overflowed_18 marked_19 stack_20 h9; exact (g_it0 h9).elim
        | succ fu ih =>
          intro v1_15 top_16 highest_17 overflowed_18 marked_19 stack_20 h9
          obtain ⟨y71, hF, hI71⟩ := g_its h9
          unfold FX7_marks_L71 at hF
          refine r_iload_n (pc' := 72) X dX7_marks_71 rfl 1 rfl rfl ?_
          refine r_aload_n (pc' := 73) X dX7_marks_72 rfl 0 rfl rfl ?_
          refine r_get (pc' := 76) X uX7_marks_X7 0 0 dX7_marks_73 rfl rfl (by decide) kX7_marks_5 rfl rfl ?_
          refine r_sipush (pc' := 79) X (1216 : Int32) dX7_marks_76 (by decide) rfl ?_
          refine r_ialdK (pc' := 80) (j := 1216) X 1 dX7_marks_79 rfl (by decide +kernel) (by decide +kernel) rfl ?_
          refine r_icmp_ge (pc' := 83) X 127 dX7_marks_80 (by decide) rfl (fun c9 => ?_) (fun c9 => ?_)
          · replace hF := g_t c9 hF
            cases hF
            refine r_sub (lv' := [(0, .ref a_z)]) X [0] rfl ?_
            exact hE71 top_16 highest_17 overflowed_18 marked_19 stack_20 hI71
          · replace hF := g_f c9 hF
            refine r_aload_n (pc' := 84) X dX7_marks_83 rfl 0 rfl rfl ?_
            refine r_aload_n (pc' := 85) X dX7_marks_84 rfl 0 rfl rfl ?_
            refine r_get (pc' := 88) X uX7_marks_X7 0 0 dX7_marks_85 rfl rfl (by decide) kX7_marks_5 rfl rfl ?_
            refine r_iconst (pc' := 89) X (0 : Int32) dX7_marks_88 (by decide) rfl ?_
            refine r_iload_n (pc' := 90) X dX7_marks_89 rfl 1 rfl rfl ?_
            refine r_iadd (pc' := 91) X dX7_marks_90 rfl ?_
            obtain ⟨hi44, hF⟩ := g_gt hF
            refine r_iald (pc' := 92) X 1 dX7_marks_91 rfl (g_vi hi44) rfl ?_
            obtain ⟨exJ46, hR, hF⟩ := g_bd hF
            have hJ46 : ∀ (t45 : Int32), t45 = exJ46 → G 0 0 [oX7 a_z a_mm a_old a_saved_ a_isSaved a_text textLength refused a_far a_marked a_stack top_16 highest_17 overflowed_18 a_command commands at_ fault_ hash, oI a_mm cI 1222 mm, oZ a_marked cZ 200 marked_19, oI a_stack cI 20 stack_20] [(0, .ref a_z), (1, .int v1_15)] 114 [.int t45, .ref a_z] := by
              intro t45 hx; subst hx
              obtain ⟨⟨top_47, highest_48, overflowed_49, marked_50, stack_51⟩, hc52, hF⟩ := g_bd hF
              refine r_callVF (pc' := 117) (ws' := [oX7 a_z a_mm a_old a_saved_ a_isSaved a_text textLength refused a_far a_marked a_stack top_47 highest_48 overflowed_49 a_command commands at_ fault_ hash, oI a_mm cI 1222 mm, oZ a_marked cZ 200 marked_50, oI a_stack cI 20 stack_51]) (st' := []) X (mX7_reach D cI cZ cH a_z a_mm a_marked a_stack a_old a_saved_ a_isSaved a_text a_far a_command textLength refused top_16 highest_17 overflowed_18 commands at_ fault_ hash mm marked_19 stack_20 t45 top_47 highest_48 overflowed_49 marked_50 stack_51 hc52) 1 gX7_marks_X7_reach rfl (by decide +kernel) rfl rfl ⟨Nat.le_of_ble_eq_true rfl, Nat.le_of_ble_eq_true rfl⟩ ⟨Nat.le_of_ble_eq_true rfl, Nat.le_of_ble_eq_true rfl⟩ rfl (Nat.le_of_ble_eq_true rfl) dX7_marks_114 0 rfl rfl [0, 1, 2, 3] rfl rfl rfl rfl rfl rfl ?_
              refine r_aload_n (pc' := 118) X dX7_marks_117 rfl 0 rfl rfl ?_
              obtain ⟨⟨top_53, highest_54, overflowed_55, marked_56, stack_57⟩, hc58, hF⟩ := g_bd hF
              refine r_callVF (pc' := 121) (ws' := [oX7 a_z a_mm a_old a_saved_ a_isSaved a_text textLength refused a_far a_marked a_stack top_53 highest_54 overflowed_55 a_command commands at_ fault_ hash, oI a_mm cI 1222 mm, oZ a_marked cZ 200 marked_56, oI a_stack cI 20 stack_57]) (st' := []) X (mX7_drains D cI cZ cH a_z a_mm a_marked a_stack a_old a_saved_ a_isSaved a_text a_far a_command textLength refused top_47 highest_48 overflowed_49 commands at_ fault_ hash mm marked_50 stack_51 top_53 highest_54 overflowed_55 marked_56 stack_57 hc58) 0 gX7_marks_X7_drains rfl (by decide +kernel) rfl rfl ⟨Nat.le_of_ble_eq_true rfl, Nat.le_of_ble_eq_true rfl⟩ ⟨Nat.le_of_ble_eq_true rfl, Nat.le_of_ble_eq_true rfl⟩ rfl (Nat.le_of_ble_eq_true rfl) dX7_marks_118 0 rfl rfl [0, 1, 2, 3] rfl rfl rfl rfl rfl rfl ?_
              refine r_iinc (pc' := 124) (lv' := [(0, .ref a_z), (1, .int (v1_15 + (1 : Int32)))]) X (v1_15 + (1 : Int32)) dX7_marks_121 1 rfl (congrArg (fun z => v1_15 + z) (by decide)) (by decide) [1, 0] rfl rfl ?_
              refine r_goto X 71 dX7_marks_124 (by decide) ?_
              cases hF
              exact ih (v1_15 + (1 : Int32)) top_53 highest_54 overflowed_55 marked_56 stack_57 hI71
            replace hF := hR
            refine r_if_le (pc' := 95) X 113 dX7_marks_92 (by decide) rfl (fun c9 => ?_) (fun c9 => ?_)
            · replace hF := g_t c9 hF
              refine r_iconst (pc' := 114) X (-1 : Int32) dX7_marks_113 (by decide) rfl ?_
              exact hJ46 (-1 : Int32) (Option.some.inj hF)
            · replace hF := g_f c9 hF
              refine r_aload_n (pc' := 96) X dX7_marks_95 rfl 0 rfl rfl ?_
              refine r_get (pc' := 99) X uX7_marks_X7 0 0 dX7_marks_96 rfl rfl (by decide) kX7_marks_5 rfl rfl ?_
              refine r_sipush (pc' := 102) X (400 : Int32) dX7_marks_99 (by decide) rfl ?_
              refine r_iload_n (pc' := 103) X dX7_marks_102 rfl 1 rfl rfl ?_
              refine r_iadd (pc' := 104) X dX7_marks_103 rfl ?_
              obtain ⟨hi59, hF⟩ := g_gt hF
              refine r_iald (pc' := 105) X 1 dX7_marks_104 rfl (g_vi hi59) rfl ?_
              refine r_iconst (pc' := 106) X (1 : Int32) dX7_marks_105 (by decide) rfl ?_
              refine r_icmp_ne (pc' := 109) X 113 dX7_marks_106 (by decide) rfl (fun c9 => ?_) (fun c9 => ?_)
              · replace hF := g_f c9 hF
                refine r_iconst (pc' := 114) X (-1 : Int32) dX7_marks_113 (by decide) rfl ?_
                exact hJ46 (-1 : Int32) (Option.some.inj hF)
              · replace hF := g_t c9 hF
                refine r_iload_n (pc' := 110) X dX7_marks_109 rfl 1 rfl rfl ?_
                refine r_goto X 114 dX7_marks_110 (by decide) ?_
                exact hJ46 v1_15 (Option.some.inj hF)
      exact hL71 g_fuel (0 : Int32) top_10 highest_11 overflowed_12 marked_13 stack_14 hR
    have hL39 : ∀ (fu : Nat) (v1_4 : Int32) (top_5 : Int32) (highest_6 : Int32) (overflowed_7 : Int32) (marked_8 : Nat → Int32) (stack_9 : Nat → Int32), g_itn (FX7_marks_L39 mm) fu (v1_4, top_5, highest_6, overflowed_7, marked_8, stack_9) = some ex39 → G 0 0 [oX7 a_z a_mm a_old a_saved_ a_isSaved a_text textLength refused a_far a_marked a_stack top_5 highest_6 overflowed_7 a_command commands at_ fault_ hash, oI a_mm cI 1222 mm, oZ a_marked cZ 200 marked_8, oI a_stack cI 20 stack_9] [(0, .ref a_z), (1, .int v1_4)] 39 [] := by
      intro fu
      induction fu with
      | zero => intro v1_4 top_5 highest_6 overflowed_7 marked_8 stack_9 h9; exact (g_it0 h9).elim
      | succ fu ih =>
        intro v1_4 top_5 highest_6 overflowed_7 marked_8 stack_9 h9
        obtain ⟨y39, hF, hI39⟩ := g_its h9
        unfold FX7_marks_L39 at hF
        refine r_iload_n (pc' := 40) X dX7_marks_39 rfl 1 rfl rfl ?_
        refine r_bipush (pc' := 42) X (6 : Int32) dX7_marks_40 (by decide) rfl ?_
        refine r_icmp_ge (pc' := 45) X 69 dX7_marks_42 (by decide) rfl (fun c9 => ?_) (fun c9 => ?_)
        · replace hF := g_t c9 hF
          cases hF
          refine r_sub (lv' := [(0, .ref a_z)]) X [0] rfl ?_
          exact hE39 top_5 highest_6 overflowed_7 marked_8 stack_9 hI39
        · replace hF := g_f c9 hF
          refine r_aload_n (pc' := 46) X dX7_marks_45 rfl 0 rfl rfl ?_
          refine r_aload_n (pc' := 47) X dX7_marks_46 rfl 0 rfl rfl ?_
          refine r_get (pc' := 50) X uX7_marks_X7 0 0 dX7_marks_47 rfl rfl (by decide) kX7_marks_5 rfl rfl ?_
          refine r_sipush (pc' := 53) X (1200 : Int32) dX7_marks_50 (by decide) rfl ?_
          refine r_iload_n (pc' := 54) X dX7_marks_53 rfl 1 rfl rfl ?_
          refine r_iadd (pc' := 55) X dX7_marks_54 rfl ?_
          obtain ⟨hi60, hF⟩ := g_gt hF
          refine r_iald (pc' := 56) X 1 dX7_marks_55 rfl (g_vi hi60) rfl ?_
          obtain ⟨⟨top_61, highest_62, overflowed_63, marked_64, stack_65⟩, hc66, hF⟩ := g_bd hF
          refine r_callVF (pc' := 59) (ws' := [oX7 a_z a_mm a_old a_saved_ a_isSaved a_text textLength refused a_far a_marked a_stack top_61 highest_62 overflowed_63 a_command commands at_ fault_ hash, oI a_mm cI 1222 mm, oZ a_marked cZ 200 marked_64, oI a_stack cI 20 stack_65]) (st' := []) X (mX7_reach D cI cZ cH a_z a_mm a_marked a_stack a_old a_saved_ a_isSaved a_text a_far a_command textLength refused top_5 highest_6 overflowed_7 commands at_ fault_ hash mm marked_8 stack_9 (mm ((1200 : Int32) + v1_4).toNatClampNeg) top_61 highest_62 overflowed_63 marked_64 stack_65 hc66) 1 gX7_marks_X7_reach rfl (by decide +kernel) rfl rfl ⟨Nat.le_of_ble_eq_true rfl, Nat.le_of_ble_eq_true rfl⟩ ⟨Nat.le_of_ble_eq_true rfl, Nat.le_of_ble_eq_true rfl⟩ rfl (Nat.le_of_ble_eq_true rfl) dX7_marks_56 0 rfl rfl [0, 1, 2, 3] rfl rfl rfl rfl rfl rfl ?_
          refine r_aload_n (pc' := 60) X dX7_marks_59 rfl 0 rfl rfl ?_
          obtain ⟨⟨top_67, highest_68, overflowed_69, marked_70, stack_71⟩, hc72, hF⟩ := g_bd hF
          refine r_callVF (pc' := 63) (ws' := [oX7 a_z a_mm a_old a_saved_ a_isSaved a_text textLength refused a_far a_marked a_stack top_67 highest_68 overflowed_69 a_command commands at_ fault_ hash, oI a_mm cI 1222 mm, oZ a_marked cZ 200 marked_70, oI a_stack cI 20 stack_71]) (st' := []) X (mX7_drains D cI cZ cH a_z a_mm a_marked a_stack a_old a_saved_ a_isSaved a_text a_far a_command textLength refused top_61 highest_62 overflowed_63 commands at_ fault_ hash mm marked_64 stack_65 top_67 highest_68 overflowed_69 marked_70 stack_71 hc72) 0 gX7_marks_X7_drains rfl (by decide +kernel) rfl rfl ⟨Nat.le_of_ble_eq_true rfl, Nat.le_of_ble_eq_true rfl⟩ ⟨Nat.le_of_ble_eq_true rfl, Nat.le_of_ble_eq_true rfl⟩ rfl (Nat.le_of_ble_eq_true rfl) dX7_marks_60 0 rfl rfl [0, 1, 2, 3] rfl rfl rfl rfl rfl rfl ?_
          refine r_iinc (pc' := 66) (lv' := [(0, .ref a_z), (1, .int (v1_4 + (1 : Int32)))]) X (v1_4 + (1 : Int32)) dX7_marks_63 1 rfl (congrArg (fun z => v1_4 + z) (by decide)) (by decide) [1, 0] rfl rfl ?_
          refine r_goto X 39 dX7_marks_66 (by decide) ?_
          cases hF
          exact ih (v1_4 + (1 : Int32)) top_67 highest_68 overflowed_69 marked_70 stack_71 hI39
    exact hL39 g_fuel (0 : Int32) (0 : Int32) (0 : Int32) (0 : Int32) marked_3 stack hR
  have hL2 : ∀ (fu : Nat) (v1_1 : Int32) (marked_2 : Nat → Int32), g_itn (FX7_marks_L2) fu (v1_1, marked_2) = some ex2 → G 0 0 [oX7 a_z a_mm a_old a_saved_ a_isSaved a_text textLength refused a_far a_marked a_stack top highest overflowed a_command commands at_ fault_ hash, oI a_mm cI 1222 mm, oZ a_marked cZ 200 marked_2, oI a_stack cI 20 stack] [(0, .ref a_z), (1, .int v1_1)] 2 [] := by
    intro fu
    induction fu with
    | zero => intro v1_1 marked_2 h9; exact (g_it0 h9).elim
    | succ fu ih =>
      intro v1_1 marked_2 h9
      obtain ⟨y2, hF, hI2⟩ := g_its h9
      unfold FX7_marks_L2 at hF
      refine r_iload_n (pc' := 3) X dX7_marks_2 rfl 1 rfl rfl ?_
      refine r_sipush (pc' := 6) X (200 : Int32) dX7_marks_3 (by decide) rfl ?_
      refine r_icmp_ge (pc' := 9) X 22 dX7_marks_6 (by decide) rfl (fun c9 => ?_) (fun c9 => ?_)
      · replace hF := g_t c9 hF
        cases hF
        refine r_sub (lv' := [(0, .ref a_z)]) X [0] rfl ?_
        exact hE2 marked_2 hI2
      · replace hF := g_f c9 hF
        refine r_aload_n (pc' := 10) X dX7_marks_9 rfl 0 rfl rfl ?_
        refine r_get (pc' := 13) X uX7_marks_X7 0 8 dX7_marks_10 rfl rfl (by decide) kX7_marks_1 rfl rfl ?_
        refine r_iload_n (pc' := 14) X dX7_marks_13 rfl 1 rfl rfl ?_
        refine r_iconst (pc' := 15) X (0 : Int32) dX7_marks_14 (by decide) rfl ?_
        obtain ⟨hi73, hF⟩ := g_gt hF
        refine r_zast (pc' := 16) (ws' := [oX7 a_z a_mm a_old a_saved_ a_isSaved a_text textLength refused a_far a_marked a_stack top highest overflowed a_command commands at_ fault_ hash, oI a_mm cI 1222 mm, oZ a_marked cZ 200 (upd marked_2 v1_1.toNatClampNeg (0 : Int32)), oI a_stack cI 20 stack]) X 2 dX7_marks_15 rfl (g_vi hi73) (by decide +kernel) rfl rfl ?_
        refine r_iinc (pc' := 19) (lv' := [(0, .ref a_z), (1, .int (v1_1 + (1 : Int32)))]) X (v1_1 + (1 : Int32)) dX7_marks_16 1 rfl (congrArg (fun z => v1_1 + z) (by decide)) (by decide) [1, 0] rfl rfl ?_
        refine r_goto X 2 dX7_marks_19 (by decide) ?_
        cases hF
        exact ih (v1_1 + (1 : Int32)) (upd marked_2 v1_1.toNatClampNeg (0 : Int32)) hI2
  exact hL2 g_fuel (0 : Int32) marked hR
theorem kX7_gone_1 : Cond.fieldLink RX7 7 "IslandHeapModel" "m" "[I" ∈ wsX7_gone := List.mem_of_getElem? (i := 1) (by decide +kernel)
theorem uX7_gone_X7 : ∀ w ∈ u_ws RX7 TX7 18, w ∈ wsX7_gone := by decide +kernel
set_option maxHeartbeats 4000000 in
set_option maxRecDepth 100000 in
theorem mX7_gone (D : va_G) (cI cZ cH : ClassId) (a_z : Nat) (a_mm : Nat) (a_old : Nat) (a_saved_ : Nat) (a_isSaved : Nat) (a_text : Nat) (a_far : Nat) (a_marked : Nat) (a_stack : Nat) (a_command : Nat) (textLength : Int32) (refused : Int32) (top : Int32) (highest : Int32) (overflowed : Int32) (commands : Int32) (at_ : Int32) (fault_ : Int32) (hash : Int64) (mm : Nat → Int32) (p1 : Int32) (r0 : Int32) (hF : FX7_gone mm p1 = some r0) : g_CM yX7_gone wsX7_gone ({ frames := 0, cells := 0, slots := 0, locals := 0 }) D cI cZ cH [.ref a_z, .int p1] [oX7 a_z a_mm a_old a_saved_ a_isSaved a_text textLength refused a_far a_marked a_stack top highest overflowed a_command commands at_ fault_ hash, oI a_mm cI 1222 mm] 0 0 (g_Tm (some (.int r0)) [oX7 a_z a_mm a_old a_saved_ a_isSaved a_text textLength refused a_far a_marked a_stack top highest overflowed a_command commands at_ fault_ hash, oI a_mm cI 1222 mm]) := by
  refine g_met (own := RX7) (mn := "gone") (cc := cX7_gone) (maxL := 2) (ret := (some .int)) rfl rfl (by decide +kernel) rfl (Nat.le_of_ble_eq_true rfl) (fun G X RT => ?_)
  show G 0 0 [oX7 a_z a_mm a_old a_saved_ a_isSaved a_text textLength refused a_far a_marked a_stack top highest overflowed a_command commands at_ fault_ hash, oI a_mm cI 1222 mm] [(0, .ref a_z), (1, .int p1)] 0 []
  unfold FX7_gone at hF
  refine r_iload_n (pc' := 1) X dX7_gone_0 rfl 1 rfl rfl ?_
  refine r_iconst (pc' := 2) X (-1 : Int32) dX7_gone_1 (by decide) rfl ?_
  refine r_icmp_ne (pc' := 5) X 9 dX7_gone_2 (by decide) rfl (fun c9 => ?_) (fun c9 => ?_)
  · replace hF := g_f c9 hF
    refine r_aload_n (pc' := 10) X dX7_gone_9 rfl 0 rfl rfl ?_
    refine r_get (pc' := 13) X uX7_gone_X7 0 0 dX7_gone_10 rfl rfl (by decide) kX7_gone_1 rfl rfl ?_
    refine r_sipush (pc' := 16) X (1000 : Int32) dX7_gone_13 (by decide) rfl ?_
    refine r_iload_n (pc' := 17) X dX7_gone_16 rfl 1 rfl rfl ?_
    refine r_iadd (pc' := 18) X dX7_gone_17 rfl ?_
    obtain ⟨hi1, hF⟩ := g_gt hF
    refine r_iald (pc' := 19) X 1 dX7_gone_18 rfl (g_vi hi1) rfl ?_
    cases hF
    exact RT.1 0 0 _ _ _ _ .int rfl rfl dX7_gone_19 ⟨rfl, rfl⟩ (Nat.le_refl 0) (Nat.le_refl 0)
  · replace hF := g_t c9 hF
    refine r_iconst (pc' := 6) X (-1 : Int32) dX7_gone_5 (by decide) rfl ?_
    refine r_goto X 19 dX7_gone_6 (by decide) ?_
    cases hF
    exact RT.1 0 0 _ _ _ _ .int rfl rfl dX7_gone_19 ⟨rfl, rfl⟩ (Nat.le_refl 0) (Nat.le_refl 0)
theorem kX7_occupied_1 : Cond.fieldLink RX7 7 "IslandHeapModel" "m" "[I" ∈ wsX7_occupied := List.mem_of_getElem? (i := 1) (by decide +kernel)
theorem uX7_occupied_X7 : ∀ w ∈ u_ws RX7 TX7 18, w ∈ wsX7_occupied := by decide +kernel
set_option maxHeartbeats 4000000 in
set_option maxRecDepth 100000 in
theorem mX7_occupied (D : va_G) (cI cZ cH : ClassId) (a_z : Nat) (a_mm : Nat) (a_old : Nat) (a_saved_ : Nat) (a_isSaved : Nat) (a_text : Nat) (a_far : Nat) (a_marked : Nat) (a_stack : Nat) (a_command : Nat) (textLength : Int32) (refused : Int32) (top : Int32) (highest : Int32) (overflowed : Int32) (commands : Int32) (at_ : Int32) (fault_ : Int32) (hash : Int64) (mm : Nat → Int32) (r0 : Int32) (hF : FX7_occupied mm = some r0) : g_CM yX7_occupied wsX7_occupied ({ frames := 0, cells := 0, slots := 0, locals := 0 }) D cI cZ cH [.ref a_z] [oX7 a_z a_mm a_old a_saved_ a_isSaved a_text textLength refused a_far a_marked a_stack top highest overflowed a_command commands at_ fault_ hash, oI a_mm cI 1222 mm] 0 0 (g_Tm (some (.int r0)) [oX7 a_z a_mm a_old a_saved_ a_isSaved a_text textLength refused a_far a_marked a_stack top highest overflowed a_command commands at_ fault_ hash, oI a_mm cI 1222 mm]) := by
  refine g_met (own := RX7) (mn := "occupied") (cc := cX7_occupied) (maxL := 3) (ret := (some .int)) rfl rfl (by decide +kernel) rfl (Nat.le_of_ble_eq_true rfl) (fun G X RT => ?_)
  show G 0 0 [oX7 a_z a_mm a_old a_saved_ a_isSaved a_text textLength refused a_far a_marked a_stack top highest overflowed a_command commands at_ fault_ hash, oI a_mm cI 1222 mm] [(0, .ref a_z)] 0 []
  unfold FX7_occupied at hF
  refine r_iconst (pc' := 1) X (0 : Int32) dX7_occupied_0 (by decide) rfl ?_
  refine r_istore_n (pc' := 2) (lv' := [(0, .ref a_z), (1, .int (0 : Int32))]) X dX7_occupied_1 rfl (by decide) [1, 0] rfl rfl ?_
  refine r_iconst (pc' := 3) X (0 : Int32) dX7_occupied_2 (by decide) rfl ?_
  refine r_istore_n (pc' := 4) (lv' := [(0, .ref a_z), (1, .int (0 : Int32)), (2, .int (0 : Int32))]) X dX7_occupied_3 rfl (by decide) [1, 2, 0] rfl rfl ?_
  obtain ⟨ex4, hR, hF⟩ := g_bd hF
  have hE4 : ∀ (v1_3 : Int32), v1_3 = ex4 → G 0 0 [oX7 a_z a_mm a_old a_saved_ a_isSaved a_text textLength refused a_far a_marked a_stack top highest overflowed a_command commands at_ fault_ hash, oI a_mm cI 1222 mm] [(1, .int v1_3)] 33 [] := by
    intro v1_3 hx; subst hx
    refine r_iload_n (pc' := 34) X dX7_occupied_33 rfl 0 rfl rfl ?_
    cases hF
    exact RT.1 0 0 _ _ _ _ .int rfl rfl dX7_occupied_34 ⟨rfl, rfl⟩ (Nat.le_refl 0) (Nat.le_refl 0)
  have hL4 : ∀ (fu : Nat) (v1_1 : Int32) (v2_2 : Int32), g_itn (FX7_occupied_L4 mm) fu (v1_1, v2_2) = some ex4 → G 0 0 [oX7 a_z a_mm a_old a_saved_ a_isSaved a_text textLength refused a_far a_marked a_stack top highest overflowed a_command commands at_ fault_ hash, oI a_mm cI 1222 mm] [(0, .ref a_z), (1, .int v1_1), (2, .int v2_2)] 4 [] := by
    intro fu
    induction fu with
    | zero => intro v1_1 v2_2 h9; exact (g_it0 h9).elim
    | succ fu ih =>
      intro v1_1 v2_2 h9
      obtain ⟨y4, hF, hI4⟩ := g_its h9
      unfold FX7_occupied_L4 at hF
      refine r_iload_n (pc' := 5) X dX7_occupied_4 rfl 2 rfl rfl ?_
      refine r_aload_n (pc' := 6) X dX7_occupied_5 rfl 0 rfl rfl ?_
      refine r_get (pc' := 9) X uX7_occupied_X7 0 0 dX7_occupied_6 rfl rfl (by decide) kX7_occupied_1 rfl rfl ?_
      refine r_sipush (pc' := 12) X (1216 : Int32) dX7_occupied_9 (by decide) rfl ?_
      refine r_ialdK (pc' := 13) (j := 1216) X 1 dX7_occupied_12 rfl (by decide +kernel) (by decide +kernel) rfl ?_
      refine r_icmp_ge (pc' := 16) X 33 dX7_occupied_13 (by decide) rfl (fun c9 => ?_) (fun c9 => ?_)
      · replace hF := g_t c9 hF
        cases hF
        refine r_sub (lv' := [(1, .int v1_1)]) X [1] rfl ?_
        exact hE4 v1_1 hI4
      · replace hF := g_f c9 hF
        refine r_iload_n (pc' := 17) X dX7_occupied_16 rfl 1 rfl rfl ?_
        refine r_aload_n (pc' := 18) X dX7_occupied_17 rfl 0 rfl rfl ?_
        refine r_get (pc' := 21) X uX7_occupied_X7 0 0 dX7_occupied_18 rfl rfl (by decide) kX7_occupied_1 rfl rfl ?_
        refine r_iconst (pc' := 22) X (0 : Int32) dX7_occupied_21 (by decide) rfl ?_
        refine r_iload_n (pc' := 23) X dX7_occupied_22 rfl 2 rfl rfl ?_
        refine r_iadd (pc' := 24) X dX7_occupied_23 rfl ?_
        obtain ⟨hi4, hF⟩ := g_gt hF
        refine r_iald (pc' := 25) X 1 dX7_occupied_24 rfl (g_vi hi4) rfl ?_
        refine r_iadd (pc' := 26) X dX7_occupied_25 rfl ?_
        refine r_istore_n (pc' := 27) (lv' := [(0, .ref a_z), (1, .int (v1_1 + (mm ((0 : Int32) + v2_2).toNatClampNeg))), (2, .int v2_2)]) X dX7_occupied_26 rfl (by decide) [1, 0, 2] rfl rfl ?_
        refine r_iinc (pc' := 30) (lv' := [(0, .ref a_z), (1, .int (v1_1 + (mm ((0 : Int32) + v2_2).toNatClampNeg))), (2, .int (v2_2 + (1 : Int32)))]) X (v2_2 + (1 : Int32)) dX7_occupied_27 2 rfl (congrArg (fun z => v2_2 + z) (by decide)) (by decide) [1, 2, 0] rfl rfl ?_
        refine r_goto X 4 dX7_occupied_30 (by decide) ?_
        cases hF
        exact ih (v1_1 + (mm ((0 : Int32) + v2_2).toNatClampNeg)) (v2_2 + (1 : Int32)) hI4
  exact hL4 g_fuel (0 : Int32) (0 : Int32) hR
theorem kX7_rebuilds_1 : Cond.fieldLink RX7 7 "IslandHeapModel" "m" "[I" ∈ wsX7_rebuilds := List.mem_of_getElem? (i := 1) (by decide +kernel)
theorem kX7_rebuilds_2 : Cond.fieldLink RX7 13 "IslandHeapModel" "old" "[I" ∈ wsX7_rebuilds := List.mem_of_getElem? (i := 2) (by decide +kernel)
theorem kX7_rebuilds_3 : Cond.fieldLink RX7 33 "IslandHeapModel" "marked" "[Z" ∈ wsX7_rebuilds := List.mem_of_getElem? (i := 3) (by decide +kernel)
theorem uX7_rebuilds_X7 : ∀ w ∈ u_ws RX7 TX7 18, w ∈ wsX7_rebuilds := by decide +kernel
set_option maxHeartbeats 4000000 in
set_option maxRecDepth 100000 in
theorem mX7_rebuilds (D : va_G) (cI cZ cH : ClassId) (a_z : Nat) (a_mm : Nat) (a_old : Nat) (a_marked : Nat) (a_saved_ : Nat) (a_isSaved : Nat) (a_text : Nat) (a_far : Nat) (a_stack : Nat) (a_command : Nat) (textLength : Int32) (refused : Int32) (top : Int32) (highest : Int32) (overflowed : Int32) (commands : Int32) (at_ : Int32) (fault_ : Int32) (hash : Int64) (mm : Nat → Int32) (old : Nat → Int32) (marked : Nat → Int32) (w_mm : Nat → Int32) (hF : FX7_rebuilds mm old marked = some w_mm) : g_CM yX7_rebuilds wsX7_rebuilds ({ frames := 1, cells := 0, slots := 0, locals := 21 }) D cI cZ cH [.ref a_z] [oX7 a_z a_mm a_old a_saved_ a_isSaved a_text textLength refused a_far a_marked a_stack top highest overflowed a_command commands at_ fault_ hash, oI a_mm cI 1222 mm, oI a_old cI 1222 old, oZ a_marked cZ 200 marked] 0 0 (g_Tm (none) [oX7 a_z a_mm a_old a_saved_ a_isSaved a_text textLength refused a_far a_marked a_stack top highest overflowed a_command commands at_ fault_ hash, oI a_mm cI 1222 w_mm, oI a_old cI 1222 old, oZ a_marked cZ 200 marked]) := by
  refine g_met (own := RX7) (mn := "rebuilds") (cc := cX7_rebuilds) (maxL := 5) (ret := none) rfl rfl (by decide +kernel) rfl (Nat.le_of_ble_eq_true rfl) (fun G X RT => ?_)
  show G 0 0 [oX7 a_z a_mm a_old a_saved_ a_isSaved a_text textLength refused a_far a_marked a_stack top highest overflowed a_command commands at_ fault_ hash, oI a_mm cI 1222 mm, oI a_old cI 1222 old, oZ a_marked cZ 200 marked] [(0, .ref a_z)] 0 []
  unfold FX7_rebuilds at hF
  refine r_iconst (pc' := 1) X (0 : Int32) dX7_rebuilds_0 (by decide) rfl ?_
  refine r_istore_n (pc' := 2) (lv' := [(0, .ref a_z), (1, .int (0 : Int32))]) X dX7_rebuilds_1 rfl (by decide) [1, 0] rfl rfl ?_
  obtain ⟨ex2, hR, hF⟩ := g_bd hF
  have hE2 : ∀ (mm_3 : Nat → Int32), mm_3 = ex2 → G 0 0 [oX7 a_z a_mm a_old a_saved_ a_isSaved a_text textLength refused a_far a_marked a_stack top highest overflowed a_command commands at_ fault_ hash, oI a_mm cI 1222 mm_3, oI a_old cI 1222 old, oZ a_marked cZ 200 marked] [(0, .ref a_z)] 22 [] := by
    intro mm_3 hx; subst hx
    refine r_iconst (pc' := 23) X (0 : Int32) dX7_rebuilds_22 (by decide) rfl ?_
    refine r_istore_n (pc' := 24) (lv' := [(0, .ref a_z), (1, .int (0 : Int32))]) X dX7_rebuilds_23 rfl (by decide) [1, 0] rfl rfl ?_
    obtain ⟨ex24, hR, hF⟩ := g_bd hF
    have hE24 : ∀ (mm_6 : Nat → Int32), mm_6 = ex24 → G 0 0 [oX7 a_z a_mm a_old a_saved_ a_isSaved a_text textLength refused a_far a_marked a_stack top highest overflowed a_command commands at_ fault_ hash, oI a_mm cI 1222 mm_6, oI a_old cI 1222 old, oZ a_marked cZ 200 marked] [(0, .ref a_z)] 222 [] := by
      intro mm_6 hx; subst hx
      refine r_iconst (pc' := 223) X (0 : Int32) dX7_rebuilds_222 (by decide) rfl ?_
      refine r_istore_n (pc' := 224) (lv' := [(0, .ref a_z), (1, .int (0 : Int32))]) X dX7_rebuilds_223 rfl (by decide) [1, 0] rfl rfl ?_
      obtain ⟨ex224, hR, hF⟩ := g_bd hF
      have hE224 : ∀ (mm_9 : Nat → Int32), mm_9 = ex224 → G 0 0 [oX7 a_z a_mm a_old a_saved_ a_isSaved a_text textLength refused a_far a_marked a_stack top highest overflowed a_command commands at_ fault_ hash, oI a_mm cI 1222 mm_9, oI a_old cI 1222 old, oZ a_marked cZ 200 marked] [] 260 [] := by
        intro mm_9 hx; subst hx
        cases hF
        exact RT.2.2 0 0 _ _ _ rfl dX7_rebuilds_260 ⟨rfl, rfl⟩ (Nat.le_refl 0) (Nat.le_refl 0)
      have hL224 : ∀ (fu : Nat) (v1_7 : Int32) (mm_8 : Nat → Int32), g_itn (FX7_rebuilds_L224 old) fu (v1_7, mm_8) = some ex224 → G 0 0 [oX7 a_z a_mm a_old a_saved_ a_isSaved a_text textLength refused a_far a_marked a_stack top highest overflowed a_command commands at_ fault_ hash, oI a_mm cI 1222 mm_8, oI a_old cI 1222 old, oZ a_marked cZ 200 marked] [(0, .ref a_z), (1, .int v1_7)] 224 [] := by
        intro fu
        induction fu with
        | zero => intro v1_7 mm_8 h9; exact (g_it0 h9).elim
        | succ fu ih =>
          intro v1_7 mm_8 h9
          obtain ⟨y224, hF, hI224⟩ := g_its h9
          unfold FX7_rebuilds_L224 at hF
          refine r_iload_n (pc' := 225) X dX7_rebuilds_224 rfl 1 rfl rfl ?_
          refine r_bipush (pc' := 227) X (10 : Int32) dX7_rebuilds_225 (by decide) rfl ?_
          refine r_icmp_ge (pc' := 230) X 260 dX7_rebuilds_227 (by decide) rfl (fun c9 => ?_) (fun c9 => ?_)
          · replace hF := g_t c9 hF
            cases hF
            refine r_sub (lv' := []) X [] rfl ?_
            exact hE224 mm_8 hI224
          · replace hF := g_f c9 hF
            refine r_aload_n (pc' := 231) X dX7_rebuilds_230 rfl 0 rfl rfl ?_
            refine r_get (pc' := 234) X uX7_rebuilds_X7 0 0 dX7_rebuilds_231 rfl rfl (by decide) kX7_rebuilds_1 rfl rfl ?_
            refine r_sipush (pc' := 237) X (1200 : Int32) dX7_rebuilds_234 (by decide) rfl ?_
            refine r_iload_n (pc' := 238) X dX7_rebuilds_237 rfl 1 rfl rfl ?_
            refine r_iadd (pc' := 239) X dX7_rebuilds_238 rfl ?_
            refine r_aload_n (pc' := 240) X dX7_rebuilds_239 rfl 0 rfl rfl ?_
            refine r_aload_n (pc' := 241) X dX7_rebuilds_240 rfl 0 rfl rfl ?_
            refine r_get (pc' := 244) X uX7_rebuilds_X7 0 1 dX7_rebuilds_241 rfl rfl (by decide) kX7_rebuilds_2 rfl rfl ?_
            refine r_sipush (pc' := 247) X (1200 : Int32) dX7_rebuilds_244 (by decide) rfl ?_
            refine r_iload_n (pc' := 248) X dX7_rebuilds_247 rfl 1 rfl rfl ?_
            refine r_iadd (pc' := 249) X dX7_rebuilds_248 rfl ?_
            obtain ⟨hi10, hF⟩ := g_gt hF
            refine r_iald (pc' := 250) X 2 dX7_rebuilds_249 rfl (g_vi hi10) rfl ?_
            obtain ⟨r11, hc12, hF⟩ := g_bd hF
            refine r_callVF (pc' := 253) (ws' := [oX7 a_z a_mm a_old a_saved_ a_isSaved a_text textLength refused a_far a_marked a_stack top highest overflowed a_command commands at_ fault_ hash, oI a_mm cI 1222 mm_8, oI a_old cI 1222 old, oZ a_marked cZ 200 marked]) (st' := [.int r11, .int ((1200 : Int32) + v1_7), .ref a_mm]) X (mX7_gone D cI cZ cH a_z a_mm a_old a_saved_ a_isSaved a_text a_far a_marked a_stack a_command textLength refused top highest overflowed commands at_ fault_ hash mm_8 (old ((1200 : Int32) + v1_7).toNatClampNeg) r11 hc12) 1 gX7_rebuilds_X7_gone rfl (by decide +kernel) rfl rfl ⟨Nat.le_of_ble_eq_true rfl, Nat.le_of_ble_eq_true rfl⟩ ⟨Nat.le_of_ble_eq_true rfl, Nat.le_of_ble_eq_true rfl⟩ rfl (Nat.le_of_ble_eq_true rfl) dX7_rebuilds_250 0 rfl rfl [0, 1] rfl rfl rfl rfl rfl rfl ?_
            obtain ⟨hi13, hF⟩ := g_gt hF
            refine r_iast (pc' := 254) (ws' := [oX7 a_z a_mm a_old a_saved_ a_isSaved a_text textLength refused a_far a_marked a_stack top highest overflowed a_command commands at_ fault_ hash, oI a_mm cI 1222 (upd mm_8 ((1200 : Int32) + v1_7).toNatClampNeg r11), oI a_old cI 1222 old, oZ a_marked cZ 200 marked]) X 1 dX7_rebuilds_253 rfl (g_vi hi13) rfl rfl ?_
            refine r_iinc (pc' := 257) (lv' := [(0, .ref a_z), (1, .int (v1_7 + (1 : Int32)))]) X (v1_7 + (1 : Int32)) dX7_rebuilds_254 1 rfl (congrArg (fun z => v1_7 + z) (by decide)) (by decide) [1, 0] rfl rfl ?_
            refine r_goto X 224 dX7_rebuilds_257 (by decide) ?_
            cases hF
            exact ih (v1_7 + (1 : Int32)) (upd mm_8 ((1200 : Int32) + v1_7).toNatClampNeg r11) hI224
      exact hL224 g_fuel (0 : Int32) mm_6 hR
    have hL24 : ∀ (fu : Nat) (v1_4 : Int32) (mm_5 : Nat → Int32), g_itn (FX7_rebuilds_L24 old marked) fu (v1_4, mm_5) = some ex24 → G 0 0 [oX7 a_z a_mm a_old a_saved_ a_isSaved a_text textLength refused a_far a_marked a_stack top highest overflowed a_command commands at_ fault_ hash, oI a_mm cI 1222 mm_5, oI a_old cI 1222 old, oZ a_marked cZ 200 marked] [(0, .ref a_z), (1, .int v1_4)] 24 [] := by
      intro fu
      induction fu with
      | zero => intro v1_4 mm_5 h9; exact (g_it0 h9).elim
      | succ fu ih =>
        intro v1_4 mm_5 h9
        obtain ⟨y24, hF, hI24⟩ := g_its h9
        unfold FX7_rebuilds_L24 at hF
        refine r_iload_n (pc' := 25) X dX7_rebuilds_24 rfl 1 rfl rfl ?_
        refine r_aload_n (pc' := 26) X dX7_rebuilds_25 rfl 0 rfl rfl ?_
        refine r_get (pc' := 29) X uX7_rebuilds_X7 0 0 dX7_rebuilds_26 rfl rfl (by decide) kX7_rebuilds_1 rfl rfl ?_
        refine r_sipush (pc' := 32) X (1216 : Int32) dX7_rebuilds_29 (by decide) rfl ?_
        refine r_ialdK (pc' := 33) (j := 1216) X 1 dX7_rebuilds_32 rfl (by decide +kernel) (by decide +kernel) rfl ?_
        refine r_icmp_ge (pc' := 36) X 222 dX7_rebuilds_33 (by decide) rfl (fun c9 => ?_) (fun c9 => ?_)
        · replace hF := g_t c9 hF
          cases hF
          refine r_sub (lv' := [(0, .ref a_z)]) X [0] rfl ?_
          exact hE24 mm_5 hI24
        · replace hF := g_f c9 hF
          refine r_aload_n (pc' := 37) X dX7_rebuilds_36 rfl 0 rfl rfl ?_
          refine r_get (pc' := 40) X uX7_rebuilds_X7 0 1 dX7_rebuilds_37 rfl rfl (by decide) kX7_rebuilds_2 rfl rfl ?_
          refine r_iconst (pc' := 41) X (0 : Int32) dX7_rebuilds_40 (by decide) rfl ?_
          refine r_iload_n (pc' := 42) X dX7_rebuilds_41 rfl 1 rfl rfl ?_
          refine r_iadd (pc' := 43) X dX7_rebuilds_42 rfl ?_
          obtain ⟨hi14, hF⟩ := g_gt hF
          refine r_iald (pc' := 44) X 2 dX7_rebuilds_43 rfl (g_vi hi14) rfl ?_
          obtain ⟨exJ16, hR, hF⟩ := g_bd hF
          have hJ16 : ∀ (mm_15 : Nat → Int32), mm_15 = exJ16 → G 0 0 [oX7 a_z a_mm a_old a_saved_ a_isSaved a_text textLength refused a_far a_marked a_stack top highest overflowed a_command commands at_ fault_ hash, oI a_mm cI 1222 mm_15, oI a_old cI 1222 old, oZ a_marked cZ 200 marked] [(0, .ref a_z), (1, .int v1_4)] 216 [] := by
            intro mm_15 hx; subst hx
            refine r_iinc (pc' := 219) (lv' := [(0, .ref a_z), (1, .int (v1_4 + (1 : Int32)))]) X (v1_4 + (1 : Int32)) dX7_rebuilds_216 1 rfl (congrArg (fun z => v1_4 + z) (by decide)) (by decide) [1, 0] rfl rfl ?_
            refine r_goto X 24 dX7_rebuilds_219 (by decide) ?_
            cases hF
            exact ih (v1_4 + (1 : Int32)) mm_15 hI24
          replace hF := hR
          refine r_if_le (pc' := 47) X 216 dX7_rebuilds_44 (by decide) rfl (fun c9 => ?_) (fun c9 => ?_)
          · replace hF := g_t c9 hF
            exact hJ16 mm_5 (Option.some.inj hF)
          · replace hF := g_f c9 hF
            refine r_aload_n (pc' := 48) X dX7_rebuilds_47 rfl 0 rfl rfl ?_
            refine r_get (pc' := 51) X uX7_rebuilds_X7 0 8 dX7_rebuilds_48 rfl rfl (by decide) kX7_rebuilds_3 rfl rfl ?_
            refine r_iload_n (pc' := 52) X dX7_rebuilds_51 rfl 1 rfl rfl ?_
            obtain ⟨hi17, hF⟩ := g_gt hF
            refine r_zald (pc' := 53) X 3 dX7_rebuilds_52 rfl (g_vi hi17) rfl ?_
            refine r_if_eq (pc' := 56) X 216 dX7_rebuilds_53 (by decide) rfl (fun c9 => ?_) (fun c9 => ?_)
            · replace hF := g_t c9 hF
              exact hJ16 mm_5 (Option.some.inj hF)
            · replace hF := g_f c9 hF
              refine r_aload_n (pc' := 57) X dX7_rebuilds_56 rfl 0 rfl rfl ?_
              refine r_get (pc' := 60) X uX7_rebuilds_X7 0 0 dX7_rebuilds_57 rfl rfl (by decide) kX7_rebuilds_1 rfl rfl ?_
              refine r_sipush (pc' := 63) X (1000 : Int32) dX7_rebuilds_60 (by decide) rfl ?_
              refine r_iload_n (pc' := 64) X dX7_rebuilds_63 rfl 1 rfl rfl ?_
              refine r_iadd (pc' := 65) X dX7_rebuilds_64 rfl ?_
              obtain ⟨hi18, hF⟩ := g_gt hF
              refine r_iald (pc' := 66) X 1 dX7_rebuilds_65 rfl (g_vi hi18) rfl ?_
              refine r_istore_n (pc' := 67) (lv' := [(0, .ref a_z), (1, .int v1_4), (2, .int (mm_5 ((1000 : Int32) + v1_4).toNatClampNeg))]) X dX7_rebuilds_66 rfl (by decide) [1, 2, 0] rfl rfl ?_
              refine r_aload_n (pc' := 68) X dX7_rebuilds_67 rfl 0 rfl rfl ?_
              refine r_get (pc' := 71) X uX7_rebuilds_X7 0 0 dX7_rebuilds_68 rfl rfl (by decide) kX7_rebuilds_1 rfl rfl ?_
              refine r_iconst (pc' := 72) X (0 : Int32) dX7_rebuilds_71 (by decide) rfl ?_
              refine r_iload_n (pc' := 73) X dX7_rebuilds_72 rfl 2 rfl rfl ?_
              refine r_iadd (pc' := 74) X dX7_rebuilds_73 rfl ?_
              refine r_aload_n (pc' := 75) X dX7_rebuilds_74 rfl 0 rfl rfl ?_
              refine r_get (pc' := 78) X uX7_rebuilds_X7 0 1 dX7_rebuilds_75 rfl rfl (by decide) kX7_rebuilds_2 rfl rfl ?_
              refine r_iconst (pc' := 79) X (0 : Int32) dX7_rebuilds_78 (by decide) rfl ?_
              refine r_iload_n (pc' := 80) X dX7_rebuilds_79 rfl 1 rfl rfl ?_
              refine r_iadd (pc' := 81) X dX7_rebuilds_80 rfl ?_
              obtain ⟨hi19, hF⟩ := g_gt hF
              refine r_iald (pc' := 82) X 2 dX7_rebuilds_81 rfl (g_vi hi19) rfl ?_
              obtain ⟨hi20, hF⟩ := g_gt hF
              refine r_iast (pc' := 83) (ws' := [oX7 a_z a_mm a_old a_saved_ a_isSaved a_text textLength refused a_far a_marked a_stack top highest overflowed a_command commands at_ fault_ hash, oI a_mm cI 1222 (upd mm_5 ((0 : Int32) + (mm_5 ((1000 : Int32) + v1_4).toNatClampNeg)).toNatClampNeg (old ((0 : Int32) + v1_4).toNatClampNeg)), oI a_old cI 1222 old, oZ a_marked cZ 200 marked]) X 1 dX7_rebuilds_82 rfl (g_vi hi20) rfl rfl ?_
              refine r_aload_n (pc' := 84) X dX7_rebuilds_83 rfl 0 rfl rfl ?_
              refine r_get (pc' := 87) X uX7_rebuilds_X7 0 0 dX7_rebuilds_84 rfl rfl (by decide) kX7_rebuilds_1 rfl rfl ?_
              refine r_sipush (pc' := 90) X (200 : Int32) dX7_rebuilds_87 (by decide) rfl ?_
              refine r_iload_n (pc' := 91) X dX7_rebuilds_90 rfl 2 rfl rfl ?_
              refine r_iadd (pc' := 92) X dX7_rebuilds_91 rfl ?_
              refine r_aload_n (pc' := 93) X dX7_rebuilds_92 rfl 0 rfl rfl ?_
              refine r_get (pc' := 96) X uX7_rebuilds_X7 0 1 dX7_rebuilds_93 rfl rfl (by decide) kX7_rebuilds_2 rfl rfl ?_
              refine r_sipush (pc' := 99) X (200 : Int32) dX7_rebuilds_96 (by decide) rfl ?_
              refine r_iload_n (pc' := 100) X dX7_rebuilds_99 rfl 1 rfl rfl ?_
              refine r_iadd (pc' := 101) X dX7_rebuilds_100 rfl ?_
              obtain ⟨hi21, hF⟩ := g_gt hF
              refine r_iald (pc' := 102) X 2 dX7_rebuilds_101 rfl (g_vi hi21) rfl ?_
              obtain ⟨hi22, hF⟩ := g_gt hF
              refine r_iast (pc' := 103) (ws' := [oX7 a_z a_mm a_old a_saved_ a_isSaved a_text textLength refused a_far a_marked a_stack top highest overflowed a_command commands at_ fault_ hash, oI a_mm cI 1222 (upd (upd mm_5 ((0 : Int32) + (mm_5 ((1000 : Int32) + v1_4).toNatClampNeg)).toNatClampNeg (old ((0 : Int32) + v1_4).toNatClampNeg)) ((200 : Int32) + (mm_5 ((1000 : Int32) + v1_4).toNatClampNeg)).toNatClampNeg (old ((200 : Int32) + v1_4).toNatClampNeg)), oI a_old cI 1222 old, oZ a_marked cZ 200 marked]) X 1 dX7_rebuilds_102 rfl (g_vi hi22) rfl rfl ?_
              refine r_aload_n (pc' := 104) X dX7_rebuilds_103 rfl 0 rfl rfl ?_
              refine r_get (pc' := 107) X uX7_rebuilds_X7 0 0 dX7_rebuilds_104 rfl rfl (by decide) kX7_rebuilds_1 rfl rfl ?_
              refine r_sipush (pc' := 110) X (400 : Int32) dX7_rebuilds_107 (by decide) rfl ?_
              refine r_iload_n (pc' := 111) X dX7_rebuilds_110 rfl 2 rfl rfl ?_
              refine r_iadd (pc' := 112) X dX7_rebuilds_111 rfl ?_
              refine r_aload_n (pc' := 113) X dX7_rebuilds_112 rfl 0 rfl rfl ?_
              refine r_get (pc' := 116) X uX7_rebuilds_X7 0 1 dX7_rebuilds_113 rfl rfl (by decide) kX7_rebuilds_2 rfl rfl ?_
              refine r_sipush (pc' := 119) X (400 : Int32) dX7_rebuilds_116 (by decide) rfl ?_
              refine r_iload_n (pc' := 120) X dX7_rebuilds_119 rfl 1 rfl rfl ?_
              refine r_iadd (pc' := 121) X dX7_rebuilds_120 rfl ?_
              obtain ⟨hi23, hF⟩ := g_gt hF
              refine r_iald (pc' := 122) X 2 dX7_rebuilds_121 rfl (g_vi hi23) rfl ?_
              obtain ⟨hi24, hF⟩ := g_gt hF
              refine r_iast (pc' := 123) (ws' := [oX7 a_z a_mm a_old a_saved_ a_isSaved a_text textLength refused a_far a_marked a_stack top highest overflowed a_command commands at_ fault_ hash, oI a_mm cI 1222 (upd (upd (upd mm_5 ((0 : Int32) + (mm_5 ((1000 : Int32) + v1_4).toNatClampNeg)).toNatClampNeg (old ((0 : Int32) + v1_4).toNatClampNeg)) ((200 : Int32) + (mm_5 ((1000 : Int32) + v1_4).toNatClampNeg)).toNatClampNeg (old ((200 : Int32) + v1_4).toNatClampNeg)) ((400 : Int32) + (mm_5 ((1000 : Int32) + v1_4).toNatClampNeg)).toNatClampNeg (old ((400 : Int32) + v1_4).toNatClampNeg)), oI a_old cI 1222 old, oZ a_marked cZ 200 marked]) X 1 dX7_rebuilds_122 rfl (g_vi hi24) rfl rfl ?_
              refine r_aload_n (pc' := 124) X dX7_rebuilds_123 rfl 0 rfl rfl ?_
              refine r_get (pc' := 127) X uX7_rebuilds_X7 0 0 dX7_rebuilds_124 rfl rfl (by decide) kX7_rebuilds_1 rfl rfl ?_
              refine r_sipush (pc' := 130) X (600 : Int32) dX7_rebuilds_127 (by decide) rfl ?_
              refine r_iload_n (pc' := 131) X dX7_rebuilds_130 rfl 2 rfl rfl ?_
              refine r_iadd (pc' := 132) X dX7_rebuilds_131 rfl ?_
              refine r_aload_n (pc' := 133) X dX7_rebuilds_132 rfl 0 rfl rfl ?_
              refine r_get (pc' := 136) X uX7_rebuilds_X7 0 1 dX7_rebuilds_133 rfl rfl (by decide) kX7_rebuilds_2 rfl rfl ?_
              refine r_sipush (pc' := 139) X (600 : Int32) dX7_rebuilds_136 (by decide) rfl ?_
              refine r_iload_n (pc' := 140) X dX7_rebuilds_139 rfl 1 rfl rfl ?_
              refine r_iadd (pc' := 141) X dX7_rebuilds_140 rfl ?_
              obtain ⟨hi25, hF⟩ := g_gt hF
              refine r_iald (pc' := 142) X 2 dX7_rebuilds_141 rfl (g_vi hi25) rfl ?_
              refine r_iconst (pc' := 143) X (1 : Int32) dX7_rebuilds_142 (by decide) rfl ?_
              refine r_iadd (pc' := 144) X dX7_rebuilds_143 rfl ?_
              obtain ⟨hi26, hF⟩ := g_gt hF
              refine r_iast (pc' := 145) (ws' := [oX7 a_z a_mm a_old a_saved_ a_isSaved a_text textLength refused a_far a_marked a_stack top highest overflowed a_command commands at_ fault_ hash, oI a_mm cI 1222 (upd (upd (upd (upd mm_5 ((0 : Int32) + (mm_5 ((1000 : Int32) + v1_4).toNatClampNeg)).toNatClampNeg (old ((0 : Int32) + v1_4).toNatClampNeg)) ((200 : Int32) + (mm_5 ((1000 : Int32) + v1_4).toNatClampNeg)).toNatClampNeg (old ((200 : Int32) + v1_4).toNatClampNeg)) ((400 : Int32) + (mm_5 ((1000 : Int32) + v1_4).toNatClampNeg)).toNatClampNeg (old ((400 : Int32) + v1_4).toNatClampNeg)) ((600 : Int32) + (mm_5 ((1000 : Int32) + v1_4).toNatClampNeg)).toNatClampNeg ((old ((600 : Int32) + v1_4).toNatClampNeg) + (1 : Int32))), oI a_old cI 1222 old, oZ a_marked cZ 200 marked]) X 1 dX7_rebuilds_144 rfl (g_vi hi26) rfl rfl ?_
              refine r_iconst (pc' := 146) X (1 : Int32) dX7_rebuilds_145 (by decide) rfl ?_
              refine r_istore_n (pc' := 147) (lv' := [(0, .ref a_z), (1, .int v1_4), (2, .int (mm_5 ((1000 : Int32) + v1_4).toNatClampNeg)), (3, .int (1 : Int32))]) X dX7_rebuilds_146 rfl (by decide) [1, 2, 3, 0] rfl rfl ?_
              obtain ⟨ex147, hR, hF⟩ := g_bd hF
              have hE147 : ∀ (mm_29 : Nat → Int32), mm_29 = ex147 → G 0 0 [oX7 a_z a_mm a_old a_saved_ a_isSaved a_text textLength refused a_far a_marked a_stack top highest overflowed a_command commands at_ fault_ hash, oI a_mm cI 1222 mm_29, oI a_old cI 1222 old, oZ a_marked cZ 200 marked] [(0, .ref a_z), (1, .int v1_4)] 216 [] := by
                intro mm_29 hx; subst hx
                exact hJ16 mm_29 (Option.some.inj hF)
              have hL147 : ∀ (fu : Nat) (v3_27 : Int32) (mm_28 : Nat → Int32), g_itn (FX7_rebuilds_L147 old v1_4 mm_5) fu (v3_27, mm_28) = some ex147 → G 0 0 [oX7 a_z a_mm a_old a_saved_ a_isSaved a_text textLength refused a_far a_marked a_stack top highest overflowed a_command commands at_ fault_ hash, oI a_mm cI 1222 mm_28, oI a_old cI 1222 old, oZ a_marked cZ 200 marked] [(0, .ref a_z), (1, .int v1_4), (2, .int (mm_5 ((1000 : Int32) + v1_4).toNatClampNeg)), (3, .int v3_27)] 147 [] := by
                intro fu
                induction fu with
                | zero => intro v3_27 mm_28 h9; exact (g_it0 h9).elim
                | succ fu ih =>
                  intro v3_27 mm_28 h9
                  obtain ⟨y147, hF, hI147⟩ := g_its h9
                  unfold FX7_rebuilds_L147 at hF
                  refine r_iload_n (pc' := 148) X dX7_rebuilds_147 rfl 3 rfl rfl ?_
                  refine r_aload_n (pc' := 149) X dX7_rebuilds_148 rfl 0 rfl rfl ?_
                  refine r_get (pc' := 152) X uX7_rebuilds_X7 0 1 dX7_rebuilds_149 rfl rfl (by decide) kX7_rebuilds_2 rfl rfl ?_
                  refine r_iconst (pc' := 153) X (0 : Int32) dX7_rebuilds_152 (by decide) rfl ?_
                  refine r_iload_n (pc' := 154) X dX7_rebuilds_153 rfl 1 rfl rfl ?_
                  refine r_iadd (pc' := 155) X dX7_rebuilds_154 rfl ?_
                  obtain ⟨hi30, hF⟩ := g_gt hF
                  refine r_iald (pc' := 156) X 2 dX7_rebuilds_155 rfl (g_vi hi30) rfl ?_
                  refine r_icmp_ge (pc' := 159) X 216 dX7_rebuilds_156 (by decide) rfl (fun c9 => ?_) (fun c9 => ?_)
                  · replace hF := g_t c9 hF
                    cases hF
                    refine r_sub (lv' := [(0, .ref a_z), (1, .int v1_4)]) X [0, 1] rfl ?_
                    exact hE147 mm_28 hI147
                  · replace hF := g_f c9 hF
                    refine r_aload_n (pc' := 160) X dX7_rebuilds_159 rfl 0 rfl rfl ?_
                    refine r_get (pc' := 163) X uX7_rebuilds_X7 0 1 dX7_rebuilds_160 rfl rfl (by decide) kX7_rebuilds_2 rfl rfl ?_
                    refine r_sipush (pc' := 166) X (800 : Int32) dX7_rebuilds_163 (by decide) rfl ?_
                    refine r_iload_n (pc' := 167) X dX7_rebuilds_166 rfl 1 rfl rfl ?_
                    refine r_iadd (pc' := 168) X dX7_rebuilds_167 rfl ?_
                    refine r_iload_n (pc' := 169) X dX7_rebuilds_168 rfl 3 rfl rfl ?_
                    refine r_iadd (pc' := 170) X dX7_rebuilds_169 rfl ?_
                    obtain ⟨hi31, hF⟩ := g_gt hF
                    refine r_iald (pc' := 171) X 2 dX7_rebuilds_170 rfl (g_vi hi31) rfl ?_
                    refine r_istore (pc' := 173) (lv' := [(0, .ref a_z), (1, .int v1_4), (2, .int (mm_5 ((1000 : Int32) + v1_4).toNatClampNeg)), (3, .int v3_27), (4, .int (old (((800 : Int32) + v1_4) + v3_27).toNatClampNeg))]) X dX7_rebuilds_171 (by decide) [1, 2, 3, 4, 0] rfl rfl ?_
                    refine r_aload_n (pc' := 174) X dX7_rebuilds_173 rfl 0 rfl rfl ?_
                    refine r_get (pc' := 177) X uX7_rebuilds_X7 0 0 dX7_rebuilds_174 rfl rfl (by decide) kX7_rebuilds_1 rfl rfl ?_
                    refine r_sipush (pc' := 180) X (800 : Int32) dX7_rebuilds_177 (by decide) rfl ?_
                    refine r_iload_n (pc' := 181) X dX7_rebuilds_180 rfl 2 rfl rfl ?_
                    refine r_iadd (pc' := 182) X dX7_rebuilds_181 rfl ?_
                    refine r_iload_n (pc' := 183) X dX7_rebuilds_182 rfl 3 rfl rfl ?_
                    refine r_iadd (pc' := 184) X dX7_rebuilds_183 rfl ?_
                    refine r_iload_n (pc' := 185) X dX7_rebuilds_184 rfl 3 rfl rfl ?_
                    refine r_aload_n (pc' := 186) X dX7_rebuilds_185 rfl 0 rfl rfl ?_
                    refine r_get (pc' := 189) X uX7_rebuilds_X7 0 1 dX7_rebuilds_186 rfl rfl (by decide) kX7_rebuilds_2 rfl rfl ?_
                    refine r_sipush (pc' := 192) X (200 : Int32) dX7_rebuilds_189 (by decide) rfl ?_
                    refine r_iload_n (pc' := 193) X dX7_rebuilds_192 rfl 1 rfl rfl ?_
                    refine r_iadd (pc' := 194) X dX7_rebuilds_193 rfl ?_
                    obtain ⟨hi32, hF⟩ := g_gt hF
                    refine r_iald (pc' := 195) X 2 dX7_rebuilds_194 rfl (g_vi hi32) rfl ?_
                    obtain ⟨exJ34, hR, hF⟩ := g_bd hF
                    have hJ34 : ∀ (t33 : Int32), t33 = exJ34 → G 0 0 [oX7 a_z a_mm a_old a_saved_ a_isSaved a_text textLength refused a_far a_marked a_stack top highest overflowed a_command commands at_ fault_ hash, oI a_mm cI 1222 mm_28, oI a_old cI 1222 old, oZ a_marked cZ 200 marked] [(0, .ref a_z), (1, .int v1_4), (2, .int (mm_5 ((1000 : Int32) + v1_4).toNatClampNeg)), (3, .int v3_27)] 209 [.int t33, .int (((800 : Int32) + (mm_5 ((1000 : Int32) + v1_4).toNatClampNeg)) + v3_27), .ref a_mm] := by
                      intro t33 hx; subst hx
                      obtain ⟨hi35, hF⟩ := g_gt hF
                      refine r_iast (pc' := 210) (ws' := [oX7 a_z a_mm a_old a_saved_ a_isSaved a_text textLength refused a_far a_marked a_stack top highest overflowed a_command commands at_ fault_ hash, oI a_mm cI 1222 (upd mm_28 (((800 : Int32) + (mm_5 ((1000 : Int32) + v1_4).toNatClampNeg)) + v3_27).toNatClampNeg t33), oI a_old cI 1222 old, oZ a_marked cZ 200 marked]) X 1 dX7_rebuilds_209 rfl (g_vi hi35) rfl rfl ?_
                      refine r_iinc (pc' := 213) (lv' := [(0, .ref a_z), (1, .int v1_4), (2, .int (mm_5 ((1000 : Int32) + v1_4).toNatClampNeg)), (3, .int (v3_27 + (1 : Int32)))]) X (v3_27 + (1 : Int32)) dX7_rebuilds_210 3 rfl (congrArg (fun z => v3_27 + z) (by decide)) (by decide) [1, 2, 3, 0] rfl rfl ?_
                      refine r_goto X 147 dX7_rebuilds_213 (by decide) ?_
                      cases hF
                      exact ih (v3_27 + (1 : Int32)) (upd mm_28 (((800 : Int32) + (mm_5 ((1000 : Int32) + v1_4).toNatClampNeg)) + v3_27).toNatClampNeg t33) hI147
                    replace hF := hR
                    refine r_icmp_gt (pc' := 198) X 207 dX7_rebuilds_195 (by decide) rfl (fun c9 => ?_) (fun c9 => ?_)
                    · replace hF := g_t c9 hF
                      refine r_iload (pc' := 209) X dX7_rebuilds_207 4 rfl rfl ?_
                      refine r_sub (lv' := [(0, .ref a_z), (1, .int v1_4), (2, .int (mm_5 ((1000 : Int32) + v1_4).toNatClampNeg)), (3, .int v3_27)]) X [0, 1, 2, 3] rfl ?_
                      exact hJ34 (old (((800 : Int32) + v1_4) + v3_27).toNatClampNeg) (Option.some.inj hF)
                    · replace hF := g_f c9 hF
                      refine r_aload_n (pc' := 199) X dX7_rebuilds_198 rfl 0 rfl rfl ?_
                      refine r_iload (pc' := 201) X dX7_rebuilds_199 4 rfl rfl ?_
                      obtain ⟨r36, hc37, hF⟩ := g_bd hF
                      refine r_callVF (pc' := 204) (ws' := [oX7 a_z a_mm a_old a_saved_ a_isSaved a_text textLength refused a_far a_marked a_stack top highest overflowed a_command commands at_ fault_ hash, oI a_mm cI 1222 mm_28, oI a_old cI 1222 old, oZ a_marked cZ 200 marked]) (st' := [.int r36, .int (((800 : Int32) + (mm_5 ((1000 : Int32) + v1_4).toNatClampNeg)) + v3_27), .ref a_mm]) X (mX7_gone D cI cZ cH a_z a_mm a_old a_saved_ a_isSaved a_text a_far a_marked a_stack a_command textLength refused top highest overflowed commands at_ fault_ hash mm_28 (old (((800 : Int32) + v1_4) + v3_27).toNatClampNeg) r36 hc37) 1 gX7_rebuilds_X7_gone rfl (by decide +kernel) rfl rfl ⟨Nat.le_of_ble_eq_true rfl, Nat.le_of_ble_eq_true rfl⟩ ⟨Nat.le_of_ble_eq_true rfl, Nat.le_of_ble_eq_true rfl⟩ rfl (Nat.le_of_ble_eq_true rfl) dX7_rebuilds_201 0 rfl rfl [0, 1] rfl rfl rfl rfl rfl rfl ?_
                      refine r_goto X 209 dX7_rebuilds_204 (by decide) ?_
                      refine r_sub (lv' := [(0, .ref a_z), (1, .int v1_4), (2, .int (mm_5 ((1000 : Int32) + v1_4).toNatClampNeg)), (3, .int v3_27)]) X [0, 1, 2, 3] rfl ?_
                      exact hJ34 r36 (Option.some.inj hF)
              exact hL147 g_fuel (1 : Int32) (upd (upd (upd (upd mm_5 ((0 : Int32) + (mm_5 ((1000 : Int32) + v1_4).toNatClampNeg)).toNatClampNeg (old ((0 : Int32) + v1_4).toNatClampNeg)) ((200 : Int32) + (mm_5 ((1000 : Int32) + v1_4).toNatClampNeg)).toNatClampNeg (old ((200 : Int32) + v1_4).toNatClampNeg)) ((400 : Int32) + (mm_5 ((1000 : Int32) + v1_4).toNatClampNeg)).toNatClampNeg (old ((400 : Int32) + v1_4).toNatClampNeg)) ((600 : Int32) + (mm_5 ((1000 : Int32) + v1_4).toNatClampNeg)).toNatClampNeg ((old ((600 : Int32) + v1_4).toNatClampNeg) + (1 : Int32))) hR
    exact hL24 g_fuel (0 : Int32) mm_3 hR
  have hL2 : ∀ (fu : Nat) (v1_1 : Int32) (mm_2 : Nat → Int32), g_itn (FX7_rebuilds_L2) fu (v1_1, mm_2) = some ex2 → G 0 0 [oX7 a_z a_mm a_old a_saved_ a_isSaved a_text textLength refused a_far a_marked a_stack top highest overflowed a_command commands at_ fault_ hash, oI a_mm cI 1222 mm_2, oI a_old cI 1222 old, oZ a_marked cZ 200 marked] [(0, .ref a_z), (1, .int v1_1)] 2 [] := by
    intro fu
    induction fu with
    | zero => intro v1_1 mm_2 h9; exact (g_it0 h9).elim
    | succ fu ih =>
      intro v1_1 mm_2 h9
      obtain ⟨y2, hF, hI2⟩ := g_its h9
      unfold FX7_rebuilds_L2 at hF
      refine r_iload_n (pc' := 3) X dX7_rebuilds_2 rfl 1 rfl rfl ?_
      refine r_sipush (pc' := 6) X (1000 : Int32) dX7_rebuilds_3 (by decide) rfl ?_
      refine r_icmp_ge (pc' := 9) X 22 dX7_rebuilds_6 (by decide) rfl (fun c9 => ?_) (fun c9 => ?_)
      · replace hF := g_t c9 hF
        cases hF
        refine r_sub (lv' := [(0, .ref a_z)]) X [0] rfl ?_
        exact hE2 mm_2 hI2
      · replace hF := g_f c9 hF
        refine r_aload_n (pc' := 10) X dX7_rebuilds_9 rfl 0 rfl rfl ?_
        refine r_get (pc' := 13) X uX7_rebuilds_X7 0 0 dX7_rebuilds_10 rfl rfl (by decide) kX7_rebuilds_1 rfl rfl ?_
        refine r_iload_n (pc' := 14) X dX7_rebuilds_13 rfl 1 rfl rfl ?_
        refine r_iconst (pc' := 15) X (0 : Int32) dX7_rebuilds_14 (by decide) rfl ?_
        obtain ⟨hi38, hF⟩ := g_gt hF
        refine r_iast (pc' := 16) (ws' := [oX7 a_z a_mm a_old a_saved_ a_isSaved a_text textLength refused a_far a_marked a_stack top highest overflowed a_command commands at_ fault_ hash, oI a_mm cI 1222 (upd mm_2 v1_1.toNatClampNeg (0 : Int32)), oI a_old cI 1222 old, oZ a_marked cZ 200 marked]) X 1 dX7_rebuilds_15 rfl (g_vi hi38) rfl rfl ?_
        refine r_iinc (pc' := 19) (lv' := [(0, .ref a_z), (1, .int (v1_1 + (1 : Int32)))]) X (v1_1 + (1 : Int32)) dX7_rebuilds_16 1 rfl (congrArg (fun z => v1_1 + z) (by decide)) (by decide) [1, 0] rfl rfl ?_
        refine r_goto X 2 dX7_rebuilds_19 (by decide) ?_
        cases hF
        exact ih (v1_1 + (1 : Int32)) (upd mm_2 v1_1.toNatClampNeg (0 : Int32)) hI2
  exact hL2 g_fuel (0 : Int32) mm hR
theorem kX7_collect_2 : Cond.fieldLink RX7 7 "IslandHeapModel" "m" "[I" ∈ wsX7_collect := List.mem_of_getElem? (i := 2) (by decide +kernel)
theorem kX7_collect_4 : Cond.fieldLink RX7 98 "IslandHeapModel" "highest" "I" ∈ wsX7_collect := List.mem_of_getElem? (i := 4) (by decide +kernel)
theorem kX7_collect_1 : Cond.fieldLink RX7 13 "IslandHeapModel" "old" "[I" ∈ wsX7_collect := List.mem_of_getElem? (i := 1) (by decide +kernel)
theorem kX7_collect_3 : Cond.fieldLink RX7 33 "IslandHeapModel" "marked" "[Z" ∈ wsX7_collect := List.mem_of_getElem? (i := 3) (by decide +kernel)
theorem uX7_collect_X7 : ∀ w ∈ u_ws RX7 TX7 18, w ∈ wsX7_collect := by decide +kernel
set_option maxHeartbeats 4000000 in
set_option maxRecDepth 100000 in
theorem mX7_collect (D : va_G) (cI cZ cH : ClassId) (a_z : Nat) (a_mm : Nat) (a_old : Nat) (a_marked : Nat) (a_stack : Nat) (a_saved_ : Nat) (a_isSaved : Nat) (a_text : Nat) (a_far : Nat) (a_command : Nat) (textLength : Int32) (refused : Int32) (top : Int32) (highest : Int32) (overflowed : Int32) (commands : Int32) (at_ : Int32) (fault_ : Int32) (hash : Int64) (mm : Nat → Int32) (old : Nat → Int32) (marked : Nat → Int32) (stack : Nat → Int32) (r0 : Int32) (w_top : Int32) (w_highest : Int32) (w_overflowed : Int32) (w_mm : Nat → Int32) (w_old : Nat → Int32) (w_marked : Nat → Int32) (w_stack : Nat → Int32) (hF : FX7_collect top highest overflowed mm old marked stack = some (r0, w_top, w_highest, w_overflowed, w_mm, w_old, w_marked, w_stack)) : g_CM yX7_collect wsX7_collect ({ frames := 6, cells := 0, slots := 0, locals := 131 }) D cI cZ cH [.ref a_z] [oX7 a_z a_mm a_old a_saved_ a_isSaved a_text textLength refused a_far a_marked a_stack top highest overflowed a_command commands at_ fault_ hash, oI a_mm cI 1222 mm, oI a_old cI 1222 old, oZ a_marked cZ 200 marked, oI a_stack cI 20 stack] 0 0 (g_Tm (some (.int r0)) [oX7 a_z a_mm a_old a_saved_ a_isSaved a_text textLength refused a_far a_marked a_stack w_top w_highest w_overflowed a_command commands at_ fault_ hash, oI a_mm cI 1222 w_mm, oI a_old cI 1222 w_old, oZ a_marked cZ 200 w_marked, oI a_stack cI 20 w_stack]) := by
  refine g_met (own := RX7) (mn := "collect") (cc := cX7_collect) (maxL := 11) (ret := (some .int)) rfl rfl (by decide +kernel) rfl (Nat.le_of_ble_eq_true rfl) (fun G X RT => ?_)
  show G 0 0 [oX7 a_z a_mm a_old a_saved_ a_isSaved a_text textLength refused a_far a_marked a_stack top highest overflowed a_command commands at_ fault_ hash, oI a_mm cI 1222 mm, oI a_old cI 1222 old, oZ a_marked cZ 200 marked, oI a_stack cI 20 stack] [(0, .ref a_z)] 0 []
  unfold FX7_collect at hF
  refine r_aload_n (pc' := 1) X dX7_collect_0 rfl 0 rfl rfl ?_
  obtain ⟨r1, hc2, hF⟩ := g_bd hF
  refine r_callVF (pc' := 4) (ws' := [oX7 a_z a_mm a_old a_saved_ a_isSaved a_text textLength refused a_far a_marked a_stack top highest overflowed a_command commands at_ fault_ hash, oI a_mm cI 1222 mm, oI a_old cI 1222 old, oZ a_marked cZ 200 marked, oI a_stack cI 20 stack]) (st' := [.int r1]) X (mX7_occupied D cI cZ cH a_z a_mm a_old a_saved_ a_isSaved a_text a_far a_marked a_stack a_command textLength refused top highest overflowed commands at_ fault_ hash mm r1 hc2) 0 gX7_collect_X7_occupied rfl (by decide +kernel) rfl rfl ⟨Nat.le_of_ble_eq_true rfl, Nat.le_of_ble_eq_true rfl⟩ ⟨Nat.le_of_ble_eq_true rfl, Nat.le_of_ble_eq_true rfl⟩ rfl (Nat.le_of_ble_eq_true rfl) dX7_collect_1 0 rfl rfl [0, 1] rfl rfl rfl rfl rfl rfl ?_
  refine r_istore_n (pc' := 5) (lv' := [(0, .ref a_z), (1, .int r1)]) X dX7_collect_4 rfl (by decide) [1, 0] rfl rfl ?_
  refine r_aload_n (pc' := 6) X dX7_collect_5 rfl 0 rfl rfl ?_
  obtain ⟨⟨r3, top_4, highest_5, overflowed_6, marked_7, stack_8⟩, hc9, hF⟩ := g_bd hF
  refine r_callVF (pc' := 9) (ws' := [oX7 a_z a_mm a_old a_saved_ a_isSaved a_text textLength refused a_far a_marked a_stack top_4 highest_5 overflowed_6 a_command commands at_ fault_ hash, oI a_mm cI 1222 mm, oI a_old cI 1222 old, oZ a_marked cZ 200 marked_7, oI a_stack cI 20 stack_8]) (st' := [.int r3]) X (mX7_marks D cI cZ cH a_z a_mm a_marked a_stack a_old a_saved_ a_isSaved a_text a_far a_command textLength refused top highest overflowed commands at_ fault_ hash mm marked stack r3 top_4 highest_5 overflowed_6 marked_7 stack_8 hc9) 0 gX7_collect_X7_marks rfl (by decide +kernel) rfl rfl ⟨Nat.le_of_ble_eq_true rfl, Nat.le_of_ble_eq_true rfl⟩ ⟨Nat.le_of_ble_eq_true rfl, Nat.le_of_ble_eq_true rfl⟩ rfl (Nat.le_of_ble_eq_true rfl) dX7_collect_6 0 rfl rfl [0, 1, 3, 4] rfl rfl rfl rfl rfl rfl ?_
  refine r_istore_n (pc' := 10) (lv' := [(0, .ref a_z), (1, .int r1), (2, .int r3)]) X dX7_collect_9 rfl (by decide) [1, 2, 0] rfl rfl ?_
  refine r_iconst (pc' := 11) X (0 : Int32) dX7_collect_10 (by decide) rfl ?_
  refine r_istore_n (pc' := 12) (lv' := [(0, .ref a_z), (1, .int r1), (2, .int r3), (3, .int (0 : Int32))]) X dX7_collect_11 rfl (by decide) [1, 2, 3, 0] rfl rfl ?_
  obtain ⟨ex12, hR, hF⟩ := g_bd hF
  have hE12 : ∀ (old_12 : Nat → Int32), old_12 = ex12 → G 0 0 [oX7 a_z a_mm a_old a_saved_ a_isSaved a_text textLength refused a_far a_marked a_stack top_4 highest_5 overflowed_6 a_command commands at_ fault_ hash, oI a_mm cI 1222 mm, oI a_old cI 1222 old_12, oZ a_marked cZ 200 marked_7, oI a_stack cI 20 stack_8] [(0, .ref a_z), (1, .int r1), (2, .int r3)] 37 [] := by
    intro old_12 hx; subst hx
    refine r_iconst (pc' := 38) X (0 : Int32) dX7_collect_37 (by decide) rfl ?_
    refine r_istore_n (pc' := 39) (lv' := [(0, .ref a_z), (1, .int r1), (2, .int r3), (3, .int (0 : Int32))]) X dX7_collect_38 rfl (by decide) [1, 2, 3, 0] rfl rfl ?_
    obtain ⟨ex39, hR, hF⟩ := g_bd hF
    have hE39 : ∀ (mm_15 : Nat → Int32), mm_15 = ex39 → G 0 0 [oX7 a_z a_mm a_old a_saved_ a_isSaved a_text textLength refused a_far a_marked a_stack top_4 highest_5 overflowed_6 a_command commands at_ fault_ hash, oI a_mm cI 1222 mm_15, oI a_old cI 1222 old_12, oZ a_marked cZ 200 marked_7, oI a_stack cI 20 stack_8] [(0, .ref a_z), (1, .int r1), (2, .int r3)] 63 [] := by
      intro mm_15 hx; subst hx
      refine r_iconst (pc' := 64) X (0 : Int32) dX7_collect_63 (by decide) rfl ?_
      refine r_istore_n (pc' := 65) (lv' := [(0, .ref a_z), (1, .int r1), (2, .int r3), (3, .int (0 : Int32))]) X dX7_collect_64 rfl (by decide) [1, 2, 3, 0] rfl rfl ?_
      refine r_iconst (pc' := 66) X (0 : Int32) dX7_collect_65 (by decide) rfl ?_
      refine r_istore (pc' := 68) (lv' := [(0, .ref a_z), (1, .int r1), (2, .int r3), (3, .int (0 : Int32)), (4, .int (0 : Int32))]) X dX7_collect_66 (by decide) [1, 2, 3, 4, 0] rfl rfl ?_
      refine r_iconst (pc' := 69) X (0 : Int32) dX7_collect_68 (by decide) rfl ?_
      refine r_istore (pc' := 71) (lv' := [(0, .ref a_z), (1, .int r1), (2, .int r3), (3, .int (0 : Int32)), (4, .int (0 : Int32)), (5, .int (0 : Int32))]) X dX7_collect_69 (by decide) [1, 2, 3, 4, 5, 0] rfl rfl ?_
      refine r_iconst (pc' := 72) X (0 : Int32) dX7_collect_71 (by decide) rfl ?_
      refine r_istore (pc' := 74) (lv' := [(0, .ref a_z), (1, .int r1), (2, .int r3), (3, .int (0 : Int32)), (4, .int (0 : Int32)), (5, .int (0 : Int32)), (6, .int (0 : Int32))]) X dX7_collect_72 (by decide) [1, 2, 3, 4, 5, 6, 0] rfl rfl ?_
      refine r_iconst (pc' := 75) X (0 : Int32) dX7_collect_74 (by decide) rfl ?_
      refine r_istore (pc' := 77) (lv' := [(0, .ref a_z), (1, .int r1), (2, .int r3), (3, .int (0 : Int32)), (4, .int (0 : Int32)), (5, .int (0 : Int32)), (6, .int (0 : Int32)), (7, .int (0 : Int32))]) X dX7_collect_75 (by decide) [1, 2, 3, 4, 5, 6, 7, 0] rfl rfl ?_
      refine r_iconst (pc' := 78) X (0 : Int32) dX7_collect_77 (by decide) rfl ?_
      refine r_istore (pc' := 80) (lv' := [(0, .ref a_z), (1, .int r1), (2, .int r3), (3, .int (0 : Int32)), (4, .int (0 : Int32)), (5, .int (0 : Int32)), (6, .int (0 : Int32)), (7, .int (0 : Int32)), (8, .int (0 : Int32))]) X dX7_collect_78 (by decide) [1, 2, 3, 4, 5, 6, 7, 8, 0] rfl rfl ?_
      obtain ⟨ex80, hR, hF⟩ := g_bd hF
      have hE80 : ∀ (v4_23 : Int32) (v5_24 : Int32) (v6_25 : Int32) (v7_26 : Int32) (mm_27 : Nat → Int32), (v4_23, v5_24, v6_25, v7_26, mm_27) = ex80 → G 0 0 [oX7 a_z a_mm a_old a_saved_ a_isSaved a_text textLength refused a_far a_marked a_stack top_4 highest_5 overflowed_6 a_command commands at_ fault_ hash, oI a_mm cI 1222 mm_27, oI a_old cI 1222 old_12, oZ a_marked cZ 200 marked_7, oI a_stack cI 20 stack_8] [(0, .ref a_z), (1, .int r1), (2, .int r3), (4, .int v4_23), (5, .int v5_24), (6, .int v6_25), (7, .int v7_26)] 253 [] := by
        intro v4_23 v5_24 v6_25 v7_26 mm_27 hx; subst hx
        refine r_aload_n (pc' := 254) X dX7_collect_253 rfl 0 rfl rfl ?_
        obtain ⟨mm_28, hc29, hF⟩ := g_bd hF
        refine r_callVF (pc' := 257) (ws' := [oX7 a_z a_mm a_old a_saved_ a_isSaved a_text textLength refused a_far a_marked a_stack top_4 highest_5 overflowed_6 a_command commands at_ fault_ hash, oI a_mm cI 1222 mm_28, oI a_old cI 1222 old_12, oZ a_marked cZ 200 marked_7, oI a_stack cI 20 stack_8]) (st' := []) X (mX7_rebuilds D cI cZ cH a_z a_mm a_old a_marked a_saved_ a_isSaved a_text a_far a_stack a_command textLength refused top_4 highest_5 overflowed_6 commands at_ fault_ hash mm_27 old_12 marked_7 mm_28 hc29) 0 gX7_collect_X7_rebuilds rfl (by decide +kernel) rfl rfl ⟨Nat.le_of_ble_eq_true rfl, Nat.le_of_ble_eq_true rfl⟩ ⟨Nat.le_of_ble_eq_true rfl, Nat.le_of_ble_eq_true rfl⟩ rfl (Nat.le_of_ble_eq_true rfl) dX7_collect_254 0 rfl rfl [0, 1, 2, 3] rfl rfl rfl rfl rfl rfl ?_
        refine r_aload_n (pc' := 258) X dX7_collect_257 rfl 0 rfl rfl ?_
        refine r_get (pc' := 261) X uX7_collect_X7 0 0 dX7_collect_258 rfl rfl (by decide) kX7_collect_2 rfl rfl ?_
        refine r_sipush (pc' := 264) X (1210 : Int32) dX7_collect_261 (by decide) rfl ?_
        refine r_iload (pc' := 266) X dX7_collect_264 3 rfl rfl ?_
        refine r_iastK (pc' := 267) (j := 1210) (ws' := [oX7 a_z a_mm a_old a_saved_ a_isSaved a_text textLength refused a_far a_marked a_stack top_4 highest_5 overflowed_6 a_command commands at_ fault_ hash, oI a_mm cI 1222 (upd mm_28 1210 v4_23), oI a_old cI 1222 old_12, oZ a_marked cZ 200 marked_7, oI a_stack cI 20 stack_8]) X 1 dX7_collect_266 rfl (by decide +kernel) (by decide +kernel) rfl rfl ?_
        refine r_aload_n (pc' := 268) X dX7_collect_267 rfl 0 rfl rfl ?_
        refine r_get (pc' := 271) X uX7_collect_X7 0 0 dX7_collect_268 rfl rfl (by decide) kX7_collect_2 rfl rfl ?_
        refine r_sipush (pc' := 274) X (1211 : Int32) dX7_collect_271 (by decide) rfl ?_
        refine r_iload (pc' := 276) X dX7_collect_274 4 rfl rfl ?_
        refine r_iastK (pc' := 277) (j := 1211) (ws' := [oX7 a_z a_mm a_old a_saved_ a_isSaved a_text textLength refused a_far a_marked a_stack top_4 highest_5 overflowed_6 a_command commands at_ fault_ hash, oI a_mm cI 1222 (upd (upd mm_28 1210 v4_23) 1211 v5_24), oI a_old cI 1222 old_12, oZ a_marked cZ 200 marked_7, oI a_stack cI 20 stack_8]) X 1 dX7_collect_276 rfl (by decide +kernel) (by decide +kernel) rfl rfl ?_
        refine r_aload_n (pc' := 278) X dX7_collect_277 rfl 0 rfl rfl ?_
        refine r_get (pc' := 281) X uX7_collect_X7 0 0 dX7_collect_278 rfl rfl (by decide) kX7_collect_2 rfl rfl ?_
        refine r_sipush (pc' := 284) X (1212 : Int32) dX7_collect_281 (by decide) rfl ?_
        refine r_iload_n (pc' := 285) X dX7_collect_284 rfl 2 rfl rfl ?_
        refine r_iastK (pc' := 286) (j := 1212) (ws' := [oX7 a_z a_mm a_old a_saved_ a_isSaved a_text textLength refused a_far a_marked a_stack top_4 highest_5 overflowed_6 a_command commands at_ fault_ hash, oI a_mm cI 1222 (upd (upd (upd mm_28 1210 v4_23) 1211 v5_24) 1212 r3), oI a_old cI 1222 old_12, oZ a_marked cZ 200 marked_7, oI a_stack cI 20 stack_8]) X 1 dX7_collect_285 rfl (by decide +kernel) (by decide +kernel) rfl rfl ?_
        refine r_aload_n (pc' := 287) X dX7_collect_286 rfl 0 rfl rfl ?_
        refine r_get (pc' := 290) X uX7_collect_X7 0 0 dX7_collect_287 rfl rfl (by decide) kX7_collect_2 rfl rfl ?_
        refine r_sipush (pc' := 293) X (1213 : Int32) dX7_collect_290 (by decide) rfl ?_
        refine r_aload_n (pc' := 294) X dX7_collect_293 rfl 0 rfl rfl ?_
        refine r_get (pc' := 297) X uX7_collect_X7 0 11 dX7_collect_294 rfl rfl (by decide) kX7_collect_4 rfl rfl ?_
        refine r_iastK (pc' := 298) (j := 1213) (ws' := [oX7 a_z a_mm a_old a_saved_ a_isSaved a_text textLength refused a_far a_marked a_stack top_4 highest_5 overflowed_6 a_command commands at_ fault_ hash, oI a_mm cI 1222 (upd (upd (upd (upd mm_28 1210 v4_23) 1211 v5_24) 1212 r3) 1213 highest_5), oI a_old cI 1222 old_12, oZ a_marked cZ 200 marked_7, oI a_stack cI 20 stack_8]) X 1 dX7_collect_297 rfl (by decide +kernel) (by decide +kernel) rfl rfl ?_
        refine r_aload_n (pc' := 299) X dX7_collect_298 rfl 0 rfl rfl ?_
        refine r_get (pc' := 302) X uX7_collect_X7 0 0 dX7_collect_299 rfl rfl (by decide) kX7_collect_2 rfl rfl ?_
        refine r_sipush (pc' := 305) X (1214 : Int32) dX7_collect_302 (by decide) rfl ?_
        refine r_iload (pc' := 307) X dX7_collect_305 5 rfl rfl ?_
        refine r_iastK (pc' := 308) (j := 1214) (ws' := [oX7 a_z a_mm a_old a_saved_ a_isSaved a_text textLength refused a_far a_marked a_stack top_4 highest_5 overflowed_6 a_command commands at_ fault_ hash, oI a_mm cI 1222 (upd (upd (upd (upd (upd mm_28 1210 v4_23) 1211 v5_24) 1212 r3) 1213 highest_5) 1214 v6_25), oI a_old cI 1222 old_12, oZ a_marked cZ 200 marked_7, oI a_stack cI 20 stack_8]) X 1 dX7_collect_307 rfl (by decide +kernel) (by decide +kernel) rfl rfl ?_
        refine r_aload_n (pc' := 309) X dX7_collect_308 rfl 0 rfl rfl ?_
        refine r_get (pc' := 312) X uX7_collect_X7 0 0 dX7_collect_309 rfl rfl (by decide) kX7_collect_2 rfl rfl ?_
        refine r_sipush (pc' := 315) X (1215 : Int32) dX7_collect_312 (by decide) rfl ?_
        refine r_iload (pc' := 317) X dX7_collect_315 6 rfl rfl ?_
        refine r_iastK (pc' := 318) (j := 1215) (ws' := [oX7 a_z a_mm a_old a_saved_ a_isSaved a_text textLength refused a_far a_marked a_stack top_4 highest_5 overflowed_6 a_command commands at_ fault_ hash, oI a_mm cI 1222 (upd (upd (upd (upd (upd (upd mm_28 1210 v4_23) 1211 v5_24) 1212 r3) 1213 highest_5) 1214 v6_25) 1215 v7_26), oI a_old cI 1222 old_12, oZ a_marked cZ 200 marked_7, oI a_stack cI 20 stack_8]) X 1 dX7_collect_317 rfl (by decide +kernel) (by decide +kernel) rfl rfl ?_
        refine r_aload_n (pc' := 319) X dX7_collect_318 rfl 0 rfl rfl ?_
        refine r_get (pc' := 322) X uX7_collect_X7 0 0 dX7_collect_319 rfl rfl (by decide) kX7_collect_2 rfl rfl ?_
        refine r_sipush (pc' := 325) X (1221 : Int32) dX7_collect_322 (by decide) rfl ?_
        refine r_iconst (pc' := 326) X (1 : Int32) dX7_collect_325 (by decide) rfl ?_
        refine r_iastK (pc' := 327) (j := 1221) (ws' := [oX7 a_z a_mm a_old a_saved_ a_isSaved a_text textLength refused a_far a_marked a_stack top_4 highest_5 overflowed_6 a_command commands at_ fault_ hash, oI a_mm cI 1222 (upd (upd (upd (upd (upd (upd (upd mm_28 1210 v4_23) 1211 v5_24) 1212 r3) 1213 highest_5) 1214 v6_25) 1215 v7_26) 1221 (1 : Int32)), oI a_old cI 1222 old_12, oZ a_marked cZ 200 marked_7, oI a_stack cI 20 stack_8]) X 1 dX7_collect_326 rfl (by decide +kernel) (by decide +kernel) rfl rfl ?_
        refine r_aload_n (pc' := 328) X dX7_collect_327 rfl 0 rfl rfl ?_
        refine r_get (pc' := 331) X uX7_collect_X7 0 0 dX7_collect_328 rfl rfl (by decide) kX7_collect_2 rfl rfl ?_
        refine r_sipush (pc' := 334) X (1219 : Int32) dX7_collect_331 (by decide) rfl ?_
        refine r_dup2 (pc' := 335) X dX7_collect_334 rfl rfl rfl ?_
        refine r_ialdK (pc' := 336) (j := 1219) X 1 dX7_collect_335 rfl (by decide +kernel) (by decide +kernel) rfl ?_
        refine r_iconst (pc' := 337) X (1 : Int32) dX7_collect_336 (by decide) rfl ?_
        refine r_iadd (pc' := 338) X dX7_collect_337 rfl ?_
        refine r_iastK (pc' := 339) (j := 1219) (ws' := [oX7 a_z a_mm a_old a_saved_ a_isSaved a_text textLength refused a_far a_marked a_stack top_4 highest_5 overflowed_6 a_command commands at_ fault_ hash, oI a_mm cI 1222 (upd (upd (upd (upd (upd (upd (upd (upd mm_28 1210 v4_23) 1211 v5_24) 1212 r3) 1213 highest_5) 1214 v6_25) 1215 v7_26) 1221 (1 : Int32)) 1219 (((upd (upd (upd (upd (upd (upd (upd mm_28 1210 v4_23) 1211 v5_24) 1212 r3) 1213 highest_5) 1214 v6_25) 1215 v7_26) 1221 (1 : Int32)) 1219) + (1 : Int32))), oI a_old cI 1222 old_12, oZ a_marked cZ 200 marked_7, oI a_stack cI 20 stack_8]) X 1 dX7_collect_338 rfl (by decide +kernel) (by decide +kernel) rfl rfl ?_
        refine r_aload_n (pc' := 340) X dX7_collect_339 rfl 0 rfl rfl ?_
        refine r_get (pc' := 343) X uX7_collect_X7 0 0 dX7_collect_340 rfl rfl (by decide) kX7_collect_2 rfl rfl ?_
        refine r_sipush (pc' := 346) X (1220 : Int32) dX7_collect_343 (by decide) rfl ?_
        refine r_dup2 (pc' := 347) X dX7_collect_346 rfl rfl rfl ?_
        refine r_ialdK (pc' := 348) (j := 1220) X 1 dX7_collect_347 rfl (by decide +kernel) (by decide +kernel) rfl ?_
        refine r_iload_n (pc' := 349) X dX7_collect_348 rfl 1 rfl rfl ?_
        refine r_iload (pc' := 351) X dX7_collect_349 4 rfl rfl ?_
        refine r_isub (pc' := 352) X dX7_collect_351 rfl ?_
        refine r_iadd (pc' := 353) X dX7_collect_352 rfl ?_
        refine r_iastK (pc' := 354) (j := 1220) (ws' := [oX7 a_z a_mm a_old a_saved_ a_isSaved a_text textLength refused a_far a_marked a_stack top_4 highest_5 overflowed_6 a_command commands at_ fault_ hash, oI a_mm cI 1222 (upd (upd (upd (upd (upd (upd (upd (upd (upd mm_28 1210 v4_23) 1211 v5_24) 1212 r3) 1213 highest_5) 1214 v6_25) 1215 v7_26) 1221 (1 : Int32)) 1219 (((upd (upd (upd (upd (upd (upd (upd mm_28 1210 v4_23) 1211 v5_24) 1212 r3) 1213 highest_5) 1214 v6_25) 1215 v7_26) 1221 (1 : Int32)) 1219) + (1 : Int32))) 1220 (((upd (upd (upd (upd (upd (upd (upd (upd mm_28 1210 v4_23) 1211 v5_24) 1212 r3) 1213 highest_5) 1214 v6_25) 1215 v7_26) 1221 (1 : Int32)) 1219 (((upd (upd (upd (upd (upd (upd (upd mm_28 1210 v4_23) 1211 v5_24) 1212 r3) 1213 highest_5) 1214 v6_25) 1215 v7_26) 1221 (1 : Int32)) 1219) + (1 : Int32))) 1220) + (r1 - v5_24))), oI a_old cI 1222 old_12, oZ a_marked cZ 200 marked_7, oI a_stack cI 20 stack_8]) X 1 dX7_collect_353 rfl (by decide +kernel) (by decide +kernel) rfl rfl ?_
        refine r_iload_n (pc' := 355) X dX7_collect_354 rfl 1 rfl rfl ?_
        refine r_iload (pc' := 357) X dX7_collect_355 4 rfl rfl ?_
        refine r_isub (pc' := 358) X dX7_collect_357 rfl ?_
        cases hF
        exact RT.1 0 0 _ _ _ _ .int rfl rfl dX7_collect_358 ⟨rfl, rfl⟩ (Nat.le_refl 0) (Nat.le_refl 0)
      have hL80 : ∀ (fu : Nat) (v3_16 : Int32) (v4_17 : Int32) (v5_18 : Int32) (v6_19 : Int32) (v7_20 : Int32) (v8_21 : Int32) (mm_22 : Nat → Int32), g_itn (FX7_collect_L80 marked_7 old_12) fu (v3_16, v4_17, v5_18, v6_19, v7_20, v8_21, mm_22) = some ex80 → G 0 0 [oX7 a_z a_mm a_old a_saved_ a_isSaved a_text textLength refused a_far a_marked a_stack top_4 highest_5 overflowed_6 a_command commands at_ fault_ hash, oI a_mm cI 1222 mm_22, oI a_old cI 1222 old_12, oZ a_marked cZ 200 marked_7, oI a_stack cI 20 stack_8] [(0, .ref a_z), (1, .int r1), (2, .int r3), (3, .int v3_16), (4, .int v4_17), (5, .int v5_18), (6, .int v6_19), (7, .int v7_20), (8, .int v8_21)] 80 [] := by
        intro fu
        induction fu with
        | zero => intro v3_16 v4_17 v5_18 v6_19 v7_20 v8_21 mm_22 h9; exact (g_it0 h9).elim
        | succ fu ih =>
          intro v3_16 v4_17 v5_18 v6_19 v7_20 v8_21 mm_22 h9
          obtain ⟨y80, hF, hI80⟩ := g_its h9
          unfold FX7_collect_L80 at hF
          refine r_iload (pc' := 82) X dX7_collect_80 8 rfl rfl ?_
          refine r_aload_n (pc' := 83) X dX7_collect_82 rfl 0 rfl rfl ?_
          refine r_get (pc' := 86) X uX7_collect_X7 0 0 dX7_collect_83 rfl rfl (by decide) kX7_collect_2 rfl rfl ?_
          refine r_sipush (pc' := 89) X (1216 : Int32) dX7_collect_86 (by decide) rfl ?_
          refine r_ialdK (pc' := 90) (j := 1216) X 1 dX7_collect_89 rfl (by decide +kernel) (by decide +kernel) rfl ?_
          refine r_icmp_ge (pc' := 93) X 253 dX7_collect_90 (by decide) rfl (fun c9 => ?_) (fun c9 => ?_)
          · replace hF := g_t c9 hF
            cases hF
            refine r_sub (lv' := [(0, .ref a_z), (1, .int r1), (2, .int r3), (4, .int v4_17), (5, .int v5_18), (6, .int v6_19), (7, .int v7_20)]) X [0, 1, 2, 4, 5, 6, 7] rfl ?_
            exact hE80 v4_17 v5_18 v6_19 v7_20 mm_22 hI80
          · replace hF := g_f c9 hF
            refine r_aload_n (pc' := 94) X dX7_collect_93 rfl 0 rfl rfl ?_
            refine r_get (pc' := 97) X uX7_collect_X7 0 1 dX7_collect_94 rfl rfl (by decide) kX7_collect_1 rfl rfl ?_
            refine r_iconst (pc' := 98) X (0 : Int32) dX7_collect_97 (by decide) rfl ?_
            refine r_iload (pc' := 100) X dX7_collect_98 8 rfl rfl ?_
            refine r_iadd (pc' := 101) X dX7_collect_100 rfl ?_
            obtain ⟨hi30, hF⟩ := g_gt hF
            refine r_iald (pc' := 102) X 2 dX7_collect_101 rfl (g_vi hi30) rfl ?_
            obtain ⟨exJ37, hR, hF⟩ := g_bd hF
            have hJ37 : ∀ (v3_31 : Int32) (v4_32 : Int32) (v5_33 : Int32) (v6_34 : Int32) (v7_35 : Int32) (mm_36 : Nat → Int32), (v3_31, v4_32, v5_33, v6_34, v7_35, mm_36) = exJ37 → G 0 0 [oX7 a_z a_mm a_old a_saved_ a_isSaved a_text textLength refused a_far a_marked a_stack top_4 highest_5 overflowed_6 a_command commands at_ fault_ hash, oI a_mm cI 1222 mm_36, oI a_old cI 1222 old_12, oZ a_marked cZ 200 marked_7, oI a_stack cI 20 stack_8] [(0, .ref a_z), (1, .int r1), (2, .int r3), (3, .int v3_31), (4, .int v4_32), (5, .int v5_33), (6, .int v6_34), (7, .int v7_35), (8, .int v8_21)] 247 [] := by
              intro v3_31 v4_32 v5_33 v6_34 v7_35 mm_36 hx; subst hx
              refine r_iinc (pc' := 250) (lv' := [(0, .ref a_z), (1, .int r1), (2, .int r3), (3, .int v3_31), (4, .int v4_32), (5, .int v5_33), (6, .int v6_34), (7, .int v7_35), (8, .int (v8_21 + (1 : Int32)))]) X (v8_21 + (1 : Int32)) dX7_collect_247 8 rfl (congrArg (fun z => v8_21 + z) (by decide)) (by decide) [1, 2, 3, 4, 5, 6, 7, 8, 0] rfl rfl ?_
              refine r_goto X 80 dX7_collect_250 (by decide) ?_
              cases hF
              exact ih v3_31 v4_32 v5_33 v6_34 v7_35 (v8_21 + (1 : Int32)) mm_36 hI80
            replace hF := hR
            refine r_if_le (pc' := 105) X 247 dX7_collect_102 (by decide) rfl (fun c9 => ?_) (fun c9 => ?_)
            · replace hF := g_t c9 hF
              exact hJ37 v3_16 v4_17 v5_18 v6_19 v7_20 mm_22 (Option.some.inj hF)
            · replace hF := g_f c9 hF
              refine r_aload_n (pc' := 106) X dX7_collect_105 rfl 0 rfl rfl ?_
              refine r_get (pc' := 109) X uX7_collect_X7 0 8 dX7_collect_106 rfl rfl (by decide) kX7_collect_3 rfl rfl ?_
              refine r_iload (pc' := 111) X dX7_collect_109 8 rfl rfl ?_
              obtain ⟨hi38, hF⟩ := g_gt hF
              refine r_zald (pc' := 112) X 3 dX7_collect_111 rfl (g_vi hi38) rfl ?_
              refine r_if_eq (pc' := 115) X 247 dX7_collect_112 (by decide) rfl (fun c9 => ?_) (fun c9 => ?_)
              · replace hF := g_t c9 hF
                exact hJ37 v3_16 v4_17 v5_18 v6_19 v7_20 mm_22 (Option.some.inj hF)
              · replace hF := g_f c9 hF
                refine r_aload_n (pc' := 116) X dX7_collect_115 rfl 0 rfl rfl ?_
                refine r_get (pc' := 119) X uX7_collect_X7 0 1 dX7_collect_116 rfl rfl (by decide) kX7_collect_1 rfl rfl ?_
                refine r_sipush (pc' := 122) X (400 : Int32) dX7_collect_119 (by decide) rfl ?_
                refine r_iload (pc' := 124) X dX7_collect_122 8 rfl rfl ?_
                refine r_iadd (pc' := 125) X dX7_collect_124 rfl ?_
                obtain ⟨hi39, hF⟩ := g_gt hF
                refine r_iald (pc' := 126) X 2 dX7_collect_125 rfl (g_vi hi39) rfl ?_
                refine r_iconst (pc' := 127) X (1 : Int32) dX7_collect_126 (by decide) rfl ?_
                obtain ⟨exJ41, hR, hF⟩ := g_bd hF
                have hJ41 : ∀ (t40 : Int32), t40 = exJ41 → G 0 0 [oX7 a_z a_mm a_old a_saved_ a_isSaved a_text textLength refused a_far a_marked a_stack top_4 highest_5 overflowed_6 a_command commands at_ fault_ hash, oI a_mm cI 1222 mm_22, oI a_old cI 1222 old_12, oZ a_marked cZ 200 marked_7, oI a_stack cI 20 stack_8] [(0, .ref a_z), (1, .int r1), (2, .int r3), (4, .int v4_17), (5, .int v5_18), (6, .int v6_19), (7, .int v7_20), (8, .int v8_21)] 136 [.int t40] := by
                  intro t40 hx; subst hx
                  refine r_istore (pc' := 138) (lv' := [(0, .ref a_z), (1, .int r1), (2, .int r3), (4, .int v4_17), (5, .int v5_18), (6, .int v6_19), (7, .int v7_20), (8, .int v8_21), (9, .int t40)]) X dX7_collect_136 (by decide) [1, 2, 3, 4, 5, 6, 7, 8, 0] rfl rfl ?_
                  refine r_iconst (pc' := 139) X (0 : Int32) dX7_collect_138 (by decide) rfl ?_
                  refine r_istore (pc' := 141) (lv' := [(0, .ref a_z), (1, .int r1), (2, .int r3), (4, .int v4_17), (5, .int v5_18), (6, .int v6_19), (7, .int v7_20), (8, .int v8_21), (9, .int t40), (10, .int (0 : Int32))]) X dX7_collect_139 (by decide) [1, 2, 3, 4, 5, 6, 7, 8, 9, 0] rfl rfl ?_
                  obtain ⟨ex141, hR, hF⟩ := g_bd hF
                  have hE141 : ∀ (mm_44 : Nat → Int32), mm_44 = ex141 → G 0 0 [oX7 a_z a_mm a_old a_saved_ a_isSaved a_text textLength refused a_far a_marked a_stack top_4 highest_5 overflowed_6 a_command commands at_ fault_ hash, oI a_mm cI 1222 mm_44, oI a_old cI 1222 old_12, oZ a_marked cZ 200 marked_7, oI a_stack cI 20 stack_8] [(0, .ref a_z), (1, .int r1), (2, .int r3), (4, .int v4_17), (5, .int v5_18), (6, .int v6_19), (7, .int v7_20), (8, .int v8_21), (9, .int t40)] 180 [] := by
                    intro mm_44 hx; subst hx
                    refine r_iload (pc' := 182) X dX7_collect_180 8 rfl rfl ?_
                    refine r_aload_n (pc' := 183) X dX7_collect_182 rfl 0 rfl rfl ?_
                    refine r_get (pc' := 186) X uX7_collect_X7 0 1 dX7_collect_183 rfl rfl (by decide) kX7_collect_1 rfl rfl ?_
                    refine r_iconst (pc' := 187) X (0 : Int32) dX7_collect_186 (by decide) rfl ?_
                    refine r_iload (pc' := 189) X dX7_collect_187 7 rfl rfl ?_
                    refine r_iadd (pc' := 190) X dX7_collect_189 rfl ?_
                    obtain ⟨hi45, hF⟩ := g_gt hF
                    refine r_iald (pc' := 191) X 2 dX7_collect_190 rfl (g_vi hi45) rfl ?_
                    refine r_iadd (pc' := 192) X dX7_collect_191 rfl ?_
                    refine r_istore_n (pc' := 193) (lv' := [(0, .ref a_z), (1, .int r1), (2, .int r3), (3, .int (t40 + (old_12 ((0 : Int32) + v8_21).toNatClampNeg))), (4, .int v4_17), (5, .int v5_18), (6, .int v6_19), (7, .int v7_20), (8, .int v8_21), (9, .int t40)]) X dX7_collect_192 rfl (by decide) [1, 2, 3, 0, 4, 5, 6, 7, 8, 9] rfl rfl ?_
                    refine r_iinc (pc' := 196) (lv' := [(0, .ref a_z), (1, .int r1), (2, .int r3), (3, .int (t40 + (old_12 ((0 : Int32) + v8_21).toNatClampNeg))), (4, .int (v4_17 + (1 : Int32))), (5, .int v5_18), (6, .int v6_19), (7, .int v7_20), (8, .int v8_21), (9, .int t40)]) X (v4_17 + (1 : Int32)) dX7_collect_193 4 rfl (congrArg (fun z => v4_17 + z) (by decide)) (by decide) [1, 2, 3, 4, 0, 5, 6, 7, 8, 9] rfl rfl ?_
                    refine r_iload (pc' := 198) X dX7_collect_196 5 rfl rfl ?_
                    refine r_aload_n (pc' := 199) X dX7_collect_198 rfl 0 rfl rfl ?_
                    refine r_get (pc' := 202) X uX7_collect_X7 0 1 dX7_collect_199 rfl rfl (by decide) kX7_collect_1 rfl rfl ?_
                    refine r_iconst (pc' := 203) X (0 : Int32) dX7_collect_202 (by decide) rfl ?_
                    refine r_iload (pc' := 205) X dX7_collect_203 8 rfl rfl ?_
                    refine r_iadd (pc' := 206) X dX7_collect_205 rfl ?_
                    obtain ⟨hi46, hF⟩ := g_gt hF
                    refine r_iald (pc' := 207) X 2 dX7_collect_206 rfl (g_vi hi46) rfl ?_
                    refine r_iadd (pc' := 208) X dX7_collect_207 rfl ?_
                    refine r_istore (pc' := 210) (lv' := [(0, .ref a_z), (1, .int r1), (2, .int r3), (3, .int (t40 + (old_12 ((0 : Int32) + v8_21).toNatClampNeg))), (4, .int (v4_17 + (1 : Int32))), (5, .int (v5_18 + (old_12 ((0 : Int32) + v8_21).toNatClampNeg))), (6, .int v6_19), (7, .int v7_20), (8, .int v8_21), (9, .int t40)]) X dX7_collect_208 (by decide) [1, 2, 3, 4, 5, 0, 6, 7, 8, 9] rfl rfl ?_
                    refine r_iload (pc' := 212) X dX7_collect_210 6 rfl rfl ?_
                    refine r_iload (pc' := 214) X dX7_collect_212 9 rfl rfl ?_
                    refine r_iload (pc' := 216) X dX7_collect_214 8 rfl rfl ?_
                    obtain ⟨exJ48, hR, hF⟩ := g_bd hF
                    have hJ48 : ∀ (t47 : Int32), t47 = exJ48 → G 0 0 [oX7 a_z a_mm a_old a_saved_ a_isSaved a_text textLength refused a_far a_marked a_stack top_4 highest_5 overflowed_6 a_command commands at_ fault_ hash, oI a_mm cI 1222 mm_44, oI a_old cI 1222 old_12, oZ a_marked cZ 200 marked_7, oI a_stack cI 20 stack_8] [(0, .ref a_z), (1, .int r1), (2, .int r3), (3, .int (t40 + (old_12 ((0 : Int32) + v8_21).toNatClampNeg))), (4, .int (v4_17 + (1 : Int32))), (5, .int (v5_18 + (old_12 ((0 : Int32) + v8_21).toNatClampNeg))), (7, .int v7_20), (8, .int v8_21), (9, .int t40)] 224 [.int t47, .int v6_19] := by
                      intro t47 hx; subst hx
                      refine r_iadd (pc' := 225) X dX7_collect_224 rfl ?_
                      refine r_istore (pc' := 227) (lv' := [(0, .ref a_z), (1, .int r1), (2, .int r3), (3, .int (t40 + (old_12 ((0 : Int32) + v8_21).toNatClampNeg))), (4, .int (v4_17 + (1 : Int32))), (5, .int (v5_18 + (old_12 ((0 : Int32) + v8_21).toNatClampNeg))), (6, .int (v6_19 + t47)), (7, .int v7_20), (8, .int v8_21), (9, .int t40)]) X dX7_collect_225 (by decide) [1, 2, 3, 4, 5, 6, 0, 7, 8, 9] rfl rfl ?_
                      refine r_iload (pc' := 229) X dX7_collect_227 7 rfl rfl ?_
                      refine r_iload (pc' := 231) X dX7_collect_229 8 rfl rfl ?_
                      refine r_iload (pc' := 233) X dX7_collect_231 9 rfl rfl ?_
                      refine r_isub (pc' := 234) X dX7_collect_233 rfl ?_
                      refine r_aload_n (pc' := 235) X dX7_collect_234 rfl 0 rfl rfl ?_
                      refine r_get (pc' := 238) X uX7_collect_X7 0 1 dX7_collect_235 rfl rfl (by decide) kX7_collect_1 rfl rfl ?_
                      refine r_iconst (pc' := 239) X (0 : Int32) dX7_collect_238 (by decide) rfl ?_
                      refine r_iload (pc' := 241) X dX7_collect_239 8 rfl rfl ?_
                      refine r_iadd (pc' := 242) X dX7_collect_241 rfl ?_
                      obtain ⟨hi49, hF⟩ := g_gt hF
                      refine r_iald (pc' := 243) X 2 dX7_collect_242 rfl (g_vi hi49) rfl ?_
                      refine r_imul (pc' := 244) X dX7_collect_243 rfl ?_
                      refine r_iadd (pc' := 245) X dX7_collect_244 rfl ?_
                      refine r_istore (pc' := 247) (lv' := [(0, .ref a_z), (1, .int r1), (2, .int r3), (3, .int (t40 + (old_12 ((0 : Int32) + v8_21).toNatClampNeg))), (4, .int (v4_17 + (1 : Int32))), (5, .int (v5_18 + (old_12 ((0 : Int32) + v8_21).toNatClampNeg))), (6, .int (v6_19 + t47)), (7, .int (v7_20 + ((v8_21 - t40) * (old_12 ((0 : Int32) + v8_21).toNatClampNeg)))), (8, .int v8_21), (9, .int t40)]) X dX7_collect_245 (by decide) [1, 2, 3, 4, 5, 6, 7, 0, 8, 9] rfl rfl ?_
                      refine r_sub (lv' := [(0, .ref a_z), (1, .int r1), (2, .int r3), (3, .int (t40 + (old_12 ((0 : Int32) + v8_21).toNatClampNeg))), (4, .int (v4_17 + (1 : Int32))), (5, .int (v5_18 + (old_12 ((0 : Int32) + v8_21).toNatClampNeg))), (6, .int (v6_19 + t47)), (7, .int (v7_20 + ((v8_21 - t40) * (old_12 ((0 : Int32) + v8_21).toNatClampNeg)))), (8, .int v8_21)]) X [0, 1, 2, 3, 4, 5, 6, 7, 8] rfl ?_
                      exact hJ37 (t40 + (old_12 ((0 : Int32) + v8_21).toNatClampNeg)) (v4_17 + (1 : Int32)) (v5_18 + (old_12 ((0 : Int32) + v8_21).toNatClampNeg)) (v6_19 + t47) (v7_20 + ((v8_21 - t40) * (old_12 ((0 : Int32) + v8_21).toNatClampNeg))) mm_44 (Option.some.inj hF)
                    replace hF := hR
                    refine r_icmp_ne (pc' := 219) X 223 dX7_collect_216 (by decide) rfl (fun c9 => ?_) (fun c9 => ?_)
                    · replace hF := g_f c9 hF
                      refine r_iconst (pc' := 224) X (1 : Int32) dX7_collect_223 (by decide) rfl ?_
                      refine r_sub (lv' := [(0, .ref a_z), (1, .int r1), (2, .int r3), (3, .int (t40 + (old_12 ((0 : Int32) + v8_21).toNatClampNeg))), (4, .int (v4_17 + (1 : Int32))), (5, .int (v5_18 + (old_12 ((0 : Int32) + v8_21).toNatClampNeg))), (7, .int v7_20), (8, .int v8_21), (9, .int t40)]) X [0, 1, 2, 3, 4, 5, 7, 8, 9] rfl ?_
                      exact hJ48 (1 : Int32) (Option.some.inj hF)
                    · replace hF := g_t c9 hF
                      refine r_iconst (pc' := 220) X (0 : Int32) dX7_collect_219 (by decide) rfl ?_
                      refine r_goto X 224 dX7_collect_220 (by decide) ?_
                      refine r_sub (lv' := [(0, .ref a_z), (1, .int r1), (2, .int r3), (3, .int (t40 + (old_12 ((0 : Int32) + v8_21).toNatClampNeg))), (4, .int (v4_17 + (1 : Int32))), (5, .int (v5_18 + (old_12 ((0 : Int32) + v8_21).toNatClampNeg))), (7, .int v7_20), (8, .int v8_21), (9, .int t40)]) X [0, 1, 2, 3, 4, 5, 7, 8, 9] rfl ?_
                      exact hJ48 (0 : Int32) (Option.some.inj hF)
                  have hL141 : ∀ (fu : Nat) (v10_42 : Int32) (mm_43 : Nat → Int32), g_itn (FX7_collect_L141 old_12 v8_21 t40) fu (v10_42, mm_43) = some ex141 → G 0 0 [oX7 a_z a_mm a_old a_saved_ a_isSaved a_text textLength refused a_far a_marked a_stack top_4 highest_5 overflowed_6 a_command commands at_ fault_ hash, oI a_mm cI 1222 mm_43, oI a_old cI 1222 old_12, oZ a_marked cZ 200 marked_7, oI a_stack cI 20 stack_8] [(0, .ref a_z), (1, .int r1), (2, .int r3), (4, .int v4_17), (5, .int v5_18), (6, .int v6_19), (7, .int v7_20), (8, .int v8_21), (9, .int t40), (10, .int v10_42)] 141 [] := by
                    intro fu
                    induction fu with
                    | zero => intro v10_42 mm_43 h9; exact (g_it0 h9).elim
                    | succ fu ih =>
                      intro v10_42 mm_43 h9
                      obtain ⟨y141, hF, hI141⟩ := g_its h9
                      unfold FX7_collect_L141 at hF
                      refine r_iload (pc' := 143) X dX7_collect_141 9 rfl rfl ?_
                      refine r_aload_n (pc' := 144) X dX7_collect_143 rfl 0 rfl rfl ?_
                      refine r_get (pc' := 147) X uX7_collect_X7 0 1 dX7_collect_144 rfl rfl (by decide) kX7_collect_1 rfl rfl ?_
                      refine r_iconst (pc' := 148) X (0 : Int32) dX7_collect_147 (by decide) rfl ?_
                      refine r_iload (pc' := 150) X dX7_collect_148 7 rfl rfl ?_
                      refine r_iadd (pc' := 151) X dX7_collect_150 rfl ?_
                      obtain ⟨hi50, hF⟩ := g_gt hF
                      refine r_iald (pc' := 152) X 2 dX7_collect_151 rfl (g_vi hi50) rfl ?_
                      refine r_icmp_ge (pc' := 155) X 180 dX7_collect_152 (by decide) rfl (fun c9 => ?_) (fun c9 => ?_)
                      · replace hF := g_t c9 hF
                        cases hF
                        refine r_sub (lv' := [(0, .ref a_z), (1, .int r1), (2, .int r3), (4, .int v4_17), (5, .int v5_18), (6, .int v6_19), (7, .int v7_20), (8, .int v8_21), (9, .int t40)]) X [0, 1, 2, 3, 4, 5, 6, 7, 8] rfl ?_
                        exact hE141 mm_43 hI141
                      · replace hF := g_f c9 hF
                        refine r_aload_n (pc' := 156) X dX7_collect_155 rfl 0 rfl rfl ?_
                        refine r_get (pc' := 159) X uX7_collect_X7 0 0 dX7_collect_156 rfl rfl (by decide) kX7_collect_2 rfl rfl ?_
                        refine r_sipush (pc' := 162) X (1000 : Int32) dX7_collect_159 (by decide) rfl ?_
                        refine r_iload (pc' := 164) X dX7_collect_162 7 rfl rfl ?_
                        refine r_iadd (pc' := 165) X dX7_collect_164 rfl ?_
                        refine r_iload (pc' := 167) X dX7_collect_165 9 rfl rfl ?_
                        refine r_iadd (pc' := 168) X dX7_collect_167 rfl ?_
                        refine r_iload (pc' := 170) X dX7_collect_168 8 rfl rfl ?_
                        refine r_iload (pc' := 172) X dX7_collect_170 9 rfl rfl ?_
                        refine r_iadd (pc' := 173) X dX7_collect_172 rfl ?_
                        obtain ⟨hi51, hF⟩ := g_gt hF
                        refine r_iast (pc' := 174) (ws' := [oX7 a_z a_mm a_old a_saved_ a_isSaved a_text textLength refused a_far a_marked a_stack top_4 highest_5 overflowed_6 a_command commands at_ fault_ hash, oI a_mm cI 1222 (upd mm_43 (((1000 : Int32) + v8_21) + v10_42).toNatClampNeg (t40 + v10_42)), oI a_old cI 1222 old_12, oZ a_marked cZ 200 marked_7, oI a_stack cI 20 stack_8]) X 1 dX7_collect_173 rfl (g_vi hi51) rfl rfl ?_
                        refine r_iinc (pc' := 177) (lv' := [(0, .ref a_z), (1, .int r1), (2, .int r3), (4, .int v4_17), (5, .int v5_18), (6, .int v6_19), (7, .int v7_20), (8, .int v8_21), (9, .int t40), (10, .int (v10_42 + (1 : Int32)))]) X (v10_42 + (1 : Int32)) dX7_collect_174 9 rfl (congrArg (fun z => v10_42 + z) (by decide)) (by decide) [1, 2, 3, 4, 5, 6, 7, 8, 9, 0] rfl rfl ?_
                        refine r_goto X 141 dX7_collect_177 (by decide) ?_
                        cases hF
                        exact ih (v10_42 + (1 : Int32)) (upd mm_43 (((1000 : Int32) + v8_21) + v10_42).toNatClampNeg (t40 + v10_42)) hI141
                  exact hL141 g_fuel (0 : Int32) mm_22 hR
                replace hF := hR
                refine r_icmp_ne (pc' := 130) X 135 dX7_collect_127 (by decide) rfl (fun c9 => ?_) (fun c9 => ?_)
                · replace hF := g_f c9 hF
                  refine r_iload_n (pc' := 136) X dX7_collect_135 rfl 3 rfl rfl ?_
                  refine r_sub (lv' := [(0, .ref a_z), (1, .int r1), (2, .int r3), (4, .int v4_17), (5, .int v5_18), (6, .int v6_19), (7, .int v7_20), (8, .int v8_21)]) X [0, 1, 2, 4, 5, 6, 7, 8] rfl ?_
                  exact hJ41 v3_16 (Option.some.inj hF)
                · replace hF := g_t c9 hF
                  refine r_iload (pc' := 132) X dX7_collect_130 8 rfl rfl ?_
                  refine r_goto X 136 dX7_collect_132 (by decide) ?_
                  refine r_sub (lv' := [(0, .ref a_z), (1, .int r1), (2, .int r3), (4, .int v4_17), (5, .int v5_18), (6, .int v6_19), (7, .int v7_20), (8, .int v8_21)]) X [0, 1, 2, 4, 5, 6, 7, 8] rfl ?_
                  exact hJ41 v8_21 (Option.some.inj hF)
      exact hL80 g_fuel (0 : Int32) (0 : Int32) (0 : Int32) (0 : Int32) (0 : Int32) (0 : Int32) mm_15 hR
    have hL39 : ∀ (fu : Nat) (v3_13 : Int32) (mm_14 : Nat → Int32), g_itn (FX7_collect_L39) fu (v3_13, mm_14) = some ex39 → G 0 0 [oX7 a_z a_mm a_old a_saved_ a_isSaved a_text textLength refused a_far a_marked a_stack top_4 highest_5 overflowed_6 a_command commands at_ fault_ hash, oI a_mm cI 1222 mm_14, oI a_old cI 1222 old_12, oZ a_marked cZ 200 marked_7, oI a_stack cI 20 stack_8] [(0, .ref a_z), (1, .int r1), (2, .int r3), (3, .int v3_13)] 39 [] := by
      intro fu
      induction fu with
      | zero => intro v3_13 mm_14 h9; exact (g_it0 h9).elim
      | succ fu ih =>
        intro v3_13 mm_14 h9
        obtain ⟨y39, hF, hI39⟩ := g_its h9
        unfold FX7_collect_L39 at hF
        refine r_iload_n (pc' := 40) X dX7_collect_39 rfl 3 rfl rfl ?_
        refine r_sipush (pc' := 43) X (200 : Int32) dX7_collect_40 (by decide) rfl ?_
        refine r_icmp_ge (pc' := 46) X 63 dX7_collect_43 (by decide) rfl (fun c9 => ?_) (fun c9 => ?_)
        · replace hF := g_t c9 hF
          cases hF
          refine r_sub (lv' := [(0, .ref a_z), (1, .int r1), (2, .int r3)]) X [0, 1, 2] rfl ?_
          exact hE39 mm_14 hI39
        · replace hF := g_f c9 hF
          refine r_aload_n (pc' := 47) X dX7_collect_46 rfl 0 rfl rfl ?_
          refine r_get (pc' := 50) X uX7_collect_X7 0 0 dX7_collect_47 rfl rfl (by decide) kX7_collect_2 rfl rfl ?_
          refine r_sipush (pc' := 53) X (1000 : Int32) dX7_collect_50 (by decide) rfl ?_
          refine r_iload_n (pc' := 54) X dX7_collect_53 rfl 3 rfl rfl ?_
          refine r_iadd (pc' := 55) X dX7_collect_54 rfl ?_
          refine r_iconst (pc' := 56) X (-1 : Int32) dX7_collect_55 (by decide) rfl ?_
          obtain ⟨hi52, hF⟩ := g_gt hF
          refine r_iast (pc' := 57) (ws' := [oX7 a_z a_mm a_old a_saved_ a_isSaved a_text textLength refused a_far a_marked a_stack top_4 highest_5 overflowed_6 a_command commands at_ fault_ hash, oI a_mm cI 1222 (upd mm_14 ((1000 : Int32) + v3_13).toNatClampNeg (-1 : Int32)), oI a_old cI 1222 old_12, oZ a_marked cZ 200 marked_7, oI a_stack cI 20 stack_8]) X 1 dX7_collect_56 rfl (g_vi hi52) rfl rfl ?_
          refine r_iinc (pc' := 60) (lv' := [(0, .ref a_z), (1, .int r1), (2, .int r3), (3, .int (v3_13 + (1 : Int32)))]) X (v3_13 + (1 : Int32)) dX7_collect_57 3 rfl (congrArg (fun z => v3_13 + z) (by decide)) (by decide) [1, 2, 3, 0] rfl rfl ?_
          refine r_goto X 39 dX7_collect_60 (by decide) ?_
          cases hF
          exact ih (v3_13 + (1 : Int32)) (upd mm_14 ((1000 : Int32) + v3_13).toNatClampNeg (-1 : Int32)) hI39
    exact hL39 g_fuel (0 : Int32) mm hR
  have hL12 : ∀ (fu : Nat) (v3_10 : Int32) (old_11 : Nat → Int32), g_itn (FX7_collect_L12 mm) fu (v3_10, old_11) = some ex12 → G 0 0 [oX7 a_z a_mm a_old a_saved_ a_isSaved a_text textLength refused a_far a_marked a_stack top_4 highest_5 overflowed_6 a_command commands at_ fault_ hash, oI a_mm cI 1222 mm, oI a_old cI 1222 old_11, oZ a_marked cZ 200 marked_7, oI a_stack cI 20 stack_8] [(0, .ref a_z), (1, .int r1), (2, .int r3), (3, .int v3_10)] 12 [] := by
    intro fu
    induction fu with
    | zero => intro v3_10 old_11 h9; exact (g_it0 h9).elim
    | succ fu ih =>
      intro v3_10 old_11 h9
      obtain ⟨y12, hF, hI12⟩ := g_its h9
      unfold FX7_collect_L12 at hF
      refine r_iload_n (pc' := 13) X dX7_collect_12 rfl 3 rfl rfl ?_
      refine r_sipush (pc' := 16) X (1222 : Int32) dX7_collect_13 (by decide) rfl ?_
      refine r_icmp_ge (pc' := 19) X 37 dX7_collect_16 (by decide) rfl (fun c9 => ?_) (fun c9 => ?_)
      · replace hF := g_t c9 hF
        cases hF
        refine r_sub (lv' := [(0, .ref a_z), (1, .int r1), (2, .int r3)]) X [0, 1, 2] rfl ?_
        exact hE12 old_11 hI12
      · replace hF := g_f c9 hF
        refine r_aload_n (pc' := 20) X dX7_collect_19 rfl 0 rfl rfl ?_
        refine r_get (pc' := 23) X uX7_collect_X7 0 1 dX7_collect_20 rfl rfl (by decide) kX7_collect_1 rfl rfl ?_
        refine r_iload_n (pc' := 24) X dX7_collect_23 rfl 3 rfl rfl ?_
        refine r_aload_n (pc' := 25) X dX7_collect_24 rfl 0 rfl rfl ?_
        refine r_get (pc' := 28) X uX7_collect_X7 0 0 dX7_collect_25 rfl rfl (by decide) kX7_collect_2 rfl rfl ?_
        refine r_iload_n (pc' := 29) X dX7_collect_28 rfl 3 rfl rfl ?_
        obtain ⟨hi53, hF⟩ := g_gt hF
        refine r_iald (pc' := 30) X 1 dX7_collect_29 rfl (g_vi hi53) rfl ?_
        obtain ⟨hi54, hF⟩ := g_gt hF
        refine r_iast (pc' := 31) (ws' := [oX7 a_z a_mm a_old a_saved_ a_isSaved a_text textLength refused a_far a_marked a_stack top_4 highest_5 overflowed_6 a_command commands at_ fault_ hash, oI a_mm cI 1222 mm, oI a_old cI 1222 (upd old_11 v3_10.toNatClampNeg (mm v3_10.toNatClampNeg)), oZ a_marked cZ 200 marked_7, oI a_stack cI 20 stack_8]) X 2 dX7_collect_30 rfl (g_vi hi54) rfl rfl ?_
        refine r_iinc (pc' := 34) (lv' := [(0, .ref a_z), (1, .int r1), (2, .int r3), (3, .int (v3_10 + (1 : Int32)))]) X (v3_10 + (1 : Int32)) dX7_collect_31 3 rfl (congrArg (fun z => v3_10 + z) (by decide)) (by decide) [1, 2, 3, 0] rfl rfl ?_
        refine r_goto X 12 dX7_collect_34 (by decide) ?_
        cases hF
        exact ih (v3_10 + (1 : Int32)) (upd old_11 v3_10.toNatClampNeg (mm v3_10.toNatClampNeg)) hI12
  exact hL12 g_fuel (0 : Int32) old hR
theorem kX7_moved_1 : Cond.fieldLink RX7 7 "IslandHeapModel" "m" "[I" ∈ wsX7_moved := List.mem_of_getElem? (i := 1) (by decide +kernel)
theorem kX7_moved_3 : Cond.constant RX7 82 (-1000003) ∈ wsX7_moved := List.mem_of_getElem? (i := 3) (by decide +kernel)
theorem kX7_moved_2 : Cond.constant RX7 50 (-1000002) ∈ wsX7_moved := List.mem_of_getElem? (i := 2) (by decide +kernel)
theorem uX7_moved_X7 : ∀ w ∈ u_ws RX7 TX7 18, w ∈ wsX7_moved := by decide +kernel
set_option maxHeartbeats 4000000 in
set_option maxRecDepth 100000 in
theorem mX7_moved (D : va_G) (cI cZ cH : ClassId) (a_z : Nat) (a_mm : Nat) (a_old : Nat) (a_saved_ : Nat) (a_isSaved : Nat) (a_text : Nat) (a_far : Nat) (a_marked : Nat) (a_stack : Nat) (a_command : Nat) (textLength : Int32) (refused : Int32) (top : Int32) (highest : Int32) (overflowed : Int32) (commands : Int32) (at_ : Int32) (fault_ : Int32) (hash : Int64) (mm : Nat → Int32) (p1 : Int32) (r0 : Int32) (hF : FX7_moved mm p1 = some r0) : g_CM yX7_moved wsX7_moved ({ frames := 1, cells := 0, slots := 0, locals := 22 }) D cI cZ cH [.ref a_z, .int p1] [oX7 a_z a_mm a_old a_saved_ a_isSaved a_text textLength refused a_far a_marked a_stack top highest overflowed a_command commands at_ fault_ hash, oI a_mm cI 1222 mm] 0 0 (g_Tm (some (.int r0)) [oX7 a_z a_mm a_old a_saved_ a_isSaved a_text textLength refused a_far a_marked a_stack top highest overflowed a_command commands at_ fault_ hash, oI a_mm cI 1222 mm]) := by
  refine g_met (own := RX7) (mn := "moved") (cc := cX7_moved) (maxL := 2) (ret := (some .int)) rfl rfl (by decide +kernel) rfl (Nat.le_of_ble_eq_true rfl) (fun G X RT => ?_)
  show G 0 0 [oX7 a_z a_mm a_old a_saved_ a_isSaved a_text textLength refused a_far a_marked a_stack top highest overflowed a_command commands at_ fault_ hash, oI a_mm cI 1222 mm] [(0, .ref a_z), (1, .int p1)] 0 []
  unfold FX7_moved at hF
  refine r_iload_n (pc' := 1) X dX7_moved_0 rfl 1 rfl rfl ?_
  refine r_iconst (pc' := 2) X (0 : Int32) dX7_moved_1 (by decide) rfl ?_
  refine r_aload_n (pc' := 3) X dX7_moved_2 rfl 0 rfl rfl ?_
  refine r_get (pc' := 6) X uX7_moved_X7 0 0 dX7_moved_3 rfl rfl (by decide) kX7_moved_1 rfl rfl ?_
  refine r_sipush (pc' := 9) X (1216 : Int32) dX7_moved_6 (by decide) rfl ?_
  refine r_ialdK (pc' := 10) (j := 1216) X 1 dX7_moved_9 rfl (by decide +kernel) (by decide +kernel) rfl ?_
  refine r_iconst (pc' := 11) X (1 : Int32) dX7_moved_10 (by decide) rfl ?_
  refine r_isub (pc' := 12) X dX7_moved_11 rfl ?_
  obtain ⟨r1, hc2, hF⟩ := g_bd hF
  refine r_callSF (pc' := 15) (ws' := [oX7 a_z a_mm a_old a_saved_ a_isSaved a_text textLength refused a_far a_marked a_stack top highest overflowed a_command commands at_ fault_ hash, oI a_mm cI 1222 mm]) (st' := [.int r1]) X (mX7_in D cI cZ cH p1 (0 : Int32) ((mm 1216) - (1 : Int32)) r1 hc2) 3 gX7_moved_X7_in rfl (by decide +kernel) rfl rfl ⟨Nat.le_of_ble_eq_true rfl, Nat.le_of_ble_eq_true rfl⟩ ⟨Nat.le_of_ble_eq_true rfl, Nat.le_of_ble_eq_true rfl⟩ rfl (Nat.le_of_ble_eq_true rfl) dX7_moved_12 [] rfl rfl rfl rfl rfl rfl ?_
  refine r_if_ne (pc' := 18) X 21 dX7_moved_15 (by decide) rfl (fun c9 => ?_) (fun c9 => ?_)
  · replace hF := g_f c9 hF
    refine r_aload_n (pc' := 22) X dX7_moved_21 rfl 0 rfl rfl ?_
    refine r_get (pc' := 25) X uX7_moved_X7 0 0 dX7_moved_22 rfl rfl (by decide) kX7_moved_1 rfl rfl ?_
    refine r_sipush (pc' := 28) X (1221 : Int32) dX7_moved_25 (by decide) rfl ?_
    refine r_ialdK (pc' := 29) (j := 1221) X 1 dX7_moved_28 rfl (by decide +kernel) (by decide +kernel) rfl ?_
    refine r_iconst (pc' := 30) X (1 : Int32) dX7_moved_29 (by decide) rfl ?_
    refine r_icmp_ne (pc' := 33) X 46 dX7_moved_30 (by decide) rfl (fun c9 => ?_) (fun c9 => ?_)
    · replace hF := g_f c9 hF
      refine r_ldc (pc' := 48) X dX7_moved_46 kX7_moved_3 rfl ?_
      cases hF
      exact RT.1 0 0 _ _ _ _ .int rfl rfl dX7_moved_48 ⟨rfl, rfl⟩ (Nat.le_refl 0) (Nat.le_refl 0)
    · replace hF := g_t c9 hF
      refine r_aload_n (pc' := 34) X dX7_moved_33 rfl 0 rfl rfl ?_
      refine r_get (pc' := 37) X uX7_moved_X7 0 0 dX7_moved_34 rfl rfl (by decide) kX7_moved_1 rfl rfl ?_
      refine r_sipush (pc' := 40) X (1000 : Int32) dX7_moved_37 (by decide) rfl ?_
      refine r_iload_n (pc' := 41) X dX7_moved_40 rfl 1 rfl rfl ?_
      refine r_iadd (pc' := 42) X dX7_moved_41 rfl ?_
      obtain ⟨hi3, hF⟩ := g_gt hF
      refine r_iald (pc' := 43) X 1 dX7_moved_42 rfl (g_vi hi3) rfl ?_
      refine r_goto X 48 dX7_moved_43 (by decide) ?_
      cases hF
      exact RT.1 0 0 _ _ _ _ .int rfl rfl dX7_moved_48 ⟨rfl, rfl⟩ (Nat.le_refl 0) (Nat.le_refl 0)
  · replace hF := g_t c9 hF
    refine r_ldc (pc' := 20) X dX7_moved_18 kX7_moved_2 rfl ?_
    cases hF
    exact RT.1 0 0 _ _ _ _ .int rfl rfl dX7_moved_20 ⟨rfl, rfl⟩ (Nat.le_refl 0) (Nat.le_refl 0)
theorem kX7_report_2 : Cond.fieldLink RX7 7 "IslandHeapModel" "m" "[I" ∈ wsX7_report := List.mem_of_getElem? (i := 2) (by decide +kernel)
theorem kX7_report_3 : Cond.constant RX7 82 (-1000003) ∈ wsX7_report := List.mem_of_getElem? (i := 3) (by decide +kernel)
theorem kX7_report_1 : Cond.constant RX7 50 (-1000002) ∈ wsX7_report := List.mem_of_getElem? (i := 1) (by decide +kernel)
theorem uX7_report_X7 : ∀ w ∈ u_ws RX7 TX7 18, w ∈ wsX7_report := by decide +kernel
set_option maxHeartbeats 4000000 in
set_option maxRecDepth 100000 in
theorem mX7_report (D : va_G) (cI cZ cH : ClassId) (a_z : Nat) (a_mm : Nat) (a_old : Nat) (a_saved_ : Nat) (a_isSaved : Nat) (a_text : Nat) (a_far : Nat) (a_marked : Nat) (a_stack : Nat) (a_command : Nat) (textLength : Int32) (refused : Int32) (top : Int32) (highest : Int32) (overflowed : Int32) (commands : Int32) (at_ : Int32) (fault_ : Int32) (hash : Int64) (mm : Nat → Int32) (p1 : Int32) (r0 : Int32) (hF : FX7_report mm p1 = some r0) : g_CM yX7_report wsX7_report ({ frames := 1, cells := 0, slots := 0, locals := 22 }) D cI cZ cH [.ref a_z, .int p1] [oX7 a_z a_mm a_old a_saved_ a_isSaved a_text textLength refused a_far a_marked a_stack top highest overflowed a_command commands at_ fault_ hash, oI a_mm cI 1222 mm] 0 0 (g_Tm (some (.int r0)) [oX7 a_z a_mm a_old a_saved_ a_isSaved a_text textLength refused a_far a_marked a_stack top highest overflowed a_command commands at_ fault_ hash, oI a_mm cI 1222 mm]) := by
  refine g_met (own := RX7) (mn := "report") (cc := cX7_report) (maxL := 2) (ret := (some .int)) rfl rfl (by decide +kernel) rfl (Nat.le_of_ble_eq_true rfl) (fun G X RT => ?_)
  show G 0 0 [oX7 a_z a_mm a_old a_saved_ a_isSaved a_text textLength refused a_far a_marked a_stack top highest overflowed a_command commands at_ fault_ hash, oI a_mm cI 1222 mm] [(0, .ref a_z), (1, .int p1)] 0 []
  unfold FX7_report at hF
  refine r_iload_n (pc' := 1) X dX7_report_0 rfl 1 rfl rfl ?_
  refine r_iconst (pc' := 2) X (0 : Int32) dX7_report_1 (by decide) rfl ?_
  refine r_iconst (pc' := 3) X (5 : Int32) dX7_report_2 (by decide) rfl ?_
  obtain ⟨r1, hc2, hF⟩ := g_bd hF
  refine r_callSF (pc' := 6) (ws' := [oX7 a_z a_mm a_old a_saved_ a_isSaved a_text textLength refused a_far a_marked a_stack top highest overflowed a_command commands at_ fault_ hash, oI a_mm cI 1222 mm]) (st' := [.int r1]) X (mX7_in D cI cZ cH p1 (0 : Int32) (5 : Int32) r1 hc2) 3 gX7_report_X7_in rfl (by decide +kernel) rfl rfl ⟨Nat.le_of_ble_eq_true rfl, Nat.le_of_ble_eq_true rfl⟩ ⟨Nat.le_of_ble_eq_true rfl, Nat.le_of_ble_eq_true rfl⟩ rfl (Nat.le_of_ble_eq_true rfl) dX7_report_3 [] rfl rfl rfl rfl rfl rfl ?_
  refine r_if_ne (pc' := 9) X 12 dX7_report_6 (by decide) rfl (fun c9 => ?_) (fun c9 => ?_)
  · replace hF := g_f c9 hF
    refine r_aload_n (pc' := 13) X dX7_report_12 rfl 0 rfl rfl ?_
    refine r_get (pc' := 16) X uX7_report_X7 0 0 dX7_report_13 rfl rfl (by decide) kX7_report_2 rfl rfl ?_
    refine r_sipush (pc' := 19) X (1221 : Int32) dX7_report_16 (by decide) rfl ?_
    refine r_ialdK (pc' := 20) (j := 1221) X 1 dX7_report_19 rfl (by decide +kernel) (by decide +kernel) rfl ?_
    refine r_iconst (pc' := 21) X (1 : Int32) dX7_report_20 (by decide) rfl ?_
    refine r_icmp_ne (pc' := 24) X 37 dX7_report_21 (by decide) rfl (fun c9 => ?_) (fun c9 => ?_)
    · replace hF := g_f c9 hF
      refine r_ldc (pc' := 39) X dX7_report_37 kX7_report_3 rfl ?_
      cases hF
      exact RT.1 0 0 _ _ _ _ .int rfl rfl dX7_report_39 ⟨rfl, rfl⟩ (Nat.le_refl 0) (Nat.le_refl 0)
    · replace hF := g_t c9 hF
      refine r_aload_n (pc' := 25) X dX7_report_24 rfl 0 rfl rfl ?_
      refine r_get (pc' := 28) X uX7_report_X7 0 0 dX7_report_25 rfl rfl (by decide) kX7_report_2 rfl rfl ?_
      refine r_sipush (pc' := 31) X (1210 : Int32) dX7_report_28 (by decide) rfl ?_
      refine r_iload_n (pc' := 32) X dX7_report_31 rfl 1 rfl rfl ?_
      refine r_iadd (pc' := 33) X dX7_report_32 rfl ?_
      obtain ⟨hi3, hF⟩ := g_gt hF
      refine r_iald (pc' := 34) X 1 dX7_report_33 rfl (g_vi hi3) rfl ?_
      refine r_goto X 39 dX7_report_34 (by decide) ?_
      cases hF
      exact RT.1 0 0 _ _ _ _ .int rfl rfl dX7_report_39 ⟨rfl, rfl⟩ (Nat.le_refl 0) (Nat.le_refl 0)
  · replace hF := g_t c9 hF
    refine r_ldc (pc' := 11) X dX7_report_9 kX7_report_1 rfl ?_
    cases hF
    exact RT.1 0 0 _ _ _ _ .int rfl rfl dX7_report_11 ⟨rfl, rfl⟩ (Nat.le_refl 0) (Nat.le_refl 0)
set_option maxHeartbeats 4000000 in
set_option maxRecDepth 100000 in
theorem mX7_garbage (D : va_G) (cI cZ cH : ClassId) (a_z : Nat) (a_mm : Nat) (a_far : Nat) (a_old : Nat) (a_saved_ : Nat) (a_isSaved : Nat) (a_text : Nat) (a_marked : Nat) (a_stack : Nat) (a_command : Nat) (textLength : Int32) (refused : Int32) (top : Int32) (highest : Int32) (overflowed : Int32) (commands : Int32) (at_ : Int32) (fault_ : Int32) (hash : Int64) (mm : Nat → Int32) (far : Nat → Int32) (r0 : Int32) (w_far : Nat → Int32) (hF : FX7_garbage mm far = some (r0, w_far)) : g_CM yX7_garbage wsX7_garbage ({ frames := 4, cells := 0, slots := 0, locals := 93 }) D cI cZ cH [.ref a_z] [oX7 a_z a_mm a_old a_saved_ a_isSaved a_text textLength refused a_far a_marked a_stack top highest overflowed a_command commands at_ fault_ hash, oI a_mm cI 1222 mm, oI a_far cI 200 far] 0 0 (g_Tm (some (.int r0)) [oX7 a_z a_mm a_old a_saved_ a_isSaved a_text textLength refused a_far a_marked a_stack top highest overflowed a_command commands at_ fault_ hash, oI a_mm cI 1222 mm, oI a_far cI 200 w_far]) := by
  refine g_met (own := RX7) (mn := "garbage") (cc := cX7_garbage) (maxL := 1) (ret := (some .int)) rfl rfl (by decide +kernel) rfl (Nat.le_of_ble_eq_true rfl) (fun G X RT => ?_)
  show G 0 0 [oX7 a_z a_mm a_old a_saved_ a_isSaved a_text textLength refused a_far a_marked a_stack top highest overflowed a_command commands at_ fault_ hash, oI a_mm cI 1222 mm, oI a_far cI 200 far] [(0, .ref a_z)] 0 []
  unfold FX7_garbage at hF
  refine r_aload_n (pc' := 1) X dX7_garbage_0 rfl 0 rfl rfl ?_
  refine r_iconst (pc' := 2) X (-1 : Int32) dX7_garbage_1 (by decide) rfl ?_
  obtain ⟨far_1, hc2, hF⟩ := g_bd hF
  refine r_callVF (pc' := 5) (ws' := [oX7 a_z a_mm a_old a_saved_ a_isSaved a_text textLength refused a_far a_marked a_stack top highest overflowed a_command commands at_ fault_ hash, oI a_mm cI 1222 mm, oI a_far cI 200 far_1]) (st' := []) X (mX7_reaches D cI cZ cH a_z a_mm a_far a_old a_saved_ a_isSaved a_text a_marked a_stack a_command textLength refused top highest overflowed commands at_ fault_ hash mm far (-1 : Int32) far_1 hc2) 1 gX7_garbage_X7_reaches rfl (by decide +kernel) rfl rfl ⟨Nat.le_of_ble_eq_true rfl, Nat.le_of_ble_eq_true rfl⟩ ⟨Nat.le_of_ble_eq_true rfl, Nat.le_of_ble_eq_true rfl⟩ rfl (Nat.le_of_ble_eq_true rfl) dX7_garbage_2 0 rfl rfl [0, 1, 2] rfl rfl rfl rfl rfl rfl ?_
  refine r_aload_n (pc' := 6) X dX7_garbage_5 rfl 0 rfl rfl ?_
  obtain ⟨r3, hc4, hF⟩ := g_bd hF
  refine r_callVF (pc' := 9) (ws' := [oX7 a_z a_mm a_old a_saved_ a_isSaved a_text textLength refused a_far a_marked a_stack top highest overflowed a_command commands at_ fault_ hash, oI a_mm cI 1222 mm, oI a_far cI 200 far_1]) (st' := [.int r3]) X (mX7_occupied D cI cZ cH a_z a_mm a_old a_saved_ a_isSaved a_text a_far a_marked a_stack a_command textLength refused top highest overflowed commands at_ fault_ hash mm r3 hc4) 0 gX7_garbage_X7_occupied rfl (by decide +kernel) rfl rfl ⟨Nat.le_of_ble_eq_true rfl, Nat.le_of_ble_eq_true rfl⟩ ⟨Nat.le_of_ble_eq_true rfl, Nat.le_of_ble_eq_true rfl⟩ rfl (Nat.le_of_ble_eq_true rfl) dX7_garbage_6 0 rfl rfl [0, 1] rfl rfl rfl rfl rfl rfl ?_
  refine r_aload_n (pc' := 10) X dX7_garbage_9 rfl 0 rfl rfl ?_
  obtain ⟨r5, hc6, hF⟩ := g_bd hF
  refine r_callVF (pc' := 13) (ws' := [oX7 a_z a_mm a_old a_saved_ a_isSaved a_text textLength refused a_far a_marked a_stack top highest overflowed a_command commands at_ fault_ hash, oI a_mm cI 1222 mm, oI a_far cI 200 far_1]) (st' := [.int r5, .int r3]) X (mX7_reachedWords D cI cZ cH a_z a_mm a_far a_old a_saved_ a_isSaved a_text a_marked a_stack a_command textLength refused top highest overflowed commands at_ fault_ hash mm far_1 r5 hc6) 0 gX7_garbage_X7_reachedWords rfl (by decide +kernel) rfl rfl ⟨Nat.le_of_ble_eq_true rfl, Nat.le_of_ble_eq_true rfl⟩ ⟨Nat.le_of_ble_eq_true rfl, Nat.le_of_ble_eq_true rfl⟩ rfl (Nat.le_of_ble_eq_true rfl) dX7_garbage_10 0 rfl rfl [0, 1, 2] rfl rfl rfl rfl rfl rfl ?_
  refine r_isub (pc' := 14) X dX7_garbage_13 rfl ?_
  cases hF
  exact RT.1 0 0 _ _ _ _ .int rfl rfl dX7_garbage_14 ⟨rfl, rfl⟩ (Nat.le_refl 0) (Nat.le_refl 0)
theorem kX7_distance_2 : Cond.fieldLink RX7 30 "IslandHeapModel" "far" "[I" ∈ wsX7_distance := List.mem_of_getElem? (i := 2) (by decide +kernel)
theorem kX7_distance_1 : Cond.constant RX7 50 (-1000002) ∈ wsX7_distance := List.mem_of_getElem? (i := 1) (by decide +kernel)
theorem uX7_distance_X7 : ∀ w ∈ u_ws RX7 TX7 18, w ∈ wsX7_distance := by decide +kernel
set_option maxHeartbeats 4000000 in
set_option maxRecDepth 100000 in
theorem mX7_distance (D : va_G) (cI cZ cH : ClassId) (a_z : Nat) (a_mm : Nat) (a_far : Nat) (a_old : Nat) (a_saved_ : Nat) (a_isSaved : Nat) (a_text : Nat) (a_marked : Nat) (a_stack : Nat) (a_command : Nat) (textLength : Int32) (refused : Int32) (top : Int32) (highest : Int32) (overflowed : Int32) (commands : Int32) (at_ : Int32) (fault_ : Int32) (hash : Int64) (mm : Nat → Int32) (far : Nat → Int32) (p1 : Int32) (r0 : Int32) (w_far : Nat → Int32) (hF : FX7_distance mm far p1 = some (r0, w_far)) : g_CM yX7_distance wsX7_distance ({ frames := 4, cells := 0, slots := 0, locals := 93 }) D cI cZ cH [.ref a_z, .int p1] [oX7 a_z a_mm a_old a_saved_ a_isSaved a_text textLength refused a_far a_marked a_stack top highest overflowed a_command commands at_ fault_ hash, oI a_mm cI 1222 mm, oI a_far cI 200 far] 0 0 (g_Tm (some (.int r0)) [oX7 a_z a_mm a_old a_saved_ a_isSaved a_text textLength refused a_far a_marked a_stack top highest overflowed a_command commands at_ fault_ hash, oI a_mm cI 1222 mm, oI a_far cI 200 w_far]) := by
  refine g_met (own := RX7) (mn := "distance") (cc := cX7_distance) (maxL := 3) (ret := (some .int)) rfl rfl (by decide +kernel) rfl (Nat.le_of_ble_eq_true rfl) (fun G X RT => ?_)
  show G 0 0 [oX7 a_z a_mm a_old a_saved_ a_isSaved a_text textLength refused a_far a_marked a_stack top highest overflowed a_command commands at_ fault_ hash, oI a_mm cI 1222 mm, oI a_far cI 200 far] [(0, .ref a_z), (1, .int p1)] 0 []
  unfold FX7_distance at hF
  refine r_aload_n (pc' := 1) X dX7_distance_0 rfl 0 rfl rfl ?_
  refine r_iload_n (pc' := 2) X dX7_distance_1 rfl 1 rfl rfl ?_
  obtain ⟨r1, hc2, hF⟩ := g_bd hF
  refine r_callVF (pc' := 5) (ws' := [oX7 a_z a_mm a_old a_saved_ a_isSaved a_text textLength refused a_far a_marked a_stack top highest overflowed a_command commands at_ fault_ hash, oI a_mm cI 1222 mm, oI a_far cI 200 far]) (st' := [.int r1]) X (mX7_objectOf D cI cZ cH a_z a_mm a_old a_saved_ a_isSaved a_text a_far a_marked a_stack a_command textLength refused top highest overflowed commands at_ fault_ hash mm p1 r1 hc2) 1 gX7_distance_X7_objectOf rfl (by decide +kernel) rfl rfl ⟨Nat.le_of_ble_eq_true rfl, Nat.le_of_ble_eq_true rfl⟩ ⟨Nat.le_of_ble_eq_true rfl, Nat.le_of_ble_eq_true rfl⟩ rfl (Nat.le_of_ble_eq_true rfl) dX7_distance_2 0 rfl rfl [0, 1] rfl rfl rfl rfl rfl rfl ?_
  refine r_istore_n (pc' := 6) (lv' := [(0, .ref a_z), (1, .int p1), (2, .int r1)]) X dX7_distance_5 rfl (by decide) [1, 2, 0] rfl rfl ?_
  refine r_iload_n (pc' := 7) X dX7_distance_6 rfl 2 rfl rfl ?_
  refine r_iconst (pc' := 8) X (-1 : Int32) dX7_distance_7 (by decide) rfl ?_
  refine r_icmp_ne (pc' := 11) X 14 dX7_distance_8 (by decide) rfl (fun c9 => ?_) (fun c9 => ?_)
  · replace hF := g_f c9 hF
    refine r_aload_n (pc' := 15) X dX7_distance_14 rfl 0 rfl rfl ?_
    refine r_iconst (pc' := 16) X (-1 : Int32) dX7_distance_15 (by decide) rfl ?_
    obtain ⟨far_3, hc4, hF⟩ := g_bd hF
    refine r_callVF (pc' := 19) (ws' := [oX7 a_z a_mm a_old a_saved_ a_isSaved a_text textLength refused a_far a_marked a_stack top highest overflowed a_command commands at_ fault_ hash, oI a_mm cI 1222 mm, oI a_far cI 200 far_3]) (st' := []) X (mX7_reaches D cI cZ cH a_z a_mm a_far a_old a_saved_ a_isSaved a_text a_marked a_stack a_command textLength refused top highest overflowed commands at_ fault_ hash mm far (-1 : Int32) far_3 hc4) 1 gX7_distance_X7_reaches rfl (by decide +kernel) rfl rfl ⟨Nat.le_of_ble_eq_true rfl, Nat.le_of_ble_eq_true rfl⟩ ⟨Nat.le_of_ble_eq_true rfl, Nat.le_of_ble_eq_true rfl⟩ rfl (Nat.le_of_ble_eq_true rfl) dX7_distance_16 0 rfl rfl [0, 1, 2] rfl rfl rfl rfl rfl rfl ?_
    refine r_aload_n (pc' := 20) X dX7_distance_19 rfl 0 rfl rfl ?_
    refine r_get (pc' := 23) X uX7_distance_X7 0 7 dX7_distance_20 rfl rfl (by decide) kX7_distance_2 rfl rfl ?_
    refine r_iload_n (pc' := 24) X dX7_distance_23 rfl 2 rfl rfl ?_
    obtain ⟨hi5, hF⟩ := g_gt hF
    refine r_iald (pc' := 25) X 2 dX7_distance_24 rfl (g_vi hi5) rfl ?_
    cases hF
    exact RT.1 0 0 _ _ _ _ .int rfl rfl dX7_distance_25 ⟨rfl, rfl⟩ (Nat.le_refl 0) (Nat.le_refl 0)
  · replace hF := g_t c9 hF
    refine r_ldc (pc' := 13) X dX7_distance_11 kX7_distance_1 rfl ?_
    cases hF
    exact RT.1 0 0 _ _ _ _ .int rfl rfl dX7_distance_13 ⟨rfl, rfl⟩ (Nat.le_refl 0) (Nat.le_refl 0)
theorem kX7_retained_2 : Cond.fieldLink RX7 30 "IslandHeapModel" "far" "[I" ∈ wsX7_retained := List.mem_of_getElem? (i := 2) (by decide +kernel)
theorem kX7_retained_1 : Cond.constant RX7 50 (-1000002) ∈ wsX7_retained := List.mem_of_getElem? (i := 1) (by decide +kernel)
theorem uX7_retained_X7 : ∀ w ∈ u_ws RX7 TX7 18, w ∈ wsX7_retained := by decide +kernel
set_option maxHeartbeats 4000000 in
set_option maxRecDepth 100000 in
theorem mX7_retained (D : va_G) (cI cZ cH : ClassId) (a_z : Nat) (a_mm : Nat) (a_far : Nat) (a_old : Nat) (a_saved_ : Nat) (a_isSaved : Nat) (a_text : Nat) (a_marked : Nat) (a_stack : Nat) (a_command : Nat) (textLength : Int32) (refused : Int32) (top : Int32) (highest : Int32) (overflowed : Int32) (commands : Int32) (at_ : Int32) (fault_ : Int32) (hash : Int64) (mm : Nat → Int32) (far : Nat → Int32) (p1 : Int32) (r0 : Int32) (w_far : Nat → Int32) (hF : FX7_retained mm far p1 = some (r0, w_far)) : g_CM yX7_retained wsX7_retained ({ frames := 4, cells := 0, slots := 0, locals := 93 }) D cI cZ cH [.ref a_z, .int p1] [oX7 a_z a_mm a_old a_saved_ a_isSaved a_text textLength refused a_far a_marked a_stack top highest overflowed a_command commands at_ fault_ hash, oI a_mm cI 1222 mm, oI a_far cI 200 far] 0 0 (g_Tm (some (.int r0)) [oX7 a_z a_mm a_old a_saved_ a_isSaved a_text textLength refused a_far a_marked a_stack top highest overflowed a_command commands at_ fault_ hash, oI a_mm cI 1222 mm, oI a_far cI 200 w_far]) := by
  refine g_met (own := RX7) (mn := "retained") (cc := cX7_retained) (maxL := 4) (ret := (some .int)) rfl rfl (by decide +kernel) rfl (Nat.le_of_ble_eq_true rfl) (fun G X RT => ?_)
  show G 0 0 [oX7 a_z a_mm a_old a_saved_ a_isSaved a_text textLength refused a_far a_marked a_stack top highest overflowed a_command commands at_ fault_ hash, oI a_mm cI 1222 mm, oI a_far cI 200 far] [(0, .ref a_z), (1, .int p1)] 0 []
  unfold FX7_retained at hF
  refine r_aload_n (pc' := 1) X dX7_retained_0 rfl 0 rfl rfl ?_
  refine r_iload_n (pc' := 2) X dX7_retained_1 rfl 1 rfl rfl ?_
  obtain ⟨r1, hc2, hF⟩ := g_bd hF
  refine r_callVF (pc' := 5) (ws' := [oX7 a_z a_mm a_old a_saved_ a_isSaved a_text textLength refused a_far a_marked a_stack top highest overflowed a_command commands at_ fault_ hash, oI a_mm cI 1222 mm, oI a_far cI 200 far]) (st' := [.int r1]) X (mX7_objectOf D cI cZ cH a_z a_mm a_old a_saved_ a_isSaved a_text a_far a_marked a_stack a_command textLength refused top highest overflowed commands at_ fault_ hash mm p1 r1 hc2) 1 gX7_retained_X7_objectOf rfl (by decide +kernel) rfl rfl ⟨Nat.le_of_ble_eq_true rfl, Nat.le_of_ble_eq_true rfl⟩ ⟨Nat.le_of_ble_eq_true rfl, Nat.le_of_ble_eq_true rfl⟩ rfl (Nat.le_of_ble_eq_true rfl) dX7_retained_2 0 rfl rfl [0, 1] rfl rfl rfl rfl rfl rfl ?_
  refine r_istore_n (pc' := 6) (lv' := [(0, .ref a_z), (1, .int p1), (2, .int r1)]) X dX7_retained_5 rfl (by decide) [1, 2, 0] rfl rfl ?_
  refine r_iload_n (pc' := 7) X dX7_retained_6 rfl 2 rfl rfl ?_
  refine r_iconst (pc' := 8) X (-1 : Int32) dX7_retained_7 (by decide) rfl ?_
  refine r_icmp_ne (pc' := 11) X 14 dX7_retained_8 (by decide) rfl (fun c9 => ?_) (fun c9 => ?_)
  · replace hF := g_f c9 hF
    refine r_aload_n (pc' := 15) X dX7_retained_14 rfl 0 rfl rfl ?_
    refine r_iconst (pc' := 16) X (-1 : Int32) dX7_retained_15 (by decide) rfl ?_
    obtain ⟨far_3, hc4, hF⟩ := g_bd hF
    refine r_callVF (pc' := 19) (ws' := [oX7 a_z a_mm a_old a_saved_ a_isSaved a_text textLength refused a_far a_marked a_stack top highest overflowed a_command commands at_ fault_ hash, oI a_mm cI 1222 mm, oI a_far cI 200 far_3]) (st' := []) X (mX7_reaches D cI cZ cH a_z a_mm a_far a_old a_saved_ a_isSaved a_text a_marked a_stack a_command textLength refused top highest overflowed commands at_ fault_ hash mm far (-1 : Int32) far_3 hc4) 1 gX7_retained_X7_reaches rfl (by decide +kernel) rfl rfl ⟨Nat.le_of_ble_eq_true rfl, Nat.le_of_ble_eq_true rfl⟩ ⟨Nat.le_of_ble_eq_true rfl, Nat.le_of_ble_eq_true rfl⟩ rfl (Nat.le_of_ble_eq_true rfl) dX7_retained_16 0 rfl rfl [0, 1, 2] rfl rfl rfl rfl rfl rfl ?_
    refine r_aload_n (pc' := 20) X dX7_retained_19 rfl 0 rfl rfl ?_
    obtain ⟨r5, hc6, hF⟩ := g_bd hF
    refine r_callVF (pc' := 23) (ws' := [oX7 a_z a_mm a_old a_saved_ a_isSaved a_text textLength refused a_far a_marked a_stack top highest overflowed a_command commands at_ fault_ hash, oI a_mm cI 1222 mm, oI a_far cI 200 far_3]) (st' := [.int r5]) X (mX7_reachedWords D cI cZ cH a_z a_mm a_far a_old a_saved_ a_isSaved a_text a_marked a_stack a_command textLength refused top highest overflowed commands at_ fault_ hash mm far_3 r5 hc6) 0 gX7_retained_X7_reachedWords rfl (by decide +kernel) rfl rfl ⟨Nat.le_of_ble_eq_true rfl, Nat.le_of_ble_eq_true rfl⟩ ⟨Nat.le_of_ble_eq_true rfl, Nat.le_of_ble_eq_true rfl⟩ rfl (Nat.le_of_ble_eq_true rfl) dX7_retained_20 0 rfl rfl [0, 1, 2] rfl rfl rfl rfl rfl rfl ?_
    refine r_istore_n (pc' := 24) (lv' := [(0, .ref a_z), (1, .int p1), (2, .int r1), (3, .int r5)]) X dX7_retained_23 rfl (by decide) [1, 2, 3, 0] rfl rfl ?_
    refine r_aload_n (pc' := 25) X dX7_retained_24 rfl 0 rfl rfl ?_
    refine r_get (pc' := 28) X uX7_retained_X7 0 7 dX7_retained_25 rfl rfl (by decide) kX7_retained_2 rfl rfl ?_
    refine r_iload_n (pc' := 29) X dX7_retained_28 rfl 2 rfl rfl ?_
    obtain ⟨hi7, hF⟩ := g_gt hF
    refine r_iald (pc' := 30) X 2 dX7_retained_29 rfl (g_vi hi7) rfl ?_
    refine r_iconst (pc' := 31) X (-1 : Int32) dX7_retained_30 (by decide) rfl ?_
    refine r_icmp_ne (pc' := 34) X 36 dX7_retained_31 (by decide) rfl (fun c9 => ?_) (fun c9 => ?_)
    · replace hF := g_f c9 hF
      refine r_aload_n (pc' := 37) X dX7_retained_36 rfl 0 rfl rfl ?_
      refine r_iload_n (pc' := 38) X dX7_retained_37 rfl 2 rfl rfl ?_
      obtain ⟨far_8, hc9, hF⟩ := g_bd hF
      refine r_callVF (pc' := 41) (ws' := [oX7 a_z a_mm a_old a_saved_ a_isSaved a_text textLength refused a_far a_marked a_stack top highest overflowed a_command commands at_ fault_ hash, oI a_mm cI 1222 mm, oI a_far cI 200 far_8]) (st' := []) X (mX7_reaches D cI cZ cH a_z a_mm a_far a_old a_saved_ a_isSaved a_text a_marked a_stack a_command textLength refused top highest overflowed commands at_ fault_ hash mm far_3 r1 far_8 hc9) 1 gX7_retained_X7_reaches rfl (by decide +kernel) rfl rfl ⟨Nat.le_of_ble_eq_true rfl, Nat.le_of_ble_eq_true rfl⟩ ⟨Nat.le_of_ble_eq_true rfl, Nat.le_of_ble_eq_true rfl⟩ rfl (Nat.le_of_ble_eq_true rfl) dX7_retained_38 0 rfl rfl [0, 1, 2] rfl rfl rfl rfl rfl rfl ?_
      refine r_iload_n (pc' := 42) X dX7_retained_41 rfl 3 rfl rfl ?_
      refine r_aload_n (pc' := 43) X dX7_retained_42 rfl 0 rfl rfl ?_
      obtain ⟨r10, hc11, hF⟩ := g_bd hF
      refine r_callVF (pc' := 46) (ws' := [oX7 a_z a_mm a_old a_saved_ a_isSaved a_text textLength refused a_far a_marked a_stack top highest overflowed a_command commands at_ fault_ hash, oI a_mm cI 1222 mm, oI a_far cI 200 far_8]) (st' := [.int r10, .int r5]) X (mX7_reachedWords D cI cZ cH a_z a_mm a_far a_old a_saved_ a_isSaved a_text a_marked a_stack a_command textLength refused top highest overflowed commands at_ fault_ hash mm far_8 r10 hc11) 0 gX7_retained_X7_reachedWords rfl (by decide +kernel) rfl rfl ⟨Nat.le_of_ble_eq_true rfl, Nat.le_of_ble_eq_true rfl⟩ ⟨Nat.le_of_ble_eq_true rfl, Nat.le_of_ble_eq_true rfl⟩ rfl (Nat.le_of_ble_eq_true rfl) dX7_retained_43 0 rfl rfl [0, 1, 2] rfl rfl rfl rfl rfl rfl ?_
      refine r_isub (pc' := 47) X dX7_retained_46 rfl ?_
      cases hF
      exact RT.1 0 0 _ _ _ _ .int rfl rfl dX7_retained_47 ⟨rfl, rfl⟩ (Nat.le_refl 0) (Nat.le_refl 0)
    · replace hF := g_t c9 hF
      refine r_iconst (pc' := 35) X (0 : Int32) dX7_retained_34 (by decide) rfl ?_
      cases hF
      exact RT.1 0 0 _ _ _ _ .int rfl rfl dX7_retained_35 ⟨rfl, rfl⟩ (Nat.le_refl 0) (Nat.le_refl 0)
  · replace hF := g_t c9 hF
    refine r_ldc (pc' := 13) X dX7_retained_11 kX7_retained_1 rfl ?_
    cases hF
    exact RT.1 0 0 _ _ _ _ .int rfl rfl dX7_retained_13 ⟨rfl, rfl⟩ (Nat.le_refl 0) (Nat.le_refl 0)
theorem kX7_free_2 : Cond.fieldLink RX7 7 "IslandHeapModel" "m" "[I" ∈ wsX7_free := List.mem_of_getElem? (i := 2) (by decide +kernel)
theorem kX7_free_1 : Cond.constant RX7 50 (-1000002) ∈ wsX7_free := List.mem_of_getElem? (i := 1) (by decide +kernel)
theorem uX7_free_X7 : ∀ w ∈ u_ws RX7 TX7 18, w ∈ wsX7_free := by decide +kernel
set_option maxHeartbeats 4000000 in
set_option maxRecDepth 100000 in
theorem mX7_free (D : va_G) (cI cZ cH : ClassId) (a_z : Nat) (a_mm : Nat) (a_old : Nat) (a_saved_ : Nat) (a_isSaved : Nat) (a_text : Nat) (a_far : Nat) (a_marked : Nat) (a_stack : Nat) (a_command : Nat) (textLength : Int32) (refused : Int32) (top : Int32) (highest : Int32) (overflowed : Int32) (commands : Int32) (at_ : Int32) (fault_ : Int32) (hash : Int64) (mm : Nat → Int32) (p1 : Int32) (r0 : Int32) (hF : FX7_free mm p1 = some r0) : g_CM yX7_free wsX7_free ({ frames := 1, cells := 0, slots := 0, locals := 22 }) D cI cZ cH [.ref a_z, .int p1] [oX7 a_z a_mm a_old a_saved_ a_isSaved a_text textLength refused a_far a_marked a_stack top highest overflowed a_command commands at_ fault_ hash, oI a_mm cI 1222 mm] 0 0 (g_Tm (some (.int r0)) [oX7 a_z a_mm a_old a_saved_ a_isSaved a_text textLength refused a_far a_marked a_stack top highest overflowed a_command commands at_ fault_ hash, oI a_mm cI 1222 mm]) := by
  refine g_met (own := RX7) (mn := "free") (cc := cX7_free) (maxL := 9) (ret := (some .int)) rfl rfl (by decide +kernel) rfl (Nat.le_of_ble_eq_true rfl) (fun G X RT => ?_)
  show G 0 0 [oX7 a_z a_mm a_old a_saved_ a_isSaved a_text textLength refused a_far a_marked a_stack top highest overflowed a_command commands at_ fault_ hash, oI a_mm cI 1222 mm] [(0, .ref a_z), (1, .int p1)] 0 []
  unfold FX7_free at hF
  refine r_iload_n (pc' := 1) X dX7_free_0 rfl 1 rfl rfl ?_
  refine r_iconst (pc' := 2) X (0 : Int32) dX7_free_1 (by decide) rfl ?_
  refine r_iconst (pc' := 3) X (4 : Int32) dX7_free_2 (by decide) rfl ?_
  obtain ⟨r1, hc2, hF⟩ := g_bd hF
  refine r_callSF (pc' := 6) (ws' := [oX7 a_z a_mm a_old a_saved_ a_isSaved a_text textLength refused a_far a_marked a_stack top highest overflowed a_command commands at_ fault_ hash, oI a_mm cI 1222 mm]) (st' := [.int r1]) X (mX7_in D cI cZ cH p1 (0 : Int32) (4 : Int32) r1 hc2) 3 gX7_free_X7_in rfl (by decide +kernel) rfl rfl ⟨Nat.le_of_ble_eq_true rfl, Nat.le_of_ble_eq_true rfl⟩ ⟨Nat.le_of_ble_eq_true rfl, Nat.le_of_ble_eq_true rfl⟩ rfl (Nat.le_of_ble_eq_true rfl) dX7_free_3 [] rfl rfl rfl rfl rfl rfl ?_
  refine r_if_ne (pc' := 9) X 12 dX7_free_6 (by decide) rfl (fun c9 => ?_) (fun c9 => ?_)
  · replace hF := g_f c9 hF
    refine r_iconst (pc' := 13) X (0 : Int32) dX7_free_12 (by decide) rfl ?_
    refine r_istore_n (pc' := 14) (lv' := [(0, .ref a_z), (1, .int p1), (2, .int (0 : Int32))]) X dX7_free_13 rfl (by decide) [1, 2, 0] rfl rfl ?_
    refine r_iconst (pc' := 15) X (0 : Int32) dX7_free_14 (by decide) rfl ?_
    refine r_istore_n (pc' := 16) (lv' := [(0, .ref a_z), (1, .int p1), (2, .int (0 : Int32)), (3, .int (0 : Int32))]) X dX7_free_15 rfl (by decide) [1, 2, 3, 0] rfl rfl ?_
    refine r_iconst (pc' := 17) X (0 : Int32) dX7_free_16 (by decide) rfl ?_
    refine r_istore (pc' := 19) (lv' := [(0, .ref a_z), (1, .int p1), (2, .int (0 : Int32)), (3, .int (0 : Int32)), (4, .int (0 : Int32))]) X dX7_free_17 (by decide) [1, 2, 3, 4, 0] rfl rfl ?_
    refine r_iconst (pc' := 20) X (-1 : Int32) dX7_free_19 (by decide) rfl ?_
    refine r_istore (pc' := 22) (lv' := [(0, .ref a_z), (1, .int p1), (2, .int (0 : Int32)), (3, .int (0 : Int32)), (4, .int (0 : Int32)), (5, .int (-1 : Int32))]) X dX7_free_20 (by decide) [1, 2, 3, 4, 5, 0] rfl rfl ?_
    refine r_iconst (pc' := 23) X (0 : Int32) dX7_free_22 (by decide) rfl ?_
    refine r_istore (pc' := 25) (lv' := [(0, .ref a_z), (1, .int p1), (2, .int (0 : Int32)), (3, .int (0 : Int32)), (4, .int (0 : Int32)), (5, .int (-1 : Int32)), (6, .int (0 : Int32))]) X dX7_free_23 (by decide) [1, 2, 3, 4, 5, 6, 0] rfl rfl ?_
    refine r_iconst (pc' := 26) X (0 : Int32) dX7_free_25 (by decide) rfl ?_
    refine r_istore (pc' := 28) (lv' := [(0, .ref a_z), (1, .int p1), (2, .int (0 : Int32)), (3, .int (0 : Int32)), (4, .int (0 : Int32)), (5, .int (-1 : Int32)), (6, .int (0 : Int32)), (7, .int (0 : Int32))]) X dX7_free_26 (by decide) [1, 2, 3, 4, 5, 6, 7, 0] rfl rfl ?_
    obtain ⟨ex28, hR, hF⟩ := g_bd hF
    have hE28 : ∀ (v2_9 : Int32) (v3_10 : Int32) (v4_11 : Int32) (v5_12 : Int32) (v6_13 : Int32), (v2_9, v3_10, v4_11, v5_12, v6_13) = ex28 → G 0 0 [oX7 a_z a_mm a_old a_saved_ a_isSaved a_text textLength refused a_far a_marked a_stack top highest overflowed a_command commands at_ fault_ hash, oI a_mm cI 1222 mm] [(1, .int p1), (2, .int v2_9), (3, .int v3_10), (4, .int v4_11), (5, .int v5_12), (6, .int v6_13)] 185 [] := by
      intro v2_9 v3_10 v4_11 v5_12 v6_13 hx; subst hx
      refine r_iload_n (pc' := 186) X dX7_free_185 rfl 0 rfl rfl ?_
      refine r_if_ne (pc' := 189) X 193 dX7_free_186 (by decide) rfl (fun c9 => ?_) (fun c9 => ?_)
      · replace hF := g_f c9 hF
        refine r_iload_n (pc' := 194) X dX7_free_193 rfl 0 rfl rfl ?_
        refine r_iconst (pc' := 195) X (1 : Int32) dX7_free_194 (by decide) rfl ?_
        refine r_icmp_ne (pc' := 198) X 202 dX7_free_195 (by decide) rfl (fun c9 => ?_) (fun c9 => ?_)
        · replace hF := g_f c9 hF
          refine r_iload_n (pc' := 203) X dX7_free_202 rfl 0 rfl rfl ?_
          refine r_iconst (pc' := 204) X (2 : Int32) dX7_free_203 (by decide) rfl ?_
          refine r_icmp_ne (pc' := 207) X 212 dX7_free_204 (by decide) rfl (fun c9 => ?_) (fun c9 => ?_)
          · replace hF := g_f c9 hF
            refine r_iload_n (pc' := 213) X dX7_free_212 rfl 0 rfl rfl ?_
            refine r_iconst (pc' := 214) X (3 : Int32) dX7_free_213 (by decide) rfl ?_
            refine r_icmp_ne (pc' := 217) X 222 dX7_free_214 (by decide) rfl (fun c9 => ?_) (fun c9 => ?_)
            · replace hF := g_f c9 hF
              refine r_iload (pc' := 224) X dX7_free_222 5 rfl rfl ?_
              cases hF
              exact RT.1 0 0 _ _ _ _ .int rfl rfl dX7_free_224 ⟨rfl, rfl⟩ (Nat.le_refl 0) (Nat.le_refl 0)
            · replace hF := g_t c9 hF
              refine r_iload (pc' := 219) X dX7_free_217 4 rfl rfl ?_
              refine r_goto X 224 dX7_free_219 (by decide) ?_
              cases hF
              exact RT.1 0 0 _ _ _ _ .int rfl rfl dX7_free_224 ⟨rfl, rfl⟩ (Nat.le_refl 0) (Nat.le_refl 0)
          · replace hF := g_t c9 hF
            refine r_iload (pc' := 209) X dX7_free_207 3 rfl rfl ?_
            refine r_goto X 224 dX7_free_209 (by decide) ?_
            cases hF
            exact RT.1 0 0 _ _ _ _ .int rfl rfl dX7_free_224 ⟨rfl, rfl⟩ (Nat.le_refl 0) (Nat.le_refl 0)
        · replace hF := g_t c9 hF
          refine r_iload_n (pc' := 199) X dX7_free_198 rfl 2 rfl rfl ?_
          refine r_goto X 224 dX7_free_199 (by decide) ?_
          cases hF
          exact RT.1 0 0 _ _ _ _ .int rfl rfl dX7_free_224 ⟨rfl, rfl⟩ (Nat.le_refl 0) (Nat.le_refl 0)
      · replace hF := g_t c9 hF
        refine r_iload_n (pc' := 190) X dX7_free_189 rfl 1 rfl rfl ?_
        refine r_goto X 224 dX7_free_190 (by decide) ?_
        cases hF
        exact RT.1 0 0 _ _ _ _ .int rfl rfl dX7_free_224 ⟨rfl, rfl⟩ (Nat.le_refl 0) (Nat.le_refl 0)
    have hL28 : ∀ (fu : Nat) (v2_3 : Int32) (v3_4 : Int32) (v4_5 : Int32) (v5_6 : Int32) (v6_7 : Int32) (v7_8 : Int32), g_itn (FX7_free_L28 mm) fu (v2_3, v3_4, v4_5, v5_6, v6_7, v7_8) = some ex28 → G 0 0 [oX7 a_z a_mm a_old a_saved_ a_isSaved a_text textLength refused a_far a_marked a_stack top highest overflowed a_command commands at_ fault_ hash, oI a_mm cI 1222 mm] [(0, .ref a_z), (1, .int p1), (2, .int v2_3), (3, .int v3_4), (4, .int v4_5), (5, .int v5_6), (6, .int v6_7), (7, .int v7_8)] 28 [] := by
      intro fu
      induction fu with
      | zero => intro v2_3 v3_4 v4_5 v5_6 v6_7 v7_8 h9; exact (g_it0 h9).elim
      | succ fu ih =>
        intro v2_3 v3_4 v4_5 v5_6 v6_7 v7_8 h9
        obtain ⟨y28, hF, hI28⟩ := g_its h9
        unfold FX7_free_L28 at hF
        refine r_iload (pc' := 30) X dX7_free_28 7 rfl rfl ?_
        refine r_aload_n (pc' := 31) X dX7_free_30 rfl 0 rfl rfl ?_
        refine r_get (pc' := 34) X uX7_free_X7 0 0 dX7_free_31 rfl rfl (by decide) kX7_free_2 rfl rfl ?_
        refine r_sipush (pc' := 37) X (1216 : Int32) dX7_free_34 (by decide) rfl ?_
        refine r_ialdK (pc' := 38) (j := 1216) X 1 dX7_free_37 rfl (by decide +kernel) (by decide +kernel) rfl ?_
        refine r_icmp_ge (pc' := 41) X 185 dX7_free_38 (by decide) rfl (fun c9 => ?_) (fun c9 => ?_)
        · replace hF := g_t c9 hF
          cases hF
          refine r_sub (lv' := [(1, .int p1), (2, .int v2_3), (3, .int v3_4), (4, .int v4_5), (5, .int v5_6), (6, .int v6_7)]) X [1, 2, 3, 4, 5, 6] rfl ?_
          exact hE28 v2_3 v3_4 v4_5 v5_6 v6_7 hI28
        · replace hF := g_f c9 hF
          refine r_iconst (pc' := 42) X (0 : Int32) dX7_free_41 (by decide) rfl ?_
          refine r_istore (pc' := 44) (lv' := [(0, .ref a_z), (1, .int p1), (2, .int v2_3), (3, .int v3_4), (4, .int v4_5), (5, .int v5_6), (6, .int v6_7), (7, .int v7_8), (8, .int (0 : Int32))]) X dX7_free_42 (by decide) [1, 2, 3, 4, 5, 6, 7, 8, 0] rfl rfl ?_
          obtain ⟨ex44, hR, hF⟩ := g_bd hF
          have hE44 : ∀ (v8_15 : Int32), v8_15 = ex44 → G 0 0 [oX7 a_z a_mm a_old a_saved_ a_isSaved a_text textLength refused a_far a_marked a_stack top highest overflowed a_command commands at_ fault_ hash, oI a_mm cI 1222 mm] [(0, .ref a_z), (1, .int p1), (2, .int v2_3), (3, .int v3_4), (4, .int v4_5), (5, .int v5_6), (6, .int v6_7), (7, .int v7_8), (8, .int v8_15)] 81 [] := by
            intro v8_15 hx; subst hx
            refine r_iload (pc' := 83) X dX7_free_81 8 rfl rfl ?_
            obtain ⟨exJ17, hR, hF⟩ := g_bd hF
            have hJ17 : ∀ (t16 : Int32), t16 = exJ17 → G 0 0 [oX7 a_z a_mm a_old a_saved_ a_isSaved a_text textLength refused a_far a_marked a_stack top highest overflowed a_command commands at_ fault_ hash, oI a_mm cI 1222 mm] [(0, .ref a_z), (1, .int p1), (2, .int v2_3), (3, .int v3_4), (4, .int v4_5), (6, .int v6_7), (7, .int v7_8), (8, .int v8_15)] 99 [.int t16] := by
              intro t16 hx; subst hx
              refine r_istore (pc' := 101) (lv' := [(0, .ref a_z), (1, .int p1), (2, .int v2_3), (3, .int v3_4), (4, .int v4_5), (5, .int t16), (6, .int v6_7), (7, .int v7_8), (8, .int v8_15)]) X dX7_free_99 (by decide) [1, 2, 3, 4, 5, 0, 6, 7, 8] rfl rfl ?_
              refine r_iload_n (pc' := 102) X dX7_free_101 rfl 2 rfl rfl ?_
              refine r_iload (pc' := 104) X dX7_free_102 8 rfl rfl ?_
              refine r_iadd (pc' := 105) X dX7_free_104 rfl ?_
              refine r_istore_n (pc' := 106) (lv' := [(0, .ref a_z), (1, .int p1), (2, .int (v2_3 + v8_15)), (3, .int v3_4), (4, .int v4_5), (5, .int t16), (6, .int v6_7), (7, .int v7_8), (8, .int v8_15)]) X dX7_free_105 rfl (by decide) [1, 2, 0, 3, 4, 5, 6, 7, 8] rfl rfl ?_
              refine r_iload_n (pc' := 107) X dX7_free_106 rfl 3 rfl rfl ?_
              refine r_iload (pc' := 109) X dX7_free_107 8 rfl rfl ?_
              obtain ⟨exJ19, hR, hF⟩ := g_bd hF
              have hJ19 : ∀ (t18 : Int32), t18 = exJ19 → G 0 0 [oX7 a_z a_mm a_old a_saved_ a_isSaved a_text textLength refused a_far a_marked a_stack top highest overflowed a_command commands at_ fault_ hash, oI a_mm cI 1222 mm] [(0, .ref a_z), (1, .int p1), (2, .int (v2_3 + v8_15)), (4, .int v4_5), (5, .int t16), (6, .int v6_7), (7, .int v7_8), (8, .int v8_15)] 117 [.int t18, .int v3_4] := by
                intro t18 hx; subst hx
                refine r_iadd (pc' := 118) X dX7_free_117 rfl ?_
                refine r_istore_n (pc' := 119) (lv' := [(0, .ref a_z), (1, .int p1), (2, .int (v2_3 + v8_15)), (3, .int (v3_4 + t18)), (4, .int v4_5), (5, .int t16), (6, .int v6_7), (7, .int v7_8), (8, .int v8_15)]) X dX7_free_118 rfl (by decide) [1, 2, 3, 0, 4, 5, 6, 7, 8] rfl rfl ?_
                refine r_iload (pc' := 121) X dX7_free_119 8 rfl rfl ?_
                refine r_iload (pc' := 123) X dX7_free_121 4 rfl rfl ?_
                obtain ⟨exJ21, hR, hF⟩ := g_bd hF
                have hJ21 : ∀ (t20 : Int32), t20 = exJ21 → G 0 0 [oX7 a_z a_mm a_old a_saved_ a_isSaved a_text textLength refused a_far a_marked a_stack top highest overflowed a_command commands at_ fault_ hash, oI a_mm cI 1222 mm] [(0, .ref a_z), (1, .int p1), (2, .int (v2_3 + v8_15)), (3, .int (v3_4 + t18)), (5, .int t16), (6, .int v6_7), (7, .int v7_8), (8, .int v8_15)] 133 [.int t20] := by
                  intro t20 hx; subst hx
                  refine r_istore (pc' := 135) (lv' := [(0, .ref a_z), (1, .int p1), (2, .int (v2_3 + v8_15)), (3, .int (v3_4 + t18)), (4, .int t20), (5, .int t16), (6, .int v6_7), (7, .int v7_8), (8, .int v8_15)]) X dX7_free_133 (by decide) [1, 2, 3, 4, 0, 5, 6, 7, 8] rfl rfl ?_
                  refine r_iload (pc' := 137) X dX7_free_135 6 rfl rfl ?_
                  refine r_iload (pc' := 139) X dX7_free_137 8 rfl rfl ?_
                  refine r_iconst (pc' := 140) X (4 : Int32) dX7_free_139 (by decide) rfl ?_
                  refine r_idiv (pc' := 141) X dX7_free_140 (by decide) rfl ?_
                  refine r_iadd (pc' := 142) X dX7_free_141 rfl ?_
                  refine r_istore (pc' := 144) (lv' := [(0, .ref a_z), (1, .int p1), (2, .int (v2_3 + v8_15)), (3, .int (v3_4 + t18)), (4, .int t20), (5, .int t16), (6, .int (v6_7 + (v8_15 / (4 : Int32)))), (7, .int v7_8), (8, .int v8_15)]) X dX7_free_142 (by decide) [1, 2, 3, 4, 5, 6, 0, 7, 8] rfl rfl ?_
                  refine r_iload (pc' := 146) X dX7_free_144 7 rfl rfl ?_
                  refine r_iload (pc' := 148) X dX7_free_146 8 rfl rfl ?_
                  refine r_iadd (pc' := 149) X dX7_free_148 rfl ?_
                  refine r_istore (pc' := 151) (lv' := [(0, .ref a_z), (1, .int p1), (2, .int (v2_3 + v8_15)), (3, .int (v3_4 + t18)), (4, .int t20), (5, .int t16), (6, .int (v6_7 + (v8_15 / (4 : Int32)))), (7, .int (v7_8 + v8_15)), (8, .int v8_15)]) X dX7_free_149 (by decide) [1, 2, 3, 4, 5, 6, 7, 0, 8] rfl rfl ?_
                  refine r_iload (pc' := 153) X dX7_free_151 7 rfl rfl ?_
                  refine r_iload (pc' := 155) X dX7_free_153 7 rfl rfl ?_
                  refine r_aload_n (pc' := 156) X dX7_free_155 rfl 0 rfl rfl ?_
                  refine r_get (pc' := 159) X uX7_free_X7 0 0 dX7_free_156 rfl rfl (by decide) kX7_free_2 rfl rfl ?_
                  refine r_sipush (pc' := 162) X (1216 : Int32) dX7_free_159 (by decide) rfl ?_
                  refine r_ialdK (pc' := 163) (j := 1216) X 1 dX7_free_162 rfl (by decide +kernel) (by decide +kernel) rfl ?_
                  obtain ⟨exJ23, hR, hF⟩ := g_bd hF
                  have hJ23 : ∀ (t22 : Int32), t22 = exJ23 → G 0 0 [oX7 a_z a_mm a_old a_saved_ a_isSaved a_text textLength refused a_far a_marked a_stack top highest overflowed a_command commands at_ fault_ hash, oI a_mm cI 1222 mm] [(0, .ref a_z), (1, .int p1), (2, .int (v2_3 + v8_15)), (3, .int (v3_4 + t18)), (4, .int t20), (5, .int t16), (6, .int (v6_7 + (v8_15 / (4 : Int32))))] 179 [.int t22, .int (v7_8 + v8_15)] := by
                    intro t22 hx; subst hx
                    refine r_iadd (pc' := 180) X dX7_free_179 rfl ?_
                    refine r_istore (pc' := 182) (lv' := [(0, .ref a_z), (1, .int p1), (2, .int (v2_3 + v8_15)), (3, .int (v3_4 + t18)), (4, .int t20), (5, .int t16), (6, .int (v6_7 + (v8_15 / (4 : Int32)))), (7, .int ((v7_8 + v8_15) + t22))]) X dX7_free_180 (by decide) [1, 2, 3, 4, 5, 6, 7, 0] rfl rfl ?_
                    refine r_goto X 28 dX7_free_182 (by decide) ?_
                    cases hF
                    exact ih (v2_3 + v8_15) (v3_4 + t18) t20 t16 (v6_7 + (v8_15 / (4 : Int32))) ((v7_8 + v8_15) + t22) hI28
                  replace hF := hR
                  refine r_icmp_ge (pc' := 166) X 178 dX7_free_163 (by decide) rfl (fun c9 => ?_) (fun c9 => ?_)
                  · replace hF := g_t c9 hF
                    refine r_iconst (pc' := 179) X (0 : Int32) dX7_free_178 (by decide) rfl ?_
                    refine r_sub (lv' := [(0, .ref a_z), (1, .int p1), (2, .int (v2_3 + v8_15)), (3, .int (v3_4 + t18)), (4, .int t20), (5, .int t16), (6, .int (v6_7 + (v8_15 / (4 : Int32))))]) X [0, 1, 2, 3, 4, 5, 6] rfl ?_
                    exact hJ23 (0 : Int32) (Option.some.inj hF)
                  · replace hF := g_f c9 hF
                    refine r_aload_n (pc' := 167) X dX7_free_166 rfl 0 rfl rfl ?_
                    refine r_get (pc' := 170) X uX7_free_X7 0 0 dX7_free_167 rfl rfl (by decide) kX7_free_2 rfl rfl ?_
                    refine r_iconst (pc' := 171) X (0 : Int32) dX7_free_170 (by decide) rfl ?_
                    refine r_iload (pc' := 173) X dX7_free_171 7 rfl rfl ?_
                    refine r_iadd (pc' := 174) X dX7_free_173 rfl ?_
                    obtain ⟨hi24, hF⟩ := g_gt hF
                    refine r_iald (pc' := 175) X 1 dX7_free_174 rfl (g_vi hi24) rfl ?_
                    refine r_goto X 179 dX7_free_175 (by decide) ?_
                    refine r_sub (lv' := [(0, .ref a_z), (1, .int p1), (2, .int (v2_3 + v8_15)), (3, .int (v3_4 + t18)), (4, .int t20), (5, .int t16), (6, .int (v6_7 + (v8_15 / (4 : Int32))))]) X [0, 1, 2, 3, 4, 5, 6] rfl ?_
                    exact hJ23 (mm ((0 : Int32) + (v7_8 + v8_15)).toNatClampNeg) (Option.some.inj hF)
                replace hF := hR
                refine r_icmp_le (pc' := 126) X 131 dX7_free_123 (by decide) rfl (fun c9 => ?_) (fun c9 => ?_)
                · replace hF := g_t c9 hF
                  refine r_iload (pc' := 133) X dX7_free_131 4 rfl rfl ?_
                  refine r_sub (lv' := [(0, .ref a_z), (1, .int p1), (2, .int (v2_3 + v8_15)), (3, .int (v3_4 + t18)), (5, .int t16), (6, .int v6_7), (7, .int v7_8), (8, .int v8_15)]) X [0, 1, 2, 3, 5, 6, 7, 8] rfl ?_
                  exact hJ21 v4_5 (Option.some.inj hF)
                · replace hF := g_f c9 hF
                  refine r_iload (pc' := 128) X dX7_free_126 8 rfl rfl ?_
                  refine r_goto X 133 dX7_free_128 (by decide) ?_
                  refine r_sub (lv' := [(0, .ref a_z), (1, .int p1), (2, .int (v2_3 + v8_15)), (3, .int (v3_4 + t18)), (5, .int t16), (6, .int v6_7), (7, .int v7_8), (8, .int v8_15)]) X [0, 1, 2, 3, 5, 6, 7, 8] rfl ?_
                  exact hJ21 v8_15 (Option.some.inj hF)
              replace hF := hR
              refine r_if_le (pc' := 112) X 116 dX7_free_109 (by decide) rfl (fun c9 => ?_) (fun c9 => ?_)
              · replace hF := g_t c9 hF
                refine r_iconst (pc' := 117) X (0 : Int32) dX7_free_116 (by decide) rfl ?_
                refine r_sub (lv' := [(0, .ref a_z), (1, .int p1), (2, .int (v2_3 + v8_15)), (4, .int v4_5), (5, .int t16), (6, .int v6_7), (7, .int v7_8), (8, .int v8_15)]) X [0, 1, 2, 4, 5, 6, 7, 8] rfl ?_
                exact hJ19 (0 : Int32) (Option.some.inj hF)
              · replace hF := g_f c9 hF
                refine r_iconst (pc' := 113) X (1 : Int32) dX7_free_112 (by decide) rfl ?_
                refine r_goto X 117 dX7_free_113 (by decide) ?_
                refine r_sub (lv' := [(0, .ref a_z), (1, .int p1), (2, .int (v2_3 + v8_15)), (4, .int v4_5), (5, .int t16), (6, .int v6_7), (7, .int v7_8), (8, .int v8_15)]) X [0, 1, 2, 4, 5, 6, 7, 8] rfl ?_
                exact hJ19 (1 : Int32) (Option.some.inj hF)
            replace hF := hR
            refine r_if_le (pc' := 86) X 97 dX7_free_83 (by decide) rfl (fun c9 => ?_) (fun c9 => ?_)
            · replace hF := g_t c9 hF
              refine r_iload (pc' := 99) X dX7_free_97 5 rfl rfl ?_
              refine r_sub (lv' := [(0, .ref a_z), (1, .int p1), (2, .int v2_3), (3, .int v3_4), (4, .int v4_5), (6, .int v6_7), (7, .int v7_8), (8, .int v8_15)]) X [0, 1, 2, 3, 4, 6, 7, 8] rfl ?_
              exact hJ17 v5_6 (Option.some.inj hF)
            · replace hF := g_f c9 hF
              refine r_iload (pc' := 88) X dX7_free_86 5 rfl rfl ?_
              refine r_iconst (pc' := 89) X (-1 : Int32) dX7_free_88 (by decide) rfl ?_
              refine r_icmp_ne (pc' := 92) X 97 dX7_free_89 (by decide) rfl (fun c9 => ?_) (fun c9 => ?_)
              · replace hF := g_f c9 hF
                refine r_iload (pc' := 99) X dX7_free_97 5 rfl rfl ?_
                refine r_sub (lv' := [(0, .ref a_z), (1, .int p1), (2, .int v2_3), (3, .int v3_4), (4, .int v4_5), (6, .int v6_7), (7, .int v7_8), (8, .int v8_15)]) X [0, 1, 2, 3, 4, 6, 7, 8] rfl ?_
                exact hJ17 v5_6 (Option.some.inj hF)
              · replace hF := g_t c9 hF
                refine r_iload (pc' := 94) X dX7_free_92 7 rfl rfl ?_
                refine r_goto X 99 dX7_free_94 (by decide) ?_
                refine r_sub (lv' := [(0, .ref a_z), (1, .int p1), (2, .int v2_3), (3, .int v3_4), (4, .int v4_5), (6, .int v6_7), (7, .int v7_8), (8, .int v8_15)]) X [0, 1, 2, 3, 4, 6, 7, 8] rfl ?_
                exact hJ17 v7_8 (Option.some.inj hF)
          have hL44 : ∀ (fu : Nat) (v8_14 : Int32), g_itn (FX7_free_L44 mm v7_8) fu v8_14 = some ex44 → G 0 0 [oX7 a_z a_mm a_old a_saved_ a_isSaved a_text textLength refused a_far a_marked a_stack top highest overflowed a_command commands at_ fault_ hash, oI a_mm cI 1222 mm] [(0, .ref a_z), (1, .int p1), (2, .int v2_3), (3, .int v3_4), (4, .int v4_5), (5, .int v5_6), (6, .int v6_7), (7, .int v7_8), (8, .int v8_14)] 44 [] := by
            intro fu
            induction fu with
            | zero => intro v8_14 h9; exact (g_it0 h9).elim
            | succ fu ih =>
              intro v8_14 h9
              obtain ⟨y44, hF, hI44⟩ := g_its h9
              unfold FX7_free_L44 at hF
              refine r_iload (pc' := 46) X dX7_free_44 7 rfl rfl ?_
              refine r_iload (pc' := 48) X dX7_free_46 8 rfl rfl ?_
              refine r_iadd (pc' := 49) X dX7_free_48 rfl ?_
              refine r_aload_n (pc' := 50) X dX7_free_49 rfl 0 rfl rfl ?_
              refine r_get (pc' := 53) X uX7_free_X7 0 0 dX7_free_50 rfl rfl (by decide) kX7_free_2 rfl rfl ?_
              refine r_sipush (pc' := 56) X (1216 : Int32) dX7_free_53 (by decide) rfl ?_
              refine r_ialdK (pc' := 57) (j := 1216) X 1 dX7_free_56 rfl (by decide +kernel) (by decide +kernel) rfl ?_
              refine r_icmp_ge (pc' := 60) X 81 dX7_free_57 (by decide) rfl (fun c9 => ?_) (fun c9 => ?_)
              · replace hF := g_t c9 hF
                cases hF
                exact hE44 v8_14 hI44
              · replace hF := g_f c9 hF
                refine r_aload_n (pc' := 61) X dX7_free_60 rfl 0 rfl rfl ?_
                refine r_get (pc' := 64) X uX7_free_X7 0 0 dX7_free_61 rfl rfl (by decide) kX7_free_2 rfl rfl ?_
                refine r_iconst (pc' := 65) X (0 : Int32) dX7_free_64 (by decide) rfl ?_
                refine r_iload (pc' := 67) X dX7_free_65 7 rfl rfl ?_
                refine r_iadd (pc' := 68) X dX7_free_67 rfl ?_
                refine r_iload (pc' := 70) X dX7_free_68 8 rfl rfl ?_
                refine r_iadd (pc' := 71) X dX7_free_70 rfl ?_
                obtain ⟨hi25, hF⟩ := g_gt hF
                refine r_iald (pc' := 72) X 1 dX7_free_71 rfl (g_vi hi25) rfl ?_
                refine r_if_ne (pc' := 75) X 81 dX7_free_72 (by decide) rfl (fun c9 => ?_) (fun c9 => ?_)
                · replace hF := g_f c9 hF
                  cases hF
                  exact hE44 v8_14 hI44
                · replace hF := g_t c9 hF
                  refine r_iinc (pc' := 78) (lv' := [(0, .ref a_z), (1, .int p1), (2, .int v2_3), (3, .int v3_4), (4, .int v4_5), (5, .int v5_6), (6, .int v6_7), (7, .int v7_8), (8, .int (v8_14 + (1 : Int32)))]) X (v8_14 + (1 : Int32)) dX7_free_75 8 rfl (congrArg (fun z => v8_14 + z) (by decide)) (by decide) [1, 2, 3, 4, 5, 6, 7, 8, 0] rfl rfl ?_
                  refine r_goto X 44 dX7_free_78 (by decide) ?_
                  cases hF
                  exact ih (v8_14 + (1 : Int32)) hI44
          exact hL44 g_fuel (0 : Int32) hR
    exact hL28 g_fuel (0 : Int32) (0 : Int32) (0 : Int32) (-1 : Int32) (0 : Int32) (0 : Int32) hR
  · replace hF := g_t c9 hF
    refine r_ldc (pc' := 11) X dX7_free_9 kX7_free_1 rfl ?_
    cases hF
    exact RT.1 0 0 _ _ _ _ .int rfl rfl dX7_free_11 ⟨rfl, rfl⟩ (Nat.le_refl 0) (Nat.le_refl 0)
theorem kX7_type_2 : Cond.fieldLink RX7 126 "IslandHeapModel" "textLength" "I" ∈ wsX7_type := List.mem_of_getElem? (i := 2) (by decide +kernel)
theorem kX7_type_4 : Cond.fieldLink RX7 23 "IslandHeapModel" "text" "[I" ∈ wsX7_type := List.mem_of_getElem? (i := 4) (by decide +kernel)
theorem kX7_type_3 : Cond.constant RX7 59 (-1000004) ∈ wsX7_type := List.mem_of_getElem? (i := 3) (by decide +kernel)
theorem kX7_type_1 : Cond.constant RX7 50 (-1000002) ∈ wsX7_type := List.mem_of_getElem? (i := 1) (by decide +kernel)
theorem uX7_type_X7 : ∀ w ∈ u_ws RX7 TX7 18, w ∈ wsX7_type := by decide +kernel
set_option maxHeartbeats 4000000 in
set_option maxRecDepth 100000 in
theorem mX7_type (D : va_G) (cI cZ cH : ClassId) (a_z : Nat) (a_text : Nat) (a_mm : Nat) (a_old : Nat) (a_saved_ : Nat) (a_isSaved : Nat) (a_far : Nat) (a_marked : Nat) (a_stack : Nat) (a_command : Nat) (textLength : Int32) (refused : Int32) (top : Int32) (highest : Int32) (overflowed : Int32) (commands : Int32) (at_ : Int32) (fault_ : Int32) (hash : Int64) (text : Nat → Int32) (p1 : Int32) (r0 : Int32) (w_textLength : Int32) (w_text : Nat → Int32) (hF : FX7_type textLength text p1 = some (r0, w_textLength, w_text)) : g_CM yX7_type wsX7_type ({ frames := 1, cells := 0, slots := 0, locals := 22 }) D cI cZ cH [.ref a_z, .int p1] [oX7 a_z a_mm a_old a_saved_ a_isSaved a_text textLength refused a_far a_marked a_stack top highest overflowed a_command commands at_ fault_ hash, oI a_text cI 80 text] 0 0 (g_Tm (some (.int r0)) [oX7 a_z a_mm a_old a_saved_ a_isSaved a_text w_textLength refused a_far a_marked a_stack top highest overflowed a_command commands at_ fault_ hash, oI a_text cI 80 w_text]) := by
  refine g_met (own := RX7) (mn := "type") (cc := cX7_type) (maxL := 2) (ret := (some .int)) rfl rfl (by decide +kernel) rfl (Nat.le_of_ble_eq_true rfl) (fun G X RT => ?_)
  show G 0 0 [oX7 a_z a_mm a_old a_saved_ a_isSaved a_text textLength refused a_far a_marked a_stack top highest overflowed a_command commands at_ fault_ hash, oI a_text cI 80 text] [(0, .ref a_z), (1, .int p1)] 0 []
  unfold FX7_type at hF
  refine r_iload_n (pc' := 1) X dX7_type_0 rfl 1 rfl rfl ?_
  refine r_iconst (pc' := 2) X (0 : Int32) dX7_type_1 (by decide) rfl ?_
  refine r_bipush (pc' := 4) X (127 : Int32) dX7_type_2 (by decide) rfl ?_
  obtain ⟨r1, hc2, hF⟩ := g_bd hF
  refine r_callSF (pc' := 7) (ws' := [oX7 a_z a_mm a_old a_saved_ a_isSaved a_text textLength refused a_far a_marked a_stack top highest overflowed a_command commands at_ fault_ hash, oI a_text cI 80 text]) (st' := [.int r1]) X (mX7_in D cI cZ cH p1 (0 : Int32) (127 : Int32) r1 hc2) 3 gX7_type_X7_in rfl (by decide +kernel) rfl rfl ⟨Nat.le_of_ble_eq_true rfl, Nat.le_of_ble_eq_true rfl⟩ ⟨Nat.le_of_ble_eq_true rfl, Nat.le_of_ble_eq_true rfl⟩ rfl (Nat.le_of_ble_eq_true rfl) dX7_type_4 [] rfl rfl rfl rfl rfl rfl ?_
  refine r_if_ne (pc' := 10) X 13 dX7_type_7 (by decide) rfl (fun c9 => ?_) (fun c9 => ?_)
  · replace hF := g_f c9 hF
    refine r_aload_n (pc' := 14) X dX7_type_13 rfl 0 rfl rfl ?_
    refine r_get (pc' := 17) X uX7_type_X7 0 5 dX7_type_14 rfl rfl (by decide) kX7_type_2 rfl rfl ?_
    refine r_bipush (pc' := 19) X (80 : Int32) dX7_type_17 (by decide) rfl ?_
    refine r_icmp_ne (pc' := 22) X 25 dX7_type_19 (by decide) rfl (fun c9 => ?_) (fun c9 => ?_)
    · replace hF := g_f c9 hF
      refine r_aload_n (pc' := 26) X dX7_type_25 rfl 0 rfl rfl ?_
      refine r_get (pc' := 29) X uX7_type_X7 0 4 dX7_type_26 rfl rfl (by decide) kX7_type_4 rfl rfl ?_
      refine r_aload_n (pc' := 30) X dX7_type_29 rfl 0 rfl rfl ?_
      refine r_get (pc' := 33) X uX7_type_X7 0 5 dX7_type_30 rfl rfl (by decide) kX7_type_2 rfl rfl ?_
      refine r_iload_n (pc' := 34) X dX7_type_33 rfl 1 rfl rfl ?_
      obtain ⟨hi3, hF⟩ := g_gt hF
      refine r_iast (pc' := 35) (ws' := [oX7 a_z a_mm a_old a_saved_ a_isSaved a_text textLength refused a_far a_marked a_stack top highest overflowed a_command commands at_ fault_ hash, oI a_text cI 80 (upd text textLength.toNatClampNeg p1)]) X 1 dX7_type_34 rfl (g_vi hi3) rfl rfl ?_
      refine r_aload_n (pc' := 36) X dX7_type_35 rfl 0 rfl rfl ?_
      refine r_dup (pc' := 37) X dX7_type_36 rfl rfl ?_
      refine r_get (pc' := 40) X uX7_type_X7 0 5 dX7_type_37 rfl rfl (by decide) kX7_type_2 rfl rfl ?_
      refine r_iconst (pc' := 41) X (1 : Int32) dX7_type_40 (by decide) rfl ?_
      refine r_iadd (pc' := 42) X dX7_type_41 rfl ?_
      refine r_put (pc' := 45) (ty := .int) (ws' := [oX7 a_z a_mm a_old a_saved_ a_isSaved a_text (textLength + (1 : Int32)) refused a_far a_marked a_stack top highest overflowed a_command commands at_ fault_ hash, oI a_text cI 80 (upd text textLength.toNatClampNeg p1)]) X uX7_type_X7 0 5 tyX7 tyX7_ok nmX7 dX7_type_42 rfl rfl (by decide) kX7_type_2 rfl (by decide +kernel) rfl rfl (Nat.le_of_ble_eq_true rfl) rfl rfl ?_
      refine r_aload_n (pc' := 46) X dX7_type_45 rfl 0 rfl rfl ?_
      refine r_get (pc' := 49) X uX7_type_X7 0 5 dX7_type_46 rfl rfl (by decide) kX7_type_2 rfl rfl ?_
      cases hF
      exact RT.1 0 0 _ _ _ _ .int rfl rfl dX7_type_49 ⟨rfl, rfl⟩ (Nat.le_refl 0) (Nat.le_refl 0)
    · replace hF := g_t c9 hF
      refine r_ldc (pc' := 24) X dX7_type_22 kX7_type_3 rfl ?_
      cases hF
      exact RT.1 0 0 _ _ _ _ .int rfl rfl dX7_type_24 ⟨rfl, rfl⟩ (Nat.le_refl 0) (Nat.le_refl 0)
  · replace hF := g_t c9 hF
    refine r_ldc (pc' := 12) X dX7_type_10 kX7_type_1 rfl ?_
    cases hF
    exact RT.1 0 0 _ _ _ _ .int rfl rfl dX7_type_12 ⟨rfl, rfl⟩ (Nat.le_refl 0) (Nat.le_refl 0)
theorem kX7_clearText_1 : Cond.fieldLink RX7 126 "IslandHeapModel" "textLength" "I" ∈ wsX7_clearText := List.mem_of_getElem? (i := 1) (by decide +kernel)
theorem uX7_clearText_X7 : ∀ w ∈ u_ws RX7 TX7 18, w ∈ wsX7_clearText := by decide +kernel
set_option maxHeartbeats 4000000 in
set_option maxRecDepth 100000 in
theorem mX7_clearText (D : va_G) (cI cZ cH : ClassId) (a_z : Nat) (a_mm : Nat) (a_old : Nat) (a_saved_ : Nat) (a_isSaved : Nat) (a_text : Nat) (a_far : Nat) (a_marked : Nat) (a_stack : Nat) (a_command : Nat) (textLength : Int32) (refused : Int32) (top : Int32) (highest : Int32) (overflowed : Int32) (commands : Int32) (at_ : Int32) (fault_ : Int32) (hash : Int64) (r0 : Int32) (w_textLength : Int32) (hF : FX7_clearText textLength = some (r0, w_textLength)) : g_CM yX7_clearText wsX7_clearText ({ frames := 0, cells := 0, slots := 0, locals := 0 }) D cI cZ cH [.ref a_z] [oX7 a_z a_mm a_old a_saved_ a_isSaved a_text textLength refused a_far a_marked a_stack top highest overflowed a_command commands at_ fault_ hash] 0 0 (g_Tm (some (.int r0)) [oX7 a_z a_mm a_old a_saved_ a_isSaved a_text w_textLength refused a_far a_marked a_stack top highest overflowed a_command commands at_ fault_ hash]) := by
  refine g_met (own := RX7) (mn := "clearText") (cc := cX7_clearText) (maxL := 2) (ret := (some .int)) rfl rfl (by decide +kernel) rfl (Nat.le_of_ble_eq_true rfl) (fun G X RT => ?_)
  show G 0 0 [oX7 a_z a_mm a_old a_saved_ a_isSaved a_text textLength refused a_far a_marked a_stack top highest overflowed a_command commands at_ fault_ hash] [(0, .ref a_z)] 0 []
  unfold FX7_clearText at hF
  refine r_aload_n (pc' := 1) X dX7_clearText_0 rfl 0 rfl rfl ?_
  refine r_get (pc' := 4) X uX7_clearText_X7 0 5 dX7_clearText_1 rfl rfl (by decide) kX7_clearText_1 rfl rfl ?_
  refine r_istore_n (pc' := 5) (lv' := [(0, .ref a_z), (1, .int textLength)]) X dX7_clearText_4 rfl (by decide) [1, 0] rfl rfl ?_
  refine r_aload_n (pc' := 6) X dX7_clearText_5 rfl 0 rfl rfl ?_
  refine r_iconst (pc' := 7) X (0 : Int32) dX7_clearText_6 (by decide) rfl ?_
  refine r_put (pc' := 10) (ty := .int) (ws' := [oX7 a_z a_mm a_old a_saved_ a_isSaved a_text (0 : Int32) refused a_far a_marked a_stack top highest overflowed a_command commands at_ fault_ hash]) X uX7_clearText_X7 0 5 tyX7 tyX7_ok nmX7 dX7_clearText_7 rfl rfl (by decide) kX7_clearText_1 rfl (by decide +kernel) rfl rfl (Nat.le_of_ble_eq_true rfl) rfl rfl ?_
  refine r_iload_n (pc' := 11) X dX7_clearText_10 rfl 1 rfl rfl ?_
  cases hF
  exact RT.1 0 0 _ _ _ _ .int rfl rfl dX7_clearText_11 ⟨rfl, rfl⟩ (Nat.le_refl 0) (Nat.le_refl 0)
theorem kX7_next__1 : Cond.fieldLink RX7 129 "IslandHeapModel" "at" "I" ∈ wsX7_next_ := List.mem_of_getElem? (i := 1) (by decide +kernel)
theorem kX7_next__2 : Cond.fieldLink RX7 126 "IslandHeapModel" "textLength" "I" ∈ wsX7_next_ := List.mem_of_getElem? (i := 2) (by decide +kernel)
theorem kX7_next__3 : Cond.fieldLink RX7 23 "IslandHeapModel" "text" "[I" ∈ wsX7_next_ := List.mem_of_getElem? (i := 3) (by decide +kernel)
theorem uX7_next__X7 : ∀ w ∈ u_ws RX7 TX7 18, w ∈ wsX7_next_ := by decide +kernel
set_option maxHeartbeats 4000000 in
set_option maxRecDepth 100000 in
theorem mX7_next_ (D : va_G) (cI cZ cH : ClassId) (a_z : Nat) (a_text : Nat) (a_mm : Nat) (a_old : Nat) (a_saved_ : Nat) (a_isSaved : Nat) (a_far : Nat) (a_marked : Nat) (a_stack : Nat) (a_command : Nat) (textLength : Int32) (refused : Int32) (top : Int32) (highest : Int32) (overflowed : Int32) (commands : Int32) (at_ : Int32) (fault_ : Int32) (hash : Int64) (text : Nat → Int32) (r0 : Int32) (hF : FX7_next_ textLength at_ text = some r0) : g_CM yX7_next_ wsX7_next_ ({ frames := 0, cells := 0, slots := 0, locals := 0 }) D cI cZ cH [.ref a_z] [oX7 a_z a_mm a_old a_saved_ a_isSaved a_text textLength refused a_far a_marked a_stack top highest overflowed a_command commands at_ fault_ hash, oI a_text cI 80 text] 0 0 (g_Tm (some (.int r0)) [oX7 a_z a_mm a_old a_saved_ a_isSaved a_text textLength refused a_far a_marked a_stack top highest overflowed a_command commands at_ fault_ hash, oI a_text cI 80 text]) := by
  refine g_met (own := RX7) (mn := "next") (cc := cX7_next_) (maxL := 1) (ret := (some .int)) rfl rfl (by decide +kernel) rfl (Nat.le_of_ble_eq_true rfl) (fun G X RT => ?_)
  show G 0 0 [oX7 a_z a_mm a_old a_saved_ a_isSaved a_text textLength refused a_far a_marked a_stack top highest overflowed a_command commands at_ fault_ hash, oI a_text cI 80 text] [(0, .ref a_z)] 0 []
  unfold FX7_next_ at hF
  refine r_aload_n (pc' := 1) X dX7_next__0 rfl 0 rfl rfl ?_
  refine r_get (pc' := 4) X uX7_next__X7 0 15 dX7_next__1 rfl rfl (by decide) kX7_next__1 rfl rfl ?_
  refine r_aload_n (pc' := 5) X dX7_next__4 rfl 0 rfl rfl ?_
  refine r_get (pc' := 8) X uX7_next__X7 0 5 dX7_next__5 rfl rfl (by decide) kX7_next__2 rfl rfl ?_
  refine r_icmp_ge (pc' := 11) X 23 dX7_next__8 (by decide) rfl (fun c9 => ?_) (fun c9 => ?_)
  · replace hF := g_t c9 hF
    refine r_iconst (pc' := 24) X (-1 : Int32) dX7_next__23 (by decide) rfl ?_
    cases hF
    exact RT.1 0 0 _ _ _ _ .int rfl rfl dX7_next__24 ⟨rfl, rfl⟩ (Nat.le_refl 0) (Nat.le_refl 0)
  · replace hF := g_f c9 hF
    refine r_aload_n (pc' := 12) X dX7_next__11 rfl 0 rfl rfl ?_
    refine r_get (pc' := 15) X uX7_next__X7 0 4 dX7_next__12 rfl rfl (by decide) kX7_next__3 rfl rfl ?_
    refine r_aload_n (pc' := 16) X dX7_next__15 rfl 0 rfl rfl ?_
    refine r_get (pc' := 19) X uX7_next__X7 0 15 dX7_next__16 rfl rfl (by decide) kX7_next__1 rfl rfl ?_
    obtain ⟨hi1, hF⟩ := g_gt hF
    refine r_iald (pc' := 20) X 1 dX7_next__19 rfl (g_vi hi1) rfl ?_
    refine r_goto X 24 dX7_next__20 (by decide) ?_
    cases hF
    exact RT.1 0 0 _ _ _ _ .int rfl rfl dX7_next__24 ⟨rfl, rfl⟩ (Nat.le_refl 0) (Nat.le_refl 0)
theorem kX7_blanks_1 : Cond.fieldLink RX7 129 "IslandHeapModel" "at" "I" ∈ wsX7_blanks := List.mem_of_getElem? (i := 1) (by decide +kernel)
theorem uX7_blanks_X7 : ∀ w ∈ u_ws RX7 TX7 18, w ∈ wsX7_blanks := by decide +kernel
set_option maxHeartbeats 4000000 in
set_option maxRecDepth 100000 in
theorem mX7_blanks (D : va_G) (cI cZ cH : ClassId) (a_z : Nat) (a_text : Nat) (a_mm : Nat) (a_old : Nat) (a_saved_ : Nat) (a_isSaved : Nat) (a_far : Nat) (a_marked : Nat) (a_stack : Nat) (a_command : Nat) (textLength : Int32) (refused : Int32) (top : Int32) (highest : Int32) (overflowed : Int32) (commands : Int32) (at_ : Int32) (fault_ : Int32) (hash : Int64) (text : Nat → Int32) (w_at_ : Int32) (hF : FX7_blanks textLength at_ text = some w_at_) : g_CM yX7_blanks wsX7_blanks ({ frames := 1, cells := 0, slots := 0, locals := 20 }) D cI cZ cH [.ref a_z] [oX7 a_z a_mm a_old a_saved_ a_isSaved a_text textLength refused a_far a_marked a_stack top highest overflowed a_command commands at_ fault_ hash, oI a_text cI 80 text] 0 0 (g_Tm (none) [oX7 a_z a_mm a_old a_saved_ a_isSaved a_text textLength refused a_far a_marked a_stack top highest overflowed a_command commands w_at_ fault_ hash, oI a_text cI 80 text]) := by
  refine g_met (own := RX7) (mn := "blanks") (cc := cX7_blanks) (maxL := 1) (ret := none) rfl rfl (by decide +kernel) rfl (Nat.le_of_ble_eq_true rfl) (fun G X RT => ?_)
  show G 0 0 [oX7 a_z a_mm a_old a_saved_ a_isSaved a_text textLength refused a_far a_marked a_stack top highest overflowed a_command commands at_ fault_ hash, oI a_text cI 80 text] [(0, .ref a_z)] 0 []
  unfold FX7_blanks at hF
  obtain ⟨ex0, hR, hF⟩ := g_bd hF
  have hE0 : ∀ (at_2 : Int32), at_2 = ex0 → G 0 0 [oX7 a_z a_mm a_old a_saved_ a_isSaved a_text textLength refused a_far a_marked a_stack top highest overflowed a_command commands at_2 fault_ hash, oI a_text cI 80 text] [] 22 [] := by
    intro at_2 hx; subst hx
    cases hF
    exact RT.2.2 0 0 _ _ _ rfl dX7_blanks_22 ⟨rfl, rfl⟩ (Nat.le_refl 0) (Nat.le_refl 0)
  have hL0 : ∀ (fu : Nat) (at_1 : Int32), g_itn (FX7_blanks_L0 textLength text) fu at_1 = some ex0 → G 0 0 [oX7 a_z a_mm a_old a_saved_ a_isSaved a_text textLength refused a_far a_marked a_stack top highest overflowed a_command commands at_1 fault_ hash, oI a_text cI 80 text] [(0, .ref a_z)] 0 [] := by
    intro fu
    induction fu with
    | zero => intro at_1 h9; exact (g_it0 h9).elim
    | succ fu ih =>
      intro at_1 h9
      obtain ⟨y0, hF, hI0⟩ := g_its h9
      unfold FX7_blanks_L0 at hF
      refine r_aload_n (pc' := 1) X dX7_blanks_0 rfl 0 rfl rfl ?_
      obtain ⟨r3, hc4, hF⟩ := g_bd hF
      refine r_callVF (pc' := 4) (ws' := [oX7 a_z a_mm a_old a_saved_ a_isSaved a_text textLength refused a_far a_marked a_stack top highest overflowed a_command commands at_1 fault_ hash, oI a_text cI 80 text]) (st' := [.int r3]) X (mX7_next_ D cI cZ cH a_z a_text a_mm a_old a_saved_ a_isSaved a_far a_marked a_stack a_command textLength refused top highest overflowed commands at_1 fault_ hash text r3 hc4) 0 gX7_blanks_X7_next_ rfl (by decide +kernel) rfl rfl ⟨Nat.le_of_ble_eq_true rfl, Nat.le_of_ble_eq_true rfl⟩ ⟨Nat.le_of_ble_eq_true rfl, Nat.le_of_ble_eq_true rfl⟩ rfl (Nat.le_of_ble_eq_true rfl) dX7_blanks_1 0 rfl rfl [0, 1] rfl rfl rfl rfl rfl rfl ?_
      refine r_bipush (pc' := 6) X (32 : Int32) dX7_blanks_4 (by decide) rfl ?_
      refine r_icmp_ne (pc' := 9) X 22 dX7_blanks_6 (by decide) rfl (fun c9 => ?_) (fun c9 => ?_)
      · replace hF := g_f c9 hF
        cases hF
        refine r_sub (lv' := []) X [] rfl ?_
        exact hE0 at_1 hI0
      · replace hF := g_t c9 hF
        refine r_aload_n (pc' := 10) X dX7_blanks_9 rfl 0 rfl rfl ?_
        refine r_dup (pc' := 11) X dX7_blanks_10 rfl rfl ?_
        refine r_get (pc' := 14) X uX7_blanks_X7 0 15 dX7_blanks_11 rfl rfl (by decide) kX7_blanks_1 rfl rfl ?_
        refine r_iconst (pc' := 15) X (1 : Int32) dX7_blanks_14 (by decide) rfl ?_
        refine r_iadd (pc' := 16) X dX7_blanks_15 rfl ?_
        refine r_put (pc' := 19) (ty := .int) (ws' := [oX7 a_z a_mm a_old a_saved_ a_isSaved a_text textLength refused a_far a_marked a_stack top highest overflowed a_command commands (at_1 + (1 : Int32)) fault_ hash, oI a_text cI 80 text]) X uX7_blanks_X7 0 15 tyX7 tyX7_ok nmX7 dX7_blanks_16 rfl rfl (by decide) kX7_blanks_1 rfl (by decide +kernel) rfl rfl (Nat.le_of_ble_eq_true rfl) rfl rfl ?_
        refine r_goto X 0 dX7_blanks_19 (by decide) ?_
        cases hF
        exact ih (at_1 + (1 : Int32)) hI0
  exact hL0 g_fuel at_ hR
theorem kX7_fails_1 : Cond.fieldLink RX7 135 "IslandHeapModel" "fault" "I" ∈ wsX7_fails := List.mem_of_getElem? (i := 1) (by decide +kernel)
theorem kX7_fails_2 : Cond.fieldLink RX7 129 "IslandHeapModel" "at" "I" ∈ wsX7_fails := List.mem_of_getElem? (i := 2) (by decide +kernel)
theorem uX7_fails_X7 : ∀ w ∈ u_ws RX7 TX7 18, w ∈ wsX7_fails := by decide +kernel
set_option maxHeartbeats 4000000 in
set_option maxRecDepth 100000 in
theorem mX7_fails (D : va_G) (cI cZ cH : ClassId) (a_z : Nat) (a_mm : Nat) (a_old : Nat) (a_saved_ : Nat) (a_isSaved : Nat) (a_text : Nat) (a_far : Nat) (a_marked : Nat) (a_stack : Nat) (a_command : Nat) (textLength : Int32) (refused : Int32) (top : Int32) (highest : Int32) (overflowed : Int32) (commands : Int32) (at_ : Int32) (fault_ : Int32) (hash : Int64) (w_fault_ : Int32) (hF : FX7_fails at_ fault_ = some w_fault_) : g_CM yX7_fails wsX7_fails ({ frames := 0, cells := 0, slots := 0, locals := 0 }) D cI cZ cH [.ref a_z] [oX7 a_z a_mm a_old a_saved_ a_isSaved a_text textLength refused a_far a_marked a_stack top highest overflowed a_command commands at_ fault_ hash] 0 0 (g_Tm (none) [oX7 a_z a_mm a_old a_saved_ a_isSaved a_text textLength refused a_far a_marked a_stack top highest overflowed a_command commands at_ w_fault_ hash]) := by
  refine g_met (own := RX7) (mn := "fails") (cc := cX7_fails) (maxL := 1) (ret := none) rfl rfl (by decide +kernel) rfl (Nat.le_of_ble_eq_true rfl) (fun G X RT => ?_)
  show G 0 0 [oX7 a_z a_mm a_old a_saved_ a_isSaved a_text textLength refused a_far a_marked a_stack top highest overflowed a_command commands at_ fault_ hash] [(0, .ref a_z)] 0 []
  unfold FX7_fails at hF
  refine r_aload_n (pc' := 1) X dX7_fails_0 rfl 0 rfl rfl ?_
  refine r_aload_n (pc' := 2) X dX7_fails_1 rfl 0 rfl rfl ?_
  refine r_get (pc' := 5) X uX7_fails_X7 0 16 dX7_fails_2 rfl rfl (by decide) kX7_fails_1 rfl rfl ?_
  refine r_iconst (pc' := 6) X (-1 : Int32) dX7_fails_5 (by decide) rfl ?_
  obtain ⟨exJ2, hR, hF⟩ := g_bd hF
  have hJ2 : ∀ (t1 : Int32), t1 = exJ2 → G 0 0 [oX7 a_z a_mm a_old a_saved_ a_isSaved a_text textLength refused a_far a_marked a_stack top highest overflowed a_command commands at_ fault_ hash] [] 20 [.int t1, .ref a_z] := by
    intro t1 hx; subst hx
    refine r_put (pc' := 23) (ty := .int) (ws' := [oX7 a_z a_mm a_old a_saved_ a_isSaved a_text textLength refused a_far a_marked a_stack top highest overflowed a_command commands at_ t1 hash]) X uX7_fails_X7 0 16 tyX7 tyX7_ok nmX7 dX7_fails_20 rfl rfl (by decide) kX7_fails_1 rfl (by decide +kernel) rfl rfl (Nat.le_of_ble_eq_true rfl) rfl rfl ?_
    cases hF
    exact RT.2.2 0 0 _ _ _ rfl dX7_fails_23 ⟨rfl, rfl⟩ (Nat.le_refl 0) (Nat.le_refl 0)
  replace hF := hR
  refine r_icmp_ne (pc' := 9) X 16 dX7_fails_6 (by decide) rfl (fun c9 => ?_) (fun c9 => ?_)
  · replace hF := g_f c9 hF
    refine r_aload_n (pc' := 17) X dX7_fails_16 rfl 0 rfl rfl ?_
    refine r_get (pc' := 20) X uX7_fails_X7 0 16 dX7_fails_17 rfl rfl (by decide) kX7_fails_1 rfl rfl ?_
    refine r_sub (lv' := []) X [] rfl ?_
    exact hJ2 fault_ (Option.some.inj hF)
  · replace hF := g_t c9 hF
    refine r_aload_n (pc' := 10) X dX7_fails_9 rfl 0 rfl rfl ?_
    refine r_get (pc' := 13) X uX7_fails_X7 0 15 dX7_fails_10 rfl rfl (by decide) kX7_fails_2 rfl rfl ?_
    refine r_goto X 20 dX7_fails_13 (by decide) ?_
    refine r_sub (lv' := []) X [] rfl ?_
    exact hJ2 at_ (Option.some.inj hF)
set_option maxHeartbeats 4000000 in
set_option maxRecDepth 100000 in
theorem mX7_isDigit (D : va_G) (cI cZ cH : ClassId) (a_z : Nat) (a_text : Nat) (a_mm : Nat) (a_old : Nat) (a_saved_ : Nat) (a_isSaved : Nat) (a_far : Nat) (a_marked : Nat) (a_stack : Nat) (a_command : Nat) (textLength : Int32) (refused : Int32) (top : Int32) (highest : Int32) (overflowed : Int32) (commands : Int32) (at_ : Int32) (fault_ : Int32) (hash : Int64) (text : Nat → Int32) (r0 : Int32) (hF : FX7_isDigit textLength at_ text = some r0) : g_CM yX7_isDigit wsX7_isDigit ({ frames := 1, cells := 0, slots := 0, locals := 22 }) D cI cZ cH [.ref a_z] [oX7 a_z a_mm a_old a_saved_ a_isSaved a_text textLength refused a_far a_marked a_stack top highest overflowed a_command commands at_ fault_ hash, oI a_text cI 80 text] 0 0 (g_Tm (some (.int r0)) [oX7 a_z a_mm a_old a_saved_ a_isSaved a_text textLength refused a_far a_marked a_stack top highest overflowed a_command commands at_ fault_ hash, oI a_text cI 80 text]) := by
  refine g_met (own := RX7) (mn := "isDigit") (cc := cX7_isDigit) (maxL := 1) (ret := (some .boolean)) rfl rfl (by decide +kernel) rfl (Nat.le_of_ble_eq_true rfl) (fun G X RT => ?_)
  show G 0 0 [oX7 a_z a_mm a_old a_saved_ a_isSaved a_text textLength refused a_far a_marked a_stack top highest overflowed a_command commands at_ fault_ hash, oI a_text cI 80 text] [(0, .ref a_z)] 0 []
  unfold FX7_isDigit at hF
  refine r_aload_n (pc' := 1) X dX7_isDigit_0 rfl 0 rfl rfl ?_
  obtain ⟨r1, hc2, hF⟩ := g_bd hF
  refine r_callVF (pc' := 4) (ws' := [oX7 a_z a_mm a_old a_saved_ a_isSaved a_text textLength refused a_far a_marked a_stack top highest overflowed a_command commands at_ fault_ hash, oI a_text cI 80 text]) (st' := [.int r1]) X (mX7_next_ D cI cZ cH a_z a_text a_mm a_old a_saved_ a_isSaved a_far a_marked a_stack a_command textLength refused top highest overflowed commands at_ fault_ hash text r1 hc2) 0 gX7_isDigit_X7_next_ rfl (by decide +kernel) rfl rfl ⟨Nat.le_of_ble_eq_true rfl, Nat.le_of_ble_eq_true rfl⟩ ⟨Nat.le_of_ble_eq_true rfl, Nat.le_of_ble_eq_true rfl⟩ rfl (Nat.le_of_ble_eq_true rfl) dX7_isDigit_1 0 rfl rfl [0, 1] rfl rfl rfl rfl rfl rfl ?_
  refine r_bipush (pc' := 6) X (48 : Int32) dX7_isDigit_4 (by decide) rfl ?_
  refine r_bipush (pc' := 8) X (57 : Int32) dX7_isDigit_6 (by decide) rfl ?_
  obtain ⟨r3, hc4, hF⟩ := g_bd hF
  refine r_callSF (pc' := 11) (ws' := [oX7 a_z a_mm a_old a_saved_ a_isSaved a_text textLength refused a_far a_marked a_stack top highest overflowed a_command commands at_ fault_ hash, oI a_text cI 80 text]) (st' := [.int r3]) X (mX7_in D cI cZ cH r1 (48 : Int32) (57 : Int32) r3 hc4) 3 gX7_isDigit_X7_in rfl (by decide +kernel) rfl rfl ⟨Nat.le_of_ble_eq_true rfl, Nat.le_of_ble_eq_true rfl⟩ ⟨Nat.le_of_ble_eq_true rfl, Nat.le_of_ble_eq_true rfl⟩ rfl (Nat.le_of_ble_eq_true rfl) dX7_isDigit_8 [] rfl rfl rfl rfl rfl rfl ?_
  cases hF
  exact RT.1 0 0 _ _ _ _ .boolean rfl (g_nb (n01X7_in hc4)) dX7_isDigit_11 ⟨rfl, rfl⟩ (Nat.le_refl 0) (Nat.le_refl 0)
theorem kX7_digit_1 : Cond.fieldLink RX7 135 "IslandHeapModel" "fault" "I" ∈ wsX7_digit := List.mem_of_getElem? (i := 1) (by decide +kernel)
theorem kX7_digit_2 : Cond.fieldLink RX7 129 "IslandHeapModel" "at" "I" ∈ wsX7_digit := List.mem_of_getElem? (i := 2) (by decide +kernel)
theorem uX7_digit_X7 : ∀ w ∈ u_ws RX7 TX7 18, w ∈ wsX7_digit := by decide +kernel
set_option maxHeartbeats 4000000 in
set_option maxRecDepth 100000 in
theorem mX7_digit (D : va_G) (cI cZ cH : ClassId) (a_z : Nat) (a_text : Nat) (a_mm : Nat) (a_old : Nat) (a_saved_ : Nat) (a_isSaved : Nat) (a_far : Nat) (a_marked : Nat) (a_stack : Nat) (a_command : Nat) (textLength : Int32) (refused : Int32) (top : Int32) (highest : Int32) (overflowed : Int32) (commands : Int32) (at_ : Int32) (fault_ : Int32) (hash : Int64) (text : Nat → Int32) (r0 : Int32) (w_at_ : Int32) (w_fault_ : Int32) (hF : FX7_digit textLength at_ fault_ text = some (r0, w_at_, w_fault_)) : g_CM yX7_digit wsX7_digit ({ frames := 2, cells := 0, slots := 0, locals := 42 }) D cI cZ cH [.ref a_z] [oX7 a_z a_mm a_old a_saved_ a_isSaved a_text textLength refused a_far a_marked a_stack top highest overflowed a_command commands at_ fault_ hash, oI a_text cI 80 text] 0 0 (g_Tm (some (.int r0)) [oX7 a_z a_mm a_old a_saved_ a_isSaved a_text textLength refused a_far a_marked a_stack top highest overflowed a_command commands w_at_ w_fault_ hash, oI a_text cI 80 text]) := by
  refine g_met (own := RX7) (mn := "digit") (cc := cX7_digit) (maxL := 2) (ret := (some .int)) rfl rfl (by decide +kernel) rfl (Nat.le_of_ble_eq_true rfl) (fun G X RT => ?_)
  show G 0 0 [oX7 a_z a_mm a_old a_saved_ a_isSaved a_text textLength refused a_far a_marked a_stack top highest overflowed a_command commands at_ fault_ hash, oI a_text cI 80 text] [(0, .ref a_z)] 0 []
  unfold FX7_digit at hF
  refine r_aload_n (pc' := 1) X dX7_digit_0 rfl 0 rfl rfl ?_
  obtain ⟨r1, hc2, hF⟩ := g_bd hF
  refine r_callVF (pc' := 4) (ws' := [oX7 a_z a_mm a_old a_saved_ a_isSaved a_text textLength refused a_far a_marked a_stack top highest overflowed a_command commands at_ fault_ hash, oI a_text cI 80 text]) (st' := [.int r1]) X (mX7_next_ D cI cZ cH a_z a_text a_mm a_old a_saved_ a_isSaved a_far a_marked a_stack a_command textLength refused top highest overflowed commands at_ fault_ hash text r1 hc2) 0 gX7_digit_X7_next_ rfl (by decide +kernel) rfl rfl ⟨Nat.le_of_ble_eq_true rfl, Nat.le_of_ble_eq_true rfl⟩ ⟨Nat.le_of_ble_eq_true rfl, Nat.le_of_ble_eq_true rfl⟩ rfl (Nat.le_of_ble_eq_true rfl) dX7_digit_1 0 rfl rfl [0, 1] rfl rfl rfl rfl rfl rfl ?_
  refine r_bipush (pc' := 6) X (48 : Int32) dX7_digit_4 (by decide) rfl ?_
  refine r_isub (pc' := 7) X dX7_digit_6 rfl ?_
  refine r_istore_n (pc' := 8) (lv' := [(0, .ref a_z), (1, .int (r1 - (48 : Int32)))]) X dX7_digit_7 rfl (by decide) [1, 0] rfl rfl ?_
  refine r_aload_n (pc' := 9) X dX7_digit_8 rfl 0 rfl rfl ?_
  refine r_get (pc' := 12) X uX7_digit_X7 0 16 dX7_digit_9 rfl rfl (by decide) kX7_digit_1 rfl rfl ?_
  refine r_iconst (pc' := 13) X (-1 : Int32) dX7_digit_12 (by decide) rfl ?_
  refine r_icmp_ne (pc' := 16) X 23 dX7_digit_13 (by decide) rfl (fun c9 => ?_) (fun c9 => ?_)
  · replace hF := g_f c9 hF
    refine r_aload_n (pc' := 24) X dX7_digit_23 rfl 0 rfl rfl ?_
    obtain ⟨fault_3, hc4, hF⟩ := g_bd hF
    refine r_callVF (pc' := 27) (ws' := [oX7 a_z a_mm a_old a_saved_ a_isSaved a_text textLength refused a_far a_marked a_stack top highest overflowed a_command commands at_ fault_3 hash, oI a_text cI 80 text]) (st' := []) X (mX7_fails D cI cZ cH a_z a_mm a_old a_saved_ a_isSaved a_text a_far a_marked a_stack a_command textLength refused top highest overflowed commands at_ fault_ hash fault_3 hc4) 0 gX7_digit_X7_fails rfl (by decide +kernel) rfl rfl ⟨Nat.le_of_ble_eq_true rfl, Nat.le_of_ble_eq_true rfl⟩ ⟨Nat.le_of_ble_eq_true rfl, Nat.le_of_ble_eq_true rfl⟩ rfl (Nat.le_of_ble_eq_true rfl) dX7_digit_24 0 rfl rfl [0] rfl rfl rfl rfl rfl rfl ?_
    refine r_iconst (pc' := 28) X (0 : Int32) dX7_digit_27 (by decide) rfl ?_
    cases hF
    exact RT.1 0 0 _ _ _ _ .int rfl rfl dX7_digit_28 ⟨rfl, rfl⟩ (Nat.le_refl 0) (Nat.le_refl 0)
  · replace hF := g_t c9 hF
    refine r_aload_n (pc' := 17) X dX7_digit_16 rfl 0 rfl rfl ?_
    obtain ⟨r5, hc6, hF⟩ := g_bd hF
    refine r_callVF (pc' := 20) (ws' := [oX7 a_z a_mm a_old a_saved_ a_isSaved a_text textLength refused a_far a_marked a_stack top highest overflowed a_command commands at_ fault_ hash, oI a_text cI 80 text]) (st' := [.int r5]) X (mX7_isDigit D cI cZ cH a_z a_text a_mm a_old a_saved_ a_isSaved a_far a_marked a_stack a_command textLength refused top highest overflowed commands at_ fault_ hash text r5 hc6) 0 gX7_digit_X7_isDigit rfl (by decide +kernel) rfl rfl ⟨Nat.le_of_ble_eq_true rfl, Nat.le_of_ble_eq_true rfl⟩ ⟨Nat.le_of_ble_eq_true rfl, Nat.le_of_ble_eq_true rfl⟩ rfl (Nat.le_of_ble_eq_true rfl) dX7_digit_17 0 rfl rfl [0, 1] rfl rfl rfl rfl rfl rfl ?_
    refine r_if_ne (pc' := 23) X 29 dX7_digit_20 (by decide) rfl (fun c9 => ?_) (fun c9 => ?_)
    · replace hF := g_f c9 hF
      refine r_aload_n (pc' := 30) X dX7_digit_29 rfl 0 rfl rfl ?_
      refine r_dup (pc' := 31) X dX7_digit_30 rfl rfl ?_
      refine r_get (pc' := 34) X uX7_digit_X7 0 15 dX7_digit_31 rfl rfl (by decide) kX7_digit_2 rfl rfl ?_
      refine r_iconst (pc' := 35) X (1 : Int32) dX7_digit_34 (by decide) rfl ?_
      refine r_iadd (pc' := 36) X dX7_digit_35 rfl ?_
      refine r_put (pc' := 39) (ty := .int) (ws' := [oX7 a_z a_mm a_old a_saved_ a_isSaved a_text textLength refused a_far a_marked a_stack top highest overflowed a_command commands (at_ + (1 : Int32)) fault_ hash, oI a_text cI 80 text]) X uX7_digit_X7 0 15 tyX7 tyX7_ok nmX7 dX7_digit_36 rfl rfl (by decide) kX7_digit_2 rfl (by decide +kernel) rfl rfl (Nat.le_of_ble_eq_true rfl) rfl rfl ?_
      refine r_aload_n (pc' := 40) X dX7_digit_39 rfl 0 rfl rfl ?_
      obtain ⟨at_7, hc8, hF⟩ := g_bd hF
      refine r_callVF (pc' := 43) (ws' := [oX7 a_z a_mm a_old a_saved_ a_isSaved a_text textLength refused a_far a_marked a_stack top highest overflowed a_command commands at_7 fault_ hash, oI a_text cI 80 text]) (st' := []) X (mX7_blanks D cI cZ cH a_z a_text a_mm a_old a_saved_ a_isSaved a_far a_marked a_stack a_command textLength refused top highest overflowed commands (at_ + (1 : Int32)) fault_ hash text at_7 hc8) 0 gX7_digit_X7_blanks rfl (by decide +kernel) rfl rfl ⟨Nat.le_of_ble_eq_true rfl, Nat.le_of_ble_eq_true rfl⟩ ⟨Nat.le_of_ble_eq_true rfl, Nat.le_of_ble_eq_true rfl⟩ rfl (Nat.le_of_ble_eq_true rfl) dX7_digit_40 0 rfl rfl [0, 1] rfl rfl rfl rfl rfl rfl ?_
      refine r_iload_n (pc' := 44) X dX7_digit_43 rfl 1 rfl rfl ?_
      cases hF
      exact RT.1 0 0 _ _ _ _ .int rfl rfl dX7_digit_44 ⟨rfl, rfl⟩ (Nat.le_refl 0) (Nat.le_refl 0)
    · replace hF := g_t c9 hF
      refine r_aload_n (pc' := 24) X dX7_digit_23 rfl 0 rfl rfl ?_
      obtain ⟨fault_9, hc10, hF⟩ := g_bd hF
      refine r_callVF (pc' := 27) (ws' := [oX7 a_z a_mm a_old a_saved_ a_isSaved a_text textLength refused a_far a_marked a_stack top highest overflowed a_command commands at_ fault_9 hash, oI a_text cI 80 text]) (st' := []) X (mX7_fails D cI cZ cH a_z a_mm a_old a_saved_ a_isSaved a_text a_far a_marked a_stack a_command textLength refused top highest overflowed commands at_ fault_ hash fault_9 hc10) 0 gX7_digit_X7_fails rfl (by decide +kernel) rfl rfl ⟨Nat.le_of_ble_eq_true rfl, Nat.le_of_ble_eq_true rfl⟩ ⟨Nat.le_of_ble_eq_true rfl, Nat.le_of_ble_eq_true rfl⟩ rfl (Nat.le_of_ble_eq_true rfl) dX7_digit_24 0 rfl rfl [0] rfl rfl rfl rfl rfl rfl ?_
      refine r_iconst (pc' := 28) X (0 : Int32) dX7_digit_27 (by decide) rfl ?_
      cases hF
      exact RT.1 0 0 _ _ _ _ .int rfl rfl dX7_digit_28 ⟨rfl, rfl⟩ (Nat.le_refl 0) (Nat.le_refl 0)
theorem kX7_number_1 : Cond.fieldLink RX7 129 "IslandHeapModel" "at" "I" ∈ wsX7_number := List.mem_of_getElem? (i := 1) (by decide +kernel)
theorem kX7_number_2 : Cond.fieldLink RX7 135 "IslandHeapModel" "fault" "I" ∈ wsX7_number := List.mem_of_getElem? (i := 2) (by decide +kernel)
theorem uX7_number_X7 : ∀ w ∈ u_ws RX7 TX7 18, w ∈ wsX7_number := by decide +kernel
set_option maxHeartbeats 4000000 in
set_option maxRecDepth 100000 in
theorem mX7_number (D : va_G) (cI cZ cH : ClassId) (a_z : Nat) (a_text : Nat) (a_mm : Nat) (a_old : Nat) (a_saved_ : Nat) (a_isSaved : Nat) (a_far : Nat) (a_marked : Nat) (a_stack : Nat) (a_command : Nat) (textLength : Int32) (refused : Int32) (top : Int32) (highest : Int32) (overflowed : Int32) (commands : Int32) (at_ : Int32) (fault_ : Int32) (hash : Int64) (text : Nat → Int32) (r0 : Int32) (w_at_ : Int32) (w_fault_ : Int32) (hF : FX7_number textLength at_ fault_ text = some (r0, w_at_, w_fault_)) : g_CM yX7_number wsX7_number ({ frames := 2, cells := 0, slots := 0, locals := 42 }) D cI cZ cH [.ref a_z] [oX7 a_z a_mm a_old a_saved_ a_isSaved a_text textLength refused a_far a_marked a_stack top highest overflowed a_command commands at_ fault_ hash, oI a_text cI 80 text] 0 0 (g_Tm (some (.int r0)) [oX7 a_z a_mm a_old a_saved_ a_isSaved a_text textLength refused a_far a_marked a_stack top highest overflowed a_command commands w_at_ w_fault_ hash, oI a_text cI 80 text]) := by
  refine g_met (own := RX7) (mn := "number") (cc := cX7_number) (maxL := 3) (ret := (some .int)) rfl rfl (by decide +kernel) rfl (Nat.le_of_ble_eq_true rfl) (fun G X RT => ?_)
  show G 0 0 [oX7 a_z a_mm a_old a_saved_ a_isSaved a_text textLength refused a_far a_marked a_stack top highest overflowed a_command commands at_ fault_ hash, oI a_text cI 80 text] [(0, .ref a_z)] 0 []
  unfold FX7_number at hF
  refine r_aload_n (pc' := 1) X dX7_number_0 rfl 0 rfl rfl ?_
  refine r_get (pc' := 4) X uX7_number_X7 0 15 dX7_number_1 rfl rfl (by decide) kX7_number_1 rfl rfl ?_
  refine r_istore_n (pc' := 5) (lv' := [(0, .ref a_z), (1, .int at_)]) X dX7_number_4 rfl (by decide) [1, 0] rfl rfl ?_
  refine r_iconst (pc' := 6) X (0 : Int32) dX7_number_5 (by decide) rfl ?_
  refine r_istore_n (pc' := 7) (lv' := [(0, .ref a_z), (1, .int at_), (2, .int (0 : Int32))]) X dX7_number_6 rfl (by decide) [1, 2, 0] rfl rfl ?_
  obtain ⟨ex7, hR, hF⟩ := g_bd hF
  have hE7 : ∀ (v2_3 : Int32) (at_4 : Int32), (v2_3, at_4) = ex7 → G 0 0 [oX7 a_z a_mm a_old a_saved_ a_isSaved a_text textLength refused a_far a_marked a_stack top highest overflowed a_command commands at_4 fault_ hash, oI a_text cI 80 text] [(0, .ref a_z), (1, .int at_), (2, .int v2_3)] 58 [] := by
    intro v2_3 at_4 hx; subst hx
    refine r_aload_n (pc' := 59) X dX7_number_58 rfl 0 rfl rfl ?_
    refine r_get (pc' := 62) X uX7_number_X7 0 15 dX7_number_59 rfl rfl (by decide) kX7_number_1 rfl rfl ?_
    refine r_iload_n (pc' := 63) X dX7_number_62 rfl 1 rfl rfl ?_
    obtain ⟨exJ6, hR, hF⟩ := g_bd hF
    have hJ6 : ∀ (fault_5 : Int32), fault_5 = exJ6 → G 0 0 [oX7 a_z a_mm a_old a_saved_ a_isSaved a_text textLength refused a_far a_marked a_stack top highest overflowed a_command commands at_4 fault_5 hash, oI a_text cI 80 text] [(0, .ref a_z), (2, .int v2_3)] 77 [] := by
      intro fault_5 hx; subst hx
      refine r_aload_n (pc' := 78) X dX7_number_77 rfl 0 rfl rfl ?_
      obtain ⟨at_7, hc8, hF⟩ := g_bd hF
      refine r_callVF (pc' := 81) (ws' := [oX7 a_z a_mm a_old a_saved_ a_isSaved a_text textLength refused a_far a_marked a_stack top highest overflowed a_command commands at_7 fault_5 hash, oI a_text cI 80 text]) (st' := []) X (mX7_blanks D cI cZ cH a_z a_text a_mm a_old a_saved_ a_isSaved a_far a_marked a_stack a_command textLength refused top highest overflowed commands at_4 fault_5 hash text at_7 hc8) 0 gX7_number_X7_blanks rfl (by decide +kernel) rfl rfl ⟨Nat.le_of_ble_eq_true rfl, Nat.le_of_ble_eq_true rfl⟩ ⟨Nat.le_of_ble_eq_true rfl, Nat.le_of_ble_eq_true rfl⟩ rfl (Nat.le_of_ble_eq_true rfl) dX7_number_78 0 rfl rfl [0, 1] rfl rfl rfl rfl rfl rfl ?_
      refine r_iload_n (pc' := 82) X dX7_number_81 rfl 1 rfl rfl ?_
      cases hF
      exact RT.1 0 0 _ _ _ _ .int rfl rfl dX7_number_82 ⟨rfl, rfl⟩ (Nat.le_refl 0) (Nat.le_refl 0)
    replace hF := hR
    refine r_icmp_eq (pc' := 66) X 73 dX7_number_63 (by decide) rfl (fun c9 => ?_) (fun c9 => ?_)
    · replace hF := g_t c9 hF
      refine r_aload_n (pc' := 74) X dX7_number_73 rfl 0 rfl rfl ?_
      obtain ⟨fault_9, hc10, hF⟩ := g_bd hF
      refine r_callVF (pc' := 77) (ws' := [oX7 a_z a_mm a_old a_saved_ a_isSaved a_text textLength refused a_far a_marked a_stack top highest overflowed a_command commands at_4 fault_9 hash, oI a_text cI 80 text]) (st' := []) X (mX7_fails D cI cZ cH a_z a_mm a_old a_saved_ a_isSaved a_text a_far a_marked a_stack a_command textLength refused top highest overflowed commands at_4 fault_ hash fault_9 hc10) 0 gX7_number_X7_fails rfl (by decide +kernel) rfl rfl ⟨Nat.le_of_ble_eq_true rfl, Nat.le_of_ble_eq_true rfl⟩ ⟨Nat.le_of_ble_eq_true rfl, Nat.le_of_ble_eq_true rfl⟩ rfl (Nat.le_of_ble_eq_true rfl) dX7_number_74 0 rfl rfl [0] rfl rfl rfl rfl rfl rfl ?_
      refine r_sub (lv' := [(0, .ref a_z), (2, .int v2_3)]) X [0, 2] rfl ?_
      exact hJ6 fault_9 (Option.some.inj hF)
    · replace hF := g_f c9 hF
      refine r_aload_n (pc' := 67) X dX7_number_66 rfl 0 rfl rfl ?_
      obtain ⟨r11, hc12, hF⟩ := g_bd hF
      refine r_callVF (pc' := 70) (ws' := [oX7 a_z a_mm a_old a_saved_ a_isSaved a_text textLength refused a_far a_marked a_stack top highest overflowed a_command commands at_4 fault_ hash, oI a_text cI 80 text]) (st' := [.int r11]) X (mX7_isDigit D cI cZ cH a_z a_text a_mm a_old a_saved_ a_isSaved a_far a_marked a_stack a_command textLength refused top highest overflowed commands at_4 fault_ hash text r11 hc12) 0 gX7_number_X7_isDigit rfl (by decide +kernel) rfl rfl ⟨Nat.le_of_ble_eq_true rfl, Nat.le_of_ble_eq_true rfl⟩ ⟨Nat.le_of_ble_eq_true rfl, Nat.le_of_ble_eq_true rfl⟩ rfl (Nat.le_of_ble_eq_true rfl) dX7_number_67 0 rfl rfl [0, 1] rfl rfl rfl rfl rfl rfl ?_
      refine r_if_eq (pc' := 73) X 77 dX7_number_70 (by decide) rfl (fun c9 => ?_) (fun c9 => ?_)
      · replace hF := g_t c9 hF
        refine r_sub (lv' := [(0, .ref a_z), (2, .int v2_3)]) X [0, 2] rfl ?_
        exact hJ6 fault_ (Option.some.inj hF)
      · replace hF := g_f c9 hF
        refine r_aload_n (pc' := 74) X dX7_number_73 rfl 0 rfl rfl ?_
        obtain ⟨fault_13, hc14, hF⟩ := g_bd hF
        refine r_callVF (pc' := 77) (ws' := [oX7 a_z a_mm a_old a_saved_ a_isSaved a_text textLength refused a_far a_marked a_stack top highest overflowed a_command commands at_4 fault_13 hash, oI a_text cI 80 text]) (st' := []) X (mX7_fails D cI cZ cH a_z a_mm a_old a_saved_ a_isSaved a_text a_far a_marked a_stack a_command textLength refused top highest overflowed commands at_4 fault_ hash fault_13 hc14) 0 gX7_number_X7_fails rfl (by decide +kernel) rfl rfl ⟨Nat.le_of_ble_eq_true rfl, Nat.le_of_ble_eq_true rfl⟩ ⟨Nat.le_of_ble_eq_true rfl, Nat.le_of_ble_eq_true rfl⟩ rfl (Nat.le_of_ble_eq_true rfl) dX7_number_74 0 rfl rfl [0] rfl rfl rfl rfl rfl rfl ?_
        refine r_sub (lv' := [(0, .ref a_z), (2, .int v2_3)]) X [0, 2] rfl ?_
        exact hJ6 fault_13 (Option.some.inj hF)
  have hL7 : ∀ (fu : Nat) (v2_1 : Int32) (at_2 : Int32), g_itn (FX7_number_L7 textLength at_ fault_ text) fu (v2_1, at_2) = some ex7 → G 0 0 [oX7 a_z a_mm a_old a_saved_ a_isSaved a_text textLength refused a_far a_marked a_stack top highest overflowed a_command commands at_2 fault_ hash, oI a_text cI 80 text] [(0, .ref a_z), (1, .int at_), (2, .int v2_1)] 7 [] := by
    intro fu
    induction fu with
    | zero => intro v2_1 at_2 h9; exact (g_it0 h9).elim
    | succ fu ih =>
      intro v2_1 at_2 h9
      obtain ⟨y7, hF, hI7⟩ := g_its h9
      unfold FX7_number_L7 at hF
      refine r_aload_n (pc' := 8) X dX7_number_7 rfl 0 rfl rfl ?_
      refine r_get (pc' := 11) X uX7_number_X7 0 16 dX7_number_8 rfl rfl (by decide) kX7_number_2 rfl rfl ?_
      refine r_iconst (pc' := 12) X (-1 : Int32) dX7_number_11 (by decide) rfl ?_
      refine r_icmp_ne (pc' := 15) X 58 dX7_number_12 (by decide) rfl (fun c9 => ?_) (fun c9 => ?_)
      · replace hF := g_f c9 hF
        cases hF
        exact hE7 v2_1 at_2 hI7
      · replace hF := g_t c9 hF
        refine r_aload_n (pc' := 16) X dX7_number_15 rfl 0 rfl rfl ?_
        obtain ⟨r15, hc16, hF⟩ := g_bd hF
        refine r_callVF (pc' := 19) (ws' := [oX7 a_z a_mm a_old a_saved_ a_isSaved a_text textLength refused a_far a_marked a_stack top highest overflowed a_command commands at_2 fault_ hash, oI a_text cI 80 text]) (st' := [.int r15]) X (mX7_isDigit D cI cZ cH a_z a_text a_mm a_old a_saved_ a_isSaved a_far a_marked a_stack a_command textLength refused top highest overflowed commands at_2 fault_ hash text r15 hc16) 0 gX7_number_X7_isDigit rfl (by decide +kernel) rfl rfl ⟨Nat.le_of_ble_eq_true rfl, Nat.le_of_ble_eq_true rfl⟩ ⟨Nat.le_of_ble_eq_true rfl, Nat.le_of_ble_eq_true rfl⟩ rfl (Nat.le_of_ble_eq_true rfl) dX7_number_16 0 rfl rfl [0, 1] rfl rfl rfl rfl rfl rfl ?_
        refine r_if_eq (pc' := 22) X 58 dX7_number_19 (by decide) rfl (fun c9 => ?_) (fun c9 => ?_)
        · replace hF := g_t c9 hF
          cases hF
          exact hE7 v2_1 at_2 hI7
        · replace hF := g_f c9 hF
          refine r_aload_n (pc' := 23) X dX7_number_22 rfl 0 rfl rfl ?_
          refine r_get (pc' := 26) X uX7_number_X7 0 15 dX7_number_23 rfl rfl (by decide) kX7_number_1 rfl rfl ?_
          refine r_iload_n (pc' := 27) X dX7_number_26 rfl 1 rfl rfl ?_
          refine r_iconst (pc' := 28) X (3 : Int32) dX7_number_27 (by decide) rfl ?_
          refine r_iadd (pc' := 29) X dX7_number_28 rfl ?_
          refine r_icmp_ge (pc' := 32) X 58 dX7_number_29 (by decide) rfl (fun c9 => ?_) (fun c9 => ?_)
          · replace hF := g_t c9 hF
            cases hF
            exact hE7 v2_1 at_2 hI7
          · replace hF := g_f c9 hF
            refine r_bipush (pc' := 34) X (10 : Int32) dX7_number_32 (by decide) rfl ?_
            refine r_iload_n (pc' := 35) X dX7_number_34 rfl 2 rfl rfl ?_
            refine r_imul (pc' := 36) X dX7_number_35 rfl ?_
            refine r_aload_n (pc' := 37) X dX7_number_36 rfl 0 rfl rfl ?_
            obtain ⟨r17, hc18, hF⟩ := g_bd hF
            refine r_callVF (pc' := 40) (ws' := [oX7 a_z a_mm a_old a_saved_ a_isSaved a_text textLength refused a_far a_marked a_stack top highest overflowed a_command commands at_2 fault_ hash, oI a_text cI 80 text]) (st' := [.int r17, .int ((10 : Int32) * v2_1)]) X (mX7_next_ D cI cZ cH a_z a_text a_mm a_old a_saved_ a_isSaved a_far a_marked a_stack a_command textLength refused top highest overflowed commands at_2 fault_ hash text r17 hc18) 0 gX7_number_X7_next_ rfl (by decide +kernel) rfl rfl ⟨Nat.le_of_ble_eq_true rfl, Nat.le_of_ble_eq_true rfl⟩ ⟨Nat.le_of_ble_eq_true rfl, Nat.le_of_ble_eq_true rfl⟩ rfl (Nat.le_of_ble_eq_true rfl) dX7_number_37 0 rfl rfl [0, 1] rfl rfl rfl rfl rfl rfl ?_
            refine r_iadd (pc' := 41) X dX7_number_40 rfl ?_
            refine r_bipush (pc' := 43) X (48 : Int32) dX7_number_41 (by decide) rfl ?_
            refine r_isub (pc' := 44) X dX7_number_43 rfl ?_
            refine r_istore_n (pc' := 45) (lv' := [(0, .ref a_z), (1, .int at_), (2, .int ((((10 : Int32) * v2_1) + r17) - (48 : Int32)))]) X dX7_number_44 rfl (by decide) [1, 2, 0] rfl rfl ?_
            refine r_aload_n (pc' := 46) X dX7_number_45 rfl 0 rfl rfl ?_
            refine r_dup (pc' := 47) X dX7_number_46 rfl rfl ?_
            refine r_get (pc' := 50) X uX7_number_X7 0 15 dX7_number_47 rfl rfl (by decide) kX7_number_1 rfl rfl ?_
            refine r_iconst (pc' := 51) X (1 : Int32) dX7_number_50 (by decide) rfl ?_
            refine r_iadd (pc' := 52) X dX7_number_51 rfl ?_
            refine r_put (pc' := 55) (ty := .int) (ws' := [oX7 a_z a_mm a_old a_saved_ a_isSaved a_text textLength refused a_far a_marked a_stack top highest overflowed a_command commands (at_2 + (1 : Int32)) fault_ hash, oI a_text cI 80 text]) X uX7_number_X7 0 15 tyX7 tyX7_ok nmX7 dX7_number_52 rfl rfl (by decide) kX7_number_1 rfl (by decide +kernel) rfl rfl (Nat.le_of_ble_eq_true rfl) rfl rfl ?_
            refine r_goto X 7 dX7_number_55 (by decide) ?_
            cases hF
            exact ih ((((10 : Int32) * v2_1) + r17) - (48 : Int32)) (at_2 + (1 : Int32)) hI7
  exact hL7 g_fuel (0 : Int32) at_ hR
theorem kX7_place_1 : Cond.fieldLink RX7 135 "IslandHeapModel" "fault" "I" ∈ wsX7_place := List.mem_of_getElem? (i := 1) (by decide +kernel)
theorem kX7_place_2 : Cond.fieldLink RX7 129 "IslandHeapModel" "at" "I" ∈ wsX7_place := List.mem_of_getElem? (i := 2) (by decide +kernel)
theorem uX7_place_X7 : ∀ w ∈ u_ws RX7 TX7 18, w ∈ wsX7_place := by decide +kernel
set_option maxHeartbeats 4000000 in
set_option maxRecDepth 100000 in
theorem mX7_place (D : va_G) (cI cZ cH : ClassId) (a_z : Nat) (a_text : Nat) (a_mm : Nat) (a_old : Nat) (a_saved_ : Nat) (a_isSaved : Nat) (a_far : Nat) (a_marked : Nat) (a_stack : Nat) (a_command : Nat) (textLength : Int32) (refused : Int32) (top : Int32) (highest : Int32) (overflowed : Int32) (commands : Int32) (at_ : Int32) (fault_ : Int32) (hash : Int64) (text : Nat → Int32) (r0 : Int32) (w_at_ : Int32) (w_fault_ : Int32) (hF : FX7_place textLength at_ fault_ text = some (r0, w_at_, w_fault_)) : g_CM yX7_place wsX7_place ({ frames := 3, cells := 0, slots := 0, locals := 64 }) D cI cZ cH [.ref a_z] [oX7 a_z a_mm a_old a_saved_ a_isSaved a_text textLength refused a_far a_marked a_stack top highest overflowed a_command commands at_ fault_ hash, oI a_text cI 80 text] 0 0 (g_Tm (some (.int r0)) [oX7 a_z a_mm a_old a_saved_ a_isSaved a_text textLength refused a_far a_marked a_stack top highest overflowed a_command commands w_at_ w_fault_ hash, oI a_text cI 80 text]) := by
  refine g_met (own := RX7) (mn := "place") (cc := cX7_place) (maxL := 1) (ret := (some .int)) rfl rfl (by decide +kernel) rfl (Nat.le_of_ble_eq_true rfl) (fun G X RT => ?_)
  show G 0 0 [oX7 a_z a_mm a_old a_saved_ a_isSaved a_text textLength refused a_far a_marked a_stack top highest overflowed a_command commands at_ fault_ hash, oI a_text cI 80 text] [(0, .ref a_z)] 0 []
  unfold FX7_place at hF
  refine r_aload_n (pc' := 1) X dX7_place_0 rfl 0 rfl rfl ?_
  refine r_get (pc' := 4) X uX7_place_X7 0 16 dX7_place_1 rfl rfl (by decide) kX7_place_1 rfl rfl ?_
  refine r_iconst (pc' := 5) X (-1 : Int32) dX7_place_4 (by decide) rfl ?_
  refine r_icmp_ne (pc' := 8) X 33 dX7_place_5 (by decide) rfl (fun c9 => ?_) (fun c9 => ?_)
  · replace hF := g_f c9 hF
    refine r_aload_n (pc' := 34) X dX7_place_33 rfl 0 rfl rfl ?_
    obtain ⟨⟨r1, at_2, fault_3⟩, hc4, hF⟩ := g_bd hF
    refine r_callVF (pc' := 37) (ws' := [oX7 a_z a_mm a_old a_saved_ a_isSaved a_text textLength refused a_far a_marked a_stack top highest overflowed a_command commands at_2 fault_3 hash, oI a_text cI 80 text]) (st' := [.int r1]) X (mX7_number D cI cZ cH a_z a_text a_mm a_old a_saved_ a_isSaved a_far a_marked a_stack a_command textLength refused top highest overflowed commands at_ fault_ hash text r1 at_2 fault_3 hc4) 0 gX7_place_X7_number rfl (by decide +kernel) rfl rfl ⟨Nat.le_of_ble_eq_true rfl, Nat.le_of_ble_eq_true rfl⟩ ⟨Nat.le_of_ble_eq_true rfl, Nat.le_of_ble_eq_true rfl⟩ rfl (Nat.le_of_ble_eq_true rfl) dX7_place_34 0 rfl rfl [0, 1] rfl rfl rfl rfl rfl rfl ?_
    cases hF
    exact RT.1 0 0 _ _ _ _ .int rfl rfl dX7_place_37 ⟨rfl, rfl⟩ (Nat.le_refl 0) (Nat.le_refl 0)
  · replace hF := g_t c9 hF
    refine r_aload_n (pc' := 9) X dX7_place_8 rfl 0 rfl rfl ?_
    obtain ⟨r5, hc6, hF⟩ := g_bd hF
    refine r_callVF (pc' := 12) (ws' := [oX7 a_z a_mm a_old a_saved_ a_isSaved a_text textLength refused a_far a_marked a_stack top highest overflowed a_command commands at_ fault_ hash, oI a_text cI 80 text]) (st' := [.int r5]) X (mX7_next_ D cI cZ cH a_z a_text a_mm a_old a_saved_ a_isSaved a_far a_marked a_stack a_command textLength refused top highest overflowed commands at_ fault_ hash text r5 hc6) 0 gX7_place_X7_next_ rfl (by decide +kernel) rfl rfl ⟨Nat.le_of_ble_eq_true rfl, Nat.le_of_ble_eq_true rfl⟩ ⟨Nat.le_of_ble_eq_true rfl, Nat.le_of_ble_eq_true rfl⟩ rfl (Nat.le_of_ble_eq_true rfl) dX7_place_9 0 rfl rfl [0, 1] rfl rfl rfl rfl rfl rfl ?_
    refine r_bipush (pc' := 14) X (45 : Int32) dX7_place_12 (by decide) rfl ?_
    refine r_icmp_ne (pc' := 17) X 33 dX7_place_14 (by decide) rfl (fun c9 => ?_) (fun c9 => ?_)
    · replace hF := g_f c9 hF
      refine r_aload_n (pc' := 34) X dX7_place_33 rfl 0 rfl rfl ?_
      obtain ⟨⟨r7, at_8, fault_9⟩, hc10, hF⟩ := g_bd hF
      refine r_callVF (pc' := 37) (ws' := [oX7 a_z a_mm a_old a_saved_ a_isSaved a_text textLength refused a_far a_marked a_stack top highest overflowed a_command commands at_8 fault_9 hash, oI a_text cI 80 text]) (st' := [.int r7]) X (mX7_number D cI cZ cH a_z a_text a_mm a_old a_saved_ a_isSaved a_far a_marked a_stack a_command textLength refused top highest overflowed commands at_ fault_ hash text r7 at_8 fault_9 hc10) 0 gX7_place_X7_number rfl (by decide +kernel) rfl rfl ⟨Nat.le_of_ble_eq_true rfl, Nat.le_of_ble_eq_true rfl⟩ ⟨Nat.le_of_ble_eq_true rfl, Nat.le_of_ble_eq_true rfl⟩ rfl (Nat.le_of_ble_eq_true rfl) dX7_place_34 0 rfl rfl [0, 1] rfl rfl rfl rfl rfl rfl ?_
      cases hF
      exact RT.1 0 0 _ _ _ _ .int rfl rfl dX7_place_37 ⟨rfl, rfl⟩ (Nat.le_refl 0) (Nat.le_refl 0)
    · replace hF := g_t c9 hF
      refine r_aload_n (pc' := 18) X dX7_place_17 rfl 0 rfl rfl ?_
      refine r_dup (pc' := 19) X dX7_place_18 rfl rfl ?_
      refine r_get (pc' := 22) X uX7_place_X7 0 15 dX7_place_19 rfl rfl (by decide) kX7_place_2 rfl rfl ?_
      refine r_iconst (pc' := 23) X (1 : Int32) dX7_place_22 (by decide) rfl ?_
      refine r_iadd (pc' := 24) X dX7_place_23 rfl ?_
      refine r_put (pc' := 27) (ty := .int) (ws' := [oX7 a_z a_mm a_old a_saved_ a_isSaved a_text textLength refused a_far a_marked a_stack top highest overflowed a_command commands (at_ + (1 : Int32)) fault_ hash, oI a_text cI 80 text]) X uX7_place_X7 0 15 tyX7 tyX7_ok nmX7 dX7_place_24 rfl rfl (by decide) kX7_place_2 rfl (by decide +kernel) rfl rfl (Nat.le_of_ble_eq_true rfl) rfl rfl ?_
      refine r_aload_n (pc' := 28) X dX7_place_27 rfl 0 rfl rfl ?_
      obtain ⟨at_11, hc12, hF⟩ := g_bd hF
      refine r_callVF (pc' := 31) (ws' := [oX7 a_z a_mm a_old a_saved_ a_isSaved a_text textLength refused a_far a_marked a_stack top highest overflowed a_command commands at_11 fault_ hash, oI a_text cI 80 text]) (st' := []) X (mX7_blanks D cI cZ cH a_z a_text a_mm a_old a_saved_ a_isSaved a_far a_marked a_stack a_command textLength refused top highest overflowed commands (at_ + (1 : Int32)) fault_ hash text at_11 hc12) 0 gX7_place_X7_blanks rfl (by decide +kernel) rfl rfl ⟨Nat.le_of_ble_eq_true rfl, Nat.le_of_ble_eq_true rfl⟩ ⟨Nat.le_of_ble_eq_true rfl, Nat.le_of_ble_eq_true rfl⟩ rfl (Nat.le_of_ble_eq_true rfl) dX7_place_28 0 rfl rfl [0, 1] rfl rfl rfl rfl rfl rfl ?_
      refine r_iconst (pc' := 32) X (-1 : Int32) dX7_place_31 (by decide) rfl ?_
      cases hF
      exact RT.1 0 0 _ _ _ _ .int rfl rfl dX7_place_32 ⟨rfl, rfl⟩ (Nat.le_refl 0) (Nat.le_refl 0)
theorem kX7_reads_1 : Cond.fieldLink RX7 151 "IslandHeapModel" "commands" "I" ∈ wsX7_reads := List.mem_of_getElem? (i := 1) (by decide +kernel)
theorem kX7_reads_2 : Cond.fieldLink RX7 39 "IslandHeapModel" "command" "[I" ∈ wsX7_reads := List.mem_of_getElem? (i := 2) (by decide +kernel)
theorem kX7_reads_3 : Cond.fieldLink RX7 129 "IslandHeapModel" "at" "I" ∈ wsX7_reads := List.mem_of_getElem? (i := 3) (by decide +kernel)
theorem kX7_reads_4 : Cond.fieldLink RX7 135 "IslandHeapModel" "fault" "I" ∈ wsX7_reads := List.mem_of_getElem? (i := 4) (by decide +kernel)
theorem uX7_reads_X7 : ∀ w ∈ u_ws RX7 TX7 18, w ∈ wsX7_reads := by decide +kernel
set_option maxHeartbeats 4000000 in
set_option maxRecDepth 100000 in
theorem mX7_reads (D : va_G) (cI cZ cH : ClassId) (a_z : Nat) (a_text : Nat) (a_command : Nat) (a_mm : Nat) (a_old : Nat) (a_saved_ : Nat) (a_isSaved : Nat) (a_far : Nat) (a_marked : Nat) (a_stack : Nat) (textLength : Int32) (refused : Int32) (top : Int32) (highest : Int32) (overflowed : Int32) (commands : Int32) (at_ : Int32) (fault_ : Int32) (hash : Int64) (text : Nat → Int32) (command : Nat → Int32) (w_commands : Int32) (w_at_ : Int32) (w_fault_ : Int32) (w_command : Nat → Int32) (hF : FX7_reads textLength commands at_ fault_ text command = some (w_commands, w_at_, w_fault_, w_command)) : g_CM yX7_reads wsX7_reads ({ frames := 4, cells := 0, slots := 0, locals := 84 }) D cI cZ cH [.ref a_z] [oX7 a_z a_mm a_old a_saved_ a_isSaved a_text textLength refused a_far a_marked a_stack top highest overflowed a_command commands at_ fault_ hash, oI a_text cI 80 text, oI a_command cI 160 command] 0 0 (g_Tm (none) [oX7 a_z a_mm a_old a_saved_ a_isSaved a_text textLength refused a_far a_marked a_stack top highest overflowed a_command w_commands w_at_ w_fault_ hash, oI a_text cI 80 text, oI a_command cI 160 w_command]) := by
  refine g_met (own := RX7) (mn := "reads") (cc := cX7_reads) (maxL := 3) (ret := none) rfl rfl (by decide +kernel) rfl (Nat.le_of_ble_eq_true rfl) (fun G X RT => ?_)
  show G 0 0 [oX7 a_z a_mm a_old a_saved_ a_isSaved a_text textLength refused a_far a_marked a_stack top highest overflowed a_command commands at_ fault_ hash, oI a_text cI 80 text, oI a_command cI 160 command] [(0, .ref a_z)] 0 []
  unfold FX7_reads at hF
  refine r_aload_n (pc' := 1) X dX7_reads_0 rfl 0 rfl rfl ?_
  obtain ⟨r1, hc2, hF⟩ := g_bd hF
  refine r_callVF (pc' := 4) (ws' := [oX7 a_z a_mm a_old a_saved_ a_isSaved a_text textLength refused a_far a_marked a_stack top highest overflowed a_command commands at_ fault_ hash, oI a_text cI 80 text, oI a_command cI 160 command]) (st' := [.int r1]) X (mX7_next_ D cI cZ cH a_z a_text a_mm a_old a_saved_ a_isSaved a_far a_marked a_stack a_command textLength refused top highest overflowed commands at_ fault_ hash text r1 hc2) 0 gX7_reads_X7_next_ rfl (by decide +kernel) rfl rfl ⟨Nat.le_of_ble_eq_true rfl, Nat.le_of_ble_eq_true rfl⟩ ⟨Nat.le_of_ble_eq_true rfl, Nat.le_of_ble_eq_true rfl⟩ rfl (Nat.le_of_ble_eq_true rfl) dX7_reads_1 0 rfl rfl [0, 1] rfl rfl rfl rfl rfl rfl ?_
  refine r_istore_n (pc' := 5) (lv' := [(0, .ref a_z), (1, .int r1)]) X dX7_reads_4 rfl (by decide) [1, 0] rfl rfl ?_
  refine r_iconst (pc' := 6) X (4 : Int32) dX7_reads_5 (by decide) rfl ?_
  refine r_aload_n (pc' := 7) X dX7_reads_6 rfl 0 rfl rfl ?_
  refine r_get (pc' := 10) X uX7_reads_X7 0 14 dX7_reads_7 rfl rfl (by decide) kX7_reads_1 rfl rfl ?_
  refine r_imul (pc' := 11) X dX7_reads_10 rfl ?_
  refine r_istore_n (pc' := 12) (lv' := [(0, .ref a_z), (1, .int r1), (2, .int ((4 : Int32) * commands))]) X dX7_reads_11 rfl (by decide) [1, 2, 0] rfl rfl ?_
  refine r_iload_n (pc' := 13) X dX7_reads_12 rfl 1 rfl rfl ?_
  refine r_bipush (pc' := 15) X (110 : Int32) dX7_reads_13 (by decide) rfl ?_
  have hS59 : ∀ _ : True, FX7_reads_S59 textLength commands at_ fault_ text command r1 = some (w_commands, w_at_, w_fault_, w_command) → G 0 0 [oX7 a_z a_mm a_old a_saved_ a_isSaved a_text textLength refused a_far a_marked a_stack top highest overflowed a_command commands at_ fault_ hash, oI a_text cI 80 text, oI a_command cI 160 command] [(0, .ref a_z), (1, .int r1), (2, .int ((4 : Int32) * commands))] 59 [] := by
    intro _ hF; unfold FX7_reads_S59 at hF
    refine r_aload_n (pc' := 60) X dX7_reads_59 rfl 0 rfl rfl ?_
    refine r_get (pc' := 63) X uX7_reads_X7 0 13 dX7_reads_60 rfl rfl (by decide) kX7_reads_2 rfl rfl ?_
    refine r_iload_n (pc' := 64) X dX7_reads_63 rfl 2 rfl rfl ?_
    refine r_iload_n (pc' := 65) X dX7_reads_64 rfl 1 rfl rfl ?_
    obtain ⟨hi3, hF⟩ := g_gt hF
    refine r_iast (pc' := 66) (ws' := [oX7 a_z a_mm a_old a_saved_ a_isSaved a_text textLength refused a_far a_marked a_stack top highest overflowed a_command commands at_ fault_ hash, oI a_text cI 80 text, oI a_command cI 160 (upd command ((4 : Int32) * commands).toNatClampNeg r1)]) X 2 dX7_reads_65 rfl (g_vi hi3) rfl rfl ?_
    refine r_aload_n (pc' := 67) X dX7_reads_66 rfl 0 rfl rfl ?_
    refine r_dup (pc' := 68) X dX7_reads_67 rfl rfl ?_
    refine r_get (pc' := 71) X uX7_reads_X7 0 15 dX7_reads_68 rfl rfl (by decide) kX7_reads_3 rfl rfl ?_
    refine r_iconst (pc' := 72) X (1 : Int32) dX7_reads_71 (by decide) rfl ?_
    refine r_iadd (pc' := 73) X dX7_reads_72 rfl ?_
    refine r_put (pc' := 76) (ty := .int) (ws' := [oX7 a_z a_mm a_old a_saved_ a_isSaved a_text textLength refused a_far a_marked a_stack top highest overflowed a_command commands (at_ + (1 : Int32)) fault_ hash, oI a_text cI 80 text, oI a_command cI 160 (upd command ((4 : Int32) * commands).toNatClampNeg r1)]) X uX7_reads_X7 0 15 tyX7 tyX7_ok nmX7 dX7_reads_73 rfl rfl (by decide) kX7_reads_3 rfl (by decide +kernel) rfl rfl (Nat.le_of_ble_eq_true rfl) rfl rfl ?_
    refine r_aload_n (pc' := 77) X dX7_reads_76 rfl 0 rfl rfl ?_
    obtain ⟨at_4, hc5, hF⟩ := g_bd hF
    refine r_callVF (pc' := 80) (ws' := [oX7 a_z a_mm a_old a_saved_ a_isSaved a_text textLength refused a_far a_marked a_stack top highest overflowed a_command commands at_4 fault_ hash, oI a_text cI 80 text, oI a_command cI 160 (upd command ((4 : Int32) * commands).toNatClampNeg r1)]) (st' := []) X (mX7_blanks D cI cZ cH a_z a_text a_mm a_old a_saved_ a_isSaved a_far a_marked a_stack a_command textLength refused top highest overflowed commands (at_ + (1 : Int32)) fault_ hash text at_4 hc5) 0 gX7_reads_X7_blanks rfl (by decide +kernel) rfl rfl ⟨Nat.le_of_ble_eq_true rfl, Nat.le_of_ble_eq_true rfl⟩ ⟨Nat.le_of_ble_eq_true rfl, Nat.le_of_ble_eq_true rfl⟩ rfl (Nat.le_of_ble_eq_true rfl) dX7_reads_77 0 rfl rfl [0, 1] rfl rfl rfl rfl rfl rfl ?_
    refine r_iload_n (pc' := 81) X dX7_reads_80 rfl 1 rfl rfl ?_
    refine r_bipush (pc' := 83) X (110 : Int32) dX7_reads_81 (by decide) rfl ?_
    obtain ⟨exJ9, hR, hF⟩ := g_bd hF
    have hJ9 : ∀ (at_6 : Int32) (fault_7 : Int32) (command_8 : Nat → Int32), (at_6, fault_7, command_8) = exJ9 → G 0 0 [oX7 a_z a_mm a_old a_saved_ a_isSaved a_text textLength refused a_far a_marked a_stack top highest overflowed a_command commands at_6 fault_7 hash, oI a_text cI 80 text, oI a_command cI 160 command_8] [(0, .ref a_z)] 215 [] := by
      intro at_6 fault_7 command_8 hx; subst hx
      refine r_aload_n (pc' := 216) X dX7_reads_215 rfl 0 rfl rfl ?_
      refine r_get (pc' := 219) X uX7_reads_X7 0 16 dX7_reads_216 rfl rfl (by decide) kX7_reads_4 rfl rfl ?_
      refine r_iconst (pc' := 220) X (-1 : Int32) dX7_reads_219 (by decide) rfl ?_
      obtain ⟨exJ12, hR, hF⟩ := g_bd hF
      have hJ12 : ∀ (at_10 : Int32) (fault_11 : Int32), (at_10, fault_11) = exJ12 → G 0 0 [oX7 a_z a_mm a_old a_saved_ a_isSaved a_text textLength refused a_far a_marked a_stack top highest overflowed a_command commands at_10 fault_11 hash, oI a_text cI 80 text, oI a_command cI 160 command_8] [(0, .ref a_z)] 253 [] := by
        intro at_10 fault_11 hx; subst hx
        refine r_aload_n (pc' := 254) X dX7_reads_253 rfl 0 rfl rfl ?_
        refine r_dup (pc' := 255) X dX7_reads_254 rfl rfl ?_
        refine r_get (pc' := 258) X uX7_reads_X7 0 14 dX7_reads_255 rfl rfl (by decide) kX7_reads_1 rfl rfl ?_
        refine r_iconst (pc' := 259) X (1 : Int32) dX7_reads_258 (by decide) rfl ?_
        refine r_iadd (pc' := 260) X dX7_reads_259 rfl ?_
        refine r_put (pc' := 263) (ty := .int) (ws' := [oX7 a_z a_mm a_old a_saved_ a_isSaved a_text textLength refused a_far a_marked a_stack top highest overflowed a_command (commands + (1 : Int32)) at_10 fault_11 hash, oI a_text cI 80 text, oI a_command cI 160 command_8]) X uX7_reads_X7 0 14 tyX7 tyX7_ok nmX7 dX7_reads_260 rfl rfl (by decide) kX7_reads_1 rfl (by decide +kernel) rfl rfl (Nat.le_of_ble_eq_true rfl) rfl rfl ?_
        cases hF
        exact RT.2.2 0 0 _ _ _ rfl dX7_reads_263 ⟨rfl, rfl⟩ (Nat.le_refl 0) (Nat.le_refl 0)
      replace hF := hR
      refine r_icmp_ne (pc' := 223) X 249 dX7_reads_220 (by decide) rfl (fun c9 => ?_) (fun c9 => ?_)
      · replace hF := g_f c9 hF
        refine r_aload_n (pc' := 250) X dX7_reads_249 rfl 0 rfl rfl ?_
        obtain ⟨fault_13, hc14, hF⟩ := g_bd hF
        refine r_callVF (pc' := 253) (ws' := [oX7 a_z a_mm a_old a_saved_ a_isSaved a_text textLength refused a_far a_marked a_stack top highest overflowed a_command commands at_6 fault_13 hash, oI a_text cI 80 text, oI a_command cI 160 command_8]) (st' := []) X (mX7_fails D cI cZ cH a_z a_mm a_old a_saved_ a_isSaved a_text a_far a_marked a_stack a_command textLength refused top highest overflowed commands at_6 fault_7 hash fault_13 hc14) 0 gX7_reads_X7_fails rfl (by decide +kernel) rfl rfl ⟨Nat.le_of_ble_eq_true rfl, Nat.le_of_ble_eq_true rfl⟩ ⟨Nat.le_of_ble_eq_true rfl, Nat.le_of_ble_eq_true rfl⟩ rfl (Nat.le_of_ble_eq_true rfl) dX7_reads_250 0 rfl rfl [0] rfl rfl rfl rfl rfl rfl ?_
        exact hJ12 at_6 fault_13 (Option.some.inj hF)
      · replace hF := g_t c9 hF
        refine r_aload_n (pc' := 224) X dX7_reads_223 rfl 0 rfl rfl ?_
        obtain ⟨r15, hc16, hF⟩ := g_bd hF
        refine r_callVF (pc' := 227) (ws' := [oX7 a_z a_mm a_old a_saved_ a_isSaved a_text textLength refused a_far a_marked a_stack top highest overflowed a_command commands at_6 fault_7 hash, oI a_text cI 80 text, oI a_command cI 160 command_8]) (st' := [.int r15]) X (mX7_next_ D cI cZ cH a_z a_text a_mm a_old a_saved_ a_isSaved a_far a_marked a_stack a_command textLength refused top highest overflowed commands at_6 fault_7 hash text r15 hc16) 0 gX7_reads_X7_next_ rfl (by decide +kernel) rfl rfl ⟨Nat.le_of_ble_eq_true rfl, Nat.le_of_ble_eq_true rfl⟩ ⟨Nat.le_of_ble_eq_true rfl, Nat.le_of_ble_eq_true rfl⟩ rfl (Nat.le_of_ble_eq_true rfl) dX7_reads_224 0 rfl rfl [0, 1] rfl rfl rfl rfl rfl rfl ?_
        refine r_bipush (pc' := 229) X (59 : Int32) dX7_reads_227 (by decide) rfl ?_
        refine r_icmp_ne (pc' := 232) X 249 dX7_reads_229 (by decide) rfl (fun c9 => ?_) (fun c9 => ?_)
        · replace hF := g_f c9 hF
          refine r_aload_n (pc' := 250) X dX7_reads_249 rfl 0 rfl rfl ?_
          obtain ⟨fault_17, hc18, hF⟩ := g_bd hF
          refine r_callVF (pc' := 253) (ws' := [oX7 a_z a_mm a_old a_saved_ a_isSaved a_text textLength refused a_far a_marked a_stack top highest overflowed a_command commands at_6 fault_17 hash, oI a_text cI 80 text, oI a_command cI 160 command_8]) (st' := []) X (mX7_fails D cI cZ cH a_z a_mm a_old a_saved_ a_isSaved a_text a_far a_marked a_stack a_command textLength refused top highest overflowed commands at_6 fault_7 hash fault_17 hc18) 0 gX7_reads_X7_fails rfl (by decide +kernel) rfl rfl ⟨Nat.le_of_ble_eq_true rfl, Nat.le_of_ble_eq_true rfl⟩ ⟨Nat.le_of_ble_eq_true rfl, Nat.le_of_ble_eq_true rfl⟩ rfl (Nat.le_of_ble_eq_true rfl) dX7_reads_250 0 rfl rfl [0] rfl rfl rfl rfl rfl rfl ?_
          exact hJ12 at_6 fault_17 (Option.some.inj hF)
        · replace hF := g_t c9 hF
          refine r_aload_n (pc' := 233) X dX7_reads_232 rfl 0 rfl rfl ?_
          refine r_dup (pc' := 234) X dX7_reads_233 rfl rfl ?_
          refine r_get (pc' := 237) X uX7_reads_X7 0 15 dX7_reads_234 rfl rfl (by decide) kX7_reads_3 rfl rfl ?_
          refine r_iconst (pc' := 238) X (1 : Int32) dX7_reads_237 (by decide) rfl ?_
          refine r_iadd (pc' := 239) X dX7_reads_238 rfl ?_
          refine r_put (pc' := 242) (ty := .int) (ws' := [oX7 a_z a_mm a_old a_saved_ a_isSaved a_text textLength refused a_far a_marked a_stack top highest overflowed a_command commands (at_6 + (1 : Int32)) fault_7 hash, oI a_text cI 80 text, oI a_command cI 160 command_8]) X uX7_reads_X7 0 15 tyX7 tyX7_ok nmX7 dX7_reads_239 rfl rfl (by decide) kX7_reads_3 rfl (by decide +kernel) rfl rfl (Nat.le_of_ble_eq_true rfl) rfl rfl ?_
          refine r_aload_n (pc' := 243) X dX7_reads_242 rfl 0 rfl rfl ?_
          obtain ⟨at_19, hc20, hF⟩ := g_bd hF
          refine r_callVF (pc' := 246) (ws' := [oX7 a_z a_mm a_old a_saved_ a_isSaved a_text textLength refused a_far a_marked a_stack top highest overflowed a_command commands at_19 fault_7 hash, oI a_text cI 80 text, oI a_command cI 160 command_8]) (st' := []) X (mX7_blanks D cI cZ cH a_z a_text a_mm a_old a_saved_ a_isSaved a_far a_marked a_stack a_command textLength refused top highest overflowed commands (at_6 + (1 : Int32)) fault_7 hash text at_19 hc20) 0 gX7_reads_X7_blanks rfl (by decide +kernel) rfl rfl ⟨Nat.le_of_ble_eq_true rfl, Nat.le_of_ble_eq_true rfl⟩ ⟨Nat.le_of_ble_eq_true rfl, Nat.le_of_ble_eq_true rfl⟩ rfl (Nat.le_of_ble_eq_true rfl) dX7_reads_243 0 rfl rfl [0, 1] rfl rfl rfl rfl rfl rfl ?_
          refine r_goto X 253 dX7_reads_246 (by decide) ?_
          exact hJ12 at_19 fault_7 (Option.some.inj hF)
    replace hF := hR
    refine r_icmp_ne (pc' := 86) X 113 dX7_reads_83 (by decide) rfl (fun c9 => ?_) (fun c9 => ?_)
    · replace hF := g_f c9 hF
      refine r_iload_n (pc' := 114) X dX7_reads_113 rfl 1 rfl rfl ?_
      refine r_bipush (pc' := 116) X (114 : Int32) dX7_reads_114 (by decide) rfl ?_
      have hS125 : ∀ _ : True, FX7_reads_S125 textLength commands fault_ text command r1 at_4 = some exJ9 → G 0 0 [oX7 a_z a_mm a_old a_saved_ a_isSaved a_text textLength refused a_far a_marked a_stack top highest overflowed a_command commands at_4 fault_ hash, oI a_text cI 80 text, oI a_command cI 160 (upd command ((4 : Int32) * commands).toNatClampNeg r1)] [(0, .ref a_z), (2, .int ((4 : Int32) * commands))] 125 [] := by
        intro _ hF; unfold FX7_reads_S125 at hF
        refine r_aload_n (pc' := 126) X dX7_reads_125 rfl 0 rfl rfl ?_
        refine r_get (pc' := 129) X uX7_reads_X7 0 13 dX7_reads_126 rfl rfl (by decide) kX7_reads_2 rfl rfl ?_
        refine r_iload_n (pc' := 130) X dX7_reads_129 rfl 1 rfl rfl ?_
        refine r_iconst (pc' := 131) X (1 : Int32) dX7_reads_130 (by decide) rfl ?_
        refine r_iadd (pc' := 132) X dX7_reads_131 rfl ?_
        refine r_aload_n (pc' := 133) X dX7_reads_132 rfl 0 rfl rfl ?_
        obtain ⟨⟨r21, at_22, fault_23⟩, hc24, hF⟩ := g_bd hF
        refine r_callVF (pc' := 136) (ws' := [oX7 a_z a_mm a_old a_saved_ a_isSaved a_text textLength refused a_far a_marked a_stack top highest overflowed a_command commands at_22 fault_23 hash, oI a_text cI 80 text, oI a_command cI 160 (upd command ((4 : Int32) * commands).toNatClampNeg r1)]) (st' := [.int r21, .int (((4 : Int32) * commands) + (1 : Int32)), .ref a_command]) X (mX7_digit D cI cZ cH a_z a_text a_mm a_old a_saved_ a_isSaved a_far a_marked a_stack a_command textLength refused top highest overflowed commands at_4 fault_ hash text r21 at_22 fault_23 hc24) 0 gX7_reads_X7_digit rfl (by decide +kernel) rfl rfl ⟨Nat.le_of_ble_eq_true rfl, Nat.le_of_ble_eq_true rfl⟩ ⟨Nat.le_of_ble_eq_true rfl, Nat.le_of_ble_eq_true rfl⟩ rfl (Nat.le_of_ble_eq_true rfl) dX7_reads_133 0 rfl rfl [0, 1] rfl rfl rfl rfl rfl rfl ?_
        obtain ⟨hi25, hF⟩ := g_gt hF
        refine r_iast (pc' := 137) (ws' := [oX7 a_z a_mm a_old a_saved_ a_isSaved a_text textLength refused a_far a_marked a_stack top highest overflowed a_command commands at_22 fault_23 hash, oI a_text cI 80 text, oI a_command cI 160 (upd (upd command ((4 : Int32) * commands).toNatClampNeg r1) (((4 : Int32) * commands) + (1 : Int32)).toNatClampNeg r21)]) X 2 dX7_reads_136 rfl (g_vi hi25) rfl rfl ?_
        refine r_aload_n (pc' := 138) X dX7_reads_137 rfl 0 rfl rfl ?_
        refine r_get (pc' := 141) X uX7_reads_X7 0 13 dX7_reads_138 rfl rfl (by decide) kX7_reads_2 rfl rfl ?_
        refine r_iload_n (pc' := 142) X dX7_reads_141 rfl 1 rfl rfl ?_
        refine r_iconst (pc' := 143) X (2 : Int32) dX7_reads_142 (by decide) rfl ?_
        refine r_iadd (pc' := 144) X dX7_reads_143 rfl ?_
        refine r_aload_n (pc' := 145) X dX7_reads_144 rfl 0 rfl rfl ?_
        obtain ⟨⟨r26, at_27, fault_28⟩, hc29, hF⟩ := g_bd hF
        refine r_callVF (pc' := 148) (ws' := [oX7 a_z a_mm a_old a_saved_ a_isSaved a_text textLength refused a_far a_marked a_stack top highest overflowed a_command commands at_27 fault_28 hash, oI a_text cI 80 text, oI a_command cI 160 (upd (upd command ((4 : Int32) * commands).toNatClampNeg r1) (((4 : Int32) * commands) + (1 : Int32)).toNatClampNeg r21)]) (st' := [.int r26, .int (((4 : Int32) * commands) + (2 : Int32)), .ref a_command]) X (mX7_place D cI cZ cH a_z a_text a_mm a_old a_saved_ a_isSaved a_far a_marked a_stack a_command textLength refused top highest overflowed commands at_22 fault_23 hash text r26 at_27 fault_28 hc29) 0 gX7_reads_X7_place rfl (by decide +kernel) rfl rfl ⟨Nat.le_of_ble_eq_true rfl, Nat.le_of_ble_eq_true rfl⟩ ⟨Nat.le_of_ble_eq_true rfl, Nat.le_of_ble_eq_true rfl⟩ rfl (Nat.le_of_ble_eq_true rfl) dX7_reads_145 0 rfl rfl [0, 1] rfl rfl rfl rfl rfl rfl ?_
        obtain ⟨hi30, hF⟩ := g_gt hF
        refine r_iast (pc' := 149) (ws' := [oX7 a_z a_mm a_old a_saved_ a_isSaved a_text textLength refused a_far a_marked a_stack top highest overflowed a_command commands at_27 fault_28 hash, oI a_text cI 80 text, oI a_command cI 160 (upd (upd (upd command ((4 : Int32) * commands).toNatClampNeg r1) (((4 : Int32) * commands) + (1 : Int32)).toNatClampNeg r21) (((4 : Int32) * commands) + (2 : Int32)).toNatClampNeg r26)]) X 2 dX7_reads_148 rfl (g_vi hi30) rfl rfl ?_
        refine r_goto X 215 dX7_reads_149 (by decide) ?_
        refine r_sub (lv' := [(0, .ref a_z)]) X [0] rfl ?_
        exact hJ9 at_27 fault_28 (upd (upd (upd command ((4 : Int32) * commands).toNatClampNeg r1) (((4 : Int32) * commands) + (1 : Int32)).toNatClampNeg r21) (((4 : Int32) * commands) + (2 : Int32)).toNatClampNeg r26) (Option.some.inj hF)
      refine r_icmp_eq (pc' := 119) X 125 dX7_reads_116 (by decide) rfl (fun c9 => ?_) (fun c9 => ?_)
      · replace hF := g_t c9 hF
        refine r_sub (lv' := [(0, .ref a_z), (2, .int ((4 : Int32) * commands))]) X [0, 2] rfl ?_
        exact hS125 trivial hF
      · replace hF := g_f c9 hF
        refine r_iload_n (pc' := 120) X dX7_reads_119 rfl 1 rfl rfl ?_
        refine r_bipush (pc' := 122) X (119 : Int32) dX7_reads_120 (by decide) rfl ?_
        refine r_icmp_ne (pc' := 125) X 152 dX7_reads_122 (by decide) rfl (fun c9 => ?_) (fun c9 => ?_)
        · replace hF := g_f c9 hF
          refine r_iload_n (pc' := 153) X dX7_reads_152 rfl 1 rfl rfl ?_
          refine r_bipush (pc' := 155) X (102 : Int32) dX7_reads_153 (by decide) rfl ?_
          refine r_icmp_ne (pc' := 158) X 197 dX7_reads_155 (by decide) rfl (fun c9 => ?_) (fun c9 => ?_)
          · replace hF := g_f c9 hF
            refine r_iload_n (pc' := 198) X dX7_reads_197 rfl 1 rfl rfl ?_
            refine r_bipush (pc' := 200) X (99 : Int32) dX7_reads_198 (by decide) rfl ?_
            refine r_icmp_eq (pc' := 203) X 215 dX7_reads_200 (by decide) rfl (fun c9 => ?_) (fun c9 => ?_)
            · replace hF := g_t c9 hF
              refine r_sub (lv' := [(0, .ref a_z)]) X [0] rfl ?_
              exact hJ9 at_4 fault_ (upd command ((4 : Int32) * commands).toNatClampNeg r1) (Option.some.inj hF)
            · replace hF := g_f c9 hF
              refine r_aload_n (pc' := 204) X dX7_reads_203 rfl 0 rfl rfl ?_
              refine r_get (pc' := 207) X uX7_reads_X7 0 13 dX7_reads_204 rfl rfl (by decide) kX7_reads_2 rfl rfl ?_
              refine r_iload_n (pc' := 208) X dX7_reads_207 rfl 2 rfl rfl ?_
              refine r_iconst (pc' := 209) X (1 : Int32) dX7_reads_208 (by decide) rfl ?_
              refine r_iadd (pc' := 210) X dX7_reads_209 rfl ?_
              refine r_aload_n (pc' := 211) X dX7_reads_210 rfl 0 rfl rfl ?_
              obtain ⟨⟨r31, at_32, fault_33⟩, hc34, hF⟩ := g_bd hF
              refine r_callVF (pc' := 214) (ws' := [oX7 a_z a_mm a_old a_saved_ a_isSaved a_text textLength refused a_far a_marked a_stack top highest overflowed a_command commands at_32 fault_33 hash, oI a_text cI 80 text, oI a_command cI 160 (upd command ((4 : Int32) * commands).toNatClampNeg r1)]) (st' := [.int r31, .int (((4 : Int32) * commands) + (1 : Int32)), .ref a_command]) X (mX7_number D cI cZ cH a_z a_text a_mm a_old a_saved_ a_isSaved a_far a_marked a_stack a_command textLength refused top highest overflowed commands at_4 fault_ hash text r31 at_32 fault_33 hc34) 0 gX7_reads_X7_number rfl (by decide +kernel) rfl rfl ⟨Nat.le_of_ble_eq_true rfl, Nat.le_of_ble_eq_true rfl⟩ ⟨Nat.le_of_ble_eq_true rfl, Nat.le_of_ble_eq_true rfl⟩ rfl (Nat.le_of_ble_eq_true rfl) dX7_reads_211 0 rfl rfl [0, 1] rfl rfl rfl rfl rfl rfl ?_
              obtain ⟨hi35, hF⟩ := g_gt hF
              refine r_iast (pc' := 215) (ws' := [oX7 a_z a_mm a_old a_saved_ a_isSaved a_text textLength refused a_far a_marked a_stack top highest overflowed a_command commands at_32 fault_33 hash, oI a_text cI 80 text, oI a_command cI 160 (upd (upd command ((4 : Int32) * commands).toNatClampNeg r1) (((4 : Int32) * commands) + (1 : Int32)).toNatClampNeg r31)]) X 2 dX7_reads_214 rfl (g_vi hi35) rfl rfl ?_
              refine r_sub (lv' := [(0, .ref a_z)]) X [0] rfl ?_
              exact hJ9 at_32 fault_33 (upd (upd command ((4 : Int32) * commands).toNatClampNeg r1) (((4 : Int32) * commands) + (1 : Int32)).toNatClampNeg r31) (Option.some.inj hF)
          · replace hF := g_t c9 hF
            refine r_aload_n (pc' := 159) X dX7_reads_158 rfl 0 rfl rfl ?_
            refine r_get (pc' := 162) X uX7_reads_X7 0 13 dX7_reads_159 rfl rfl (by decide) kX7_reads_2 rfl rfl ?_
            refine r_iload_n (pc' := 163) X dX7_reads_162 rfl 2 rfl rfl ?_
            refine r_iconst (pc' := 164) X (1 : Int32) dX7_reads_163 (by decide) rfl ?_
            refine r_iadd (pc' := 165) X dX7_reads_164 rfl ?_
            refine r_aload_n (pc' := 166) X dX7_reads_165 rfl 0 rfl rfl ?_
            obtain ⟨⟨r36, at_37, fault_38⟩, hc39, hF⟩ := g_bd hF
            refine r_callVF (pc' := 169) (ws' := [oX7 a_z a_mm a_old a_saved_ a_isSaved a_text textLength refused a_far a_marked a_stack top highest overflowed a_command commands at_37 fault_38 hash, oI a_text cI 80 text, oI a_command cI 160 (upd command ((4 : Int32) * commands).toNatClampNeg r1)]) (st' := [.int r36, .int (((4 : Int32) * commands) + (1 : Int32)), .ref a_command]) X (mX7_number D cI cZ cH a_z a_text a_mm a_old a_saved_ a_isSaved a_far a_marked a_stack a_command textLength refused top highest overflowed commands at_4 fault_ hash text r36 at_37 fault_38 hc39) 0 gX7_reads_X7_number rfl (by decide +kernel) rfl rfl ⟨Nat.le_of_ble_eq_true rfl, Nat.le_of_ble_eq_true rfl⟩ ⟨Nat.le_of_ble_eq_true rfl, Nat.le_of_ble_eq_true rfl⟩ rfl (Nat.le_of_ble_eq_true rfl) dX7_reads_166 0 rfl rfl [0, 1] rfl rfl rfl rfl rfl rfl ?_
            obtain ⟨hi40, hF⟩ := g_gt hF
            refine r_iast (pc' := 170) (ws' := [oX7 a_z a_mm a_old a_saved_ a_isSaved a_text textLength refused a_far a_marked a_stack top highest overflowed a_command commands at_37 fault_38 hash, oI a_text cI 80 text, oI a_command cI 160 (upd (upd command ((4 : Int32) * commands).toNatClampNeg r1) (((4 : Int32) * commands) + (1 : Int32)).toNatClampNeg r36)]) X 2 dX7_reads_169 rfl (g_vi hi40) rfl rfl ?_
            refine r_aload_n (pc' := 171) X dX7_reads_170 rfl 0 rfl rfl ?_
            refine r_get (pc' := 174) X uX7_reads_X7 0 13 dX7_reads_171 rfl rfl (by decide) kX7_reads_2 rfl rfl ?_
            refine r_iload_n (pc' := 175) X dX7_reads_174 rfl 2 rfl rfl ?_
            refine r_iconst (pc' := 176) X (2 : Int32) dX7_reads_175 (by decide) rfl ?_
            refine r_iadd (pc' := 177) X dX7_reads_176 rfl ?_
            refine r_aload_n (pc' := 178) X dX7_reads_177 rfl 0 rfl rfl ?_
            obtain ⟨⟨r41, at_42, fault_43⟩, hc44, hF⟩ := g_bd hF
            refine r_callVF (pc' := 181) (ws' := [oX7 a_z a_mm a_old a_saved_ a_isSaved a_text textLength refused a_far a_marked a_stack top highest overflowed a_command commands at_42 fault_43 hash, oI a_text cI 80 text, oI a_command cI 160 (upd (upd command ((4 : Int32) * commands).toNatClampNeg r1) (((4 : Int32) * commands) + (1 : Int32)).toNatClampNeg r36)]) (st' := [.int r41, .int (((4 : Int32) * commands) + (2 : Int32)), .ref a_command]) X (mX7_digit D cI cZ cH a_z a_text a_mm a_old a_saved_ a_isSaved a_far a_marked a_stack a_command textLength refused top highest overflowed commands at_37 fault_38 hash text r41 at_42 fault_43 hc44) 0 gX7_reads_X7_digit rfl (by decide +kernel) rfl rfl ⟨Nat.le_of_ble_eq_true rfl, Nat.le_of_ble_eq_true rfl⟩ ⟨Nat.le_of_ble_eq_true rfl, Nat.le_of_ble_eq_true rfl⟩ rfl (Nat.le_of_ble_eq_true rfl) dX7_reads_178 0 rfl rfl [0, 1] rfl rfl rfl rfl rfl rfl ?_
            obtain ⟨hi45, hF⟩ := g_gt hF
            refine r_iast (pc' := 182) (ws' := [oX7 a_z a_mm a_old a_saved_ a_isSaved a_text textLength refused a_far a_marked a_stack top highest overflowed a_command commands at_42 fault_43 hash, oI a_text cI 80 text, oI a_command cI 160 (upd (upd (upd command ((4 : Int32) * commands).toNatClampNeg r1) (((4 : Int32) * commands) + (1 : Int32)).toNatClampNeg r36) (((4 : Int32) * commands) + (2 : Int32)).toNatClampNeg r41)]) X 2 dX7_reads_181 rfl (g_vi hi45) rfl rfl ?_
            refine r_aload_n (pc' := 183) X dX7_reads_182 rfl 0 rfl rfl ?_
            refine r_get (pc' := 186) X uX7_reads_X7 0 13 dX7_reads_183 rfl rfl (by decide) kX7_reads_2 rfl rfl ?_
            refine r_iload_n (pc' := 187) X dX7_reads_186 rfl 2 rfl rfl ?_
            refine r_iconst (pc' := 188) X (3 : Int32) dX7_reads_187 (by decide) rfl ?_
            refine r_iadd (pc' := 189) X dX7_reads_188 rfl ?_
            refine r_aload_n (pc' := 190) X dX7_reads_189 rfl 0 rfl rfl ?_
            obtain ⟨⟨r46, at_47, fault_48⟩, hc49, hF⟩ := g_bd hF
            refine r_callVF (pc' := 193) (ws' := [oX7 a_z a_mm a_old a_saved_ a_isSaved a_text textLength refused a_far a_marked a_stack top highest overflowed a_command commands at_47 fault_48 hash, oI a_text cI 80 text, oI a_command cI 160 (upd (upd (upd command ((4 : Int32) * commands).toNatClampNeg r1) (((4 : Int32) * commands) + (1 : Int32)).toNatClampNeg r36) (((4 : Int32) * commands) + (2 : Int32)).toNatClampNeg r41)]) (st' := [.int r46, .int (((4 : Int32) * commands) + (3 : Int32)), .ref a_command]) X (mX7_place D cI cZ cH a_z a_text a_mm a_old a_saved_ a_isSaved a_far a_marked a_stack a_command textLength refused top highest overflowed commands at_42 fault_43 hash text r46 at_47 fault_48 hc49) 0 gX7_reads_X7_place rfl (by decide +kernel) rfl rfl ⟨Nat.le_of_ble_eq_true rfl, Nat.le_of_ble_eq_true rfl⟩ ⟨Nat.le_of_ble_eq_true rfl, Nat.le_of_ble_eq_true rfl⟩ rfl (Nat.le_of_ble_eq_true rfl) dX7_reads_190 0 rfl rfl [0, 1] rfl rfl rfl rfl rfl rfl ?_
            obtain ⟨hi50, hF⟩ := g_gt hF
            refine r_iast (pc' := 194) (ws' := [oX7 a_z a_mm a_old a_saved_ a_isSaved a_text textLength refused a_far a_marked a_stack top highest overflowed a_command commands at_47 fault_48 hash, oI a_text cI 80 text, oI a_command cI 160 (upd (upd (upd (upd command ((4 : Int32) * commands).toNatClampNeg r1) (((4 : Int32) * commands) + (1 : Int32)).toNatClampNeg r36) (((4 : Int32) * commands) + (2 : Int32)).toNatClampNeg r41) (((4 : Int32) * commands) + (3 : Int32)).toNatClampNeg r46)]) X 2 dX7_reads_193 rfl (g_vi hi50) rfl rfl ?_
            refine r_goto X 215 dX7_reads_194 (by decide) ?_
            refine r_sub (lv' := [(0, .ref a_z)]) X [0] rfl ?_
            exact hJ9 at_47 fault_48 (upd (upd (upd (upd command ((4 : Int32) * commands).toNatClampNeg r1) (((4 : Int32) * commands) + (1 : Int32)).toNatClampNeg r36) (((4 : Int32) * commands) + (2 : Int32)).toNatClampNeg r41) (((4 : Int32) * commands) + (3 : Int32)).toNatClampNeg r46) (Option.some.inj hF)
        · replace hF := g_t c9 hF
          refine r_sub (lv' := [(0, .ref a_z), (2, .int ((4 : Int32) * commands))]) X [0, 2] rfl ?_
          exact hS125 trivial hF
    · replace hF := g_t c9 hF
      refine r_aload_n (pc' := 87) X dX7_reads_86 rfl 0 rfl rfl ?_
      refine r_get (pc' := 90) X uX7_reads_X7 0 13 dX7_reads_87 rfl rfl (by decide) kX7_reads_2 rfl rfl ?_
      refine r_iload_n (pc' := 91) X dX7_reads_90 rfl 2 rfl rfl ?_
      refine r_iconst (pc' := 92) X (1 : Int32) dX7_reads_91 (by decide) rfl ?_
      refine r_iadd (pc' := 93) X dX7_reads_92 rfl ?_
      refine r_aload_n (pc' := 94) X dX7_reads_93 rfl 0 rfl rfl ?_
      obtain ⟨⟨r51, at_52, fault_53⟩, hc54, hF⟩ := g_bd hF
      refine r_callVF (pc' := 97) (ws' := [oX7 a_z a_mm a_old a_saved_ a_isSaved a_text textLength refused a_far a_marked a_stack top highest overflowed a_command commands at_52 fault_53 hash, oI a_text cI 80 text, oI a_command cI 160 (upd command ((4 : Int32) * commands).toNatClampNeg r1)]) (st' := [.int r51, .int (((4 : Int32) * commands) + (1 : Int32)), .ref a_command]) X (mX7_digit D cI cZ cH a_z a_text a_mm a_old a_saved_ a_isSaved a_far a_marked a_stack a_command textLength refused top highest overflowed commands at_4 fault_ hash text r51 at_52 fault_53 hc54) 0 gX7_reads_X7_digit rfl (by decide +kernel) rfl rfl ⟨Nat.le_of_ble_eq_true rfl, Nat.le_of_ble_eq_true rfl⟩ ⟨Nat.le_of_ble_eq_true rfl, Nat.le_of_ble_eq_true rfl⟩ rfl (Nat.le_of_ble_eq_true rfl) dX7_reads_94 0 rfl rfl [0, 1] rfl rfl rfl rfl rfl rfl ?_
      obtain ⟨hi55, hF⟩ := g_gt hF
      refine r_iast (pc' := 98) (ws' := [oX7 a_z a_mm a_old a_saved_ a_isSaved a_text textLength refused a_far a_marked a_stack top highest overflowed a_command commands at_52 fault_53 hash, oI a_text cI 80 text, oI a_command cI 160 (upd (upd command ((4 : Int32) * commands).toNatClampNeg r1) (((4 : Int32) * commands) + (1 : Int32)).toNatClampNeg r51)]) X 2 dX7_reads_97 rfl (g_vi hi55) rfl rfl ?_
      refine r_aload_n (pc' := 99) X dX7_reads_98 rfl 0 rfl rfl ?_
      refine r_get (pc' := 102) X uX7_reads_X7 0 13 dX7_reads_99 rfl rfl (by decide) kX7_reads_2 rfl rfl ?_
      refine r_iload_n (pc' := 103) X dX7_reads_102 rfl 2 rfl rfl ?_
      refine r_iconst (pc' := 104) X (2 : Int32) dX7_reads_103 (by decide) rfl ?_
      refine r_iadd (pc' := 105) X dX7_reads_104 rfl ?_
      refine r_aload_n (pc' := 106) X dX7_reads_105 rfl 0 rfl rfl ?_
      obtain ⟨⟨r56, at_57, fault_58⟩, hc59, hF⟩ := g_bd hF
      refine r_callVF (pc' := 109) (ws' := [oX7 a_z a_mm a_old a_saved_ a_isSaved a_text textLength refused a_far a_marked a_stack top highest overflowed a_command commands at_57 fault_58 hash, oI a_text cI 80 text, oI a_command cI 160 (upd (upd command ((4 : Int32) * commands).toNatClampNeg r1) (((4 : Int32) * commands) + (1 : Int32)).toNatClampNeg r51)]) (st' := [.int r56, .int (((4 : Int32) * commands) + (2 : Int32)), .ref a_command]) X (mX7_digit D cI cZ cH a_z a_text a_mm a_old a_saved_ a_isSaved a_far a_marked a_stack a_command textLength refused top highest overflowed commands at_52 fault_53 hash text r56 at_57 fault_58 hc59) 0 gX7_reads_X7_digit rfl (by decide +kernel) rfl rfl ⟨Nat.le_of_ble_eq_true rfl, Nat.le_of_ble_eq_true rfl⟩ ⟨Nat.le_of_ble_eq_true rfl, Nat.le_of_ble_eq_true rfl⟩ rfl (Nat.le_of_ble_eq_true rfl) dX7_reads_106 0 rfl rfl [0, 1] rfl rfl rfl rfl rfl rfl ?_
      obtain ⟨hi60, hF⟩ := g_gt hF
      refine r_iast (pc' := 110) (ws' := [oX7 a_z a_mm a_old a_saved_ a_isSaved a_text textLength refused a_far a_marked a_stack top highest overflowed a_command commands at_57 fault_58 hash, oI a_text cI 80 text, oI a_command cI 160 (upd (upd (upd command ((4 : Int32) * commands).toNatClampNeg r1) (((4 : Int32) * commands) + (1 : Int32)).toNatClampNeg r51) (((4 : Int32) * commands) + (2 : Int32)).toNatClampNeg r56)]) X 2 dX7_reads_109 rfl (g_vi hi60) rfl rfl ?_
      refine r_goto X 215 dX7_reads_110 (by decide) ?_
      refine r_sub (lv' := [(0, .ref a_z)]) X [0] rfl ?_
      exact hJ9 at_57 fault_58 (upd (upd (upd command ((4 : Int32) * commands).toNatClampNeg r1) (((4 : Int32) * commands) + (1 : Int32)).toNatClampNeg r51) (((4 : Int32) * commands) + (2 : Int32)).toNatClampNeg r56) (Option.some.inj hF)
  refine r_icmp_eq (pc' := 18) X 59 dX7_reads_15 (by decide) rfl (fun c9 => ?_) (fun c9 => ?_)
  · replace hF := g_t c9 hF
    exact hS59 trivial hF
  · replace hF := g_f c9 hF
    refine r_iload_n (pc' := 19) X dX7_reads_18 rfl 1 rfl rfl ?_
    refine r_bipush (pc' := 21) X (114 : Int32) dX7_reads_19 (by decide) rfl ?_
    refine r_icmp_eq (pc' := 24) X 59 dX7_reads_21 (by decide) rfl (fun c9 => ?_) (fun c9 => ?_)
    · replace hF := g_t c9 hF
      exact hS59 trivial hF
    · replace hF := g_f c9 hF
      refine r_iload_n (pc' := 25) X dX7_reads_24 rfl 1 rfl rfl ?_
      refine r_bipush (pc' := 27) X (119 : Int32) dX7_reads_25 (by decide) rfl ?_
      refine r_icmp_eq (pc' := 30) X 59 dX7_reads_27 (by decide) rfl (fun c9 => ?_) (fun c9 => ?_)
      · replace hF := g_t c9 hF
        exact hS59 trivial hF
      · replace hF := g_f c9 hF
        refine r_iload_n (pc' := 31) X dX7_reads_30 rfl 1 rfl rfl ?_
        refine r_bipush (pc' := 33) X (102 : Int32) dX7_reads_31 (by decide) rfl ?_
        refine r_icmp_eq (pc' := 36) X 59 dX7_reads_33 (by decide) rfl (fun c9 => ?_) (fun c9 => ?_)
        · replace hF := g_t c9 hF
          exact hS59 trivial hF
        · replace hF := g_f c9 hF
          refine r_iload_n (pc' := 37) X dX7_reads_36 rfl 1 rfl rfl ?_
          refine r_bipush (pc' := 39) X (112 : Int32) dX7_reads_37 (by decide) rfl ?_
          refine r_icmp_eq (pc' := 42) X 59 dX7_reads_39 (by decide) rfl (fun c9 => ?_) (fun c9 => ?_)
          · replace hF := g_t c9 hF
            exact hS59 trivial hF
          · replace hF := g_f c9 hF
            refine r_iload_n (pc' := 43) X dX7_reads_42 rfl 1 rfl rfl ?_
            refine r_bipush (pc' := 45) X (117 : Int32) dX7_reads_43 (by decide) rfl ?_
            refine r_icmp_eq (pc' := 48) X 59 dX7_reads_45 (by decide) rfl (fun c9 => ?_) (fun c9 => ?_)
            · replace hF := g_t c9 hF
              exact hS59 trivial hF
            · replace hF := g_f c9 hF
              refine r_iload_n (pc' := 49) X dX7_reads_48 rfl 1 rfl rfl ?_
              refine r_bipush (pc' := 51) X (99 : Int32) dX7_reads_49 (by decide) rfl ?_
              refine r_icmp_eq (pc' := 54) X 59 dX7_reads_51 (by decide) rfl (fun c9 => ?_) (fun c9 => ?_)
              · replace hF := g_t c9 hF
                exact hS59 trivial hF
              · replace hF := g_f c9 hF
                refine r_aload_n (pc' := 55) X dX7_reads_54 rfl 0 rfl rfl ?_
                obtain ⟨fault_61, hc62, hF⟩ := g_bd hF
                refine r_callVF (pc' := 58) (ws' := [oX7 a_z a_mm a_old a_saved_ a_isSaved a_text textLength refused a_far a_marked a_stack top highest overflowed a_command commands at_ fault_61 hash, oI a_text cI 80 text, oI a_command cI 160 command]) (st' := []) X (mX7_fails D cI cZ cH a_z a_mm a_old a_saved_ a_isSaved a_text a_far a_marked a_stack a_command textLength refused top highest overflowed commands at_ fault_ hash fault_61 hc62) 0 gX7_reads_X7_fails rfl (by decide +kernel) rfl rfl ⟨Nat.le_of_ble_eq_true rfl, Nat.le_of_ble_eq_true rfl⟩ ⟨Nat.le_of_ble_eq_true rfl, Nat.le_of_ble_eq_true rfl⟩ rfl (Nat.le_of_ble_eq_true rfl) dX7_reads_55 0 rfl rfl [0] rfl rfl rfl rfl rfl rfl ?_
                cases hF
                exact RT.2.2 0 0 _ _ _ rfl dX7_reads_58 ⟨rfl, rfl⟩ (Nat.le_refl 0) (Nat.le_refl 0)
theorem kX7_fault_1 : Cond.fieldLink RX7 129 "IslandHeapModel" "at" "I" ∈ wsX7_fault := List.mem_of_getElem? (i := 1) (by decide +kernel)
theorem kX7_fault_2 : Cond.fieldLink RX7 151 "IslandHeapModel" "commands" "I" ∈ wsX7_fault := List.mem_of_getElem? (i := 2) (by decide +kernel)
theorem kX7_fault_3 : Cond.fieldLink RX7 135 "IslandHeapModel" "fault" "I" ∈ wsX7_fault := List.mem_of_getElem? (i := 3) (by decide +kernel)
theorem kX7_fault_4 : Cond.fieldLink RX7 126 "IslandHeapModel" "textLength" "I" ∈ wsX7_fault := List.mem_of_getElem? (i := 4) (by decide +kernel)
theorem uX7_fault_X7 : ∀ w ∈ u_ws RX7 TX7 18, w ∈ wsX7_fault := by decide +kernel
set_option maxHeartbeats 4000000 in
set_option maxRecDepth 100000 in
theorem mX7_fault (D : va_G) (cI cZ cH : ClassId) (a_z : Nat) (a_text : Nat) (a_command : Nat) (a_mm : Nat) (a_old : Nat) (a_saved_ : Nat) (a_isSaved : Nat) (a_far : Nat) (a_marked : Nat) (a_stack : Nat) (textLength : Int32) (refused : Int32) (top : Int32) (highest : Int32) (overflowed : Int32) (commands : Int32) (at_ : Int32) (fault_ : Int32) (hash : Int64) (text : Nat → Int32) (command : Nat → Int32) (r0 : Int32) (w_commands : Int32) (w_at_ : Int32) (w_fault_ : Int32) (w_command : Nat → Int32) (hF : FX7_fault textLength commands at_ fault_ text command = some (r0, w_commands, w_at_, w_fault_, w_command)) : g_CM yX7_fault wsX7_fault ({ frames := 5, cells := 0, slots := 0, locals := 106 }) D cI cZ cH [.ref a_z] [oX7 a_z a_mm a_old a_saved_ a_isSaved a_text textLength refused a_far a_marked a_stack top highest overflowed a_command commands at_ fault_ hash, oI a_text cI 80 text, oI a_command cI 160 command] 0 0 (g_Tm (some (.int r0)) [oX7 a_z a_mm a_old a_saved_ a_isSaved a_text textLength refused a_far a_marked a_stack top highest overflowed a_command w_commands w_at_ w_fault_ hash, oI a_text cI 80 text, oI a_command cI 160 w_command]) := by
  refine g_met (own := RX7) (mn := "fault") (cc := cX7_fault) (maxL := 1) (ret := (some .int)) rfl rfl (by decide +kernel) rfl (Nat.le_of_ble_eq_true rfl) (fun G X RT => ?_)
  show G 0 0 [oX7 a_z a_mm a_old a_saved_ a_isSaved a_text textLength refused a_far a_marked a_stack top highest overflowed a_command commands at_ fault_ hash, oI a_text cI 80 text, oI a_command cI 160 command] [(0, .ref a_z)] 0 []
  unfold FX7_fault at hF
  refine r_aload_n (pc' := 1) X dX7_fault_0 rfl 0 rfl rfl ?_
  refine r_iconst (pc' := 2) X (0 : Int32) dX7_fault_1 (by decide) rfl ?_
  refine r_put (pc' := 5) (ty := .int) (ws' := [oX7 a_z a_mm a_old a_saved_ a_isSaved a_text textLength refused a_far a_marked a_stack top highest overflowed a_command commands (0 : Int32) fault_ hash, oI a_text cI 80 text, oI a_command cI 160 command]) X uX7_fault_X7 0 15 tyX7 tyX7_ok nmX7 dX7_fault_2 rfl rfl (by decide) kX7_fault_1 rfl (by decide +kernel) rfl rfl (Nat.le_of_ble_eq_true rfl) rfl rfl ?_
  refine r_aload_n (pc' := 6) X dX7_fault_5 rfl 0 rfl rfl ?_
  refine r_iconst (pc' := 7) X (0 : Int32) dX7_fault_6 (by decide) rfl ?_
  refine r_put (pc' := 10) (ty := .int) (ws' := [oX7 a_z a_mm a_old a_saved_ a_isSaved a_text textLength refused a_far a_marked a_stack top highest overflowed a_command (0 : Int32) (0 : Int32) fault_ hash, oI a_text cI 80 text, oI a_command cI 160 command]) X uX7_fault_X7 0 14 tyX7 tyX7_ok nmX7 dX7_fault_7 rfl rfl (by decide) kX7_fault_2 rfl (by decide +kernel) rfl rfl (Nat.le_of_ble_eq_true rfl) rfl rfl ?_
  refine r_aload_n (pc' := 11) X dX7_fault_10 rfl 0 rfl rfl ?_
  refine r_iconst (pc' := 12) X (-1 : Int32) dX7_fault_11 (by decide) rfl ?_
  refine r_put (pc' := 15) (ty := .int) (ws' := [oX7 a_z a_mm a_old a_saved_ a_isSaved a_text textLength refused a_far a_marked a_stack top highest overflowed a_command (0 : Int32) (0 : Int32) (-1 : Int32) hash, oI a_text cI 80 text, oI a_command cI 160 command]) X uX7_fault_X7 0 16 tyX7 tyX7_ok nmX7 dX7_fault_12 rfl rfl (by decide) kX7_fault_3 rfl (by decide +kernel) rfl rfl (Nat.le_of_ble_eq_true rfl) rfl rfl ?_
  refine r_aload_n (pc' := 16) X dX7_fault_15 rfl 0 rfl rfl ?_
  obtain ⟨at_1, hc2, hF⟩ := g_bd hF
  refine r_callVF (pc' := 19) (ws' := [oX7 a_z a_mm a_old a_saved_ a_isSaved a_text textLength refused a_far a_marked a_stack top highest overflowed a_command (0 : Int32) at_1 (-1 : Int32) hash, oI a_text cI 80 text, oI a_command cI 160 command]) (st' := []) X (mX7_blanks D cI cZ cH a_z a_text a_mm a_old a_saved_ a_isSaved a_far a_marked a_stack a_command textLength refused top highest overflowed (0 : Int32) (0 : Int32) (-1 : Int32) hash text at_1 hc2) 0 gX7_fault_X7_blanks rfl (by decide +kernel) rfl rfl ⟨Nat.le_of_ble_eq_true rfl, Nat.le_of_ble_eq_true rfl⟩ ⟨Nat.le_of_ble_eq_true rfl, Nat.le_of_ble_eq_true rfl⟩ rfl (Nat.le_of_ble_eq_true rfl) dX7_fault_16 0 rfl rfl [0, 1] rfl rfl rfl rfl rfl rfl ?_
  obtain ⟨ex19, hR, hF⟩ := g_bd hF
  have hE19 : ∀ (commands_7 : Int32) (at_8 : Int32) (fault_9 : Int32) (command_10 : Nat → Int32), (commands_7, at_8, fault_9, command_10) = ex19 → G 0 0 [oX7 a_z a_mm a_old a_saved_ a_isSaved a_text textLength refused a_far a_marked a_stack top highest overflowed a_command commands_7 at_8 fault_9 hash, oI a_text cI 80 text, oI a_command cI 160 command_10] [(0, .ref a_z)] 45 [] := by
    intro commands_7 at_8 fault_9 command_10 hx; subst hx
    refine r_aload_n (pc' := 46) X dX7_fault_45 rfl 0 rfl rfl ?_
    refine r_get (pc' := 49) X uX7_fault_X7 0 16 dX7_fault_46 rfl rfl (by decide) kX7_fault_3 rfl rfl ?_
    cases hF
    exact RT.1 0 0 _ _ _ _ .int rfl rfl dX7_fault_49 ⟨rfl, rfl⟩ (Nat.le_refl 0) (Nat.le_refl 0)
  have hL19 : ∀ (fu : Nat) (commands_3 : Int32) (at_4 : Int32) (fault_5 : Int32) (command_6 : Nat → Int32), g_itn (FX7_fault_L19 textLength text) fu (commands_3, at_4, fault_5, command_6) = some ex19 → G 0 0 [oX7 a_z a_mm a_old a_saved_ a_isSaved a_text textLength refused a_far a_marked a_stack top highest overflowed a_command commands_3 at_4 fault_5 hash, oI a_text cI 80 text, oI a_command cI 160 command_6] [(0, .ref a_z)] 19 [] := by
    intro fu
    induction fu with
    | zero => intro commands_3 at_4 fault_5 command_6 h9; exact (g_it0 h9).elim
    | succ fu ih =>
      intro commands_3 at_4 fault_5 command_6 h9
      obtain ⟨y19, hF, hI19⟩ := g_its h9
      unfold FX7_fault_L19 at hF
      refine r_aload_n (pc' := 20) X dX7_fault_19 rfl 0 rfl rfl ?_
      refine r_get (pc' := 23) X uX7_fault_X7 0 16 dX7_fault_20 rfl rfl (by decide) kX7_fault_3 rfl rfl ?_
      refine r_iconst (pc' := 24) X (-1 : Int32) dX7_fault_23 (by decide) rfl ?_
      refine r_icmp_ne (pc' := 27) X 45 dX7_fault_24 (by decide) rfl (fun c9 => ?_) (fun c9 => ?_)
      · replace hF := g_f c9 hF
        cases hF
        exact hE19 commands_3 at_4 fault_5 command_6 hI19
      · replace hF := g_t c9 hF
        refine r_aload_n (pc' := 28) X dX7_fault_27 rfl 0 rfl rfl ?_
        refine r_get (pc' := 31) X uX7_fault_X7 0 15 dX7_fault_28 rfl rfl (by decide) kX7_fault_1 rfl rfl ?_
        refine r_aload_n (pc' := 32) X dX7_fault_31 rfl 0 rfl rfl ?_
        refine r_get (pc' := 35) X uX7_fault_X7 0 5 dX7_fault_32 rfl rfl (by decide) kX7_fault_4 rfl rfl ?_
        refine r_icmp_ge (pc' := 38) X 45 dX7_fault_35 (by decide) rfl (fun c9 => ?_) (fun c9 => ?_)
        · replace hF := g_t c9 hF
          cases hF
          exact hE19 commands_3 at_4 fault_5 command_6 hI19
        · replace hF := g_f c9 hF
          refine r_aload_n (pc' := 39) X dX7_fault_38 rfl 0 rfl rfl ?_
          obtain ⟨⟨commands_11, at_12, fault_13, command_14⟩, hc15, hF⟩ := g_bd hF
          refine r_callVF (pc' := 42) (ws' := [oX7 a_z a_mm a_old a_saved_ a_isSaved a_text textLength refused a_far a_marked a_stack top highest overflowed a_command commands_11 at_12 fault_13 hash, oI a_text cI 80 text, oI a_command cI 160 command_14]) (st' := []) X (mX7_reads D cI cZ cH a_z a_text a_command a_mm a_old a_saved_ a_isSaved a_far a_marked a_stack textLength refused top highest overflowed commands_3 at_4 fault_5 hash text command_6 commands_11 at_12 fault_13 command_14 hc15) 0 gX7_fault_X7_reads rfl (by decide +kernel) rfl rfl ⟨Nat.le_of_ble_eq_true rfl, Nat.le_of_ble_eq_true rfl⟩ ⟨Nat.le_of_ble_eq_true rfl, Nat.le_of_ble_eq_true rfl⟩ rfl (Nat.le_of_ble_eq_true rfl) dX7_fault_39 0 rfl rfl [0, 1, 2] rfl rfl rfl rfl rfl rfl ?_
          refine r_goto X 19 dX7_fault_42 (by decide) ?_
          cases hF
          exact ih commands_11 at_12 fault_13 command_14 hI19
  exact hL19 g_fuel (0 : Int32) at_1 (-1 : Int32) command hR
theorem kX7_does_1 : Cond.fieldLink RX7 39 "IslandHeapModel" "command" "[I" ∈ wsX7_does := List.mem_of_getElem? (i := 1) (by decide +kernel)
theorem uX7_does_X7 : ∀ w ∈ u_ws RX7 TX7 18, w ∈ wsX7_does := by decide +kernel
set_option maxHeartbeats 4000000 in
set_option maxRecDepth 100000 in
theorem mX7_does (D : va_G) (cI cZ cH : ClassId) (a_z : Nat) (a_mm : Nat) (a_old : Nat) (a_marked : Nat) (a_stack : Nat) (a_command : Nat) (a_saved_ : Nat) (a_isSaved : Nat) (a_text : Nat) (a_far : Nat) (textLength : Int32) (refused : Int32) (top : Int32) (highest : Int32) (overflowed : Int32) (commands : Int32) (at_ : Int32) (fault_ : Int32) (hash : Int64) (mm : Nat → Int32) (old : Nat → Int32) (marked : Nat → Int32) (stack : Nat → Int32) (command : Nat → Int32) (p1 : Int32) (r0 : Int32) (w_top : Int32) (w_highest : Int32) (w_overflowed : Int32) (w_mm : Nat → Int32) (w_old : Nat → Int32) (w_marked : Nat → Int32) (w_stack : Nat → Int32) (hF : FX7_does top highest overflowed mm old marked stack command p1 = some (r0, w_top, w_highest, w_overflowed, w_mm, w_old, w_marked, w_stack)) : g_CM yX7_does wsX7_does ({ frames := 7, cells := 0, slots := 0, locals := 161 }) D cI cZ cH [.ref a_z, .int p1] [oX7 a_z a_mm a_old a_saved_ a_isSaved a_text textLength refused a_far a_marked a_stack top highest overflowed a_command commands at_ fault_ hash, oI a_mm cI 1222 mm, oI a_old cI 1222 old, oZ a_marked cZ 200 marked, oI a_stack cI 20 stack, oI a_command cI 160 command] 0 0 (g_Tm (some (.int r0)) [oX7 a_z a_mm a_old a_saved_ a_isSaved a_text textLength refused a_far a_marked a_stack w_top w_highest w_overflowed a_command commands at_ fault_ hash, oI a_mm cI 1222 w_mm, oI a_old cI 1222 w_old, oZ a_marked cZ 200 w_marked, oI a_stack cI 20 w_stack, oI a_command cI 160 command]) := by
  refine g_met (own := RX7) (mn := "does") (cc := cX7_does) (maxL := 4) (ret := (some .int)) rfl rfl (by decide +kernel) rfl (Nat.le_of_ble_eq_true rfl) (fun G X RT => ?_)
  show G 0 0 [oX7 a_z a_mm a_old a_saved_ a_isSaved a_text textLength refused a_far a_marked a_stack top highest overflowed a_command commands at_ fault_ hash, oI a_mm cI 1222 mm, oI a_old cI 1222 old, oZ a_marked cZ 200 marked, oI a_stack cI 20 stack, oI a_command cI 160 command] [(0, .ref a_z), (1, .int p1)] 0 []
  unfold FX7_does at hF
  refine r_aload_n (pc' := 1) X dX7_does_0 rfl 0 rfl rfl ?_
  refine r_get (pc' := 4) X uX7_does_X7 0 13 dX7_does_1 rfl rfl (by decide) kX7_does_1 rfl rfl ?_
  refine r_iconst (pc' := 5) X (4 : Int32) dX7_does_4 (by decide) rfl ?_
  refine r_iload_n (pc' := 6) X dX7_does_5 rfl 1 rfl rfl ?_
  refine r_imul (pc' := 7) X dX7_does_6 rfl ?_
  refine r_iconst (pc' := 8) X (1 : Int32) dX7_does_7 (by decide) rfl ?_
  refine r_iadd (pc' := 9) X dX7_does_8 rfl ?_
  obtain ⟨hi1, hF⟩ := g_gt hF
  refine r_iald (pc' := 10) X 5 dX7_does_9 rfl (g_vi hi1) rfl ?_
  refine r_istore_n (pc' := 11) (lv' := [(0, .ref a_z), (1, .int p1), (2, .int (command (((4 : Int32) * p1) + (1 : Int32)).toNatClampNeg))]) X dX7_does_10 rfl (by decide) [1, 2, 0] rfl rfl ?_
  refine r_aload_n (pc' := 12) X dX7_does_11 rfl 0 rfl rfl ?_
  refine r_get (pc' := 15) X uX7_does_X7 0 13 dX7_does_12 rfl rfl (by decide) kX7_does_1 rfl rfl ?_
  refine r_iconst (pc' := 16) X (4 : Int32) dX7_does_15 (by decide) rfl ?_
  refine r_iload_n (pc' := 17) X dX7_does_16 rfl 1 rfl rfl ?_
  refine r_imul (pc' := 18) X dX7_does_17 rfl ?_
  refine r_iconst (pc' := 19) X (2 : Int32) dX7_does_18 (by decide) rfl ?_
  refine r_iadd (pc' := 20) X dX7_does_19 rfl ?_
  obtain ⟨hi2, hF⟩ := g_gt hF
  refine r_iald (pc' := 21) X 5 dX7_does_20 rfl (g_vi hi2) rfl ?_
  refine r_istore_n (pc' := 22) (lv' := [(0, .ref a_z), (1, .int p1), (2, .int (command (((4 : Int32) * p1) + (1 : Int32)).toNatClampNeg)), (3, .int (command (((4 : Int32) * p1) + (2 : Int32)).toNatClampNeg))]) X dX7_does_21 rfl (by decide) [1, 2, 3, 0] rfl rfl ?_
  refine r_aload_n (pc' := 23) X dX7_does_22 rfl 0 rfl rfl ?_
  refine r_get (pc' := 26) X uX7_does_X7 0 13 dX7_does_23 rfl rfl (by decide) kX7_does_1 rfl rfl ?_
  refine r_iconst (pc' := 27) X (4 : Int32) dX7_does_26 (by decide) rfl ?_
  refine r_iload_n (pc' := 28) X dX7_does_27 rfl 1 rfl rfl ?_
  refine r_imul (pc' := 29) X dX7_does_28 rfl ?_
  obtain ⟨hi3, hF⟩ := g_gt hF
  refine r_iald (pc' := 30) X 5 dX7_does_29 rfl (g_vi hi3) rfl ?_
  by_cases e102 : command ((4 : Int32) * p1).toNatClampNeg = (102 : Int32)
  · replace hF := g_t e102 hF
    refine r_tsIn (off := 107) X 137 dX7_does_30 e102 (by decide +kernel) (by decide +kernel) (by decide +kernel) (by decide +kernel) ?_
    refine r_aload_n (pc' := 138) X dX7_does_137 rfl 0 rfl rfl ?_
    refine r_iload_n (pc' := 139) X dX7_does_138 rfl 2 rfl rfl ?_
    refine r_iload_n (pc' := 140) X dX7_does_139 rfl 3 rfl rfl ?_
    refine r_aload_n (pc' := 141) X dX7_does_140 rfl 0 rfl rfl ?_
    refine r_get (pc' := 144) X uX7_does_X7 0 13 dX7_does_141 rfl rfl (by decide) kX7_does_1 rfl rfl ?_
    refine r_iconst (pc' := 145) X (4 : Int32) dX7_does_144 (by decide) rfl ?_
    refine r_iload_n (pc' := 146) X dX7_does_145 rfl 1 rfl rfl ?_
    refine r_imul (pc' := 147) X dX7_does_146 rfl ?_
    refine r_iconst (pc' := 148) X (3 : Int32) dX7_does_147 (by decide) rfl ?_
    refine r_iadd (pc' := 149) X dX7_does_148 rfl ?_
    obtain ⟨hi13, hF⟩ := g_gt hF
    refine r_iald (pc' := 150) X 5 dX7_does_149 rfl (g_vi hi13) rfl ?_
    obtain ⟨⟨r14, mm_15⟩, hc16, hF⟩ := g_bd hF
    refine r_callVF (pc' := 153) (ws' := [oX7 a_z a_mm a_old a_saved_ a_isSaved a_text textLength refused a_far a_marked a_stack top highest overflowed a_command commands at_ fault_ hash, oI a_mm cI 1222 mm_15, oI a_old cI 1222 old, oZ a_marked cZ 200 marked, oI a_stack cI 20 stack, oI a_command cI 160 command]) (st' := [.int r14]) X (mX7_setField D cI cZ cH a_z a_mm a_old a_saved_ a_isSaved a_text a_far a_marked a_stack a_command textLength refused top highest overflowed commands at_ fault_ hash mm (command (((4 : Int32) * p1) + (1 : Int32)).toNatClampNeg) (command (((4 : Int32) * p1) + (2 : Int32)).toNatClampNeg) (command (((4 : Int32) * p1) + (3 : Int32)).toNatClampNeg) r14 mm_15 hc16) 3 gX7_does_X7_setField rfl (by decide +kernel) rfl rfl ⟨Nat.le_of_ble_eq_true rfl, Nat.le_of_ble_eq_true rfl⟩ ⟨Nat.le_of_ble_eq_true rfl, Nat.le_of_ble_eq_true rfl⟩ rfl (Nat.le_of_ble_eq_true rfl) dX7_does_150 0 rfl rfl [0, 1] rfl rfl rfl rfl rfl rfl ?_
    cases hF
    exact RT.1 0 0 _ _ _ _ .int rfl rfl dX7_does_153 ⟨rfl, rfl⟩ (Nat.le_refl 0) (Nat.le_refl 0)
  replace hF := g_f e102 hF
  by_cases e110 : command ((4 : Int32) * p1).toNatClampNeg = (110 : Int32)
  · replace hF := g_t e110 hF
    refine r_tsIn (off := 86) X 116 dX7_does_30 e110 (by decide +kernel) (by decide +kernel) (by decide +kernel) (by decide +kernel) ?_
    refine r_aload_n (pc' := 117) X dX7_does_116 rfl 0 rfl rfl ?_
    refine r_iload_n (pc' := 118) X dX7_does_117 rfl 2 rfl rfl ?_
    refine r_iload_n (pc' := 119) X dX7_does_118 rfl 3 rfl rfl ?_
    obtain ⟨⟨r17, mm_18⟩, hc19, hF⟩ := g_bd hF
    refine r_callVF (pc' := 122) (ws' := [oX7 a_z a_mm a_old a_saved_ a_isSaved a_text textLength refused a_far a_marked a_stack top highest overflowed a_command commands at_ fault_ hash, oI a_mm cI 1222 mm_18, oI a_old cI 1222 old, oZ a_marked cZ 200 marked, oI a_stack cI 20 stack, oI a_command cI 160 command]) (st' := [.int r17]) X (mX7_alloc D cI cZ cH a_z a_mm a_old a_saved_ a_isSaved a_text a_far a_marked a_stack a_command textLength refused top highest overflowed commands at_ fault_ hash mm (command (((4 : Int32) * p1) + (1 : Int32)).toNatClampNeg) (command (((4 : Int32) * p1) + (2 : Int32)).toNatClampNeg) r17 mm_18 hc19) 2 gX7_does_X7_alloc rfl (by decide +kernel) rfl rfl ⟨Nat.le_of_ble_eq_true rfl, Nat.le_of_ble_eq_true rfl⟩ ⟨Nat.le_of_ble_eq_true rfl, Nat.le_of_ble_eq_true rfl⟩ rfl (Nat.le_of_ble_eq_true rfl) dX7_does_119 0 rfl rfl [0, 1] rfl rfl rfl rfl rfl rfl ?_
    cases hF
    exact RT.1 0 0 _ _ _ _ .int rfl rfl dX7_does_122 ⟨rfl, rfl⟩ (Nat.le_refl 0) (Nat.le_refl 0)
  replace hF := g_f e110 hF
  by_cases e112 : command ((4 : Int32) * p1).toNatClampNeg = (112 : Int32)
  · replace hF := g_t e112 hF
    refine r_tsIn (off := 124) X 154 dX7_does_30 e112 (by decide +kernel) (by decide +kernel) (by decide +kernel) (by decide +kernel) ?_
    refine r_aload_n (pc' := 155) X dX7_does_154 rfl 0 rfl rfl ?_
    refine r_iload_n (pc' := 156) X dX7_does_155 rfl 2 rfl rfl ?_
    refine r_iconst (pc' := 157) X (1 : Int32) dX7_does_156 (by decide) rfl ?_
    obtain ⟨⟨r20, mm_21⟩, hc22, hF⟩ := g_bd hF
    refine r_callVF (pc' := 160) (ws' := [oX7 a_z a_mm a_old a_saved_ a_isSaved a_text textLength refused a_far a_marked a_stack top highest overflowed a_command commands at_ fault_ hash, oI a_mm cI 1222 mm_21, oI a_old cI 1222 old, oZ a_marked cZ 200 marked, oI a_stack cI 20 stack, oI a_command cI 160 command]) (st' := [.int r20]) X (mX7_pin D cI cZ cH a_z a_mm a_old a_saved_ a_isSaved a_text a_far a_marked a_stack a_command textLength refused top highest overflowed commands at_ fault_ hash mm (command (((4 : Int32) * p1) + (1 : Int32)).toNatClampNeg) (1 : Int32) r20 mm_21 hc22) 2 gX7_does_X7_pin rfl (by decide +kernel) rfl rfl ⟨Nat.le_of_ble_eq_true rfl, Nat.le_of_ble_eq_true rfl⟩ ⟨Nat.le_of_ble_eq_true rfl, Nat.le_of_ble_eq_true rfl⟩ rfl (Nat.le_of_ble_eq_true rfl) dX7_does_157 0 rfl rfl [0, 1] rfl rfl rfl rfl rfl rfl ?_
    cases hF
    exact RT.1 0 0 _ _ _ _ .int rfl rfl dX7_does_160 ⟨rfl, rfl⟩ (Nat.le_refl 0) (Nat.le_refl 0)
  replace hF := g_f e112 hF
  by_cases e114 : command ((4 : Int32) * p1).toNatClampNeg = (114 : Int32)
  · replace hF := g_t e114 hF
    refine r_tsIn (off := 93) X 123 dX7_does_30 e114 (by decide +kernel) (by decide +kernel) (by decide +kernel) (by decide +kernel) ?_
    refine r_aload_n (pc' := 124) X dX7_does_123 rfl 0 rfl rfl ?_
    refine r_iload_n (pc' := 125) X dX7_does_124 rfl 2 rfl rfl ?_
    refine r_iload_n (pc' := 126) X dX7_does_125 rfl 3 rfl rfl ?_
    obtain ⟨⟨r23, mm_24⟩, hc25, hF⟩ := g_bd hF
    refine r_callVF (pc' := 129) (ws' := [oX7 a_z a_mm a_old a_saved_ a_isSaved a_text textLength refused a_far a_marked a_stack top highest overflowed a_command commands at_ fault_ hash, oI a_mm cI 1222 mm_24, oI a_old cI 1222 old, oZ a_marked cZ 200 marked, oI a_stack cI 20 stack, oI a_command cI 160 command]) (st' := [.int r23]) X (mX7_setRoot D cI cZ cH a_z a_mm a_old a_saved_ a_isSaved a_text a_far a_marked a_stack a_command textLength refused top highest overflowed commands at_ fault_ hash mm (command (((4 : Int32) * p1) + (1 : Int32)).toNatClampNeg) (command (((4 : Int32) * p1) + (2 : Int32)).toNatClampNeg) r23 mm_24 hc25) 2 gX7_does_X7_setRoot rfl (by decide +kernel) rfl rfl ⟨Nat.le_of_ble_eq_true rfl, Nat.le_of_ble_eq_true rfl⟩ ⟨Nat.le_of_ble_eq_true rfl, Nat.le_of_ble_eq_true rfl⟩ rfl (Nat.le_of_ble_eq_true rfl) dX7_does_126 0 rfl rfl [0, 1] rfl rfl rfl rfl rfl rfl ?_
    cases hF
    exact RT.1 0 0 _ _ _ _ .int rfl rfl dX7_does_129 ⟨rfl, rfl⟩ (Nat.le_refl 0) (Nat.le_refl 0)
  replace hF := g_f e114 hF
  by_cases e117 : command ((4 : Int32) * p1).toNatClampNeg = (117 : Int32)
  · replace hF := g_t e117 hF
    refine r_tsIn (off := 131) X 161 dX7_does_30 e117 (by decide +kernel) (by decide +kernel) (by decide +kernel) (by decide +kernel) ?_
    refine r_aload_n (pc' := 162) X dX7_does_161 rfl 0 rfl rfl ?_
    refine r_iload_n (pc' := 163) X dX7_does_162 rfl 2 rfl rfl ?_
    refine r_iconst (pc' := 164) X (0 : Int32) dX7_does_163 (by decide) rfl ?_
    obtain ⟨⟨r26, mm_27⟩, hc28, hF⟩ := g_bd hF
    refine r_callVF (pc' := 167) (ws' := [oX7 a_z a_mm a_old a_saved_ a_isSaved a_text textLength refused a_far a_marked a_stack top highest overflowed a_command commands at_ fault_ hash, oI a_mm cI 1222 mm_27, oI a_old cI 1222 old, oZ a_marked cZ 200 marked, oI a_stack cI 20 stack, oI a_command cI 160 command]) (st' := [.int r26]) X (mX7_pin D cI cZ cH a_z a_mm a_old a_saved_ a_isSaved a_text a_far a_marked a_stack a_command textLength refused top highest overflowed commands at_ fault_ hash mm (command (((4 : Int32) * p1) + (1 : Int32)).toNatClampNeg) (0 : Int32) r26 mm_27 hc28) 2 gX7_does_X7_pin rfl (by decide +kernel) rfl rfl ⟨Nat.le_of_ble_eq_true rfl, Nat.le_of_ble_eq_true rfl⟩ ⟨Nat.le_of_ble_eq_true rfl, Nat.le_of_ble_eq_true rfl⟩ rfl (Nat.le_of_ble_eq_true rfl) dX7_does_164 0 rfl rfl [0, 1] rfl rfl rfl rfl rfl rfl ?_
    cases hF
    exact RT.1 0 0 _ _ _ _ .int rfl rfl dX7_does_167 ⟨rfl, rfl⟩ (Nat.le_refl 0) (Nat.le_refl 0)
  replace hF := g_f e117 hF
  by_cases e119 : command ((4 : Int32) * p1).toNatClampNeg = (119 : Int32)
  · replace hF := g_t e119 hF
    refine r_tsIn (off := 100) X 130 dX7_does_30 e119 (by decide +kernel) (by decide +kernel) (by decide +kernel) (by decide +kernel) ?_
    refine r_aload_n (pc' := 131) X dX7_does_130 rfl 0 rfl rfl ?_
    refine r_iload_n (pc' := 132) X dX7_does_131 rfl 2 rfl rfl ?_
    refine r_iload_n (pc' := 133) X dX7_does_132 rfl 3 rfl rfl ?_
    obtain ⟨⟨r29, mm_30⟩, hc31, hF⟩ := g_bd hF
    refine r_callVF (pc' := 136) (ws' := [oX7 a_z a_mm a_old a_saved_ a_isSaved a_text textLength refused a_far a_marked a_stack top highest overflowed a_command commands at_ fault_ hash, oI a_mm cI 1222 mm_30, oI a_old cI 1222 old, oZ a_marked cZ 200 marked, oI a_stack cI 20 stack, oI a_command cI 160 command]) (st' := [.int r29]) X (mX7_setWeak D cI cZ cH a_z a_mm a_old a_saved_ a_isSaved a_text a_far a_marked a_stack a_command textLength refused top highest overflowed commands at_ fault_ hash mm (command (((4 : Int32) * p1) + (1 : Int32)).toNatClampNeg) (command (((4 : Int32) * p1) + (2 : Int32)).toNatClampNeg) r29 mm_30 hc31) 2 gX7_does_X7_setWeak rfl (by decide +kernel) rfl rfl ⟨Nat.le_of_ble_eq_true rfl, Nat.le_of_ble_eq_true rfl⟩ ⟨Nat.le_of_ble_eq_true rfl, Nat.le_of_ble_eq_true rfl⟩ rfl (Nat.le_of_ble_eq_true rfl) dX7_does_133 0 rfl rfl [0, 1] rfl rfl rfl rfl rfl rfl ?_
    cases hF
    exact RT.1 0 0 _ _ _ _ .int rfl rfl dX7_does_136 ⟨rfl, rfl⟩ (Nat.le_refl 0) (Nat.le_refl 0)
  replace hF := g_f e119 hF
  have hdf : ∀ hh : True, G 0 0 [oX7 a_z a_mm a_old a_saved_ a_isSaved a_text textLength refused a_far a_marked a_stack top highest overflowed a_command commands at_ fault_ hash, oI a_mm cI 1222 mm, oI a_old cI 1222 old, oZ a_marked cZ 200 marked, oI a_stack cI 20 stack, oI a_command cI 160 command] [(0, .ref a_z), (1, .int p1), (2, .int (command (((4 : Int32) * p1) + (1 : Int32)).toNatClampNeg)), (3, .int (command (((4 : Int32) * p1) + (2 : Int32)).toNatClampNeg))] 168 [] := by
    intro _
    refine r_aload_n (pc' := 169) X dX7_does_168 rfl 0 rfl rfl ?_
    obtain ⟨⟨r4, top_5, highest_6, overflowed_7, mm_8, old_9, marked_10, stack_11⟩, hc12, hF⟩ := g_bd hF
    refine r_callVF (pc' := 172) (ws' := [oX7 a_z a_mm a_old a_saved_ a_isSaved a_text textLength refused a_far a_marked a_stack top_5 highest_6 overflowed_7 a_command commands at_ fault_ hash, oI a_mm cI 1222 mm_8, oI a_old cI 1222 old_9, oZ a_marked cZ 200 marked_10, oI a_stack cI 20 stack_11, oI a_command cI 160 command]) (st' := [.int r4]) X (mX7_collect D cI cZ cH a_z a_mm a_old a_marked a_stack a_saved_ a_isSaved a_text a_far a_command textLength refused top highest overflowed commands at_ fault_ hash mm old marked stack r4 top_5 highest_6 overflowed_7 mm_8 old_9 marked_10 stack_11 hc12) 0 gX7_does_X7_collect rfl (by decide +kernel) rfl rfl ⟨Nat.le_of_ble_eq_true rfl, Nat.le_of_ble_eq_true rfl⟩ ⟨Nat.le_of_ble_eq_true rfl, Nat.le_of_ble_eq_true rfl⟩ rfl (Nat.le_of_ble_eq_true rfl) dX7_does_169 0 rfl rfl [0, 1, 2, 3, 4] rfl rfl rfl rfl rfl rfl ?_
    cases hF
    exact RT.1 0 0 _ _ _ _ .int rfl rfl dX7_does_172 ⟨rfl, rfl⟩ (Nat.le_refl 0) (Nat.le_refl 0)
  rcases g_ts (lo := 102) (hi := 119) (command ((4 : Int32) * p1).toNatClampNeg) with h9 | h9
  · exact r_tsOut X 168 dX7_does_30 h9 (by decide +kernel) (hdf trivial)
  · obtain ⟨h8, h9⟩ := h9
    rcases g_sw102_119 (command ((4 : Int32) * p1).toNatClampNeg) h8 h9 with h9 | h9 | h9 | h9 | h9 | h9 | h9 | h9 | h9 | h9 | h9 | h9 | h9 | h9 | h9 | h9 | h9 | h9
    · exact absurd h9 e102
    · exact r_tsIn (off := 138) X 168 dX7_does_30 h9 (by decide +kernel) (by decide +kernel) (by decide +kernel) (by decide +kernel) (hdf trivial)
    · exact r_tsIn (off := 138) X 168 dX7_does_30 h9 (by decide +kernel) (by decide +kernel) (by decide +kernel) (by decide +kernel) (hdf trivial)
    · exact r_tsIn (off := 138) X 168 dX7_does_30 h9 (by decide +kernel) (by decide +kernel) (by decide +kernel) (by decide +kernel) (hdf trivial)
    · exact r_tsIn (off := 138) X 168 dX7_does_30 h9 (by decide +kernel) (by decide +kernel) (by decide +kernel) (by decide +kernel) (hdf trivial)
    · exact r_tsIn (off := 138) X 168 dX7_does_30 h9 (by decide +kernel) (by decide +kernel) (by decide +kernel) (by decide +kernel) (hdf trivial)
    · exact r_tsIn (off := 138) X 168 dX7_does_30 h9 (by decide +kernel) (by decide +kernel) (by decide +kernel) (by decide +kernel) (hdf trivial)
    · exact r_tsIn (off := 138) X 168 dX7_does_30 h9 (by decide +kernel) (by decide +kernel) (by decide +kernel) (by decide +kernel) (hdf trivial)
    · exact absurd h9 e110
    · exact r_tsIn (off := 138) X 168 dX7_does_30 h9 (by decide +kernel) (by decide +kernel) (by decide +kernel) (by decide +kernel) (hdf trivial)
    · exact absurd h9 e112
    · exact r_tsIn (off := 138) X 168 dX7_does_30 h9 (by decide +kernel) (by decide +kernel) (by decide +kernel) (by decide +kernel) (hdf trivial)
    · exact absurd h9 e114
    · exact r_tsIn (off := 138) X 168 dX7_does_30 h9 (by decide +kernel) (by decide +kernel) (by decide +kernel) (by decide +kernel) (hdf trivial)
    · exact r_tsIn (off := 138) X 168 dX7_does_30 h9 (by decide +kernel) (by decide +kernel) (by decide +kernel) (by decide +kernel) (hdf trivial)
    · exact absurd h9 e117
    · exact r_tsIn (off := 138) X 168 dX7_does_30 h9 (by decide +kernel) (by decide +kernel) (by decide +kernel) (by decide +kernel) (hdf trivial)
    · exact absurd h9 e119
theorem kX7_run_2 : Cond.fieldLink RX7 26 "IslandHeapModel" "refused" "I" ∈ wsX7_run := List.mem_of_getElem? (i := 2) (by decide +kernel)
theorem kX7_run_3 : Cond.fieldLink RX7 151 "IslandHeapModel" "commands" "I" ∈ wsX7_run := List.mem_of_getElem? (i := 3) (by decide +kernel)
theorem kX7_run_4 : Cond.constant RX7 50 (-1000002) ∈ wsX7_run := List.mem_of_getElem? (i := 4) (by decide +kernel)
theorem kX7_run_1 : Cond.constant RX7 82 (-1000003) ∈ wsX7_run := List.mem_of_getElem? (i := 1) (by decide +kernel)
theorem uX7_run_X7 : ∀ w ∈ u_ws RX7 TX7 18, w ∈ wsX7_run := by decide +kernel
set_option maxHeartbeats 4000000 in
set_option maxRecDepth 100000 in
theorem mX7_run (D : va_G) (cI cZ cH : ClassId) (a_z : Nat) (a_mm : Nat) (a_old : Nat) (a_text : Nat) (a_marked : Nat) (a_stack : Nat) (a_command : Nat) (a_saved_ : Nat) (a_isSaved : Nat) (a_far : Nat) (textLength : Int32) (refused : Int32) (top : Int32) (highest : Int32) (overflowed : Int32) (commands : Int32) (at_ : Int32) (fault_ : Int32) (hash : Int64) (mm : Nat → Int32) (old : Nat → Int32) (text : Nat → Int32) (marked : Nat → Int32) (stack : Nat → Int32) (command : Nat → Int32) (r0 : Int32) (w_refused : Int32) (w_top : Int32) (w_highest : Int32) (w_overflowed : Int32) (w_commands : Int32) (w_at_ : Int32) (w_fault_ : Int32) (w_mm : Nat → Int32) (w_old : Nat → Int32) (w_marked : Nat → Int32) (w_stack : Nat → Int32) (w_command : Nat → Int32) (hF : FX7_run textLength refused top highest overflowed commands at_ fault_ mm old text marked stack command = some (r0, w_refused, w_top, w_highest, w_overflowed, w_commands, w_at_, w_fault_, w_mm, w_old, w_marked, w_stack, w_command)) : g_CM yX7_run wsX7_run ({ frames := 8, cells := 0, slots := 0, locals := 184 }) D cI cZ cH [.ref a_z] [oX7 a_z a_mm a_old a_saved_ a_isSaved a_text textLength refused a_far a_marked a_stack top highest overflowed a_command commands at_ fault_ hash, oI a_mm cI 1222 mm, oI a_old cI 1222 old, oI a_text cI 80 text, oZ a_marked cZ 200 marked, oI a_stack cI 20 stack, oI a_command cI 160 command] 0 0 (g_Tm (some (.int r0)) [oX7 a_z a_mm a_old a_saved_ a_isSaved a_text textLength w_refused a_far a_marked a_stack w_top w_highest w_overflowed a_command w_commands w_at_ w_fault_ hash, oI a_mm cI 1222 w_mm, oI a_old cI 1222 w_old, oI a_text cI 80 text, oZ a_marked cZ 200 w_marked, oI a_stack cI 20 w_stack, oI a_command cI 160 w_command]) := by
  refine g_met (own := RX7) (mn := "run") (cc := cX7_run) (maxL := 4) (ret := (some .int)) rfl rfl (by decide +kernel) rfl (Nat.le_of_ble_eq_true rfl) (fun G X RT => ?_)
  show G 0 0 [oX7 a_z a_mm a_old a_saved_ a_isSaved a_text textLength refused a_far a_marked a_stack top highest overflowed a_command commands at_ fault_ hash, oI a_mm cI 1222 mm, oI a_old cI 1222 old, oI a_text cI 80 text, oZ a_marked cZ 200 marked, oI a_stack cI 20 stack, oI a_command cI 160 command] [(0, .ref a_z)] 0 []
  unfold FX7_run at hF
  refine r_aload_n (pc' := 1) X dX7_run_0 rfl 0 rfl rfl ?_
  obtain ⟨⟨r1, commands_2, at_3, fault_4, command_5⟩, hc6, hF⟩ := g_bd hF
  refine r_callVF (pc' := 4) (ws' := [oX7 a_z a_mm a_old a_saved_ a_isSaved a_text textLength refused a_far a_marked a_stack top highest overflowed a_command commands_2 at_3 fault_4 hash, oI a_mm cI 1222 mm, oI a_old cI 1222 old, oI a_text cI 80 text, oZ a_marked cZ 200 marked, oI a_stack cI 20 stack, oI a_command cI 160 command_5]) (st' := [.int r1]) X (mX7_fault D cI cZ cH a_z a_text a_command a_mm a_old a_saved_ a_isSaved a_far a_marked a_stack textLength refused top highest overflowed commands at_ fault_ hash text command r1 commands_2 at_3 fault_4 command_5 hc6) 0 gX7_run_X7_fault rfl (by decide +kernel) rfl rfl ⟨Nat.le_of_ble_eq_true rfl, Nat.le_of_ble_eq_true rfl⟩ ⟨Nat.le_of_ble_eq_true rfl, Nat.le_of_ble_eq_true rfl⟩ rfl (Nat.le_of_ble_eq_true rfl) dX7_run_1 0 rfl rfl [0, 3, 6] rfl rfl rfl rfl rfl rfl ?_
  refine r_iconst (pc' := 5) X (-1 : Int32) dX7_run_4 (by decide) rfl ?_
  refine r_icmp_eq (pc' := 8) X 11 dX7_run_5 (by decide) rfl (fun c9 => ?_) (fun c9 => ?_)
  · replace hF := g_t c9 hF
    refine r_aload_n (pc' := 12) X dX7_run_11 rfl 0 rfl rfl ?_
    refine r_iconst (pc' := 13) X (0 : Int32) dX7_run_12 (by decide) rfl ?_
    refine r_put (pc' := 16) (ty := .int) (ws' := [oX7 a_z a_mm a_old a_saved_ a_isSaved a_text textLength (0 : Int32) a_far a_marked a_stack top highest overflowed a_command commands_2 at_3 fault_4 hash, oI a_mm cI 1222 mm, oI a_old cI 1222 old, oI a_text cI 80 text, oZ a_marked cZ 200 marked, oI a_stack cI 20 stack, oI a_command cI 160 command_5]) X uX7_run_X7 0 6 tyX7 tyX7_ok nmX7 dX7_run_13 rfl rfl (by decide) kX7_run_2 rfl (by decide +kernel) rfl rfl (Nat.le_of_ble_eq_true rfl) rfl rfl ?_
    refine r_iconst (pc' := 17) X (0 : Int32) dX7_run_16 (by decide) rfl ?_
    refine r_istore_n (pc' := 18) (lv' := [(0, .ref a_z), (1, .int (0 : Int32))]) X dX7_run_17 rfl (by decide) [1, 0] rfl rfl ?_
    refine r_iconst (pc' := 19) X (0 : Int32) dX7_run_18 (by decide) rfl ?_
    refine r_istore_n (pc' := 20) (lv' := [(0, .ref a_z), (1, .int (0 : Int32)), (2, .int (0 : Int32))]) X dX7_run_19 rfl (by decide) [1, 2, 0] rfl rfl ?_
    obtain ⟨ex20, hR, hF⟩ := g_bd hF
    have hE20 : ∀ (v1_17 : Int32) (refused_18 : Int32) (top_19 : Int32) (highest_20 : Int32) (overflowed_21 : Int32) (mm_22 : Nat → Int32) (old_23 : Nat → Int32) (marked_24 : Nat → Int32) (stack_25 : Nat → Int32), (v1_17, refused_18, top_19, highest_20, overflowed_21, mm_22, old_23, marked_24, stack_25) = ex20 → G 0 0 [oX7 a_z a_mm a_old a_saved_ a_isSaved a_text textLength refused_18 a_far a_marked a_stack top_19 highest_20 overflowed_21 a_command commands_2 at_3 fault_4 hash, oI a_mm cI 1222 mm_22, oI a_old cI 1222 old_23, oI a_text cI 80 text, oZ a_marked cZ 200 marked_24, oI a_stack cI 20 stack_25, oI a_command cI 160 command_5] [(1, .int v1_17)] 76 [] := by
      intro v1_17 refused_18 top_19 highest_20 overflowed_21 mm_22 old_23 marked_24 stack_25 hx; subst hx
      refine r_iload_n (pc' := 77) X dX7_run_76 rfl 0 rfl rfl ?_
      cases hF
      exact RT.1 0 0 _ _ _ _ .int rfl rfl dX7_run_77 ⟨rfl, rfl⟩ (Nat.le_refl 0) (Nat.le_refl 0)
    have hL20 : ∀ (fu : Nat) (v1_7 : Int32) (v2_8 : Int32) (refused_9 : Int32) (top_10 : Int32) (highest_11 : Int32) (overflowed_12 : Int32) (mm_13 : Nat → Int32) (old_14 : Nat → Int32) (marked_15 : Nat → Int32) (stack_16 : Nat → Int32), g_itn (FX7_run_L20 commands_2 command_5) fu (v1_7, v2_8, refused_9, top_10, highest_11, overflowed_12, mm_13, old_14, marked_15, stack_16) = some ex20 → G 0 0 [oX7 a_z a_mm a_old a_saved_ a_isSaved a_text textLength refused_9 a_far a_marked a_stack top_10 highest_11 overflowed_12 a_command commands_2 at_3 fault_4 hash, oI a_mm cI 1222 mm_13, oI a_old cI 1222 old_14, oI a_text cI 80 text, oZ a_marked cZ 200 marked_15, oI a_stack cI 20 stack_16, oI a_command cI 160 command_5] [(0, .ref a_z), (1, .int v1_7), (2, .int v2_8)] 20 [] := by
      intro fu
      induction fu with
      | zero => intro v1_7 v2_8 refused_9 top_10 highest_11 overflowed_12 mm_13 old_14 marked_15 stack_16 h9; exact (g_it0 h9).elim
      | succ fu ih =>
        intro v1_7 v2_8 refused_9 top_10 highest_11 overflowed_12 mm_13 old_14 marked_15 stack_16 h9
        obtain ⟨y20, hF, hI20⟩ := g_its h9
        unfold FX7_run_L20 at hF
        refine r_iload_n (pc' := 21) X dX7_run_20 rfl 2 rfl rfl ?_
        refine r_aload_n (pc' := 22) X dX7_run_21 rfl 0 rfl rfl ?_
        refine r_get (pc' := 25) X uX7_run_X7 0 14 dX7_run_22 rfl rfl (by decide) kX7_run_3 rfl rfl ?_
        refine r_icmp_ge (pc' := 28) X 76 dX7_run_25 (by decide) rfl (fun c9 => ?_) (fun c9 => ?_)
        · replace hF := g_t c9 hF
          cases hF
          refine r_sub (lv' := [(1, .int v1_7)]) X [1] rfl ?_
          exact hE20 v1_7 refused_9 top_10 highest_11 overflowed_12 mm_13 old_14 marked_15 stack_16 hI20
        · replace hF := g_f c9 hF
          refine r_aload_n (pc' := 29) X dX7_run_28 rfl 0 rfl rfl ?_
          refine r_get (pc' := 32) X uX7_run_X7 0 6 dX7_run_29 rfl rfl (by decide) kX7_run_2 rfl rfl ?_
          refine r_if_ne (pc' := 35) X 76 dX7_run_32 (by decide) rfl (fun c9 => ?_) (fun c9 => ?_)
          · replace hF := g_f c9 hF
            cases hF
            refine r_sub (lv' := [(1, .int v1_7)]) X [1] rfl ?_
            exact hE20 v1_7 refused_9 top_10 highest_11 overflowed_12 mm_13 old_14 marked_15 stack_16 hI20
          · replace hF := g_t c9 hF
            refine r_aload_n (pc' := 36) X dX7_run_35 rfl 0 rfl rfl ?_
            refine r_iload_n (pc' := 37) X dX7_run_36 rfl 2 rfl rfl ?_
            obtain ⟨⟨r26, top_27, highest_28, overflowed_29, mm_30, old_31, marked_32, stack_33⟩, hc34, hF⟩ := g_bd hF
            refine r_callVF (pc' := 40) (ws' := [oX7 a_z a_mm a_old a_saved_ a_isSaved a_text textLength refused_9 a_far a_marked a_stack top_27 highest_28 overflowed_29 a_command commands_2 at_3 fault_4 hash, oI a_mm cI 1222 mm_30, oI a_old cI 1222 old_31, oI a_text cI 80 text, oZ a_marked cZ 200 marked_32, oI a_stack cI 20 stack_33, oI a_command cI 160 command_5]) (st' := [.int r26]) X (mX7_does D cI cZ cH a_z a_mm a_old a_marked a_stack a_command a_saved_ a_isSaved a_text a_far textLength refused_9 top_10 highest_11 overflowed_12 commands_2 at_3 fault_4 hash mm_13 old_14 marked_15 stack_16 command_5 v2_8 r26 top_27 highest_28 overflowed_29 mm_30 old_31 marked_32 stack_33 hc34) 1 gX7_run_X7_does rfl (by decide +kernel) rfl rfl ⟨Nat.le_of_ble_eq_true rfl, Nat.le_of_ble_eq_true rfl⟩ ⟨Nat.le_of_ble_eq_true rfl, Nat.le_of_ble_eq_true rfl⟩ rfl (Nat.le_of_ble_eq_true rfl) dX7_run_37 0 rfl rfl [0, 1, 2, 4, 5, 6] rfl rfl rfl rfl rfl rfl ?_
            refine r_istore_n (pc' := 41) (lv' := [(0, .ref a_z), (1, .int v1_7), (2, .int v2_8), (3, .int r26)]) X dX7_run_40 rfl (by decide) [1, 2, 3, 0] rfl rfl ?_
            refine r_aload_n (pc' := 42) X dX7_run_41 rfl 0 rfl rfl ?_
            refine r_iload_n (pc' := 43) X dX7_run_42 rfl 3 rfl rfl ?_
            refine r_ldc (pc' := 45) X dX7_run_43 kX7_run_4 rfl ?_
            obtain ⟨exJ36, hR, hF⟩ := g_bd hF
            have hJ36 : ∀ (t35 : Int32), t35 = exJ36 → G 0 0 [oX7 a_z a_mm a_old a_saved_ a_isSaved a_text textLength refused_9 a_far a_marked a_stack top_27 highest_28 overflowed_29 a_command commands_2 at_3 fault_4 hash, oI a_mm cI 1222 mm_30, oI a_old cI 1222 old_31, oI a_text cI 80 text, oZ a_marked cZ 200 marked_32, oI a_stack cI 20 stack_33, oI a_command cI 160 command_5] [(0, .ref a_z), (1, .int v1_7), (2, .int v2_8), (3, .int r26)] 53 [.int t35, .ref a_z] := by
              intro t35 hx; subst hx
              refine r_put (pc' := 56) (ty := .int) (ws' := [oX7 a_z a_mm a_old a_saved_ a_isSaved a_text textLength t35 a_far a_marked a_stack top_27 highest_28 overflowed_29 a_command commands_2 at_3 fault_4 hash, oI a_mm cI 1222 mm_30, oI a_old cI 1222 old_31, oI a_text cI 80 text, oZ a_marked cZ 200 marked_32, oI a_stack cI 20 stack_33, oI a_command cI 160 command_5]) X uX7_run_X7 0 6 tyX7 tyX7_ok nmX7 dX7_run_53 rfl rfl (by decide) kX7_run_2 rfl (by decide +kernel) rfl rfl (Nat.le_of_ble_eq_true rfl) rfl rfl ?_
              refine r_iload_n (pc' := 57) X dX7_run_56 rfl 1 rfl rfl ?_
              refine r_iload_n (pc' := 58) X dX7_run_57 rfl 3 rfl rfl ?_
              refine r_ldc (pc' := 60) X dX7_run_58 kX7_run_4 rfl ?_
              obtain ⟨exJ38, hR, hF⟩ := g_bd hF
              have hJ38 : ∀ (t37 : Int32), t37 = exJ38 → G 0 0 [oX7 a_z a_mm a_old a_saved_ a_isSaved a_text textLength t35 a_far a_marked a_stack top_27 highest_28 overflowed_29 a_command commands_2 at_3 fault_4 hash, oI a_mm cI 1222 mm_30, oI a_old cI 1222 old_31, oI a_text cI 80 text, oZ a_marked cZ 200 marked_32, oI a_stack cI 20 stack_33, oI a_command cI 160 command_5] [(0, .ref a_z), (2, .int v2_8)] 68 [.int t37, .int v1_7] := by
                intro t37 hx; subst hx
                refine r_iadd (pc' := 69) X dX7_run_68 rfl ?_
                refine r_istore_n (pc' := 70) (lv' := [(0, .ref a_z), (1, .int (v1_7 + t37)), (2, .int v2_8)]) X dX7_run_69 rfl (by decide) [1, 0, 2] rfl rfl ?_
                refine r_iinc (pc' := 73) (lv' := [(0, .ref a_z), (1, .int (v1_7 + t37)), (2, .int (v2_8 + (1 : Int32)))]) X (v2_8 + (1 : Int32)) dX7_run_70 2 rfl (congrArg (fun z => v2_8 + z) (by decide)) (by decide) [1, 2, 0] rfl rfl ?_
                refine r_goto X 20 dX7_run_73 (by decide) ?_
                cases hF
                exact ih (v1_7 + t37) (v2_8 + (1 : Int32)) t35 top_27 highest_28 overflowed_29 mm_30 old_31 marked_32 stack_33 hI20
              replace hF := hR
              refine r_icmp_gt (pc' := 63) X 67 dX7_run_60 (by decide) rfl (fun c9 => ?_) (fun c9 => ?_)
              · replace hF := g_t c9 hF
                refine r_iconst (pc' := 68) X (1 : Int32) dX7_run_67 (by decide) rfl ?_
                refine r_sub (lv' := [(0, .ref a_z), (2, .int v2_8)]) X [0, 2] rfl ?_
                exact hJ38 (1 : Int32) (Option.some.inj hF)
              · replace hF := g_f c9 hF
                refine r_iconst (pc' := 64) X (0 : Int32) dX7_run_63 (by decide) rfl ?_
                refine r_goto X 68 dX7_run_64 (by decide) ?_
                refine r_sub (lv' := [(0, .ref a_z), (2, .int v2_8)]) X [0, 2] rfl ?_
                exact hJ38 (0 : Int32) (Option.some.inj hF)
            replace hF := hR
            refine r_icmp_gt (pc' := 48) X 52 dX7_run_45 (by decide) rfl (fun c9 => ?_) (fun c9 => ?_)
            · replace hF := g_t c9 hF
              refine r_iconst (pc' := 53) X (0 : Int32) dX7_run_52 (by decide) rfl ?_
              exact hJ36 (0 : Int32) (Option.some.inj hF)
            · replace hF := g_f c9 hF
              refine r_iload_n (pc' := 49) X dX7_run_48 rfl 3 rfl rfl ?_
              refine r_goto X 53 dX7_run_49 (by decide) ?_
              exact hJ36 r26 (Option.some.inj hF)
    exact hL20 g_fuel (0 : Int32) (0 : Int32) (0 : Int32) top highest overflowed mm old marked stack hR
  · replace hF := g_f c9 hF
    refine r_ldc (pc' := 10) X dX7_run_8 kX7_run_1 rfl ?_
    cases hF
    exact RT.1 0 0 _ _ _ _ .int rfl rfl dX7_run_10 ⟨rfl, rfl⟩ (Nat.le_refl 0) (Nat.le_refl 0)
theorem kX7_refusal_1 : Cond.fieldLink RX7 26 "IslandHeapModel" "refused" "I" ∈ wsX7_refusal := List.mem_of_getElem? (i := 1) (by decide +kernel)
theorem uX7_refusal_X7 : ∀ w ∈ u_ws RX7 TX7 18, w ∈ wsX7_refusal := by decide +kernel
set_option maxHeartbeats 4000000 in
set_option maxRecDepth 100000 in
theorem mX7_refusal (D : va_G) (cI cZ cH : ClassId) (a_z : Nat) (a_mm : Nat) (a_old : Nat) (a_saved_ : Nat) (a_isSaved : Nat) (a_text : Nat) (a_far : Nat) (a_marked : Nat) (a_stack : Nat) (a_command : Nat) (textLength : Int32) (refused : Int32) (top : Int32) (highest : Int32) (overflowed : Int32) (commands : Int32) (at_ : Int32) (fault_ : Int32) (hash : Int64) (r0 : Int32) (hF : FX7_refusal refused = some r0) : g_CM yX7_refusal wsX7_refusal ({ frames := 0, cells := 0, slots := 0, locals := 0 }) D cI cZ cH [.ref a_z] [oX7 a_z a_mm a_old a_saved_ a_isSaved a_text textLength refused a_far a_marked a_stack top highest overflowed a_command commands at_ fault_ hash] 0 0 (g_Tm (some (.int r0)) [oX7 a_z a_mm a_old a_saved_ a_isSaved a_text textLength refused a_far a_marked a_stack top highest overflowed a_command commands at_ fault_ hash]) := by
  refine g_met (own := RX7) (mn := "refusal") (cc := cX7_refusal) (maxL := 1) (ret := (some .int)) rfl rfl (by decide +kernel) rfl (Nat.le_of_ble_eq_true rfl) (fun G X RT => ?_)
  show G 0 0 [oX7 a_z a_mm a_old a_saved_ a_isSaved a_text textLength refused a_far a_marked a_stack top highest overflowed a_command commands at_ fault_ hash] [(0, .ref a_z)] 0 []
  unfold FX7_refusal at hF
  refine r_aload_n (pc' := 1) X dX7_refusal_0 rfl 0 rfl rfl ?_
  refine r_get (pc' := 4) X uX7_refusal_X7 0 6 dX7_refusal_1 rfl rfl (by decide) kX7_refusal_1 rfl rfl ?_
  cases hF
  exact RT.1 0 0 _ _ _ _ .int rfl rfl dX7_refusal_4 ⟨rfl, rfl⟩ (Nat.le_refl 0) (Nat.le_refl 0)
theorem kX7_save_4 : Cond.fieldLink RX7 19 "IslandHeapModel" "isSaved" "[Z" ∈ wsX7_save := List.mem_of_getElem? (i := 4) (by decide +kernel)
theorem kX7_save_2 : Cond.fieldLink RX7 16 "IslandHeapModel" "saved" "[I" ∈ wsX7_save := List.mem_of_getElem? (i := 2) (by decide +kernel)
theorem kX7_save_3 : Cond.fieldLink RX7 7 "IslandHeapModel" "m" "[I" ∈ wsX7_save := List.mem_of_getElem? (i := 3) (by decide +kernel)
theorem kX7_save_1 : Cond.constant RX7 50 (-1000002) ∈ wsX7_save := List.mem_of_getElem? (i := 1) (by decide +kernel)
theorem uX7_save_X7 : ∀ w ∈ u_ws RX7 TX7 18, w ∈ wsX7_save := by decide +kernel
set_option maxHeartbeats 4000000 in
set_option maxRecDepth 100000 in
theorem mX7_save (D : va_G) (cI cZ cH : ClassId) (a_z : Nat) (a_mm : Nat) (a_saved_ : Nat) (a_isSaved : Nat) (a_old : Nat) (a_text : Nat) (a_far : Nat) (a_marked : Nat) (a_stack : Nat) (a_command : Nat) (textLength : Int32) (refused : Int32) (top : Int32) (highest : Int32) (overflowed : Int32) (commands : Int32) (at_ : Int32) (fault_ : Int32) (hash : Int64) (mm : Nat → Int32) (saved_ : Nat → Int32) (isSaved : Nat → Int32) (p1 : Int32) (r0 : Int32) (w_saved_ : Nat → Int32) (w_isSaved : Nat → Int32) (hF : FX7_save mm saved_ isSaved p1 = some (r0, w_saved_, w_isSaved)) : g_CM yX7_save wsX7_save ({ frames := 1, cells := 0, slots := 0, locals := 23 }) D cI cZ cH [.ref a_z, .int p1] [oX7 a_z a_mm a_old a_saved_ a_isSaved a_text textLength refused a_far a_marked a_stack top highest overflowed a_command commands at_ fault_ hash, oI a_mm cI 1222 mm, oI a_saved_ cI 2444 saved_, oZ a_isSaved cZ 2 isSaved] 0 0 (g_Tm (some (.int r0)) [oX7 a_z a_mm a_old a_saved_ a_isSaved a_text textLength refused a_far a_marked a_stack top highest overflowed a_command commands at_ fault_ hash, oI a_mm cI 1222 mm, oI a_saved_ cI 2444 w_saved_, oZ a_isSaved cZ 2 w_isSaved]) := by
  refine g_met (own := RX7) (mn := "save") (cc := cX7_save) (maxL := 3) (ret := (some .int)) rfl rfl (by decide +kernel) rfl (Nat.le_of_ble_eq_true rfl) (fun G X RT => ?_)
  show G 0 0 [oX7 a_z a_mm a_old a_saved_ a_isSaved a_text textLength refused a_far a_marked a_stack top highest overflowed a_command commands at_ fault_ hash, oI a_mm cI 1222 mm, oI a_saved_ cI 2444 saved_, oZ a_isSaved cZ 2 isSaved] [(0, .ref a_z), (1, .int p1)] 0 []
  unfold FX7_save at hF
  refine r_iload_n (pc' := 1) X dX7_save_0 rfl 1 rfl rfl ?_
  refine r_iconst (pc' := 2) X (0 : Int32) dX7_save_1 (by decide) rfl ?_
  refine r_iconst (pc' := 3) X (1 : Int32) dX7_save_2 (by decide) rfl ?_
  obtain ⟨r1, hc2, hF⟩ := g_bd hF
  refine r_callSF (pc' := 6) (ws' := [oX7 a_z a_mm a_old a_saved_ a_isSaved a_text textLength refused a_far a_marked a_stack top highest overflowed a_command commands at_ fault_ hash, oI a_mm cI 1222 mm, oI a_saved_ cI 2444 saved_, oZ a_isSaved cZ 2 isSaved]) (st' := [.int r1]) X (mX7_in D cI cZ cH p1 (0 : Int32) (1 : Int32) r1 hc2) 3 gX7_save_X7_in rfl (by decide +kernel) rfl rfl ⟨Nat.le_of_ble_eq_true rfl, Nat.le_of_ble_eq_true rfl⟩ ⟨Nat.le_of_ble_eq_true rfl, Nat.le_of_ble_eq_true rfl⟩ rfl (Nat.le_of_ble_eq_true rfl) dX7_save_3 [] rfl rfl rfl rfl rfl rfl ?_
  refine r_if_ne (pc' := 9) X 12 dX7_save_6 (by decide) rfl (fun c9 => ?_) (fun c9 => ?_)
  · replace hF := g_f c9 hF
    refine r_iconst (pc' := 13) X (0 : Int32) dX7_save_12 (by decide) rfl ?_
    refine r_istore_n (pc' := 14) (lv' := [(0, .ref a_z), (1, .int p1), (2, .int (0 : Int32))]) X dX7_save_13 rfl (by decide) [1, 2, 0] rfl rfl ?_
    obtain ⟨ex14, hR, hF⟩ := g_bd hF
    have hE14 : ∀ (saved_5 : Nat → Int32), saved_5 = ex14 → G 0 0 [oX7 a_z a_mm a_old a_saved_ a_isSaved a_text textLength refused a_far a_marked a_stack top highest overflowed a_command commands at_ fault_ hash, oI a_mm cI 1222 mm, oI a_saved_ cI 2444 saved_5, oZ a_isSaved cZ 2 isSaved] [(0, .ref a_z), (1, .int p1)] 45 [] := by
      intro saved_5 hx; subst hx
      refine r_aload_n (pc' := 46) X dX7_save_45 rfl 0 rfl rfl ?_
      refine r_get (pc' := 49) X uX7_save_X7 0 3 dX7_save_46 rfl rfl (by decide) kX7_save_4 rfl rfl ?_
      refine r_iload_n (pc' := 50) X dX7_save_49 rfl 1 rfl rfl ?_
      refine r_iconst (pc' := 51) X (1 : Int32) dX7_save_50 (by decide) rfl ?_
      obtain ⟨hi6, hF⟩ := g_gt hF
      refine r_zast (pc' := 52) (ws' := [oX7 a_z a_mm a_old a_saved_ a_isSaved a_text textLength refused a_far a_marked a_stack top highest overflowed a_command commands at_ fault_ hash, oI a_mm cI 1222 mm, oI a_saved_ cI 2444 saved_5, oZ a_isSaved cZ 2 (upd isSaved p1.toNatClampNeg (1 : Int32))]) X 3 dX7_save_51 rfl (g_vi hi6) (by decide +kernel) rfl rfl ?_
      refine r_aload_n (pc' := 53) X dX7_save_52 rfl 0 rfl rfl ?_
      refine r_iconst (pc' := 54) X (0 : Int32) dX7_save_53 (by decide) rfl ?_
      obtain ⟨r7, hc8, hF⟩ := g_bd hF
      refine r_callVF (pc' := 57) (ws' := [oX7 a_z a_mm a_old a_saved_ a_isSaved a_text textLength refused a_far a_marked a_stack top highest overflowed a_command commands at_ fault_ hash, oI a_mm cI 1222 mm, oI a_saved_ cI 2444 saved_5, oZ a_isSaved cZ 2 (upd isSaved p1.toNatClampNeg (1 : Int32))]) (st' := [.int r7]) X (mX7_many D cI cZ cH a_z a_mm a_old a_saved_ a_isSaved a_text a_far a_marked a_stack a_command textLength refused top highest overflowed commands at_ fault_ hash mm (0 : Int32) r7 hc8) 1 gX7_save_X7_many rfl (by decide +kernel) rfl rfl ⟨Nat.le_of_ble_eq_true rfl, Nat.le_of_ble_eq_true rfl⟩ ⟨Nat.le_of_ble_eq_true rfl, Nat.le_of_ble_eq_true rfl⟩ rfl (Nat.le_of_ble_eq_true rfl) dX7_save_54 0 rfl rfl [0, 1] rfl rfl rfl rfl rfl rfl ?_
      cases hF
      exact RT.1 0 0 _ _ _ _ .int rfl rfl dX7_save_57 ⟨rfl, rfl⟩ (Nat.le_refl 0) (Nat.le_refl 0)
    have hL14 : ∀ (fu : Nat) (v2_3 : Int32) (saved_4 : Nat → Int32), g_itn (FX7_save_L14 mm p1) fu (v2_3, saved_4) = some ex14 → G 0 0 [oX7 a_z a_mm a_old a_saved_ a_isSaved a_text textLength refused a_far a_marked a_stack top highest overflowed a_command commands at_ fault_ hash, oI a_mm cI 1222 mm, oI a_saved_ cI 2444 saved_4, oZ a_isSaved cZ 2 isSaved] [(0, .ref a_z), (1, .int p1), (2, .int v2_3)] 14 [] := by
      intro fu
      induction fu with
      | zero => intro v2_3 saved_4 h9; exact (g_it0 h9).elim
      | succ fu ih =>
        intro v2_3 saved_4 h9
        obtain ⟨y14, hF, hI14⟩ := g_its h9
        unfold FX7_save_L14 at hF
        refine r_iload_n (pc' := 15) X dX7_save_14 rfl 2 rfl rfl ?_
        refine r_sipush (pc' := 18) X (1222 : Int32) dX7_save_15 (by decide) rfl ?_
        refine r_icmp_ge (pc' := 21) X 45 dX7_save_18 (by decide) rfl (fun c9 => ?_) (fun c9 => ?_)
        · replace hF := g_t c9 hF
          cases hF
          refine r_sub (lv' := [(0, .ref a_z), (1, .int p1)]) X [0, 1] rfl ?_
          exact hE14 saved_4 hI14
        · replace hF := g_f c9 hF
          refine r_aload_n (pc' := 22) X dX7_save_21 rfl 0 rfl rfl ?_
          refine r_get (pc' := 25) X uX7_save_X7 0 2 dX7_save_22 rfl rfl (by decide) kX7_save_2 rfl rfl ?_
          refine r_sipush (pc' := 28) X (1222 : Int32) dX7_save_25 (by decide) rfl ?_
          refine r_iload_n (pc' := 29) X dX7_save_28 rfl 1 rfl rfl ?_
          refine r_imul (pc' := 30) X dX7_save_29 rfl ?_
          refine r_iload_n (pc' := 31) X dX7_save_30 rfl 2 rfl rfl ?_
          refine r_iadd (pc' := 32) X dX7_save_31 rfl ?_
          refine r_aload_n (pc' := 33) X dX7_save_32 rfl 0 rfl rfl ?_
          refine r_get (pc' := 36) X uX7_save_X7 0 0 dX7_save_33 rfl rfl (by decide) kX7_save_3 rfl rfl ?_
          refine r_iload_n (pc' := 37) X dX7_save_36 rfl 2 rfl rfl ?_
          obtain ⟨hi9, hF⟩ := g_gt hF
          refine r_iald (pc' := 38) X 1 dX7_save_37 rfl (g_vi hi9) rfl ?_
          obtain ⟨hi10, hF⟩ := g_gt hF
          refine r_iast (pc' := 39) (ws' := [oX7 a_z a_mm a_old a_saved_ a_isSaved a_text textLength refused a_far a_marked a_stack top highest overflowed a_command commands at_ fault_ hash, oI a_mm cI 1222 mm, oI a_saved_ cI 2444 (upd saved_4 (((1222 : Int32) * p1) + v2_3).toNatClampNeg (mm v2_3.toNatClampNeg)), oZ a_isSaved cZ 2 isSaved]) X 2 dX7_save_38 rfl (g_vi hi10) rfl rfl ?_
          refine r_iinc (pc' := 42) (lv' := [(0, .ref a_z), (1, .int p1), (2, .int (v2_3 + (1 : Int32)))]) X (v2_3 + (1 : Int32)) dX7_save_39 2 rfl (congrArg (fun z => v2_3 + z) (by decide)) (by decide) [1, 2, 0] rfl rfl ?_
          refine r_goto X 14 dX7_save_42 (by decide) ?_
          cases hF
          exact ih (v2_3 + (1 : Int32)) (upd saved_4 (((1222 : Int32) * p1) + v2_3).toNatClampNeg (mm v2_3.toNatClampNeg)) hI14
    exact hL14 g_fuel (0 : Int32) saved_ hR
  · replace hF := g_t c9 hF
    refine r_ldc (pc' := 11) X dX7_save_9 kX7_save_1 rfl ?_
    cases hF
    exact RT.1 0 0 _ _ _ _ .int rfl rfl dX7_save_11 ⟨rfl, rfl⟩ (Nat.le_refl 0) (Nat.le_refl 0)
theorem kX7_restore_2 : Cond.fieldLink RX7 19 "IslandHeapModel" "isSaved" "[Z" ∈ wsX7_restore := List.mem_of_getElem? (i := 2) (by decide +kernel)
theorem kX7_restore_4 : Cond.fieldLink RX7 7 "IslandHeapModel" "m" "[I" ∈ wsX7_restore := List.mem_of_getElem? (i := 4) (by decide +kernel)
theorem kX7_restore_5 : Cond.fieldLink RX7 16 "IslandHeapModel" "saved" "[I" ∈ wsX7_restore := List.mem_of_getElem? (i := 5) (by decide +kernel)
theorem kX7_restore_3 : Cond.constant RX7 82 (-1000003) ∈ wsX7_restore := List.mem_of_getElem? (i := 3) (by decide +kernel)
theorem kX7_restore_1 : Cond.constant RX7 50 (-1000002) ∈ wsX7_restore := List.mem_of_getElem? (i := 1) (by decide +kernel)
theorem uX7_restore_X7 : ∀ w ∈ u_ws RX7 TX7 18, w ∈ wsX7_restore := by decide +kernel
set_option maxHeartbeats 4000000 in
set_option maxRecDepth 100000 in
theorem mX7_restore (D : va_G) (cI cZ cH : ClassId) (a_z : Nat) (a_mm : Nat) (a_saved_ : Nat) (a_isSaved : Nat) (a_old : Nat) (a_text : Nat) (a_far : Nat) (a_marked : Nat) (a_stack : Nat) (a_command : Nat) (textLength : Int32) (refused : Int32) (top : Int32) (highest : Int32) (overflowed : Int32) (commands : Int32) (at_ : Int32) (fault_ : Int32) (hash : Int64) (mm : Nat → Int32) (saved_ : Nat → Int32) (isSaved : Nat → Int32) (p1 : Int32) (r0 : Int32) (w_mm : Nat → Int32) (hF : FX7_restore mm saved_ isSaved p1 = some (r0, w_mm)) : g_CM yX7_restore wsX7_restore ({ frames := 1, cells := 0, slots := 0, locals := 23 }) D cI cZ cH [.ref a_z, .int p1] [oX7 a_z a_mm a_old a_saved_ a_isSaved a_text textLength refused a_far a_marked a_stack top highest overflowed a_command commands at_ fault_ hash, oI a_mm cI 1222 mm, oI a_saved_ cI 2444 saved_, oZ a_isSaved cZ 2 isSaved] 0 0 (g_Tm (some (.int r0)) [oX7 a_z a_mm a_old a_saved_ a_isSaved a_text textLength refused a_far a_marked a_stack top highest overflowed a_command commands at_ fault_ hash, oI a_mm cI 1222 w_mm, oI a_saved_ cI 2444 saved_, oZ a_isSaved cZ 2 isSaved]) := by
  refine g_met (own := RX7) (mn := "restore") (cc := cX7_restore) (maxL := 3) (ret := (some .int)) rfl rfl (by decide +kernel) rfl (Nat.le_of_ble_eq_true rfl) (fun G X RT => ?_)
  show G 0 0 [oX7 a_z a_mm a_old a_saved_ a_isSaved a_text textLength refused a_far a_marked a_stack top highest overflowed a_command commands at_ fault_ hash, oI a_mm cI 1222 mm, oI a_saved_ cI 2444 saved_, oZ a_isSaved cZ 2 isSaved] [(0, .ref a_z), (1, .int p1)] 0 []
  unfold FX7_restore at hF
  refine r_iload_n (pc' := 1) X dX7_restore_0 rfl 1 rfl rfl ?_
  refine r_iconst (pc' := 2) X (0 : Int32) dX7_restore_1 (by decide) rfl ?_
  refine r_iconst (pc' := 3) X (1 : Int32) dX7_restore_2 (by decide) rfl ?_
  obtain ⟨r1, hc2, hF⟩ := g_bd hF
  refine r_callSF (pc' := 6) (ws' := [oX7 a_z a_mm a_old a_saved_ a_isSaved a_text textLength refused a_far a_marked a_stack top highest overflowed a_command commands at_ fault_ hash, oI a_mm cI 1222 mm, oI a_saved_ cI 2444 saved_, oZ a_isSaved cZ 2 isSaved]) (st' := [.int r1]) X (mX7_in D cI cZ cH p1 (0 : Int32) (1 : Int32) r1 hc2) 3 gX7_restore_X7_in rfl (by decide +kernel) rfl rfl ⟨Nat.le_of_ble_eq_true rfl, Nat.le_of_ble_eq_true rfl⟩ ⟨Nat.le_of_ble_eq_true rfl, Nat.le_of_ble_eq_true rfl⟩ rfl (Nat.le_of_ble_eq_true rfl) dX7_restore_3 [] rfl rfl rfl rfl rfl rfl ?_
  refine r_if_ne (pc' := 9) X 12 dX7_restore_6 (by decide) rfl (fun c9 => ?_) (fun c9 => ?_)
  · replace hF := g_f c9 hF
    refine r_aload_n (pc' := 13) X dX7_restore_12 rfl 0 rfl rfl ?_
    refine r_get (pc' := 16) X uX7_restore_X7 0 3 dX7_restore_13 rfl rfl (by decide) kX7_restore_2 rfl rfl ?_
    refine r_iload_n (pc' := 17) X dX7_restore_16 rfl 1 rfl rfl ?_
    obtain ⟨hi3, hF⟩ := g_gt hF
    refine r_zald (pc' := 18) X 3 dX7_restore_17 rfl (g_vi hi3) rfl ?_
    refine r_if_ne (pc' := 21) X 24 dX7_restore_18 (by decide) rfl (fun c9 => ?_) (fun c9 => ?_)
    · replace hF := g_f c9 hF
      refine r_iconst (pc' := 25) X (0 : Int32) dX7_restore_24 (by decide) rfl ?_
      refine r_istore_n (pc' := 26) (lv' := [(0, .ref a_z), (1, .int p1), (2, .int (0 : Int32))]) X dX7_restore_25 rfl (by decide) [1, 2, 0] rfl rfl ?_
      obtain ⟨ex26, hR, hF⟩ := g_bd hF
      have hE26 : ∀ (mm_6 : Nat → Int32), mm_6 = ex26 → G 0 0 [oX7 a_z a_mm a_old a_saved_ a_isSaved a_text textLength refused a_far a_marked a_stack top highest overflowed a_command commands at_ fault_ hash, oI a_mm cI 1222 mm_6, oI a_saved_ cI 2444 saved_, oZ a_isSaved cZ 2 isSaved] [(0, .ref a_z)] 57 [] := by
        intro mm_6 hx; subst hx
        refine r_aload_n (pc' := 58) X dX7_restore_57 rfl 0 rfl rfl ?_
        refine r_iconst (pc' := 59) X (0 : Int32) dX7_restore_58 (by decide) rfl ?_
        obtain ⟨r7, hc8, hF⟩ := g_bd hF
        refine r_callVF (pc' := 62) (ws' := [oX7 a_z a_mm a_old a_saved_ a_isSaved a_text textLength refused a_far a_marked a_stack top highest overflowed a_command commands at_ fault_ hash, oI a_mm cI 1222 mm_6, oI a_saved_ cI 2444 saved_, oZ a_isSaved cZ 2 isSaved]) (st' := [.int r7]) X (mX7_many D cI cZ cH a_z a_mm a_old a_saved_ a_isSaved a_text a_far a_marked a_stack a_command textLength refused top highest overflowed commands at_ fault_ hash mm_6 (0 : Int32) r7 hc8) 1 gX7_restore_X7_many rfl (by decide +kernel) rfl rfl ⟨Nat.le_of_ble_eq_true rfl, Nat.le_of_ble_eq_true rfl⟩ ⟨Nat.le_of_ble_eq_true rfl, Nat.le_of_ble_eq_true rfl⟩ rfl (Nat.le_of_ble_eq_true rfl) dX7_restore_59 0 rfl rfl [0, 1] rfl rfl rfl rfl rfl rfl ?_
        cases hF
        exact RT.1 0 0 _ _ _ _ .int rfl rfl dX7_restore_62 ⟨rfl, rfl⟩ (Nat.le_refl 0) (Nat.le_refl 0)
      have hL26 : ∀ (fu : Nat) (v2_4 : Int32) (mm_5 : Nat → Int32), g_itn (FX7_restore_L26 saved_ p1) fu (v2_4, mm_5) = some ex26 → G 0 0 [oX7 a_z a_mm a_old a_saved_ a_isSaved a_text textLength refused a_far a_marked a_stack top highest overflowed a_command commands at_ fault_ hash, oI a_mm cI 1222 mm_5, oI a_saved_ cI 2444 saved_, oZ a_isSaved cZ 2 isSaved] [(0, .ref a_z), (1, .int p1), (2, .int v2_4)] 26 [] := by
        intro fu
        induction fu with
        | zero => intro v2_4 mm_5 h9; exact (g_it0 h9).elim
        | succ fu ih =>
          intro v2_4 mm_5 h9
          obtain ⟨y26, hF, hI26⟩ := g_its h9
          unfold FX7_restore_L26 at hF
          refine r_iload_n (pc' := 27) X dX7_restore_26 rfl 2 rfl rfl ?_
          refine r_sipush (pc' := 30) X (1222 : Int32) dX7_restore_27 (by decide) rfl ?_
          refine r_icmp_ge (pc' := 33) X 57 dX7_restore_30 (by decide) rfl (fun c9 => ?_) (fun c9 => ?_)
          · replace hF := g_t c9 hF
            cases hF
            refine r_sub (lv' := [(0, .ref a_z)]) X [0] rfl ?_
            exact hE26 mm_5 hI26
          · replace hF := g_f c9 hF
            refine r_aload_n (pc' := 34) X dX7_restore_33 rfl 0 rfl rfl ?_
            refine r_get (pc' := 37) X uX7_restore_X7 0 0 dX7_restore_34 rfl rfl (by decide) kX7_restore_4 rfl rfl ?_
            refine r_iload_n (pc' := 38) X dX7_restore_37 rfl 2 rfl rfl ?_
            refine r_aload_n (pc' := 39) X dX7_restore_38 rfl 0 rfl rfl ?_
            refine r_get (pc' := 42) X uX7_restore_X7 0 2 dX7_restore_39 rfl rfl (by decide) kX7_restore_5 rfl rfl ?_
            refine r_sipush (pc' := 45) X (1222 : Int32) dX7_restore_42 (by decide) rfl ?_
            refine r_iload_n (pc' := 46) X dX7_restore_45 rfl 1 rfl rfl ?_
            refine r_imul (pc' := 47) X dX7_restore_46 rfl ?_
            refine r_iload_n (pc' := 48) X dX7_restore_47 rfl 2 rfl rfl ?_
            refine r_iadd (pc' := 49) X dX7_restore_48 rfl ?_
            obtain ⟨hi9, hF⟩ := g_gt hF
            refine r_iald (pc' := 50) X 2 dX7_restore_49 rfl (g_vi hi9) rfl ?_
            obtain ⟨hi10, hF⟩ := g_gt hF
            refine r_iast (pc' := 51) (ws' := [oX7 a_z a_mm a_old a_saved_ a_isSaved a_text textLength refused a_far a_marked a_stack top highest overflowed a_command commands at_ fault_ hash, oI a_mm cI 1222 (upd mm_5 v2_4.toNatClampNeg (saved_ (((1222 : Int32) * p1) + v2_4).toNatClampNeg)), oI a_saved_ cI 2444 saved_, oZ a_isSaved cZ 2 isSaved]) X 1 dX7_restore_50 rfl (g_vi hi10) rfl rfl ?_
            refine r_iinc (pc' := 54) (lv' := [(0, .ref a_z), (1, .int p1), (2, .int (v2_4 + (1 : Int32)))]) X (v2_4 + (1 : Int32)) dX7_restore_51 2 rfl (congrArg (fun z => v2_4 + z) (by decide)) (by decide) [1, 2, 0] rfl rfl ?_
            refine r_goto X 26 dX7_restore_54 (by decide) ?_
            cases hF
            exact ih (v2_4 + (1 : Int32)) (upd mm_5 v2_4.toNatClampNeg (saved_ (((1222 : Int32) * p1) + v2_4).toNatClampNeg)) hI26
      exact hL26 g_fuel (0 : Int32) mm hR
    · replace hF := g_t c9 hF
      refine r_ldc (pc' := 23) X dX7_restore_21 kX7_restore_3 rfl ?_
      cases hF
      exact RT.1 0 0 _ _ _ _ .int rfl rfl dX7_restore_23 ⟨rfl, rfl⟩ (Nat.le_refl 0) (Nat.le_refl 0)
  · replace hF := g_t c9 hF
    refine r_ldc (pc' := 11) X dX7_restore_9 kX7_restore_1 rfl ?_
    cases hF
    exact RT.1 0 0 _ _ _ _ .int rfl rfl dX7_restore_11 ⟨rfl, rfl⟩ (Nat.le_refl 0) (Nat.le_refl 0)
theorem kX7_count_3 : Cond.constant RX7 50 (-1000002) ∈ wsX7_count := List.mem_of_getElem? (i := 3) (by decide +kernel)
theorem kX7_count_1 : Cond.fieldLink RX7 7 "IslandHeapModel" "m" "[I" ∈ wsX7_count := List.mem_of_getElem? (i := 1) (by decide +kernel)
theorem kX7_count_2 : Cond.fieldLink RX7 126 "IslandHeapModel" "textLength" "I" ∈ wsX7_count := List.mem_of_getElem? (i := 2) (by decide +kernel)
theorem uX7_count_X7 : ∀ w ∈ u_ws RX7 TX7 18, w ∈ wsX7_count := by decide +kernel
set_option maxHeartbeats 4000000 in
set_option maxRecDepth 100000 in
theorem mX7_count (D : va_G) (cI cZ cH : ClassId) (a_z : Nat) (a_mm : Nat) (a_old : Nat) (a_saved_ : Nat) (a_isSaved : Nat) (a_text : Nat) (a_far : Nat) (a_marked : Nat) (a_stack : Nat) (a_command : Nat) (textLength : Int32) (refused : Int32) (top : Int32) (highest : Int32) (overflowed : Int32) (commands : Int32) (at_ : Int32) (fault_ : Int32) (hash : Int64) (mm : Nat → Int32) (p1 : Int32) (r0 : Int32) (hF : FX7_count textLength mm p1 = some r0) : g_CM yX7_count wsX7_count ({ frames := 1, cells := 0, slots := 0, locals := 23 }) D cI cZ cH [.ref a_z, .int p1] [oX7 a_z a_mm a_old a_saved_ a_isSaved a_text textLength refused a_far a_marked a_stack top highest overflowed a_command commands at_ fault_ hash, oI a_mm cI 1222 mm] 0 0 (g_Tm (some (.int r0)) [oX7 a_z a_mm a_old a_saved_ a_isSaved a_text textLength refused a_far a_marked a_stack top highest overflowed a_command commands at_ fault_ hash, oI a_mm cI 1222 mm]) := by
  refine g_met (own := RX7) (mn := "count") (cc := cX7_count) (maxL := 2) (ret := (some .int)) rfl rfl (by decide +kernel) rfl (Nat.le_of_ble_eq_true rfl) (fun G X RT => ?_)
  show G 0 0 [oX7 a_z a_mm a_old a_saved_ a_isSaved a_text textLength refused a_far a_marked a_stack top highest overflowed a_command commands at_ fault_ hash, oI a_mm cI 1222 mm] [(0, .ref a_z), (1, .int p1)] 0 []
  unfold FX7_count at hF
  refine r_iload_n (pc' := 1) X dX7_count_0 rfl 1 rfl rfl ?_
  by_cases e0 : p1 = (0 : Int32)
  · replace hF := g_t e0 hF
    refine r_tsIn (off := 47) X 48 dX7_count_1 e0 (by decide +kernel) (by decide +kernel) (by decide +kernel) (by decide +kernel) ?_
    refine r_aload_n (pc' := 49) X dX7_count_48 rfl 0 rfl rfl ?_
    refine r_get (pc' := 52) X uX7_count_X7 0 0 dX7_count_49 rfl rfl (by decide) kX7_count_1 rfl rfl ?_
    refine r_sipush (pc' := 55) X (1216 : Int32) dX7_count_52 (by decide) rfl ?_
    refine r_ialdK (pc' := 56) (j := 1216) X 1 dX7_count_55 rfl (by decide +kernel) (by decide +kernel) rfl ?_
    cases hF
    exact RT.1 0 0 _ _ _ _ .int rfl rfl dX7_count_56 ⟨rfl, rfl⟩ (Nat.le_refl 0) (Nat.le_refl 0)
  replace hF := g_f e0 hF
  by_cases e1 : p1 = (1 : Int32)
  · replace hF := g_t e1 hF
    refine r_tsIn (off := 56) X 57 dX7_count_1 e1 (by decide +kernel) (by decide +kernel) (by decide +kernel) (by decide +kernel) ?_
    refine r_aload_n (pc' := 58) X dX7_count_57 rfl 0 rfl rfl ?_
    refine r_get (pc' := 61) X uX7_count_X7 0 0 dX7_count_58 rfl rfl (by decide) kX7_count_1 rfl rfl ?_
    refine r_sipush (pc' := 64) X (1217 : Int32) dX7_count_61 (by decide) rfl ?_
    refine r_ialdK (pc' := 65) (j := 1217) X 1 dX7_count_64 rfl (by decide +kernel) (by decide +kernel) rfl ?_
    cases hF
    exact RT.1 0 0 _ _ _ _ .int rfl rfl dX7_count_65 ⟨rfl, rfl⟩ (Nat.le_refl 0) (Nat.le_refl 0)
  replace hF := g_f e1 hF
  by_cases e2 : p1 = (2 : Int32)
  · replace hF := g_t e2 hF
    refine r_tsIn (off := 65) X 66 dX7_count_1 e2 (by decide +kernel) (by decide +kernel) (by decide +kernel) (by decide +kernel) ?_
    refine r_aload_n (pc' := 67) X dX7_count_66 rfl 0 rfl rfl ?_
    refine r_iconst (pc' := 68) X (0 : Int32) dX7_count_67 (by decide) rfl ?_
    obtain ⟨r1, hc2, hF⟩ := g_bd hF
    refine r_callVF (pc' := 71) (ws' := [oX7 a_z a_mm a_old a_saved_ a_isSaved a_text textLength refused a_far a_marked a_stack top highest overflowed a_command commands at_ fault_ hash, oI a_mm cI 1222 mm]) (st' := [.int r1]) X (mX7_many D cI cZ cH a_z a_mm a_old a_saved_ a_isSaved a_text a_far a_marked a_stack a_command textLength refused top highest overflowed commands at_ fault_ hash mm (0 : Int32) r1 hc2) 1 gX7_count_X7_many rfl (by decide +kernel) rfl rfl ⟨Nat.le_of_ble_eq_true rfl, Nat.le_of_ble_eq_true rfl⟩ ⟨Nat.le_of_ble_eq_true rfl, Nat.le_of_ble_eq_true rfl⟩ rfl (Nat.le_of_ble_eq_true rfl) dX7_count_68 0 rfl rfl [0, 1] rfl rfl rfl rfl rfl rfl ?_
    cases hF
    exact RT.1 0 0 _ _ _ _ .int rfl rfl dX7_count_71 ⟨rfl, rfl⟩ (Nat.le_refl 0) (Nat.le_refl 0)
  replace hF := g_f e2 hF
  by_cases e3 : p1 = (3 : Int32)
  · replace hF := g_t e3 hF
    refine r_tsIn (off := 71) X 72 dX7_count_1 e3 (by decide +kernel) (by decide +kernel) (by decide +kernel) (by decide +kernel) ?_
    refine r_aload_n (pc' := 73) X dX7_count_72 rfl 0 rfl rfl ?_
    refine r_iconst (pc' := 74) X (1 : Int32) dX7_count_73 (by decide) rfl ?_
    obtain ⟨r3, hc4, hF⟩ := g_bd hF
    refine r_callVF (pc' := 77) (ws' := [oX7 a_z a_mm a_old a_saved_ a_isSaved a_text textLength refused a_far a_marked a_stack top highest overflowed a_command commands at_ fault_ hash, oI a_mm cI 1222 mm]) (st' := [.int r3]) X (mX7_many D cI cZ cH a_z a_mm a_old a_saved_ a_isSaved a_text a_far a_marked a_stack a_command textLength refused top highest overflowed commands at_ fault_ hash mm (1 : Int32) r3 hc4) 1 gX7_count_X7_many rfl (by decide +kernel) rfl rfl ⟨Nat.le_of_ble_eq_true rfl, Nat.le_of_ble_eq_true rfl⟩ ⟨Nat.le_of_ble_eq_true rfl, Nat.le_of_ble_eq_true rfl⟩ rfl (Nat.le_of_ble_eq_true rfl) dX7_count_74 0 rfl rfl [0, 1] rfl rfl rfl rfl rfl rfl ?_
    cases hF
    exact RT.1 0 0 _ _ _ _ .int rfl rfl dX7_count_77 ⟨rfl, rfl⟩ (Nat.le_refl 0) (Nat.le_refl 0)
  replace hF := g_f e3 hF
  by_cases e4 : p1 = (4 : Int32)
  · replace hF := g_t e4 hF
    refine r_tsIn (off := 77) X 78 dX7_count_1 e4 (by decide +kernel) (by decide +kernel) (by decide +kernel) (by decide +kernel) ?_
    refine r_aload_n (pc' := 79) X dX7_count_78 rfl 0 rfl rfl ?_
    refine r_get (pc' := 82) X uX7_count_X7 0 0 dX7_count_79 rfl rfl (by decide) kX7_count_1 rfl rfl ?_
    refine r_sipush (pc' := 85) X (1218 : Int32) dX7_count_82 (by decide) rfl ?_
    refine r_ialdK (pc' := 86) (j := 1218) X 1 dX7_count_85 rfl (by decide +kernel) (by decide +kernel) rfl ?_
    cases hF
    exact RT.1 0 0 _ _ _ _ .int rfl rfl dX7_count_86 ⟨rfl, rfl⟩ (Nat.le_refl 0) (Nat.le_refl 0)
  replace hF := g_f e4 hF
  by_cases e5 : p1 = (5 : Int32)
  · replace hF := g_t e5 hF
    refine r_tsIn (off := 86) X 87 dX7_count_1 e5 (by decide +kernel) (by decide +kernel) (by decide +kernel) (by decide +kernel) ?_
    refine r_aload_n (pc' := 88) X dX7_count_87 rfl 0 rfl rfl ?_
    refine r_get (pc' := 91) X uX7_count_X7 0 0 dX7_count_88 rfl rfl (by decide) kX7_count_1 rfl rfl ?_
    refine r_sipush (pc' := 94) X (1219 : Int32) dX7_count_91 (by decide) rfl ?_
    refine r_ialdK (pc' := 95) (j := 1219) X 1 dX7_count_94 rfl (by decide +kernel) (by decide +kernel) rfl ?_
    cases hF
    exact RT.1 0 0 _ _ _ _ .int rfl rfl dX7_count_95 ⟨rfl, rfl⟩ (Nat.le_refl 0) (Nat.le_refl 0)
  replace hF := g_f e5 hF
  by_cases e6 : p1 = (6 : Int32)
  · replace hF := g_t e6 hF
    refine r_tsIn (off := 95) X 96 dX7_count_1 e6 (by decide +kernel) (by decide +kernel) (by decide +kernel) (by decide +kernel) ?_
    refine r_aload_n (pc' := 97) X dX7_count_96 rfl 0 rfl rfl ?_
    refine r_get (pc' := 100) X uX7_count_X7 0 0 dX7_count_97 rfl rfl (by decide) kX7_count_1 rfl rfl ?_
    refine r_sipush (pc' := 103) X (1220 : Int32) dX7_count_100 (by decide) rfl ?_
    refine r_ialdK (pc' := 104) (j := 1220) X 1 dX7_count_103 rfl (by decide +kernel) (by decide +kernel) rfl ?_
    cases hF
    exact RT.1 0 0 _ _ _ _ .int rfl rfl dX7_count_104 ⟨rfl, rfl⟩ (Nat.le_refl 0) (Nat.le_refl 0)
  replace hF := g_f e6 hF
  by_cases e7 : p1 = (7 : Int32)
  · replace hF := g_t e7 hF
    refine r_tsIn (off := 104) X 105 dX7_count_1 e7 (by decide +kernel) (by decide +kernel) (by decide +kernel) (by decide +kernel) ?_
    refine r_aload_n (pc' := 106) X dX7_count_105 rfl 0 rfl rfl ?_
    refine r_get (pc' := 109) X uX7_count_X7 0 5 dX7_count_106 rfl rfl (by decide) kX7_count_2 rfl rfl ?_
    cases hF
    exact RT.1 0 0 _ _ _ _ .int rfl rfl dX7_count_109 ⟨rfl, rfl⟩ (Nat.le_refl 0) (Nat.le_refl 0)
  replace hF := g_f e7 hF
  have hdf : ∀ hh : True, G 0 0 [oX7 a_z a_mm a_old a_saved_ a_isSaved a_text textLength refused a_far a_marked a_stack top highest overflowed a_command commands at_ fault_ hash, oI a_mm cI 1222 mm] [(0, .ref a_z), (1, .int p1)] 110 [] := by
    intro _
    refine r_ldc (pc' := 112) X dX7_count_110 kX7_count_3 rfl ?_
    cases hF
    exact RT.1 0 0 _ _ _ _ .int rfl rfl dX7_count_112 ⟨rfl, rfl⟩ (Nat.le_refl 0) (Nat.le_refl 0)
  rcases g_ts (lo := 0) (hi := 7) p1 with h9 | h9
  · exact r_tsOut X 110 dX7_count_1 h9 (by decide +kernel) (hdf trivial)
  · obtain ⟨h8, h9⟩ := h9
    rcases g_sw0_7 p1 h8 h9 with h9 | h9 | h9 | h9 | h9 | h9 | h9 | h9
    · exact absurd h9 e0
    · exact absurd h9 e1
    · exact absurd h9 e2
    · exact absurd h9 e3
    · exact absurd h9 e4
    · exact absurd h9 e5
    · exact absurd h9 e6
    · exact absurd h9 e7
theorem kX7_mixes_1 : Cond.constantLong RX7 188 (31) ∈ wsX7_mixes := List.mem_of_getElem? (i := 1) (by decide +kernel)
theorem kX7_mixes_2 : Cond.fieldLink RX7 190 "IslandHeapModel" "hash" "J" ∈ wsX7_mixes := List.mem_of_getElem? (i := 2) (by decide +kernel)
theorem uX7_mixes_X7 : ∀ w ∈ u_ws RX7 TX7 18, w ∈ wsX7_mixes := by decide +kernel
set_option maxHeartbeats 4000000 in
set_option maxRecDepth 100000 in
theorem mX7_mixes (D : va_G) (cI cZ cH : ClassId) (a_z : Nat) (a_mm : Nat) (a_old : Nat) (a_saved_ : Nat) (a_isSaved : Nat) (a_text : Nat) (a_far : Nat) (a_marked : Nat) (a_stack : Nat) (a_command : Nat) (textLength : Int32) (refused : Int32) (top : Int32) (highest : Int32) (overflowed : Int32) (commands : Int32) (at_ : Int32) (fault_ : Int32) (hash : Int64) (p1 : Int32) (w_hash : Int64) (hF : FX7_mixes hash p1 = some w_hash) : g_CM yX7_mixes wsX7_mixes ({ frames := 0, cells := 0, slots := 0, locals := 0 }) D cI cZ cH [.ref a_z, .int p1] [oX7 a_z a_mm a_old a_saved_ a_isSaved a_text textLength refused a_far a_marked a_stack top highest overflowed a_command commands at_ fault_ hash] 0 0 (g_Tm (none) [oX7 a_z a_mm a_old a_saved_ a_isSaved a_text textLength refused a_far a_marked a_stack top highest overflowed a_command commands at_ fault_ w_hash]) := by
  refine g_met (own := RX7) (mn := "mixes") (cc := cX7_mixes) (maxL := 2) (ret := none) rfl rfl (by decide +kernel) rfl (Nat.le_of_ble_eq_true rfl) (fun G X RT => ?_)
  show G 0 0 [oX7 a_z a_mm a_old a_saved_ a_isSaved a_text textLength refused a_far a_marked a_stack top highest overflowed a_command commands at_ fault_ hash] [(0, .ref a_z), (1, .int p1)] 0 []
  unfold FX7_mixes at hF
  refine r_aload_n (pc' := 1) X dX7_mixes_0 rfl 0 rfl rfl ?_
  refine r_ldc2 (pc' := 4) X dX7_mixes_1 kX7_mixes_1 rfl ?_
  refine r_aload_n (pc' := 5) X dX7_mixes_4 rfl 0 rfl rfl ?_
  refine r_get (pc' := 8) X uX7_mixes_X7 0 17 dX7_mixes_5 rfl rfl (by decide) kX7_mixes_2 rfl rfl ?_
  refine r_lmul (pc' := 9) X dX7_mixes_8 rfl ?_
  refine r_iload_n (pc' := 10) X dX7_mixes_9 rfl 1 rfl rfl ?_
  refine r_i2l (pc' := 11) X dX7_mixes_10 rfl ?_
  refine r_ladd (pc' := 12) X dX7_mixes_11 rfl ?_
  refine r_put (pc' := 15) (ty := .long) (ws' := [oX7 a_z a_mm a_old a_saved_ a_isSaved a_text textLength refused a_far a_marked a_stack top highest overflowed a_command commands at_ fault_ (((31 : Int64) * hash) + p1.toInt64)]) X uX7_mixes_X7 0 17 tyX7 tyX7_ok nmX7 dX7_mixes_12 rfl rfl (by decide) kX7_mixes_2 rfl (by decide +kernel) rfl rfl (Nat.le_of_ble_eq_true rfl) rfl rfl ?_
  cases hF
  exact RT.2.2 0 0 _ _ _ rfl dX7_mixes_15 ⟨rfl, rfl⟩ (Nat.le_refl 0) (Nat.le_refl 0)
theorem kX7_digest_1 : Cond.constantLong RX7 194 (47) ∈ wsX7_digest := List.mem_of_getElem? (i := 1) (by decide +kernel)
theorem kX7_digest_2 : Cond.fieldLink RX7 190 "IslandHeapModel" "hash" "J" ∈ wsX7_digest := List.mem_of_getElem? (i := 2) (by decide +kernel)
theorem kX7_digest_4 : Cond.fieldLink RX7 126 "IslandHeapModel" "textLength" "I" ∈ wsX7_digest := List.mem_of_getElem? (i := 4) (by decide +kernel)
theorem kX7_digest_5 : Cond.fieldLink RX7 23 "IslandHeapModel" "text" "[I" ∈ wsX7_digest := List.mem_of_getElem? (i := 5) (by decide +kernel)
theorem kX7_digest_3 : Cond.fieldLink RX7 7 "IslandHeapModel" "m" "[I" ∈ wsX7_digest := List.mem_of_getElem? (i := 3) (by decide +kernel)
theorem uX7_digest_X7 : ∀ w ∈ u_ws RX7 TX7 18, w ∈ wsX7_digest := by decide +kernel
set_option maxHeartbeats 4000000 in
set_option maxRecDepth 100000 in
theorem mX7_digest (D : va_G) (cI cZ cH : ClassId) (a_z : Nat) (a_mm : Nat) (a_text : Nat) (a_far : Nat) (a_old : Nat) (a_saved_ : Nat) (a_isSaved : Nat) (a_marked : Nat) (a_stack : Nat) (a_command : Nat) (textLength : Int32) (refused : Int32) (top : Int32) (highest : Int32) (overflowed : Int32) (commands : Int32) (at_ : Int32) (fault_ : Int32) (hash : Int64) (mm : Nat → Int32) (text : Nat → Int32) (far : Nat → Int32) (r0 : Int64) (w_hash : Int64) (w_far : Nat → Int32) (hF : FX7_digest textLength hash mm text far = some (r0, w_hash, w_far)) : g_CM yX7_digest wsX7_digest ({ frames := 5, cells := 0, slots := 0, locals := 116 }) D cI cZ cH [.ref a_z] [oX7 a_z a_mm a_old a_saved_ a_isSaved a_text textLength refused a_far a_marked a_stack top highest overflowed a_command commands at_ fault_ hash, oI a_mm cI 1222 mm, oI a_text cI 80 text, oI a_far cI 200 far] 0 0 (g_Tm (some (.long r0)) [oX7 a_z a_mm a_old a_saved_ a_isSaved a_text textLength refused a_far a_marked a_stack top highest overflowed a_command commands at_ fault_ w_hash, oI a_mm cI 1222 mm, oI a_text cI 80 text, oI a_far cI 200 w_far]) := by
  refine g_met (own := RX7) (mn := "digest") (cc := cX7_digest) (maxL := 3) (ret := (some .long)) rfl rfl (by decide +kernel) rfl (Nat.le_of_ble_eq_true rfl) (fun G X RT => ?_)
  show G 0 0 [oX7 a_z a_mm a_old a_saved_ a_isSaved a_text textLength refused a_far a_marked a_stack top highest overflowed a_command commands at_ fault_ hash, oI a_mm cI 1222 mm, oI a_text cI 80 text, oI a_far cI 200 far] [(0, .ref a_z)] 0 []
  unfold FX7_digest at hF
  refine r_aload_n (pc' := 1) X dX7_digest_0 rfl 0 rfl rfl ?_
  refine r_ldc2 (pc' := 4) X dX7_digest_1 kX7_digest_1 rfl ?_
  refine r_put (pc' := 7) (ty := .long) (ws' := [oX7 a_z a_mm a_old a_saved_ a_isSaved a_text textLength refused a_far a_marked a_stack top highest overflowed a_command commands at_ fault_ (47 : Int64), oI a_mm cI 1222 mm, oI a_text cI 80 text, oI a_far cI 200 far]) X uX7_digest_X7 0 17 tyX7 tyX7_ok nmX7 dX7_digest_4 rfl rfl (by decide) kX7_digest_2 rfl (by decide +kernel) rfl rfl (Nat.le_of_ble_eq_true rfl) rfl rfl ?_
  refine r_iconst (pc' := 8) X (0 : Int32) dX7_digest_7 (by decide) rfl ?_
  refine r_istore_n (pc' := 9) (lv' := [(0, .ref a_z), (1, .int (0 : Int32))]) X dX7_digest_8 rfl (by decide) [1, 0] rfl rfl ?_
  obtain ⟨ex9, hR, hF⟩ := g_bd hF
  have hE9 : ∀ (hash_3 : Int64), hash_3 = ex9 → G 0 0 [oX7 a_z a_mm a_old a_saved_ a_isSaved a_text textLength refused a_far a_marked a_stack top highest overflowed a_command commands at_ fault_ hash_3, oI a_mm cI 1222 mm, oI a_text cI 80 text, oI a_far cI 200 far] [(0, .ref a_z)] 30 [] := by
    intro hash_3 hx; subst hx
    refine r_iconst (pc' := 31) X (0 : Int32) dX7_digest_30 (by decide) rfl ?_
    refine r_istore_n (pc' := 32) (lv' := [(0, .ref a_z), (1, .int (0 : Int32))]) X dX7_digest_31 rfl (by decide) [1, 0] rfl rfl ?_
    obtain ⟨ex32, hR, hF⟩ := g_bd hF
    have hE32 : ∀ (hash_6 : Int64), hash_6 = ex32 → G 0 0 [oX7 a_z a_mm a_old a_saved_ a_isSaved a_text textLength refused a_far a_marked a_stack top highest overflowed a_command commands at_ fault_ hash_6, oI a_mm cI 1222 mm, oI a_text cI 80 text, oI a_far cI 200 far] [(0, .ref a_z)] 58 [] := by
      intro hash_6 hx; subst hx
      refine r_aload_n (pc' := 59) X dX7_digest_58 rfl 0 rfl rfl ?_
      refine r_iconst (pc' := 60) X (0 : Int32) dX7_digest_59 (by decide) rfl ?_
      obtain ⟨r7, hc8, hF⟩ := g_bd hF
      refine r_callVF (pc' := 63) (ws' := [oX7 a_z a_mm a_old a_saved_ a_isSaved a_text textLength refused a_far a_marked a_stack top highest overflowed a_command commands at_ fault_ hash_6, oI a_mm cI 1222 mm, oI a_text cI 80 text, oI a_far cI 200 far]) (st' := [.int r7]) X (mX7_objectFrom D cI cZ cH a_z a_mm a_old a_saved_ a_isSaved a_text a_far a_marked a_stack a_command textLength refused top highest overflowed commands at_ fault_ hash_6 mm (0 : Int32) r7 hc8) 1 gX7_digest_X7_objectFrom rfl (by decide +kernel) rfl rfl ⟨Nat.le_of_ble_eq_true rfl, Nat.le_of_ble_eq_true rfl⟩ ⟨Nat.le_of_ble_eq_true rfl, Nat.le_of_ble_eq_true rfl⟩ rfl (Nat.le_of_ble_eq_true rfl) dX7_digest_60 0 rfl rfl [0, 1] rfl rfl rfl rfl rfl rfl ?_
      refine r_istore_n (pc' := 64) (lv' := [(0, .ref a_z), (1, .int r7)]) X dX7_digest_63 rfl (by decide) [1, 0] rfl rfl ?_
      obtain ⟨ex64, hR, hF⟩ := g_bd hF
      have hE64 : ∀ (hash_12 : Int64) (far_13 : Nat → Int32), (hash_12, far_13) = ex64 → G 0 0 [oX7 a_z a_mm a_old a_saved_ a_isSaved a_text textLength refused a_far a_marked a_stack top highest overflowed a_command commands at_ fault_ hash_12, oI a_mm cI 1222 mm, oI a_text cI 80 text, oI a_far cI 200 far_13] [(0, .ref a_z)] 140 [] := by
        intro hash_12 far_13 hx; subst hx
        refine r_iconst (pc' := 141) X (0 : Int32) dX7_digest_140 (by decide) rfl ?_
        refine r_istore_n (pc' := 142) (lv' := [(0, .ref a_z), (1, .int (0 : Int32))]) X dX7_digest_141 rfl (by decide) [1, 0] rfl rfl ?_
        obtain ⟨ex142, hR, hF⟩ := g_bd hF
        have hE142 : ∀ (hash_16 : Int64), hash_16 = ex142 → G 0 0 [oX7 a_z a_mm a_old a_saved_ a_isSaved a_text textLength refused a_far a_marked a_stack top highest overflowed a_command commands at_ fault_ hash_16, oI a_mm cI 1222 mm, oI a_text cI 80 text, oI a_far cI 200 far_13] [(0, .ref a_z)] 162 [] := by
          intro hash_16 hx; subst hx
          refine r_iconst (pc' := 163) X (0 : Int32) dX7_digest_162 (by decide) rfl ?_
          refine r_istore_n (pc' := 164) (lv' := [(0, .ref a_z), (1, .int (0 : Int32))]) X dX7_digest_163 rfl (by decide) [1, 0] rfl rfl ?_
          obtain ⟨ex164, hR, hF⟩ := g_bd hF
          have hE164 : ∀ (hash_19 : Int64), hash_19 = ex164 → G 0 0 [oX7 a_z a_mm a_old a_saved_ a_isSaved a_text textLength refused a_far a_marked a_stack top highest overflowed a_command commands at_ fault_ hash_19, oI a_mm cI 1222 mm, oI a_text cI 80 text, oI a_far cI 200 far_13] [(0, .ref a_z)] 202 [] := by
            intro hash_19 hx; subst hx
            refine r_iconst (pc' := 203) X (0 : Int32) dX7_digest_202 (by decide) rfl ?_
            refine r_istore_n (pc' := 204) (lv' := [(0, .ref a_z), (1, .int (0 : Int32))]) X dX7_digest_203 rfl (by decide) [1, 0] rfl rfl ?_
            obtain ⟨ex204, hR, hF⟩ := g_bd hF
            have hE204 : ∀ (hash_22 : Int64), hash_22 = ex204 → G 0 0 [oX7 a_z a_mm a_old a_saved_ a_isSaved a_text textLength refused a_far a_marked a_stack top highest overflowed a_command commands at_ fault_ hash_22, oI a_mm cI 1222 mm, oI a_text cI 80 text, oI a_far cI 200 far_13] [(0, .ref a_z)] 228 [] := by
              intro hash_22 hx; subst hx
              refine r_aload_n (pc' := 229) X dX7_digest_228 rfl 0 rfl rfl ?_
              refine r_get (pc' := 232) X uX7_digest_X7 0 17 dX7_digest_229 rfl rfl (by decide) kX7_digest_2 rfl rfl ?_
              cases hF
              exact RT.2.1 0 0 _ _ _ _ rfl dX7_digest_232 ⟨rfl, rfl⟩ (Nat.le_refl 0) (Nat.le_refl 0)
            have hL204 : ∀ (fu : Nat) (v1_20 : Int32) (hash_21 : Int64), g_itn (FX7_digest_L204 textLength text) fu (v1_20, hash_21) = some ex204 → G 0 0 [oX7 a_z a_mm a_old a_saved_ a_isSaved a_text textLength refused a_far a_marked a_stack top highest overflowed a_command commands at_ fault_ hash_21, oI a_mm cI 1222 mm, oI a_text cI 80 text, oI a_far cI 200 far_13] [(0, .ref a_z), (1, .int v1_20)] 204 [] := by
              intro fu
              induction fu with
              | zero => intro v1_20 hash_21 h9; exact (g_it0 h9).elim
              | succ fu ih =>
                intro v1_20 hash_21 h9
                obtain ⟨y204, hF, hI204⟩ := g_its h9
                unfold FX7_digest_L204 at hF
                refine r_iload_n (pc' := 205) X dX7_digest_204 rfl 1 rfl rfl ?_
                refine r_aload_n (pc' := 206) X dX7_digest_205 rfl 0 rfl rfl ?_
                refine r_get (pc' := 209) X uX7_digest_X7 0 5 dX7_digest_206 rfl rfl (by decide) kX7_digest_4 rfl rfl ?_
                refine r_icmp_ge (pc' := 212) X 228 dX7_digest_209 (by decide) rfl (fun c9 => ?_) (fun c9 => ?_)
                · replace hF := g_t c9 hF
                  cases hF
                  refine r_sub (lv' := [(0, .ref a_z)]) X [0] rfl ?_
                  exact hE204 hash_21 hI204
                · replace hF := g_f c9 hF
                  refine r_aload_n (pc' := 213) X dX7_digest_212 rfl 0 rfl rfl ?_
                  refine r_aload_n (pc' := 214) X dX7_digest_213 rfl 0 rfl rfl ?_
                  refine r_get (pc' := 217) X uX7_digest_X7 0 4 dX7_digest_214 rfl rfl (by decide) kX7_digest_5 rfl rfl ?_
                  refine r_iload_n (pc' := 218) X dX7_digest_217 rfl 1 rfl rfl ?_
                  obtain ⟨hi23, hF⟩ := g_gt hF
                  refine r_iald (pc' := 219) X 2 dX7_digest_218 rfl (g_vi hi23) rfl ?_
                  obtain ⟨hash_24, hc25, hF⟩ := g_bd hF
                  refine r_callVF (pc' := 222) (ws' := [oX7 a_z a_mm a_old a_saved_ a_isSaved a_text textLength refused a_far a_marked a_stack top highest overflowed a_command commands at_ fault_ hash_24, oI a_mm cI 1222 mm, oI a_text cI 80 text, oI a_far cI 200 far_13]) (st' := []) X (mX7_mixes D cI cZ cH a_z a_mm a_old a_saved_ a_isSaved a_text a_far a_marked a_stack a_command textLength refused top highest overflowed commands at_ fault_ hash_21 (text v1_20.toNatClampNeg) hash_24 hc25) 1 gX7_digest_X7_mixes rfl (by decide +kernel) rfl rfl ⟨Nat.le_of_ble_eq_true rfl, Nat.le_of_ble_eq_true rfl⟩ ⟨Nat.le_of_ble_eq_true rfl, Nat.le_of_ble_eq_true rfl⟩ rfl (Nat.le_of_ble_eq_true rfl) dX7_digest_219 0 rfl rfl [0] rfl rfl rfl rfl rfl rfl ?_
                  refine r_iinc (pc' := 225) (lv' := [(0, .ref a_z), (1, .int (v1_20 + (1 : Int32)))]) X (v1_20 + (1 : Int32)) dX7_digest_222 1 rfl (congrArg (fun z => v1_20 + z) (by decide)) (by decide) [1, 0] rfl rfl ?_
                  refine r_goto X 204 dX7_digest_225 (by decide) ?_
                  cases hF
                  exact ih (v1_20 + (1 : Int32)) hash_24 hI204
            exact hL204 g_fuel (0 : Int32) hash_19 hR
          have hL164 : ∀ (fu : Nat) (v1_17 : Int32) (hash_18 : Int64), g_itn (FX7_digest_L164 mm) fu (v1_17, hash_18) = some ex164 → G 0 0 [oX7 a_z a_mm a_old a_saved_ a_isSaved a_text textLength refused a_far a_marked a_stack top highest overflowed a_command commands at_ fault_ hash_18, oI a_mm cI 1222 mm, oI a_text cI 80 text, oI a_far cI 200 far_13] [(0, .ref a_z), (1, .int v1_17)] 164 [] := by
            intro fu
            induction fu with
            | zero => intro v1_17 hash_18 h9; exact (g_it0 h9).elim
            | succ fu ih =>
              intro v1_17 hash_18 h9
              obtain ⟨y164, hF, hI164⟩ := g_its h9
              unfold FX7_digest_L164 at hF
              refine r_iload_n (pc' := 165) X dX7_digest_164 rfl 1 rfl rfl ?_
              refine r_bipush (pc' := 167) X (6 : Int32) dX7_digest_165 (by decide) rfl ?_
              refine r_icmp_ge (pc' := 170) X 202 dX7_digest_167 (by decide) rfl (fun c9 => ?_) (fun c9 => ?_)
              · replace hF := g_t c9 hF
                cases hF
                refine r_sub (lv' := [(0, .ref a_z)]) X [0] rfl ?_
                exact hE164 hash_18 hI164
              · replace hF := g_f c9 hF
                refine r_aload_n (pc' := 171) X dX7_digest_170 rfl 0 rfl rfl ?_
                refine r_get (pc' := 174) X uX7_digest_X7 0 0 dX7_digest_171 rfl rfl (by decide) kX7_digest_3 rfl rfl ?_
                refine r_sipush (pc' := 177) X (1221 : Int32) dX7_digest_174 (by decide) rfl ?_
                refine r_ialdK (pc' := 178) (j := 1221) X 1 dX7_digest_177 rfl (by decide +kernel) (by decide +kernel) rfl ?_
                refine r_iconst (pc' := 179) X (1 : Int32) dX7_digest_178 (by decide) rfl ?_
                refine r_icmp_ne (pc' := 182) X 202 dX7_digest_179 (by decide) rfl (fun c9 => ?_) (fun c9 => ?_)
                · replace hF := g_f c9 hF
                  cases hF
                  refine r_sub (lv' := [(0, .ref a_z)]) X [0] rfl ?_
                  exact hE164 hash_18 hI164
                · replace hF := g_t c9 hF
                  refine r_aload_n (pc' := 183) X dX7_digest_182 rfl 0 rfl rfl ?_
                  refine r_aload_n (pc' := 184) X dX7_digest_183 rfl 0 rfl rfl ?_
                  refine r_get (pc' := 187) X uX7_digest_X7 0 0 dX7_digest_184 rfl rfl (by decide) kX7_digest_3 rfl rfl ?_
                  refine r_sipush (pc' := 190) X (1210 : Int32) dX7_digest_187 (by decide) rfl ?_
                  refine r_iload_n (pc' := 191) X dX7_digest_190 rfl 1 rfl rfl ?_
                  refine r_iadd (pc' := 192) X dX7_digest_191 rfl ?_
                  obtain ⟨hi26, hF⟩ := g_gt hF
                  refine r_iald (pc' := 193) X 1 dX7_digest_192 rfl (g_vi hi26) rfl ?_
                  obtain ⟨hash_27, hc28, hF⟩ := g_bd hF
                  refine r_callVF (pc' := 196) (ws' := [oX7 a_z a_mm a_old a_saved_ a_isSaved a_text textLength refused a_far a_marked a_stack top highest overflowed a_command commands at_ fault_ hash_27, oI a_mm cI 1222 mm, oI a_text cI 80 text, oI a_far cI 200 far_13]) (st' := []) X (mX7_mixes D cI cZ cH a_z a_mm a_old a_saved_ a_isSaved a_text a_far a_marked a_stack a_command textLength refused top highest overflowed commands at_ fault_ hash_18 (mm ((1210 : Int32) + v1_17).toNatClampNeg) hash_27 hc28) 1 gX7_digest_X7_mixes rfl (by decide +kernel) rfl rfl ⟨Nat.le_of_ble_eq_true rfl, Nat.le_of_ble_eq_true rfl⟩ ⟨Nat.le_of_ble_eq_true rfl, Nat.le_of_ble_eq_true rfl⟩ rfl (Nat.le_of_ble_eq_true rfl) dX7_digest_193 0 rfl rfl [0] rfl rfl rfl rfl rfl rfl ?_
                  refine r_iinc (pc' := 199) (lv' := [(0, .ref a_z), (1, .int (v1_17 + (1 : Int32)))]) X (v1_17 + (1 : Int32)) dX7_digest_196 1 rfl (congrArg (fun z => v1_17 + z) (by decide)) (by decide) [1, 0] rfl rfl ?_
                  refine r_goto X 164 dX7_digest_199 (by decide) ?_
                  cases hF
                  exact ih (v1_17 + (1 : Int32)) hash_27 hI164
          exact hL164 g_fuel (0 : Int32) hash_16 hR
        have hL142 : ∀ (fu : Nat) (v1_14 : Int32) (hash_15 : Int64), g_itn (FX7_digest_L142 mm) fu (v1_14, hash_15) = some ex142 → G 0 0 [oX7 a_z a_mm a_old a_saved_ a_isSaved a_text textLength refused a_far a_marked a_stack top highest overflowed a_command commands at_ fault_ hash_15, oI a_mm cI 1222 mm, oI a_text cI 80 text, oI a_far cI 200 far_13] [(0, .ref a_z), (1, .int v1_14)] 142 [] := by
          intro fu
          induction fu with
          | zero => intro v1_14 hash_15 h9; exact (g_it0 h9).elim
          | succ fu ih =>
            intro v1_14 hash_15 h9
            obtain ⟨y142, hF, hI142⟩ := g_its h9
            unfold FX7_digest_L142 at hF
            refine r_iload_n (pc' := 143) X dX7_digest_142 rfl 1 rfl rfl ?_
            refine r_iconst (pc' := 144) X (5 : Int32) dX7_digest_143 (by decide) rfl ?_
            refine r_icmp_ge (pc' := 147) X 162 dX7_digest_144 (by decide) rfl (fun c9 => ?_) (fun c9 => ?_)
            · replace hF := g_t c9 hF
              cases hF
              refine r_sub (lv' := [(0, .ref a_z)]) X [0] rfl ?_
              exact hE142 hash_15 hI142
            · replace hF := g_f c9 hF
              refine r_aload_n (pc' := 148) X dX7_digest_147 rfl 0 rfl rfl ?_
              refine r_aload_n (pc' := 149) X dX7_digest_148 rfl 0 rfl rfl ?_
              refine r_iload_n (pc' := 150) X dX7_digest_149 rfl 1 rfl rfl ?_
              obtain ⟨r29, hc30, hF⟩ := g_bd hF
              refine r_callVF (pc' := 153) (ws' := [oX7 a_z a_mm a_old a_saved_ a_isSaved a_text textLength refused a_far a_marked a_stack top highest overflowed a_command commands at_ fault_ hash_15, oI a_mm cI 1222 mm, oI a_text cI 80 text, oI a_far cI 200 far_13]) (st' := [.int r29, .ref a_z]) X (mX7_free D cI cZ cH a_z a_mm a_old a_saved_ a_isSaved a_text a_far a_marked a_stack a_command textLength refused top highest overflowed commands at_ fault_ hash_15 mm v1_14 r29 hc30) 1 gX7_digest_X7_free rfl (by decide +kernel) rfl rfl ⟨Nat.le_of_ble_eq_true rfl, Nat.le_of_ble_eq_true rfl⟩ ⟨Nat.le_of_ble_eq_true rfl, Nat.le_of_ble_eq_true rfl⟩ rfl (Nat.le_of_ble_eq_true rfl) dX7_digest_150 0 rfl rfl [0, 1] rfl rfl rfl rfl rfl rfl ?_
              obtain ⟨hash_31, hc32, hF⟩ := g_bd hF
              refine r_callVF (pc' := 156) (ws' := [oX7 a_z a_mm a_old a_saved_ a_isSaved a_text textLength refused a_far a_marked a_stack top highest overflowed a_command commands at_ fault_ hash_31, oI a_mm cI 1222 mm, oI a_text cI 80 text, oI a_far cI 200 far_13]) (st' := []) X (mX7_mixes D cI cZ cH a_z a_mm a_old a_saved_ a_isSaved a_text a_far a_marked a_stack a_command textLength refused top highest overflowed commands at_ fault_ hash_15 r29 hash_31 hc32) 1 gX7_digest_X7_mixes rfl (by decide +kernel) rfl rfl ⟨Nat.le_of_ble_eq_true rfl, Nat.le_of_ble_eq_true rfl⟩ ⟨Nat.le_of_ble_eq_true rfl, Nat.le_of_ble_eq_true rfl⟩ rfl (Nat.le_of_ble_eq_true rfl) dX7_digest_153 0 rfl rfl [0] rfl rfl rfl rfl rfl rfl ?_
              refine r_iinc (pc' := 159) (lv' := [(0, .ref a_z), (1, .int (v1_14 + (1 : Int32)))]) X (v1_14 + (1 : Int32)) dX7_digest_156 1 rfl (congrArg (fun z => v1_14 + z) (by decide)) (by decide) [1, 0] rfl rfl ?_
              refine r_goto X 142 dX7_digest_159 (by decide) ?_
              cases hF
              exact ih (v1_14 + (1 : Int32)) hash_31 hI142
        exact hL142 g_fuel (0 : Int32) hash_12 hR
      have hL64 : ∀ (fu : Nat) (v1_9 : Int32) (hash_10 : Int64) (far_11 : Nat → Int32), g_itn (FX7_digest_L64 mm) fu (v1_9, hash_10, far_11) = some ex64 → G 0 0 [oX7 a_z a_mm a_old a_saved_ a_isSaved a_text textLength refused a_far a_marked a_stack top highest overflowed a_command commands at_ fault_ hash_10, oI a_mm cI 1222 mm, oI a_text cI 80 text, oI a_far cI 200 far_11] [(0, .ref a_z), (1, .int v1_9)] 64 [] := by
        intro fu
        induction fu with
        | zero => intro v1_9 hash_10 far_11 h9; exact (g_it0 h9).elim
        | succ fu ih =>
          intro v1_9 hash_10 far_11 h9
          obtain ⟨y64, hF, hI64⟩ := g_its h9
          unfold FX7_digest_L64 at hF
          refine r_iload_n (pc' := 65) X dX7_digest_64 rfl 1 rfl rfl ?_
          refine r_iconst (pc' := 66) X (-1 : Int32) dX7_digest_65 (by decide) rfl ?_
          refine r_icmp_eq (pc' := 69) X 140 dX7_digest_66 (by decide) rfl (fun c9 => ?_) (fun c9 => ?_)
          · replace hF := g_t c9 hF
            cases hF
            refine r_sub (lv' := [(0, .ref a_z)]) X [0] rfl ?_
            exact hE64 hash_10 far_11 hI64
          · replace hF := g_f c9 hF
            refine r_iconst (pc' := 70) X (0 : Int32) dX7_digest_69 (by decide) rfl ?_
            refine r_istore_n (pc' := 71) (lv' := [(0, .ref a_z), (1, .int v1_9), (2, .int (0 : Int32))]) X dX7_digest_70 rfl (by decide) [1, 2, 0] rfl rfl ?_
            obtain ⟨ex71, hR, hF⟩ := g_bd hF
            have hE71 : ∀ (hash_36 : Int64) (far_37 : Nat → Int32), (hash_36, far_37) = ex71 → G 0 0 [oX7 a_z a_mm a_old a_saved_ a_isSaved a_text textLength refused a_far a_marked a_stack top highest overflowed a_command commands at_ fault_ hash_36, oI a_mm cI 1222 mm, oI a_text cI 80 text, oI a_far cI 200 far_37] [(0, .ref a_z), (1, .int v1_9)] 93 [] := by
              intro hash_36 far_37 hx; subst hx
              refine r_iconst (pc' := 94) X (1 : Int32) dX7_digest_93 (by decide) rfl ?_
              refine r_istore_n (pc' := 95) (lv' := [(0, .ref a_z), (1, .int v1_9), (2, .int (1 : Int32))]) X dX7_digest_94 rfl (by decide) [1, 2, 0] rfl rfl ?_
              obtain ⟨ex95, hR, hF⟩ := g_bd hF
              have hE95 : ∀ (hash_40 : Int64), hash_40 = ex95 → G 0 0 [oX7 a_z a_mm a_old a_saved_ a_isSaved a_text textLength refused a_far a_marked a_stack top highest overflowed a_command commands at_ fault_ hash_40, oI a_mm cI 1222 mm, oI a_text cI 80 text, oI a_far cI 200 far_37] [(0, .ref a_z), (1, .int v1_9)] 129 [] := by
                intro hash_40 hx; subst hx
                refine r_aload_n (pc' := 130) X dX7_digest_129 rfl 0 rfl rfl ?_
                refine r_iload_n (pc' := 131) X dX7_digest_130 rfl 1 rfl rfl ?_
                refine r_iconst (pc' := 132) X (1 : Int32) dX7_digest_131 (by decide) rfl ?_
                refine r_iadd (pc' := 133) X dX7_digest_132 rfl ?_
                obtain ⟨r41, hc42, hF⟩ := g_bd hF
                refine r_callVF (pc' := 136) (ws' := [oX7 a_z a_mm a_old a_saved_ a_isSaved a_text textLength refused a_far a_marked a_stack top highest overflowed a_command commands at_ fault_ hash_40, oI a_mm cI 1222 mm, oI a_text cI 80 text, oI a_far cI 200 far_37]) (st' := [.int r41]) X (mX7_objectFrom D cI cZ cH a_z a_mm a_old a_saved_ a_isSaved a_text a_far a_marked a_stack a_command textLength refused top highest overflowed commands at_ fault_ hash_40 mm (v1_9 + (1 : Int32)) r41 hc42) 1 gX7_digest_X7_objectFrom rfl (by decide +kernel) rfl rfl ⟨Nat.le_of_ble_eq_true rfl, Nat.le_of_ble_eq_true rfl⟩ ⟨Nat.le_of_ble_eq_true rfl, Nat.le_of_ble_eq_true rfl⟩ rfl (Nat.le_of_ble_eq_true rfl) dX7_digest_133 0 rfl rfl [0, 1] rfl rfl rfl rfl rfl rfl ?_
                refine r_istore_n (pc' := 137) (lv' := [(0, .ref a_z), (1, .int r41)]) X dX7_digest_136 rfl (by decide) [1, 0] rfl rfl ?_
                refine r_goto X 64 dX7_digest_137 (by decide) ?_
                cases hF
                exact ih r41 hash_40 far_37 hI64
              have hL95 : ∀ (fu : Nat) (v2_38 : Int32) (hash_39 : Int64), g_itn (FX7_digest_L95 mm v1_9) fu (v2_38, hash_39) = some ex95 → G 0 0 [oX7 a_z a_mm a_old a_saved_ a_isSaved a_text textLength refused a_far a_marked a_stack top highest overflowed a_command commands at_ fault_ hash_39, oI a_mm cI 1222 mm, oI a_text cI 80 text, oI a_far cI 200 far_37] [(0, .ref a_z), (1, .int v1_9), (2, .int v2_38)] 95 [] := by
                intro fu
                induction fu with
                | zero => intro v2_38 hash_39 h9; exact (g_it0 h9).elim
                | succ fu ih =>
                  intro v2_38 hash_39 h9
                  obtain ⟨y95, hF, hI95⟩ := g_its h9
                  unfold FX7_digest_L95 at hF
                  refine r_iload_n (pc' := 96) X dX7_digest_95 rfl 2 rfl rfl ?_
                  refine r_aload_n (pc' := 97) X dX7_digest_96 rfl 0 rfl rfl ?_
                  refine r_get (pc' := 100) X uX7_digest_X7 0 0 dX7_digest_97 rfl rfl (by decide) kX7_digest_3 rfl rfl ?_
                  refine r_iconst (pc' := 101) X (0 : Int32) dX7_digest_100 (by decide) rfl ?_
                  refine r_iload_n (pc' := 102) X dX7_digest_101 rfl 1 rfl rfl ?_
                  refine r_iadd (pc' := 103) X dX7_digest_102 rfl ?_
                  obtain ⟨hi43, hF⟩ := g_gt hF
                  refine r_iald (pc' := 104) X 1 dX7_digest_103 rfl (g_vi hi43) rfl ?_
                  refine r_icmp_ge (pc' := 107) X 129 dX7_digest_104 (by decide) rfl (fun c9 => ?_) (fun c9 => ?_)
                  · replace hF := g_t c9 hF
                    cases hF
                    refine r_sub (lv' := [(0, .ref a_z), (1, .int v1_9)]) X [0, 1] rfl ?_
                    exact hE95 hash_39 hI95
                  · replace hF := g_f c9 hF
                    refine r_aload_n (pc' := 108) X dX7_digest_107 rfl 0 rfl rfl ?_
                    refine r_aload_n (pc' := 109) X dX7_digest_108 rfl 0 rfl rfl ?_
                    refine r_get (pc' := 112) X uX7_digest_X7 0 0 dX7_digest_109 rfl rfl (by decide) kX7_digest_3 rfl rfl ?_
                    refine r_sipush (pc' := 115) X (800 : Int32) dX7_digest_112 (by decide) rfl ?_
                    refine r_iload_n (pc' := 116) X dX7_digest_115 rfl 1 rfl rfl ?_
                    refine r_iadd (pc' := 117) X dX7_digest_116 rfl ?_
                    refine r_iload_n (pc' := 118) X dX7_digest_117 rfl 2 rfl rfl ?_
                    refine r_iadd (pc' := 119) X dX7_digest_118 rfl ?_
                    obtain ⟨hi44, hF⟩ := g_gt hF
                    refine r_iald (pc' := 120) X 1 dX7_digest_119 rfl (g_vi hi44) rfl ?_
                    obtain ⟨hash_45, hc46, hF⟩ := g_bd hF
                    refine r_callVF (pc' := 123) (ws' := [oX7 a_z a_mm a_old a_saved_ a_isSaved a_text textLength refused a_far a_marked a_stack top highest overflowed a_command commands at_ fault_ hash_45, oI a_mm cI 1222 mm, oI a_text cI 80 text, oI a_far cI 200 far_37]) (st' := []) X (mX7_mixes D cI cZ cH a_z a_mm a_old a_saved_ a_isSaved a_text a_far a_marked a_stack a_command textLength refused top highest overflowed commands at_ fault_ hash_39 (mm (((800 : Int32) + v1_9) + v2_38).toNatClampNeg) hash_45 hc46) 1 gX7_digest_X7_mixes rfl (by decide +kernel) rfl rfl ⟨Nat.le_of_ble_eq_true rfl, Nat.le_of_ble_eq_true rfl⟩ ⟨Nat.le_of_ble_eq_true rfl, Nat.le_of_ble_eq_true rfl⟩ rfl (Nat.le_of_ble_eq_true rfl) dX7_digest_120 0 rfl rfl [0] rfl rfl rfl rfl rfl rfl ?_
                    refine r_iinc (pc' := 126) (lv' := [(0, .ref a_z), (1, .int v1_9), (2, .int (v2_38 + (1 : Int32)))]) X (v2_38 + (1 : Int32)) dX7_digest_123 2 rfl (congrArg (fun z => v2_38 + z) (by decide)) (by decide) [1, 2, 0] rfl rfl ?_
                    refine r_goto X 95 dX7_digest_126 (by decide) ?_
                    cases hF
                    exact ih (v2_38 + (1 : Int32)) hash_45 hI95
              exact hL95 g_fuel (1 : Int32) hash_36 hR
            have hL71 : ∀ (fu : Nat) (v2_33 : Int32) (hash_34 : Int64) (far_35 : Nat → Int32), g_itn (FX7_digest_L71 mm v1_9) fu (v2_33, hash_34, far_35) = some ex71 → G 0 0 [oX7 a_z a_mm a_old a_saved_ a_isSaved a_text textLength refused a_far a_marked a_stack top highest overflowed a_command commands at_ fault_ hash_34, oI a_mm cI 1222 mm, oI a_text cI 80 text, oI a_far cI 200 far_35] [(0, .ref a_z), (1, .int v1_9), (2, .int v2_33)] 71 [] := by
              intro fu
              induction fu with
              | zero => intro v2_33 hash_34 far_35 h9; exact (g_it0 h9).elim
              | succ fu ih =>
                intro v2_33 hash_34 far_35 h9
                obtain ⟨y71, hF, hI71⟩ := g_its h9
                unfold FX7_digest_L71 at hF
                refine r_iload_n (pc' := 72) X dX7_digest_71 rfl 2 rfl rfl ?_
                refine r_bipush (pc' := 74) X (8 : Int32) dX7_digest_72 (by decide) rfl ?_
                refine r_icmp_ge (pc' := 77) X 93 dX7_digest_74 (by decide) rfl (fun c9 => ?_) (fun c9 => ?_)
                · replace hF := g_t c9 hF
                  cases hF
                  refine r_sub (lv' := [(0, .ref a_z), (1, .int v1_9)]) X [0, 1] rfl ?_
                  exact hE71 hash_34 far_35 hI71
                · replace hF := g_f c9 hF
                  refine r_aload_n (pc' := 78) X dX7_digest_77 rfl 0 rfl rfl ?_
                  refine r_aload_n (pc' := 79) X dX7_digest_78 rfl 0 rfl rfl ?_
                  refine r_iload_n (pc' := 80) X dX7_digest_79 rfl 1 rfl rfl ?_
                  refine r_iload_n (pc' := 81) X dX7_digest_80 rfl 2 rfl rfl ?_
                  obtain ⟨⟨r47, far_48⟩, hc49, hF⟩ := g_bd hF
                  refine r_callVF (pc' := 84) (ws' := [oX7 a_z a_mm a_old a_saved_ a_isSaved a_text textLength refused a_far a_marked a_stack top highest overflowed a_command commands at_ fault_ hash_34, oI a_mm cI 1222 mm, oI a_text cI 80 text, oI a_far cI 200 far_48]) (st' := [.int r47, .ref a_z]) X (mX7_object D cI cZ cH a_z a_mm a_far a_old a_saved_ a_isSaved a_text a_marked a_stack a_command textLength refused top highest overflowed commands at_ fault_ hash_34 mm far_35 v1_9 v2_33 r47 far_48 hc49) 2 gX7_digest_X7_object rfl (by decide +kernel) rfl rfl ⟨Nat.le_of_ble_eq_true rfl, Nat.le_of_ble_eq_true rfl⟩ ⟨Nat.le_of_ble_eq_true rfl, Nat.le_of_ble_eq_true rfl⟩ rfl (Nat.le_of_ble_eq_true rfl) dX7_digest_81 0 rfl rfl [0, 1, 3] rfl rfl rfl rfl rfl rfl ?_
                  obtain ⟨hash_50, hc51, hF⟩ := g_bd hF
                  refine r_callVF (pc' := 87) (ws' := [oX7 a_z a_mm a_old a_saved_ a_isSaved a_text textLength refused a_far a_marked a_stack top highest overflowed a_command commands at_ fault_ hash_50, oI a_mm cI 1222 mm, oI a_text cI 80 text, oI a_far cI 200 far_48]) (st' := []) X (mX7_mixes D cI cZ cH a_z a_mm a_old a_saved_ a_isSaved a_text a_far a_marked a_stack a_command textLength refused top highest overflowed commands at_ fault_ hash_34 r47 hash_50 hc51) 1 gX7_digest_X7_mixes rfl (by decide +kernel) rfl rfl ⟨Nat.le_of_ble_eq_true rfl, Nat.le_of_ble_eq_true rfl⟩ ⟨Nat.le_of_ble_eq_true rfl, Nat.le_of_ble_eq_true rfl⟩ rfl (Nat.le_of_ble_eq_true rfl) dX7_digest_84 0 rfl rfl [0] rfl rfl rfl rfl rfl rfl ?_
                  refine r_iinc (pc' := 90) (lv' := [(0, .ref a_z), (1, .int v1_9), (2, .int (v2_33 + (1 : Int32)))]) X (v2_33 + (1 : Int32)) dX7_digest_87 2 rfl (congrArg (fun z => v2_33 + z) (by decide)) (by decide) [1, 2, 0] rfl rfl ?_
                  refine r_goto X 71 dX7_digest_90 (by decide) ?_
                  cases hF
                  exact ih (v2_33 + (1 : Int32)) hash_50 far_48 hI71
            exact hL71 g_fuel (0 : Int32) hash_10 far_11 hR
      exact hL64 g_fuel r7 hash_6 far hR
    have hL32 : ∀ (fu : Nat) (v1_4 : Int32) (hash_5 : Int64), g_itn (FX7_digest_L32 mm) fu (v1_4, hash_5) = some ex32 → G 0 0 [oX7 a_z a_mm a_old a_saved_ a_isSaved a_text textLength refused a_far a_marked a_stack top highest overflowed a_command commands at_ fault_ hash_5, oI a_mm cI 1222 mm, oI a_text cI 80 text, oI a_far cI 200 far] [(0, .ref a_z), (1, .int v1_4)] 32 [] := by
      intro fu
      induction fu with
      | zero => intro v1_4 hash_5 h9; exact (g_it0 h9).elim
      | succ fu ih =>
        intro v1_4 hash_5 h9
        obtain ⟨y32, hF, hI32⟩ := g_its h9
        unfold FX7_digest_L32 at hF
        refine r_iload_n (pc' := 33) X dX7_digest_32 rfl 1 rfl rfl ?_
        refine r_bipush (pc' := 35) X (10 : Int32) dX7_digest_33 (by decide) rfl ?_
        refine r_icmp_ge (pc' := 38) X 58 dX7_digest_35 (by decide) rfl (fun c9 => ?_) (fun c9 => ?_)
        · replace hF := g_t c9 hF
          cases hF
          refine r_sub (lv' := [(0, .ref a_z)]) X [0] rfl ?_
          exact hE32 hash_5 hI32
        · replace hF := g_f c9 hF
          refine r_aload_n (pc' := 39) X dX7_digest_38 rfl 0 rfl rfl ?_
          refine r_aload_n (pc' := 40) X dX7_digest_39 rfl 0 rfl rfl ?_
          refine r_get (pc' := 43) X uX7_digest_X7 0 0 dX7_digest_40 rfl rfl (by decide) kX7_digest_3 rfl rfl ?_
          refine r_sipush (pc' := 46) X (1200 : Int32) dX7_digest_43 (by decide) rfl ?_
          refine r_iload_n (pc' := 47) X dX7_digest_46 rfl 1 rfl rfl ?_
          refine r_iadd (pc' := 48) X dX7_digest_47 rfl ?_
          obtain ⟨hi52, hF⟩ := g_gt hF
          refine r_iald (pc' := 49) X 1 dX7_digest_48 rfl (g_vi hi52) rfl ?_
          obtain ⟨hash_53, hc54, hF⟩ := g_bd hF
          refine r_callVF (pc' := 52) (ws' := [oX7 a_z a_mm a_old a_saved_ a_isSaved a_text textLength refused a_far a_marked a_stack top highest overflowed a_command commands at_ fault_ hash_53, oI a_mm cI 1222 mm, oI a_text cI 80 text, oI a_far cI 200 far]) (st' := []) X (mX7_mixes D cI cZ cH a_z a_mm a_old a_saved_ a_isSaved a_text a_far a_marked a_stack a_command textLength refused top highest overflowed commands at_ fault_ hash_5 (mm ((1200 : Int32) + v1_4).toNatClampNeg) hash_53 hc54) 1 gX7_digest_X7_mixes rfl (by decide +kernel) rfl rfl ⟨Nat.le_of_ble_eq_true rfl, Nat.le_of_ble_eq_true rfl⟩ ⟨Nat.le_of_ble_eq_true rfl, Nat.le_of_ble_eq_true rfl⟩ rfl (Nat.le_of_ble_eq_true rfl) dX7_digest_49 0 rfl rfl [0] rfl rfl rfl rfl rfl rfl ?_
          refine r_iinc (pc' := 55) (lv' := [(0, .ref a_z), (1, .int (v1_4 + (1 : Int32)))]) X (v1_4 + (1 : Int32)) dX7_digest_52 1 rfl (congrArg (fun z => v1_4 + z) (by decide)) (by decide) [1, 0] rfl rfl ?_
          refine r_goto X 32 dX7_digest_55 (by decide) ?_
          cases hF
          exact ih (v1_4 + (1 : Int32)) hash_53 hI32
    exact hL32 g_fuel (0 : Int32) hash_3 hR
  have hL9 : ∀ (fu : Nat) (v1_1 : Int32) (hash_2 : Int64), g_itn (FX7_digest_L9 textLength mm) fu (v1_1, hash_2) = some ex9 → G 0 0 [oX7 a_z a_mm a_old a_saved_ a_isSaved a_text textLength refused a_far a_marked a_stack top highest overflowed a_command commands at_ fault_ hash_2, oI a_mm cI 1222 mm, oI a_text cI 80 text, oI a_far cI 200 far] [(0, .ref a_z), (1, .int v1_1)] 9 [] := by
    intro fu
    induction fu with
    | zero => intro v1_1 hash_2 h9; exact (g_it0 h9).elim
    | succ fu ih =>
      intro v1_1 hash_2 h9
      obtain ⟨y9, hF, hI9⟩ := g_its h9
      unfold FX7_digest_L9 at hF
      refine r_iload_n (pc' := 10) X dX7_digest_9 rfl 1 rfl rfl ?_
      refine r_bipush (pc' := 12) X (8 : Int32) dX7_digest_10 (by decide) rfl ?_
      refine r_icmp_ge (pc' := 15) X 30 dX7_digest_12 (by decide) rfl (fun c9 => ?_) (fun c9 => ?_)
      · replace hF := g_t c9 hF
        cases hF
        refine r_sub (lv' := [(0, .ref a_z)]) X [0] rfl ?_
        exact hE9 hash_2 hI9
      · replace hF := g_f c9 hF
        refine r_aload_n (pc' := 16) X dX7_digest_15 rfl 0 rfl rfl ?_
        refine r_aload_n (pc' := 17) X dX7_digest_16 rfl 0 rfl rfl ?_
        refine r_iload_n (pc' := 18) X dX7_digest_17 rfl 1 rfl rfl ?_
        obtain ⟨r55, hc56, hF⟩ := g_bd hF
        refine r_callVF (pc' := 21) (ws' := [oX7 a_z a_mm a_old a_saved_ a_isSaved a_text textLength refused a_far a_marked a_stack top highest overflowed a_command commands at_ fault_ hash_2, oI a_mm cI 1222 mm, oI a_text cI 80 text, oI a_far cI 200 far]) (st' := [.int r55, .ref a_z]) X (mX7_count D cI cZ cH a_z a_mm a_old a_saved_ a_isSaved a_text a_far a_marked a_stack a_command textLength refused top highest overflowed commands at_ fault_ hash_2 mm v1_1 r55 hc56) 1 gX7_digest_X7_count rfl (by decide +kernel) rfl rfl ⟨Nat.le_of_ble_eq_true rfl, Nat.le_of_ble_eq_true rfl⟩ ⟨Nat.le_of_ble_eq_true rfl, Nat.le_of_ble_eq_true rfl⟩ rfl (Nat.le_of_ble_eq_true rfl) dX7_digest_18 0 rfl rfl [0, 1] rfl rfl rfl rfl rfl rfl ?_
        obtain ⟨hash_57, hc58, hF⟩ := g_bd hF
        refine r_callVF (pc' := 24) (ws' := [oX7 a_z a_mm a_old a_saved_ a_isSaved a_text textLength refused a_far a_marked a_stack top highest overflowed a_command commands at_ fault_ hash_57, oI a_mm cI 1222 mm, oI a_text cI 80 text, oI a_far cI 200 far]) (st' := []) X (mX7_mixes D cI cZ cH a_z a_mm a_old a_saved_ a_isSaved a_text a_far a_marked a_stack a_command textLength refused top highest overflowed commands at_ fault_ hash_2 r55 hash_57 hc58) 1 gX7_digest_X7_mixes rfl (by decide +kernel) rfl rfl ⟨Nat.le_of_ble_eq_true rfl, Nat.le_of_ble_eq_true rfl⟩ ⟨Nat.le_of_ble_eq_true rfl, Nat.le_of_ble_eq_true rfl⟩ rfl (Nat.le_of_ble_eq_true rfl) dX7_digest_21 0 rfl rfl [0] rfl rfl rfl rfl rfl rfl ?_
        refine r_iinc (pc' := 27) (lv' := [(0, .ref a_z), (1, .int (v1_1 + (1 : Int32)))]) X (v1_1 + (1 : Int32)) dX7_digest_24 1 rfl (congrArg (fun z => v1_1 + z) (by decide)) (by decide) [1, 0] rfl rfl ?_
        refine r_goto X 9 dX7_digest_27 (by decide) ?_
        cases hF
        exact ih (v1_1 + (1 : Int32)) hash_57 hI9
  exact hL9 g_fuel (0 : Int32) (47 : Int64) hR
