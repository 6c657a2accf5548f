theorem kX5_skipBlanks_1 : Cond.fieldLink RX5 34 "IslandHeap$Script" "position" "I" ∈ wsX5_skipBlanks := List.mem_of_getElem? (i := 1) (by decide +kernel)
theorem kX5_skipBlanks_2 : Cond.fieldLink RX5 40 "IslandHeap$Script" "length" "I" ∈ wsX5_skipBlanks := List.mem_of_getElem? (i := 2) (by decide +kernel)
theorem kX5_skipBlanks_3 : Cond.fieldLink RX5 9 "IslandHeap$Script" "letters" "[I" ∈ wsX5_skipBlanks := List.mem_of_getElem? (i := 3) (by decide +kernel)
theorem uX5_skipBlanks_X5 : ∀ w ∈ u_ws RX5 TX5 9, w ∈ wsX5_skipBlanks := by decide +kernel
set_option maxHeartbeats 4000000 in
set_option maxRecDepth 100000 in
theorem mX5_skipBlanks (D : va_G) (cI cZ cH : ClassId) (a_s : Nat) (a_letters : Nat) (a_kinds : Nat) (a_firsts : Nat) (a_seconds : Nat) (a_thirds : Nat) (length_ : Int32) (commands : Int32) (faultIndex : Int32) (position : Int32) (letters : Nat → Int32) (w_position : Int32) (hF : FX5_skipBlanks length_ position letters = some w_position) : g_CM yX5_skipBlanks wsX5_skipBlanks ({ frames := 0, cells := 0, slots := 0, locals := 0 }) D cI cZ cH [.ref a_s] [oX5 a_s a_letters length_ a_kinds a_firsts a_seconds a_thirds commands faultIndex position, oI a_letters cI 80 letters] 0 0 (g_Tm (none) [oX5 a_s a_letters length_ a_kinds a_firsts a_seconds a_thirds commands faultIndex w_position, oI a_letters cI 80 letters]) := by
  refine g_met (own := RX5) (mn := "skipBlanks") (cc := cX5_skipBlanks) (maxL := 2) (ret := none) rfl rfl (by decide +kernel) rfl (Nat.le_of_ble_eq_true rfl) (fun G X RT => ?_)
  show G 0 0 [oX5 a_s a_letters length_ a_kinds a_firsts a_seconds a_thirds commands faultIndex position, oI a_letters cI 80 letters] [(0, .ref a_s)] 0 []
  unfold FX5_skipBlanks at hF
  refine r_aload_n (pc' := 1) X dX5_skipBlanks_0 rfl 0 rfl rfl ?_
  refine r_get (pc' := 4) X uX5_skipBlanks_X5 0 8 dX5_skipBlanks_1 rfl rfl (by decide) kX5_skipBlanks_1 rfl rfl ?_
  refine r_istore_n (pc' := 5) (lv' := [(0, .ref a_s), (1, .int position)]) X dX5_skipBlanks_4 rfl (by decide) [1, 0] rfl rfl ?_
  obtain ⟨ex5, hR, hF⟩ := g_bd hF
  have hE5 : ∀ (position_3 : Int32), position_3 = ex5 → G 0 0 [oX5 a_s a_letters length_ a_kinds a_firsts a_seconds a_thirds commands faultIndex position_3, oI a_letters cI 80 letters] [] 40 [] := by
    intro position_3 hx; subst hx
    cases hF
    exact RT.2.2 0 0 _ _ _ rfl dX5_skipBlanks_40 ⟨rfl, rfl⟩ (Nat.le_refl 0) (Nat.le_refl 0)
  have hL5 : ∀ (fu : Nat) (v1_1 : Int32) (position_2 : Int32), g_itn (FX5_skipBlanks_L5 length_ letters) fu (v1_1, position_2) = some ex5 → G 0 0 [oX5 a_s a_letters length_ a_kinds a_firsts a_seconds a_thirds commands faultIndex position_2, oI a_letters cI 80 letters] [(0, .ref a_s), (1, .int v1_1)] 5 [] := by
    intro fu
    induction fu with
    | zero => intro v1_1 position_2 h9; exact (g_it0 h9).elim
    | succ fu ih =>
      intro v1_1 position_2 h9
      obtain ⟨y5, hF, hI5⟩ := g_its h9
      unfold FX5_skipBlanks_L5 at hF
      refine r_iload_n (pc' := 6) X dX5_skipBlanks_5 rfl 1 rfl rfl ?_
      refine r_aload_n (pc' := 7) X dX5_skipBlanks_6 rfl 0 rfl rfl ?_
      refine r_get (pc' := 10) X uX5_skipBlanks_X5 0 1 dX5_skipBlanks_7 rfl rfl (by decide) kX5_skipBlanks_2 rfl rfl ?_
      refine r_icmp_ge (pc' := 13) X 40 dX5_skipBlanks_10 (by decide) rfl (fun c9 => ?_) (fun c9 => ?_)
      · replace hF := g_t c9 hF
        cases hF
        refine r_sub (lv' := []) X [] rfl ?_
        exact hE5 position_2 hI5
      · replace hF := g_f c9 hF
        refine r_aload_n (pc' := 14) X dX5_skipBlanks_13 rfl 0 rfl rfl ?_
        refine r_get (pc' := 17) X uX5_skipBlanks_X5 0 0 dX5_skipBlanks_14 rfl rfl (by decide) kX5_skipBlanks_3 rfl rfl ?_
        refine r_iload_n (pc' := 18) X dX5_skipBlanks_17 rfl 1 rfl rfl ?_
        obtain ⟨hi4, hF⟩ := g_gt hF
        refine r_iald (pc' := 19) X 1 dX5_skipBlanks_18 rfl (g_vi hi4) rfl ?_
        refine r_bipush (pc' := 21) X (32 : Int32) dX5_skipBlanks_19 (by decide) rfl ?_
        refine r_icmp_ne (pc' := 24) X 40 dX5_skipBlanks_21 (by decide) rfl (fun c9 => ?_) (fun c9 => ?_)
        · replace hF := g_f c9 hF
          cases hF
          refine r_sub (lv' := []) X [] rfl ?_
          exact hE5 position_2 hI5
        · replace hF := g_t c9 hF
          refine r_aload_n (pc' := 25) X dX5_skipBlanks_24 rfl 0 rfl rfl ?_
          refine r_dup (pc' := 26) X dX5_skipBlanks_25 rfl rfl ?_
          refine r_get (pc' := 29) X uX5_skipBlanks_X5 0 8 dX5_skipBlanks_26 rfl rfl (by decide) kX5_skipBlanks_1 rfl rfl ?_
          refine r_iconst (pc' := 30) X (1 : Int32) dX5_skipBlanks_29 (by decide) rfl ?_
          refine r_iadd (pc' := 31) X dX5_skipBlanks_30 rfl ?_
          refine r_put (pc' := 34) (ty := .int) (ws' := [oX5 a_s a_letters length_ a_kinds a_firsts a_seconds a_thirds commands faultIndex (position_2 + (1 : Int32)), oI a_letters cI 80 letters]) X uX5_skipBlanks_X5 0 8 tyX5 tyX5_ok nmX5 dX5_skipBlanks_31 rfl rfl (by decide) kX5_skipBlanks_1 rfl (by decide +kernel) rfl rfl (Nat.le_of_ble_eq_true rfl) rfl rfl ?_
          refine r_iinc (pc' := 37) (lv' := [(0, .ref a_s), (1, .int (v1_1 + (1 : Int32)))]) X (v1_1 + (1 : Int32)) dX5_skipBlanks_34 1 rfl (congrArg (fun z => v1_1 + z) (by decide)) (by decide) [1, 0] rfl rfl ?_
          refine r_goto X 5 dX5_skipBlanks_37 (by decide) ?_
          cases hF
          exact ih (v1_1 + (1 : Int32)) (position_2 + (1 : Int32)) hI5
  exact hL5 g_fuel position position hR
theorem kX5_letter_1 : Cond.fieldLink RX5 34 "IslandHeap$Script" "position" "I" ∈ wsX5_letter := List.mem_of_getElem? (i := 1) (by decide +kernel)
theorem kX5_letter_2 : Cond.fieldLink RX5 40 "IslandHeap$Script" "length" "I" ∈ wsX5_letter := List.mem_of_getElem? (i := 2) (by decide +kernel)
theorem kX5_letter_3 : Cond.fieldLink RX5 9 "IslandHeap$Script" "letters" "[I" ∈ wsX5_letter := List.mem_of_getElem? (i := 3) (by decide +kernel)
theorem uX5_letter_X5 : ∀ w ∈ u_ws RX5 TX5 9, w ∈ wsX5_letter := by decide +kernel
set_option maxHeartbeats 4000000 in
set_option maxRecDepth 100000 in
theorem mX5_letter (D : va_G) (cI cZ cH : ClassId) (a_s : Nat) (a_letters : Nat) (a_kinds : Nat) (a_firsts : Nat) (a_seconds : Nat) (a_thirds : Nat) (length_ : Int32) (commands : Int32) (faultIndex : Int32) (position : Int32) (letters : Nat → Int32) (r0 : Int32) (hF : FX5_letter length_ position letters = some r0) : g_CM yX5_letter wsX5_letter ({ frames := 0, cells := 0, slots := 0, locals := 0 }) D cI cZ cH [.ref a_s] [oX5 a_s a_letters length_ a_kinds a_firsts a_seconds a_thirds commands faultIndex position, oI a_letters cI 80 letters] 0 0 (g_Tm (some (.int r0)) [oX5 a_s a_letters length_ a_kinds a_firsts a_seconds a_thirds commands faultIndex position, oI a_letters cI 80 letters]) := by
  refine g_met (own := RX5) (mn := "letter") (cc := cX5_letter) (maxL := 1) (ret := (some .int)) rfl rfl (by decide +kernel) rfl (Nat.le_of_ble_eq_true rfl) (fun G X RT => ?_)
  show G 0 0 [oX5 a_s a_letters length_ a_kinds a_firsts a_seconds a_thirds commands faultIndex position, oI a_letters cI 80 letters] [(0, .ref a_s)] 0 []
  unfold FX5_letter at hF
  refine r_aload_n (pc' := 1) X dX5_letter_0 rfl 0 rfl rfl ?_
  refine r_get (pc' := 4) X uX5_letter_X5 0 8 dX5_letter_1 rfl rfl (by decide) kX5_letter_1 rfl rfl ?_
  refine r_aload_n (pc' := 5) X dX5_letter_4 rfl 0 rfl rfl ?_
  refine r_get (pc' := 8) X uX5_letter_X5 0 1 dX5_letter_5 rfl rfl (by decide) kX5_letter_2 rfl rfl ?_
  refine r_icmp_ge (pc' := 11) X 23 dX5_letter_8 (by decide) rfl (fun c9 => ?_) (fun c9 => ?_)
  · replace hF := g_t c9 hF
    refine r_iconst (pc' := 24) X (-1 : Int32) dX5_letter_23 (by decide) rfl ?_
    cases hF
    exact RT.1 0 0 _ _ _ _ .int rfl rfl dX5_letter_24 ⟨rfl, rfl⟩ (Nat.le_refl 0) (Nat.le_refl 0)
  · replace hF := g_f c9 hF
    refine r_aload_n (pc' := 12) X dX5_letter_11 rfl 0 rfl rfl ?_
    refine r_get (pc' := 15) X uX5_letter_X5 0 0 dX5_letter_12 rfl rfl (by decide) kX5_letter_3 rfl rfl ?_
    refine r_aload_n (pc' := 16) X dX5_letter_15 rfl 0 rfl rfl ?_
    refine r_get (pc' := 19) X uX5_letter_X5 0 8 dX5_letter_16 rfl rfl (by decide) kX5_letter_1 rfl rfl ?_
    obtain ⟨hi1, hF⟩ := g_gt hF
    refine r_iald (pc' := 20) X 1 dX5_letter_19 rfl (g_vi hi1) rfl ?_
    refine r_goto X 24 dX5_letter_20 (by decide) ?_
    cases hF
    exact RT.1 0 0 _ _ _ _ .int rfl rfl dX5_letter_24 ⟨rfl, rfl⟩ (Nat.le_refl 0) (Nat.le_refl 0)
set_option maxHeartbeats 4000000 in
set_option maxRecDepth 100000 in
theorem mX5_isDigit (D : va_G) (cI cZ cH : ClassId) (p0 : Int32) (r0 : Int32) (hF : FX5_isDigit p0 = some r0) : g_CM yX5_isDigit wsX5_isDigit ({ frames := 0, cells := 0, slots := 0, locals := 0 }) D cI cZ cH [.int p0] [] 0 0 (g_Tm (some (.int r0)) []) := by
  refine g_met (own := RX5) (mn := "isDigit") (cc := cX5_isDigit) (maxL := 1) (ret := (some .boolean)) rfl rfl (by decide +kernel) rfl (Nat.le_of_ble_eq_true rfl) (fun G X RT => ?_)
  show G 0 0 [] [(0, .int p0)] 0 []
  unfold FX5_isDigit at hF
  refine r_iload_n (pc' := 1) X dX5_isDigit_0 rfl 0 rfl rfl ?_
  refine r_bipush (pc' := 3) X (48 : Int32) dX5_isDigit_1 (by decide) rfl ?_
  refine r_icmp_lt (pc' := 6) X 16 dX5_isDigit_3 (by decide) rfl (fun c9 => ?_) (fun c9 => ?_)
  · replace hF := g_t c9 hF
    refine r_iconst (pc' := 17) X (0 : Int32) dX5_isDigit_16 (by decide) rfl ?_
    cases hF
    exact RT.1 0 0 _ _ _ _ .boolean rfl rfl dX5_isDigit_17 ⟨rfl, rfl⟩ (Nat.le_refl 0) (Nat.le_refl 0)
  · replace hF := g_f c9 hF
    refine r_iload_n (pc' := 7) X dX5_isDigit_6 rfl 0 rfl rfl ?_
    refine r_bipush (pc' := 9) X (57 : Int32) dX5_isDigit_7 (by decide) rfl ?_
    refine r_icmp_gt (pc' := 12) X 16 dX5_isDigit_9 (by decide) rfl (fun c9 => ?_) (fun c9 => ?_)
    · replace hF := g_t c9 hF
      refine r_iconst (pc' := 17) X (0 : Int32) dX5_isDigit_16 (by decide) rfl ?_
      cases hF
      exact RT.1 0 0 _ _ _ _ .boolean rfl rfl dX5_isDigit_17 ⟨rfl, rfl⟩ (Nat.le_refl 0) (Nat.le_refl 0)
    · replace hF := g_f c9 hF
      refine r_iconst (pc' := 13) X (1 : Int32) dX5_isDigit_12 (by decide) rfl ?_
      refine r_goto X 17 dX5_isDigit_13 (by decide) ?_
      cases hF
      exact RT.1 0 0 _ _ _ _ .boolean rfl rfl dX5_isDigit_17 ⟨rfl, rfl⟩ (Nat.le_refl 0) (Nat.le_refl 0)
theorem kX5_refuse_1 : Cond.fieldLink RX5 31 "IslandHeap$Script" "faultIndex" "I" ∈ wsX5_refuse := List.mem_of_getElem? (i := 1) (by decide +kernel)
theorem kX5_refuse_2 : Cond.fieldLink RX5 34 "IslandHeap$Script" "position" "I" ∈ wsX5_refuse := List.mem_of_getElem? (i := 2) (by decide +kernel)
theorem uX5_refuse_X5 : ∀ w ∈ u_ws RX5 TX5 9, w ∈ wsX5_refuse := by decide +kernel
set_option maxHeartbeats 4000000 in
set_option maxRecDepth 100000 in
theorem mX5_refuse (D : va_G) (cI cZ cH : ClassId) (a_s : Nat) (a_letters : Nat) (a_kinds : Nat) (a_firsts : Nat) (a_seconds : Nat) (a_thirds : Nat) (length_ : Int32) (commands : Int32) (faultIndex : Int32) (position : Int32) (w_faultIndex : Int32) (hF : FX5_refuse faultIndex position = some w_faultIndex) : g_CM yX5_refuse wsX5_refuse ({ frames := 0, cells := 0, slots := 0, locals := 0 }) D cI cZ cH [.ref a_s] [oX5 a_s a_letters length_ a_kinds a_firsts a_seconds a_thirds commands faultIndex position] 0 0 (g_Tm (none) [oX5 a_s a_letters length_ a_kinds a_firsts a_seconds a_thirds commands w_faultIndex position]) := by
  refine g_met (own := RX5) (mn := "refuse") (cc := cX5_refuse) (maxL := 1) (ret := none) rfl rfl (by decide +kernel) rfl (Nat.le_of_ble_eq_true rfl) (fun G X RT => ?_)
  show G 0 0 [oX5 a_s a_letters length_ a_kinds a_firsts a_seconds a_thirds commands faultIndex position] [(0, .ref a_s)] 0 []
  unfold FX5_refuse at hF
  refine r_aload_n (pc' := 1) X dX5_refuse_0 rfl 0 rfl rfl ?_
  refine r_get (pc' := 4) X uX5_refuse_X5 0 7 dX5_refuse_1 rfl rfl (by decide) kX5_refuse_1 rfl rfl ?_
  refine r_iconst (pc' := 5) X (-1 : Int32) dX5_refuse_4 (by decide) rfl ?_
  refine r_icmp_ne (pc' := 8) X 16 dX5_refuse_5 (by decide) rfl (fun c9 => ?_) (fun c9 => ?_)
  · replace hF := g_f c9 hF
    cases hF
    exact RT.2.2 0 0 _ _ _ rfl dX5_refuse_16 ⟨rfl, rfl⟩ (Nat.le_refl 0) (Nat.le_refl 0)
  · replace hF := g_t c9 hF
    refine r_aload_n (pc' := 9) X dX5_refuse_8 rfl 0 rfl rfl ?_
    refine r_aload_n (pc' := 10) X dX5_refuse_9 rfl 0 rfl rfl ?_
    refine r_get (pc' := 13) X uX5_refuse_X5 0 8 dX5_refuse_10 rfl rfl (by decide) kX5_refuse_2 rfl rfl ?_
    refine r_put (pc' := 16) (ty := .int) (ws' := [oX5 a_s a_letters length_ a_kinds a_firsts a_seconds a_thirds commands position position]) X uX5_refuse_X5 0 7 tyX5 tyX5_ok nmX5 dX5_refuse_13 rfl rfl (by decide) kX5_refuse_1 rfl (by decide +kernel) rfl rfl (Nat.le_of_ble_eq_true rfl) rfl rfl ?_
    cases hF
    exact RT.2.2 0 0 _ _ _ rfl dX5_refuse_16 ⟨rfl, rfl⟩ (Nat.le_refl 0) (Nat.le_refl 0)
theorem kX5_readDigit_1 : Cond.fieldLink RX5 34 "IslandHeap$Script" "position" "I" ∈ wsX5_readDigit := List.mem_of_getElem? (i := 1) (by decide +kernel)
theorem uX5_readDigit_X5 : ∀ w ∈ u_ws RX5 TX5 9, w ∈ wsX5_readDigit := by decide +kernel
set_option maxHeartbeats 4000000 in
set_option maxRecDepth 100000 in
theorem mX5_readDigit (D : va_G) (cI cZ cH : ClassId) (a_s : Nat) (a_letters : Nat) (a_kinds : Nat) (a_firsts : Nat) (a_seconds : Nat) (a_thirds : Nat) (length_ : Int32) (commands : Int32) (faultIndex : Int32) (position : Int32) (letters : Nat → Int32) (r0 : Int32) (w_faultIndex : Int32) (w_position : Int32) (hF : FX5_readDigit length_ faultIndex position letters = some (r0, w_faultIndex, w_position)) : g_CM yX5_readDigit wsX5_readDigit ({ frames := 1, cells := 0, slots := 0, locals := 21 }) D cI cZ cH [.ref a_s] [oX5 a_s a_letters length_ a_kinds a_firsts a_seconds a_thirds commands faultIndex position, oI a_letters cI 80 letters] 0 0 (g_Tm (some (.int r0)) [oX5 a_s a_letters length_ a_kinds a_firsts a_seconds a_thirds commands w_faultIndex w_position, oI a_letters cI 80 letters]) := by
  refine g_met (own := RX5) (mn := "readDigit") (cc := cX5_readDigit) (maxL := 2) (ret := (some .int)) rfl rfl (by decide +kernel) rfl (Nat.le_of_ble_eq_true rfl) (fun G X RT => ?_)
  show G 0 0 [oX5 a_s a_letters length_ a_kinds a_firsts a_seconds a_thirds commands faultIndex position, oI a_letters cI 80 letters] [(0, .ref a_s)] 0 []
  unfold FX5_readDigit at hF
  refine r_aload_n (pc' := 1) X dX5_readDigit_0 rfl 0 rfl rfl ?_
  obtain ⟨position_1, hc2, hF⟩ := g_bd hF
  refine r_callVF (pc' := 4) (ws' := [oX5 a_s a_letters length_ a_kinds a_firsts a_seconds a_thirds commands faultIndex position_1, oI a_letters cI 80 letters]) (st' := []) X (mX5_skipBlanks D cI cZ cH a_s a_letters a_kinds a_firsts a_seconds a_thirds length_ commands faultIndex position letters position_1 hc2) 0 gX5_readDigit_X5_skipBlanks rfl (by decide +kernel) rfl rfl ⟨Nat.le_of_ble_eq_true rfl, Nat.le_of_ble_eq_true rfl⟩ ⟨Nat.le_of_ble_eq_true rfl, Nat.le_of_ble_eq_true rfl⟩ rfl (Nat.le_of_ble_eq_true rfl) dX5_readDigit_1 0 rfl rfl [0, 1] rfl rfl rfl rfl rfl rfl ?_
  refine r_aload_n (pc' := 5) X dX5_readDigit_4 rfl 0 rfl rfl ?_
  obtain ⟨r3, hc4, hF⟩ := g_bd hF
  refine r_callVF (pc' := 8) (ws' := [oX5 a_s a_letters length_ a_kinds a_firsts a_seconds a_thirds commands faultIndex position_1, oI a_letters cI 80 letters]) (st' := [.int r3]) X (mX5_letter D cI cZ cH a_s a_letters a_kinds a_firsts a_seconds a_thirds length_ commands faultIndex position_1 letters r3 hc4) 0 gX5_readDigit_X5_letter rfl (by decide +kernel) rfl rfl ⟨Nat.le_of_ble_eq_true rfl, Nat.le_of_ble_eq_true rfl⟩ ⟨Nat.le_of_ble_eq_true rfl, Nat.le_of_ble_eq_true rfl⟩ rfl (Nat.le_of_ble_eq_true rfl) dX5_readDigit_5 0 rfl rfl [0, 1] rfl rfl rfl rfl rfl rfl ?_
  obtain ⟨r5, hc6, hF⟩ := g_bd hF
  refine r_callSF (pc' := 11) (ws' := [oX5 a_s a_letters length_ a_kinds a_firsts a_seconds a_thirds commands faultIndex position_1, oI a_letters cI 80 letters]) (st' := [.int r5]) X (mX5_isDigit D cI cZ cH r3 r5 hc6) 1 gX5_readDigit_X5_isDigit rfl (by decide +kernel) rfl rfl ⟨Nat.le_of_ble_eq_true rfl, Nat.le_of_ble_eq_true rfl⟩ ⟨Nat.le_of_ble_eq_true rfl, Nat.le_of_ble_eq_true rfl⟩ rfl (Nat.le_of_ble_eq_true rfl) dX5_readDigit_8 [] rfl rfl rfl rfl rfl rfl ?_
  refine r_if_ne (pc' := 14) X 20 dX5_readDigit_11 (by decide) rfl (fun c9 => ?_) (fun c9 => ?_)
  · replace hF := g_f c9 hF
    refine r_aload_n (pc' := 21) X dX5_readDigit_20 rfl 0 rfl rfl ?_
    obtain ⟨r7, hc8, hF⟩ := g_bd hF
    refine r_callVF (pc' := 24) (ws' := [oX5 a_s a_letters length_ a_kinds a_firsts a_seconds a_thirds commands faultIndex position_1, oI a_letters cI 80 letters]) (st' := [.int r7]) X (mX5_letter D cI cZ cH a_s a_letters a_kinds a_firsts a_seconds a_thirds length_ commands faultIndex position_1 letters r7 hc8) 0 gX5_readDigit_X5_letter rfl (by decide +kernel) rfl rfl ⟨Nat.le_of_ble_eq_true rfl, Nat.le_of_ble_eq_true rfl⟩ ⟨Nat.le_of_ble_eq_true rfl, Nat.le_of_ble_eq_true rfl⟩ rfl (Nat.le_of_ble_eq_true rfl) dX5_readDigit_21 0 rfl rfl [0, 1] rfl rfl rfl rfl rfl rfl ?_
    refine r_bipush (pc' := 26) X (48 : Int32) dX5_readDigit_24 (by decide) rfl ?_
    refine r_isub (pc' := 27) X dX5_readDigit_26 rfl ?_
    refine r_istore_n (pc' := 28) (lv' := [(0, .ref a_s), (1, .int (r7 - (48 : Int32)))]) X dX5_readDigit_27 rfl (by decide) [1, 0] rfl rfl ?_
    refine r_aload_n (pc' := 29) X dX5_readDigit_28 rfl 0 rfl rfl ?_
    refine r_dup (pc' := 30) X dX5_readDigit_29 rfl rfl ?_
    refine r_get (pc' := 33) X uX5_readDigit_X5 0 8 dX5_readDigit_30 rfl rfl (by decide) kX5_readDigit_1 rfl rfl ?_
    refine r_iconst (pc' := 34) X (1 : Int32) dX5_readDigit_33 (by decide) rfl ?_
    refine r_iadd (pc' := 35) X dX5_readDigit_34 rfl ?_
    refine r_put (pc' := 38) (ty := .int) (ws' := [oX5 a_s a_letters length_ a_kinds a_firsts a_seconds a_thirds commands faultIndex (position_1 + (1 : Int32)), oI a_letters cI 80 letters]) X uX5_readDigit_X5 0 8 tyX5 tyX5_ok nmX5 dX5_readDigit_35 rfl rfl (by decide) kX5_readDigit_1 rfl (by decide +kernel) rfl rfl (Nat.le_of_ble_eq_true rfl) rfl rfl ?_
    refine r_iload_n (pc' := 39) X dX5_readDigit_38 rfl 1 rfl rfl ?_
    cases hF
    exact RT.1 0 0 _ _ _ _ .int rfl rfl dX5_readDigit_39 ⟨rfl, rfl⟩ (Nat.le_refl 0) (Nat.le_refl 0)
  · replace hF := g_t c9 hF
    refine r_aload_n (pc' := 15) X dX5_readDigit_14 rfl 0 rfl rfl ?_
    obtain ⟨faultIndex_9, hc10, hF⟩ := g_bd hF
    refine r_callVF (pc' := 18) (ws' := [oX5 a_s a_letters length_ a_kinds a_firsts a_seconds a_thirds commands faultIndex_9 position_1, oI a_letters cI 80 letters]) (st' := []) X (mX5_refuse D cI cZ cH a_s a_letters a_kinds a_firsts a_seconds a_thirds length_ commands faultIndex position_1 faultIndex_9 hc10) 0 gX5_readDigit_X5_refuse rfl (by decide +kernel) rfl rfl ⟨Nat.le_of_ble_eq_true rfl, Nat.le_of_ble_eq_true rfl⟩ ⟨Nat.le_of_ble_eq_true rfl, Nat.le_of_ble_eq_true rfl⟩ rfl (Nat.le_of_ble_eq_true rfl) dX5_readDigit_15 0 rfl rfl [0] rfl rfl rfl rfl rfl rfl ?_
    refine r_iconst (pc' := 19) X (0 : Int32) dX5_readDigit_18 (by decide) rfl ?_
    cases hF
    exact RT.1 0 0 _ _ _ _ .int rfl rfl dX5_readDigit_19 ⟨rfl, rfl⟩ (Nat.le_refl 0) (Nat.le_refl 0)
theorem kX5_readNumber_1 : Cond.fieldLink RX5 34 "IslandHeap$Script" "position" "I" ∈ wsX5_readNumber := List.mem_of_getElem? (i := 1) (by decide +kernel)
theorem uX5_readNumber_X5 : ∀ w ∈ u_ws RX5 TX5 9, w ∈ wsX5_readNumber := by decide +kernel
set_option maxHeartbeats 4000000 in
set_option maxRecDepth 100000 in
theorem mX5_readNumber (D : va_G) (cI cZ cH : ClassId) (a_s : Nat) (a_letters : Nat) (a_kinds : Nat) (a_firsts : Nat) (a_seconds : Nat) (a_thirds : Nat) (length_ : Int32) (commands : Int32) (faultIndex : Int32) (position : Int32) (letters : Nat → Int32) (r0 : Int32) (w_faultIndex : Int32) (w_position : Int32) (hF : FX5_readNumber length_ faultIndex position letters = some (r0, w_faultIndex, w_position)) : g_CM yX5_readNumber wsX5_readNumber ({ frames := 2, cells := 0, slots := 0, locals := 42 }) D cI cZ cH [.ref a_s] [oX5 a_s a_letters length_ a_kinds a_firsts a_seconds a_thirds commands faultIndex position, oI a_letters cI 80 letters] 0 0 (g_Tm (some (.int r0)) [oX5 a_s a_letters length_ a_kinds a_firsts a_seconds a_thirds commands w_faultIndex w_position, oI a_letters cI 80 letters]) := by
  refine g_met (own := RX5) (mn := "readNumber") (cc := cX5_readNumber) (maxL := 3) (ret := (some .int)) rfl rfl (by decide +kernel) rfl (Nat.le_of_ble_eq_true rfl) (fun G X RT => ?_)
  show G 0 0 [oX5 a_s a_letters length_ a_kinds a_firsts a_seconds a_thirds commands faultIndex position, oI a_letters cI 80 letters] [(0, .ref a_s)] 0 []
  unfold FX5_readNumber at hF
  refine r_aload_n (pc' := 1) X dX5_readNumber_0 rfl 0 rfl rfl ?_
  obtain ⟨⟨r1, faultIndex_2, position_3⟩, hc4, hF⟩ := g_bd hF
  refine r_callVF (pc' := 4) (ws' := [oX5 a_s a_letters length_ a_kinds a_firsts a_seconds a_thirds commands faultIndex_2 position_3, oI a_letters cI 80 letters]) (st' := [.int r1]) X (mX5_readDigit D cI cZ cH a_s a_letters a_kinds a_firsts a_seconds a_thirds length_ commands faultIndex position letters r1 faultIndex_2 position_3 hc4) 0 gX5_readNumber_X5_readDigit rfl (by decide +kernel) rfl rfl ⟨Nat.le_of_ble_eq_true rfl, Nat.le_of_ble_eq_true rfl⟩ ⟨Nat.le_of_ble_eq_true rfl, Nat.le_of_ble_eq_true rfl⟩ rfl (Nat.le_of_ble_eq_true rfl) dX5_readNumber_1 0 rfl rfl [0, 1] rfl rfl rfl rfl rfl rfl ?_
  refine r_istore_n (pc' := 5) (lv' := [(0, .ref a_s), (1, .int r1)]) X dX5_readNumber_4 rfl (by decide) [1, 0] rfl rfl ?_
  refine r_iconst (pc' := 6) X (1 : Int32) dX5_readNumber_5 (by decide) rfl ?_
  refine r_istore_n (pc' := 7) (lv' := [(0, .ref a_s), (1, .int r1), (2, .int (1 : Int32))]) X dX5_readNumber_6 rfl (by decide) [1, 2, 0] rfl rfl ?_
  obtain ⟨ex7, hR, hF⟩ := g_bd hF
  have hE7 : ∀ (v1_8 : Int32) (position_9 : Int32), (v1_8, position_9) = ex7 → G 0 0 [oX5 a_s a_letters length_ a_kinds a_firsts a_seconds a_thirds commands faultIndex_2 position_9, oI a_letters cI 80 letters] [(0, .ref a_s), (1, .int v1_8)] 51 [] := by
    intro v1_8 position_9 hx; subst hx
    refine r_aload_n (pc' := 52) X dX5_readNumber_51 rfl 0 rfl rfl ?_
    obtain ⟨r10, hc11, hF⟩ := g_bd hF
    refine r_callVF (pc' := 55) (ws' := [oX5 a_s a_letters length_ a_kinds a_firsts a_seconds a_thirds commands faultIndex_2 position_9, oI a_letters cI 80 letters]) (st' := [.int r10]) X (mX5_letter D cI cZ cH a_s a_letters a_kinds a_firsts a_seconds a_thirds length_ commands faultIndex_2 position_9 letters r10 hc11) 0 gX5_readNumber_X5_letter rfl (by decide +kernel) rfl rfl ⟨Nat.le_of_ble_eq_true rfl, Nat.le_of_ble_eq_true rfl⟩ ⟨Nat.le_of_ble_eq_true rfl, Nat.le_of_ble_eq_true rfl⟩ rfl (Nat.le_of_ble_eq_true rfl) dX5_readNumber_52 0 rfl rfl [0, 1] rfl rfl rfl rfl rfl rfl ?_
    obtain ⟨r12, hc13, hF⟩ := g_bd hF
    refine r_callSF (pc' := 58) (ws' := [oX5 a_s a_letters length_ a_kinds a_firsts a_seconds a_thirds commands faultIndex_2 position_9, oI a_letters cI 80 letters]) (st' := [.int r12]) X (mX5_isDigit D cI cZ cH r10 r12 hc13) 1 gX5_readNumber_X5_isDigit rfl (by decide +kernel) rfl rfl ⟨Nat.le_of_ble_eq_true rfl, Nat.le_of_ble_eq_true rfl⟩ ⟨Nat.le_of_ble_eq_true rfl, Nat.le_of_ble_eq_true rfl⟩ rfl (Nat.le_of_ble_eq_true rfl) dX5_readNumber_55 [] rfl rfl rfl rfl rfl rfl ?_
    obtain ⟨exJ15, hR, hF⟩ := g_bd hF
    have hJ15 : ∀ (faultIndex_14 : Int32), faultIndex_14 = exJ15 → G 0 0 [oX5 a_s a_letters length_ a_kinds a_firsts a_seconds a_thirds commands faultIndex_14 position_9, oI a_letters cI 80 letters] [(1, .int v1_8)] 65 [] := by
      intro faultIndex_14 hx; subst hx
      refine r_iload_n (pc' := 66) X dX5_readNumber_65 rfl 0 rfl rfl ?_
      cases hF
      exact RT.1 0 0 _ _ _ _ .int rfl rfl dX5_readNumber_66 ⟨rfl, rfl⟩ (Nat.le_refl 0) (Nat.le_refl 0)
    replace hF := hR
    refine r_if_eq (pc' := 61) X 65 dX5_readNumber_58 (by decide) rfl (fun c9 => ?_) (fun c9 => ?_)
    · replace hF := g_t c9 hF
      refine r_sub (lv' := [(1, .int v1_8)]) X [1] rfl ?_
      exact hJ15 faultIndex_2 (Option.some.inj hF)
    · replace hF := g_f c9 hF
      refine r_aload_n (pc' := 62) X dX5_readNumber_61 rfl 0 rfl rfl ?_
      obtain ⟨faultIndex_16, hc17, hF⟩ := g_bd hF
      refine r_callVF (pc' := 65) (ws' := [oX5 a_s a_letters length_ a_kinds a_firsts a_seconds a_thirds commands faultIndex_16 position_9, oI a_letters cI 80 letters]) (st' := []) X (mX5_refuse D cI cZ cH a_s a_letters a_kinds a_firsts a_seconds a_thirds length_ commands faultIndex_2 position_9 faultIndex_16 hc17) 0 gX5_readNumber_X5_refuse rfl (by decide +kernel) rfl rfl ⟨Nat.le_of_ble_eq_true rfl, Nat.le_of_ble_eq_true rfl⟩ ⟨Nat.le_of_ble_eq_true rfl, Nat.le_of_ble_eq_true rfl⟩ rfl (Nat.le_of_ble_eq_true rfl) dX5_readNumber_62 0 rfl rfl [0] rfl rfl rfl rfl rfl rfl ?_
      refine r_sub (lv' := [(1, .int v1_8)]) X [1] rfl ?_
      exact hJ15 faultIndex_16 (Option.some.inj hF)
  have hL7 : ∀ (fu : Nat) (v1_5 : Int32) (v2_6 : Int32) (position_7 : Int32), g_itn (FX5_readNumber_L7 length_ letters) fu (v1_5, v2_6, position_7) = some ex7 → G 0 0 [oX5 a_s a_letters length_ a_kinds a_firsts a_seconds a_thirds commands faultIndex_2 position_7, oI a_letters cI 80 letters] [(0, .ref a_s), (1, .int v1_5), (2, .int v2_6)] 7 [] := by
    intro fu
    induction fu with
    | zero => intro v1_5 v2_6 position_7 h9; exact (g_it0 h9).elim
    | succ fu ih =>
      intro v1_5 v2_6 position_7 h9
      obtain ⟨y7, hF, hI7⟩ := g_its h9
      unfold FX5_readNumber_L7 at hF
      refine r_iload_n (pc' := 8) X dX5_readNumber_7 rfl 2 rfl rfl ?_
      refine r_iconst (pc' := 9) X (3 : Int32) dX5_readNumber_8 (by decide) rfl ?_
      refine r_icmp_ge (pc' := 12) X 51 dX5_readNumber_9 (by decide) rfl (fun c9 => ?_) (fun c9 => ?_)
      · replace hF := g_t c9 hF
        cases hF
        refine r_sub (lv' := [(0, .ref a_s), (1, .int v1_5)]) X [0, 1] rfl ?_
        exact hE7 v1_5 position_7 hI7
      · replace hF := g_f c9 hF
        refine r_aload_n (pc' := 13) X dX5_readNumber_12 rfl 0 rfl rfl ?_
        obtain ⟨r18, hc19, hF⟩ := g_bd hF
        refine r_callVF (pc' := 16) (ws' := [oX5 a_s a_letters length_ a_kinds a_firsts a_seconds a_thirds commands faultIndex_2 position_7, oI a_letters cI 80 letters]) (st' := [.int r18]) X (mX5_letter D cI cZ cH a_s a_letters a_kinds a_firsts a_seconds a_thirds length_ commands faultIndex_2 position_7 letters r18 hc19) 0 gX5_readNumber_X5_letter rfl (by decide +kernel) rfl rfl ⟨Nat.le_of_ble_eq_true rfl, Nat.le_of_ble_eq_true rfl⟩ ⟨Nat.le_of_ble_eq_true rfl, Nat.le_of_ble_eq_true rfl⟩ rfl (Nat.le_of_ble_eq_true rfl) dX5_readNumber_13 0 rfl rfl [0, 1] rfl rfl rfl rfl rfl rfl ?_
        obtain ⟨r20, hc21, hF⟩ := g_bd hF
        refine r_callSF (pc' := 19) (ws' := [oX5 a_s a_letters length_ a_kinds a_firsts a_seconds a_thirds commands faultIndex_2 position_7, oI a_letters cI 80 letters]) (st' := [.int r20]) X (mX5_isDigit D cI cZ cH r18 r20 hc21) 1 gX5_readNumber_X5_isDigit rfl (by decide +kernel) rfl rfl ⟨Nat.le_of_ble_eq_true rfl, Nat.le_of_ble_eq_true rfl⟩ ⟨Nat.le_of_ble_eq_true rfl, Nat.le_of_ble_eq_true rfl⟩ rfl (Nat.le_of_ble_eq_true rfl) dX5_readNumber_16 [] rfl rfl rfl rfl rfl rfl ?_
        refine r_if_eq (pc' := 22) X 51 dX5_readNumber_19 (by decide) rfl (fun c9 => ?_) (fun c9 => ?_)
        · replace hF := g_t c9 hF
          cases hF
          refine r_sub (lv' := [(0, .ref a_s), (1, .int v1_5)]) X [0, 1] rfl ?_
          exact hE7 v1_5 position_7 hI7
        · replace hF := g_f c9 hF
          refine r_bipush (pc' := 24) X (10 : Int32) dX5_readNumber_22 (by decide) rfl ?_
          refine r_iload_n (pc' := 25) X dX5_readNumber_24 rfl 1 rfl rfl ?_
          refine r_imul (pc' := 26) X dX5_readNumber_25 rfl ?_
          refine r_aload_n (pc' := 27) X dX5_readNumber_26 rfl 0 rfl rfl ?_
          obtain ⟨r22, hc23, hF⟩ := g_bd hF
          refine r_callVF (pc' := 30) (ws' := [oX5 a_s a_letters length_ a_kinds a_firsts a_seconds a_thirds commands faultIndex_2 position_7, oI a_letters cI 80 letters]) (st' := [.int r22, .int ((10 : Int32) * v1_5)]) X (mX5_letter D cI cZ cH a_s a_letters a_kinds a_firsts a_seconds a_thirds length_ commands faultIndex_2 position_7 letters r22 hc23) 0 gX5_readNumber_X5_letter rfl (by decide +kernel) rfl rfl ⟨Nat.le_of_ble_eq_true rfl, Nat.le_of_ble_eq_true rfl⟩ ⟨Nat.le_of_ble_eq_true rfl, Nat.le_of_ble_eq_true rfl⟩ rfl (Nat.le_of_ble_eq_true rfl) dX5_readNumber_27 0 rfl rfl [0, 1] rfl rfl rfl rfl rfl rfl ?_
          refine r_iadd (pc' := 31) X dX5_readNumber_30 rfl ?_
          refine r_bipush (pc' := 33) X (48 : Int32) dX5_readNumber_31 (by decide) rfl ?_
          refine r_isub (pc' := 34) X dX5_readNumber_33 rfl ?_
          refine r_istore_n (pc' := 35) (lv' := [(0, .ref a_s), (1, .int ((((10 : Int32) * v1_5) + r22) - (48 : Int32))), (2, .int v2_6)]) X dX5_readNumber_34 rfl (by decide) [1, 0, 2] rfl rfl ?_
          refine r_aload_n (pc' := 36) X dX5_readNumber_35 rfl 0 rfl rfl ?_
          refine r_dup (pc' := 37) X dX5_readNumber_36 rfl rfl ?_
          refine r_get (pc' := 40) X uX5_readNumber_X5 0 8 dX5_readNumber_37 rfl rfl (by decide) kX5_readNumber_1 rfl rfl ?_
          refine r_iconst (pc' := 41) X (1 : Int32) dX5_readNumber_40 (by decide) rfl ?_
          refine r_iadd (pc' := 42) X dX5_readNumber_41 rfl ?_
          refine r_put (pc' := 45) (ty := .int) (ws' := [oX5 a_s a_letters length_ a_kinds a_firsts a_seconds a_thirds commands faultIndex_2 (position_7 + (1 : Int32)), oI a_letters cI 80 letters]) X uX5_readNumber_X5 0 8 tyX5 tyX5_ok nmX5 dX5_readNumber_42 rfl rfl (by decide) kX5_readNumber_1 rfl (by decide +kernel) rfl rfl (Nat.le_of_ble_eq_true rfl) rfl rfl ?_
          refine r_iinc (pc' := 48) (lv' := [(0, .ref a_s), (1, .int ((((10 : Int32) * v1_5) + r22) - (48 : Int32))), (2, .int (v2_6 + (1 : Int32)))]) X (v2_6 + (1 : Int32)) dX5_readNumber_45 2 rfl (congrArg (fun z => v2_6 + z) (by decide)) (by decide) [1, 2, 0] rfl rfl ?_
          refine r_goto X 7 dX5_readNumber_48 (by decide) ?_
          cases hF
          exact ih ((((10 : Int32) * v1_5) + r22) - (48 : Int32)) (v2_6 + (1 : Int32)) (position_7 + (1 : Int32)) hI7
  exact hL7 g_fuel r1 (1 : Int32) position_3 hR
theorem kX5_readPlace_1 : Cond.fieldLink RX5 34 "IslandHeap$Script" "position" "I" ∈ wsX5_readPlace := List.mem_of_getElem? (i := 1) (by decide +kernel)
theorem uX5_readPlace_X5 : ∀ w ∈ u_ws RX5 TX5 9, w ∈ wsX5_readPlace := by decide +kernel
set_option maxHeartbeats 4000000 in
set_option maxRecDepth 100000 in
theorem mX5_readPlace (D : va_G) (cI cZ cH : ClassId) (a_s : Nat) (a_letters : Nat) (a_kinds : Nat) (a_firsts : Nat) (a_seconds : Nat) (a_thirds : Nat) (length_ : Int32) (commands : Int32) (faultIndex : Int32) (position : Int32) (letters : Nat → Int32) (r0 : Int32) (w_faultIndex : Int32) (w_position : Int32) (hF : FX5_readPlace length_ faultIndex position letters = some (r0, w_faultIndex, w_position)) : g_CM yX5_readPlace wsX5_readPlace ({ frames := 3, cells := 0, slots := 0, locals := 64 }) D cI cZ cH [.ref a_s] [oX5 a_s a_letters length_ a_kinds a_firsts a_seconds a_thirds commands faultIndex position, oI a_letters cI 80 letters] 0 0 (g_Tm (some (.int r0)) [oX5 a_s a_letters length_ a_kinds a_firsts a_seconds a_thirds commands w_faultIndex w_position, oI a_letters cI 80 letters]) := by
  refine g_met (own := RX5) (mn := "readPlace") (cc := cX5_readPlace) (maxL := 1) (ret := (some .int)) rfl rfl (by decide +kernel) rfl (Nat.le_of_ble_eq_true rfl) (fun G X RT => ?_)
  show G 0 0 [oX5 a_s a_letters length_ a_kinds a_firsts a_seconds a_thirds commands faultIndex position, oI a_letters cI 80 letters] [(0, .ref a_s)] 0 []
  unfold FX5_readPlace at hF
  refine r_aload_n (pc' := 1) X dX5_readPlace_0 rfl 0 rfl rfl ?_
  obtain ⟨position_1, hc2, hF⟩ := g_bd hF
  refine r_callVF (pc' := 4) (ws' := [oX5 a_s a_letters length_ a_kinds a_firsts a_seconds a_thirds commands faultIndex position_1, oI a_letters cI 80 letters]) (st' := []) X (mX5_skipBlanks D cI cZ cH a_s a_letters a_kinds a_firsts a_seconds a_thirds length_ commands faultIndex position letters position_1 hc2) 0 gX5_readPlace_X5_skipBlanks rfl (by decide +kernel) rfl rfl ⟨Nat.le_of_ble_eq_true rfl, Nat.le_of_ble_eq_true rfl⟩ ⟨Nat.le_of_ble_eq_true rfl, Nat.le_of_ble_eq_true rfl⟩ rfl (Nat.le_of_ble_eq_true rfl) dX5_readPlace_1 0 rfl rfl [0, 1] rfl rfl rfl rfl rfl rfl ?_
  refine r_aload_n (pc' := 5) X dX5_readPlace_4 rfl 0 rfl rfl ?_
  obtain ⟨r3, hc4, hF⟩ := g_bd hF
  refine r_callVF (pc' := 8) (ws' := [oX5 a_s a_letters length_ a_kinds a_firsts a_seconds a_thirds commands faultIndex position_1, oI a_letters cI 80 letters]) (st' := [.int r3]) X (mX5_letter D cI cZ cH a_s a_letters a_kinds a_firsts a_seconds a_thirds length_ commands faultIndex position_1 letters r3 hc4) 0 gX5_readPlace_X5_letter rfl (by decide +kernel) rfl rfl ⟨Nat.le_of_ble_eq_true rfl, Nat.le_of_ble_eq_true rfl⟩ ⟨Nat.le_of_ble_eq_true rfl, Nat.le_of_ble_eq_true rfl⟩ rfl (Nat.le_of_ble_eq_true rfl) dX5_readPlace_5 0 rfl rfl [0, 1] rfl rfl rfl rfl rfl rfl ?_
  refine r_bipush (pc' := 10) X (45 : Int32) dX5_readPlace_8 (by decide) rfl ?_
  refine r_icmp_ne (pc' := 13) X 25 dX5_readPlace_10 (by decide) rfl (fun c9 => ?_) (fun c9 => ?_)
  · replace hF := g_f c9 hF
    refine r_aload_n (pc' := 26) X dX5_readPlace_25 rfl 0 rfl rfl ?_
    obtain ⟨⟨r5, faultIndex_6, position_7⟩, hc8, hF⟩ := g_bd hF
    refine r_callVF (pc' := 29) (ws' := [oX5 a_s a_letters length_ a_kinds a_firsts a_seconds a_thirds commands faultIndex_6 position_7, oI a_letters cI 80 letters]) (st' := [.int r5]) X (mX5_readNumber D cI cZ cH a_s a_letters a_kinds a_firsts a_seconds a_thirds length_ commands faultIndex position_1 letters r5 faultIndex_6 position_7 hc8) 0 gX5_readPlace_X5_readNumber rfl (by decide +kernel) rfl rfl ⟨Nat.le_of_ble_eq_true rfl, Nat.le_of_ble_eq_true rfl⟩ ⟨Nat.le_of_ble_eq_true rfl, Nat.le_of_ble_eq_true rfl⟩ rfl (Nat.le_of_ble_eq_true rfl) dX5_readPlace_26 0 rfl rfl [0, 1] rfl rfl rfl rfl rfl rfl ?_
    cases hF
    exact RT.1 0 0 _ _ _ _ .int rfl rfl dX5_readPlace_29 ⟨rfl, rfl⟩ (Nat.le_refl 0) (Nat.le_refl 0)
  · replace hF := g_t c9 hF
    refine r_aload_n (pc' := 14) X dX5_readPlace_13 rfl 0 rfl rfl ?_
    refine r_dup (pc' := 15) X dX5_readPlace_14 rfl rfl ?_
    refine r_get (pc' := 18) X uX5_readPlace_X5 0 8 dX5_readPlace_15 rfl rfl (by decide) kX5_readPlace_1 rfl rfl ?_
    refine r_iconst (pc' := 19) X (1 : Int32) dX5_readPlace_18 (by decide) rfl ?_
    refine r_iadd (pc' := 20) X dX5_readPlace_19 rfl ?_
    refine r_put (pc' := 23) (ty := .int) (ws' := [oX5 a_s a_letters length_ a_kinds a_firsts a_seconds a_thirds commands faultIndex (position_1 + (1 : Int32)), oI a_letters cI 80 letters]) X uX5_readPlace_X5 0 8 tyX5 tyX5_ok nmX5 dX5_readPlace_20 rfl rfl (by decide) kX5_readPlace_1 rfl (by decide +kernel) rfl rfl (Nat.le_of_ble_eq_true rfl) rfl rfl ?_
    refine r_iconst (pc' := 24) X (-1 : Int32) dX5_readPlace_23 (by decide) rfl ?_
    cases hF
    exact RT.1 0 0 _ _ _ _ .int rfl rfl dX5_readPlace_24 ⟨rfl, rfl⟩ (Nat.le_refl 0) (Nat.le_refl 0)
theorem kX5_readEnd_1 : Cond.fieldLink RX5 34 "IslandHeap$Script" "position" "I" ∈ wsX5_readEnd := List.mem_of_getElem? (i := 1) (by decide +kernel)
theorem uX5_readEnd_X5 : ∀ w ∈ u_ws RX5 TX5 9, w ∈ wsX5_readEnd := by decide +kernel
set_option maxHeartbeats 4000000 in
set_option maxRecDepth 100000 in
theorem mX5_readEnd (D : va_G) (cI cZ cH : ClassId) (a_s : Nat) (a_letters : Nat) (a_kinds : Nat) (a_firsts : Nat) (a_seconds : Nat) (a_thirds : Nat) (length_ : Int32) (commands : Int32) (faultIndex : Int32) (position : Int32) (letters : Nat → Int32) (w_faultIndex : Int32) (w_position : Int32) (hF : FX5_readEnd length_ faultIndex position letters = some (w_faultIndex, w_position)) : g_CM yX5_readEnd wsX5_readEnd ({ frames := 1, cells := 0, slots := 0, locals := 21 }) D cI cZ cH [.ref a_s] [oX5 a_s a_letters length_ a_kinds a_firsts a_seconds a_thirds commands faultIndex position, oI a_letters cI 80 letters] 0 0 (g_Tm (none) [oX5 a_s a_letters length_ a_kinds a_firsts a_seconds a_thirds commands w_faultIndex w_position, oI a_letters cI 80 letters]) := by
  refine g_met (own := RX5) (mn := "readEnd") (cc := cX5_readEnd) (maxL := 1) (ret := none) rfl rfl (by decide +kernel) rfl (Nat.le_of_ble_eq_true rfl) (fun G X RT => ?_)
  show G 0 0 [oX5 a_s a_letters length_ a_kinds a_firsts a_seconds a_thirds commands faultIndex position, oI a_letters cI 80 letters] [(0, .ref a_s)] 0 []
  unfold FX5_readEnd at hF
  refine r_aload_n (pc' := 1) X dX5_readEnd_0 rfl 0 rfl rfl ?_
  obtain ⟨position_1, hc2, hF⟩ := g_bd hF
  refine r_callVF (pc' := 4) (ws' := [oX5 a_s a_letters length_ a_kinds a_firsts a_seconds a_thirds commands faultIndex position_1, oI a_letters cI 80 letters]) (st' := []) X (mX5_skipBlanks D cI cZ cH a_s a_letters a_kinds a_firsts a_seconds a_thirds length_ commands faultIndex position letters position_1 hc2) 0 gX5_readEnd_X5_skipBlanks rfl (by decide +kernel) rfl rfl ⟨Nat.le_of_ble_eq_true rfl, Nat.le_of_ble_eq_true rfl⟩ ⟨Nat.le_of_ble_eq_true rfl, Nat.le_of_ble_eq_true rfl⟩ rfl (Nat.le_of_ble_eq_true rfl) dX5_readEnd_1 0 rfl rfl [0, 1] rfl rfl rfl rfl rfl rfl ?_
  refine r_aload_n (pc' := 5) X dX5_readEnd_4 rfl 0 rfl rfl ?_
  obtain ⟨r3, hc4, hF⟩ := g_bd hF
  refine r_callVF (pc' := 8) (ws' := [oX5 a_s a_letters length_ a_kinds a_firsts a_seconds a_thirds commands faultIndex position_1, oI a_letters cI 80 letters]) (st' := [.int r3]) X (mX5_letter D cI cZ cH a_s a_letters a_kinds a_firsts a_seconds a_thirds length_ commands faultIndex position_1 letters r3 hc4) 0 gX5_readEnd_X5_letter rfl (by decide +kernel) rfl rfl ⟨Nat.le_of_ble_eq_true rfl, Nat.le_of_ble_eq_true rfl⟩ ⟨Nat.le_of_ble_eq_true rfl, Nat.le_of_ble_eq_true rfl⟩ rfl (Nat.le_of_ble_eq_true rfl) dX5_readEnd_5 0 rfl rfl [0, 1] rfl rfl rfl rfl rfl rfl ?_
  refine r_bipush (pc' := 10) X (59 : Int32) dX5_readEnd_8 (by decide) rfl ?_
  refine r_icmp_ne (pc' := 13) X 26 dX5_readEnd_10 (by decide) rfl (fun c9 => ?_) (fun c9 => ?_)
  · replace hF := g_f c9 hF
    refine r_aload_n (pc' := 27) X dX5_readEnd_26 rfl 0 rfl rfl ?_
    obtain ⟨faultIndex_5, hc6, hF⟩ := g_bd hF
    refine r_callVF (pc' := 30) (ws' := [oX5 a_s a_letters length_ a_kinds a_firsts a_seconds a_thirds commands faultIndex_5 position_1, oI a_letters cI 80 letters]) (st' := []) X (mX5_refuse D cI cZ cH a_s a_letters a_kinds a_firsts a_seconds a_thirds length_ commands faultIndex position_1 faultIndex_5 hc6) 0 gX5_readEnd_X5_refuse rfl (by decide +kernel) rfl rfl ⟨Nat.le_of_ble_eq_true rfl, Nat.le_of_ble_eq_true rfl⟩ ⟨Nat.le_of_ble_eq_true rfl, Nat.le_of_ble_eq_true rfl⟩ rfl (Nat.le_of_ble_eq_true rfl) dX5_readEnd_27 0 rfl rfl [0] rfl rfl rfl rfl rfl rfl ?_
    cases hF
    exact RT.2.2 0 0 _ _ _ rfl dX5_readEnd_30 ⟨rfl, rfl⟩ (Nat.le_refl 0) (Nat.le_refl 0)
  · replace hF := g_t c9 hF
    refine r_aload_n (pc' := 14) X dX5_readEnd_13 rfl 0 rfl rfl ?_
    refine r_dup (pc' := 15) X dX5_readEnd_14 rfl rfl ?_
    refine r_get (pc' := 18) X uX5_readEnd_X5 0 8 dX5_readEnd_15 rfl rfl (by decide) kX5_readEnd_1 rfl rfl ?_
    refine r_iconst (pc' := 19) X (1 : Int32) dX5_readEnd_18 (by decide) rfl ?_
    refine r_iadd (pc' := 20) X dX5_readEnd_19 rfl ?_
    refine r_put (pc' := 23) (ty := .int) (ws' := [oX5 a_s a_letters length_ a_kinds a_firsts a_seconds a_thirds commands faultIndex (position_1 + (1 : Int32)), oI a_letters cI 80 letters]) X uX5_readEnd_X5 0 8 tyX5 tyX5_ok nmX5 dX5_readEnd_20 rfl rfl (by decide) kX5_readEnd_1 rfl (by decide +kernel) rfl rfl (Nat.le_of_ble_eq_true rfl) rfl rfl ?_
    refine r_goto X 30 dX5_readEnd_23 (by decide) ?_
    cases hF
    exact RT.2.2 0 0 _ _ _ rfl dX5_readEnd_30 ⟨rfl, rfl⟩ (Nat.le_refl 0) (Nat.le_refl 0)
theorem kX5_readCommand_1 : Cond.fieldLink RX5 34 "IslandHeap$Script" "position" "I" ∈ wsX5_readCommand := List.mem_of_getElem? (i := 1) (by decide +kernel)
theorem kX5_readCommand_5 : Cond.fieldLink RX5 15 "IslandHeap$Script" "kinds" "[I" ∈ wsX5_readCommand := List.mem_of_getElem? (i := 5) (by decide +kernel)
theorem kX5_readCommand_6 : Cond.fieldLink RX5 27 "IslandHeap$Script" "commands" "I" ∈ wsX5_readCommand := List.mem_of_getElem? (i := 6) (by decide +kernel)
theorem kX5_readCommand_2 : Cond.fieldLink RX5 18 "IslandHeap$Script" "firsts" "[I" ∈ wsX5_readCommand := List.mem_of_getElem? (i := 2) (by decide +kernel)
theorem kX5_readCommand_3 : Cond.fieldLink RX5 21 "IslandHeap$Script" "seconds" "[I" ∈ wsX5_readCommand := List.mem_of_getElem? (i := 3) (by decide +kernel)
theorem kX5_readCommand_4 : Cond.fieldLink RX5 24 "IslandHeap$Script" "thirds" "[I" ∈ wsX5_readCommand := List.mem_of_getElem? (i := 4) (by decide +kernel)
theorem uX5_readCommand_X5 : ∀ w ∈ u_ws RX5 TX5 9, w ∈ wsX5_readCommand := by decide +kernel
set_option maxHeartbeats 4000000 in
set_option maxRecDepth 100000 in
theorem mX5_readCommand (D : va_G) (cI cZ cH : ClassId) (a_s : Nat) (a_letters : Nat) (a_kinds : Nat) (a_firsts : Nat) (a_seconds : Nat) (a_thirds : Nat) (length_ : Int32) (commands : Int32) (faultIndex : Int32) (position : Int32) (letters : Nat → Int32) (kinds : Nat → Int32) (firsts : Nat → Int32) (seconds : Nat → Int32) (thirds : Nat → Int32) (p1 : Int32) (w_commands : Int32) (w_faultIndex : Int32) (w_position : Int32) (w_kinds : Nat → Int32) (w_firsts : Nat → Int32) (w_seconds : Nat → Int32) (w_thirds : Nat → Int32) (hF : FX5_readCommand length_ commands faultIndex position letters kinds firsts seconds thirds p1 = some (w_commands, w_faultIndex, w_position, w_kinds, w_firsts, w_seconds, w_thirds)) : g_CM yX5_readCommand wsX5_readCommand ({ frames := 4, cells := 0, slots := 0, locals := 84 }) D cI cZ cH [.ref a_s, .int p1] [oX5 a_s a_letters length_ a_kinds a_firsts a_seconds a_thirds commands faultIndex position, oI a_letters cI 80 letters, oI a_kinds cI 40 kinds, oI a_firsts cI 40 firsts, oI a_seconds cI 40 seconds, oI a_thirds cI 40 thirds] 0 0 (g_Tm (none) [oX5 a_s a_letters length_ a_kinds a_firsts a_seconds a_thirds w_commands w_faultIndex w_position, oI a_letters cI 80 letters, oI a_kinds cI 40 w_kinds, oI a_firsts cI 40 w_firsts, oI a_seconds cI 40 w_seconds, oI a_thirds cI 40 w_thirds]) := by
  refine g_met (own := RX5) (mn := "readCommand") (cc := cX5_readCommand) (maxL := 3) (ret := none) rfl rfl (by decide +kernel) rfl (Nat.le_of_ble_eq_true rfl) (fun G X RT => ?_)
  show G 0 0 [oX5 a_s a_letters length_ a_kinds a_firsts a_seconds a_thirds commands faultIndex position, oI a_letters cI 80 letters, oI a_kinds cI 40 kinds, oI a_firsts cI 40 firsts, oI a_seconds cI 40 seconds, oI a_thirds cI 40 thirds] [(0, .ref a_s), (1, .int p1)] 0 []
  unfold FX5_readCommand at hF
  refine r_aload_n (pc' := 1) X dX5_readCommand_0 rfl 0 rfl rfl ?_
  obtain ⟨r1, hc2, hF⟩ := g_bd hF
  refine r_callVF (pc' := 4) (ws' := [oX5 a_s a_letters length_ a_kinds a_firsts a_seconds a_thirds commands faultIndex position, oI a_letters cI 80 letters, oI a_kinds cI 40 kinds, oI a_firsts cI 40 firsts, oI a_seconds cI 40 seconds, oI a_thirds cI 40 thirds]) (st' := [.int r1]) X (mX5_letter D cI cZ cH a_s a_letters a_kinds a_firsts a_seconds a_thirds length_ commands faultIndex position letters r1 hc2) 0 gX5_readCommand_X5_letter rfl (by decide +kernel) rfl rfl ⟨Nat.le_of_ble_eq_true rfl, Nat.le_of_ble_eq_true rfl⟩ ⟨Nat.le_of_ble_eq_true rfl, Nat.le_of_ble_eq_true rfl⟩ rfl (Nat.le_of_ble_eq_true rfl) dX5_readCommand_1 0 rfl rfl [0, 1] rfl rfl rfl rfl rfl rfl ?_
  refine r_istore_n (pc' := 5) (lv' := [(0, .ref a_s), (1, .int p1), (2, .int r1)]) X dX5_readCommand_4 rfl (by decide) [1, 2, 0] rfl rfl ?_
  refine r_aload_n (pc' := 6) X dX5_readCommand_5 rfl 0 rfl rfl ?_
  refine r_dup (pc' := 7) X dX5_readCommand_6 rfl rfl ?_
  refine r_get (pc' := 10) X uX5_readCommand_X5 0 8 dX5_readCommand_7 rfl rfl (by decide) kX5_readCommand_1 rfl rfl ?_
  refine r_iconst (pc' := 11) X (1 : Int32) dX5_readCommand_10 (by decide) rfl ?_
  refine r_iadd (pc' := 12) X dX5_readCommand_11 rfl ?_
  refine r_put (pc' := 15) (ty := .int) (ws' := [oX5 a_s a_letters length_ a_kinds a_firsts a_seconds a_thirds commands faultIndex (position + (1 : Int32)), oI a_letters cI 80 letters, oI a_kinds cI 40 kinds, oI a_firsts cI 40 firsts, oI a_seconds cI 40 seconds, oI a_thirds cI 40 thirds]) X uX5_readCommand_X5 0 8 tyX5 tyX5_ok nmX5 dX5_readCommand_12 rfl rfl (by decide) kX5_readCommand_1 rfl (by decide +kernel) rfl rfl (Nat.le_of_ble_eq_true rfl) rfl rfl ?_
  refine r_iload_n (pc' := 16) X dX5_readCommand_15 rfl 2 rfl rfl ?_
  obtain ⟨exJ8, hR, hF⟩ := g_bd hF
  have hJ8 : ∀ (faultIndex_3 : Int32) (position_4 : Int32) (firsts_5 : Nat → Int32) (seconds_6 : Nat → Int32) (thirds_7 : Nat → Int32), (faultIndex_3, position_4, firsts_5, seconds_6, thirds_7) = exJ8 → G 0 0 [oX5 a_s a_letters length_ a_kinds a_firsts a_seconds a_thirds commands faultIndex_3 position_4, oI a_letters cI 80 letters, oI a_kinds cI 40 kinds, oI a_firsts cI 40 firsts_5, oI a_seconds cI 40 seconds_6, oI a_thirds cI 40 thirds_7] [(0, .ref a_s), (1, .int p1), (2, .int r1)] 225 [] := by
    intro faultIndex_3 position_4 firsts_5 seconds_6 thirds_7 hx; subst hx
    refine r_aload_n (pc' := 226) X dX5_readCommand_225 rfl 0 rfl rfl ?_
    obtain ⟨⟨faultIndex_9, position_10⟩, hc11, hF⟩ := g_bd hF
    refine r_callVF (pc' := 229) (ws' := [oX5 a_s a_letters length_ a_kinds a_firsts a_seconds a_thirds commands faultIndex_9 position_10, oI a_letters cI 80 letters, oI a_kinds cI 40 kinds, oI a_firsts cI 40 firsts_5, oI a_seconds cI 40 seconds_6, oI a_thirds cI 40 thirds_7]) (st' := []) X (mX5_readEnd D cI cZ cH a_s a_letters a_kinds a_firsts a_seconds a_thirds length_ commands faultIndex_3 position_4 letters faultIndex_9 position_10 hc11) 0 gX5_readCommand_X5_readEnd rfl (by decide +kernel) rfl rfl ⟨Nat.le_of_ble_eq_true rfl, Nat.le_of_ble_eq_true rfl⟩ ⟨Nat.le_of_ble_eq_true rfl, Nat.le_of_ble_eq_true rfl⟩ rfl (Nat.le_of_ble_eq_true rfl) dX5_readCommand_226 0 rfl rfl [0, 1] rfl rfl rfl rfl rfl rfl ?_
    refine r_aload_n (pc' := 230) X dX5_readCommand_229 rfl 0 rfl rfl ?_
    refine r_get (pc' := 233) X uX5_readCommand_X5 0 2 dX5_readCommand_230 rfl rfl (by decide) kX5_readCommand_5 rfl rfl ?_
    refine r_iload_n (pc' := 234) X dX5_readCommand_233 rfl 1 rfl rfl ?_
    refine r_iload_n (pc' := 235) X dX5_readCommand_234 rfl 2 rfl rfl ?_
    obtain ⟨hi12, hF⟩ := g_gt hF
    refine r_iast (pc' := 236) (ws' := [oX5 a_s a_letters length_ a_kinds a_firsts a_seconds a_thirds commands faultIndex_9 position_10, oI a_letters cI 80 letters, oI a_kinds cI 40 (upd kinds p1.toNatClampNeg r1), oI a_firsts cI 40 firsts_5, oI a_seconds cI 40 seconds_6, oI a_thirds cI 40 thirds_7]) X 2 dX5_readCommand_235 rfl (g_vi hi12) rfl rfl ?_
    refine r_aload_n (pc' := 237) X dX5_readCommand_236 rfl 0 rfl rfl ?_
    refine r_iload_n (pc' := 238) X dX5_readCommand_237 rfl 1 rfl rfl ?_
    refine r_iconst (pc' := 239) X (1 : Int32) dX5_readCommand_238 (by decide) rfl ?_
    refine r_iadd (pc' := 240) X dX5_readCommand_239 rfl ?_
    refine r_put (pc' := 243) (ty := .int) (ws' := [oX5 a_s a_letters length_ a_kinds a_firsts a_seconds a_thirds (p1 + (1 : Int32)) faultIndex_9 position_10, oI a_letters cI 80 letters, oI a_kinds cI 40 (upd kinds p1.toNatClampNeg r1), oI a_firsts cI 40 firsts_5, oI a_seconds cI 40 seconds_6, oI a_thirds cI 40 thirds_7]) X uX5_readCommand_X5 0 6 tyX5 tyX5_ok nmX5 dX5_readCommand_240 rfl rfl (by decide) kX5_readCommand_6 rfl (by decide +kernel) rfl rfl (Nat.le_of_ble_eq_true rfl) rfl rfl ?_
    cases hF
    exact RT.2.2 0 0 _ _ _ rfl dX5_readCommand_243 ⟨rfl, rfl⟩ (Nat.le_refl 0) (Nat.le_refl 0)
  replace hF := hR
  by_cases e99 : r1 = (99 : Int32)
  · replace hF := g_t e99 hF
    refine r_tsIn (off := 192) X 208 dX5_readCommand_16 e99 (by decide +kernel) (by decide +kernel) (by decide +kernel) (by decide +kernel) ?_
    refine r_goto X 225 dX5_readCommand_208 (by decide) ?_
    exact hJ8 faultIndex (position + (1 : Int32)) firsts seconds thirds (Option.some.inj hF)
  replace hF := g_f e99 hF
  by_cases e102 : r1 = (102 : Int32)
  · replace hF := g_t e102 hF
    refine r_tsIn (off := 146) X 162 dX5_readCommand_16 e102 (by decide +kernel) (by decide +kernel) (by decide +kernel) (by decide +kernel) ?_
    refine r_aload_n (pc' := 163) X dX5_readCommand_162 rfl 0 rfl rfl ?_
    refine r_get (pc' := 166) X uX5_readCommand_X5 0 3 dX5_readCommand_163 rfl rfl (by decide) kX5_readCommand_2 rfl rfl ?_
    refine r_iload_n (pc' := 167) X dX5_readCommand_166 rfl 1 rfl rfl ?_
    refine r_aload_n (pc' := 168) X dX5_readCommand_167 rfl 0 rfl rfl ?_
    obtain ⟨⟨r15, faultIndex_16, position_17⟩, hc18, hF⟩ := g_bd hF
    refine r_callVF (pc' := 171) (ws' := [oX5 a_s a_letters length_ a_kinds a_firsts a_seconds a_thirds commands faultIndex_16 position_17, oI a_letters cI 80 letters, oI a_kinds cI 40 kinds, oI a_firsts cI 40 firsts, oI a_seconds cI 40 seconds, oI a_thirds cI 40 thirds]) (st' := [.int r15, .int p1, .ref a_firsts]) X (mX5_readNumber D cI cZ cH a_s a_letters a_kinds a_firsts a_seconds a_thirds length_ commands faultIndex (position + (1 : Int32)) letters r15 faultIndex_16 position_17 hc18) 0 gX5_readCommand_X5_readNumber rfl (by decide +kernel) rfl rfl ⟨Nat.le_of_ble_eq_true rfl, Nat.le_of_ble_eq_true rfl⟩ ⟨Nat.le_of_ble_eq_true rfl, Nat.le_of_ble_eq_true rfl⟩ rfl (Nat.le_of_ble_eq_true rfl) dX5_readCommand_168 0 rfl rfl [0, 1] rfl rfl rfl rfl rfl rfl ?_
    obtain ⟨hi19, hF⟩ := g_gt hF
    refine r_iast (pc' := 172) (ws' := [oX5 a_s a_letters length_ a_kinds a_firsts a_seconds a_thirds commands faultIndex_16 position_17, oI a_letters cI 80 letters, oI a_kinds cI 40 kinds, oI a_firsts cI 40 (upd firsts p1.toNatClampNeg r15), oI a_seconds cI 40 seconds, oI a_thirds cI 40 thirds]) X 3 dX5_readCommand_171 rfl (g_vi hi19) rfl rfl ?_
    refine r_aload_n (pc' := 173) X dX5_readCommand_172 rfl 0 rfl rfl ?_
    refine r_get (pc' := 176) X uX5_readCommand_X5 0 4 dX5_readCommand_173 rfl rfl (by decide) kX5_readCommand_3 rfl rfl ?_
    refine r_iload_n (pc' := 177) X dX5_readCommand_176 rfl 1 rfl rfl ?_
    refine r_aload_n (pc' := 178) X dX5_readCommand_177 rfl 0 rfl rfl ?_
    obtain ⟨⟨r20, faultIndex_21, position_22⟩, hc23, hF⟩ := g_bd hF
    refine r_callVF (pc' := 181) (ws' := [oX5 a_s a_letters length_ a_kinds a_firsts a_seconds a_thirds commands faultIndex_21 position_22, oI a_letters cI 80 letters, oI a_kinds cI 40 kinds, oI a_firsts cI 40 (upd firsts p1.toNatClampNeg r15), oI a_seconds cI 40 seconds, oI a_thirds cI 40 thirds]) (st' := [.int r20, .int p1, .ref a_seconds]) X (mX5_readDigit D cI cZ cH a_s a_letters a_kinds a_firsts a_seconds a_thirds length_ commands faultIndex_16 position_17 letters r20 faultIndex_21 position_22 hc23) 0 gX5_readCommand_X5_readDigit rfl (by decide +kernel) rfl rfl ⟨Nat.le_of_ble_eq_true rfl, Nat.le_of_ble_eq_true rfl⟩ ⟨Nat.le_of_ble_eq_true rfl, Nat.le_of_ble_eq_true rfl⟩ rfl (Nat.le_of_ble_eq_true rfl) dX5_readCommand_178 0 rfl rfl [0, 1] rfl rfl rfl rfl rfl rfl ?_
    obtain ⟨hi24, hF⟩ := g_gt hF
    refine r_iast (pc' := 182) (ws' := [oX5 a_s a_letters length_ a_kinds a_firsts a_seconds a_thirds commands faultIndex_21 position_22, oI a_letters cI 80 letters, oI a_kinds cI 40 kinds, oI a_firsts cI 40 (upd firsts p1.toNatClampNeg r15), oI a_seconds cI 40 (upd seconds p1.toNatClampNeg r20), oI a_thirds cI 40 thirds]) X 4 dX5_readCommand_181 rfl (g_vi hi24) rfl rfl ?_
    refine r_aload_n (pc' := 183) X dX5_readCommand_182 rfl 0 rfl rfl ?_
    refine r_get (pc' := 186) X uX5_readCommand_X5 0 5 dX5_readCommand_183 rfl rfl (by decide) kX5_readCommand_4 rfl rfl ?_
    refine r_iload_n (pc' := 187) X dX5_readCommand_186 rfl 1 rfl rfl ?_
    refine r_aload_n (pc' := 188) X dX5_readCommand_187 rfl 0 rfl rfl ?_
    obtain ⟨⟨r25, faultIndex_26, position_27⟩, hc28, hF⟩ := g_bd hF
    refine r_callVF (pc' := 191) (ws' := [oX5 a_s a_letters length_ a_kinds a_firsts a_seconds a_thirds commands faultIndex_26 position_27, oI a_letters cI 80 letters, oI a_kinds cI 40 kinds, oI a_firsts cI 40 (upd firsts p1.toNatClampNeg r15), oI a_seconds cI 40 (upd seconds p1.toNatClampNeg r20), oI a_thirds cI 40 thirds]) (st' := [.int r25, .int p1, .ref a_thirds]) X (mX5_readPlace D cI cZ cH a_s a_letters a_kinds a_firsts a_seconds a_thirds length_ commands faultIndex_21 position_22 letters r25 faultIndex_26 position_27 hc28) 0 gX5_readCommand_X5_readPlace rfl (by decide +kernel) rfl rfl ⟨Nat.le_of_ble_eq_true rfl, Nat.le_of_ble_eq_true rfl⟩ ⟨Nat.le_of_ble_eq_true rfl, Nat.le_of_ble_eq_true rfl⟩ rfl (Nat.le_of_ble_eq_true rfl) dX5_readCommand_188 0 rfl rfl [0, 1] rfl rfl rfl rfl rfl rfl ?_
    obtain ⟨hi29, hF⟩ := g_gt hF
    refine r_iast (pc' := 192) (ws' := [oX5 a_s a_letters length_ a_kinds a_firsts a_seconds a_thirds commands faultIndex_26 position_27, oI a_letters cI 80 letters, oI a_kinds cI 40 kinds, oI a_firsts cI 40 (upd firsts p1.toNatClampNeg r15), oI a_seconds cI 40 (upd seconds p1.toNatClampNeg r20), oI a_thirds cI 40 (upd thirds p1.toNatClampNeg r25)]) X 5 dX5_readCommand_191 rfl (g_vi hi29) rfl rfl ?_
    refine r_goto X 225 dX5_readCommand_192 (by decide) ?_
    exact hJ8 faultIndex_26 position_27 (upd firsts p1.toNatClampNeg r15) (upd seconds p1.toNatClampNeg r20) (upd thirds p1.toNatClampNeg r25) (Option.some.inj hF)
  replace hF := g_f e102 hF
  by_cases e110 : r1 = (110 : Int32)
  · replace hF := g_t e110 hF
    refine r_tsIn (off := 100) X 116 dX5_readCommand_16 e110 (by decide +kernel) (by decide +kernel) (by decide +kernel) (by decide +kernel) ?_
    refine r_aload_n (pc' := 117) X dX5_readCommand_116 rfl 0 rfl rfl ?_
    refine r_get (pc' := 120) X uX5_readCommand_X5 0 3 dX5_readCommand_117 rfl rfl (by decide) kX5_readCommand_2 rfl rfl ?_
    refine r_iload_n (pc' := 121) X dX5_readCommand_120 rfl 1 rfl rfl ?_
    refine r_aload_n (pc' := 122) X dX5_readCommand_121 rfl 0 rfl rfl ?_
    obtain ⟨⟨r30, faultIndex_31, position_32⟩, hc33, hF⟩ := g_bd hF
    refine r_callVF (pc' := 125) (ws' := [oX5 a_s a_letters length_ a_kinds a_firsts a_seconds a_thirds commands faultIndex_31 position_32, oI a_letters cI 80 letters, oI a_kinds cI 40 kinds, oI a_firsts cI 40 firsts, oI a_seconds cI 40 seconds, oI a_thirds cI 40 thirds]) (st' := [.int r30, .int p1, .ref a_firsts]) X (mX5_readDigit D cI cZ cH a_s a_letters a_kinds a_firsts a_seconds a_thirds length_ commands faultIndex (position + (1 : Int32)) letters r30 faultIndex_31 position_32 hc33) 0 gX5_readCommand_X5_readDigit rfl (by decide +kernel) rfl rfl ⟨Nat.le_of_ble_eq_true rfl, Nat.le_of_ble_eq_true rfl⟩ ⟨Nat.le_of_ble_eq_true rfl, Nat.le_of_ble_eq_true rfl⟩ rfl (Nat.le_of_ble_eq_true rfl) dX5_readCommand_122 0 rfl rfl [0, 1] rfl rfl rfl rfl rfl rfl ?_
    obtain ⟨hi34, hF⟩ := g_gt hF
    refine r_iast (pc' := 126) (ws' := [oX5 a_s a_letters length_ a_kinds a_firsts a_seconds a_thirds commands faultIndex_31 position_32, oI a_letters cI 80 letters, oI a_kinds cI 40 kinds, oI a_firsts cI 40 (upd firsts p1.toNatClampNeg r30), oI a_seconds cI 40 seconds, oI a_thirds cI 40 thirds]) X 3 dX5_readCommand_125 rfl (g_vi hi34) rfl rfl ?_
    refine r_aload_n (pc' := 127) X dX5_readCommand_126 rfl 0 rfl rfl ?_
    refine r_get (pc' := 130) X uX5_readCommand_X5 0 4 dX5_readCommand_127 rfl rfl (by decide) kX5_readCommand_3 rfl rfl ?_
    refine r_iload_n (pc' := 131) X dX5_readCommand_130 rfl 1 rfl rfl ?_
    refine r_aload_n (pc' := 132) X dX5_readCommand_131 rfl 0 rfl rfl ?_
    obtain ⟨⟨r35, faultIndex_36, position_37⟩, hc38, hF⟩ := g_bd hF
    refine r_callVF (pc' := 135) (ws' := [oX5 a_s a_letters length_ a_kinds a_firsts a_seconds a_thirds commands faultIndex_36 position_37, oI a_letters cI 80 letters, oI a_kinds cI 40 kinds, oI a_firsts cI 40 (upd firsts p1.toNatClampNeg r30), oI a_seconds cI 40 seconds, oI a_thirds cI 40 thirds]) (st' := [.int r35, .int p1, .ref a_seconds]) X (mX5_readDigit D cI cZ cH a_s a_letters a_kinds a_firsts a_seconds a_thirds length_ commands faultIndex_31 position_32 letters r35 faultIndex_36 position_37 hc38) 0 gX5_readCommand_X5_readDigit rfl (by decide +kernel) rfl rfl ⟨Nat.le_of_ble_eq_true rfl, Nat.le_of_ble_eq_true rfl⟩ ⟨Nat.le_of_ble_eq_true rfl, Nat.le_of_ble_eq_true rfl⟩ rfl (Nat.le_of_ble_eq_true rfl) dX5_readCommand_132 0 rfl rfl [0, 1] rfl rfl rfl rfl rfl rfl ?_
    obtain ⟨hi39, hF⟩ := g_gt hF
    refine r_iast (pc' := 136) (ws' := [oX5 a_s a_letters length_ a_kinds a_firsts a_seconds a_thirds commands faultIndex_36 position_37, oI a_letters cI 80 letters, oI a_kinds cI 40 kinds, oI a_firsts cI 40 (upd firsts p1.toNatClampNeg r30), oI a_seconds cI 40 (upd seconds p1.toNatClampNeg r35), oI a_thirds cI 40 thirds]) X 4 dX5_readCommand_135 rfl (g_vi hi39) rfl rfl ?_
    refine r_goto X 225 dX5_readCommand_136 (by decide) ?_
    exact hJ8 faultIndex_36 position_37 (upd firsts p1.toNatClampNeg r30) (upd seconds p1.toNatClampNeg r35) thirds (Option.some.inj hF)
  replace hF := g_f e110 hF
  by_cases e112 : r1 = (112 : Int32)
  · replace hF := g_t e112 hF
    refine r_tsIn (off := 179) X 195 dX5_readCommand_16 e112 (by decide +kernel) (by decide +kernel) (by decide +kernel) (by decide +kernel) ?_
    refine r_aload_n (pc' := 196) X dX5_readCommand_195 rfl 0 rfl rfl ?_
    refine r_get (pc' := 199) X uX5_readCommand_X5 0 3 dX5_readCommand_196 rfl rfl (by decide) kX5_readCommand_2 rfl rfl ?_
    refine r_iload_n (pc' := 200) X dX5_readCommand_199 rfl 1 rfl rfl ?_
    refine r_aload_n (pc' := 201) X dX5_readCommand_200 rfl 0 rfl rfl ?_
    obtain ⟨⟨r40, faultIndex_41, position_42⟩, hc43, hF⟩ := g_bd hF
    refine r_callVF (pc' := 204) (ws' := [oX5 a_s a_letters length_ a_kinds a_firsts a_seconds a_thirds commands faultIndex_41 position_42, oI a_letters cI 80 letters, oI a_kinds cI 40 kinds, oI a_firsts cI 40 firsts, oI a_seconds cI 40 seconds, oI a_thirds cI 40 thirds]) (st' := [.int r40, .int p1, .ref a_firsts]) X (mX5_readNumber D cI cZ cH a_s a_letters a_kinds a_firsts a_seconds a_thirds length_ commands faultIndex (position + (1 : Int32)) letters r40 faultIndex_41 position_42 hc43) 0 gX5_readCommand_X5_readNumber rfl (by decide +kernel) rfl rfl ⟨Nat.le_of_ble_eq_true rfl, Nat.le_of_ble_eq_true rfl⟩ ⟨Nat.le_of_ble_eq_true rfl, Nat.le_of_ble_eq_true rfl⟩ rfl (Nat.le_of_ble_eq_true rfl) dX5_readCommand_201 0 rfl rfl [0, 1] rfl rfl rfl rfl rfl rfl ?_
    obtain ⟨hi44, hF⟩ := g_gt hF
    refine r_iast (pc' := 205) (ws' := [oX5 a_s a_letters length_ a_kinds a_firsts a_seconds a_thirds commands faultIndex_41 position_42, oI a_letters cI 80 letters, oI a_kinds cI 40 kinds, oI a_firsts cI 40 (upd firsts p1.toNatClampNeg r40), oI a_seconds cI 40 seconds, oI a_thirds cI 40 thirds]) X 3 dX5_readCommand_204 rfl (g_vi hi44) rfl rfl ?_
    refine r_goto X 225 dX5_readCommand_205 (by decide) ?_
    exact hJ8 faultIndex_41 position_42 (upd firsts p1.toNatClampNeg r40) seconds thirds (Option.some.inj hF)
  replace hF := g_f e112 hF
  by_cases e114 : r1 = (114 : Int32)
  · replace hF := g_t e114 hF
    refine r_tsIn (off := 123) X 139 dX5_readCommand_16 e114 (by decide +kernel) (by decide +kernel) (by decide +kernel) (by decide +kernel) ?_
    refine r_aload_n (pc' := 140) X dX5_readCommand_139 rfl 0 rfl rfl ?_
    refine r_get (pc' := 143) X uX5_readCommand_X5 0 3 dX5_readCommand_140 rfl rfl (by decide) kX5_readCommand_2 rfl rfl ?_
    refine r_iload_n (pc' := 144) X dX5_readCommand_143 rfl 1 rfl rfl ?_
    refine r_aload_n (pc' := 145) X dX5_readCommand_144 rfl 0 rfl rfl ?_
    obtain ⟨⟨r45, faultIndex_46, position_47⟩, hc48, hF⟩ := g_bd hF
    refine r_callVF (pc' := 148) (ws' := [oX5 a_s a_letters length_ a_kinds a_firsts a_seconds a_thirds commands faultIndex_46 position_47, oI a_letters cI 80 letters, oI a_kinds cI 40 kinds, oI a_firsts cI 40 firsts, oI a_seconds cI 40 seconds, oI a_thirds cI 40 thirds]) (st' := [.int r45, .int p1, .ref a_firsts]) X (mX5_readDigit D cI cZ cH a_s a_letters a_kinds a_firsts a_seconds a_thirds length_ commands faultIndex (position + (1 : Int32)) letters r45 faultIndex_46 position_47 hc48) 0 gX5_readCommand_X5_readDigit rfl (by decide +kernel) rfl rfl ⟨Nat.le_of_ble_eq_true rfl, Nat.le_of_ble_eq_true rfl⟩ ⟨Nat.le_of_ble_eq_true rfl, Nat.le_of_ble_eq_true rfl⟩ rfl (Nat.le_of_ble_eq_true rfl) dX5_readCommand_145 0 rfl rfl [0, 1] rfl rfl rfl rfl rfl rfl ?_
    obtain ⟨hi49, hF⟩ := g_gt hF
    refine r_iast (pc' := 149) (ws' := [oX5 a_s a_letters length_ a_kinds a_firsts a_seconds a_thirds commands faultIndex_46 position_47, oI a_letters cI 80 letters, oI a_kinds cI 40 kinds, oI a_firsts cI 40 (upd firsts p1.toNatClampNeg r45), oI a_seconds cI 40 seconds, oI a_thirds cI 40 thirds]) X 3 dX5_readCommand_148 rfl (g_vi hi49) rfl rfl ?_
    refine r_aload_n (pc' := 150) X dX5_readCommand_149 rfl 0 rfl rfl ?_
    refine r_get (pc' := 153) X uX5_readCommand_X5 0 4 dX5_readCommand_150 rfl rfl (by decide) kX5_readCommand_3 rfl rfl ?_
    refine r_iload_n (pc' := 154) X dX5_readCommand_153 rfl 1 rfl rfl ?_
    refine r_aload_n (pc' := 155) X dX5_readCommand_154 rfl 0 rfl rfl ?_
    obtain ⟨⟨r50, faultIndex_51, position_52⟩, hc53, hF⟩ := g_bd hF
    refine r_callVF (pc' := 158) (ws' := [oX5 a_s a_letters length_ a_kinds a_firsts a_seconds a_thirds commands faultIndex_51 position_52, oI a_letters cI 80 letters, oI a_kinds cI 40 kinds, oI a_firsts cI 40 (upd firsts p1.toNatClampNeg r45), oI a_seconds cI 40 seconds, oI a_thirds cI 40 thirds]) (st' := [.int r50, .int p1, .ref a_seconds]) X (mX5_readPlace D cI cZ cH a_s a_letters a_kinds a_firsts a_seconds a_thirds length_ commands faultIndex_46 position_47 letters r50 faultIndex_51 position_52 hc53) 0 gX5_readCommand_X5_readPlace rfl (by decide +kernel) rfl rfl ⟨Nat.le_of_ble_eq_true rfl, Nat.le_of_ble_eq_true rfl⟩ ⟨Nat.le_of_ble_eq_true rfl, Nat.le_of_ble_eq_true rfl⟩ rfl (Nat.le_of_ble_eq_true rfl) dX5_readCommand_155 0 rfl rfl [0, 1] rfl rfl rfl rfl rfl rfl ?_
    obtain ⟨hi54, hF⟩ := g_gt hF
    refine r_iast (pc' := 159) (ws' := [oX5 a_s a_letters length_ a_kinds a_firsts a_seconds a_thirds commands faultIndex_51 position_52, oI a_letters cI 80 letters, oI a_kinds cI 40 kinds, oI a_firsts cI 40 (upd firsts p1.toNatClampNeg r45), oI a_seconds cI 40 (upd seconds p1.toNatClampNeg r50), oI a_thirds cI 40 thirds]) X 4 dX5_readCommand_158 rfl (g_vi hi54) rfl rfl ?_
    refine r_goto X 225 dX5_readCommand_159 (by decide) ?_
    exact hJ8 faultIndex_51 position_52 (upd firsts p1.toNatClampNeg r45) (upd seconds p1.toNatClampNeg r50) thirds (Option.some.inj hF)
  replace hF := g_f e114 hF
  by_cases e117 : r1 = (117 : Int32)
  · replace hF := g_t e117 hF
    refine r_tsIn (off := 179) X 195 dX5_readCommand_16 e117 (by decide +kernel) (by decide +kernel) (by decide +kernel) (by decide +kernel) ?_
    refine r_aload_n (pc' := 196) X dX5_readCommand_195 rfl 0 rfl rfl ?_
    refine r_get (pc' := 199) X uX5_readCommand_X5 0 3 dX5_readCommand_196 rfl rfl (by decide) kX5_readCommand_2 rfl rfl ?_
    refine r_iload_n (pc' := 200) X dX5_readCommand_199 rfl 1 rfl rfl ?_
    refine r_aload_n (pc' := 201) X dX5_readCommand_200 rfl 0 rfl rfl ?_
    obtain ⟨⟨r55, faultIndex_56, position_57⟩, hc58, hF⟩ := g_bd hF
    refine r_callVF (pc' := 204) (ws' := [oX5 a_s a_letters length_ a_kinds a_firsts a_seconds a_thirds commands faultIndex_56 position_57, oI a_letters cI 80 letters, oI a_kinds cI 40 kinds, oI a_firsts cI 40 firsts, oI a_seconds cI 40 seconds, oI a_thirds cI 40 thirds]) (st' := [.int r55, .int p1, .ref a_firsts]) X (mX5_readNumber D cI cZ cH a_s a_letters a_kinds a_firsts a_seconds a_thirds length_ commands faultIndex (position + (1 : Int32)) letters r55 faultIndex_56 position_57 hc58) 0 gX5_readCommand_X5_readNumber rfl (by decide +kernel) rfl rfl ⟨Nat.le_of_ble_eq_true rfl, Nat.le_of_ble_eq_true rfl⟩ ⟨Nat.le_of_ble_eq_true rfl, Nat.le_of_ble_eq_true rfl⟩ rfl (Nat.le_of_ble_eq_true rfl) dX5_readCommand_201 0 rfl rfl [0, 1] rfl rfl rfl rfl rfl rfl ?_
    obtain ⟨hi59, hF⟩ := g_gt hF
    refine r_iast (pc' := 205) (ws' := [oX5 a_s a_letters length_ a_kinds a_firsts a_seconds a_thirds commands faultIndex_56 position_57, oI a_letters cI 80 letters, oI a_kinds cI 40 kinds, oI a_firsts cI 40 (upd firsts p1.toNatClampNeg r55), oI a_seconds cI 40 seconds, oI a_thirds cI 40 thirds]) X 3 dX5_readCommand_204 rfl (g_vi hi59) rfl rfl ?_
    refine r_goto X 225 dX5_readCommand_205 (by decide) ?_
    exact hJ8 faultIndex_56 position_57 (upd firsts p1.toNatClampNeg r55) seconds thirds (Option.some.inj hF)
  replace hF := g_f e117 hF
  by_cases e119 : r1 = (119 : Int32)
  · replace hF := g_t e119 hF
    refine r_tsIn (off := 123) X 139 dX5_readCommand_16 e119 (by decide +kernel) (by decide +kernel) (by decide +kernel) (by decide +kernel) ?_
    refine r_aload_n (pc' := 140) X dX5_readCommand_139 rfl 0 rfl rfl ?_
    refine r_get (pc' := 143) X uX5_readCommand_X5 0 3 dX5_readCommand_140 rfl rfl (by decide) kX5_readCommand_2 rfl rfl ?_
    refine r_iload_n (pc' := 144) X dX5_readCommand_143 rfl 1 rfl rfl ?_
    refine r_aload_n (pc' := 145) X dX5_readCommand_144 rfl 0 rfl rfl ?_
    obtain ⟨⟨r60, faultIndex_61, position_62⟩, hc63, hF⟩ := g_bd hF
    refine r_callVF (pc' := 148) (ws' := [oX5 a_s a_letters length_ a_kinds a_firsts a_seconds a_thirds commands faultIndex_61 position_62, oI a_letters cI 80 letters, oI a_kinds cI 40 kinds, oI a_firsts cI 40 firsts, oI a_seconds cI 40 seconds, oI a_thirds cI 40 thirds]) (st' := [.int r60, .int p1, .ref a_firsts]) X (mX5_readDigit D cI cZ cH a_s a_letters a_kinds a_firsts a_seconds a_thirds length_ commands faultIndex (position + (1 : Int32)) letters r60 faultIndex_61 position_62 hc63) 0 gX5_readCommand_X5_readDigit rfl (by decide +kernel) rfl rfl ⟨Nat.le_of_ble_eq_true rfl, Nat.le_of_ble_eq_true rfl⟩ ⟨Nat.le_of_ble_eq_true rfl, Nat.le_of_ble_eq_true rfl⟩ rfl (Nat.le_of_ble_eq_true rfl) dX5_readCommand_145 0 rfl rfl [0, 1] rfl rfl rfl rfl rfl rfl ?_
    obtain ⟨hi64, hF⟩ := g_gt hF
    refine r_iast (pc' := 149) (ws' := [oX5 a_s a_letters length_ a_kinds a_firsts a_seconds a_thirds commands faultIndex_61 position_62, oI a_letters cI 80 letters, oI a_kinds cI 40 kinds, oI a_firsts cI 40 (upd firsts p1.toNatClampNeg r60), oI a_seconds cI 40 seconds, oI a_thirds cI 40 thirds]) X 3 dX5_readCommand_148 rfl (g_vi hi64) rfl rfl ?_
    refine r_aload_n (pc' := 150) X dX5_readCommand_149 rfl 0 rfl rfl ?_
    refine r_get (pc' := 153) X uX5_readCommand_X5 0 4 dX5_readCommand_150 rfl rfl (by decide) kX5_readCommand_3 rfl rfl ?_
    refine r_iload_n (pc' := 154) X dX5_readCommand_153 rfl 1 rfl rfl ?_
    refine r_aload_n (pc' := 155) X dX5_readCommand_154 rfl 0 rfl rfl ?_
    obtain ⟨⟨r65, faultIndex_66, position_67⟩, hc68, hF⟩ := g_bd hF
    refine r_callVF (pc' := 158) (ws' := [oX5 a_s a_letters length_ a_kinds a_firsts a_seconds a_thirds commands faultIndex_66 position_67, oI a_letters cI 80 letters, oI a_kinds cI 40 kinds, oI a_firsts cI 40 (upd firsts p1.toNatClampNeg r60), oI a_seconds cI 40 seconds, oI a_thirds cI 40 thirds]) (st' := [.int r65, .int p1, .ref a_seconds]) X (mX5_readPlace D cI cZ cH a_s a_letters a_kinds a_firsts a_seconds a_thirds length_ commands faultIndex_61 position_62 letters r65 faultIndex_66 position_67 hc68) 0 gX5_readCommand_X5_readPlace rfl (by decide +kernel) rfl rfl ⟨Nat.le_of_ble_eq_true rfl, Nat.le_of_ble_eq_true rfl⟩ ⟨Nat.le_of_ble_eq_true rfl, Nat.le_of_ble_eq_true rfl⟩ rfl (Nat.le_of_ble_eq_true rfl) dX5_readCommand_155 0 rfl rfl [0, 1] rfl rfl rfl rfl rfl rfl ?_
    obtain ⟨hi69, hF⟩ := g_gt hF
    refine r_iast (pc' := 159) (ws' := [oX5 a_s a_letters length_ a_kinds a_firsts a_seconds a_thirds commands faultIndex_66 position_67, oI a_letters cI 80 letters, oI a_kinds cI 40 kinds, oI a_firsts cI 40 (upd firsts p1.toNatClampNeg r60), oI a_seconds cI 40 (upd seconds p1.toNatClampNeg r65), oI a_thirds cI 40 thirds]) X 4 dX5_readCommand_158 rfl (g_vi hi69) rfl rfl ?_
    refine r_goto X 225 dX5_readCommand_159 (by decide) ?_
    exact hJ8 faultIndex_66 position_67 (upd firsts p1.toNatClampNeg r60) (upd seconds p1.toNatClampNeg r65) thirds (Option.some.inj hF)
  replace hF := g_f e119 hF
  have hdf : ∀ hh : True, G 0 0 [oX5 a_s a_letters length_ a_kinds a_firsts a_seconds a_thirds commands faultIndex (position + (1 : Int32)), oI a_letters cI 80 letters, oI a_kinds cI 40 kinds, oI a_firsts cI 40 firsts, oI a_seconds cI 40 seconds, oI a_thirds cI 40 thirds] [(0, .ref a_s), (1, .int p1), (2, .int r1)] 211 [] := by
    intro _
    refine r_aload_n (pc' := 212) X dX5_readCommand_211 rfl 0 rfl rfl ?_
    refine r_dup (pc' := 213) X dX5_readCommand_212 rfl rfl ?_
    refine r_get (pc' := 216) X uX5_readCommand_X5 0 8 dX5_readCommand_213 rfl rfl (by decide) kX5_readCommand_1 rfl rfl ?_
    refine r_iconst (pc' := 217) X (1 : Int32) dX5_readCommand_216 (by decide) rfl ?_
    refine r_isub (pc' := 218) X dX5_readCommand_217 rfl ?_
    refine r_put (pc' := 221) (ty := .int) (ws' := [oX5 a_s a_letters length_ a_kinds a_firsts a_seconds a_thirds commands faultIndex ((position + (1 : Int32)) - (1 : Int32)), oI a_letters cI 80 letters, oI a_kinds cI 40 kinds, oI a_firsts cI 40 firsts, oI a_seconds cI 40 seconds, oI a_thirds cI 40 thirds]) X uX5_readCommand_X5 0 8 tyX5 tyX5_ok nmX5 dX5_readCommand_218 rfl rfl (by decide) kX5_readCommand_1 rfl (by decide +kernel) rfl rfl (Nat.le_of_ble_eq_true rfl) rfl rfl ?_
    refine r_aload_n (pc' := 222) X dX5_readCommand_221 rfl 0 rfl rfl ?_
    obtain ⟨faultIndex_13, hc14, hF⟩ := g_bd hF
    refine r_callVF (pc' := 225) (ws' := [oX5 a_s a_letters length_ a_kinds a_firsts a_seconds a_thirds commands faultIndex_13 ((position + (1 : Int32)) - (1 : Int32)), oI a_letters cI 80 letters, oI a_kinds cI 40 kinds, oI a_firsts cI 40 firsts, oI a_seconds cI 40 seconds, oI a_thirds cI 40 thirds]) (st' := []) X (mX5_refuse D cI cZ cH a_s a_letters a_kinds a_firsts a_seconds a_thirds length_ commands faultIndex ((position + (1 : Int32)) - (1 : Int32)) faultIndex_13 hc14) 0 gX5_readCommand_X5_refuse rfl (by decide +kernel) rfl rfl ⟨Nat.le_of_ble_eq_true rfl, Nat.le_of_ble_eq_true rfl⟩ ⟨Nat.le_of_ble_eq_true rfl, Nat.le_of_ble_eq_true rfl⟩ rfl (Nat.le_of_ble_eq_true rfl) dX5_readCommand_222 0 rfl rfl [0] rfl rfl rfl rfl rfl rfl ?_
    exact hJ8 faultIndex_13 ((position + (1 : Int32)) - (1 : Int32)) firsts seconds thirds (Option.some.inj hF)
  rcases g_ts (lo := 99) (hi := 119) r1 with h9 | h9
  · exact r_tsOut X 211 dX5_readCommand_16 h9 (by decide +kernel) (hdf trivial)
  · obtain ⟨h8, h9⟩ := h9
    rcases g_sw99_119 r1 h8 h9 with h9 | h9 | h9 | h9 | h9 | h9 | h9 | h9 | h9 | h9 | h9 | h9 | h9 | h9 | h9 | h9 | h9 | h9 | h9 | h9 | h9
    · exact absurd h9 e99
    · exact r_tsIn (off := 195) X 211 dX5_readCommand_16 h9 (by decide +kernel) (by decide +kernel) (by decide +kernel) (by decide +kernel) (hdf trivial)
    · exact r_tsIn (off := 195) X 211 dX5_readCommand_16 h9 (by decide +kernel) (by decide +kernel) (by decide +kernel) (by decide +kernel) (hdf trivial)
    · exact absurd h9 e102
    · exact r_tsIn (off := 195) X 211 dX5_readCommand_16 h9 (by decide +kernel) (by decide +kernel) (by decide +kernel) (by decide +kernel) (hdf trivial)
    · exact r_tsIn (off := 195) X 211 dX5_readCommand_16 h9 (by decide +kernel) (by decide +kernel) (by decide +kernel) (by decide +kernel) (hdf trivial)
    · exact r_tsIn (off := 195) X 211 dX5_readCommand_16 h9 (by decide +kernel) (by decide +kernel) (by decide +kernel) (by decide +kernel) (hdf trivial)
    · exact r_tsIn (off := 195) X 211 dX5_readCommand_16 h9 (by decide +kernel) (by decide +kernel) (by decide +kernel) (by decide +kernel) (hdf trivial)
    · exact r_tsIn (off := 195) X 211 dX5_readCommand_16 h9 (by decide +kernel) (by decide +kernel) (by decide +kernel) (by decide +kernel) (hdf trivial)
    · exact r_tsIn (off := 195) X 211 dX5_readCommand_16 h9 (by decide +kernel) (by decide +kernel) (by decide +kernel) (by decide +kernel) (hdf trivial)
    · exact r_tsIn (off := 195) X 211 dX5_readCommand_16 h9 (by decide +kernel) (by decide +kernel) (by decide +kernel) (by decide +kernel) (hdf trivial)
    · exact absurd h9 e110
    · exact r_tsIn (off := 195) X 211 dX5_readCommand_16 h9 (by decide +kernel) (by decide +kernel) (by decide +kernel) (by decide +kernel) (hdf trivial)
    · exact absurd h9 e112
    · exact r_tsIn (off := 195) X 211 dX5_readCommand_16 h9 (by decide +kernel) (by decide +kernel) (by decide +kernel) (by decide +kernel) (hdf trivial)
    · exact absurd h9 e114
    · exact r_tsIn (off := 195) X 211 dX5_readCommand_16 h9 (by decide +kernel) (by decide +kernel) (by decide +kernel) (by decide +kernel) (hdf trivial)
    · exact r_tsIn (off := 195) X 211 dX5_readCommand_16 h9 (by decide +kernel) (by decide +kernel) (by decide +kernel) (by decide +kernel) (hdf trivial)
    · exact absurd h9 e117
    · exact r_tsIn (off := 195) X 211 dX5_readCommand_16 h9 (by decide +kernel) (by decide +kernel) (by decide +kernel) (by decide +kernel) (hdf trivial)
    · exact absurd h9 e119
theorem kX5_read_1 : Cond.fieldLink RX5 27 "IslandHeap$Script" "commands" "I" ∈ wsX5_read := List.mem_of_getElem? (i := 1) (by decide +kernel)
theorem kX5_read_2 : Cond.fieldLink RX5 31 "IslandHeap$Script" "faultIndex" "I" ∈ wsX5_read := List.mem_of_getElem? (i := 2) (by decide +kernel)
theorem kX5_read_3 : Cond.fieldLink RX5 34 "IslandHeap$Script" "position" "I" ∈ wsX5_read := List.mem_of_getElem? (i := 3) (by decide +kernel)
theorem kX5_read_4 : Cond.fieldLink RX5 40 "IslandHeap$Script" "length" "I" ∈ wsX5_read := List.mem_of_getElem? (i := 4) (by decide +kernel)
theorem uX5_read_X5 : ∀ w ∈ u_ws RX5 TX5 9, w ∈ wsX5_read := by decide +kernel
set_option maxHeartbeats 4000000 in
set_option maxRecDepth 100000 in
theorem mX5_read (D : va_G) (cI cZ cH : ClassId) (a_s : Nat) (a_letters : Nat) (a_kinds : Nat) (a_firsts : Nat) (a_seconds : Nat) (a_thirds : Nat) (length_ : Int32) (commands : Int32) (faultIndex : Int32) (position : Int32) (letters : Nat → Int32) (kinds : Nat → Int32) (firsts : Nat → Int32) (seconds : Nat → Int32) (thirds : Nat → Int32) (w_commands : Int32) (w_faultIndex : Int32) (w_position : Int32) (w_kinds : Nat → Int32) (w_firsts : Nat → Int32) (w_seconds : Nat → Int32) (w_thirds : Nat → Int32) (hF : FX5_read length_ commands faultIndex position letters kinds firsts seconds thirds = some (w_commands, w_faultIndex, w_position, w_kinds, w_firsts, w_seconds, w_thirds)) : g_CM yX5_read wsX5_read ({ frames := 5, cells := 0, slots := 0, locals := 106 }) D cI cZ cH [.ref a_s] [oX5 a_s a_letters length_ a_kinds a_firsts a_seconds a_thirds commands faultIndex position, oI a_letters cI 80 letters, oI a_kinds cI 40 kinds, oI a_firsts cI 40 firsts, oI a_seconds cI 40 seconds, oI a_thirds cI 40 thirds] 0 0 (g_Tm (none) [oX5 a_s a_letters length_ a_kinds a_firsts a_seconds a_thirds w_commands w_faultIndex w_position, oI a_letters cI 80 letters, oI a_kinds cI 40 w_kinds, oI a_firsts cI 40 w_firsts, oI a_seconds cI 40 w_seconds, oI a_thirds cI 40 w_thirds]) := by
  refine g_met (own := RX5) (mn := "read") (cc := cX5_read) (maxL := 2) (ret := none) rfl rfl (by decide +kernel) rfl (Nat.le_of_ble_eq_true rfl) (fun G X RT => ?_)
  show G 0 0 [oX5 a_s a_letters length_ a_kinds a_firsts a_seconds a_thirds commands faultIndex position, oI a_letters cI 80 letters, oI a_kinds cI 40 kinds, oI a_firsts cI 40 firsts, oI a_seconds cI 40 seconds, oI a_thirds cI 40 thirds] [(0, .ref a_s)] 0 []
  unfold FX5_read at hF
  refine r_aload_n (pc' := 1) X dX5_read_0 rfl 0 rfl rfl ?_
  refine r_iconst (pc' := 2) X (0 : Int32) dX5_read_1 (by decide) rfl ?_
  refine r_put (pc' := 5) (ty := .int) (ws' := [oX5 a_s a_letters length_ a_kinds a_firsts a_seconds a_thirds (0 : Int32) faultIndex position, oI a_letters cI 80 letters, oI a_kinds cI 40 kinds, oI a_firsts cI 40 firsts, oI a_seconds cI 40 seconds, oI a_thirds cI 40 thirds]) X uX5_read_X5 0 6 tyX5 tyX5_ok nmX5 dX5_read_2 rfl rfl (by decide) kX5_read_1 rfl (by decide +kernel) rfl rfl (Nat.le_of_ble_eq_true rfl) rfl rfl ?_
  refine r_aload_n (pc' := 6) X dX5_read_5 rfl 0 rfl rfl ?_
  refine r_iconst (pc' := 7) X (-1 : Int32) dX5_read_6 (by decide) rfl ?_
  refine r_put (pc' := 10) (ty := .int) (ws' := [oX5 a_s a_letters length_ a_kinds a_firsts a_seconds a_thirds (0 : Int32) (-1 : Int32) position, oI a_letters cI 80 letters, oI a_kinds cI 40 kinds, oI a_firsts cI 40 firsts, oI a_seconds cI 40 seconds, oI a_thirds cI 40 thirds]) X uX5_read_X5 0 7 tyX5 tyX5_ok nmX5 dX5_read_7 rfl rfl (by decide) kX5_read_2 rfl (by decide +kernel) rfl rfl (Nat.le_of_ble_eq_true rfl) rfl rfl ?_
  refine r_aload_n (pc' := 11) X dX5_read_10 rfl 0 rfl rfl ?_
  refine r_iconst (pc' := 12) X (0 : Int32) dX5_read_11 (by decide) rfl ?_
  refine r_put (pc' := 15) (ty := .int) (ws' := [oX5 a_s a_letters length_ a_kinds a_firsts a_seconds a_thirds (0 : Int32) (-1 : Int32) (0 : Int32), oI a_letters cI 80 letters, oI a_kinds cI 40 kinds, oI a_firsts cI 40 firsts, oI a_seconds cI 40 seconds, oI a_thirds cI 40 thirds]) X uX5_read_X5 0 8 tyX5 tyX5_ok nmX5 dX5_read_12 rfl rfl (by decide) kX5_read_3 rfl (by decide +kernel) rfl rfl (Nat.le_of_ble_eq_true rfl) rfl rfl ?_
  refine r_aload_n (pc' := 16) X dX5_read_15 rfl 0 rfl rfl ?_
  obtain ⟨position_1, hc2, hF⟩ := g_bd hF
  refine r_callVF (pc' := 19) (ws' := [oX5 a_s a_letters length_ a_kinds a_firsts a_seconds a_thirds (0 : Int32) (-1 : Int32) position_1, oI a_letters cI 80 letters, oI a_kinds cI 40 kinds, oI a_firsts cI 40 firsts, oI a_seconds cI 40 seconds, oI a_thirds cI 40 thirds]) (st' := []) X (mX5_skipBlanks D cI cZ cH a_s a_letters a_kinds a_firsts a_seconds a_thirds length_ (0 : Int32) (-1 : Int32) (0 : Int32) letters position_1 hc2) 0 gX5_read_X5_skipBlanks rfl (by decide +kernel) rfl rfl ⟨Nat.le_of_ble_eq_true rfl, Nat.le_of_ble_eq_true rfl⟩ ⟨Nat.le_of_ble_eq_true rfl, Nat.le_of_ble_eq_true rfl⟩ rfl (Nat.le_of_ble_eq_true rfl) dX5_read_16 0 rfl rfl [0, 1] rfl rfl rfl rfl rfl rfl ?_
  refine r_iconst (pc' := 20) X (0 : Int32) dX5_read_19 (by decide) rfl ?_
  refine r_istore_n (pc' := 21) (lv' := [(0, .ref a_s), (1, .int (0 : Int32))]) X dX5_read_20 rfl (by decide) [1, 0] rfl rfl ?_
  obtain ⟨ex21, hR, hF⟩ := g_bd hF
  have hE21 : ∀ (commands_11 : Int32) (faultIndex_12 : Int32) (position_13 : Int32) (kinds_14 : Nat → Int32) (firsts_15 : Nat → Int32) (seconds_16 : Nat → Int32) (thirds_17 : Nat → Int32), (commands_11, faultIndex_12, position_13, kinds_14, firsts_15, seconds_16, thirds_17) = ex21 → G 0 0 [oX5 a_s a_letters length_ a_kinds a_firsts a_seconds a_thirds commands_11 faultIndex_12 position_13, oI a_letters cI 80 letters, oI a_kinds cI 40 kinds_14, oI a_firsts cI 40 firsts_15, oI a_seconds cI 40 seconds_16, oI a_thirds cI 40 thirds_17] [] 61 [] := by
    intro commands_11 faultIndex_12 position_13 kinds_14 firsts_15 seconds_16 thirds_17 hx; subst hx
    cases hF
    exact RT.2.2 0 0 _ _ _ rfl dX5_read_61 ⟨rfl, rfl⟩ (Nat.le_refl 0) (Nat.le_refl 0)
  have hL21 : ∀ (fu : Nat) (v1_3 : Int32) (commands_4 : Int32) (faultIndex_5 : Int32) (position_6 : Int32) (kinds_7 : Nat → Int32) (firsts_8 : Nat → Int32) (seconds_9 : Nat → Int32) (thirds_10 : Nat → Int32), g_itn (FX5_read_L21 length_ letters) fu (v1_3, commands_4, faultIndex_5, position_6, kinds_7, firsts_8, seconds_9, thirds_10) = some ex21 → G 0 0 [oX5 a_s a_letters length_ a_kinds a_firsts a_seconds a_thirds commands_4 faultIndex_5 position_6, oI a_letters cI 80 letters, oI a_kinds cI 40 kinds_7, oI a_firsts cI 40 firsts_8, oI a_seconds cI 40 seconds_9, oI a_thirds cI 40 thirds_10] [(0, .ref a_s), (1, .int v1_3)] 21 [] := by
    intro fu
    induction fu with
    | zero => intro v1_3 commands_4 faultIndex_5 position_6 kinds_7 firsts_8 seconds_9 thirds_10 h9; exact (g_it0 h9).elim
    | succ fu ih =>
      intro v1_3 commands_4 faultIndex_5 position_6 kinds_7 firsts_8 seconds_9 thirds_10 h9
      obtain ⟨y21, hF, hI21⟩ := g_its h9
      unfold FX5_read_L21 at hF
      refine r_iload_n (pc' := 22) X dX5_read_21 rfl 1 rfl rfl ?_
      refine r_bipush (pc' := 24) X (40 : Int32) dX5_read_22 (by decide) rfl ?_
      refine r_icmp_ge (pc' := 27) X 61 dX5_read_24 (by decide) rfl (fun c9 => ?_) (fun c9 => ?_)
      · replace hF := g_t c9 hF
        cases hF
        refine r_sub (lv' := []) X [] rfl ?_
        exact hE21 commands_4 faultIndex_5 position_6 kinds_7 firsts_8 seconds_9 thirds_10 hI21
      · replace hF := g_f c9 hF
        refine r_aload_n (pc' := 28) X dX5_read_27 rfl 0 rfl rfl ?_
        refine r_get (pc' := 31) X uX5_read_X5 0 8 dX5_read_28 rfl rfl (by decide) kX5_read_3 rfl rfl ?_
        refine r_aload_n (pc' := 32) X dX5_read_31 rfl 0 rfl rfl ?_
        refine r_get (pc' := 35) X uX5_read_X5 0 1 dX5_read_32 rfl rfl (by decide) kX5_read_4 rfl rfl ?_
        refine r_icmp_ge (pc' := 38) X 61 dX5_read_35 (by decide) rfl (fun c9 => ?_) (fun c9 => ?_)
        · replace hF := g_t c9 hF
          cases hF
          refine r_sub (lv' := []) X [] rfl ?_
          exact hE21 commands_4 faultIndex_5 position_6 kinds_7 firsts_8 seconds_9 thirds_10 hI21
        · replace hF := g_f c9 hF
          refine r_aload_n (pc' := 39) X dX5_read_38 rfl 0 rfl rfl ?_
          refine r_get (pc' := 42) X uX5_read_X5 0 7 dX5_read_39 rfl rfl (by decide) kX5_read_2 rfl rfl ?_
          refine r_iconst (pc' := 43) X (-1 : Int32) dX5_read_42 (by decide) rfl ?_
          refine r_icmp_ne (pc' := 46) X 61 dX5_read_43 (by decide) rfl (fun c9 => ?_) (fun c9 => ?_)
          · replace hF := g_f c9 hF
            cases hF
            refine r_sub (lv' := []) X [] rfl ?_
            exact hE21 commands_4 faultIndex_5 position_6 kinds_7 firsts_8 seconds_9 thirds_10 hI21
          · replace hF := g_t c9 hF
            refine r_aload_n (pc' := 47) X dX5_read_46 rfl 0 rfl rfl ?_
            refine r_iload_n (pc' := 48) X dX5_read_47 rfl 1 rfl rfl ?_
            obtain ⟨⟨commands_18, faultIndex_19, position_20, kinds_21, firsts_22, seconds_23, thirds_24⟩, hc25, hF⟩ := g_bd hF
            refine r_callVF (pc' := 51) (ws' := [oX5 a_s a_letters length_ a_kinds a_firsts a_seconds a_thirds commands_18 faultIndex_19 position_20, oI a_letters cI 80 letters, oI a_kinds cI 40 kinds_21, oI a_firsts cI 40 firsts_22, oI a_seconds cI 40 seconds_23, oI a_thirds cI 40 thirds_24]) (st' := []) X (mX5_readCommand D cI cZ cH a_s a_letters a_kinds a_firsts a_seconds a_thirds length_ commands_4 faultIndex_5 position_6 letters kinds_7 firsts_8 seconds_9 thirds_10 v1_3 commands_18 faultIndex_19 position_20 kinds_21 firsts_22 seconds_23 thirds_24 hc25) 1 gX5_read_X5_readCommand rfl (by decide +kernel) rfl rfl ⟨Nat.le_of_ble_eq_true rfl, Nat.le_of_ble_eq_true rfl⟩ ⟨Nat.le_of_ble_eq_true rfl, Nat.le_of_ble_eq_true rfl⟩ rfl (Nat.le_of_ble_eq_true rfl) dX5_read_48 0 rfl rfl [0, 1, 2, 3, 4, 5] rfl rfl rfl rfl rfl rfl ?_
            refine r_aload_n (pc' := 52) X dX5_read_51 rfl 0 rfl rfl ?_
            obtain ⟨position_26, hc27, hF⟩ := g_bd hF
            refine r_callVF (pc' := 55) (ws' := [oX5 a_s a_letters length_ a_kinds a_firsts a_seconds a_thirds commands_18 faultIndex_19 position_26, oI a_letters cI 80 letters, oI a_kinds cI 40 kinds_21, oI a_firsts cI 40 firsts_22, oI a_seconds cI 40 seconds_23, oI a_thirds cI 40 thirds_24]) (st' := []) X (mX5_skipBlanks D cI cZ cH a_s a_letters a_kinds a_firsts a_seconds a_thirds length_ commands_18 faultIndex_19 position_20 letters position_26 hc27) 0 gX5_read_X5_skipBlanks rfl (by decide +kernel) rfl rfl ⟨Nat.le_of_ble_eq_true rfl, Nat.le_of_ble_eq_true rfl⟩ ⟨Nat.le_of_ble_eq_true rfl, Nat.le_of_ble_eq_true rfl⟩ rfl (Nat.le_of_ble_eq_true rfl) dX5_read_52 0 rfl rfl [0, 1] rfl rfl rfl rfl rfl rfl ?_
            refine r_iinc (pc' := 58) (lv' := [(0, .ref a_s), (1, .int (v1_3 + (1 : Int32)))]) X (v1_3 + (1 : Int32)) dX5_read_55 1 rfl (congrArg (fun z => v1_3 + z) (by decide)) (by decide) [1, 0] rfl rfl ?_
            refine r_goto X 21 dX5_read_58 (by decide) ?_
            cases hF
            exact ih (v1_3 + (1 : Int32)) commands_18 faultIndex_19 position_26 kinds_21 firsts_22 seconds_23 thirds_24 hI21
  exact hL21 g_fuel (0 : Int32) (0 : Int32) (-1 : Int32) position_1 kinds firsts seconds thirds hR
