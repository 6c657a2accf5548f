/-! the commands, in both -/
theorem n_mul (a b : Nat) : nI a * nI b = nI (a * b) := (Int32.ofNat_mul a b).symm
theorem l40 : (40 : Int32) = nI 40 := id rfl
def CM (i : Nat) (K F S T C : Nat → Int32) : Prop := ∀ j, j < i → K j = C (4 * j) ∧ (K j = 99 ∨ F j = C (4 * j + 1)) ∧ (K j = 99 ∨ K j = 112 ∨ K j = 117 ∨ S j = C (4 * j + 2)) ∧ (¬ K j = 102 ∨ T j = C (4 * j + 3)) ∧ (K j = 99 ∨ K j = 102 ∨ K j = 110 ∨ K j = 112 ∨ K j = 114 ∨ K j = 117 ∨ K j = 119)
theorem CM.push {i : Nat} {K F S T C K' F' S' T' C' : Nat → Int32} (h : CM i K F S T C) (hK : ∀ j, j ≠ i → K' j = K j) (hF : ∀ j, j ≠ i → F' j = F j) (hS : ∀ j, j ≠ i → S' j = S j) (hT : ∀ j, j ≠ i → T' j = T j) (hC : ∀ m, m < 4 * i → C' m = C m)
    (new : K' i = C' (4 * i) ∧ (K' i = 99 ∨ F' i = C' (4 * i + 1)) ∧ (K' i = 99 ∨ K' i = 112 ∨ K' i = 117 ∨ S' i = C' (4 * i + 2)) ∧ (¬ K' i = 102 ∨ T' i = C' (4 * i + 3)) ∧ (K' i = 99 ∨ K' i = 102 ∨ K' i = 110 ∨ K' i = 112 ∨ K' i = 114 ∨ K' i = 117 ∨ K' i = 119)) : CM (i + 1) K' F' S' T' C' := by
  intro j hj
  by_cases hji : j = i
  · subst hji
    exact new
  · rw [hK j hji, hF j hji, hS j hji, hT j hji, hC _ (by omega), hC _ (by omega), hC _ (by omega), hC _ (by omega)]
    exact h j (by omega)
def Cmd (t letters : Nat → Int32) (n a i : Nat) (cmds : Int32) (K F S T C : Nat → Int32) : Prop := ∃ f2 p2 a2 i' K' F' S' T' C', FX5_readCommand (nI n) cmds (eO none) (nI a) letters K F S T (nI i) = some (nI (i + 1), f2, nI p2, K', F', S', T') ∧ FX7_reads (nI n) (nI i) (nI a) (eO none) t C = some (i', nI a2, f2, C') ∧ PS t n f2 p2 a2 ∧ (f2 = eO none → i' = nI (i + 1) ∧ a + 2 ≤ p2 ∧ (CM i K F S T C → CM (i + 1) K' F' S' T' C'))
theorem cmd_99 {t letters : Nat → Int32} {n : Nat} (hn : n ≤ 80) (hl : ∀ j, j < n → letters j = t j) {a i : Nat} (ha : a < n) (hi : i < 40) (cmds : Int32) (K F S T C : Nat → Int32) (hk : lt t n a = 99) : Cmd t letters n a i cmds K F S T C := by
  have h102 : ¬ lt t n a = 102 := by rw [hk]; decide
  have h110 : ¬ lt t n a = 110 := by rw [hk]; decide
  have h112 : ¬ lt t n a = 112 := by rw [hk]; decide
  have h114 : ¬ lt t n a = 114 := by rw [hk]; decide
  have h117 : ¬ lt t n a = 117 := by rw [hk]; decide
  have h119 : ¬ lt t n a = 119 := by rw [hk]; decide
  have P0 : PS t n (eO none) (a + 1) (skp t n (a + 1)) := ⟨ha, (skp_le ha).2, fun _ => rfl⟩
  have hq := skp_le (t := t) (n := n) (p := a + 1) ha
  obtain ⟨fe, pe, ae, xe, ye, Pe, lee, nfe⟩ := tok_end hn hl P0
  refine ⟨fe, pe, ae, nI (i + 1), upd K i (lt t n a), F, S, T, upd C (4 * i) (lt t n a), ?_, ?_, Pe, fun z => ⟨rfl, ?_, fun hC => ?_⟩⟩
  · simp (disch := omega) only [FX5_readCommand, FX_letter hn hl (Nat.le_of_lt ha), if_pos hk, if_neg h102, if_neg h110, if_neg h112, if_neg h114, if_neg h117, if_neg h119, ↓lm1, n_ofN, l0, l1, l2, l3, l4, l5, l6, l7, l8, l10, l20, l47, l80, l100, l127, l200, l400, l600, l800, l1000, l1200, l1206, l1210, l1222, n_add, n_clamp, n_gd, n_le_t, n_le_f, n_lt_t, n_lt_f, n_eq_t, n_eq_f, n_no, n_on, n_oo, n_olt, n_nlo, n_ole, Option.bind_some, Option.bind_none, Nat.zero_add, if_true, if_false, xe]
  · simp (disch := omega) only [FX7_reads, FM_next hn (Nat.le_of_lt ha), Option.bind_some, if_pos hk, if_neg h102, if_neg h110, if_neg h112, if_neg h114, if_neg h117, if_neg h119]
    simp only [FX7_reads_S59, if_pos hk, if_neg h102, if_neg h110, if_neg h112, if_neg h114, if_neg h117, if_neg h119]
    simp (disch := omega) only [FX7_reads_S125, n_mul, FM_blanks hn (t := t) (a := a + 1) ha, ↓lm1, n_ofN, l0, l1, l2, l3, l4, l5, l6, l7, l8, l10, l20, l47, l80, l100, l127, l200, l400, l600, l800, l1000, l1200, l1206, l1210, l1222, n_add, n_clamp, n_gd, n_le_t, n_le_f, n_lt_t, n_lt_f, n_eq_t, n_eq_f, n_no, n_on, n_oo, n_olt, n_nlo, n_ole, Option.bind_some, Option.bind_none, Nat.zero_add, if_true, if_false] at ye ⊢
    simp only [ye, Option.bind_some]
  · have := nfe z
    omega
  · have z0 := (nfe z).1
    refine hC.push (fun j hj => pk_un hj) (fun j _ => rfl) (fun j _ => rfl) (fun j _ => rfl) (fun m hm => by simp (disch := omega) only [pk_un]) ?_
    simp (disch := omega) only [pk_us, pk_un, hk]
    simp
theorem cmd_102 {t letters : Nat → Int32} {n : Nat} (hn : n ≤ 80) (hl : ∀ j, j < n → letters j = t j) {a i : Nat} (ha : a < n) (hi : i < 40) (cmds : Int32) (K F S T C : Nat → Int32) (hk : lt t n a = 102) : Cmd t letters n a i cmds K F S T C := by
  have h99 : ¬ lt t n a = 99 := by rw [hk]; decide
  have h110 : ¬ lt t n a = 110 := by rw [hk]; decide
  have h112 : ¬ lt t n a = 112 := by rw [hk]; decide
  have h114 : ¬ lt t n a = 114 := by rw [hk]; decide
  have h117 : ¬ lt t n a = 117 := by rw [hk]; decide
  have h119 : ¬ lt t n a = 119 := by rw [hk]; decide
  have P0 : PS t n (eO none) (a + 1) (skp t n (a + 1)) := ⟨ha, (skp_le ha).2, fun _ => rfl⟩
  have hq := skp_le (t := t) (n := n) (p := a + 1) ha
  obtain ⟨v1, w1, f1, p1, a1, x1, y1, P1, le1, nf1⟩ := tok_number hn hl P0
  obtain ⟨v2, w2, f2, p2, a2, x2, y2, P2, le2, nf2⟩ := tok_digit hn hl P1
  obtain ⟨v3, w3, f3, p3, a3, x3, y3, P3, le3, nf3⟩ := tok_place hn hl P2
  obtain ⟨fe, pe, ae, xe, ye, Pe, lee, nfe⟩ := tok_end hn hl P3
  refine ⟨fe, pe, ae, nI (i + 1), upd K i (lt t n a), (upd F i v1), (upd S i v2), (upd T i v3), upd (upd (upd (upd C (4 * i) (lt t n a)) (4 * i + 1) w1) (4 * i + 2) w2) (4 * i + 3) w3, ?_, ?_, Pe, fun z => ⟨rfl, ?_, fun hC => ?_⟩⟩
  · simp (disch := omega) only [FX5_readCommand, FX_letter hn hl (Nat.le_of_lt ha), if_neg h99, if_pos hk, if_neg h110, if_neg h112, if_neg h114, if_neg h117, if_neg h119, ↓lm1, n_ofN, l0, l1, l2, l3, l4, l5, l6, l7, l8, l10, l20, l47, l80, l100, l127, l200, l400, l600, l800, l1000, l1200, l1206, l1210, l1222, n_add, n_clamp, n_gd, n_le_t, n_le_f, n_lt_t, n_lt_f, n_eq_t, n_eq_f, n_no, n_on, n_oo, n_olt, n_nlo, n_ole, Option.bind_some, Option.bind_none, Nat.zero_add, if_true, if_false, x1, x2, x3, xe]
  · simp (disch := omega) only [FX7_reads, FM_next hn (Nat.le_of_lt ha), Option.bind_some, if_neg h99, if_pos hk, if_neg h110, if_neg h112, if_neg h114, if_neg h117, if_neg h119]
    simp only [FX7_reads_S59, if_neg h99, if_pos hk, if_neg h110, if_neg h112, if_neg h114, if_neg h117, if_neg h119]
    simp (disch := omega) only [FX7_reads_S125, n_mul, FM_blanks hn (t := t) (a := a + 1) ha, ↓lm1, n_ofN, l0, l1, l2, l3, l4, l5, l6, l7, l8, l10, l20, l47, l80, l100, l127, l200, l400, l600, l800, l1000, l1200, l1206, l1210, l1222, n_add, n_clamp, n_gd, n_le_t, n_le_f, n_lt_t, n_lt_f, n_eq_t, n_eq_f, n_no, n_on, n_oo, n_olt, n_nlo, n_ole, Option.bind_some, Option.bind_none, Nat.zero_add, if_true, if_false, y1, y2, y3] at ye ⊢
    simp only [ye, Option.bind_some]
  · have := nfe z
    omega
  · have z0 := (nfe z).1
    have q3 := nf3 z0
    have q2 := nf2 q3.2
    have q1 := nf1 q2.2
    refine hC.push (fun j hj => pk_un hj) (fun j hj => pk_un hj) (fun j hj => pk_un hj) (fun j hj => pk_un hj) (fun m hm => by simp (disch := omega) only [pk_un]) ?_
    simp (disch := omega) only [pk_us, pk_un, hk, q1.1, q2.1, q3.1]
    simp
theorem cmd_110 {t letters : Nat → Int32} {n : Nat} (hn : n ≤ 80) (hl : ∀ j, j < n → letters j = t j) {a i : Nat} (ha : a < n) (hi : i < 40) (cmds : Int32) (K F S T C : Nat → Int32) (hk : lt t n a = 110) : Cmd t letters n a i cmds K F S T C := by
  have h99 : ¬ lt t n a = 99 := by rw [hk]; decide
  have h102 : ¬ lt t n a = 102 := by rw [hk]; decide
  have h112 : ¬ lt t n a = 112 := by rw [hk]; decide
  have h114 : ¬ lt t n a = 114 := by rw [hk]; decide
  have h117 : ¬ lt t n a = 117 := by rw [hk]; decide
  have h119 : ¬ lt t n a = 119 := by rw [hk]; decide
  have P0 : PS t n (eO none) (a + 1) (skp t n (a + 1)) := ⟨ha, (skp_le ha).2, fun _ => rfl⟩
  have hq := skp_le (t := t) (n := n) (p := a + 1) ha
  obtain ⟨v1, w1, f1, p1, a1, x1, y1, P1, le1, nf1⟩ := tok_digit hn hl P0
  obtain ⟨v2, w2, f2, p2, a2, x2, y2, P2, le2, nf2⟩ := tok_digit hn hl P1
  obtain ⟨fe, pe, ae, xe, ye, Pe, lee, nfe⟩ := tok_end hn hl P2
  refine ⟨fe, pe, ae, nI (i + 1), upd K i (lt t n a), (upd F i v1), (upd S i v2), T, upd (upd (upd C (4 * i) (lt t n a)) (4 * i + 1) w1) (4 * i + 2) w2, ?_, ?_, Pe, fun z => ⟨rfl, ?_, fun hC => ?_⟩⟩
  · simp (disch := omega) only [FX5_readCommand, FX_letter hn hl (Nat.le_of_lt ha), if_neg h99, if_neg h102, if_pos hk, if_neg h112, if_neg h114, if_neg h117, if_neg h119, ↓lm1, n_ofN, l0, l1, l2, l3, l4, l5, l6, l7, l8, l10, l20, l47, l80, l100, l127, l200, l400, l600, l800, l1000, l1200, l1206, l1210, l1222, n_add, n_clamp, n_gd, n_le_t, n_le_f, n_lt_t, n_lt_f, n_eq_t, n_eq_f, n_no, n_on, n_oo, n_olt, n_nlo, n_ole, Option.bind_some, Option.bind_none, Nat.zero_add, if_true, if_false, x1, x2, xe]
  · simp (disch := omega) only [FX7_reads, FM_next hn (Nat.le_of_lt ha), Option.bind_some, if_neg h99, if_neg h102, if_pos hk, if_neg h112, if_neg h114, if_neg h117, if_neg h119]
    simp only [FX7_reads_S59, if_neg h99, if_neg h102, if_pos hk, if_neg h112, if_neg h114, if_neg h117, if_neg h119]
    simp (disch := omega) only [FX7_reads_S125, n_mul, FM_blanks hn (t := t) (a := a + 1) ha, ↓lm1, n_ofN, l0, l1, l2, l3, l4, l5, l6, l7, l8, l10, l20, l47, l80, l100, l127, l200, l400, l600, l800, l1000, l1200, l1206, l1210, l1222, n_add, n_clamp, n_gd, n_le_t, n_le_f, n_lt_t, n_lt_f, n_eq_t, n_eq_f, n_no, n_on, n_oo, n_olt, n_nlo, n_ole, Option.bind_some, Option.bind_none, Nat.zero_add, if_true, if_false, y1, y2] at ye ⊢
    simp only [ye, Option.bind_some]
  · have := nfe z
    omega
  · have z0 := (nfe z).1
    have q2 := nf2 z0
    have q1 := nf1 q2.2
    refine hC.push (fun j hj => pk_un hj) (fun j hj => pk_un hj) (fun j hj => pk_un hj) (fun j _ => rfl) (fun m hm => by simp (disch := omega) only [pk_un]) ?_
    simp (disch := omega) only [pk_us, pk_un, hk, q1.1, q2.1]
    simp
theorem cmd_112 {t letters : Nat → Int32} {n : Nat} (hn : n ≤ 80) (hl : ∀ j, j < n → letters j = t j) {a i : Nat} (ha : a < n) (hi : i < 40) (cmds : Int32) (K F S T C : Nat → Int32) (hk : lt t n a = 112) : Cmd t letters n a i cmds K F S T C := by
  have h99 : ¬ lt t n a = 99 := by rw [hk]; decide
  have h102 : ¬ lt t n a = 102 := by rw [hk]; decide
  have h110 : ¬ lt t n a = 110 := by rw [hk]; decide
  have h114 : ¬ lt t n a = 114 := by rw [hk]; decide
  have h117 : ¬ lt t n a = 117 := by rw [hk]; decide
  have h119 : ¬ lt t n a = 119 := by rw [hk]; decide
  have P0 : PS t n (eO none) (a + 1) (skp t n (a + 1)) := ⟨ha, (skp_le ha).2, fun _ => rfl⟩
  have hq := skp_le (t := t) (n := n) (p := a + 1) ha
  obtain ⟨v1, w1, f1, p1, a1, x1, y1, P1, le1, nf1⟩ := tok_number hn hl P0
  obtain ⟨fe, pe, ae, xe, ye, Pe, lee, nfe⟩ := tok_end hn hl P1
  refine ⟨fe, pe, ae, nI (i + 1), upd K i (lt t n a), (upd F i v1), S, T, upd (upd C (4 * i) (lt t n a)) (4 * i + 1) w1, ?_, ?_, Pe, fun z => ⟨rfl, ?_, fun hC => ?_⟩⟩
  · simp (disch := omega) only [FX5_readCommand, FX_letter hn hl (Nat.le_of_lt ha), if_neg h99, if_neg h102, if_neg h110, if_pos hk, if_neg h114, if_neg h117, if_neg h119, ↓lm1, n_ofN, l0, l1, l2, l3, l4, l5, l6, l7, l8, l10, l20, l47, l80, l100, l127, l200, l400, l600, l800, l1000, l1200, l1206, l1210, l1222, n_add, n_clamp, n_gd, n_le_t, n_le_f, n_lt_t, n_lt_f, n_eq_t, n_eq_f, n_no, n_on, n_oo, n_olt, n_nlo, n_ole, Option.bind_some, Option.bind_none, Nat.zero_add, if_true, if_false, x1, xe]
  · simp (disch := omega) only [FX7_reads, FM_next hn (Nat.le_of_lt ha), Option.bind_some, if_neg h99, if_neg h102, if_neg h110, if_pos hk, if_neg h114, if_neg h117, if_neg h119]
    simp only [FX7_reads_S59, if_neg h99, if_neg h102, if_neg h110, if_pos hk, if_neg h114, if_neg h117, if_neg h119]
    simp (disch := omega) only [FX7_reads_S125, n_mul, FM_blanks hn (t := t) (a := a + 1) ha, ↓lm1, n_ofN, l0, l1, l2, l3, l4, l5, l6, l7, l8, l10, l20, l47, l80, l100, l127, l200, l400, l600, l800, l1000, l1200, l1206, l1210, l1222, n_add, n_clamp, n_gd, n_le_t, n_le_f, n_lt_t, n_lt_f, n_eq_t, n_eq_f, n_no, n_on, n_oo, n_olt, n_nlo, n_ole, Option.bind_some, Option.bind_none, Nat.zero_add, if_true, if_false, y1] at ye ⊢
    simp only [ye, Option.bind_some]
  · have := nfe z
    omega
  · have z0 := (nfe z).1
    have q1 := nf1 z0
    refine hC.push (fun j hj => pk_un hj) (fun j hj => pk_un hj) (fun j _ => rfl) (fun j _ => rfl) (fun m hm => by simp (disch := omega) only [pk_un]) ?_
    simp (disch := omega) only [pk_us, pk_un, hk, q1.1]
    simp
theorem cmd_114 {t letters : Nat → Int32} {n : Nat} (hn : n ≤ 80) (hl : ∀ j, j < n → letters j = t j) {a i : Nat} (ha : a < n) (hi : i < 40) (cmds : Int32) (K F S T C : Nat → Int32) (hk : lt t n a = 114) : Cmd t letters n a i cmds K F S T C := by
  have h99 : ¬ lt t n a = 99 := by rw [hk]; decide
  have h102 : ¬ lt t n a = 102 := by rw [hk]; decide
  have h110 : ¬ lt t n a = 110 := by rw [hk]; decide
  have h112 : ¬ lt t n a = 112 := by rw [hk]; decide
  have h117 : ¬ lt t n a = 117 := by rw [hk]; decide
  have h119 : ¬ lt t n a = 119 := by rw [hk]; decide
  have P0 : PS t n (eO none) (a + 1) (skp t n (a + 1)) := ⟨ha, (skp_le ha).2, fun _ => rfl⟩
  have hq := skp_le (t := t) (n := n) (p := a + 1) ha
  obtain ⟨v1, w1, f1, p1, a1, x1, y1, P1, le1, nf1⟩ := tok_digit hn hl P0
  obtain ⟨v2, w2, f2, p2, a2, x2, y2, P2, le2, nf2⟩ := tok_place hn hl P1
  obtain ⟨fe, pe, ae, xe, ye, Pe, lee, nfe⟩ := tok_end hn hl P2
  refine ⟨fe, pe, ae, nI (i + 1), upd K i (lt t n a), (upd F i v1), (upd S i v2), T, upd (upd (upd C (4 * i) (lt t n a)) (4 * i + 1) w1) (4 * i + 2) w2, ?_, ?_, Pe, fun z => ⟨rfl, ?_, fun hC => ?_⟩⟩
  · simp (disch := omega) only [FX5_readCommand, FX_letter hn hl (Nat.le_of_lt ha), if_neg h99, if_neg h102, if_neg h110, if_neg h112, if_pos hk, if_neg h117, if_neg h119, ↓lm1, n_ofN, l0, l1, l2, l3, l4, l5, l6, l7, l8, l10, l20, l47, l80, l100, l127, l200, l400, l600, l800, l1000, l1200, l1206, l1210, l1222, n_add, n_clamp, n_gd, n_le_t, n_le_f, n_lt_t, n_lt_f, n_eq_t, n_eq_f, n_no, n_on, n_oo, n_olt, n_nlo, n_ole, Option.bind_some, Option.bind_none, Nat.zero_add, if_true, if_false, x1, x2, xe]
  · simp (disch := omega) only [FX7_reads, FM_next hn (Nat.le_of_lt ha), Option.bind_some, if_neg h99, if_neg h102, if_neg h110, if_neg h112, if_pos hk, if_neg h117, if_neg h119]
    simp only [FX7_reads_S59, if_neg h99, if_neg h102, if_neg h110, if_neg h112, if_pos hk, if_neg h117, if_neg h119]
    simp (disch := omega) only [FX7_reads_S125, n_mul, FM_blanks hn (t := t) (a := a + 1) ha, ↓lm1, n_ofN, l0, l1, l2, l3, l4, l5, l6, l7, l8, l10, l20, l47, l80, l100, l127, l200, l400, l600, l800, l1000, l1200, l1206, l1210, l1222, n_add, n_clamp, n_gd, n_le_t, n_le_f, n_lt_t, n_lt_f, n_eq_t, n_eq_f, n_no, n_on, n_oo, n_olt, n_nlo, n_ole, Option.bind_some, Option.bind_none, Nat.zero_add, if_true, if_false, y1, y2] at ye ⊢
    simp only [ye, Option.bind_some]
  · have := nfe z
    omega
  · have z0 := (nfe z).1
    have q2 := nf2 z0
    have q1 := nf1 q2.2
    refine hC.push (fun j hj => pk_un hj) (fun j hj => pk_un hj) (fun j hj => pk_un hj) (fun j _ => rfl) (fun m hm => by simp (disch := omega) only [pk_un]) ?_
    simp (disch := omega) only [pk_us, pk_un, hk, q1.1, q2.1]
    simp
theorem cmd_117 {t letters : Nat → Int32} {n : Nat} (hn : n ≤ 80) (hl : ∀ j, j < n → letters j = t j) {a i : Nat} (ha : a < n) (hi : i < 40) (cmds : Int32) (K F S T C : Nat → Int32) (hk : lt t n a = 117) : Cmd t letters n a i cmds K F S T C := by
  have h99 : ¬ lt t n a = 99 := by rw [hk]; decide
  have h102 : ¬ lt t n a = 102 := by rw [hk]; decide
  have h110 : ¬ lt t n a = 110 := by rw [hk]; decide
  have h112 : ¬ lt t n a = 112 := by rw [hk]; decide
  have h114 : ¬ lt t n a = 114 := by rw [hk]; decide
  have h119 : ¬ lt t n a = 119 := by rw [hk]; decide
  have P0 : PS t n (eO none) (a + 1) (skp t n (a + 1)) := ⟨ha, (skp_le ha).2, fun _ => rfl⟩
  have hq := skp_le (t := t) (n := n) (p := a + 1) ha
  obtain ⟨v1, w1, f1, p1, a1, x1, y1, P1, le1, nf1⟩ := tok_number hn hl P0
  obtain ⟨fe, pe, ae, xe, ye, Pe, lee, nfe⟩ := tok_end hn hl P1
  refine ⟨fe, pe, ae, nI (i + 1), upd K i (lt t n a), (upd F i v1), S, T, upd (upd C (4 * i) (lt t n a)) (4 * i + 1) w1, ?_, ?_, Pe, fun z => ⟨rfl, ?_, fun hC => ?_⟩⟩
  · simp (disch := omega) only [FX5_readCommand, FX_letter hn hl (Nat.le_of_lt ha), if_neg h99, if_neg h102, if_neg h110, if_neg h112, if_neg h114, if_pos hk, if_neg h119, ↓lm1, n_ofN, l0, l1, l2, l3, l4, l5, l6, l7, l8, l10, l20, l47, l80, l100, l127, l200, l400, l600, l800, l1000, l1200, l1206, l1210, l1222, n_add, n_clamp, n_gd, n_le_t, n_le_f, n_lt_t, n_lt_f, n_eq_t, n_eq_f, n_no, n_on, n_oo, n_olt, n_nlo, n_ole, Option.bind_some, Option.bind_none, Nat.zero_add, if_true, if_false, x1, xe]
  · simp (disch := omega) only [FX7_reads, FM_next hn (Nat.le_of_lt ha), Option.bind_some, if_neg h99, if_neg h102, if_neg h110, if_neg h112, if_neg h114, if_pos hk, if_neg h119]
    simp only [FX7_reads_S59, if_neg h99, if_neg h102, if_neg h110, if_neg h112, if_neg h114, if_pos hk, if_neg h119]
    simp (disch := omega) only [FX7_reads_S125, n_mul, FM_blanks hn (t := t) (a := a + 1) ha, ↓lm1, n_ofN, l0, l1, l2, l3, l4, l5, l6, l7, l8, l10, l20, l47, l80, l100, l127, l200, l400, l600, l800, l1000, l1200, l1206, l1210, l1222, n_add, n_clamp, n_gd, n_le_t, n_le_f, n_lt_t, n_lt_f, n_eq_t, n_eq_f, n_no, n_on, n_oo, n_olt, n_nlo, n_ole, Option.bind_some, Option.bind_none, Nat.zero_add, if_true, if_false, y1] at ye ⊢
    simp only [ye, Option.bind_some]
  · have := nfe z
    omega
  · have z0 := (nfe z).1
    have q1 := nf1 z0
    refine hC.push (fun j hj => pk_un hj) (fun j hj => pk_un hj) (fun j _ => rfl) (fun j _ => rfl) (fun m hm => by simp (disch := omega) only [pk_un]) ?_
    simp (disch := omega) only [pk_us, pk_un, hk, q1.1]
    simp
theorem cmd_119 {t letters : Nat → Int32} {n : Nat} (hn : n ≤ 80) (hl : ∀ j, j < n → letters j = t j) {a i : Nat} (ha : a < n) (hi : i < 40) (cmds : Int32) (K F S T C : Nat → Int32) (hk : lt t n a = 119) : Cmd t letters n a i cmds K F S T C := by
  have h99 : ¬ lt t n a = 99 := by rw [hk]; decide
  have h102 : ¬ lt t n a = 102 := by rw [hk]; decide
  have h110 : ¬ lt t n a = 110 := by rw [hk]; decide
  have h112 : ¬ lt t n a = 112 := by rw [hk]; decide
  have h114 : ¬ lt t n a = 114 := by rw [hk]; decide
  have h117 : ¬ lt t n a = 117 := by rw [hk]; decide
  have P0 : PS t n (eO none) (a + 1) (skp t n (a + 1)) := ⟨ha, (skp_le ha).2, fun _ => rfl⟩
  have hq := skp_le (t := t) (n := n) (p := a + 1) ha
  obtain ⟨v1, w1, f1, p1, a1, x1, y1, P1, le1, nf1⟩ := tok_digit hn hl P0
  obtain ⟨v2, w2, f2, p2, a2, x2, y2, P2, le2, nf2⟩ := tok_place hn hl P1
  obtain ⟨fe, pe, ae, xe, ye, Pe, lee, nfe⟩ := tok_end hn hl P2
  refine ⟨fe, pe, ae, nI (i + 1), upd K i (lt t n a), (upd F i v1), (upd S i v2), T, upd (upd (upd C (4 * i) (lt t n a)) (4 * i + 1) w1) (4 * i + 2) w2, ?_, ?_, Pe, fun z => ⟨rfl, ?_, fun hC => ?_⟩⟩
  · simp (disch := omega) only [FX5_readCommand, FX_letter hn hl (Nat.le_of_lt ha), if_neg h99, if_neg h102, if_neg h110, if_neg h112, if_neg h114, if_neg h117, if_pos hk, ↓lm1, n_ofN, l0, l1, l2, l3, l4, l5, l6, l7, l8, l10, l20, l47, l80, l100, l127, l200, l400, l600, l800, l1000, l1200, l1206, l1210, l1222, n_add, n_clamp, n_gd, n_le_t, n_le_f, n_lt_t, n_lt_f, n_eq_t, n_eq_f, n_no, n_on, n_oo, n_olt, n_nlo, n_ole, Option.bind_some, Option.bind_none, Nat.zero_add, if_true, if_false, x1, x2, xe]
  · simp (disch := omega) only [FX7_reads, FM_next hn (Nat.le_of_lt ha), Option.bind_some, if_neg h99, if_neg h102, if_neg h110, if_neg h112, if_neg h114, if_neg h117, if_pos hk]
    simp only [FX7_reads_S59, if_neg h99, if_neg h102, if_neg h110, if_neg h112, if_neg h114, if_neg h117, if_pos hk]
    simp (disch := omega) only [FX7_reads_S125, n_mul, FM_blanks hn (t := t) (a := a + 1) ha, ↓lm1, n_ofN, l0, l1, l2, l3, l4, l5, l6, l7, l8, l10, l20, l47, l80, l100, l127, l200, l400, l600, l800, l1000, l1200, l1206, l1210, l1222, n_add, n_clamp, n_gd, n_le_t, n_le_f, n_lt_t, n_lt_f, n_eq_t, n_eq_f, n_no, n_on, n_oo, n_olt, n_nlo, n_ole, Option.bind_some, Option.bind_none, Nat.zero_add, if_true, if_false, y1, y2] at ye ⊢
    simp only [ye, Option.bind_some]
  · have := nfe z
    omega
  · have z0 := (nfe z).1
    have q2 := nf2 z0
    have q1 := nf1 q2.2
    refine hC.push (fun j hj => pk_un hj) (fun j hj => pk_un hj) (fun j hj => pk_un hj) (fun j _ => rfl) (fun m hm => by simp (disch := omega) only [pk_un]) ?_
    simp (disch := omega) only [pk_us, pk_un, hk, q1.1, q2.1]
    simp
theorem cmd_none {t letters : Nat → Int32} {n : Nat} (hn : n ≤ 80) (hl : ∀ j, j < n → letters j = t j) {a i : Nat} (ha : a < n) (hi : i < 40) (cmds : Int32) (K F S T C : Nat → Int32) (h99 : ¬ lt t n a = 99) (h102 : ¬ lt t n a = 102) (h110 : ¬ lt t n a = 110) (h112 : ¬ lt t n a = 112) (h114 : ¬ lt t n a = 114) (h117 : ¬ lt t n a = 117) (h119 : ¬ lt t n a = 119) : Cmd t letters n a i cmds K F S T C := by
  have P0 : PS t n (rf (eO none) a) a a := ⟨by omega, by omega, fun z => absurd z (rf_ne (by omega))⟩
  have hne := rf_ne (f := eO none) (q := a) (by omega)
  obtain ⟨fe, pe, ae, xe, ye, Pe, lee, nfe⟩ := tok_end hn hl P0
  have hfe0 : some (nI a, rf (eO none) a) = some (nI ae, fe) := by
    rw [← ye, if_neg hne, FM_fails, rf_of hne]
    rfl
  have hfe : rf (eO none) a = fe := (Prod.mk.inj (Option.some.inj hfe0)).2
  subst hfe
  refine ⟨_, pe, a, nI i, upd K i (lt t n a), F, S, T, C, ?_, ?_, ⟨Pe.1, by omega, fun z => absurd z hne⟩, fun z => absurd z hne⟩
  · simp (disch := omega) only [FX5_readCommand, FX_letter hn hl (Nat.le_of_lt ha), if_neg h99, if_neg h102, if_neg h110, if_neg h112, if_neg h114, if_neg h117, if_neg h119, ↓lm1, n_ofN, l0, l1, l2, l3, l4, l5, l6, l7, l8, l10, l20, l47, l80, l100, l127, l200, l400, l600, l800, l1000, l1200, l1206, l1210, l1222, n_add, n_clamp, n_gd, n_le_t, n_le_f, n_lt_t, n_lt_f, n_eq_t, n_eq_f, n_no, n_on, n_oo, n_olt, n_nlo, n_ole, Option.bind_some, Option.bind_none, Nat.zero_add, if_true, if_false, n_sub, Nat.add_sub_cancel, FX_refuse, xe]
  · simp (disch := omega) only [FX7_reads, FM_next hn (Nat.le_of_lt ha), FM_fails, if_neg h99, if_neg h102, if_neg h110, if_neg h112, if_neg h114, if_neg h117, if_neg h119, ↓lm1, n_ofN, l0, l1, l2, l3, l4, l5, l6, l7, l8, l10, l20, l47, l80, l100, l127, l200, l400, l600, l800, l1000, l1200, l1206, l1210, l1222, n_add, n_clamp, n_gd, n_le_t, n_le_f, n_lt_t, n_lt_f, n_eq_t, n_eq_f, n_no, n_on, n_oo, n_olt, n_nlo, n_ole, Option.bind_some, Option.bind_none, Nat.zero_add, if_true, if_false]
theorem cmd_all {t letters : Nat → Int32} {n : Nat} (hn : n ≤ 80) (hl : ∀ j, j < n → letters j = t j) {a i : Nat} (ha : a < n) (hi : i < 40) (cmds : Int32) (K F S T C : Nat → Int32) : Cmd t letters n a i cmds K F S T C := by
  by_cases h99 : lt t n a = 99
  · exact cmd_99 hn hl ha hi cmds K F S T C h99
  by_cases h102 : lt t n a = 102
  · exact cmd_102 hn hl ha hi cmds K F S T C h102
  by_cases h110 : lt t n a = 110
  · exact cmd_110 hn hl ha hi cmds K F S T C h110
  by_cases h112 : lt t n a = 112
  · exact cmd_112 hn hl ha hi cmds K F S T C h112
  by_cases h114 : lt t n a = 114
  · exact cmd_114 hn hl ha hi cmds K F S T C h114
  by_cases h117 : lt t n a = 117
  · exact cmd_117 hn hl ha hi cmds K F S T C h117
  by_cases h119 : lt t n a = 119
  · exact cmd_119 hn hl ha hi cmds K F S T C h119
  exact cmd_none hn hl ha hi cmds K F S T C h99 h102 h110 h112 h114 h117 h119
