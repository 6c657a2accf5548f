/-! The judgement G: 'from this world, these locals, this place and this stack the method comes to its end'. G is opaque in every proof; g_OK says what it is. -/
abbrev g_ty (cI cZ cH : ClassId) : List (ClassId × FieldType) := [(cI, .int), (cZ, .boolean), (cH, .object RX1)]
abbrev g_G : Type := Nat → Nat → va_W → List (Nat × Value) → Nat → List Value → Prop
def g_nest : List (Nat × MethodName) := [(11, yX1_init), (26, yX0_init), (33, yX3_init), (40, yX4_init), (47, yX2_init), (54, yX5_init)]
def g_N (U : State) : Prop := ∀ q ∈ g_nest, va_Nw (.methodLinkNest RX6 q.1 q.2 RX6) U
def g_K (D : va_G) (cI cZ cH : ClassId) (U : State) : Prop := va_K D vwCl (g_ty cI cZ cH) U ∧ va_AO RX1 U ∧ g_N U
theorem g_K.moved {D : va_G} {cI cZ cH : ClassId} {s U : State} (h : g_K D cI cZ cH s) (hW : s.WarmedH U.vm) : g_K D cI cZ cH U := ⟨va_K.moved hW.alike h.1, va_AO.moved hW.alike h.2.1, fun q hq => va_Nw.warmM hW (h.2.2 q hq)⟩
abbrev g_Pc (D : va_G) (cI cZ cH : ClassId) (av : List Value) (wc : va_W) (sz : Nat) : Array Value → State → Prop := va_Pc av (fun U => U.heap.size = sz ∧ va_P D vwCl wc U.heap ∧ g_K D cI cZ cH U ∧ va_D (fun _ => True) wc)
def g_Qc (D : va_G) (cI cZ cH : ClassId) (wc : va_W) (sz : Nat) (Tm : Option Value → va_W → Prop) : Array Value → State → Outcome → State → Prop := fun _ st o t => (∃ (v : Option Value) (w1 : va_W), o = .returned v ∧ Tm v w1 ∧ va_P D vwCl w1 t.heap ∧ g_K D cI cZ cH t ∧ va_D (va_A wc sz) w1) ∧ va_F (va_A wc sz) st t
/-- the contract of a method: from the world wc and the arguments av it returns v in a world w1 with Tm v w1 -/
def g_CM (y : MethodName) (ws : List Cond) (rm : Room) (D : va_G) (cI cZ cH : ClassId) (av : List Value) (wc : va_W) (mc ms : Nat) (Tm : Option Value → va_W → Prop) : Prop := ∀ (l : Launch) (sz : Nat), Met l y ws rm (g_Pc D cI cZ cH av wc sz) (g_Qc D cI cZ cH wc sz Tm) mc ms (va_A wc sz)
def g_Tm (v0 : Option Value) (w0 : va_W) : Option Value → va_W → Prop := fun v w => v = v0 ∧ w = w0
def g_OK (G : g_G) (cc : ByteArray) (nL : Nat) (own mn : String) (Ts : List Cond) (R : Room) (D : va_G) (cI cZ cH : ClassId) : Prop :=
  ∃ (p : Program) (l : Launch) (e : Env) (s : State) (m : MethodId) (args : Array Value) (below : List Frame) (meth : Method) (c : Code) (A : Nat → Prop) (H0 : Heap) (Q : State → Prop),
    (G = fun k n ws lv pc st => ∀ (H : Heap) (locs : List Loc) (ls : Array Slot), va_P D vwCl ws H → va_D A ws → va_S A H0 H locs → lv_has ls nL lv → W p l e R s m args below meth c H locs k n Q (F0 m pc ls st)) ∧
    p.tables.exec = Jvm.exec ∧ c.code = cc ∧ c.maxLocals = nL ∧ s.vm.findClass own = some m.cls ∧ (∀ w ∈ Ts, w.before args s = true) ∧ meth.name = mn ∧ meth.locks = false ∧ g_K D cI cZ cH s ∧ ∀ q : Nat, H0.size ≤ q → A q
def g_Rt (G : g_G) (cc : ByteArray) (ret : Option FieldType) (mc ms : Nat) (Tm : Option Value → va_W → Prop) : Prop :=
  (∀ (k n : Nat) (ws : va_W) (lv : List (Nat × Value)) (pc : Nat) (v : Int32) (ty : FieldType), ret = some ty → narrow ty (.int v) = .int v → decode cc pc = .ok (.ireturn, 1) → Tm (some (.int v)) ws → k ≤ mc → n ≤ ms → G k n ws lv pc [.int v]) ∧
  (∀ (k n : Nat) (ws : va_W) (lv : List (Nat × Value)) (pc : Nat) (v : Int64), ret = some .long → decode cc pc = .ok (.lreturn, 1) → Tm (some (.long v)) ws → k ≤ mc → n ≤ ms → G k n ws lv pc [.long v]) ∧
  (∀ (k n : Nat) (ws : va_W) (lv : List (Nat × Value)) (pc : Nat), ret = none → decode cc pc = .ok (.return_, 1) → Tm none ws → k ≤ mc → n ≤ ms → G k n ws lv pc [])
set_option maxHeartbeats 4000000 in
theorem g_met {y : MethodName} {ws ws' : List Cond} {cc : ByteArray} {maxL : Nat} {ret : Option FieldType} {rm : Room} {D : va_G} {cI cZ cH : ClassId} {av : List Value} {wc : va_W} {mc ms : Nat} {Tm : Option Value → va_W → Prop}
    {own mn : String} (ho : y.cls = own) (hmn0 : y.name = mn) (hy : plainName y.cls = true) (hw : ws = Cond.code y cc maxL ret :: ws') (hlen : (lg_sl av).length ≤ maxL)
    (body : ∀ G : g_G, g_OK G cc maxL own mn ws rm D cI cZ cH → g_Rt G cc ret mc ms Tm → G 0 0 wc (lv_args 0 av) 0 []) : g_CM y ws rm D cI cZ cH av wc mc ms Tm := by
  subst ho; subst hmn0
  intro l sz
  refine Met.ofW (cc := cc) (maxL := maxL) (ret := ret) hy hw ?_
  intro p e s m args below meth c s₁ B hml hv
  obtain ⟨rfl, hsz, hP, hK, hD0⟩ := hv
  have hx := B.exec
  have hb := B.bytes
  have hr := B.returns
  have hts := atoms_spec (ws := ws) B.pre
  have hown : s.vm.findClass y.cls = some m.cls := findClass_of_methodNamed B.named
  have hlocks := B.notSynchronized
  have hin : meth.name = y.name := (name_of_methodNamed B.named B.method).1
  subst hsz
  have hD := hD0.self (sz := s.heap.size)
  have hl := lv_entry av (n := maxL) hlen
  rw [lg_entry_eq]
  have key := body (fun k n ws lv pc st => ∀ (H : Heap) (locs : List Loc) (ls : Array Slot), va_P D vwCl ws H → va_D (va_A wc s.heap.size) ws → va_S (va_A wc s.heap.size) s.heap H locs → lv_has ls maxL lv → W p l e rm s m av.toArray below meth c H locs k n (MQ below (g_Qc D cI cZ cH wc s.heap.size Tm) av.toArray s mc ms (va_A wc s.heap.size)) (F0 m pc ls st))
    ⟨p, l, e, s, m, av.toArray, below, meth, c, va_A wc s.heap.size, s.heap, _, rfl, hx, hb, hml, hown, hts, hin, hlocks, hK, fun q h => Or.inr h⟩
    ⟨fun k n ws lv pc v ty h1 h2 h3 h4 h5 h6 H locs ls hP hD hS hl => W.widen h5 h6 (W.zret hx hb (hr.trans h1) h2 (fun t ht hW => ⟨⟨_, ws, rfl, h4, by rw [ht]; exact hP, hK.moved hW, hD⟩, hS.F ht⟩) hS.2.2 h3 hlocks),
     fun k n ws lv pc v h1 h3 h4 h5 h6 H locs ls hP hD hS hl => W.widen h5 h6 (W.lret hx hb (hr.trans h1) (fun t ht hW => ⟨⟨_, ws, rfl, h4, by rw [ht]; exact hP, hK.moved hW, hD⟩, hS.F ht⟩) hS.2.2 h3 hlocks),
     fun k n ws lv pc h1 h3 h4 h5 h6 H locs ls hP hD hS hl => W.widen h5 h6 (W.vret hx hb (hr.trans h1) (fun t ht hW => ⟨⟨_, ws, rfl, h4, by rw [ht]; exact hP, hK.moved hW, hD⟩, hS.F ht⟩) hS.2.2 h3 hlocks)⟩
  exact key s.heap [] _ hP hD va_S.rf hl
/-! cells of a callee put back in their places -/
def g_pk : List Nat → va_W → Nat → Nat × va_E → Nat × va_E
  | i :: is, q :: qs, k, d => cond (Nat.beq i k) q (g_pk is qs k d)
  | _, _, _, d => d
def g_up (is : List Nat) (w : va_W) : Nat → va_W → va_W
  | _, [] => []
  | k, d :: ds => g_pk is w k d :: g_up is w (k + 1) ds
theorem g_pk_c : ∀ (is : List Nat) (w : va_W) (k : Nat) (d : Nat × va_E), is.length = w.length → (∃ j : Nat, is[j]? = some k ∧ w[j]? = some (g_pk is w k d)) ∨ (g_pk is w k d = d ∧ k ∉ is)
  | [], [], k, d, _ => Or.inr ⟨rfl, List.not_mem_nil⟩
  | i :: is, q :: qs, k, d, h => by
    by_cases hb : i = k
    · subst hb
      have he : g_pk (i :: is) (q :: qs) i d = q := by simp [g_pk]
      exact Or.inl ⟨0, rfl, by rw [he]; rfl⟩
    · have hbq : Nat.beq i k = false := by
        cases h : Nat.beq i k with
        | false => rfl
        | true => exact absurd (Nat.eq_of_beq_eq_true h) hb
      have he : g_pk (i :: is) (q :: qs) k d = g_pk is qs k d := by simp [g_pk, hbq]
      rw [he]
      rcases g_pk_c is qs k d (by simpa using h) with ⟨j, h1, h2⟩ | ⟨h1, h2⟩
      · exact Or.inl ⟨j + 1, by simpa using h1, by simpa using h2⟩
      · exact Or.inr ⟨h1, fun hm => by rcases List.mem_cons.mp hm with z | z; exact hb z.symm; exact h2 z⟩
theorem g_up_at (is : List Nat) (w : va_W) : ∀ (ws : va_W) (k0 k : Nat), (g_up is w k0 ws)[k]? = (ws[k]?).map (fun d => g_pk is w (k0 + k) d)
  | [], k0, k => by simp [g_up]
  | d :: ds, k0, 0 => by simp [g_up]
  | d :: ds, k0, k + 1 => by
    have h := g_up_at is w ds (k0 + 1) k
    simp only [g_up, List.getElem?_cons_succ, h]
    rw [show k0 + 1 + k = k0 + (k + 1) by omega]
theorem g_D_adr {A : Nat → Prop} {ws ws' : va_W} (h : va_D A ws) (ha : ∀ (k : Nat) (q : Nat × va_E), ws'[k]? = some q → ∃ d, ws[k]? = some d ∧ d.1 = q.1) : va_D A ws' := by
  refine ⟨fun i j x y hi hj hxy => ?_, fun k q hk => ?_⟩
  · obtain ⟨x0, h1, h2⟩ := ha i x hi
    obtain ⟨y0, h3, h4⟩ := ha j y hj
    exact h.1 i j x0 y0 h1 h3 (h2.trans (hxy.trans h4.symm))
  · obtain ⟨q0, h1, h2⟩ := ha k q hk
    rw [← h2]
    exact h.2 k q0 h1
theorem g_join {A : Nat → Prop} {D : va_G} {cl : List vw_C} {ws wc w1 : va_W} {H H1 : Heap} (hP : va_P D cl ws H) (hD : va_D A ws) (isC  : List Nat) (hC : isC.map (fun i => ws[i]?) = wc.map some) (had : w1.map (fun q => q.1) = wc.map (fun q => q.1))
    (hk : ∀ q : Nat, q < H.size → ¬ va_A wc H.size q → H1[q]? = H[q]?) (hP1 : va_P D cl w1 H1) : va_P D cl (g_up isC w1 0 ws) H1 ∧ va_D A (g_up isC w1 0 ws) := by
  have hl1 : w1.length = wc.length := by simpa using congrArg List.length had
  have hl2 : isC.length = wc.length := by simpa using congrArg List.length hC
  have hlen : isC.length = w1.length := hl2.trans hl1.symm
  have atC : ∀ (j k : Nat), isC[j]? = some k → ∃ x, wc[j]? = some x ∧ ws[k]? = some x := by
    intro j k hj
    have h1 : (isC.map (fun i => ws[i]?))[j]? = (wc.map some)[j]? := by rw [hC]
    rw [List.getElem?_map, List.getElem?_map, hj] at h1
    cases hw : wc[j]? with
    | none => rw [hw] at h1; cases h1
    | some x => rw [hw] at h1; exact ⟨x, rfl, Option.some.inj h1⟩
  have key : ∀ (k : Nat) (q : Nat × va_E), (g_up isC w1 0 ws)[k]? = some q → ∃ d, ws[k]? = some d ∧ d.1 = q.1 ∧ va_at D cl q H1 := by
    intro k q hq
    rw [g_up_at, Nat.zero_add] at hq
    cases hd : ws[k]? with
    | none => rw [hd] at hq; cases hq
    | some d =>
      rw [hd] at hq
      have hq : g_pk isC w1 k d = q := Option.some.inj hq
      refine ⟨d, rfl, ?_⟩
      rcases g_pk_c isC w1 k d hlen with ⟨j, h1, h2⟩ | ⟨h1, h2⟩
      · rw [hq] at h2
        obtain ⟨x, h3, h4⟩ := atC j k h1
        have h5 : (w1.map (fun q => q.1))[j]? = (wc.map (fun q => q.1))[j]? := by rw [had]
        rw [List.getElem?_map, List.getElem?_map, h2, h3] at h5
        have hxd : x = d := Option.some.inj (h4.symm.trans hd)
        exact ⟨by rw [← hxd]; exact (Option.some.inj h5).symm, hP1 j q h2⟩
      · have hqd : d = q := h1.symm.trans hq
        subst hqd
        refine ⟨rfl, (hP k d hd).kept (hk d.1 (hP k d hd).lt (fun h => ?_))⟩
        rcases h with ⟨j, e, h⟩ | h
        · have h6 : (isC.map (fun i => ws[i]?))[j]? = (wc.map some)[j]? := by rw [hC]
          rw [List.getElem?_map, List.getElem?_map, h] at h6
          cases hi : isC[j]? with
          | none => rw [hi] at h6; cases h6
          | some i =>
            rw [hi] at h6
            have h7 : ws[i]? = some (d.1, e) := Option.some.inj h6
            have h8 := hD.1 i k _ _ h7 hd rfl
            subst h8
            exact h2 (List.mem_of_getElem? hi)
        · have := (hP k d hd).lt
          omega
  exact ⟨fun k q hq => (key k q hq).choose_spec.2.2, g_D_adr hD (fun k q hq => ⟨(key k q hq).choose, (key k q hq).choose_spec.1, (key k q hq).choose_spec.2.1⟩)⟩
theorem g_blind {D : va_G} {cI cZ cH : ClassId} {av : List Value} {wc : va_W} {sz : Nat} : FrameBlind (g_Pc D cI cZ cH av wc sz) := fun a U g mk q => by
  obtain ⟨q0, q1, qP, qK, qD⟩ := q
  exact ⟨q0, q1, qP, ⟨va_K.moved (u := U) (U := U.calling g mk a) (Vm.Alike.refl U.vm) qK.1, va_AO.moved (u := U) (U := U.calling g mk a) (Vm.Alike.refl U.vm) qK.2.1, fun x hx => va_Nw.same (u := U) (U := U.calling g mk a) rfl rfl (qK.2.2 x hx)⟩, qD⟩
theorem g_cwS {R : Room} {s : State} {args : Array Value} {Ts ws ws' : List Cond} {y : MethodName} {bytes : ByteArray} {maxL index mc ms : Nat} {ret : Option FieldType} {own : String} {rm : Room} (n : Nat) (ht : ∀ w ∈ Ts, w.before args s = true) (hT : GoodIn Ts (va_wsS own index y ws)) (hw : ws = Cond.code y bytes maxL ret :: ws') (hrc : rm.cells = mc) (hrs : rm.slots = ms)
    (hd : y.cls ≠ "java/lang/invoke/MethodHandle" ∧ y.cls ≠ "java/lang/invoke/VarHandle" ∧ (parseMethodDescriptor y.desc).map (fun d => d.parameters.length) = some n) (hR : rm.frames + 1 ≤ R.frames ∧ 8 + (maxL + 11) + rm.locals ≤ R.locals) :
    CallB R s args own index y bytes maxL ret ws rm mc ms n ∧ (Cond.static y).before args s = true := by
  have ok : ∀ w ∈ va_wsS own index y ws, w.before args s = true := fun w h => ht w (hT w h).1
  exact ⟨callB_of n ht (fun w h => hT w (by unfold va_wsS; exact List.mem_append_right _ h)) hw hrc hrs (ok _ (by simp [va_wsS])) (ok _ (by simp [va_wsS])) hd hR, ok _ (by simp [va_wsS])⟩
section GA
variable {p : Program} {l : Launch} {e : Env} {R : Room} {s : State} {m : MethodId} {args : Array Value} {below : List Frame} {meth : Method} {c : Code} {H : Heap} {locs : List Loc} {k n : Nat} {Q : State → Prop} {pc : Nat} {ls : Array Slot} {rest st0 : List Value} {a : Array Value} {A : Nat → Prop} {H0 : Heap} {mc ms : Nat} {D : va_G} {cI cZ cH : ClassId} {wc : va_W} {Tm : Option Value → va_W → Prop}
theorem g_after (hr : va_Run p l e R s m args below meth c H locs k n mc ms (F0 m pc ls st0) rest (g_Qc D cI cZ cH wc H.size Tm a) (va_A wc H.size)) (hS : va_S A H0 H locs) (hF : ∀ q, va_A wc H.size q → A q)
    (kk : ∀ (v : Option Value) (w1 : va_W) (H1 : Heap) (locs1 : List Loc), Tm v w1 → va_P D vwCl w1 H1 → va_D (va_A wc H.size) w1 → (∀ q : Nat, q < H.size → ¬ va_A wc H.size q → H1[q]? = H[q]?) → va_S A H0 H1 locs1 → W p l e R s m args below meth c H1 locs1 (k + mc) (n + ms) Q (F0 m (pc + 3) ls (v.toList ++ rest))) : W p l e R s m args below meth c H locs k n Q (F0 m pc ls st0) := by
  intro T hT X
  obtain ⟨v, st₀, t, T', L, h0, X', hL, e1, e2, ⟨⟨v', w1, hv, hp, hPw, hKw, hDw⟩, hz, hk⟩, st⟩ := hr T hT X
  cases hv
  rw [h0] at hz hk
  obtain ⟨t2, a1, b1⟩ := kk v w1 T'.heap (locs ++ L) hp (by rw [e1]; exact hPw) hDw (fun q h1 h2 => by rw [e1]; exact hk q h1 h2)
    ⟨Nat.le_trans hS.1 (by rw [e1]; exact hz), fun q h1 h2 => by rw [e1, hk q (Nat.lt_of_lt_of_le h1 hS.1) (fun z => h2 (hF q z))]; exact hS.2.1 q h1 h2, fun q hq => by
      rcases List.mem_append.mp hq with h | h
      · exact hS.2.2 q h
      · exact hF _ (hL q h)⟩ T' rfl X'
  exact ⟨t2, st t2 a1, b1⟩
end GA
abbrev oX0 (a : Nat) (f0 : Nat) (f1 : Nat) (f2 : Int32) (f3 : Int32) (f4 : Int32) (f5 : Int32) : Nat × va_E := (a, .inr (0, [.ref f0, .ref f1, .int f2, .int f3, .int f4, .int f5]))
abbrev oX1 (a : Nat) (f0 : Int32) (f1 : Int32) (f2 : Int32) (f3 : Int32) (f4 : Int32) (f5 : Nat) (f6 : Nat) (f7 : Nat) (f8 : Nat) (f9 : Nat) (f10 : Nat) (f11 : Nat) (f12 : Nat) (f13 : Nat) (f14 : Nat) : Nat × va_E := (a, .inr (1, [.int f0, .int f1, .int f2, .int f3, .int f4, .ref f5, .ref f6, .ref f7, .ref f8, .ref f9, .ref f10, .ref f11, .ref f12, .ref f13, .ref f14]))
abbrev oX2 (a : Nat) (f0 : Nat) : Nat × va_E := (a, .inr (2, [.ref f0]))
abbrev oX3 (a : Nat) (f0 : Nat) (f1 : Nat) (f2 : Int32) : Nat × va_E := (a, .inr (3, [.ref f0, .ref f1, .int f2]))
abbrev oX4 (a : Nat) (f0 : Nat) : Nat × va_E := (a, .inr (4, [.ref f0]))
abbrev oX5 (a : Nat) (f0 : Nat) (f1 : Int32) (f2 : Nat) (f3 : Nat) (f4 : Nat) (f5 : Nat) (f6 : Int32) (f7 : Int32) (f8 : Int32) : Nat × va_E := (a, .inr (5, [.ref f0, .int f1, .ref f2, .ref f3, .ref f4, .ref f5, .int f6, .int f7, .int f8]))
abbrev oX6 (a : Nat) (f0 : Nat) (f1 : Nat) (f2 : Nat) (f3 : Nat) (f4 : Nat) (f5 : Nat) (f6 : Nat) (f7 : Int32) : Nat × va_E := (a, .inr (6, [.ref f0, .ref f1, .ref f2, .ref f3, .ref f4, .ref f5, .ref f6, .int f7]))
abbrev oX7 (a : Nat) (f0 : Nat) (f1 : Nat) (f2 : Nat) (f3 : Nat) (f4 : Nat) (f5 : Int32) (f6 : Int32) (f7 : Nat) (f8 : Nat) (f9 : Nat) (f10 : Int32) (f11 : Int32) (f12 : Int32) (f13 : Nat) (f14 : Int32) (f15 : Int32) (f16 : Int32) (f17 : Int64) : Nat × va_E := (a, .inr (7, [.ref f0, .ref f1, .ref f2, .ref f3, .ref f4, .int f5, .int f6, .ref f7, .ref f8, .ref f9, .int f10, .int f11, .int f12, .ref f13, .int f14, .int f15, .int f16, .long f17]))
abbrev oI (a : Nat) (c : ClassId) (n : Nat) (f : Nat → Int32) : Nat × va_E := (a, .inl (c, n, .inl f))
abbrev oZ (a : Nat) (c : ClassId) (n : Nat) (f : Nat → Int32) : Nat × va_E := (a, .inl (c, n, .inl f))
theorem g_vi {i : Int32} {n : Nat} (h : g_in i n = true) : vp_in i n := by
  simp only [g_in, Bool.and_eq_true, decide_eq_true_eq] at h
  rintro (z | z)
  · exact absurd (Int32.lt_iff_toInt_lt.mp z) (Int.not_lt.mpr (Int32.le_iff_toInt_le.mp h.1))
  · omega
theorem g_cpv {sp dp z : Int32} {n0 n1 : Nat} (h : g_cpin sp dp z n0 n1 = true) : ¬ sp < 0 ∧ ¬ dp < 0 ∧ ¬ z < 0 ∧ sp.toNatClampNeg + z.toNatClampNeg ≤ n0 ∧ dp.toNatClampNeg + z.toNatClampNeg ≤ n1 := by
  simp only [g_cpin, Bool.and_eq_true, decide_eq_true_eq] at h
  exact ⟨h.1.1.1.1, h.1.1.1.2, h.1.1.2, h.1.2, h.2⟩
theorem g_ts {lo hi : Int} (x : Int32) : (x.toInt < lo ∨ hi < x.toInt) ∨ (lo ≤ x.toInt ∧ x.toInt ≤ hi) := by omega
theorem g_nb {r : Int32} (h : r = 0 ∨ r = 1) : narrow .boolean (.int r) = .int r := by rcases h with rfl | rfl <;> rfl
theorem g_sw0_6 (x : Int32) (h8 : 0 ≤ x.toInt) (h9 : x.toInt ≤ 6) : x = (0 : Int32) ∨ x = (1 : Int32) ∨ x = (2 : Int32) ∨ x = (3 : Int32) ∨ x = (4 : Int32) ∨ x = (5 : Int32) ∨ x = (6 : Int32) := by
  have h : x.toInt = 0 ∨ x.toInt = 1 ∨ x.toInt = 2 ∨ x.toInt = 3 ∨ x.toInt = 4 ∨ x.toInt = 5 ∨ x.toInt = 6 := by omega
  rcases h with h | h | h | h | h | h | h
  · exact Or.inl (Int32.toInt_inj.mp (h.trans (by decide +kernel)))
  · exact Or.inr (Or.inl (Int32.toInt_inj.mp (h.trans (by decide +kernel))))
  · exact Or.inr (Or.inr (Or.inl (Int32.toInt_inj.mp (h.trans (by decide +kernel)))))
  · exact Or.inr (Or.inr (Or.inr (Or.inl (Int32.toInt_inj.mp (h.trans (by decide +kernel))))))
  · exact Or.inr (Or.inr (Or.inr (Or.inr (Or.inl (Int32.toInt_inj.mp (h.trans (by decide +kernel)))))))
  · exact Or.inr (Or.inr (Or.inr (Or.inr (Or.inr (Or.inl (Int32.toInt_inj.mp (h.trans (by decide +kernel))))))))
  · exact Or.inr (Or.inr (Or.inr (Or.inr (Or.inr (Or.inr (Int32.toInt_inj.mp (h.trans (by decide +kernel))))))))
theorem g_sw0_7 (x : Int32) (h8 : 0 ≤ x.toInt) (h9 : x.toInt ≤ 7) : x = (0 : Int32) ∨ x = (1 : Int32) ∨ x = (2 : Int32) ∨ x = (3 : Int32) ∨ x = (4 : Int32) ∨ x = (5 : Int32) ∨ x = (6 : Int32) ∨ x = (7 : Int32) := by
  have h : x.toInt = 0 ∨ x.toInt = 1 ∨ x.toInt = 2 ∨ x.toInt = 3 ∨ x.toInt = 4 ∨ x.toInt = 5 ∨ x.toInt = 6 ∨ x.toInt = 7 := by omega
  rcases h with h | h | h | h | h | h | h | h
  · exact Or.inl (Int32.toInt_inj.mp (h.trans (by decide +kernel)))
  · exact Or.inr (Or.inl (Int32.toInt_inj.mp (h.trans (by decide +kernel))))
  · exact Or.inr (Or.inr (Or.inl (Int32.toInt_inj.mp (h.trans (by decide +kernel)))))
  · exact Or.inr (Or.inr (Or.inr (Or.inl (Int32.toInt_inj.mp (h.trans (by decide +kernel))))))
  · exact Or.inr (Or.inr (Or.inr (Or.inr (Or.inl (Int32.toInt_inj.mp (h.trans (by decide +kernel)))))))
  · exact Or.inr (Or.inr (Or.inr (Or.inr (Or.inr (Or.inl (Int32.toInt_inj.mp (h.trans (by decide +kernel))))))))
  · exact Or.inr (Or.inr (Or.inr (Or.inr (Or.inr (Or.inr (Or.inl (Int32.toInt_inj.mp (h.trans (by decide +kernel)))))))))
  · exact Or.inr (Or.inr (Or.inr (Or.inr (Or.inr (Or.inr (Or.inr (Int32.toInt_inj.mp (h.trans (by decide +kernel)))))))))
theorem g_sw99_119 (x : Int32) (h8 : 99 ≤ x.toInt) (h9 : x.toInt ≤ 119) : x = (99 : Int32) ∨ x = (100 : Int32) ∨ x = (101 : Int32) ∨ x = (102 : Int32) ∨ x = (103 : Int32) ∨ x = (104 : Int32) ∨ x = (105 : Int32) ∨ x = (106 : Int32) ∨ x = (107 : Int32) ∨ x = (108 : Int32) ∨ x = (109 : Int32) ∨ x = (110 : Int32) ∨ x = (111 : Int32) ∨ x = (112 : Int32) ∨ x = (113 : Int32) ∨ x = (114 : Int32) ∨ x = (115 : Int32) ∨ x = (116 : Int32) ∨ x = (117 : Int32) ∨ x = (118 : Int32) ∨ x = (119 : Int32) := by
  have h : x.toInt = 99 ∨ x.toInt = 100 ∨ x.toInt = 101 ∨ x.toInt = 102 ∨ x.toInt = 103 ∨ x.toInt = 104 ∨ x.toInt = 105 ∨ x.toInt = 106 ∨ x.toInt = 107 ∨ x.toInt = 108 ∨ x.toInt = 109 ∨ x.toInt = 110 ∨ x.toInt = 111 ∨ x.toInt = 112 ∨ x.toInt = 113 ∨ x.toInt = 114 ∨ x.toInt = 115 ∨ x.toInt = 116 ∨ x.toInt = 117 ∨ x.toInt = 118 ∨ x.toInt = 119 := by omega
  rcases h with h | h | h | h | h | h | h | h | h | h | h | h | h | h | h | h | h | h | h | h | h
  · exact Or.inl (Int32.toInt_inj.mp (h.trans (by decide +kernel)))
  · exact Or.inr (Or.inl (Int32.toInt_inj.mp (h.trans (by decide +kernel))))
  · exact Or.inr (Or.inr (Or.inl (Int32.toInt_inj.mp (h.trans (by decide +kernel)))))
  · exact Or.inr (Or.inr (Or.inr (Or.inl (Int32.toInt_inj.mp (h.trans (by decide +kernel))))))
  · exact Or.inr (Or.inr (Or.inr (Or.inr (Or.inl (Int32.toInt_inj.mp (h.trans (by decide +kernel)))))))
  · exact Or.inr (Or.inr (Or.inr (Or.inr (Or.inr (Or.inl (Int32.toInt_inj.mp (h.trans (by decide +kernel))))))))
  · exact Or.inr (Or.inr (Or.inr (Or.inr (Or.inr (Or.inr (Or.inl (Int32.toInt_inj.mp (h.trans (by decide +kernel)))))))))
  · exact Or.inr (Or.inr (Or.inr (Or.inr (Or.inr (Or.inr (Or.inr (Or.inl (Int32.toInt_inj.mp (h.trans (by decide +kernel))))))))))
  · exact Or.inr (Or.inr (Or.inr (Or.inr (Or.inr (Or.inr (Or.inr (Or.inr (Or.inl (Int32.toInt_inj.mp (h.trans (by decide +kernel)))))))))))
  · exact Or.inr (Or.inr (Or.inr (Or.inr (Or.inr (Or.inr (Or.inr (Or.inr (Or.inr (Or.inl (Int32.toInt_inj.mp (h.trans (by decide +kernel))))))))))))
  · exact Or.inr (Or.inr (Or.inr (Or.inr (Or.inr (Or.inr (Or.inr (Or.inr (Or.inr (Or.inr (Or.inl (Int32.toInt_inj.mp (h.trans (by decide +kernel)))))))))))))
  · exact Or.inr (Or.inr (Or.inr (Or.inr (Or.inr (Or.inr (Or.inr (Or.inr (Or.inr (Or.inr (Or.inr (Or.inl (Int32.toInt_inj.mp (h.trans (by decide +kernel))))))))))))))
  · exact Or.inr (Or.inr (Or.inr (Or.inr (Or.inr (Or.inr (Or.inr (Or.inr (Or.inr (Or.inr (Or.inr (Or.inr (Or.inl (Int32.toInt_inj.mp (h.trans (by decide +kernel)))))))))))))))
  · exact Or.inr (Or.inr (Or.inr (Or.inr (Or.inr (Or.inr (Or.inr (Or.inr (Or.inr (Or.inr (Or.inr (Or.inr (Or.inr (Or.inl (Int32.toInt_inj.mp (h.trans (by decide +kernel))))))))))))))))
  · exact Or.inr (Or.inr (Or.inr (Or.inr (Or.inr (Or.inr (Or.inr (Or.inr (Or.inr (Or.inr (Or.inr (Or.inr (Or.inr (Or.inr (Or.inl (Int32.toInt_inj.mp (h.trans (by decide +kernel)))))))))))))))))
  · exact Or.inr (Or.inr (Or.inr (Or.inr (Or.inr (Or.inr (Or.inr (Or.inr (Or.inr (Or.inr (Or.inr (Or.inr (Or.inr (Or.inr (Or.inr (Or.inl (Int32.toInt_inj.mp (h.trans (by decide +kernel))))))))))))))))))
  · exact Or.inr (Or.inr (Or.inr (Or.inr (Or.inr (Or.inr (Or.inr (Or.inr (Or.inr (Or.inr (Or.inr (Or.inr (Or.inr (Or.inr (Or.inr (Or.inr (Or.inl (Int32.toInt_inj.mp (h.trans (by decide +kernel)))))))))))))))))))
  · exact Or.inr (Or.inr (Or.inr (Or.inr (Or.inr (Or.inr (Or.inr (Or.inr (Or.inr (Or.inr (Or.inr (Or.inr (Or.inr (Or.inr (Or.inr (Or.inr (Or.inr (Or.inl (Int32.toInt_inj.mp (h.trans (by decide +kernel))))))))))))))))))))
  · exact Or.inr (Or.inr (Or.inr (Or.inr (Or.inr (Or.inr (Or.inr (Or.inr (Or.inr (Or.inr (Or.inr (Or.inr (Or.inr (Or.inr (Or.inr (Or.inr (Or.inr (Or.inr (Or.inl (Int32.toInt_inj.mp (h.trans (by decide +kernel)))))))))))))))))))))
  · exact Or.inr (Or.inr (Or.inr (Or.inr (Or.inr (Or.inr (Or.inr (Or.inr (Or.inr (Or.inr (Or.inr (Or.inr (Or.inr (Or.inr (Or.inr (Or.inr (Or.inr (Or.inr (Or.inr (Or.inl (Int32.toInt_inj.mp (h.trans (by decide +kernel))))))))))))))))))))))
  · exact Or.inr (Or.inr (Or.inr (Or.inr (Or.inr (Or.inr (Or.inr (Or.inr (Or.inr (Or.inr (Or.inr (Or.inr (Or.inr (Or.inr (Or.inr (Or.inr (Or.inr (Or.inr (Or.inr (Or.inr (Int32.toInt_inj.mp (h.trans (by decide +kernel))))))))))))))))))))))
theorem g_sw102_119 (x : Int32) (h8 : 102 ≤ x.toInt) (h9 : x.toInt ≤ 119) : x = (102 : Int32) ∨ x = (103 : Int32) ∨ x = (104 : Int32) ∨ x = (105 : Int32) ∨ x = (106 : Int32) ∨ x = (107 : Int32) ∨ x = (108 : Int32) ∨ x = (109 : Int32) ∨ x = (110 : Int32) ∨ x = (111 : Int32) ∨ x = (112 : Int32) ∨ x = (113 : Int32) ∨ x = (114 : Int32) ∨ x = (115 : Int32) ∨ x = (116 : Int32) ∨ x = (117 : Int32) ∨ x = (118 : Int32) ∨ x = (119 : Int32) := by
  have h : x.toInt = 102 ∨ x.toInt = 103 ∨ x.toInt = 104 ∨ x.toInt = 105 ∨ x.toInt = 106 ∨ x.toInt = 107 ∨ x.toInt = 108 ∨ x.toInt = 109 ∨ x.toInt = 110 ∨ x.toInt = 111 ∨ x.toInt = 112 ∨ x.toInt = 113 ∨ x.toInt = 114 ∨ x.toInt = 115 ∨ x.toInt = 116 ∨ x.toInt = 117 ∨ x.toInt = 118 ∨ x.toInt = 119 := by omega
  rcases h with h | h | h | h | h | h | h | h | h | h | h | h | h | h | h | h | h | h
  · exact Or.inl (Int32.toInt_inj.mp (h.trans (by decide +kernel)))
  · exact Or.inr (Or.inl (Int32.toInt_inj.mp (h.trans (by decide +kernel))))
  · exact Or.inr (Or.inr (Or.inl (Int32.toInt_inj.mp (h.trans (by decide +kernel)))))
  · exact Or.inr (Or.inr (Or.inr (Or.inl (Int32.toInt_inj.mp (h.trans (by decide +kernel))))))
  · exact Or.inr (Or.inr (Or.inr (Or.inr (Or.inl (Int32.toInt_inj.mp (h.trans (by decide +kernel)))))))
  · exact Or.inr (Or.inr (Or.inr (Or.inr (Or.inr (Or.inl (Int32.toInt_inj.mp (h.trans (by decide +kernel))))))))
  · exact Or.inr (Or.inr (Or.inr (Or.inr (Or.inr (Or.inr (Or.inl (Int32.toInt_inj.mp (h.trans (by decide +kernel)))))))))
  · exact Or.inr (Or.inr (Or.inr (Or.inr (Or.inr (Or.inr (Or.inr (Or.inl (Int32.toInt_inj.mp (h.trans (by decide +kernel))))))))))
  · exact Or.inr (Or.inr (Or.inr (Or.inr (Or.inr (Or.inr (Or.inr (Or.inr (Or.inl (Int32.toInt_inj.mp (h.trans (by decide +kernel)))))))))))
  · exact Or.inr (Or.inr (Or.inr (Or.inr (Or.inr (Or.inr (Or.inr (Or.inr (Or.inr (Or.inl (Int32.toInt_inj.mp (h.trans (by decide +kernel))))))))))))
  · exact Or.inr (Or.inr (Or.inr (Or.inr (Or.inr (Or.inr (Or.inr (Or.inr (Or.inr (Or.inr (Or.inl (Int32.toInt_inj.mp (h.trans (by decide +kernel)))))))))))))
  · exact Or.inr (Or.inr (Or.inr (Or.inr (Or.inr (Or.inr (Or.inr (Or.inr (Or.inr (Or.inr (Or.inr (Or.inl (Int32.toInt_inj.mp (h.trans (by decide +kernel))))))))))))))
  · exact Or.inr (Or.inr (Or.inr (Or.inr (Or.inr (Or.inr (Or.inr (Or.inr (Or.inr (Or.inr (Or.inr (Or.inr (Or.inl (Int32.toInt_inj.mp (h.trans (by decide +kernel)))))))))))))))
  · exact Or.inr (Or.inr (Or.inr (Or.inr (Or.inr (Or.inr (Or.inr (Or.inr (Or.inr (Or.inr (Or.inr (Or.inr (Or.inr (Or.inl (Int32.toInt_inj.mp (h.trans (by decide +kernel))))))))))))))))
  · exact Or.inr (Or.inr (Or.inr (Or.inr (Or.inr (Or.inr (Or.inr (Or.inr (Or.inr (Or.inr (Or.inr (Or.inr (Or.inr (Or.inr (Or.inl (Int32.toInt_inj.mp (h.trans (by decide +kernel)))))))))))))))))
  · exact Or.inr (Or.inr (Or.inr (Or.inr (Or.inr (Or.inr (Or.inr (Or.inr (Or.inr (Or.inr (Or.inr (Or.inr (Or.inr (Or.inr (Or.inr (Or.inl (Int32.toInt_inj.mp (h.trans (by decide +kernel))))))))))))))))))
  · exact Or.inr (Or.inr (Or.inr (Or.inr (Or.inr (Or.inr (Or.inr (Or.inr (Or.inr (Or.inr (Or.inr (Or.inr (Or.inr (Or.inr (Or.inr (Or.inr (Or.inl (Int32.toInt_inj.mp (h.trans (by decide +kernel)))))))))))))))))))
  · exact Or.inr (Or.inr (Or.inr (Or.inr (Or.inr (Or.inr (Or.inr (Or.inr (Or.inr (Or.inr (Or.inr (Or.inr (Or.inr (Or.inr (Or.inr (Or.inr (Or.inr (Int32.toInt_inj.mp (h.trans (by decide +kernel)))))))))))))))))))
section GR
variable {G : g_G} {cc : ByteArray} {nL : Nat} {own mn : String} {Ts : List Cond} {R : Room} {D : va_G} {cI cZ cH : ClassId} {k n : Nat} {ws ws' : va_W} {lv lv' : List (Nat × Value)} {pc pc' : Nat} {rest : List Value}
theorem r_iadd (X : g_OK G cc nL own mn Ts R D cI cZ cH) {x y : Int32} (hd : decode cc pc = .ok (.iadd, 1)) (hp : pc' = pc + 1) (kk : G k n ws lv pc' (.int (x + y) :: rest)) : G k n ws lv pc (.int y :: .int x :: rest) := by
  obtain ⟨p, l, e, s, m, args, below, meth, c, A, H0, Q, rfl, hx, hb, hml, hown, hts, hmn, hlk, hK, hA⟩ := X
  subst hp
  exact fun H locs ls hP hD hS hl => lv_iadd hx hb hd (kk H locs ls hP hD hS hl)
theorem r_isub (X : g_OK G cc nL own mn Ts R D cI cZ cH) {x y : Int32} (hd : decode cc pc = .ok (.isub, 1)) (hp : pc' = pc + 1) (kk : G k n ws lv pc' (.int (x - y) :: rest)) : G k n ws lv pc (.int y :: .int x :: rest) := by
  obtain ⟨p, l, e, s, m, args, below, meth, c, A, H0, Q, rfl, hx, hb, hml, hown, hts, hmn, hlk, hK, hA⟩ := X
  subst hp
  exact fun H locs ls hP hD hS hl => lv_isub hx hb hd (kk H locs ls hP hD hS hl)
theorem r_imul (X : g_OK G cc nL own mn Ts R D cI cZ cH) {x y : Int32} (hd : decode cc pc = .ok (.imul, 1)) (hp : pc' = pc + 1) (kk : G k n ws lv pc' (.int (x * y) :: rest)) : G k n ws lv pc (.int y :: .int x :: rest) := by
  obtain ⟨p, l, e, s, m, args, below, meth, c, A, H0, Q, rfl, hx, hb, hml, hown, hts, hmn, hlk, hK, hA⟩ := X
  subst hp
  exact fun H locs ls hP hD hS hl => lv_imul hx hb hd (kk H locs ls hP hD hS hl)
theorem r_iand (X : g_OK G cc nL own mn Ts R D cI cZ cH) {x y : Int32} (hd : decode cc pc = .ok (.iand, 1)) (hp : pc' = pc + 1) (kk : G k n ws lv pc' (.int (x &&& y) :: rest)) : G k n ws lv pc (.int y :: .int x :: rest) := by
  obtain ⟨p, l, e, s, m, args, below, meth, c, A, H0, Q, rfl, hx, hb, hml, hown, hts, hmn, hlk, hK, hA⟩ := X
  subst hp
  exact fun H locs ls hP hD hS hl => lv_iand hx hb hd (kk H locs ls hP hD hS hl)
theorem r_idiv (X : g_OK G cc nL own mn Ts R D cI cZ cH) {x y : Int32} (hd : decode cc pc = .ok (.idiv, 1)) (hne : ¬ y = 0) (hp : pc' = pc + 1) (kk : G k n ws lv pc' (.int (x / y) :: rest)) : G k n ws lv pc (.int y :: .int x :: rest) := by
  obtain ⟨p, l, e, s, m, args, below, meth, c, A, H0, Q, rfl, hx, hb, hml, hown, hts, hmn, hlk, hK, hA⟩ := X
  subst hp
  exact fun H locs ls hP hD hS hl => lv_idiv hx hb hd hne (kk H locs ls hP hD hS hl)
theorem r_ladd (X : g_OK G cc nL own mn Ts R D cI cZ cH) {x y : Int64} (hd : decode cc pc = .ok (.ladd, 1)) (hp : pc' = pc + 1) (kk : G k n ws lv pc' (.long (x + y) :: rest)) : G k n ws lv pc (.long y :: .long x :: rest) := by
  obtain ⟨p, l, e, s, m, args, below, meth, c, A, H0, Q, rfl, hx, hb, hml, hown, hts, hmn, hlk, hK, hA⟩ := X
  subst hp
  exact fun H locs ls hP hD hS hl => lv_ladd hx hb hd (kk H locs ls hP hD hS hl)
theorem r_lmul (X : g_OK G cc nL own mn Ts R D cI cZ cH) {x y : Int64} (hd : decode cc pc = .ok (.lmul, 1)) (hp : pc' = pc + 1) (kk : G k n ws lv pc' (.long (x * y) :: rest)) : G k n ws lv pc (.long y :: .long x :: rest) := by
  obtain ⟨p, l, e, s, m, args, below, meth, c, A, H0, Q, rfl, hx, hb, hml, hown, hts, hmn, hlk, hK, hA⟩ := X
  subst hp
  exact fun H locs ls hP hD hS hl => lv_lmul hx hb hd (kk H locs ls hP hD hS hl)
theorem r_i2l (X : g_OK G cc nL own mn Ts R D cI cZ cH) {x : Int32} (hd : decode cc pc = .ok (.i2l, 1)) (hp : pc' = pc + 1) (kk : G k n ws lv pc' (.long x.toInt64 :: rest)) : G k n ws lv pc (.int x :: rest) := by
  obtain ⟨p, l, e, s, m, args, below, meth, c, A, H0, Q, rfl, hx, hb, hml, hown, hts, hmn, hlk, hK, hA⟩ := X
  subst hp
  exact fun H locs ls hP hD hS hl => lv_i2l hx hb hd rfl (kk H locs ls hP hD hS hl)
theorem r_lcmp (X : g_OK G cc nL own mn Ts R D cI cZ cH) {x y : Int64} (hd : decode cc pc = .ok (.lcmp, 1)) (hp : pc' = pc + 1) (kk : G k n ws lv pc' (.int (lg_cmp x y) :: rest)) : G k n ws lv pc (.long y :: .long x :: rest) := by
  obtain ⟨p, l, e, s, m, args, below, meth, c, A, H0, Q, rfl, hx, hb, hml, hown, hts, hmn, hlk, hK, hA⟩ := X
  subst hp
  exact fun H locs ls hP hD hS hl => W.lcmp hx hb hd (kk H locs ls hP hD hS hl)
theorem r_iconst (X : g_OK G cc nL own mn Ts R D cI cZ cH) {z : Int} (v : Int32) (hd : decode cc pc = .ok (.iconst z, 1)) (hv : Int32.ofInt z = v) (hp : pc' = pc + 1) (kk : G k n ws lv pc' (.int v :: rest)) : G k n ws lv pc (rest) := by
  obtain ⟨p, l, e, s, m, args, below, meth, c, A, H0, Q, rfl, hx, hb, hml, hown, hts, hmn, hlk, hK, hA⟩ := X
  subst hp
  exact fun H locs ls hP hD hS hl => lv_iconst hx hb hd hv (kk H locs ls hP hD hS hl)
theorem r_bipush (X : g_OK G cc nL own mn Ts R D cI cZ cH) {z : Int} (v : Int32) (hd : decode cc pc = .ok (.bipush z, 2)) (hv : (Int8.ofInt z).toInt32 = v) (hp : pc' = pc + 2) (kk : G k n ws lv pc' (.int v :: rest)) : G k n ws lv pc (rest) := by
  obtain ⟨p, l, e, s, m, args, below, meth, c, A, H0, Q, rfl, hx, hb, hml, hown, hts, hmn, hlk, hK, hA⟩ := X
  subst hp
  exact fun H locs ls hP hD hS hl => lv_bipush hx hb hd hv (kk H locs ls hP hD hS hl)
theorem r_sipush (X : g_OK G cc nL own mn Ts R D cI cZ cH) {z : Int} (v : Int32) (hd : decode cc pc = .ok (.sipush z, 3)) (hv : (Int16.ofInt z).toInt32 = v) (hp : pc' = pc + 3) (kk : G k n ws lv pc' (.int v :: rest)) : G k n ws lv pc (rest) := by
  obtain ⟨p, l, e, s, m, args, below, meth, c, A, H0, Q, rfl, hx, hb, hml, hown, hts, hmn, hlk, hK, hA⟩ := X
  subst hp
  exact fun H locs ls hP hD hS hl => lv_sipush hx hb hd hv (kk H locs ls hP hD hS hl)
theorem r_ldc (X : g_OK G cc nL own mn Ts R D cI cZ cH) {i : Nat} {v : Int32} (hd : decode cc pc = .ok (.ldc i, 2)) (hc : Cond.constant own i v ∈ Ts) (hp : pc' = pc + 2) (kk : G k n ws lv pc' (.int v :: rest)) : G k n ws lv pc (rest) := by
  obtain ⟨p, l, e, s, m, args, below, meth, c, A, H0, Q, rfl, hx, hb, hml, hown, hts, hmn, hlk, hK, hA⟩ := X
  subst hp
  exact fun H locs ls hP hD hS hl => lv_ldc hx hb hown (hts _ hc) hd (kk H locs ls hP hD hS hl)
theorem r_ldc2 (X : g_OK G cc nL own mn Ts R D cI cZ cH) {i : Nat} {v : Int64} (hd : decode cc pc = .ok (.ldc2_w i, 3)) (hc : Cond.constantLong own i v ∈ Ts) (hp : pc' = pc + 3) (kk : G k n ws lv pc' (.long v :: rest)) : G k n ws lv pc (rest) := by
  obtain ⟨p, l, e, s, m, args, below, meth, c, A, H0, Q, rfl, hx, hb, hml, hown, hts, hmn, hlk, hK, hA⟩ := X
  subst hp
  exact fun H locs ls hP hD hS hl => lv_ldc2 hx hb hown (hts _ hc) hd (kk H locs ls hP hD hS hl)
theorem r_iload_n (X : g_OK G cc nL own mn Ts R D cI cZ cH) {j : Fin 4} {i : Nat} {x : Int32} (hd : decode cc pc = .ok (.iload_n j, 1)) (hi : (j : Nat) = i) (q : Nat) (hq : lv[q]? = some (i, .int x)) (hp : pc' = pc + 1) (kk : G k n ws lv pc' (.int x :: rest)) : G k n ws lv pc (rest) := by
  obtain ⟨p, l, e, s, m, args, below, meth, c, A, H0, Q, rfl, hx, hb, hml, hown, hts, hmn, hlk, hK, hA⟩ := X
  subst hp
  exact fun H locs ls hP hD hS hl => lv_iload_n hx hb hd hi (lv_at hl q hq) (kk H locs ls hP hD hS hl)
theorem r_aload_n (X : g_OK G cc nL own mn Ts R D cI cZ cH) {j : Fin 4} {i x : Nat} (hd : decode cc pc = .ok (.aload_n j, 1)) (hi : (j : Nat) = i) (q : Nat) (hq : lv[q]? = some (i, .ref x)) (hp : pc' = pc + 1) (kk : G k n ws lv pc' (.ref x :: rest)) : G k n ws lv pc (rest) := by
  obtain ⟨p, l, e, s, m, args, below, meth, c, A, H0, Q, rfl, hx, hb, hml, hown, hts, hmn, hlk, hK, hA⟩ := X
  subst hp
  exact fun H locs ls hP hD hS hl => lv_aload_n hx hb hd hi (lv_at hl q hq) (kk H locs ls hP hD hS hl)
theorem r_lload_n (X : g_OK G cc nL own mn Ts R D cI cZ cH) {j : Fin 4} {i : Nat} {x : Int64} (hd : decode cc pc = .ok (.lload_n j, 1)) (hi : (j : Nat) = i) (q : Nat) (hq : lv[q]? = some (i, .long x)) (hp : pc' = pc + 1) (kk : G k n ws lv pc' (.long x :: rest)) : G k n ws lv pc (rest) := by
  obtain ⟨p, l, e, s, m, args, below, meth, c, A, H0, Q, rfl, hx, hb, hml, hown, hts, hmn, hlk, hK, hA⟩ := X
  subst hp
  exact fun H locs ls hP hD hS hl => lv_lload_n hx hb hd hi (lv_at hl q hq) (kk H locs ls hP hD hS hl)
theorem r_iload (X : g_OK G cc nL own mn Ts R D cI cZ cH) {i : Nat} {x : Int32} (hd : decode cc pc = .ok (.iload i, 2)) (q : Nat) (hq : lv[q]? = some (i, .int x)) (hp : pc' = pc + 2) (kk : G k n ws lv pc' (.int x :: rest)) : G k n ws lv pc (rest) := by
  obtain ⟨p, l, e, s, m, args, below, meth, c, A, H0, Q, rfl, hx, hb, hml, hown, hts, hmn, hlk, hK, hA⟩ := X
  subst hp
  exact fun H locs ls hP hD hS hl => lv_iload hx hb hd (lv_at hl q hq) (kk H locs ls hP hD hS hl)
theorem r_lload (X : g_OK G cc nL own mn Ts R D cI cZ cH) {i : Nat} {x : Int64} (hd : decode cc pc = .ok (.lload i, 2)) (q : Nat) (hq : lv[q]? = some (i, .long x)) (hp : pc' = pc + 2) (kk : G k n ws lv pc' (.long x :: rest)) : G k n ws lv pc (rest) := by
  obtain ⟨p, l, e, s, m, args, below, meth, c, A, H0, Q, rfl, hx, hb, hml, hown, hts, hmn, hlk, hK, hA⟩ := X
  subst hp
  exact fun H locs ls hP hD hS hl => lv_lload hx hb hd (lv_at hl q hq) (kk H locs ls hP hD hS hl)
theorem r_istore_n (X : g_OK G cc nL own mn Ts R D cI cZ cH) {j : Fin 4} {i : Nat} {x : Int32} (hd : decode cc pc = .ok (.istore_n j, 1)) (hi : (j : Nat) = i) (hn : i < nL) (ks : List Nat) (hl9 : lv_pick ((i, Value.int x) :: lv.filter (fun q => !(q.1 == i) && !(q.1 + 1 == i && q.2.category == 2))) ks = lv') (hp : pc' = pc + 1) (kk : G k n ws lv' pc' rest) : G k n ws lv pc (.int x :: rest) := by
  obtain ⟨p, l, e, s, m, args, below, meth, c, A, H0, Q, rfl, hx, hb, hml, hown, hts, hmn, hlk, hK, hA⟩ := X
  subst hp
  exact fun H locs ls hP hD hS hl => lv_istore_n hx hb hd hi hl hn rfl (fun ls' hl' => kk H locs ls' hP hD hS (lv_sub hl' ks hl9))
theorem r_istore (X : g_OK G cc nL own mn Ts R D cI cZ cH) {i : Nat} {x : Int32} (hd : decode cc pc = .ok (.istore i, 2)) (hn : i < nL) (ks : List Nat) (hl9 : lv_pick ((i, Value.int x) :: lv.filter (fun q => !(q.1 == i) && !(q.1 + 1 == i && q.2.category == 2))) ks = lv') (hp : pc' = pc + 2) (kk : G k n ws lv' pc' rest) : G k n ws lv pc (.int x :: rest) := by
  obtain ⟨p, l, e, s, m, args, below, meth, c, A, H0, Q, rfl, hx, hb, hml, hown, hts, hmn, hlk, hK, hA⟩ := X
  subst hp
  exact fun H locs ls hP hD hS hl => lv_istore hx hb hd hl hn rfl (fun ls' hl' => kk H locs ls' hP hD hS (lv_sub hl' ks hl9))
theorem r_astore_n (X : g_OK G cc nL own mn Ts R D cI cZ cH) {j : Fin 4} {i : Nat} {x : Nat} (hd : decode cc pc = .ok (.astore_n j, 1)) (hi : (j : Nat) = i) (hn : i < nL) (ks : List Nat) (hl9 : lv_pick ((i, Value.ref x) :: lv.filter (fun q => !(q.1 == i) && !(q.1 + 1 == i && q.2.category == 2))) ks = lv') (hp : pc' = pc + 1) (kk : G k n ws lv' pc' rest) : G k n ws lv pc (.ref x :: rest) := by
  obtain ⟨p, l, e, s, m, args, below, meth, c, A, H0, Q, rfl, hx, hb, hml, hown, hts, hmn, hlk, hK, hA⟩ := X
  subst hp
  exact fun H locs ls hP hD hS hl => lv_astore_n hx hb hd hi hl hn rfl (fun ls' hl' => kk H locs ls' hP hD hS (lv_sub hl' ks hl9))
theorem r_lstore_n (X : g_OK G cc nL own mn Ts R D cI cZ cH) {j : Fin 4} {i : Nat} {x : Int64} (hd : decode cc pc = .ok (.lstore_n j, 1)) (hi : (j : Nat) = i) (hn : i + 1 < nL) (ks : List Nat) (hl9 : lv_pick ((i, Value.long x) :: lv.filter (fun q => !(q.1 == i) && (!(q.1 == i + 1) && !(q.1 + 1 == i && q.2.category == 2)))) ks = lv') (hp : pc' = pc + 1) (kk : G k n ws lv' pc' rest) : G k n ws lv pc (.long x :: rest) := by
  obtain ⟨p, l, e, s, m, args, below, meth, c, A, H0, Q, rfl, hx, hb, hml, hown, hts, hmn, hlk, hK, hA⟩ := X
  subst hp
  exact fun H locs ls hP hD hS hl => lv_lstore_n hx hb hd hi hl hn rfl (fun ls' hl' => kk H locs ls' hP hD hS (lv_sub hl' ks hl9))
theorem r_lstore (X : g_OK G cc nL own mn Ts R D cI cZ cH) {i : Nat} {x : Int64} (hd : decode cc pc = .ok (.lstore i, 2)) (hn : i + 1 < nL) (ks : List Nat) (hl9 : lv_pick ((i, Value.long x) :: lv.filter (fun q => !(q.1 == i) && (!(q.1 == i + 1) && !(q.1 + 1 == i && q.2.category == 2)))) ks = lv') (hp : pc' = pc + 2) (kk : G k n ws lv' pc' rest) : G k n ws lv pc (.long x :: rest) := by
  obtain ⟨p, l, e, s, m, args, below, meth, c, A, H0, Q, rfl, hx, hb, hml, hown, hts, hmn, hlk, hK, hA⟩ := X
  subst hp
  exact fun H locs ls hP hD hS hl => lv_lstore hx hb hd hl hn rfl (fun ls' hl' => kk H locs ls' hP hD hS (lv_sub hl' ks hl9))
theorem r_iinc (X : g_OK G cc nL own mn Ts R D cI cZ cH) {i : Nat} {z : Int} {x : Int32} (v : Int32) (hd : decode cc pc = .ok (.iinc i z, 3)) (q : Nat) (hq : lv[q]? = some (i, .int x)) (hv : x + Int32.ofInt z = v) (hn : i < nL) (ks : List Nat) (hl9 : lv_pick ((i, Value.int v) :: lv.filter (fun q => !(q.1 == i) && !(q.1 + 1 == i && q.2.category == 2))) ks = lv') (hp : pc' = pc + 3) (kk : G k n ws lv' pc' rest) : G k n ws lv pc rest := by
  obtain ⟨p, l, e, s, m, args, below, meth, c, A, H0, Q, rfl, hx, hb, hml, hown, hts, hmn, hlk, hK, hA⟩ := X
  subst hp
  exact fun H locs ls hP hD hS hl => lv_iinc hx hb hd hl hq hv hn rfl (fun ls' hl' => kk H locs ls' hP hD hS (lv_sub hl' ks hl9))
theorem r_sub (X : g_OK G cc nL own mn Ts R D cI cZ cH) (ks : List Nat) (hl9 : lv_pick lv ks = lv') (kk : G k n ws lv' pc rest) : G k n ws lv pc rest := by
  obtain ⟨p, l, e, s, m, args, below, meth, c, A, H0, Q, rfl, hx, hb, hml, hown, hts, hmn, hlk, hK, hA⟩ := X
  exact fun H locs ls hP hD hS hl => kk H locs ls hP hD hS (lv_sub hl ks hl9)
theorem g_fm : ∀ (is : List Nat) (ws ws' : va_W), is.map (fun i => ws[i]?) = ws'.map some → is.filterMap (fun i => ws[i]?) = ws'
  | [], ws, [], _ => rfl
  | [], ws, q :: w, h => by cases h
  | i :: is, ws, [], h => by cases h
  | i :: is, ws, q :: w, h => by
    simp only [List.map_cons, List.cons.injEq] at h
    simp only [List.filterMap_cons, h.1, g_fm is ws w h.2]
theorem r_perm (X : g_OK G cc nL own mn Ts R D cI cZ cH) (is : List Nat) (hs : is.map (fun i => ws[i]?) = ws'.map some) (hn : va_nd is = true) (kk : G k n ws' lv pc rest) : G k n ws lv pc rest := by
  obtain ⟨p, l, e, s, m, args, below, meth, c, A, H0, Q, rfl, hx, hb, hml, hown, hts, hmn, hlk, hK, hA⟩ := X
  have hf : is.filterMap (fun i => ws[i]?) = ws' := g_fm is ws ws' hs
  exact fun H locs ls hP hD hS hl => kk H locs ls (hP.sub is hf) (hD.sub is hn hs) hS hl
theorem r_widen (X : g_OK G cc nL own mn Ts R D cI cZ cH) {k' n' : Nat} (h1 : k ≤ k') (h2 : n ≤ n') (kk : G k' n' ws lv pc rest) : G k n ws lv pc rest := by
  obtain ⟨p, l, e, s, m, args, below, meth, c, A, H0, Q, rfl, hx, hb, hml, hown, hts, hmn, hlk, hK, hA⟩ := X
  exact fun H locs ls hP hD hS hl => W.widen h1 h2 (kk H locs ls hP hD hS hl)
theorem r_dup (X : g_OK G cc nL own mn Ts R D cI cZ cH) {v : Value} (hd : decode cc pc = .ok (.dup, 1)) (hv : v.category = 1) (hp : pc' = pc + 1) (kk : G k n ws lv pc' (v :: v :: rest)) : G k n ws lv pc (v :: rest) := by
  obtain ⟨p, l, e, s, m, args, below, meth, c, A, H0, Q, rfl, hx, hb, hml, hown, hts, hmn, hlk, hK, hA⟩ := X
  subst hp
  exact fun H locs ls hP hD hS hl => lv_dup hx hb hd hv (kk H locs ls hP hD hS hl)
theorem r_dup2 (X : g_OK G cc nL own mn Ts R D cI cZ cH) {va vb : Value} (hd : decode cc pc = .ok (.dup2, 1)) (hva : va.category = 1) (hvb : vb.category = 1) (hp : pc' = pc + 1) (kk : G k n ws lv pc' (va :: vb :: va :: vb :: rest)) : G k n ws lv pc (va :: vb :: rest) := by
  obtain ⟨p, l, e, s, m, args, below, meth, c, A, H0, Q, rfl, hx, hb, hml, hown, hts, hmn, hlk, hK, hA⟩ := X
  subst hp
  exact fun H locs ls hP hD hS hl => lv_dup2_11 hx hb hd hva hvb (kk H locs ls hP hD hS hl)
theorem r_goto (X : g_OK G cc nL own mn Ts R D cI cZ cH) {off : Int} (tgt : Nat) (hd : decode cc pc = .ok (.goto off, 3)) (ht : (pc : Int) + off = (tgt : Int)) (kk : G k n ws lv tgt rest) : G k n ws lv pc rest := by
  obtain ⟨p, l, e, s, m, args, below, meth, c, A, H0, Q, rfl, hx, hb, hml, hown, hts, hmn, hlk, hK, hA⟩ := X
  exact fun H locs ls hP hD hS hl => lv_goto hx hb hd ht (kk H locs ls hP hD hS hl)
theorem r_icmp_eq (X : g_OK G cc nL own mn Ts R D cI cZ cH) {off : Int} {x y : Int32} (tgt : Nat) (hd : decode cc pc = .ok (.if_icmp .eq off, 3)) (ht : (pc : Int) + off = (tgt : Int)) (hp : pc' = pc + 3) (kt : x = y → G k n ws lv tgt rest) (kf : ¬ x = y → G k n ws lv pc' rest) : G k n ws lv pc (.int y :: .int x :: rest) := by
  obtain ⟨p, l, e, s, m, args, below, meth, c, A, H0, Q, rfl, hx, hb, hml, hown, hts, hmn, hlk, hK, hA⟩ := X
  subst hp
  exact fun H locs ls hP hD hS hl => lv_icmp_eq hx hb hd ht (fun h => kt h H locs ls hP hD hS hl) (fun h => kf h H locs ls hP hD hS hl)
theorem r_if_eq (X : g_OK G cc nL own mn Ts R D cI cZ cH) {off : Int} {x : Int32} (tgt : Nat) (hd : decode cc pc = .ok (.ifCond .eq off, 3)) (ht : (pc : Int) + off = (tgt : Int)) (hp : pc' = pc + 3) (kt : x = 0 → G k n ws lv tgt rest) (kf : ¬ x = 0 → G k n ws lv pc' rest) : G k n ws lv pc (.int x :: rest) := by
  obtain ⟨p, l, e, s, m, args, below, meth, c, A, H0, Q, rfl, hx, hb, hml, hown, hts, hmn, hlk, hK, hA⟩ := X
  subst hp
  exact fun H locs ls hP hD hS hl => lv_if_eq hx hb hd ht (fun h => kt h H locs ls hP hD hS hl) (fun h => kf h H locs ls hP hD hS hl)
theorem r_icmp_ne (X : g_OK G cc nL own mn Ts R D cI cZ cH) {off : Int} {x y : Int32} (tgt : Nat) (hd : decode cc pc = .ok (.if_icmp .ne off, 3)) (ht : (pc : Int) + off = (tgt : Int)) (hp : pc' = pc + 3) (kt : ¬ x = y → G k n ws lv tgt rest) (kf : x = y → G k n ws lv pc' rest) : G k n ws lv pc (.int y :: .int x :: rest) := by
  obtain ⟨p, l, e, s, m, args, below, meth, c, A, H0, Q, rfl, hx, hb, hml, hown, hts, hmn, hlk, hK, hA⟩ := X
  subst hp
  exact fun H locs ls hP hD hS hl => lv_icmp_ne hx hb hd ht (fun h => kt h H locs ls hP hD hS hl) (fun h => kf h H locs ls hP hD hS hl)
theorem r_if_ne (X : g_OK G cc nL own mn Ts R D cI cZ cH) {off : Int} {x : Int32} (tgt : Nat) (hd : decode cc pc = .ok (.ifCond .ne off, 3)) (ht : (pc : Int) + off = (tgt : Int)) (hp : pc' = pc + 3) (kt : ¬ x = 0 → G k n ws lv tgt rest) (kf : x = 0 → G k n ws lv pc' rest) : G k n ws lv pc (.int x :: rest) := by
  obtain ⟨p, l, e, s, m, args, below, meth, c, A, H0, Q, rfl, hx, hb, hml, hown, hts, hmn, hlk, hK, hA⟩ := X
  subst hp
  exact fun H locs ls hP hD hS hl => lv_if_ne hx hb hd ht (fun h => kt h H locs ls hP hD hS hl) (fun h => kf h H locs ls hP hD hS hl)
theorem r_icmp_lt (X : g_OK G cc nL own mn Ts R D cI cZ cH) {off : Int} {x y : Int32} (tgt : Nat) (hd : decode cc pc = .ok (.if_icmp .lt off, 3)) (ht : (pc : Int) + off = (tgt : Int)) (hp : pc' = pc + 3) (kt : x < y → G k n ws lv tgt rest) (kf : ¬ x < y → G k n ws lv pc' rest) : G k n ws lv pc (.int y :: .int x :: rest) := by
  obtain ⟨p, l, e, s, m, args, below, meth, c, A, H0, Q, rfl, hx, hb, hml, hown, hts, hmn, hlk, hK, hA⟩ := X
  subst hp
  exact fun H locs ls hP hD hS hl => lv_icmp_lt hx hb hd ht (fun h => kt h H locs ls hP hD hS hl) (fun h => kf h H locs ls hP hD hS hl)
theorem r_if_lt (X : g_OK G cc nL own mn Ts R D cI cZ cH) {off : Int} {x : Int32} (tgt : Nat) (hd : decode cc pc = .ok (.ifCond .lt off, 3)) (ht : (pc : Int) + off = (tgt : Int)) (hp : pc' = pc + 3) (kt : x < 0 → G k n ws lv tgt rest) (kf : ¬ x < 0 → G k n ws lv pc' rest) : G k n ws lv pc (.int x :: rest) := by
  obtain ⟨p, l, e, s, m, args, below, meth, c, A, H0, Q, rfl, hx, hb, hml, hown, hts, hmn, hlk, hK, hA⟩ := X
  subst hp
  exact fun H locs ls hP hD hS hl => lv_if_lt hx hb hd ht (fun h => kt h H locs ls hP hD hS hl) (fun h => kf h H locs ls hP hD hS hl)
theorem r_icmp_ge (X : g_OK G cc nL own mn Ts R D cI cZ cH) {off : Int} {x y : Int32} (tgt : Nat) (hd : decode cc pc = .ok (.if_icmp .ge off, 3)) (ht : (pc : Int) + off = (tgt : Int)) (hp : pc' = pc + 3) (kt : y ≤ x → G k n ws lv tgt rest) (kf : ¬ y ≤ x → G k n ws lv pc' rest) : G k n ws lv pc (.int y :: .int x :: rest) := by
  obtain ⟨p, l, e, s, m, args, below, meth, c, A, H0, Q, rfl, hx, hb, hml, hown, hts, hmn, hlk, hK, hA⟩ := X
  subst hp
  exact fun H locs ls hP hD hS hl => lv_icmp_ge hx hb hd ht (fun h => kt h H locs ls hP hD hS hl) (fun h => kf h H locs ls hP hD hS hl)
theorem r_if_ge (X : g_OK G cc nL own mn Ts R D cI cZ cH) {off : Int} {x : Int32} (tgt : Nat) (hd : decode cc pc = .ok (.ifCond .ge off, 3)) (ht : (pc : Int) + off = (tgt : Int)) (hp : pc' = pc + 3) (kt : 0 ≤ x → G k n ws lv tgt rest) (kf : ¬ 0 ≤ x → G k n ws lv pc' rest) : G k n ws lv pc (.int x :: rest) := by
  obtain ⟨p, l, e, s, m, args, below, meth, c, A, H0, Q, rfl, hx, hb, hml, hown, hts, hmn, hlk, hK, hA⟩ := X
  subst hp
  exact fun H locs ls hP hD hS hl => lv_if_ge hx hb hd ht (fun h => kt h H locs ls hP hD hS hl) (fun h => kf h H locs ls hP hD hS hl)
theorem r_icmp_gt (X : g_OK G cc nL own mn Ts R D cI cZ cH) {off : Int} {x y : Int32} (tgt : Nat) (hd : decode cc pc = .ok (.if_icmp .gt off, 3)) (ht : (pc : Int) + off = (tgt : Int)) (hp : pc' = pc + 3) (kt : y < x → G k n ws lv tgt rest) (kf : ¬ y < x → G k n ws lv pc' rest) : G k n ws lv pc (.int y :: .int x :: rest) := by
  obtain ⟨p, l, e, s, m, args, below, meth, c, A, H0, Q, rfl, hx, hb, hml, hown, hts, hmn, hlk, hK, hA⟩ := X
  subst hp
  exact fun H locs ls hP hD hS hl => lv_icmp_gt hx hb hd ht (fun h => kt h H locs ls hP hD hS hl) (fun h => kf h H locs ls hP hD hS hl)
theorem r_if_gt (X : g_OK G cc nL own mn Ts R D cI cZ cH) {off : Int} {x : Int32} (tgt : Nat) (hd : decode cc pc = .ok (.ifCond .gt off, 3)) (ht : (pc : Int) + off = (tgt : Int)) (hp : pc' = pc + 3) (kt : 0 < x → G k n ws lv tgt rest) (kf : ¬ 0 < x → G k n ws lv pc' rest) : G k n ws lv pc (.int x :: rest) := by
  obtain ⟨p, l, e, s, m, args, below, meth, c, A, H0, Q, rfl, hx, hb, hml, hown, hts, hmn, hlk, hK, hA⟩ := X
  subst hp
  exact fun H locs ls hP hD hS hl => lv_if_gt hx hb hd ht (fun h => kt h H locs ls hP hD hS hl) (fun h => kf h H locs ls hP hD hS hl)
theorem r_icmp_le (X : g_OK G cc nL own mn Ts R D cI cZ cH) {off : Int} {x y : Int32} (tgt : Nat) (hd : decode cc pc = .ok (.if_icmp .le off, 3)) (ht : (pc : Int) + off = (tgt : Int)) (hp : pc' = pc + 3) (kt : x ≤ y → G k n ws lv tgt rest) (kf : ¬ x ≤ y → G k n ws lv pc' rest) : G k n ws lv pc (.int y :: .int x :: rest) := by
  obtain ⟨p, l, e, s, m, args, below, meth, c, A, H0, Q, rfl, hx, hb, hml, hown, hts, hmn, hlk, hK, hA⟩ := X
  subst hp
  exact fun H locs ls hP hD hS hl => lv_icmp_le hx hb hd ht (fun h => kt h H locs ls hP hD hS hl) (fun h => kf h H locs ls hP hD hS hl)
theorem r_if_le (X : g_OK G cc nL own mn Ts R D cI cZ cH) {off : Int} {x : Int32} (tgt : Nat) (hd : decode cc pc = .ok (.ifCond .le off, 3)) (ht : (pc : Int) + off = (tgt : Int)) (hp : pc' = pc + 3) (kt : x ≤ 0 → G k n ws lv tgt rest) (kf : ¬ x ≤ 0 → G k n ws lv pc' rest) : G k n ws lv pc (.int x :: rest) := by
  obtain ⟨p, l, e, s, m, args, below, meth, c, A, H0, Q, rfl, hx, hb, hml, hown, hts, hmn, hlk, hK, hA⟩ := X
  subst hp
  exact fun H locs ls hP hD hS hl => lv_if_le hx hb hd ht (fun h => kt h H locs ls hP hD hS hl) (fun h => kf h H locs ls hP hD hS hl)
theorem r_tsIn (X : g_OK G cc nL own mn Ts R D cI cZ cH) {dflt lo hi : Int} {offs : Array Int} {len : Nat} {x y : Int32} {off : Int} (tgt : Nat) (hd : decode cc pc = .ok (.tableswitch dflt lo hi offs, len)) (hxy : x = y) (h1 : ¬ y.toInt < lo) (h2 : ¬ hi < y.toInt) (ho : offs[(y.toInt - lo).toNat]? = some off) (ht : (pc : Int) + off = (tgt : Int)) (kk : G k n ws lv tgt rest) : G k n ws lv pc (.int x :: rest) := by
  obtain ⟨p, l, e, s, m, args, below, meth, c, A, H0, Q, rfl, hx, hb, hml, hown, hts, hmn, hlk, hK, hA⟩ := X
  subst hxy
  exact fun H locs ls hP hD hS hl => lv_tableIn hx hb hd h1 h2 ho ht (kk H locs ls hP hD hS hl)
theorem r_tsOut (X : g_OK G cc nL own mn Ts R D cI cZ cH) {dflt lo hi : Int} {offs : Array Int} {len : Nat} {x : Int32} (tgt : Nat) (hd : decode cc pc = .ok (.tableswitch dflt lo hi offs, len)) (h : x.toInt < lo ∨ hi < x.toInt) (ht : (pc : Int) + dflt = (tgt : Int)) (kk : G k n ws lv tgt rest) : G k n ws lv pc (.int x :: rest) := by
  obtain ⟨p, l, e, s, m, args, below, meth, c, A, H0, Q, rfl, hx, hb, hml, hown, hts, hmn, hlk, hK, hA⟩ := X
  exact fun H locs ls hP hD hS hl => lv_tableOut hx hb hd h ht (kk H locs ls hP hD hS hl)
theorem r_iald (X : g_OK G cc nL own mn Ts R D cI cZ cH) (q0 : Nat) {a N : Nat} {f : Nat → Int32} {i : Int32} (hd : decode cc pc = .ok (.iaload, 1)) (ha : ws[q0]? = some (a, .inl (cI, N, .inl f))) (hin : vp_in i N) (hp : pc' = pc + 1) (kk : G k n ws lv pc' (.int (f i.toNatClampNeg) :: rest)) : G k n ws lv pc (.int i :: .ref a :: rest) := by
  obtain ⟨p, l, e, s, m, args, below, meth, c, A, H0, Q, rfl, hx, hb, hml, hown, hts, hmn, hlk, hK, hA⟩ := X
  subst hp
  exact fun H locs ls hP hD hS hl => va_iald hx hb hK.1 hP q0 0 ha rfl hin hd (kk H locs ls hP hD hS hl)
theorem r_ialdK (X : g_OK G cc nL own mn Ts R D cI cZ cH) {j : Nat} (q0 : Nat) {a N : Nat} {f : Nat → Int32} {i : Int32} (hd : decode cc pc = .ok (.iaload, 1)) (ha : ws[q0]? = some (a, .inl (cI, N, .inl f))) (hin : g_in i N = true) (hij : i.toNatClampNeg = j) (hp : pc' = pc + 1) (kk : G k n ws lv pc' (.int (f j) :: rest)) : G k n ws lv pc (.int i :: .ref a :: rest) := by
  subst hij
  exact r_iald X q0 hd ha (g_vi hin) hp kk
theorem r_zald (X : g_OK G cc nL own mn Ts R D cI cZ cH) (q0 : Nat) {a N : Nat} {f : Nat → Int32} {i : Int32} (hd : decode cc pc = .ok (.baload, 1)) (ha : ws[q0]? = some (a, .inl (cZ, N, .inl f))) (hin : vp_in i N) (hp : pc' = pc + 1) (kk : G k n ws lv pc' (.int (f i.toNatClampNeg) :: rest)) : G k n ws lv pc (.int i :: .ref a :: rest) := by
  obtain ⟨p, l, e, s, m, args, below, meth, c, A, H0, Q, rfl, hx, hb, hml, hown, hts, hmn, hlk, hK, hA⟩ := X
  subst hp
  exact fun H locs ls hP hD hS hl => va_zald hx hb hK.1 hP q0 1 ha rfl hin hd (kk H locs ls hP hD hS hl)
theorem r_zaldK (X : g_OK G cc nL own mn Ts R D cI cZ cH) {j : Nat} (q0 : Nat) {a N : Nat} {f : Nat → Int32} {i : Int32} (hd : decode cc pc = .ok (.baload, 1)) (ha : ws[q0]? = some (a, .inl (cZ, N, .inl f))) (hin : g_in i N = true) (hij : i.toNatClampNeg = j) (hp : pc' = pc + 1) (kk : G k n ws lv pc' (.int (f j) :: rest)) : G k n ws lv pc (.int i :: .ref a :: rest) := by
  subst hij
  exact r_zald X q0 hd ha (g_vi hin) hp kk
theorem r_iast (X : g_OK G cc nL own mn Ts R D cI cZ cH) (q0 : Nat) {a N : Nat} {f : Nat → Int32} {i x : Int32} (hd : decode cc pc = .ok (.iastore, 1)) (ha : ws[q0]? = some (a, .inl (cI, N, .inl f))) (hin : vp_in i N) (hu : ws.set q0 (a, .inl (cI, N, .inl (upd f i.toNatClampNeg x))) = ws') (hp : pc' = pc + 1) (kk : G k n ws' lv pc' rest) : G k n ws lv pc (.int x :: .int i :: .ref a :: rest) := by
  obtain ⟨p, l, e, s, m, args, below, meth, c, A, H0, Q, rfl, hx, hb, hml, hown, hts, hmn, hlk, hK, hA⟩ := X
  subst hp
  subst hu
  refine fun H locs ls hP hD hS hl => va_iast hx hb hK.1 hP hD hS q0 0 ha rfl hin hd (fun H1 locs1 hP1 hD1 hS1 => ?_)
  exact kk H1 locs1 ls hP1 hD1 hS1 hl
theorem r_iastK (X : g_OK G cc nL own mn Ts R D cI cZ cH) {j : Nat} (q0 : Nat) {a N : Nat} {f : Nat → Int32} {i x : Int32} (hd : decode cc pc = .ok (.iastore, 1)) (ha : ws[q0]? = some (a, .inl (cI, N, .inl f))) (hin : g_in i N = true) (hij : i.toNatClampNeg = j) (hu : ws.set q0 (a, .inl (cI, N, .inl (upd f j x))) = ws') (hp : pc' = pc + 1) (kk : G k n ws' lv pc' rest) : G k n ws lv pc (.int x :: .int i :: .ref a :: rest) := by
  subst hij
  exact r_iast X q0 hd ha (g_vi hin) hu hp kk
theorem r_zast (X : g_OK G cc nL own mn Ts R D cI cZ cH) (q0 : Nat) {a N : Nat} {f : Nat → Int32} {i x : Int32} (hd : decode cc pc = .ok (.bastore, 1)) (ha : ws[q0]? = some (a, .inl (cZ, N, .inl f))) (hin : vp_in i N) (hv : vp_nar .boolean x = x) (hu : ws.set q0 (a, .inl (cZ, N, .inl (upd f i.toNatClampNeg x))) = ws') (hp : pc' = pc + 1) (kk : G k n ws' lv pc' rest) : G k n ws lv pc (.int x :: .int i :: .ref a :: rest) := by
  obtain ⟨p, l, e, s, m, args, below, meth, c, A, H0, Q, rfl, hx, hb, hml, hown, hts, hmn, hlk, hK, hA⟩ := X
  subst hp
  subst hu
  refine fun H locs ls hP hD hS hl => va_zast hx hb hK.1 hP hD hS q0 1 ha rfl hin hd (fun H1 locs1 hP1 hD1 hS1 => ?_)
  rw [hv] at hP1 hD1
  exact kk H1 locs1 ls hP1 hD1 hS1 hl
theorem r_zastK (X : g_OK G cc nL own mn Ts R D cI cZ cH) {j : Nat} (q0 : Nat) {a N : Nat} {f : Nat → Int32} {i x : Int32} (hd : decode cc pc = .ok (.bastore, 1)) (ha : ws[q0]? = some (a, .inl (cZ, N, .inl f))) (hin : g_in i N = true) (hij : i.toNatClampNeg = j) (hv : vp_nar .boolean x = x) (hu : ws.set q0 (a, .inl (cZ, N, .inl (upd f j x))) = ws') (hp : pc' = pc + 1) (kk : G k n ws' lv pc' rest) : G k n ws lv pc (.int x :: .int i :: .ref a :: rest) := by
  subst hij
  exact r_zast X q0 hd ha (g_vi hin) hv hu hp kk
theorem r_alen (X : g_OK G cc nL own mn Ts R D cI cZ cH) (q0 t0 : Nat) {a : Nat} {cA : ClassId} {x : vp_A} {ty : FieldType} (hd : decode cc pc = .ok (.arraylength, 1)) (ha : ws[q0]? = some (a, .inl (cA, x))) (ht : (g_ty cI cZ cH)[t0]? = some (cA, ty)) (hp : pc' = pc + 1) (kk : G k n ws lv pc' (.int (Int32.ofNat x.1) :: rest)) : G k n ws lv pc (.ref a :: rest) := by
  obtain ⟨p, l, e, s, m, args, below, meth, c, A, H0, Q, rfl, hx, hb, hml, hown, hts, hmn, hlk, hK, hA⟩ := X
  subst hp
  exact fun H locs ls hP hD hS hl => va_alen hx hb hK.1 hP q0 t0 ha ht rfl hd (kk H locs ls hP hD hS hl)
theorem r_aldq (X : g_OK G cc nL own mn Ts R D cI cZ cH) (q0 : Nat) {a N : Nat} {f : Nat → Option Nat} {i : Int32} (hd : decode cc pc = .ok (.aaload, 1)) (ha : ws[q0]? = some (a, .inl (cH, N, .inr (.inr (.inr (.inr f)))))) (hin : vp_in i N) (hp : pc' = pc + 1) (kk : G k n ws lv pc' (va_rf (f i.toNatClampNeg) :: rest)) : G k n ws lv pc (.int i :: .ref a :: rest) := by
  obtain ⟨p, l, e, s, m, args, below, meth, c, A, H0, Q, rfl, hx, hb, hml, hown, hts, hmn, hlk, hK, hA⟩ := X
  subst hp
  exact fun H locs ls hP hD hS hl => va_aldq hx hb hK.1 hP q0 2 ha rfl hin hd (kk H locs ls hP hD hS hl)
theorem r_astq (X : g_OK G cc nL own mn Ts R D cI cZ cH) (q0 qk : Nat) {a N v : Nat} {vs : List Value} {f : Nat → Option Nat} {i : Int32} (hd : decode cc pc = .ok (.aastore, 1)) (ha : ws[q0]? = some (a, .inl (cH, N, .inr (.inr (.inr (.inr f)))))) (hv : ws[qk]? = some (v, .inr (1, vs))) (hin : vp_in i N) (hu : ws.set q0 (a, .inl (cH, N, .inr (.inr (.inr (.inr (va_up f i.toNatClampNeg (some v))))))) = ws') (hp : pc' = pc + 1) (kk : G k n ws' lv pc' rest) : G k n ws lv pc (.ref v :: .int i :: .ref a :: rest) := by
  obtain ⟨p, l, e, s, m, args, below, meth, c, A, H0, Q, rfl, hx, hb, hml, hown, hts, hmn, hlk, hK, hA⟩ := X
  subst hp
  subst hu
  exact fun H locs ls hP hD hS hl => va_astq hx hb hK.1 hP hD hS q0 2 qk 1 ha rfl hv rfl hin hd (fun H1 locs1 hP1 hD1 hS1 => kk H1 locs1 ls hP1 hD1 hS1 hl)
theorem r_nonnullR (X : g_OK G cc nL own mn Ts R D cI cZ cH) {off : Int} {x : Nat} (tgt : Nat) (hd : decode cc pc = .ok (.ifnonnull off, 3)) (ht : (pc : Int) + off = (tgt : Int)) (kk : G k n ws lv tgt rest) : G k n ws lv pc (.ref x :: rest) := by
  obtain ⟨p, l, e, s, m, args, below, meth, c, A, H0, Q, rfl, hx, hb, hml, hown, hts, hmn, hlk, hK, hA⟩ := X
  exact fun H locs ls hP hD hS hl => lv_ifnonnull hx hb hd ht (kk H locs ls hP hD hS hl)
theorem r_nonnullN (X : g_OK G cc nL own mn Ts R D cI cZ cH) {off : Int} (hd : decode cc pc = .ok (.ifnonnull off, 3)) (hp : pc' = pc + 3) (kk : G k n ws lv pc' rest) : G k n ws lv pc (.null :: rest) := by
  obtain ⟨p, l, e, s, m, args, below, meth, c, A, H0, Q, rfl, hx, hb, hml, hown, hts, hmn, hlk, hK, hA⟩ := X
  subst hp
  exact fun H locs ls hP hD hS hl => lv_ifnonnullN hx hb hd (kk H locs ls hP hD hS hl)
theorem r_get (X : g_OK G cc nL own mn Ts R D cI cZ cH) {C : String} {T : u_T} {N ci : Nat} (hin : ∀ w ∈ u_ws C T N, w ∈ Ts) (q0 j : Nat) {a i : Nat} {fs : List Value} {v : Value} (hd : decode cc pc = .ok (.getfield i, 3)) (he : ws[q0]? = some (a, .inr (ci, fs))) (hc : vwCl[ci]? = some (C, T, N)) (hj : j < N) (hlink : Cond.fieldLink own i (T j).1 (T j).2.1 (T j).2.2.1 ∈ Ts) (hv : fs[j]? = some v) (hp : pc' = pc + 3) (kk : G k n ws lv pc' (v :: rest)) : G k n ws lv pc (.ref a :: rest) := by
  obtain ⟨p, l, e, s, m, args, below, meth, c, A, H0, Q, rfl, hx, hb, hml, hown, hts, hmn, hlk, hK, hA⟩ := X
  subst hp
  exact fun H locs ls hP hD hS hl => va_get hx hb hts hin hown hK.1 hP q0 he hc j hj (hts _ hlink) (fun _ h => h) hv hd (kk H locs ls hP hD hS hl)
theorem r_put (X : g_OK G cc nL own mn Ts R D cI cZ cH) {C : String} {T : u_T} {N ci : Nat} (hin : ∀ w ∈ u_ws C T N, w ∈ Ts) (q0 j : Nat) {a i : Nat} {fs : List Value} {v : Value} {ty : FieldType} (tyf : Nat → FieldType) (hty : ∀ k, k < N → parseFieldDescriptor (T k).2.2.1 = some (tyf k)) (hnm : ∀ a, a < N → ∀ b, b < N → a ≠ b → (T a).2.1 ≠ (T b).2.1) (hd : decode cc pc = .ok (.putfield i, 3)) (he : ws[q0]? = some (a, .inr (ci, fs))) (hc : vwCl[ci]? = some (C, T, N)) (hj : j < N) (hlink : Cond.fieldLink own i (T j).1 (T j).2.1 (T j).2.2.1 ∈ Ts) (hfin : (T j).2.2.2 = false) (hde : parseFieldDescriptor (T j).2.2.1 = some ty) (hna : narrow ty v = v) (hfit : fits ty v = true) (hl9 : j < fs.length) (hu : ws.set q0 (a, .inr (ci, fs.set j v)) = ws') (hp : pc' = pc + 3) (kk : G k n ws' lv pc' rest) : G k n ws lv pc (v :: .ref a :: rest) := by
  obtain ⟨p, l, e, s, m, args, below, meth, c, A, H0, Q, rfl, hx, hb, hml, hown, hts, hmn, hlk, hK, hA⟩ := X
  subst hp
  subst hu
  exact fun H locs ls hP hD hS hl => va_put hx hb hts hin tyf hty hnm hown hK.1 hP hD hS q0 he hc j hj (hts _ hlink) (fun _ h => h) hfin hde hna hfit hl9 hd (fun H1 locs1 hP1 hD1 hS1 => kk H1 locs1 ls hP1 hD1 hS1 hl)
theorem r_putF (X : g_OK G cc nL own mn Ts R D cI cZ cH) {C : String} {T : u_T} {N ci : Nat} (hin : ∀ w ∈ u_ws C T N, w ∈ Ts) (q0 j : Nat) {a i : Nat} {fs : List Value} {v : Value} {ty : FieldType} (tyf : Nat → FieldType) (hty : ∀ k, k < N → parseFieldDescriptor (T k).2.2.1 = some (tyf k)) (hnm : ∀ a, a < N → ∀ b, b < N → a ≠ b → (T a).2.1 ≠ (T b).2.1) (hd : decode cc pc = .ok (.putfield i, 3)) (he : ws[q0]? = some (a, .inr (ci, fs))) (hc : vwCl[ci]? = some (C, T, N)) (hj : j < N) (hlink : Cond.fieldLink own i (T j).1 (T j).2.1 (T j).2.2.1 ∈ Ts) (hfin : (T j).2.2.2 = true) (hin2 : mn = "<init>") (hdecl : (T j).1 = own) (hde : parseFieldDescriptor (T j).2.2.1 = some ty) (hna : narrow ty v = v) (hfit : fits ty v = true) (hl9 : j < fs.length) (hu : ws.set q0 (a, .inr (ci, fs.set j v)) = ws') (hp : pc' = pc + 3) (kk : G k n ws' lv pc' rest) : G k n ws lv pc (v :: .ref a :: rest) := by
  obtain ⟨p, l, e, s, m, args, below, meth, c, A, H0, Q, rfl, hx, hb, hml, hown, hts, hmn, hlk, hK, hA⟩ := X
  subst hp
  subst hu
  exact fun H locs ls hP hD hS hl => va_putF hx hb hts hin tyf hty hnm hown hK.1 hP hD hS q0 he hc j hj (hts _ hlink) (fun _ h => h) hfin (hmn.trans hin2) hdecl hde hna hfit hl9 hd (fun H1 locs1 hP1 hD1 hS1 => kk H1 locs1 ls hP1 hD1 hS1 hl)
theorem r_new (X : g_OK G cc nL own mn Ts R D cI cZ cH) {C : String} {T : u_T} {N ci i : Nat} (hin : ∀ w ∈ u_ws C T N, w ∈ Ts) (tyf : Nat → FieldType) (hty : ∀ k, k < N → parseFieldDescriptor (T k).2.2.1 = some (tyf k)) {fs : List Value} (hd : decode cc pc = .ok (.new i, 3)) (hcl : Cond.classLink own i C ∈ Ts) (hinst : Cond.instantiable C N ∈ Ts) (hini : Cond.initialized C ∈ Ts) (hc : vwCl[ci]? = some (C, T, N)) (hfs : ∀ j, j < N → defaultValue (tyf j) = vp_V fs j) (h1 : k + 1 ≤ R.cells) (h2 : n + N ≤ R.slots) (hp : pc' = pc + 3) (kk : ∀ q : Nat, G (k + 1) (n + N) (ws ++ [(q, .inr (ci, fs))]) lv pc' (.ref q :: rest)) : G k n ws lv pc rest := by
  obtain ⟨p, l, e, s, m, args, below, meth, c, A, H0, Q, rfl, hx, hb, hml, hown, hts, hmn, hlk, hK, hA⟩ := X
  subst hp
  exact fun H locs ls hP hD hS hl => va_new hx hb hts hin tyf hty hown (hts _ hcl) (hts _ hinst) (hts _ hini) hK.1 hP hD hS hA hc hfs h1 h2 hd (fun q H1 hP1 hD1 hS1 => kk q H1 locs ls hP1 hD1 hS1 hl)
theorem r_newi (X : g_OK G cc nL own mn Ts R D cI cZ cH) {x : Int32} (N' : Nat) (hd : decode cc pc = .ok (.newarray .int, 2)) (harr : Cond.arrayClass .int ∈ Ts) (hn : ¬ x < 0) (hN : x.toNatClampNeg = N') (hby : N' * 4 ≤ 536870912) (h1 : k + 1 ≤ R.cells) (h2 : n + N' ≤ R.slots) (hp : pc' = pc + 2) (kk : ∀ q : Nat, G (k + 1) (n + N') (ws ++ [(q, .inl (cI, N', .inl (fun _ => 0)))]) lv pc' (.ref q :: rest)) : G k n ws lv pc (.int x :: rest) := by
  obtain ⟨p, l, e, s, m, args, below, meth, c, A, H0, Q, rfl, hx, hb, hml, hown, hts, hmn, hlk, hK, hA⟩ := X
  subst hp
  refine fun H locs ls hP hD hS hl => va_newa (atype := .int) (ty := .int) (a0 := (N', .inl (fun _ => 0))) hx hb (hts _ harr) rfl hK.1 hP hD hS hA (fun cA => rfl) hn hN (by simp only [componentBytes]; omega) h1 h2 hd (fun q cA H1 hK1 hP1 hD1 hS1 => ?_)
  have e1 := (hK1.2 3 (cA, .int) rfl).2
  have e2 := (hK.1.2 0 (cI, .int) rfl).2
  have e3 : cA = cI := Option.some.inj (e1.symm.trans e2)
  subst e3
  exact kk q H1 locs ls hP1 hD1 hS1 hl
theorem r_newz (X : g_OK G cc nL own mn Ts R D cI cZ cH) {x : Int32} (N' : Nat) (hd : decode cc pc = .ok (.newarray .boolean, 2)) (harr : Cond.arrayClass .boolean ∈ Ts) (hn : ¬ x < 0) (hN : x.toNatClampNeg = N') (hby : N' * 4 ≤ 536870912) (h1 : k + 1 ≤ R.cells) (h2 : n + N' ≤ R.slots) (hp : pc' = pc + 2) (kk : ∀ q : Nat, G (k + 1) (n + N') (ws ++ [(q, .inl (cZ, N', .inl (fun _ => 0)))]) lv pc' (.ref q :: rest)) : G k n ws lv pc (.int x :: rest) := by
  obtain ⟨p, l, e, s, m, args, below, meth, c, A, H0, Q, rfl, hx, hb, hml, hown, hts, hmn, hlk, hK, hA⟩ := X
  subst hp
  refine fun H locs ls hP hD hS hl => va_newa (atype := .boolean) (ty := .boolean) (a0 := (N', .inl (fun _ => 0))) hx hb (hts _ harr) rfl hK.1 hP hD hS hA (fun cA => rfl) hn hN (by simp only [componentBytes]; omega) h1 h2 hd (fun q cA H1 hK1 hP1 hD1 hS1 => ?_)
  have e1 := (hK1.2 3 (cA, .boolean) rfl).2
  have e2 := (hK.1.2 1 (cZ, .boolean) rfl).2
  have e3 : cA = cZ := Option.some.inj (e1.symm.trans e2)
  subst e3
  exact kk q H1 locs ls hP1 hD1 hS1 hl
theorem r_newq (X : g_OK G cc nL own mn Ts R D cI cZ cH) {x : Int32} {i : Nat} (N' : Nat) (hd : decode cc pc = .ok (.anewarray i, 3)) (hcl : Cond.classLink own i RX1 ∈ Ts) (hn : ¬ x < 0) (hN : x.toNatClampNeg = N') (hby : N' * 4 ≤ 536870912) (h1 : k + 1 ≤ R.cells) (h2 : n + N' ≤ R.slots) (hp : pc' = pc + 3) (kk : ∀ q : Nat, G (k + 1) (n + N') (ws ++ [(q, .inl (cH, N', .inr (.inr (.inr (.inr (fun _ => none))))))]) lv pc' (.ref q :: rest)) : G k n ws lv pc (.int x :: rest) := by
  obtain ⟨p, l, e, s, m, args, below, meth, c, A, H0, Q, rfl, hx, hb, hml, hown, hts, hmn, hlk, hK, hA⟩ := X
  subst hp
  refine fun H locs ls hP hD hS hl => va_newq hx hb hown (hts _ hcl) hK.2.1 hK.1 hP hD hS hA hn hN hby h1 h2 hd (fun q cA H1 hK1 hP1 hD1 hS1 => ?_)
  obtain ⟨_, _, _, _, _, e1⟩ := (hK1.2 3 (cA, .object RX1) rfl).2
  obtain ⟨_, _, _, _, _, e2⟩ := (hK.1.2 2 (cH, .object RX1) rfl).2
  have e3 : cA = cH := Option.some.inj (e1.symm.trans e2)
  subst e3
  exact kk q H1 locs ls hP1 hD1 hS1 hl
theorem r_objInit (X : g_OK G cc nL own mn Ts R D cI cZ cH) {i : Nat} {a : Nat} (hd : decode cc pc = .ok (.invokespecial i, 3)) (h1 : Cond.methodLink own i objectInit ∈ Ts) (h2 : Cond.instanceMethod objectInit ∈ Ts) (h3 : Cond.code objectInit ⟨#[0xb1]⟩ 1 none ∈ Ts) (h4 : 1 ≤ R.frames) (h5 : (rest.map fun v => v.category).sum + 12 ≤ R.locals) (hp : pc' = pc + 3) (kk : G k n ws lv pc' rest) : G k n ws lv pc (.ref a :: rest) := by
  obtain ⟨p, l, e, s, m, args, below, meth, c, A, H0, Q, rfl, hx, hb, hml, hown, hts, hmn, hlk, hK, hA⟩ := X
  subst hp
  exact fun H locs ls hP hD hS hl => W.objInit hx hb hown (hts _ h1) (hts _ h2) (hts _ h3) rfl (by rw [hml]; exact hl.1) rfl hd h4 (by show 2 * 0 + _ + 12 ≤ _; omega) (W.eq (g2 := F0 m (pc + 3) ls rest) rfl (kk H locs ls hP hD hS hl))
theorem r_copy (X : g_OK G cc nL own mn Ts R D cI cZ cH) {i : Nat} (q0 q1 : Nat) {a a0 n0 n1 : Nat} {f g : Nat → Int32} {sp dp z : Int32} (hd : decode cc pc = .ok (.invokestatic i, 3)) (h1 : Cond.methodLink own i arraycopyName ∈ Ts) (h2 : Cond.native arraycopyName ∈ Ts) (h3 : Cond.static arraycopyName ∈ Ts) (h4 : Cond.initialized "java/lang/System" ∈ Ts) (ha0 : ws[q0]? = some (a0, .inl (cI, n0, .inl f))) (ha1 : ws[q1]? = some (a, .inl (cI, n1, .inl g))) (g1 : ¬ sp < 0) (g2 : ¬ dp < 0) (g3 : ¬ z < 0) (g4 : sp.toNatClampNeg + z.toNatClampNeg ≤ n0) (g5 : dp.toNatClampNeg + z.toNatClampNeg ≤ n1) (h5 : 1 ≤ R.frames) (h6 : (rest.map fun v => v.category).sum + (nativeFrameWords "java/lang/System" "arraycopy" 5 + 11) ≤ R.locals) (hu : ws.set q1 (a, .inl (cI, n1, .inl (va_cpy f g sp.toNatClampNeg dp.toNatClampNeg z.toNatClampNeg))) = ws') (hp : pc' = pc + 3) (kk : G k n ws' lv pc' rest) : G k n ws lv pc (.int z :: .int dp :: .ref a :: .int sp :: .ref a0 :: rest) := by
  obtain ⟨p, l, e, s, m, args, below, meth, c, A, H0, Q, rfl, hx, hb, hml, hown, hts, hmn, hlk, hK, hA⟩ := X
  subst hp
  subst hu
  exact fun H locs ls hP hD hS hl => va_copyi hx hb (hml.trans hl.1.symm) hown (hts _ h1) (hts _ h2) (hts _ h3) (hts _ h4) hK.1 hP hD hS q0 q1 0 0 ha0 ha1 rfl rfl rfl g1 g2 g3 g4 g5 (fun _ _ => rfl) h5 h6 hd (fun H1 locs1 hP1 hD1 hS1 => kk H1 locs1 ls hP1 hD1 hS1 hl)
theorem r_max (X : g_OK G cc nL own mn Ts R D cI cZ cH) {i : Nat} {x y : Int32} (hd : decode cc pc = .ok (.invokestatic i, 3)) (h1 : Cond.methodLink own i Lib.Math.max.name ∈ Ts) (h2 : Cond.static Lib.Math.max.name ∈ Ts) (h3 : Cond.initialized "java/lang/Math" ∈ Ts) (h4 : Cond.code Lib.Math.max.name Lib.Math.max.code 2 (some .int) ∈ Ts) (h5 : 1 ≤ R.frames) (h6 : (rest.map fun v => v.category).sum + 13 ≤ R.locals) (h7 : k ≤ R.cells) (h8 : n ≤ R.slots) (hp : pc' = pc + 3) (kk : G k n ws lv pc' (.int (if x < y then y else x) :: rest)) : G k n ws lv pc (.int y :: .int x :: rest) := by
  obtain ⟨p, l, e, s, m, args, below, meth, c, A, H0, Q, rfl, hx, hb, hml, hown, hts, hmn, hlk, hK, hA⟩ := X
  subst hp
  exact fun H locs ls hP hD hS hl => va_mmax hx hb (hml.trans hl.1.symm) hown (hts _ h1) (hts _ h2) (hts _ h3) (hts _ h4) h5 h6 h7 h8 hd (kk H locs ls hP hD hS hl)
theorem r_callVG (X : g_OK G cc nL own mn Ts R D cI cZ cH) {y : MethodName} {wsy wsy' : List Cond} {bytes : ByteArray} {maxL : Nat} {ret : Option FieldType} {rmy : Room} {mc ms : Nat} {wc : va_W} {Tm : Option Value → va_W → Prop} {i : Nat} {As : List Value} {C : String} {b : Nat} (hCM : g_CM y wsy rmy D cI cZ cH (.ref b :: As) wc mc ms Tm) (nA : Nat) (hG : GoodIn Ts (wsV own i C y wsy)) (hw : wsy = Cond.code y bytes maxL ret :: wsy') (hdd : y.cls = C ∧ y.cls ≠ "java/lang/invoke/MethodHandle" ∧ y.cls ≠ "java/lang/invoke/VarHandle" ∧ (parseMethodDescriptor y.desc).map (fun d => d.parameters.length) = some nA) (hrc : rmy.cells = mc) (hrs : rmy.slots = ms) (hR : rmy.frames + 1 ≤ R.frames ∧ 8 + (maxL + 11) + rmy.locals ≤ R.locals) (hf : k + mc ≤ R.cells ∧ n + ms ≤ R.slots) (hn : As.length = nA) (hW : (rest.map fun v => v.category).sum ≤ 8) (hd : decode cc pc = .ok (.invokevirtual i, 3)) {T : u_T} {N ci : Nat} {fs : List Value} (q0 : Nat) (hc : vwCl[ci]? = some (C, T, N)) (he : ws[q0]? = some (b, .inr (ci, fs))) (isC : List Nat) (hndC : va_nd isC = true) (isR : List Nat) {wr : va_W} (hC : isC.map (fun i => ws[i]?) = wc.map some) (hRr : isR.map (fun i => ws[i]?) = wr.map some) (hnR : va_nd isR = true) (hdis : ∀ i ∈ isR, i ∉ isC) (hp : pc' = pc + 3) (kk : ∀ (v : Option Value) (w1 : va_W), Tm v w1 → G (k + mc) (n + ms) (wr ++ w1) lv pc' (v.toList ++ rest)) : G k n ws lv pc (As.reverse ++ .ref b :: rest) := by
  obtain ⟨p, l, e, s, m, args, below, meth, c, A, H0, Q, rfl, hx, hb, hml, hown, hts, hmn, hlk, hK, hA⟩ := X
  subst hp
  intro H locs ls hP hD hS hl
  have hF := va_free hD hS hA isC hC
  have hPc := hP.sub isC (g_fm _ _ _ hC)
  have hDc : va_D (fun _ => True) wc := (va_D.weaken (B := fun _ => True) (ws := ws) hD (fun _ _ _ _ => trivial)).sub isC hndC hC
  refine g_after (a := (Value.ref b :: As).toArray) (va_runV (As := As) (rest := rest) ⟨hx, hb, hml, hown, hts⟩ (hCM l H.size) (cwV nA hts hG hw hrc hrs hdd hR) ⟨g_blind, va_recv hK.1 hP hc he, fun U hU hW => ⟨rfl, by rw [hU], by rw [hU]; exact hPc, hK.moved hW, hDc⟩⟩ rfl hn hl.1 rfl (lv_room hW) hd hf) hS hF (fun v w1 H1 locs1 hT hP1 hD1 hk hS1 => by
    obtain ⟨hP2, hD2⟩ := va_join hP hD isC isR hC hRr hnR hdis hk hF hP1 hD1
    exact kk v w1 hT H1 locs1 ls hP2 hD2 hS1 hl)
theorem r_callVF (X : g_OK G cc nL own mn Ts R D cI cZ cH) {y : MethodName} {wsy wsy' : List Cond} {bytes : ByteArray} {maxL : Nat} {ret : Option FieldType} {rmy : Room} {mc ms : Nat} {wc : va_W} {v0 : Option Value} {w0 : va_W} {st' : List Value} {i : Nat} {As : List Value} {C : String} {b : Nat} (hCM : g_CM y wsy rmy D cI cZ cH (.ref b :: As) wc mc ms (g_Tm v0 w0)) (nA : Nat) (hG : GoodIn Ts (wsV own i C y wsy)) (hw : wsy = Cond.code y bytes maxL ret :: wsy') (hdd : y.cls = C ∧ y.cls ≠ "java/lang/invoke/MethodHandle" ∧ y.cls ≠ "java/lang/invoke/VarHandle" ∧ (parseMethodDescriptor y.desc).map (fun d => d.parameters.length) = some nA) (hrc : rmy.cells = mc) (hrs : rmy.slots = ms) (hR : rmy.frames + 1 ≤ R.frames ∧ 8 + (maxL + 11) + rmy.locals ≤ R.locals) (hf : k + mc ≤ R.cells ∧ n + ms ≤ R.slots) (hn : As.length = nA) (hW : (rest.map fun v => v.category).sum ≤ 8) (hd : decode cc pc = .ok (.invokevirtual i, 3)) {T : u_T} {N ci : Nat} {fs : List Value} (q0 : Nat) (hc : vwCl[ci]? = some (C, T, N)) (he : ws[q0]? = some (b, .inr (ci, fs))) (isC : List Nat) (hndC : va_nd isC = true) (hC : isC.map (fun i => ws[i]?) = wc.map some) (had : w0.map (fun q => q.1) = wc.map (fun q => q.1)) (hu : g_up isC w0 0 ws = ws') (hst' : v0.toList ++ rest = st') (hp : pc' = pc + 3) (kk : G (k + mc) (n + ms) ws' lv pc' st') : G k n ws lv pc (As.reverse ++ .ref b :: rest) := by
  obtain ⟨p, l, e, s, m, args, below, meth, c, A, H0, Q, rfl, hx, hb, hml, hown, hts, hmn, hlk, hK, hA⟩ := X
  subst hp
  intro H locs ls hP hD hS hl
  have hF := va_free hD hS hA isC hC
  have hPc := hP.sub isC (g_fm _ _ _ hC)
  have hDc : va_D (fun _ => True) wc := (va_D.weaken (B := fun _ => True) (ws := ws) hD (fun _ _ _ _ => trivial)).sub isC hndC hC
  refine g_after (a := (Value.ref b :: As).toArray) (va_runV (As := As) (rest := rest) ⟨hx, hb, hml, hown, hts⟩ (hCM l H.size) (cwV nA hts hG hw hrc hrs hdd hR) ⟨g_blind, va_recv hK.1 hP hc he, fun U hU hW => ⟨rfl, by rw [hU], by rw [hU]; exact hPc, hK.moved hW, hDc⟩⟩ rfl hn hl.1 rfl (lv_room hW) hd hf) hS hF (fun v w1 H1 locs1 hT hP1 hD1 hk hS1 => by
    obtain ⟨rfl, rfl⟩ := hT
    obtain ⟨hP2, hD2⟩ := g_join hP hD isC hC had hk hP1
    subst hu; subst hst'
    exact kk H1 locs1 ls hP2 hD2 hS1 hl)
theorem r_callSG (X : g_OK G cc nL own mn Ts R D cI cZ cH) {y : MethodName} {wsy wsy' : List Cond} {bytes : ByteArray} {maxL : Nat} {ret : Option FieldType} {rmy : Room} {mc ms : Nat} {wc : va_W} {Tm : Option Value → va_W → Prop} {i : Nat} {As : List Value} (hCM : g_CM y wsy rmy D cI cZ cH As wc mc ms Tm) (nA : Nat) (hG : GoodIn Ts (va_wsS own i y wsy)) (hw : wsy = Cond.code y bytes maxL ret :: wsy') (hdd : y.cls ≠ "java/lang/invoke/MethodHandle" ∧ y.cls ≠ "java/lang/invoke/VarHandle" ∧ (parseMethodDescriptor y.desc).map (fun d => d.parameters.length) = some nA) (hrc : rmy.cells = mc) (hrs : rmy.slots = ms) (hR : rmy.frames + 1 ≤ R.frames ∧ 8 + (maxL + 11) + rmy.locals ≤ R.locals) (hf : k + mc ≤ R.cells ∧ n + ms ≤ R.slots) (hn : As.length = nA) (hW : (rest.map fun v => v.category).sum ≤ 8) (hd : decode cc pc = .ok (.invokestatic i, 3))  (isC : List Nat) (hndC : va_nd isC = true) (isR : List Nat) {wr : va_W} (hC : isC.map (fun i => ws[i]?) = wc.map some) (hRr : isR.map (fun i => ws[i]?) = wr.map some) (hnR : va_nd isR = true) (hdis : ∀ i ∈ isR, i ∉ isC) (hp : pc' = pc + 3) (kk : ∀ (v : Option Value) (w1 : va_W), Tm v w1 → G (k + mc) (n + ms) (wr ++ w1) lv pc' (v.toList ++ rest)) : G k n ws lv pc (As.reverse ++ rest) := by
  obtain ⟨p, l, e, s, m, args, below, meth, c, A, H0, Q, rfl, hx, hb, hml, hown, hts, hmn, hlk, hK, hA⟩ := X
  subst hp
  intro H locs ls hP hD hS hl
  have hF := va_free hD hS hA isC hC
  have hPc := hP.sub isC (g_fm _ _ _ hC)
  have hDc : va_D (fun _ => True) wc := (va_D.weaken (B := fun _ => True) (ws := ws) hD (fun _ _ _ _ => trivial)).sub isC hndC hC
  refine g_after (a := As.toArray) (va_runS (As := As) (rest := rest) ⟨hx, hb, hml, hown, hts⟩ (hCM l H.size) (g_cwS nA hts hG hw hrc hrs hdd hR) ⟨g_blind, fun U hU hW => ⟨rfl, by rw [hU], by rw [hU]; exact hPc, hK.moved hW, hDc⟩⟩ rfl hn hl.1 rfl (lv_room hW) hd hf) hS hF (fun v w1 H1 locs1 hT hP1 hD1 hk hS1 => by
    obtain ⟨hP2, hD2⟩ := va_join hP hD isC isR hC hRr hnR hdis hk hF hP1 hD1
    exact kk v w1 hT H1 locs1 ls hP2 hD2 hS1 hl)
theorem r_callSF (X : g_OK G cc nL own mn Ts R D cI cZ cH) {y : MethodName} {wsy wsy' : List Cond} {bytes : ByteArray} {maxL : Nat} {ret : Option FieldType} {rmy : Room} {mc ms : Nat} {wc : va_W} {v0 : Option Value} {w0 : va_W} {st' : List Value} {i : Nat} {As : List Value} (hCM : g_CM y wsy rmy D cI cZ cH As wc mc ms (g_Tm v0 w0)) (nA : Nat) (hG : GoodIn Ts (va_wsS own i y wsy)) (hw : wsy = Cond.code y bytes maxL ret :: wsy') (hdd : y.cls ≠ "java/lang/invoke/MethodHandle" ∧ y.cls ≠ "java/lang/invoke/VarHandle" ∧ (parseMethodDescriptor y.desc).map (fun d => d.parameters.length) = some nA) (hrc : rmy.cells = mc) (hrs : rmy.slots = ms) (hR : rmy.frames + 1 ≤ R.frames ∧ 8 + (maxL + 11) + rmy.locals ≤ R.locals) (hf : k + mc ≤ R.cells ∧ n + ms ≤ R.slots) (hn : As.length = nA) (hW : (rest.map fun v => v.category).sum ≤ 8) (hd : decode cc pc = .ok (.invokestatic i, 3))  (isC : List Nat) (hndC : va_nd isC = true) (hC : isC.map (fun i => ws[i]?) = wc.map some) (had : w0.map (fun q => q.1) = wc.map (fun q => q.1)) (hu : g_up isC w0 0 ws = ws') (hst' : v0.toList ++ rest = st') (hp : pc' = pc + 3) (kk : G (k + mc) (n + ms) ws' lv pc' st') : G k n ws lv pc (As.reverse ++ rest) := by
  obtain ⟨p, l, e, s, m, args, below, meth, c, A, H0, Q, rfl, hx, hb, hml, hown, hts, hmn, hlk, hK, hA⟩ := X
  subst hp
  intro H locs ls hP hD hS hl
  have hF := va_free hD hS hA isC hC
  have hPc := hP.sub isC (g_fm _ _ _ hC)
  have hDc : va_D (fun _ => True) wc := (va_D.weaken (B := fun _ => True) (ws := ws) hD (fun _ _ _ _ => trivial)).sub isC hndC hC
  refine g_after (a := As.toArray) (va_runS (As := As) (rest := rest) ⟨hx, hb, hml, hown, hts⟩ (hCM l H.size) (g_cwS nA hts hG hw hrc hrs hdd hR) ⟨g_blind, fun U hU hW => ⟨rfl, by rw [hU], by rw [hU]; exact hPc, hK.moved hW, hDc⟩⟩ rfl hn hl.1 rfl (lv_room hW) hd hf) hS hF (fun v w1 H1 locs1 hT hP1 hD1 hk hS1 => by
    obtain ⟨rfl, rfl⟩ := hT
    obtain ⟨hP2, hD2⟩ := g_join hP hD isC hC had hk hP1
    subst hu; subst hst'
    exact kk H1 locs1 ls hP2 hD2 hS1 hl)
theorem r_callIG (X : g_OK G cc nL own mn Ts R D cI cZ cH) {y : MethodName} {wsy wsy' : List Cond} {bytes : ByteArray} {maxL : Nat} {ret : Option FieldType} {rmy : Room} {mc ms : Nat} {wc : va_W} {Tm : Option Value → va_W → Prop} {i : Nat} {As : List Value} {b : Nat} (hCM : g_CM y wsy rmy D cI cZ cH (.ref b :: As) wc mc ms Tm) (nA : Nat) (hG : GoodIn Ts wsy) (hw : wsy = Cond.code y bytes maxL none :: wsy') (hini : Cond.initialized y.cls ∈ Ts) (hml9 : Cond.methodLink own i y ∈ Ts) (him : Cond.instanceMethod y ∈ Ts) (hyn : y.name = "<init>") (hdd : y.cls ≠ "java/lang/invoke/MethodHandle" ∧ y.cls ≠ "java/lang/invoke/VarHandle" ∧ (parseMethodDescriptor y.desc).map (fun d => d.parameters.length) = some nA) (hrc : rmy.cells = mc) (hrs : rmy.slots = ms) (hR : rmy.frames + 1 ≤ R.frames ∧ 8 + (maxL + 11) + rmy.locals ≤ R.locals) (hf : k + mc ≤ R.cells ∧ n + ms ≤ R.slots) (hn : As.length = nA) (hW : (rest.map fun v => v.category).sum ≤ 8) (hd : decode cc pc = .ok (.invokespecial i, 3))  (isC : List Nat) (hndC : va_nd isC = true) (isR : List Nat) {wr : va_W} (hC : isC.map (fun i => ws[i]?) = wc.map some) (hRr : isR.map (fun i => ws[i]?) = wr.map some) (hnR : va_nd isR = true) (hdis : ∀ i ∈ isR, i ∉ isC) (hp : pc' = pc + 3) (kk : ∀ (v : Option Value) (w1 : va_W), Tm v w1 → G (k + mc) (n + ms) (wr ++ w1) lv pc' (v.toList ++ rest)) : G k n ws lv pc (As.reverse ++ .ref b :: rest) := by
  obtain ⟨p, l, e, s, m, args, below, meth, c, A, H0, Q, rfl, hx, hb, hml, hown, hts, hmn, hlk, hK, hA⟩ := X
  subst hp
  intro H locs ls hP hD hS hl
  have hF := va_free hD hS hA isC hC
  have hPc := hP.sub isC (g_fm _ _ _ hC)
  have hDc : va_D (fun _ => True) wc := (va_D.weaken (B := fun _ => True) (ws := ws) hD (fun _ _ _ _ => trivial)).sub isC hndC hC
  refine g_after (a := (Value.ref b :: As).toArray) (va_runI (As := As) (rest := rest) ⟨hx, hb, hml, hown, hts⟩ (hCM l H.size) (cwI nA hts hG hw hrc hrs (hts _ hini) (hts _ hml9) (hts _ him) hyn hdd hR) ⟨g_blind, fun U hU hW => ⟨rfl, by rw [hU], by rw [hU]; exact hPc, hK.moved hW, hDc⟩⟩ rfl hn hl.1 rfl (lv_room hW) hd hf) hS hF (fun v w1 H1 locs1 hT hP1 hD1 hk hS1 => by
    obtain ⟨hP2, hD2⟩ := va_join hP hD isC isR hC hRr hnR hdis hk hF hP1 hD1
    exact kk v w1 hT H1 locs1 ls hP2 hD2 hS1 hl)
theorem r_callIF (X : g_OK G cc nL own mn Ts R D cI cZ cH) {y : MethodName} {wsy wsy' : List Cond} {bytes : ByteArray} {maxL : Nat} {ret : Option FieldType} {rmy : Room} {mc ms : Nat} {wc : va_W} {v0 : Option Value} {w0 : va_W} {st' : List Value} {i : Nat} {As : List Value} {b : Nat} (hCM : g_CM y wsy rmy D cI cZ cH (.ref b :: As) wc mc ms (g_Tm v0 w0)) (nA : Nat) (hG : GoodIn Ts wsy) (hw : wsy = Cond.code y bytes maxL none :: wsy') (hini : Cond.initialized y.cls ∈ Ts) (hml9 : Cond.methodLink own i y ∈ Ts) (him : Cond.instanceMethod y ∈ Ts) (hyn : y.name = "<init>") (hdd : y.cls ≠ "java/lang/invoke/MethodHandle" ∧ y.cls ≠ "java/lang/invoke/VarHandle" ∧ (parseMethodDescriptor y.desc).map (fun d => d.parameters.length) = some nA) (hrc : rmy.cells = mc) (hrs : rmy.slots = ms) (hR : rmy.frames + 1 ≤ R.frames ∧ 8 + (maxL + 11) + rmy.locals ≤ R.locals) (hf : k + mc ≤ R.cells ∧ n + ms ≤ R.slots) (hn : As.length = nA) (hW : (rest.map fun v => v.category).sum ≤ 8) (hd : decode cc pc = .ok (.invokespecial i, 3))  (isC : List Nat) (hndC : va_nd isC = true) (hC : isC.map (fun i => ws[i]?) = wc.map some) (had : w0.map (fun q => q.1) = wc.map (fun q => q.1)) (hu : g_up isC w0 0 ws = ws') (hst' : v0.toList ++ rest = st') (hp : pc' = pc + 3) (kk : G (k + mc) (n + ms) ws' lv pc' st') : G k n ws lv pc (As.reverse ++ .ref b :: rest) := by
  obtain ⟨p, l, e, s, m, args, below, meth, c, A, H0, Q, rfl, hx, hb, hml, hown, hts, hmn, hlk, hK, hA⟩ := X
  subst hp
  intro H locs ls hP hD hS hl
  have hF := va_free hD hS hA isC hC
  have hPc := hP.sub isC (g_fm _ _ _ hC)
  have hDc : va_D (fun _ => True) wc := (va_D.weaken (B := fun _ => True) (ws := ws) hD (fun _ _ _ _ => trivial)).sub isC hndC hC
  refine g_after (a := (Value.ref b :: As).toArray) (va_runI (As := As) (rest := rest) ⟨hx, hb, hml, hown, hts⟩ (hCM l H.size) (cwI nA hts hG hw hrc hrs (hts _ hini) (hts _ hml9) (hts _ him) hyn hdd hR) ⟨g_blind, fun U hU hW => ⟨rfl, by rw [hU], by rw [hU]; exact hPc, hK.moved hW, hDc⟩⟩ rfl hn hl.1 rfl (lv_room hW) hd hf) hS hF (fun v w1 H1 locs1 hT hP1 hD1 hk hS1 => by
    obtain ⟨rfl, rfl⟩ := hT
    obtain ⟨hP2, hD2⟩ := g_join hP hD isC hC had hk hP1
    subst hu; subst hst'
    exact kk H1 locs1 ls hP2 hD2 hS1 hl)
theorem r_callING (X : g_OK G cc nL own mn Ts R D cI cZ cH) {y : MethodName} {wsy wsy' : List Cond} {bytes : ByteArray} {maxL : Nat} {ret : Option FieldType} {rmy : Room} {mc ms : Nat} {wc : va_W} {Tm : Option Value → va_W → Prop} {i : Nat} {As : List Value} {b : Nat} (hCM : g_CM y wsy rmy D cI cZ cH (.ref b :: As) wc mc ms Tm) (nA : Nat) (hG : GoodIn Ts wsy) (hw : wsy = Cond.code y bytes maxL none :: wsy') (hro : own = RX6) (hne : (i, y) ∈ g_nest) (hini : Cond.initialized y.cls ∈ Ts) (him : Cond.instanceMethod y ∈ Ts) (hyn : y.name = "<init>") (hdd : y.cls ≠ "java/lang/invoke/MethodHandle" ∧ y.cls ≠ "java/lang/invoke/VarHandle" ∧ (parseMethodDescriptor y.desc).map (fun d => d.parameters.length) = some nA) (hrc : rmy.cells = mc) (hrs : rmy.slots = ms) (hR : rmy.frames + 1 ≤ R.frames ∧ 8 + (maxL + 11) + rmy.locals ≤ R.locals) (hf : k + mc ≤ R.cells ∧ n + ms ≤ R.slots) (hn : As.length = nA) (hW : (rest.map fun v => v.category).sum ≤ 8) (hd : decode cc pc = .ok (.invokespecial i, 3))  (isC : List Nat) (hndC : va_nd isC = true) (isR : List Nat) {wr : va_W} (hC : isC.map (fun i => ws[i]?) = wc.map some) (hRr : isR.map (fun i => ws[i]?) = wr.map some) (hnR : va_nd isR = true) (hdis : ∀ i ∈ isR, i ∉ isC) (hp : pc' = pc + 3) (kk : ∀ (v : Option Value) (w1 : va_W), Tm v w1 → G (k + mc) (n + ms) (wr ++ w1) lv pc' (v.toList ++ rest)) : G k n ws lv pc (As.reverse ++ .ref b :: rest) := by
  obtain ⟨p, l, e, s, m, args, below, meth, c, A, H0, Q, rfl, hx, hb, hml, hown, hts, hmn, hlk, hK, hA⟩ := X
  subst hp
  intro H locs ls hP hD hS hl
  subst hro
  have hF := va_free hD hS hA isC hC
  have hPc := hP.sub isC (g_fm _ _ _ hC)
  have hDc : va_D (fun _ => True) wc := (va_D.weaken (B := fun _ => True) (ws := ws) hD (fun _ _ _ _ => trivial)).sub isC hndC hC
  refine g_after (a := (Value.ref b :: As).toArray) (va_runIN (host := RX6) (As := As) (rest := rest) ⟨hx, hb, hml, hown, hts⟩ (hCM l H.size) (⟨va_cnB nA hts hG hw hrc hrs (hK.2.2 (i, y) hne) (hts _ hini) hdd hR, hyn, hts _ him⟩) ⟨g_blind, fun U hU hW => ⟨rfl, by rw [hU], by rw [hU]; exact hPc, hK.moved hW, hDc⟩⟩ rfl hn hl.1 rfl (lv_room hW) hd hf) hS hF (fun v w1 H1 locs1 hT hP1 hD1 hk hS1 => by
    obtain ⟨hP2, hD2⟩ := va_join hP hD isC isR hC hRr hnR hdis hk hF hP1 hD1
    exact kk v w1 hT H1 locs1 ls hP2 hD2 hS1 hl)
theorem r_callINF (X : g_OK G cc nL own mn Ts R D cI cZ cH) {y : MethodName} {wsy wsy' : List Cond} {bytes : ByteArray} {maxL : Nat} {ret : Option FieldType} {rmy : Room} {mc ms : Nat} {wc : va_W} {v0 : Option Value} {w0 : va_W} {st' : List Value} {i : Nat} {As : List Value} {b : Nat} (hCM : g_CM y wsy rmy D cI cZ cH (.ref b :: As) wc mc ms (g_Tm v0 w0)) (nA : Nat) (hG : GoodIn Ts wsy) (hw : wsy = Cond.code y bytes maxL none :: wsy') (hro : own = RX6) (hne : (i, y) ∈ g_nest) (hini : Cond.initialized y.cls ∈ Ts) (him : Cond.instanceMethod y ∈ Ts) (hyn : y.name = "<init>") (hdd : y.cls ≠ "java/lang/invoke/MethodHandle" ∧ y.cls ≠ "java/lang/invoke/VarHandle" ∧ (parseMethodDescriptor y.desc).map (fun d => d.parameters.length) = some nA) (hrc : rmy.cells = mc) (hrs : rmy.slots = ms) (hR : rmy.frames + 1 ≤ R.frames ∧ 8 + (maxL + 11) + rmy.locals ≤ R.locals) (hf : k + mc ≤ R.cells ∧ n + ms ≤ R.slots) (hn : As.length = nA) (hW : (rest.map fun v => v.category).sum ≤ 8) (hd : decode cc pc = .ok (.invokespecial i, 3))  (isC : List Nat) (hndC : va_nd isC = true) (hC : isC.map (fun i => ws[i]?) = wc.map some) (had : w0.map (fun q => q.1) = wc.map (fun q => q.1)) (hu : g_up isC w0 0 ws = ws') (hst' : v0.toList ++ rest = st') (hp : pc' = pc + 3) (kk : G (k + mc) (n + ms) ws' lv pc' st') : G k n ws lv pc (As.reverse ++ .ref b :: rest) := by
  obtain ⟨p, l, e, s, m, args, below, meth, c, A, H0, Q, rfl, hx, hb, hml, hown, hts, hmn, hlk, hK, hA⟩ := X
  subst hp
  intro H locs ls hP hD hS hl
  subst hro
  have hF := va_free hD hS hA isC hC
  have hPc := hP.sub isC (g_fm _ _ _ hC)
  have hDc : va_D (fun _ => True) wc := (va_D.weaken (B := fun _ => True) (ws := ws) hD (fun _ _ _ _ => trivial)).sub isC hndC hC
  refine g_after (a := (Value.ref b :: As).toArray) (va_runIN (host := RX6) (As := As) (rest := rest) ⟨hx, hb, hml, hown, hts⟩ (hCM l H.size) (⟨va_cnB nA hts hG hw hrc hrs (hK.2.2 (i, y) hne) (hts _ hini) hdd hR, hyn, hts _ him⟩) ⟨g_blind, fun U hU hW => ⟨rfl, by rw [hU], by rw [hU]; exact hPc, hK.moved hW, hDc⟩⟩ rfl hn hl.1 rfl (lv_room hW) hd hf) hS hF (fun v w1 H1 locs1 hT hP1 hD1 hk hS1 => by
    obtain ⟨rfl, rfl⟩ := hT
    obtain ⟨hP2, hD2⟩ := g_join hP hD isC hC had hk hP1
    subst hu; subst hst'
    exact kk H1 locs1 ls hP2 hD2 hS1 hl)
end GR
