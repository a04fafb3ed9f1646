/-! ===== CONTRACTS: how one is proved (CT.Z, CT.V, CT.A) and used (xr_callV, xr_callS) ===== -/
theorem xl_fm {α : Type} {is : List Nat} {f : Nat → Option α} {wc : List α} (h : is.map f = wc.map some) : is.filterMap f = wc := by
  have h1 := congrArg (List.filterMap id) h
  rw [List.filterMap_map, List.filterMap_map] at h1
  simpa using h1
theorem xl_blind {T : TT} {vals : List Value} {ws : va_W} {sz : Nat} : FrameBlind (va_Pc vals (fun U => U.heap.size = sz ∧ va_P T.1 xcl ws U.heap ∧ va_K T.1 xcl (xtys T) U ∧ va_D (fun _ => True) ws ∧ SX T (va_A ws sz) U U.heap)) := fun a U g mk q => by
  obtain ⟨q0, q1, qP, qK, qD, qX⟩ := q
  exact ⟨q0, q1, qP, va_K.moved (u := U) (U := U.calling g mk a) (Vm.Alike.refl U.vm) qK, qD, qX.warm (s := U) (State.WarmedH.refl U)⟩
theorem xl_S {A0 A1 : Nat → Prop} {H0 H H1 : Heap} {locs L : List Loc} (hS : va_S A0 H0 H locs) (hz : H.size ≤ H1.size) (hk : ∀ q : Nat, q < H.size → ¬ A1 q → H1[q]? = H[q]?) (hA : ∀ q, A1 q → A0 q) (hL : ∀ q ∈ L, A1 q.base) : va_S A0 H0 H1 (locs ++ L) :=
  ⟨Nat.le_trans hS.1 hz, fun q h1 h2 => by rw [hk q (Nat.lt_of_lt_of_le h1 hS.1) (fun z => h2 (hA q z))]; exact hS.2.1 q h1 h2, fun q hq => by
    rcases List.mem_append.mp hq with h | h
    · exact hS.2.2 q h
    · exact hA _ (hL q h)⟩
theorem CT.Z {l : Launch} {y : MethodName} {wy wy' : List Cond} {rm : Room} {T : TT} {vals : List Value} {ws ws' : va_W} {cc : ByteArray} {maxL : Nat} {rt : FieldType} {v : Int} {lv0 : List (Nat × Value)} (hy : plainName y.cls = true) (hw : wy = Cond.code y cc maxL (some rt) :: wy') (hlen : (lg_sl vals).length ≤ maxL) (hn : narrow rt (iv v) = iv v) (hlv : lv_args 0 vals = lv0)
    (h : ∀ M : MB, FM T M cc y.cls maxL wy rm → FinI T M cc maxL (iv v) ws' → VV T M maxL lv0 ws 0 0 0 []) : CT l y wy rm T vals ws (some (iv v)) ws' := by
  intro sz
  refine Met.ofW (cc := cc) (maxL := maxL) (ret := some rt) hy hw ?_
  intro p e s m args below meth c s₁ B hml hv
  obtain ⟨rfl, hsz, hP, hK, hD0, hSX⟩ := hv
  have hr := B.returns
  have hts := atoms_spec (ws := wy) B.pre
  have hown : s.vm.findClass y.cls = some m.cls := findClass_of_methodNamed B.named
  have hlocks := B.notSynchronized
  subst hsz
  have hD := hD0.self (sz := s.heap.size)
  have hl := lv_entry vals (n := maxL) hlen
  rw [lg_entry_eq]
  rw [hlv] at hl
  have hF : FinI T (p, l, e, rm, s, m, vals.toArray, below, meth, c, MQ below (fun _ st oc t => (oc = .returned (some (iv v)) ∧ va_P T.1 xcl ws' t.heap) ∧ va_F (va_A ws s.heap.size) st t) vals.toArray s 0 0 (va_A ws s.heap.size), va_A ws s.heap.size) cc maxL (iv v) ws' := by
    intro lv pc hd ls H locs hl hP hD hS
    show W p l e rm s m vals.toArray below meth c H locs 0 0 (MQ below (fun _ st oc t => (oc = .returned (some (iv v)) ∧ va_P T.1 xcl ws' t.heap) ∧ va_F (va_A ws s.heap.size) st t) vals.toArray s 0 0 (va_A ws s.heap.size)) (F0 m pc ls [.int (Int32.ofInt v)])
    exact W.zret (v := Int32.ofInt v) B.exec B.bytes hr hn (fun t ht hW => ⟨⟨rfl, by rw [ht]; exact hP⟩, hS.F ht⟩) hS.2.2 hd hlocks
  exact h (p, l, e, rm, s, m, vals.toArray, below, meth, c, MQ below (fun _ st oc t => (oc = .returned (some (iv v)) ∧ va_P T.1 xcl ws' t.heap) ∧ va_F (va_A ws s.heap.size) st t) vals.toArray s 0 0 (va_A ws s.heap.size), va_A ws s.heap.size)
    ⟨B.exec, B.bytes, hml, hown, hts, hK, fun q h => Or.inr h, rfl, hSX⟩
    hF _ _ _ hl hP hD va_S.rf
theorem CT.V {l : Launch} {y : MethodName} {wy wy' : List Cond} {rm : Room} {T : TT} {vals : List Value} {ws ws' : va_W} {cc : ByteArray} {maxL : Nat} {lv0 : List (Nat × Value)} (hy : plainName y.cls = true) (hw : wy = Cond.code y cc maxL none :: wy') (hlen : (lg_sl vals).length ≤ maxL) (hlv : lv_args 0 vals = lv0)
    (h : ∀ M : MB, FM T M cc y.cls maxL wy rm → FinV T M cc maxL ws' → VV T M maxL lv0 ws 0 0 0 []) : CT l y wy rm T vals ws none ws' := by
  intro sz
  refine Met.ofW (cc := cc) (maxL := maxL) (ret := none) hy hw ?_
  intro p e s m args below meth c s₁ B hml hv
  obtain ⟨rfl, hsz, hP, hK, hD0, hSX⟩ := hv
  have hr := B.returns
  have hts := atoms_spec (ws := wy) B.pre
  have hown : s.vm.findClass y.cls = some m.cls := findClass_of_methodNamed B.named
  have hlocks := B.notSynchronized
  subst hsz
  have hD := hD0.self (sz := s.heap.size)
  have hl := lv_entry vals (n := maxL) hlen
  rw [lg_entry_eq]
  rw [hlv] at hl
  have hF : FinV T (p, l, e, rm, s, m, vals.toArray, below, meth, c, MQ below (fun _ st oc t => (oc = .returned (none) ∧ va_P T.1 xcl ws' t.heap) ∧ va_F (va_A ws s.heap.size) st t) vals.toArray s 0 0 (va_A ws s.heap.size), va_A ws s.heap.size) cc maxL ws' := by
    intro lv pc hd ls H locs hl hP hD hS
    show W p l e rm s m vals.toArray below meth c H locs 0 0 (MQ below (fun _ st oc t => (oc = .returned (none) ∧ va_P T.1 xcl ws' t.heap) ∧ va_F (va_A ws s.heap.size) st t) vals.toArray s 0 0 (va_A ws s.heap.size)) (F0 m pc ls [])
    exact W.vret B.exec B.bytes hr (fun t ht hW => ⟨⟨rfl, by rw [ht]; exact hP⟩, hS.F ht⟩) hS.2.2 hd hlocks
  exact h (p, l, e, rm, s, m, vals.toArray, below, meth, c, MQ below (fun _ st oc t => (oc = .returned none ∧ va_P T.1 xcl ws' t.heap) ∧ va_F (va_A ws s.heap.size) st t) vals.toArray s 0 0 (va_A ws s.heap.size), va_A ws s.heap.size)
    ⟨B.exec, B.bytes, hml, hown, hts, hK, fun q h => Or.inr h, rfl, hSX⟩
    hF _ _ _ hl hP hD va_S.rf
theorem CT.A {l : Launch} {y : MethodName} {wy wy' : List Cond} {rm : Room} {T : TT} {vals : List Value} {ws ws' : va_W} {cc : ByteArray} {maxL : Nat} {rn : String} {b : Nat} {lv0 : List (Nat × Value)} (hy : plainName y.cls = true) (hw : wy = Cond.code y cc maxL (some (.object rn)) :: wy') (hlen : (lg_sl vals).length ≤ maxL) (hlv : lv_args 0 vals = lv0)
    (h : ∀ M : MB, FM T M cc y.cls maxL wy rm → FinA T M cc maxL (.ref b) ws' → VV T M maxL lv0 ws 0 0 0 []) : CT l y wy rm T vals ws (some (.ref b)) ws' := by
  intro sz
  refine Met.ofW (cc := cc) (maxL := maxL) (ret := some (.object rn)) hy hw ?_
  intro p e s m args below meth c s₁ B hml hv
  obtain ⟨rfl, hsz, hP, hK, hD0, hSX⟩ := hv
  have hr := B.returns
  have hts := atoms_spec (ws := wy) B.pre
  have hown : s.vm.findClass y.cls = some m.cls := findClass_of_methodNamed B.named
  have hlocks := B.notSynchronized
  subst hsz
  have hD := hD0.self (sz := s.heap.size)
  have hl := lv_entry vals (n := maxL) hlen
  rw [lg_entry_eq]
  rw [hlv] at hl
  have hF : FinA T (p, l, e, rm, s, m, vals.toArray, below, meth, c, MQ below (fun _ st oc t => (oc = .returned (some (.ref b)) ∧ va_P T.1 xcl ws' t.heap) ∧ va_F (va_A ws s.heap.size) st t) vals.toArray s 0 0 (va_A ws s.heap.size), va_A ws s.heap.size) cc maxL (.ref b) ws' := by
    intro lv pc hd ls H locs hl hP hD hS
    show W p l e rm s m vals.toArray below meth c H locs 0 0 (MQ below (fun _ st oc t => (oc = .returned (some (.ref b)) ∧ va_P T.1 xcl ws' t.heap) ∧ va_F (va_A ws s.heap.size) st t) vals.toArray s 0 0 (va_A ws s.heap.size)) (F0 m pc ls [.ref b])
    exact W.aret (v := .ref b) B.exec B.bytes hr (Or.inl ⟨rn, rfl⟩) (Or.inr ⟨b, rfl⟩) (fun t ht hW => ⟨⟨rfl, by rw [ht]; exact hP⟩, hS.F ht⟩) hS.2.2 hd hlocks
  exact h (p, l, e, rm, s, m, vals.toArray, below, meth, c, MQ below (fun _ st oc t => (oc = .returned (some (.ref b)) ∧ va_P T.1 xcl ws' t.heap) ∧ va_F (va_A ws s.heap.size) st t) vals.toArray s 0 0 (va_A ws s.heap.size), va_A ws s.heap.size)
    ⟨B.exec, B.bytes, hml, hown, hts, hK, fun q h => Or.inr h, rfl, hSX⟩
    hF _ _ _ hl hP hD va_S.rf
section Calls2
variable {T : TT} {M : MB} {cc : ByteArray} {own : String} {nL : Nat} {Ts : List Cond} {R0 : Room} {lv lv' : List (Nat × Value)} {ws ws' : va_W} {ce sl pc : Nat} {rest : List Value}
theorem xr_callV (hM : FM T M cc own nL Ts R0) {y : MethodName} {wy wy' : List Cond} {bytes : ByteArray} {maxL index n : Nat} {rt : Option FieldType} {rm : Room} {C : String} {b : Nat} {As : List Value} {wc cs : va_W} {ret : Option Value} (hct : CT M.2.1 y wy rm T (.ref b :: As) wc ret cs)
    (hg : GoodIn Ts (wsV own index C y wy)) (hw : wy = Cond.code y bytes maxL rt :: wy') (hrm : rm.cells = 0 ∧ rm.slots = 0) (hy : y.cls = C ∧ y.cls ≠ "java/lang/invoke/MethodHandle" ∧ y.cls ≠ "java/lang/invoke/VarHandle" ∧ (parseMethodDescriptor y.desc).map (fun d => d.parameters.length) = some n) (hn : As.length = n) (hR : rm.frames + 1 ≤ R0.frames ∧ 8 + (maxL + 11) + rm.locals ≤ R0.locals)
    (is : List Nat) (hnd : va_nd is = true) (hs : is.map (fun i => ws[i]?) = wc.map some) (hadr : cs.map Prod.fst = wc.map Prod.fst) {q : vw_C} {fs : List Value} (jr ci : Nat) (hq : xcl[ci]? = some q) (hqC : q.1 = C) (hrec : wc[jr]? = some (b, ob ci fs)) {st st' : List Value} (hst : st = As.reverse ++ .ref b :: rest) (hst' : ret.toList ++ rest = st') (hcat : (rest.map fun v => v.category).sum ≤ 8) (hce : ce ≤ R0.cells ∧ sl ≤ R0.slots) (hset : setA ws is cs = ws') (hd : decode cc pc = .ok (.invokevirtual index, 3))
    (k : VV T M nL lv ws' ce sl (pc + 3) st') : VV T M nL lv ws ce sl pc st := by
  obtain ⟨p, l, e, R, s, m, args, below, meth, c, Q, A⟩ := M
  obtain ⟨hx, hb, hml, hown, hts, hK, hA, hR0, hSX⟩ := hM
  intro ls H locs hl hP hD hS
  subst hset hst hst'
  have hPc : va_P T.1 xcl wc H := hP.sub is (xl_fm hs)
  have hDc := hD.sub is hnd hs
  have hFc := va_free hD hS hA is hs
  have hR1 : R = R0 := hR0
  have hrun := va_runV (R := R) (p := p) (l := l) (m := m) (s := s) (args := args) (c := c) (H := H) (locs := locs) (cells := ce) (slots := sl) (below := below) (e := e) (meth := meth) (g := F0 m pc ls (As.reverse ++ .ref b :: rest)) (As := As) (rest := rest) ⟨hx, hb, hml, hown, hts⟩ (hct H.size) (cwV n hts hg hw hrm.1 hrm.2 hy (by rw [hR1]; exact hR)) ⟨xl_blind, by have h9 := va_recv hK hPc hq hrec; rw [hqC] at h9; exact h9, fun U hU hW => ⟨rfl, by rw [hU], by rw [hU]; exact hPc, va_K.moved hW.alike hK, hDc.weaken (fun _ _ _ _ => trivial), by rw [hU]; exact ((hSX.kept hS.2.1).narrow hFc).warm hW⟩⟩ rfl hn hl.1 rfl (lv_room hcat) hd ⟨by rw [hR1]; exact hce.1, by rw [hR1]; exact hce.2⟩
  intro X hXH X0
  obtain ⟨v, st₀, t, T', L, h0, X', hL, e1, e2, ⟨⟨hoc, hP1⟩, hF⟩, sts⟩ := hrun X hXH X0
  have hv : v = ret := by injection hoc
  subst hv
  obtain ⟨hz, hk⟩ := hF
  rw [h0] at hz hk
  have hSn := xl_S (L := L) hS hz hk hFc hL
  obtain ⟨t2, a1, b1⟩ := k ls t.heap (locs ++ L) hl (va_P.setA hP hD is hs hadr hk hP1) (hD.adr (setA_fst is ws cs wc hs hadr hnd)) hSn T' e1 X'
  exact ⟨t2, sts t2 a1, b1⟩
theorem xr_callS (hM : FM T M cc own nL Ts R0) {y : MethodName} {wy wy' : List Cond} {bytes : ByteArray} {maxL index n : Nat} {rt : Option FieldType} {rm : Room}  {As : List Value} {wc cs : va_W} {ret : Option Value} (hct : CT M.2.1 y wy rm T As wc ret cs)
    (hg : GoodIn Ts (va_wsS own index y wy)) (hw : wy = Cond.code y bytes maxL rt :: wy') (hrm : rm.cells = 0 ∧ rm.slots = 0) (hy : y.cls ≠ "java/lang/invoke/MethodHandle" ∧ y.cls ≠ "java/lang/invoke/VarHandle" ∧ (parseMethodDescriptor y.desc).map (fun d => d.parameters.length) = some n) (hn : As.length = n) (hR : rm.frames + 1 ≤ R0.frames ∧ 8 + (maxL + 11) + rm.locals ≤ R0.locals)
    (is : List Nat) (hnd : va_nd is = true) (hs : is.map (fun i => ws[i]?) = wc.map some) (hadr : cs.map Prod.fst = wc.map Prod.fst)  {st st' : List Value} (hst : st = As.reverse ++ rest) (hst' : ret.toList ++ rest = st') (hcat : (rest.map fun v => v.category).sum ≤ 8) (hce : ce ≤ R0.cells ∧ sl ≤ R0.slots) (hset : setA ws is cs = ws') (hd : decode cc pc = .ok (.invokestatic index, 3))
    (k : VV T M nL lv ws' ce sl (pc + 3) st') : VV T M nL lv ws ce sl pc st := by
  obtain ⟨p, l, e, R, s, m, args, below, meth, c, Q, A⟩ := M
  obtain ⟨hx, hb, hml, hown, hts, hK, hA, hR0, hSX⟩ := hM
  intro ls H locs hl hP hD hS
  subst hset hst hst'
  have hPc : va_P T.1 xcl wc H := hP.sub is (xl_fm hs)
  have hDc := hD.sub is hnd hs
  have hFc := va_free hD hS hA is hs
  have hR1 : R = R0 := hR0
  have hrun := va_runS (R := R) (p := p) (l := l) (m := m) (s := s) (args := args) (c := c) (H := H) (locs := locs) (cells := ce) (slots := sl) (below := below) (e := e) (meth := meth) (g := F0 m pc ls (As.reverse ++ rest)) (As := As) (rest := rest) ⟨hx, hb, hml, hown, hts⟩ (hct H.size) (va_cwS n hts hg hw hrm.1 hrm.2 hy (by rw [hR1]; exact hR)) ⟨xl_blind, fun U hU hW => ⟨rfl, by rw [hU], by rw [hU]; exact hPc, va_K.moved hW.alike hK, hDc.weaken (fun _ _ _ _ => trivial), by rw [hU]; exact ((hSX.kept hS.2.1).narrow hFc).warm hW⟩⟩ rfl hn hl.1 rfl (lv_room hcat) hd ⟨by rw [hR1]; exact hce.1, by rw [hR1]; exact hce.2⟩
  intro X hXH X0
  obtain ⟨v, st₀, t, T', L, h0, X', hL, e1, e2, ⟨⟨hoc, hP1⟩, hF⟩, sts⟩ := hrun X hXH X0
  have hv : v = ret := by injection hoc
  subst hv
  obtain ⟨hz, hk⟩ := hF
  rw [h0] at hz hk
  have hSn := xl_S (L := L) hS hz hk hFc hL
  obtain ⟨t2, a1, b1⟩ := k ls t.heap (locs ++ L) hl (va_P.setA hP hD is hs hadr hk hP1) (hD.adr (setA_fst is ws cs wc hs hadr hnd)) hSn T' e1 X'
  exact ⟨t2, sts t2 a1, b1⟩
theorem xr_callVr (hM : FM T M cc own nL Ts R0) {y : MethodName} {wy wy' : List Cond} {bytes : ByteArray} {maxL index n : Nat} {rt : Option FieldType} {rm : Room} {C : String} {b : Nat} {As : List Value} {wc : va_W} {ret : Option Value} (hct : CT M.2.1 y wy rm T (.ref b :: As) wc ret wc)
    (hg : GoodIn Ts (wsV own index C y wy)) (hw : wy = Cond.code y bytes maxL rt :: wy') (hrm : rm.cells = 0 ∧ rm.slots = 0) (hy : y.cls = C ∧ y.cls ≠ "java/lang/invoke/MethodHandle" ∧ y.cls ≠ "java/lang/invoke/VarHandle" ∧ (parseMethodDescriptor y.desc).map (fun d => d.parameters.length) = some n) (hn : As.length = n) (hR : rm.frames + 1 ≤ R0.frames ∧ 8 + (maxL + 11) + rm.locals ≤ R0.locals)
    (is : List Nat) (hnd : va_nd is = true) (hs : is.map (fun i => ws[i]?) = wc.map some) {q : vw_C} {fs : List Value} (jr ci : Nat) (hq : xcl[ci]? = some q) (hqC : q.1 = C) (hrec : wc[jr]? = some (b, ob ci fs)) {st st' : List Value} (hst : st = As.reverse ++ .ref b :: rest) (hst' : ret.toList ++ rest = st') (hcat : (rest.map fun v => v.category).sum ≤ 8) (hce : ce ≤ R0.cells ∧ sl ≤ R0.slots) (hd : decode cc pc = .ok (.invokevirtual index, 3))
    (k : VV T M nL lv ws ce sl (pc + 3) st') : VV T M nL lv ws ce sl pc st :=
  xr_callV hM hct hg hw hrm hy hn hR is hnd hs rfl jr ci hq hqC hrec hst hst' hcat hce (setA_self is ws wc hs) hd k
theorem xr_callSr (hM : FM T M cc own nL Ts R0) {y : MethodName} {wy wy' : List Cond} {bytes : ByteArray} {maxL index n : Nat} {rt : Option FieldType} {rm : Room}  {As : List Value} {wc : va_W} {ret : Option Value} (hct : CT M.2.1 y wy rm T As wc ret wc)
    (hg : GoodIn Ts (va_wsS own index y wy)) (hw : wy = Cond.code y bytes maxL rt :: wy') (hrm : rm.cells = 0 ∧ rm.slots = 0) (hy : y.cls ≠ "java/lang/invoke/MethodHandle" ∧ y.cls ≠ "java/lang/invoke/VarHandle" ∧ (parseMethodDescriptor y.desc).map (fun d => d.parameters.length) = some n) (hn : As.length = n) (hR : rm.frames + 1 ≤ R0.frames ∧ 8 + (maxL + 11) + rm.locals ≤ R0.locals)
    (is : List Nat) (hnd : va_nd is = true) (hs : is.map (fun i => ws[i]?) = wc.map some)  {st st' : List Value} (hst : st = As.reverse ++ rest) (hst' : ret.toList ++ rest = st') (hcat : (rest.map fun v => v.category).sum ≤ 8) (hce : ce ≤ R0.cells ∧ sl ≤ R0.slots) (hd : decode cc pc = .ok (.invokestatic index, 3))
    (k : VV T M nL lv ws ce sl (pc + 3) st') : VV T M nL lv ws ce sl pc st :=
  xr_callS hM hct hg hw hrm hy hn hR is hnd hs rfl hst hst' hcat hce (setA_self is ws wc hs) hd k
theorem xr_callSNr (hM : FM T M cc RX3 nL Ts R0) {wy wy' : List Cond} {bytes : ByteArray} {maxL n : Nat} {rt : Option FieldType} {rm : Room} {As : List Value} {wc : va_W} {ret : Option Value} (hct : CT M.2.1 yX4_isOutside wy rm T As wc ret wc)
    (hg : GoodIn Ts wy) (hw : wy = Cond.code yX4_isOutside bytes maxL rt :: wy') (hrm : rm.cells = 0 ∧ rm.slots = 0) (hy : yX4_isOutside.cls ≠ "java/lang/invoke/MethodHandle" ∧ yX4_isOutside.cls ≠ "java/lang/invoke/VarHandle" ∧ (parseMethodDescriptor yX4_isOutside.desc).map (fun d => d.parameters.length) = some n) (hi0 : Cond.initialized RX4 ∈ Ts) (hs0 : Cond.static yX4_isOutside ∈ Ts) (hn : As.length = n) (hR : rm.frames + 1 ≤ R0.frames ∧ 8 + (maxL + 11) + rm.locals ≤ R0.locals)
    (is : List Nat) (hnd : va_nd is = true) (hs : is.map (fun i => ws[i]?) = wc.map some) {st st' : List Value} (hst : st = As.reverse ++ rest) (hst' : ret.toList ++ rest = st') (hcat : (rest.map fun v => v.category).sum ≤ 8) (hce : ce ≤ R0.cells ∧ sl ≤ R0.slots) (hd : decode cc pc = .ok (.invokestatic 35, 3))
    (k : VV T M nL lv ws ce sl (pc + 3) st') : VV T M nL lv ws ce sl pc st := by
  obtain ⟨p, l, e, R, s, m, args, below, meth, c, Q, A⟩ := M
  obtain ⟨hx, hb, hml, hown, hts, hK, hA, hR0, hSX⟩ := hM
  intro ls H locs hl hP hD hS
  subst hst hst'
  have hPc : va_P T.1 xcl wc H := hP.sub is (xl_fm hs)
  have hDc := hD.sub is hnd hs
  have hFc := va_free hD hS hA is hs
  have hR1 : R = R0 := hR0
  have hrun := va_runSN (R := R) (p := p) (l := l) (m := m) (s := s) (args := args) (c := c) (H := H) (locs := locs) (cells := ce) (slots := sl) (below := below) (e := e) (meth := meth) (g := F0 m pc ls (As.reverse ++ rest)) (As := As) (rest := rest) ⟨hx, hb, hml, hown, hts⟩ (hct H.size) ⟨va_cnB n hts hg hw hrm.1 hrm.2 hSX.1 (hts _ hi0) hy (by rw [hR1]; exact hR), hts _ hs0, trivial⟩ ⟨xl_blind, fun U hU hW => ⟨rfl, by rw [hU], by rw [hU]; exact hPc, va_K.moved hW.alike hK, hDc.weaken (fun _ _ _ _ => trivial), by rw [hU]; exact ((hSX.kept hS.2.1).narrow hFc).warm hW⟩⟩ rfl hn hl.1 rfl (lv_room hcat) hd ⟨by rw [hR1]; exact hce.1, by rw [hR1]; exact hce.2⟩
  intro X hXH X0
  obtain ⟨v, st₀, t, T', L, h0, X', hL, e1, e2, ⟨⟨hoc, hP1⟩, hF⟩, sts⟩ := hrun X hXH X0
  have hv : v = ret := by injection hoc
  subst hv
  obtain ⟨hz, hk⟩ := hF
  rw [h0] at hz hk
  have hSn := xl_S (L := L) hS hz hk hFc hL
  obtain ⟨t2, a1, b1⟩ := k ls t.heap (locs ++ L) hl ((setA_self is ws wc hs) ▸ va_P.setA hP hD is hs rfl hk hP1) (hD) hSn T' e1 X'
  exact ⟨t2, sts t2 a1, b1⟩
-- ends
theorem xr_iret {v v' : Int} (hF : FinI T M cc nL (iv v) ws') (hd : decode cc pc = .ok (.ireturn, 1)) (hv : v' = v) (hw : ws = ws') : VV T M nL lv ws 0 0 pc [iv v'] := by subst hv hw; exact hF lv pc hd
theorem xr_vret (hF : FinV T M cc nL ws') (hd : decode cc pc = .ok (.return_, 1)) (hw : ws = ws') : VV T M nL lv ws 0 0 pc [] := by subst hw; exact hF lv pc hd
theorem xr_aret {b b' : Nat} (hF : FinA T M cc nL (.ref b) ws') (hd : decode cc pc = .ok (.areturn, 1)) (hv : b' = b) (hw : ws = ws') : VV T M nL lv ws 0 0 pc [.ref b'] := by subst hv hw; exact hF lv pc hd
/-- the world told otherwise -/
theorem xr_ws (h : ∀ H, va_P T.1 xcl ws H → va_P T.1 xcl ws' H) (ha : ws'.map Prod.fst = ws.map Prod.fst) (k : VV T M nL lv ws' ce sl pc rest) : VV T M nL lv ws ce sl pc rest :=
  fun ls H locs hl hP hD hS => k ls H locs hl (h H hP) (hD.adr ha) hS
theorem arrV_congr (cI : ClassId) (N : Nat) (f g : Nat → Value) (h : ∀ j, j < N → f j = g j) : arrV cI N f = arrV cI N g := by
  unfold arrV
  congr 1
  apply Array.ext
  · simp
  · intro i h1 h2
    simp only [Array.getElem_ofFn]
    exact h i (by simpa using h1)
/-- an array's cell holds what it holds below its length -/
theorem va_P.arr {D : va_G} {cl : List vw_C} {ws : va_W} {H : Heap} (hP : va_P D cl ws H) (q : Nat) {a n : Nat} {c : ClassId} {w w' : Nat → Int} (he : ws[q]? = some (a, ia c n w)) (hw : ∀ j, j < n → w j = w' j) : va_P D cl (ws.set q (a, ia c n w')) H := by
  intro k e hk
  rw [List.getElem?_set] at hk
  split at hk
  · rename_i hqk
    subst hqk
    split at hk
    · cases hk
      have h1 := hP q _ he
      show H[a]? = some (vp_cell c (n, .inl (fun j => Int32.ofInt (w' j))))
      have h2 : H[a]? = some (vp_cell c (n, .inl (fun j => Int32.ofInt (w j)))) := h1
      rw [h2]
      show some (arrV c n (fun j => .int (Int32.ofInt (w j)))) = some (arrV c n (fun j => .int (Int32.ofInt (w' j))))
      rw [arrV_congr c n _ _ (fun j hj => by rw [hw j hj])]
    · cases hk
  · exact hP k e hk
-- switches
theorem xr_tableIn (hM : FM T M cc own nL Ts R0) {dflt lo hi k x off : Int} {offs : Array Int} {len : Nat} (tgt : Nat) (hd : decode cc pc = .ok (.tableswitch dflt lo hi offs, len)) (hxk : x = k) (h1 : lo ≤ k ∧ k ≤ hi) (h2 : -2147483648 ≤ k ∧ k < 2147483648) (ho : offs[(k - lo).toNat]? = some off) (ht : (pc : Int) + off = (tgt : Int))
    (kk : VV T M nL lv ws ce sl tgt rest) : VV T M nL lv ws ce sl pc (iv x :: rest) := by
  obtain ⟨p, l, e, R, s, m, args, below, meth, c, Q, A⟩ := M
  obtain ⟨hx, hb, hml, hown, hts, hK, hA, hR0, hSX⟩ := hM
  intro ls H locs hl hP hD hS
  subst hxk
  have e := Int32.toInt_ofInt_of_le (n := x) (by omega) (by omega)
  exact lv_tableIn hx hb hd (by rw [e]; omega) (by rw [e]; omega) (by rw [e]; exact ho) ht (kk ls H locs hl hP hD hS)
theorem xr_tableOut (hM : FM T M cc own nL Ts R0) {dflt lo hi x : Int} {offs : Array Int} {len : Nat} (tgt : Nat) (hd : decode cc pc = .ok (.tableswitch dflt lo hi offs, len)) (h2 : -2147483648 ≤ x ∧ x < 2147483648) (h1 : x < lo ∨ hi < x) (ht : (pc : Int) + dflt = (tgt : Int))
    (kk : VV T M nL lv ws ce sl tgt rest) : VV T M nL lv ws ce sl pc (iv x :: rest) := by
  obtain ⟨p, l, e, R, s, m, args, below, meth, c, Q, A⟩ := M
  obtain ⟨hx, hb, hml, hown, hts, hK, hA, hR0, hSX⟩ := hM
  intro ls H locs hl hP hD hS
  have e := Int32.toInt_ofInt_of_le (n := x) (by omega) (by omega)
  exact lv_tableOut hx hb hd (by rw [e]; exact h1) ht (kk ls H locs hl hP hD hS)
theorem xr_lookup (hM : FM T M cc own nL Ts R0) {dflt x off : Int} {ps : Array (Int × Int)} {len : Nat} (tgt : Nat) (hd : decode cc pc = .ok (.lookupswitch dflt ps, len)) (hp : (ps.toList.zip (ps.toList.drop 1)).all (fun (a, next) => a.1 < next.1) = true) (h2 : -2147483648 ≤ x ∧ x < 2147483648) (ho : Op.lookupswitch.offset ps.toList dflt x = off) (ht : (pc : Int) + off = (tgt : Int))
    (kk : VV T M nL lv ws ce sl tgt rest) : VV T M nL lv ws ce sl pc (iv x :: rest) := by
  obtain ⟨p, l, e, R, s, m, args, below, meth, c, Q, A⟩ := M
  obtain ⟨hx, hb, hml, hown, hts, hK, hA, hR0, hSX⟩ := hM
  intro ls H locs hl hP hD hS
  have e := Int32.toInt_ofInt_of_le (n := x) (by omega) (by omega)
  exact lv_lookup hx hb hd hp (by rw [e]; exact ho) ht (kk ls H locs hl hP hD hS)
theorem xr_lookupK (hM : FM T M cc own nL Ts R0) {dflt x k off : Int} {ps : Array (Int × Int)} {len : Nat} (tgt : Nat) (hd : decode cc pc = .ok (.lookupswitch dflt ps, len)) (hp : (ps.toList.zip (ps.toList.drop 1)).all (fun (a, next) => a.1 < next.1) = true) (hxk : x = k) (h2 : -2147483648 ≤ k ∧ k < 2147483648) (ho : Op.lookupswitch.offset ps.toList dflt k = off) (ht : (pc : Int) + off = (tgt : Int))
    (kk : VV T M nL lv ws ce sl tgt rest) : VV T M nL lv ws ce sl pc (iv x :: rest) := by
  subst hxk
  exact xr_lookup hM tgt hd hp h2 ho ht kk
theorem xl_def2 {a1 o1 a2 o2 d x : Int} (h1 : x ≠ a1) (h2 : x ≠ a2) : Op.lookupswitch.offset [(a1, o1), (a2, o2)] d x = d := by
  simp [Op.lookupswitch.offset, Ne.symm h1, Ne.symm h2]
theorem xl_def6 {a1 o1 a2 o2 a3 o3 a4 o4 a5 o5 a6 o6 d x : Int} (h1 : x ≠ a1) (h2 : x ≠ a2) (h3 : x ≠ a3) (h4 : x ≠ a4) (h5 : x ≠ a5) (h6 : x ≠ a6) : Op.lookupswitch.offset [(a1, o1), (a2, o2), (a3, o3), (a4, o4), (a5, o5), (a6, o6)] d x = d := by
  simp [Op.lookupswitch.offset, Ne.symm h1, Ne.symm h2, Ne.symm h3, Ne.symm h4, Ne.symm h5, Ne.symm h6]
end Calls2
