/-! ===== CONTRACTS with any arrays told by what they stand for (CT3) ===== -/
def CT3 (l : Launch) (y : MethodName) (wy : List Cond) (rm : Room) (T : TT) (vals : List Value) (ws : va_W) (ret : Option Value) (P : (Nat → AR) → Prop) (ws' : (Nat → AR) → va_W) : Prop :=
  ∀ sz : Nat, Met l y wy rm (va_Pc vals (fun U => U.heap.size = sz ∧ va_P T.1 xcl ws U.heap ∧ va_K T.1 xcl (xtys T) U ∧ va_D (fun _ => True) ws ∧ SX T (va_A ws sz) U U.heap))
    (fun _ st oc t => (oc = .returned ret ∧ ∃ w : Nat → AR, P w ∧ va_P T.1 xcl (ws' w) t.heap) ∧ va_F (va_A ws sz) st t) 0 0 (va_A ws sz)
theorem CT3.Z {l : Launch} {y : MethodName} {wy wy' : List Cond} {rm : Room} {T : TT} {vals : List Value} {ws : va_W} {P : (Nat → AR) → Prop} {ws' : (Nat → AR) → va_W} {cc : ByteArray} {maxL : Nat} {rt : FieldType} {v : Int} {lv0 : List (Nat × Value)} (hy : plainName y.cls = true) (hw : wy = Cond.code y cc maxL (some rt) :: wy') (hlen : (lg_sl vals).length ≤ maxL) (hn : narrow rt (iv v) = iv v) (hlv : lv_args 0 vals = lv0)
    (h : ∀ M : MB, FM T M cc y.cls maxL wy rm → (∀ w : Nat → AR, P w → FinI T M cc maxL (iv v) (ws' w)) → VV T M maxL lv0 ws 0 0 0 []) : CT3 l y wy rm T vals ws (some (iv v)) P ws' := by
  intro sz
  refine Met.ofW (cc := cc) (maxL := maxL) (ret := some rt) hy hw ?_
  intro p e s m args below meth c s₁ B hml hv
  obtain ⟨rfl, hsz, hP, hK, hD0, hSX⟩ := hv
  have hr := B.returns
  have hts := atoms_spec (ws := wy) B.pre
  have hown : s.vm.findClass y.cls = some m.cls := findClass_of_methodNamed B.named
  have hlocks := B.notSynchronized
  subst hsz
  have hD := hD0.self (sz := s.heap.size)
  have hl := lv_entry vals (n := maxL) hlen
  rw [lg_entry_eq]
  rw [hlv] at hl
  have hF : ∀ w : Nat → AR, P w → FinI T (p, l, e, rm, s, m, vals.toArray, below, meth, c, MQ below (fun _ st oc t => (oc = .returned (some (iv v)) ∧ ∃ w : Nat → AR, P w ∧ va_P T.1 xcl (ws' w) t.heap) ∧ va_F (va_A ws s.heap.size) st t) vals.toArray s 0 0 (va_A ws s.heap.size), va_A ws s.heap.size) cc maxL (iv v) (ws' w) := by
    intro w hPwg lv pc hd ls H locs hl hP hD hS
    show W p l e rm s m vals.toArray below meth c H locs 0 0 (MQ below (fun _ st oc t => (oc = .returned (some (iv v)) ∧ ∃ w : Nat → AR, P w ∧ va_P T.1 xcl (ws' w) t.heap) ∧ va_F (va_A ws s.heap.size) st t) vals.toArray s 0 0 (va_A ws s.heap.size)) (F0 m pc ls [.int (Int32.ofInt v)])
    exact W.zret (v := Int32.ofInt v) B.exec B.bytes hr hn (fun t ht hW => ⟨⟨rfl, w, hPwg, by rw [ht]; exact hP⟩, hS.F ht⟩) hS.2.2 hd hlocks
  exact h (p, l, e, rm, s, m, vals.toArray, below, meth, c, MQ below (fun _ st oc t => (oc = .returned (some (iv v)) ∧ ∃ w : Nat → AR, P w ∧ va_P T.1 xcl (ws' w) t.heap) ∧ va_F (va_A ws s.heap.size) st t) vals.toArray s 0 0 (va_A ws s.heap.size), va_A ws s.heap.size)
    ⟨B.exec, B.bytes, hml, hown, hts, hK, fun q h => Or.inr h, rfl, hSX⟩
    hF _ _ _ hl hP hD va_S.rf
theorem CT3.V {l : Launch} {y : MethodName} {wy wy' : List Cond} {rm : Room} {T : TT} {vals : List Value} {ws : va_W} {P : (Nat → AR) → Prop} {ws' : (Nat → AR) → va_W} {cc : ByteArray} {maxL : Nat} {lv0 : List (Nat × Value)} (hy : plainName y.cls = true) (hw : wy = Cond.code y cc maxL none :: wy') (hlen : (lg_sl vals).length ≤ maxL) (hlv : lv_args 0 vals = lv0)
    (h : ∀ M : MB, FM T M cc y.cls maxL wy rm → (∀ w : Nat → AR, P w → FinV T M cc maxL (ws' w)) → VV T M maxL lv0 ws 0 0 0 []) : CT3 l y wy rm T vals ws none P ws' := by
  intro sz
  refine Met.ofW (cc := cc) (maxL := maxL) (ret := none) hy hw ?_
  intro p e s m args below meth c s₁ B hml hv
  obtain ⟨rfl, hsz, hP, hK, hD0, hSX⟩ := hv
  have hr := B.returns
  have hts := atoms_spec (ws := wy) B.pre
  have hown : s.vm.findClass y.cls = some m.cls := findClass_of_methodNamed B.named
  have hlocks := B.notSynchronized
  subst hsz
  have hD := hD0.self (sz := s.heap.size)
  have hl := lv_entry vals (n := maxL) hlen
  rw [lg_entry_eq]
  rw [hlv] at hl
  have hF : ∀ w : Nat → AR, P w → FinV T (p, l, e, rm, s, m, vals.toArray, below, meth, c, MQ below (fun _ st oc t => (oc = .returned (none) ∧ ∃ w : Nat → AR, P w ∧ va_P T.1 xcl (ws' w) t.heap) ∧ va_F (va_A ws s.heap.size) st t) vals.toArray s 0 0 (va_A ws s.heap.size), va_A ws s.heap.size) cc maxL (ws' w) := by
    intro w hPwg lv pc hd ls H locs hl hP hD hS
    show W p l e rm s m vals.toArray below meth c H locs 0 0 (MQ below (fun _ st oc t => (oc = .returned (none) ∧ ∃ w : Nat → AR, P w ∧ va_P T.1 xcl (ws' w) t.heap) ∧ va_F (va_A ws s.heap.size) st t) vals.toArray s 0 0 (va_A ws s.heap.size)) (F0 m pc ls [])
    exact W.vret B.exec B.bytes hr (fun t ht hW => ⟨⟨rfl, w, hPwg, by rw [ht]; exact hP⟩, hS.F ht⟩) hS.2.2 hd hlocks
  exact h (p, l, e, rm, s, m, vals.toArray, below, meth, c, MQ below (fun _ st oc t => (oc = .returned none ∧ ∃ w : Nat → AR, P w ∧ va_P T.1 xcl (ws' w) t.heap) ∧ va_F (va_A ws s.heap.size) st t) vals.toArray s 0 0 (va_A ws s.heap.size), va_A ws s.heap.size)
    ⟨B.exec, B.bytes, hml, hown, hts, hK, fun q h => Or.inr h, rfl, hSX⟩
    hF _ _ _ hl hP hD va_S.rf
section Calls5
variable {T : TT} {M : MB} {cc : ByteArray} {own : String} {nL : Nat} {Ts : List Cond} {R0 : Room} {lv lv' : List (Nat × Value)} {ws : va_W} {ce sl pc : Nat} {rest : List Value}
theorem xr_callV3 (hM : FM T M cc own nL Ts R0) {y : MethodName} {wy wy' : List Cond} {bytes : ByteArray} {maxL index n : Nat} {rt : Option FieldType} {rm : Room} {C : String} {b : Nat} {As : List Value} {wc : va_W} {P : (Nat → AR) → Prop} {cs ws' : (Nat → AR) → va_W} {ret : Option Value} (hct : CT3 M.2.1 y wy rm T (.ref b :: As) wc ret P cs)
    (hg : GoodIn Ts (wsV own index C y wy)) (hw : wy = Cond.code y bytes maxL rt :: wy') (hrm : rm.cells = 0 ∧ rm.slots = 0) (hy : y.cls = C ∧ y.cls ≠ "java/lang/invoke/MethodHandle" ∧ y.cls ≠ "java/lang/invoke/VarHandle" ∧ (parseMethodDescriptor y.desc).map (fun d => d.parameters.length) = some n) (hn : As.length = n) (hR : rm.frames + 1 ≤ R0.frames ∧ 8 + (maxL + 11) + rm.locals ≤ R0.locals)
    (is : List Nat) (hnd : va_nd is = true) (hs : is.map (fun i => ws[i]?) = wc.map some) (hadr : ∀ w, (cs w).map Prod.fst = wc.map Prod.fst) {q : vw_C} {fs : List Value} (jr ci : Nat) (hq : xcl[ci]? = some q) (hqC : q.1 = C) (hrec : wc[jr]? = some (b, ob ci fs)) {st st' : List Value} (hst : st = As.reverse ++ .ref b :: rest) (hst' : ret.toList ++ rest = st') (hcat : (rest.map fun v => v.category).sum ≤ 8) (hce : ce ≤ R0.cells ∧ sl ≤ R0.slots) (hset : ∀ w, setA ws is (cs w) = ws' w) (hd : decode cc pc = .ok (.invokevirtual index, 3))
    (k : ∀ w : Nat → AR, P w → VV T M nL lv (ws' w) ce sl (pc + 3) st') : VV T M nL lv ws ce sl pc st := by
  obtain ⟨p, l, e, R, s, m, args, below, meth, c, Q, A⟩ := M
  obtain ⟨hx, hb, hml, hown, hts, hK, hA, hR0, hSX⟩ := hM
  intro ls H locs hl hP hD hS
  subst hst hst'
  have hPc : va_P T.1 xcl wc H := hP.sub is (xl_fm hs)
  have hDc := hD.sub is hnd hs
  have hFc := va_free hD hS hA is hs
  have hR1 : R = R0 := hR0
  have hrun := va_runV (R := R) (p := p) (l := l) (m := m) (s := s) (args := args) (c := c) (H := H) (locs := locs) (cells := ce) (slots := sl) (below := below) (e := e) (meth := meth) (g := F0 m pc ls (As.reverse ++ .ref b :: rest)) (As := As) (rest := rest) ⟨hx, hb, hml, hown, hts⟩ (hct H.size) (cwV n hts hg hw hrm.1 hrm.2 hy (by rw [hR1]; exact hR)) ⟨xl_blind, by have h9 := va_recv hK hPc hq hrec; rw [hqC] at h9; exact h9, fun U hU hW => ⟨rfl, by rw [hU], by rw [hU]; exact hPc, va_K.moved hW.alike hK, hDc.weaken (fun _ _ _ _ => trivial), by rw [hU]; exact ((hSX.kept hS.2.1).narrow hFc).warm hW⟩⟩ rfl hn hl.1 rfl (lv_room hcat) hd ⟨by rw [hR1]; exact hce.1, by rw [hR1]; exact hce.2⟩
  intro X hXH X0
  obtain ⟨v, st₀, t, T', L, h0, X', hL, e1, e2, ⟨⟨hoc, w, hPwg, hP1⟩, hF⟩, sts⟩ := hrun X hXH X0
  have hv : v = ret := by injection hoc
  subst hv
  obtain ⟨hz, hk⟩ := hF
  rw [h0] at hz hk
  have hSn := xl_S (L := L) hS hz hk hFc hL
  obtain ⟨t2, a1, b1⟩ := k w hPwg ls t.heap (locs ++ L) hl (hset w ▸ va_P.setA hP hD is hs (hadr w) hk hP1) (hset w ▸ hD.adr (setA_fst is ws (cs w) wc hs (hadr w) hnd)) hSn T' e1 X'
  exact ⟨t2, sts t2 a1, b1⟩
theorem xr_callS3 (hM : FM T M cc own nL Ts R0) {y : MethodName} {wy wy' : List Cond} {bytes : ByteArray} {maxL index n : Nat} {rt : Option FieldType} {rm : Room}  {As : List Value} {wc : va_W} {P : (Nat → AR) → Prop} {cs ws' : (Nat → AR) → va_W} {ret : Option Value} (hct : CT3 M.2.1 y wy rm T As wc ret P cs)
    (hg : GoodIn Ts (va_wsS own index y wy)) (hw : wy = Cond.code y bytes maxL rt :: wy') (hrm : rm.cells = 0 ∧ rm.slots = 0) (hy : y.cls ≠ "java/lang/invoke/MethodHandle" ∧ y.cls ≠ "java/lang/invoke/VarHandle" ∧ (parseMethodDescriptor y.desc).map (fun d => d.parameters.length) = some n) (hn : As.length = n) (hR : rm.frames + 1 ≤ R0.frames ∧ 8 + (maxL + 11) + rm.locals ≤ R0.locals)
    (is : List Nat) (hnd : va_nd is = true) (hs : is.map (fun i => ws[i]?) = wc.map some) (hadr : ∀ w, (cs w).map Prod.fst = wc.map Prod.fst)  {st st' : List Value} (hst : st = As.reverse ++ rest) (hst' : ret.toList ++ rest = st') (hcat : (rest.map fun v => v.category).sum ≤ 8) (hce : ce ≤ R0.cells ∧ sl ≤ R0.slots) (hset : ∀ w, setA ws is (cs w) = ws' w) (hd : decode cc pc = .ok (.invokestatic index, 3))
    (k : ∀ w : Nat → AR, P w → VV T M nL lv (ws' w) ce sl (pc + 3) st') : VV T M nL lv ws ce sl pc st := by
  obtain ⟨p, l, e, R, s, m, args, below, meth, c, Q, A⟩ := M
  obtain ⟨hx, hb, hml, hown, hts, hK, hA, hR0, hSX⟩ := hM
  intro ls H locs hl hP hD hS
  subst hst hst'
  have hPc : va_P T.1 xcl wc H := hP.sub is (xl_fm hs)
  have hDc := hD.sub is hnd hs
  have hFc := va_free hD hS hA is hs
  have hR1 : R = R0 := hR0
  have hrun := va_runS (R := R) (p := p) (l := l) (m := m) (s := s) (args := args) (c := c) (H := H) (locs := locs) (cells := ce) (slots := sl) (below := below) (e := e) (meth := meth) (g := F0 m pc ls (As.reverse ++ rest)) (As := As) (rest := rest) ⟨hx, hb, hml, hown, hts⟩ (hct H.size) (va_cwS n hts hg hw hrm.1 hrm.2 hy (by rw [hR1]; exact hR)) ⟨xl_blind, fun U hU hW => ⟨rfl, by rw [hU], by rw [hU]; exact hPc, va_K.moved hW.alike hK, hDc.weaken (fun _ _ _ _ => trivial), by rw [hU]; exact ((hSX.kept hS.2.1).narrow hFc).warm hW⟩⟩ rfl hn hl.1 rfl (lv_room hcat) hd ⟨by rw [hR1]; exact hce.1, by rw [hR1]; exact hce.2⟩
  intro X hXH X0
  obtain ⟨v, st₀, t, T', L, h0, X', hL, e1, e2, ⟨⟨hoc, w, hPwg, hP1⟩, hF⟩, sts⟩ := hrun X hXH X0
  have hv : v = ret := by injection hoc
  subst hv
  obtain ⟨hz, hk⟩ := hF
  rw [h0] at hz hk
  have hSn := xl_S (L := L) hS hz hk hFc hL
  obtain ⟨t2, a1, b1⟩ := k w hPwg ls t.heap (locs ++ L) hl (hset w ▸ va_P.setA hP hD is hs (hadr w) hk hP1) (hset w ▸ hD.adr (setA_fst is ws (cs w) wc hs (hadr w) hnd)) hSn T' e1 X'
  exact ⟨t2, sts t2 a1, b1⟩
end Calls5
