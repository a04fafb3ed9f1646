section Calls3
variable {T : TT} {M : MB} {cc : ByteArray} {own : String} {nL : Nat} {Ts : List Cond} {R0 : Room} {lv lv' : List (Nat × Value)} {sg sg' : List va_W} {ce sl pc : Nat} {rest : List Value}
theorem xr_callVG (hM : FM T M cc own nL Ts R0) {y : MethodName} {wy wy' : List Cond} {bytes : ByteArray} {maxL index n : Nat} {rt : Option FieldType} {rm : Room} {C : String} {b : Nat} {As : List Value} {cs cs' : List va_W} {wc wc' : va_W} {ret : Option Value} (hct : CT M.2.1 y wy rm T (.ref b :: As) wc ret wc') (hwc : wc = cs.flatten) (hwc' : wc' = cs'.flatten)
    (hg : GoodIn Ts (wsV own index C y wy)) (hw : wy = Cond.code y bytes maxL rt :: wy') (hrm : rm.cells = 0 ∧ rm.slots = 0) (hy : y.cls = C ∧ y.cls ≠ "java/lang/invoke/MethodHandle" ∧ y.cls ≠ "java/lang/invoke/VarHandle" ∧ (parseMethodDescriptor y.desc).map (fun d => d.parameters.length) = some n) (hn : As.length = n) (hR : rm.frames + 1 ≤ R0.frames ∧ 8 + (maxL + 11) + rm.locals ≤ R0.locals)
    (is : List Nat) (hnd : va_nd is = true) (hs : is.map (fun i => sg[i]?) = cs.map some) (hadr : cs'.map (fun s => s.map Prod.fst) = cs.map (fun s => s.map Prod.fst)) {q : vw_C} {fs : List Value} (jr ci : Nat) (hq : xcl[ci]? = some q) (hqC : q.1 = C) (hrec : wc[jr]? = some (b, ob ci fs)) {st st' : List Value} (hst : st = As.reverse ++ .ref b :: rest) (hst' : ret.toList ++ rest = st') (hcat : (rest.map fun v => v.category).sum ≤ 8) (hce : ce ≤ R0.cells ∧ sl ≤ R0.slots) (hset : setG sg is cs' = sg') (hd : decode cc pc = .ok (.invokevirtual index, 3))
    (k : VV T M nL lv sg'.flatten ce sl (pc + 3) st') : VV T M nL lv sg.flatten ce sl pc st := by
  obtain ⟨p, l, e, R, s, m, args, below, meth, c, Q, A⟩ := M
  obtain ⟨hx, hb, hml, hown, hts, hK, hA, hR0, hSX⟩ := hM
  intro ls H locs hl hP hD hS
  subst hset hst hst' hwc hwc'
  have hlen : cs'.length = cs.length := by have h1 := congrArg List.length hadr; simpa using h1
  have hPc : va_P T.1 xcl cs.flatten H := seg_P hP hs
  have hDc := seg_D hD hnd hs
  have hFc := seg_free hD hS hA hs
  have hR1 : R = R0 := hR0
  have hrun := va_runV (R := R) (p := p) (l := l) (m := m) (s := s) (args := args) (c := c) (H := H) (locs := locs) (cells := ce) (slots := sl) (below := below) (e := e) (meth := meth) (g := F0 m pc ls (As.reverse ++ .ref b :: rest)) (As := As) (rest := rest) ⟨hx, hb, hml, hown, hts⟩ (hct H.size) (cwV n hts hg hw hrm.1 hrm.2 hy (by rw [hR1]; exact hR)) ⟨xl_blind, by have h9 := va_recv hK hPc hq hrec; rw [hqC] at h9; exact h9, fun U hU hW => ⟨rfl, by rw [hU], by rw [hU]; exact hPc, va_K.moved hW.alike hK, hDc.weaken (fun _ _ _ _ => trivial), by rw [hU]; exact ((hSX.kept hS.2.1).narrow hFc).warm hW⟩⟩ rfl hn hl.1 rfl (lv_room hcat) hd ⟨by rw [hR1]; exact hce.1, by rw [hR1]; exact hce.2⟩
  intro X hXH X0
  obtain ⟨v, st₀, t, T', L, h0, X', hL, e1, e2, ⟨⟨hoc, hP1⟩, hF⟩, sts⟩ := hrun X hXH X0
  have hv : v = ret := by injection hoc
  subst hv
  obtain ⟨hz, hk⟩ := hF
  rw [h0] at hz hk
  have hSn := xl_S (L := L) hS hz hk hFc hL
  obtain ⟨t2, a1, b1⟩ := k ls t.heap (locs ++ L) hl (seg_set hP hD is hs hlen hk hP1) (hD.adr (seg_adr hs hnd hadr)) hSn T' e1 X'
  exact ⟨t2, sts t2 a1, b1⟩
theorem xr_callSG (hM : FM T M cc own nL Ts R0) {y : MethodName} {wy wy' : List Cond} {bytes : ByteArray} {maxL index n : Nat} {rt : Option FieldType} {rm : Room}  {As : List Value} {cs cs' : List va_W} {wc wc' : va_W} {ret : Option Value} (hct : CT M.2.1 y wy rm T As wc ret wc') (hwc : wc = cs.flatten) (hwc' : wc' = cs'.flatten)
    (hg : GoodIn Ts (va_wsS own index y wy)) (hw : wy = Cond.code y bytes maxL rt :: wy') (hrm : rm.cells = 0 ∧ rm.slots = 0) (hy : y.cls ≠ "java/lang/invoke/MethodHandle" ∧ y.cls ≠ "java/lang/invoke/VarHandle" ∧ (parseMethodDescriptor y.desc).map (fun d => d.parameters.length) = some n) (hn : As.length = n) (hR : rm.frames + 1 ≤ R0.frames ∧ 8 + (maxL + 11) + rm.locals ≤ R0.locals)
    (is : List Nat) (hnd : va_nd is = true) (hs : is.map (fun i => sg[i]?) = cs.map some) (hadr : cs'.map (fun s => s.map Prod.fst) = cs.map (fun s => s.map Prod.fst))  {st st' : List Value} (hst : st = As.reverse ++ rest) (hst' : ret.toList ++ rest = st') (hcat : (rest.map fun v => v.category).sum ≤ 8) (hce : ce ≤ R0.cells ∧ sl ≤ R0.slots) (hset : setG sg is cs' = sg') (hd : decode cc pc = .ok (.invokestatic index, 3))
    (k : VV T M nL lv sg'.flatten ce sl (pc + 3) st') : VV T M nL lv sg.flatten ce sl pc st := by
  obtain ⟨p, l, e, R, s, m, args, below, meth, c, Q, A⟩ := M
  obtain ⟨hx, hb, hml, hown, hts, hK, hA, hR0, hSX⟩ := hM
  intro ls H locs hl hP hD hS
  subst hset hst hst' hwc hwc'
  have hlen : cs'.length = cs.length := by have h1 := congrArg List.length hadr; simpa using h1
  have hPc : va_P T.1 xcl cs.flatten H := seg_P hP hs
  have hDc := seg_D hD hnd hs
  have hFc := seg_free hD hS hA hs
  have hR1 : R = R0 := hR0
  have hrun := va_runS (R := R) (p := p) (l := l) (m := m) (s := s) (args := args) (c := c) (H := H) (locs := locs) (cells := ce) (slots := sl) (below := below) (e := e) (meth := meth) (g := F0 m pc ls (As.reverse ++ rest)) (As := As) (rest := rest) ⟨hx, hb, hml, hown, hts⟩ (hct H.size) (va_cwS n hts hg hw hrm.1 hrm.2 hy (by rw [hR1]; exact hR)) ⟨xl_blind, fun U hU hW => ⟨rfl, by rw [hU], by rw [hU]; exact hPc, va_K.moved hW.alike hK, hDc.weaken (fun _ _ _ _ => trivial), by rw [hU]; exact ((hSX.kept hS.2.1).narrow hFc).warm hW⟩⟩ rfl hn hl.1 rfl (lv_room hcat) hd ⟨by rw [hR1]; exact hce.1, by rw [hR1]; exact hce.2⟩
  intro X hXH X0
  obtain ⟨v, st₀, t, T', L, h0, X', hL, e1, e2, ⟨⟨hoc, hP1⟩, hF⟩, sts⟩ := hrun X hXH X0
  have hv : v = ret := by injection hoc
  subst hv
  obtain ⟨hz, hk⟩ := hF
  rw [h0] at hz hk
  have hSn := xl_S (L := L) hS hz hk hFc hL
  obtain ⟨t2, a1, b1⟩ := k ls t.heap (locs ++ L) hl (seg_set hP hD is hs hlen hk hP1) (hD.adr (seg_adr hs hnd hadr)) hSn T' e1 X'
  exact ⟨t2, sts t2 a1, b1⟩
end Calls3
