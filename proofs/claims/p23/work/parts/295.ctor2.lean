/-! ===== CONSTRUCTORS: the call of one ===== -/
section Ctor2
variable {T : TT} {M : MB} {cc : ByteArray} {own : String} {nL : Nat} {Ts : List Cond} {R0 : Room} {lv lv' : List (Nat × Value)} {ws ws' : va_W} {ce sl pc : Nat} {rest : List Value}
theorem xr_callI (hM : FM T M cc own nL Ts R0) {y : MethodName} {wy wy' : List Cond} {bytes : ByteArray} {maxL index : Nat} {rm : Room} {b mc ms : Nat} {wc wr : va_W} {cs : (Nat → Nat) → va_W} (hct : CN M.2.1 y wy rm T [.ref b] wc mc ms cs)
    (hg : GoodIn Ts wy) (hw : wy = Cond.code y bytes maxL none :: wy') (hrm : rm.cells = mc ∧ rm.slots = ms) (hini : Cond.initialized y.cls ∈ Ts) (hlk : Cond.methodLink own index y ∈ Ts) (hin : Cond.instanceMethod y ∈ Ts) (hy1 : y.name = "<init>") (hy : y.cls ≠ "java/lang/invoke/MethodHandle" ∧ y.cls ≠ "java/lang/invoke/VarHandle" ∧ (parseMethodDescriptor y.desc).map (fun d => d.parameters.length) = some 0) (hR : rm.frames + 1 ≤ R0.frames ∧ 8 + (maxL + 11) + rm.locals ≤ R0.locals)
    (is isR : List Nat) (hnd : va_nd is = true) (hs : is.map (fun i => ws[i]?) = wc.map some) (hsr : isR.map (fun i => ws[i]?) = wr.map some) (hndr : va_nd isR = true) (hdis : ∀ i ∈ isR, i ∉ is) (hcat : (rest.map fun v => v.category).sum ≤ 8) (hce : ce + mc ≤ R0.cells ∧ sl + ms ≤ R0.slots) (hd : decode cc pc = .ok (.invokespecial index, 3))
    (k : ∀ x : Nat → Nat, VV T M nL lv (wr ++ cs x) (ce + mc) (sl + ms) (pc + 3) rest) : VV T M nL lv ws ce sl pc (.ref b :: rest) := by
  obtain ⟨p, l, e, R, s, m, args, below, meth, c, Q, A⟩ := M
  obtain ⟨hx, hb, hml, hown, hts, hK, hA, hR0, hSX⟩ := hM
  intro ls H locs hl hP hD hS
  have hPc : va_P T.1 xcl wc H := hP.sub is (xl_fm hs)
  have hDc := hD.sub is hnd hs
  have hFc := va_free hD hS hA is hs
  have hR1 : R = R0 := hR0
  have hrun := va_runI (R := R) (p := p) (l := l) (m := m) (s := s) (args := args) (c := c) (H := H) (locs := locs) (cells := ce) (slots := sl) (below := below) (e := e) (meth := meth) (g := F0 m pc ls (.ref b :: rest)) (As := []) (rest := rest) ⟨hx, hb, hml, hown, hts⟩ (hct H.size) (cwI 0 hts hg hw hrm.1 hrm.2 (hts _ hini) (hts _ hlk) (hts _ hin) hy1 hy (by rw [hR1]; exact hR)) ⟨xl_blind, fun U hU hW => ⟨rfl, by rw [hU], by rw [hU]; exact hPc, va_K.moved hW.alike hK, hDc.weaken (fun _ _ _ _ => trivial), by rw [hU]; exact ((hSX.kept hS.2.1).narrow hFc).warm hW⟩⟩ rfl rfl hl.1 rfl (lv_room hcat) hd ⟨by rw [hR1]; exact hce.1, by rw [hR1]; exact hce.2⟩
  intro X hXH X0
  obtain ⟨v, st₀, t, T', L, h0, X', hL, e1, e2, ⟨⟨hoc, x, hP1, hD1⟩, hF⟩, sts⟩ := hrun X hXH X0
  have hv : v = none := by injection hoc
  subst hv
  obtain ⟨hz, hk⟩ := hF
  rw [h0] at hz hk
  have hSn := xl_S (L := L) hS hz hk hFc hL
  obtain ⟨hP2, hD2⟩ := va_join hP hD is isR hs hsr hndr hdis hk hFc hP1 hD1
  obtain ⟨t2, a1, b1⟩ := k x ls t.heap (locs ++ L) hl hP2 hD2 hSn T' e1 X'
  exact ⟨t2, sts t2 a1, b1⟩
end Ctor2
