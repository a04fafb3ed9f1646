/-! ===== CONSTRUCTORS that make an array of windows ===== -/
def CNa (l : Launch) (y : MethodName) (wy : List Cond) (rm : Room) (T : TT) (vals : List Value) (ws : va_W) (mc ms : Nat) (ws' : (Nat → Nat) → va_W) : Prop :=
  ∀ sz : Nat, Met l y wy rm (va_Pc vals (fun U => U.heap.size = sz ∧ va_P T.1 xcl ws U.heap ∧ va_K T.1 xcl (xtys T) U ∧ va_D (fun _ => True) ws ∧ SX T (va_A ws sz) U U.heap ∧ va_AO RX3 U))
    (fun _ st oc t => (oc = .returned none ∧ ∃ x : Nat → Nat, va_P T.1 xcl (ws' x) t.heap ∧ va_D (va_A ws sz) (ws' x)) ∧ va_F (va_A ws sz) st t) mc ms (va_A ws sz)
theorem CNa.V {l : Launch} {y : MethodName} {wy wy' : List Cond} {rm : Room} {T : TT} {vals : List Value} {ws : va_W} {mc ms : Nat} {ws' : (Nat → Nat) → va_W} {cc : ByteArray} {maxL : Nat} {lv0 : List (Nat × Value)} (hy : plainName y.cls = true) (hw : wy = Cond.code y cc maxL none :: wy') (hlen : (lg_sl vals).length ≤ maxL) (hlv : lv_args 0 vals = lv0)
    (h : ∀ M : MB, FM T M cc y.cls maxL wy rm → M.2.2.2.2.2.2.2.2.1.name = y.name → va_AO RX3 M.2.2.2.2.1 → (∀ x : Nat → Nat, FinN T M cc maxL mc ms (ws' x)) → VV T M maxL lv0 ws 0 0 0 []) : CNa l y wy rm T vals ws mc ms ws' := by
  intro sz
  refine Met.ofW (cc := cc) (maxL := maxL) (ret := none) hy hw ?_
  intro p e s m args below meth c s₁ B hml hv
  obtain ⟨rfl, hsz, hP, hK, hD0, hSX, hAO⟩ := hv
  have hr := B.returns
  have hts := atoms_spec (ws := wy) B.pre
  have hown : s.vm.findClass y.cls = some m.cls := findClass_of_methodNamed B.named
  have hlocks := B.notSynchronized
  have hin : meth.name = y.name := (name_of_methodNamed B.named B.method).1
  subst hsz
  have hD := hD0.self (sz := s.heap.size)
  have hl := lv_entry vals (n := maxL) hlen
  rw [lg_entry_eq]
  rw [hlv] at hl
  have hF : ∀ x : Nat → Nat, FinN T (p, l, e, rm, s, m, vals.toArray, below, meth, c, MQ below (fun _ st oc t => (oc = .returned (none) ∧ ∃ x : Nat → Nat, va_P T.1 xcl (ws' x) t.heap ∧ va_D (va_A ws s.heap.size) (ws' x)) ∧ va_F (va_A ws s.heap.size) st t) vals.toArray s mc ms (va_A ws s.heap.size), va_A ws s.heap.size) cc maxL mc ms (ws' x) := by
    intro x lv pc hd ls H locs hl hP hD hS
    show W p l e rm s m vals.toArray below meth c H locs mc ms (MQ below (fun _ st oc t => (oc = .returned (none) ∧ ∃ x : Nat → Nat, va_P T.1 xcl (ws' x) t.heap ∧ va_D (va_A ws s.heap.size) (ws' x)) ∧ va_F (va_A ws s.heap.size) st t) vals.toArray s mc ms (va_A ws s.heap.size)) (F0 m pc ls [])
    exact W.vret B.exec B.bytes hr (fun t ht hW => ⟨⟨rfl, x, by rw [ht]; exact hP, hD⟩, hS.F ht⟩) hS.2.2 hd hlocks
  exact h (p, l, e, rm, s, m, vals.toArray, below, meth, c, MQ below (fun _ st oc t => (oc = .returned none ∧ ∃ x : Nat → Nat, va_P T.1 xcl (ws' x) t.heap ∧ va_D (va_A ws s.heap.size) (ws' x)) ∧ va_F (va_A ws s.heap.size) st t) vals.toArray s mc ms (va_A ws s.heap.size), va_A ws s.heap.size)
    ⟨B.exec, B.bytes, hml, hown, hts, hK, fun q h => Or.inr h, rfl, hSX⟩ hin hAO
    hF _ _ _ hl hP hD va_S.rf
theorem xl_blindA {T : TT} {vals : List Value} {ws : va_W} {sz : Nat} : FrameBlind (va_Pc vals (fun U => U.heap.size = sz ∧ va_P T.1 xcl ws U.heap ∧ va_K T.1 xcl (xtys T) U ∧ va_D (fun _ => True) ws ∧ SX T (va_A ws sz) U U.heap ∧ va_AO RX3 U)) := fun a U g mk q => by
  obtain ⟨q0, q1, qP, qK, qD, qX, qA⟩ := q
  exact ⟨q0, q1, qP, va_K.moved (u := U) (U := U.calling g mk a) (Vm.Alike.refl U.vm) qK, qD, qX.warm (s := U) (State.WarmedH.refl U), va_AO.moved (u := U) (U := U.calling g mk a) (Vm.Alike.refl U.vm) qA⟩
section Ctor3
variable {T : TT} {M : MB} {cc : ByteArray} {own : String} {nL : Nat} {Ts : List Cond} {R0 : Room} {lv lv' : List (Nat × Value)} {ws ws' : va_W} {ce sl pc : Nat} {rest : List Value}
theorem xr_callIa (hM : FM T M cc own nL Ts R0) {y : MethodName} {wy wy' : List Cond} {bytes : ByteArray} {maxL index : Nat} {rm : Room} {b mc ms : Nat} {wc wr : va_W} {cs : (Nat → Nat) → va_W} (hAO : va_AO RX3 M.2.2.2.2.1) (hct : CNa M.2.1 y wy rm T [.ref b] wc mc ms cs)
    (hg : GoodIn Ts wy) (hw : wy = Cond.code y bytes maxL none :: wy') (hrm : rm.cells = mc ∧ rm.slots = ms) (hini : Cond.initialized y.cls ∈ Ts) (hlk : Cond.methodLink own index y ∈ Ts) (hin : Cond.instanceMethod y ∈ Ts) (hy1 : y.name = "<init>") (hy : y.cls ≠ "java/lang/invoke/MethodHandle" ∧ y.cls ≠ "java/lang/invoke/VarHandle" ∧ (parseMethodDescriptor y.desc).map (fun d => d.parameters.length) = some 0) (hR : rm.frames + 1 ≤ R0.frames ∧ 8 + (maxL + 11) + rm.locals ≤ R0.locals)
    (is isR : List Nat) (hnd : va_nd is = true) (hs : is.map (fun i => ws[i]?) = wc.map some) (hsr : isR.map (fun i => ws[i]?) = wr.map some) (hndr : va_nd isR = true) (hdis : ∀ i ∈ isR, i ∉ is) (hcat : (rest.map fun v => v.category).sum ≤ 8) (hce : ce + mc ≤ R0.cells ∧ sl + ms ≤ R0.slots) (hd : decode cc pc = .ok (.invokespecial index, 3))
    (k : ∀ x : Nat → Nat, VV T M nL lv (wr ++ cs x) (ce + mc) (sl + ms) (pc + 3) rest) : VV T M nL lv ws ce sl pc (.ref b :: rest) := by
  obtain ⟨p, l, e, R, s, m, args, below, meth, c, Q, A⟩ := M
  obtain ⟨hx, hb, hml, hown, hts, hK, hA, hR0, hSX⟩ := hM
  intro ls H locs hl hP hD hS
  have hPc : va_P T.1 xcl wc H := hP.sub is (xl_fm hs)
  have hDc := hD.sub is hnd hs
  have hFc := va_free hD hS hA is hs
  have hR1 : R = R0 := hR0
  have hrun := va_runI (R := R) (p := p) (l := l) (m := m) (s := s) (args := args) (c := c) (H := H) (locs := locs) (cells := ce) (slots := sl) (below := below) (e := e) (meth := meth) (g := F0 m pc ls (.ref b :: rest)) (As := []) (rest := rest) ⟨hx, hb, hml, hown, hts⟩ (hct H.size) (cwI 0 hts hg hw hrm.1 hrm.2 (hts _ hini) (hts _ hlk) (hts _ hin) hy1 hy (by rw [hR1]; exact hR)) ⟨xl_blindA, fun U hU hW => ⟨rfl, by rw [hU], by rw [hU]; exact hPc, va_K.moved hW.alike hK, hDc.weaken (fun _ _ _ _ => trivial), by rw [hU]; exact ((hSX.kept hS.2.1).narrow hFc).warm hW, va_AO.moved hW.alike hAO⟩⟩ rfl rfl hl.1 rfl (lv_room hcat) hd ⟨by rw [hR1]; exact hce.1, by rw [hR1]; exact hce.2⟩
  intro X hXH X0
  obtain ⟨v, st₀, t, T', L, h0, X', hL, e1, e2, ⟨⟨hoc, x, hP1, hD1⟩, hF⟩, sts⟩ := hrun X hXH X0
  have hv : v = none := by injection hoc
  subst hv
  obtain ⟨hz, hk⟩ := hF
  rw [h0] at hz hk
  have hSn := xl_S (L := L) hS hz hk hFc hL
  obtain ⟨hP2, hD2⟩ := va_join hP hD is isR hs hsr hndr hdis hk hFc hP1 hD1
  obtain ⟨t2, a1, b1⟩ := k x ls t.heap (locs ++ L) hl hP2 hD2 hSn T' e1 X'
  exact ⟨t2, sts t2 a1, b1⟩
end Ctor3
section Ctor4
variable {T : TT} {M : MB} {cc : ByteArray} {own : String} {nL : Nat} {Ts : List Cond} {R0 : Room} {lv lv' : List (Nat × Value)} {ws ws' : va_W} {ce sl pc : Nat} {rest : List Value}
theorem xr_newq (hM : FM T M cc own nL Ts R0) (hAO : va_AO RX3 M.2.2.2.2.1) {index : Nat} {n : Int} (h1 : Cond.classLink own index RX3 ∈ Ts) (hn : 0 ≤ n ∧ n ≤ 100000) (hbytes : n.toNat * 4 ≤ 536870912) (hce : ce + 1 ≤ R0.cells) (hsl : sl + n.toNat ≤ R0.slots) (hd : decode cc pc = .ok (.anewarray index, 3))
    (k : ∀ q : Nat, VV T M nL lv (ws ++ [(q, qa T.2.2.2.2.1 n.toNat (fun _ => none))]) (ce + 1) (sl + n.toNat) (pc + 3) (.ref q :: rest)) : VV T M nL lv ws ce sl pc (iv n :: rest) := by
  obtain ⟨p, l, e, R, s, m, args, below, meth, c, Q, A⟩ := M
  obtain ⟨hx, hb, hml, hown, hts, hK, hA, hR, hSX⟩ := hM
  intro ls H locs hl hP hD hS
  have hR1 : R = R0 := hR
  have hni : ¬ Int32.ofInt n < 0 := by
    rw [Int32.lt_iff_toInt_lt, Int32.toInt_ofInt_of_le (by omega) (by omega)]
    show ¬ n < 0
    omega
  refine va_newq (N' := n.toNat) hx hb hown (hts _ h1) hAO hK hP hD hS hA hni (xi_cl ⟨by omega, by omega⟩) hbytes (by rw [hR1]; exact hce) (by rw [hR1]; exact hsl) hd (fun q cA H1 hK1 hP1 hD1 hS1 => ?_)
  have e1 : cA = T.2.2.2.2.1 := va_RA_1 (hK1.2 (xtys T).length (cA, .object RX3) (by simp)).2 (hK.2 3 (T.2.2.2.2.1, .object RX3) rfl).2
  subst e1
  exact k q ls H1 locs hl hP1 hD1 hS1
theorem xr_astq (hM : FM T M cc own nL Ts R0) (q0 qk : Nat) {a v n : Nat} {f : Nat → Option Nat} {vs : List Value} {i : Int} (ha : ws[q0]? = some (a, qa T.2.2.2.2.1 n f)) (hv : ws[qk]? = some (v, ob 3 vs)) (hi : 0 ≤ i ∧ i < (n : Int) ∧ i < 2147483648) (hs : ws.set q0 (a, qa T.2.2.2.2.1 n (va_up f i.toNat (some v))) = ws') (hd : decode cc pc = .ok (.aastore, 1))
    (k : VV T M nL lv ws' ce sl (pc + 1) rest) : VV T M nL lv ws ce sl pc (.ref v :: iv i :: .ref a :: rest) := by
  obtain ⟨p, l, e, R, s, m, args, below, meth, c, Q, A⟩ := M
  obtain ⟨hx, hb, hml, hown, hts, hK, hA, hR, hSX⟩ := hM
  intro ls H locs hl hP hD hS
  subst hs
  refine va_astq (r := (RX3, TX3, 4)) hx hb hK hP hD hS q0 3 qk 3 ha rfl hv rfl (xi_in hi) hd (fun H1 locs1 hP1 hD1 hS1 => ?_)
  rw [xi_cl ⟨hi.1, hi.2.2⟩] at hP1 hD1
  exact k ls H1 locs1 hl hP1 hD1 hS1
end Ctor4
