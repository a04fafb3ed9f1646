/-! ===== CONSTRUCTORS: contracts that make cells (CN), and their rows ===== -/
def CN (l : Launch) (y : MethodName) (wy : List Cond) (rm : Room) (T : TT) (vals : List Value) (ws : va_W) (mc ms : Nat) (ws' : (Nat → Nat) → va_W) : Prop :=
  ∀ sz : Nat, Met l y wy rm (va_Pc vals (fun U => U.heap.size = sz ∧ va_P T.1 xcl ws U.heap ∧ va_K T.1 xcl (xtys T) U ∧ va_D (fun _ => True) ws ∧ SX T (va_A ws sz) U U.heap))
    (fun _ st oc t => (oc = .returned none ∧ ∃ x : Nat → Nat, va_P T.1 xcl (ws' x) t.heap ∧ va_D (va_A ws sz) (ws' x)) ∧ va_F (va_A ws sz) st t) mc ms (va_A ws sz)
def FinN (T : TT) (M : MB) (cc : ByteArray) (nL : Nat) (ce sl : Nat) (ws : va_W) : Prop := ∀ (lv : List (Nat × Value)) (pc : Nat), decode cc pc = .ok (.return_, 1) → VV T M nL lv ws ce sl pc []
theorem CN.V {l : Launch} {y : MethodName} {wy wy' : List Cond} {rm : Room} {T : TT} {vals : List Value} {ws : va_W} {mc ms : Nat} {ws' : (Nat → Nat) → va_W} {cc : ByteArray} {maxL : Nat} {lv0 : List (Nat × Value)} (hy : plainName y.cls = true) (hw : wy = Cond.code y cc maxL none :: wy') (hlen : (lg_sl vals).length ≤ maxL) (hlv : lv_args 0 vals = lv0)
    (h : ∀ M : MB, FM T M cc y.cls maxL wy rm → M.2.2.2.2.2.2.2.2.1.name = y.name → (∀ x : Nat → Nat, FinN T M cc maxL mc ms (ws' x)) → VV T M maxL lv0 ws 0 0 0 []) : CN l y wy rm T vals ws mc ms ws' := by
  intro sz
  refine Met.ofW (cc := cc) (maxL := maxL) (ret := none) hy hw ?_
  intro p e s m args below meth c s₁ B hml hv
  obtain ⟨rfl, hsz, hP, hK, hD0, hSX⟩ := hv
  have hr := B.returns
  have hts := atoms_spec (ws := wy) B.pre
  have hown : s.vm.findClass y.cls = some m.cls := findClass_of_methodNamed B.named
  have hlocks := B.notSynchronized
  have hin : meth.name = y.name := (name_of_methodNamed B.named B.method).1
  subst hsz
  have hD := hD0.self (sz := s.heap.size)
  have hl := lv_entry vals (n := maxL) hlen
  rw [lg_entry_eq]
  rw [hlv] at hl
  have hF : ∀ x : Nat → Nat, FinN T (p, l, e, rm, s, m, vals.toArray, below, meth, c, MQ below (fun _ st oc t => (oc = .returned (none) ∧ ∃ x : Nat → Nat, va_P T.1 xcl (ws' x) t.heap ∧ va_D (va_A ws s.heap.size) (ws' x)) ∧ va_F (va_A ws s.heap.size) st t) vals.toArray s mc ms (va_A ws s.heap.size), va_A ws s.heap.size) cc maxL mc ms (ws' x) := by
    intro x lv pc hd ls H locs hl hP hD hS
    show W p l e rm s m vals.toArray below meth c H locs mc ms (MQ below (fun _ st oc t => (oc = .returned (none) ∧ ∃ x : Nat → Nat, va_P T.1 xcl (ws' x) t.heap ∧ va_D (va_A ws s.heap.size) (ws' x)) ∧ va_F (va_A ws s.heap.size) st t) vals.toArray s mc ms (va_A ws s.heap.size)) (F0 m pc ls [])
    exact W.vret B.exec B.bytes hr (fun t ht hW => ⟨⟨rfl, x, by rw [ht]; exact hP, hD⟩, hS.F ht⟩) hS.2.2 hd hlocks
  exact h (p, l, e, rm, s, m, vals.toArray, below, meth, c, MQ below (fun _ st oc t => (oc = .returned none ∧ ∃ x : Nat → Nat, va_P T.1 xcl (ws' x) t.heap ∧ va_D (va_A ws s.heap.size) (ws' x)) ∧ va_F (va_A ws s.heap.size) st t) vals.toArray s mc ms (va_A ws s.heap.size), va_A ws s.heap.size)
    ⟨B.exec, B.bytes, hml, hown, hts, hK, fun q h => Or.inr h, rfl, hSX⟩ hin
    hF _ _ _ hl hP hD va_S.rf
theorem va_RA_1 {U : State} {c1 c2 : ClassId} {ty : FieldType} (h1 : va_RA U c1 ty) (h2 : va_RA U c2 ty) : c1 = c2 := by
  cases ty with
  | object C =>
    obtain ⟨_, _, _, _, _, a⟩ := h1
    obtain ⟨_, _, _, _, _, b⟩ := h2
    exact Option.some.inj (a.symm.trans b)
  | _ => exact Option.some.inj (h1.symm.trans h2)
section Ctor
variable {T : TT} {M : MB} {cc : ByteArray} {own : String} {nL : Nat} {Ts : List Cond} {R0 : Room} {lv lv' : List (Nat × Value)} {ws ws' : va_W} {ce sl pc : Nat} {rest : List Value}
theorem xr_objInit (hM : FM T M cc own nL Ts R0) {idx a : Nat} (h1 : Cond.methodLink own idx Lib.objectInit ∈ Ts) (h2 : Cond.instanceMethod Lib.objectInit ∈ Ts) (h3 : Cond.code Lib.objectInit ⟨#[0xb1]⟩ 1 none ∈ Ts) (hf : 1 ≤ R0.frames) (hlo : 20 ≤ R0.locals) (hcat : (rest.map fun v => v.category).sum ≤ 8) (hd : decode cc pc = .ok (.invokespecial idx, 3))
    (k : VV T M nL lv ws ce sl (pc + 3) rest) : VV T M nL lv ws ce sl pc (.ref a :: rest) := by
  obtain ⟨p, l, e, R, s, m, args, below, meth, c, Q, A⟩ := M
  obtain ⟨hx, hb, hml, hown, hts, hK, hA, hR, hSX⟩ := hM
  intro ls H locs hl hP hD hS
  have hR1 : R = R0 := hR
  exact W.objInit hx hb hown (hts _ h1) (hts _ h2) (hts _ h3) rfl (by rw [hml]; exact hl.1) rfl hd (by rw [hR1]; exact hf) (by rw [hR1]; exact Nat.le_trans (Nat.add_le_add_right (lv_room hcat) 12) hlo) (k ls H locs hl hP hD hS)
theorem xr_new (hM : FM T M cc own nL Ts R0) {C : String} {TT0 : u_T} {N index : Nat} (ci : Nat) (fs : List Value) (hin : ∀ w ∈ u_ws C TT0 N, w ∈ Ts) (ty : Nat → FieldType) (hty : ∀ k, k < N → parseFieldDescriptor (TT0 k).2.2.1 = some (ty k)) (h1 : Cond.classLink own index C ∈ Ts) (h2 : Cond.instantiable C N ∈ Ts) (h3 : Cond.initialized C ∈ Ts) (hc : xcl[ci]? = some (C, TT0, N)) (hfs : ∀ j, j < N → defaultValue (ty j) = vp_V fs j) (hce : ce + 1 ≤ R0.cells) (hsl : sl + N ≤ R0.slots) (hd : decode cc pc = .ok (.new index, 3))
    (k : ∀ q : Nat, VV T M nL lv (ws ++ [(q, ob ci fs)]) (ce + 1) (sl + N) (pc + 3) (.ref q :: rest)) : VV T M nL lv ws ce sl pc rest := by
  obtain ⟨p, l, e, R, s, m, args, below, meth, c, Q, A⟩ := M
  obtain ⟨hx, hb, hml, hown, hts, hK, hA, hR, hSX⟩ := hM
  intro ls H locs hl hP hD hS
  have hR1 : R = R0 := hR
  exact va_new hx hb hts hin ty hty hown (hts _ h1) (hts _ h2) (hts _ h3) hK hP hD hS hA hc hfs (by rw [hR1]; exact hce) (by rw [hR1]; exact hsl) hd (fun q H1 hP1 hD1 hS1 => k q ls H1 locs hl hP1 hD1 hS1)
theorem xr_newa (hM : FM T M cc own nL Ts R0) {atype : ArrayType} {ty : FieldType} {cid : ClassId} {n : Int} (kq : Nat) (hq : (xtys T)[kq]? = some (cid, ty)) (harr : Cond.arrayClass ty ∈ Ts) (hty : newarray.typeOf atype = ty) (hdef : defaultValue ty = .int 0) (hn : 0 ≤ n ∧ n ≤ 100000) (hbytes : n.toNat * componentBytes ty ≤ 536870912) (hce : ce + 1 ≤ R0.cells) (hsl : sl + n.toNat ≤ R0.slots) (hd : decode cc pc = .ok (.newarray atype, 2))
    (k : ∀ q : Nat, VV T M nL lv (ws ++ [(q, ia cid n.toNat (fun _ => 0))]) (ce + 1) (sl + n.toNat) (pc + 2) (.ref q :: rest)) : VV T M nL lv ws ce sl pc (iv n :: rest) := by
  obtain ⟨p, l, e, R, s, m, args, below, meth, c, Q, A⟩ := M
  obtain ⟨hx, hb, hml, hown, hts, hK, hA, hR, hSX⟩ := hM
  intro ls H locs hl hP hD hS
  have hR1 : R = R0 := hR
  have hni : ¬ Int32.ofInt n < 0 := by
    rw [Int32.lt_iff_toInt_lt, Int32.toInt_ofInt_of_le (by omega) (by omega)]
    show ¬ n < 0
    omega
  refine va_newa (N' := n.toNat) (a0 := (n.toNat, .inl (fun _ => Int32.ofInt 0))) hx hb (by rw [hty]; exact hts _ harr) hty hK hP hD hS hA (fun cA => by rw [hdef]; rfl) hni (xi_cl ⟨by omega, by omega⟩) hbytes (by rw [hR1]; exact hce) (by rw [hR1]; exact hsl) hd (fun q cA H1 hK1 hP1 hD1 hS1 => ?_)
  have e1 : cA = cid := va_RA_1 (hK1.2 (xtys T).length (cA, ty) (by simp)).2 (hK.2 kq (cid, ty) hq).2
  subst e1
  exact k q ls H1 locs hl hP1 hD1 hS1
theorem xr_putF (hM : FM T M cc own nL Ts R0) (hI : M.2.2.2.2.2.2.2.2.1.name = "<init>") {ref C : String} {TT0 : u_T} {N index a : Nat} (ci q0 j : Nat) (hin : ∀ w ∈ u_ws C TT0 N, w ∈ Ts) (ty0 : Nat → FieldType) (hty : ∀ k, k < N → parseFieldDescriptor (TT0 k).2.2.1 = some (ty0 k)) (hnm : ∀ a, a < N → ∀ b, b < N → a ≠ b → (TT0 a).2.1 ≠ (TT0 b).2.1) {fs : List Value} {v : Value} (he : ws[q0]? = some (a, ob ci fs)) (hc : xcl[ci]? = some (C, TT0, N)) (hk : j < N) (hw : Cond.fieldLink own index ref (TT0 j).2.1 (TT0 j).2.2.1 ∈ Ts) (hr : (TT0 j).1 = ref) (hfin : (TT0 j).2.2.2 = true) (hdecl : (TT0 j).1 = own) (hn : narrow (ty0 j) v = v) (hfit : fits (ty0 j) v = true) (hl0 : j < fs.length) (hs : ws.set q0 (a, ob ci (fs.set j v)) = ws') (hd : decode cc pc = .ok (.putfield index, 3))
    (k : VV T M nL lv ws' ce sl (pc + 3) rest) : VV T M nL lv ws ce sl pc (v :: .ref a :: rest) := by
  obtain ⟨p, l, e, R, s, m, args, below, meth, c, Q, A⟩ := M
  obtain ⟨hx, hb, hml, hown, hts, hK, hA, hR, hSX⟩ := hM
  intro ls H locs hl hP hD hS
  subst hs
  exact va_putF (ty := ty0 j) hx hb hts hin ty0 hty hnm hown hK hP hD hS q0 he hc j hk (hts _ hw) (fun x h9 => by rw [← hr]; exact h9) hfin hI hdecl (hty j hk) hn hfit hl0 hd (fun H1 locs1 hP1 hD1 hS1 => k ls H1 locs1 hl hP1 hD1 hS1)
end Ctor
