/-! ===== THE LAW: calls in segments with arrays told by what they stand for; the script; numbers ===== -/
section Calls6
variable {T : TT} {M : MB} {cc : ByteArray} {own : String} {nL : Nat} {Ts : List Cond} {R0 : Room} {lv lv' : List (Nat × Value)} {ws ws' : va_W} {sg : List va_W} {ce sl pc : Nat} {rest : List Value}
theorem xr_callVG2 (hM : FM T M cc own nL Ts R0) {y : MethodName} {wy wy' : List Cond} {bytes : ByteArray} {maxL index n : Nat} {rt : Option FieldType} {rm : Room} {C : String} {b : Nat} {As : List Value} {cs : List va_W} {wc : va_W} {P : AR → AR → Prop} {ws' : AR → AR → va_W} {cs' sg' : AR → AR → List va_W} {ret : Option Value} (hct : CT2 M.2.1 y wy rm T (.ref b :: As) wc ret P ws') (hwc : wc = cs.flatten) (hwc' : ∀ w g, ws' w g = (cs' w g).flatten)
    (hg : GoodIn Ts (wsV own index C y wy)) (hw : wy = Cond.code y bytes maxL rt :: wy') (hrm : rm.cells = 0 ∧ rm.slots = 0) (hy : y.cls = C ∧ y.cls ≠ "java/lang/invoke/MethodHandle" ∧ y.cls ≠ "java/lang/invoke/VarHandle" ∧ (parseMethodDescriptor y.desc).map (fun d => d.parameters.length) = some n) (hn : As.length = n) (hR : rm.frames + 1 ≤ R0.frames ∧ 8 + (maxL + 11) + rm.locals ≤ R0.locals)
    (is : List Nat) (hnd : va_nd is = true) (hs : is.map (fun i => sg[i]?) = cs.map some) (hadr : ∀ w g, (cs' w g).map (fun s => s.map Prod.fst) = cs.map (fun s => s.map Prod.fst)) {q : vw_C} {fs : List Value} (jr ci : Nat) (hq : xcl[ci]? = some q) (hqC : q.1 = C) (hrec : wc[jr]? = some (b, ob ci fs)) {st st' : List Value} (hst : st = As.reverse ++ .ref b :: rest) (hst' : ret.toList ++ rest = st') (hcat : (rest.map fun v => v.category).sum ≤ 8) (hce : ce ≤ R0.cells ∧ sl ≤ R0.slots) (hset : ∀ w g, setG sg is (cs' w g) = sg' w g) (hd : decode cc pc = .ok (.invokevirtual index, 3))
    (k : ∀ w g : AR, P w g → VV T M nL lv (sg' w g).flatten ce sl (pc + 3) st') : VV T M nL lv sg.flatten ce sl pc st := by
  obtain ⟨p, l, e, R, s, m, args, below, meth, c, Q, A⟩ := M
  obtain ⟨hx, hb, hml, hown, hts, hK, hA, hR0, hSX⟩ := hM
  intro ls H locs hl hP hD hS
  subst hst hst' hwc
  have hPc : va_P T.1 xcl cs.flatten H := seg_P hP hs
  have hDc := seg_D hD hnd hs
  have hFc := seg_free hD hS hA hs
  have hR1 : R = R0 := hR0
  have hrun := va_runV (R := R) (p := p) (l := l) (m := m) (s := s) (args := args) (c := c) (H := H) (locs := locs) (cells := ce) (slots := sl) (below := below) (e := e) (meth := meth) (g := F0 m pc ls (As.reverse ++ .ref b :: rest)) (As := As) (rest := rest) ⟨hx, hb, hml, hown, hts⟩ (hct H.size) (cwV n hts hg hw hrm.1 hrm.2 hy (by rw [hR1]; exact hR)) ⟨xl_blind, by have h9 := va_recv hK hPc hq hrec; rw [hqC] at h9; exact h9, fun U hU hW => ⟨rfl, by rw [hU], by rw [hU]; exact hPc, va_K.moved hW.alike hK, hDc.weaken (fun _ _ _ _ => trivial), by rw [hU]; exact ((hSX.kept hS.2.1).narrow hFc).warm hW⟩⟩ rfl hn hl.1 rfl (lv_room hcat) hd ⟨by rw [hR1]; exact hce.1, by rw [hR1]; exact hce.2⟩
  intro X hXH X0
  obtain ⟨v, st₀, t, T', L, h0, X', hL, e1, e2, ⟨⟨hoc, w, g, hPwg, hP1⟩, hF⟩, sts⟩ := hrun X hXH X0
  have hv : v = ret := by injection hoc
  subst hv
  obtain ⟨hz, hk⟩ := hF
  rw [h0] at hz hk
  have hSn := xl_S (L := L) hS hz hk hFc hL
  rw [hwc' w g] at hP1
  have hlen : (cs' w g).length = cs.length := by have h1 := congrArg List.length (hadr w g); simpa using h1
  obtain ⟨t2, a1, b1⟩ := k w g hPwg ls t.heap (locs ++ L) hl (hset w g ▸ seg_set hP hD is hs hlen hk hP1) (hset w g ▸ hD.adr (seg_adr hs hnd (hadr w g))) hSn T' e1 X'
  exact ⟨t2, sts t2 a1, b1⟩
theorem xr_callVG3 (hM : FM T M cc own nL Ts R0) {y : MethodName} {wy wy' : List Cond} {bytes : ByteArray} {maxL index n : Nat} {rt : Option FieldType} {rm : Room} {C : String} {b : Nat} {As : List Value} {cs : List va_W} {wc : va_W} {P : (Nat → AR) → Prop} {ws' : (Nat → AR) → va_W} {cs' sg' : (Nat → AR) → List va_W} {ret : Option Value} (hct : CT3 M.2.1 y wy rm T (.ref b :: As) wc ret P ws') (hwc : wc = cs.flatten) (hwc' : ∀ w, ws' w = (cs' w).flatten)
    (hg : GoodIn Ts (wsV own index C y wy)) (hw : wy = Cond.code y bytes maxL rt :: wy') (hrm : rm.cells = 0 ∧ rm.slots = 0) (hy : y.cls = C ∧ y.cls ≠ "java/lang/invoke/MethodHandle" ∧ y.cls ≠ "java/lang/invoke/VarHandle" ∧ (parseMethodDescriptor y.desc).map (fun d => d.parameters.length) = some n) (hn : As.length = n) (hR : rm.frames + 1 ≤ R0.frames ∧ 8 + (maxL + 11) + rm.locals ≤ R0.locals)
    (is : List Nat) (hnd : va_nd is = true) (hs : is.map (fun i => sg[i]?) = cs.map some) (hadr : ∀ w, (cs' w).map (fun s => s.map Prod.fst) = cs.map (fun s => s.map Prod.fst)) {q : vw_C} {fs : List Value} (jr ci : Nat) (hq : xcl[ci]? = some q) (hqC : q.1 = C) (hrec : wc[jr]? = some (b, ob ci fs)) {st st' : List Value} (hst : st = As.reverse ++ .ref b :: rest) (hst' : ret.toList ++ rest = st') (hcat : (rest.map fun v => v.category).sum ≤ 8) (hce : ce ≤ R0.cells ∧ sl ≤ R0.slots) (hset : ∀ w, setG sg is (cs' w) = sg' w) (hd : decode cc pc = .ok (.invokevirtual index, 3))
    (k : ∀ w : Nat → AR, P w → VV T M nL lv (sg' w).flatten ce sl (pc + 3) st') : VV T M nL lv sg.flatten ce sl pc st := by
  obtain ⟨p, l, e, R, s, m, args, below, meth, c, Q, A⟩ := M
  obtain ⟨hx, hb, hml, hown, hts, hK, hA, hR0, hSX⟩ := hM
  intro ls H locs hl hP hD hS
  subst hst hst' hwc
  have hPc : va_P T.1 xcl cs.flatten H := seg_P hP hs
  have hDc := seg_D hD hnd hs
  have hFc := seg_free hD hS hA hs
  have hR1 : R = R0 := hR0
  have hrun := va_runV (R := R) (p := p) (l := l) (m := m) (s := s) (args := args) (c := c) (H := H) (locs := locs) (cells := ce) (slots := sl) (below := below) (e := e) (meth := meth) (g := F0 m pc ls (As.reverse ++ .ref b :: rest)) (As := As) (rest := rest) ⟨hx, hb, hml, hown, hts⟩ (hct H.size) (cwV n hts hg hw hrm.1 hrm.2 hy (by rw [hR1]; exact hR)) ⟨xl_blind, by have h9 := va_recv hK hPc hq hrec; rw [hqC] at h9; exact h9, fun U hU hW => ⟨rfl, by rw [hU], by rw [hU]; exact hPc, va_K.moved hW.alike hK, hDc.weaken (fun _ _ _ _ => trivial), by rw [hU]; exact ((hSX.kept hS.2.1).narrow hFc).warm hW⟩⟩ rfl hn hl.1 rfl (lv_room hcat) hd ⟨by rw [hR1]; exact hce.1, by rw [hR1]; exact hce.2⟩
  intro X hXH X0
  obtain ⟨v, st₀, t, T', L, h0, X', hL, e1, e2, ⟨⟨hoc, w, hPwg, hP1⟩, hF⟩, sts⟩ := hrun X hXH X0
  have hv : v = ret := by injection hoc
  subst hv
  obtain ⟨hz, hk⟩ := hF
  rw [h0] at hz hk
  have hSn := xl_S (L := L) hS hz hk hFc hL
  rw [hwc' w] at hP1
  have hlen : (cs' w).length = cs.length := by have h1 := congrArg List.length (hadr w); simpa using h1
  obtain ⟨t2, a1, b1⟩ := k w hPwg ls t.heap (locs ++ L) hl (hset w ▸ seg_set hP hD is hs hlen hk hP1) (hset w ▸ hD.adr (seg_adr hs hnd (hadr w))) hSn T' e1 X'
  exact ⟨t2, sts t2 a1, b1⟩
theorem xr_slen (hM : FM T M cc own nL Ts R0) {b N : Nat} {xs : Nat → Int32} (hX : va_X b N xs M.2.2.2.2.1 M.2.2.2.2.1.heap) (hbl : b < M.2.2.2.2.1.heap.size) (hbA : ¬ M.2.2.2.2.2.2.2.2.2.2.2 b) (hd : decode cc pc = .ok (.arraylength, 1))
    (k : VV T M nL lv ws ce sl (pc + 1) (iv (N : Int) :: rest)) : VV T M nL lv ws ce sl pc (.ref b :: rest) := by
  obtain ⟨p, l, e, R, s, m, args, below, meth, c, Q, A⟩ := M
  obtain ⟨hx, hb, hml, hown, hts, hK, hA, hR, hSX⟩ := hM
  intro ls H locs hl hP hD hS
  exact va_slen hx hb hX hbl hbA hS hd (k ls H locs hl hP hD hS)
theorem xr_sld (hM : FM T M cc own nL Ts R0) {b N : Nat} {xs : Nat → Int32} (hX : va_X b N xs M.2.2.2.2.1 M.2.2.2.2.1.heap) (hbl : b < M.2.2.2.2.1.heap.size) (hbA : ¬ M.2.2.2.2.2.2.2.2.2.2.2 b) {i : Int} (hi : 0 ≤ i ∧ i < (N : Int) ∧ i < 2147483648) {v : Int} (hv : v = (xs i.toNat).toInt) (hd : decode cc pc = .ok (.iaload, 1))
    (k : VV T M nL lv ws ce sl (pc + 1) (iv v :: rest)) : VV T M nL lv ws ce sl pc (iv i :: .ref b :: rest) := by
  obtain ⟨p, l, e, R, s, m, args, below, meth, c, Q, A⟩ := M
  obtain ⟨hx, hb, hml, hown, hts, hK, hA, hR, hSX⟩ := hM
  intro ls H locs hl hP hD hS
  have k1 := k ls H locs hl hP hD hS
  rw [hv, ← iv_to] at k1
  refine va_sld hx hb hX hbl hbA hS (xi_in hi) hd ?_
  rw [xi_cl ⟨hi.1, hi.2.2⟩]
  exact k1
theorem xr_iandL (hM : FM T M cc own nL Ts R0) {x z : Int} (hd : decode cc pc = .ok (.iand, 1)) (k : ∀ y : Int, -2147483648 ≤ y ∧ y < 2147483648 → VV T M nL lv ws ce sl (pc + 1) (iv y :: rest)) : VV T M nL lv ws ce sl pc (iv z :: iv x :: rest) := by
  have k0 := k (Int32.ofInt x &&& Int32.ofInt z).toInt (xi_bd _)
  rw [← iv_to] at k0
  obtain ⟨p, l, e, R, s, m, args, below, meth, c, Q, A⟩ := M
  obtain ⟨hx, hb, hml, hown, hts, hK, hA, hR, hSX⟩ := hM
  intro ls H locs hl hP hD hS
  exact lv_iand hx hb hd (k0 ls H locs hl hP hD hS)
theorem xr_icmp_same (hM : FM T M cc own nL Ts R0) {x off : Int} (tgt : Nat) (hd : decode cc pc = .ok (.if_icmp .eq off, 3)) (ht : (pc : Int) + off = (tgt : Int)) (k : VV T M nL lv ws ce sl tgt rest) : VV T M nL lv ws ce sl pc (iv x :: iv x :: rest) := by
  obtain ⟨p, l, e, R, s, m, args, below, meth, c, Q, A⟩ := M
  obtain ⟨hx, hb, hml, hown, hts, hK, hA, hR, hSX⟩ := hM
  intro ls H locs hl hP hD hS
  exact lv_icmp_eq hx hb hd ht (fun _ => k ls H locs hl hP hD hS) (fun h => absurd rfl h)
end Calls6
-- what the calls do to the invariant
theorem kpX_R {r : Int} {X Y : WnS} (h : 0 ≤ r ∨ Y = X) : kpX r X Y = Y := by
  unfold kpX
  split
  · rfl
  · rcases h with h | h
    · omega
    · exact h.symm
theorem WW_kp {r : Int} {X Y : WnS} (hX : WW X) (hY : WW Y) : WW (kpX r X Y) := by
  unfold kpX
  split
  · exact hY
  · exact hX
theorem kpZ_b {r sz : Int} (h : 0 ≤ sz ∧ sz ≤ 5) : 0 ≤ kpZ r sz ∧ kpZ r sz ≤ 5 := by
  unfold kpZ
  split <;> omega
theorem kpN_b {r nx : Int} (h : 0 ≤ nx ∧ nx < 5) : 0 ≤ kpN r nx ∧ kpN r nx < 5 := by
  unfold kpN
  split <;> omega
theorem kpH_W {r nx : Int} {H : Nat → WnS} {X : WnS} (hH : ∀ k, WW (H k)) (hX : WW X) : ∀ k, WW (kpH r H nx X k) := by
  intro k
  unfold kpH
  split
  · unfold upW
    split
    · exact hX
    · exact hH k
  · exact hH k
theorem puR_n {X : WnS} (h : WW X) (i kd ln : Int) : 0 ≤ (puR X i kd ln).1 ∨ (puR X i kd ln).2 = X := by
  unfold puR
  split
  · exact Or.inr rfl
  · split
    · exact Or.inr rfl
    · refine Or.inl ?_
      have hP := WW_se (PW_pu h (i := i) (kd := kd) (ln := ln) (by omega) (by omega) (by omega) (by omega))
      have h1 := tpF_b hP.1.1.1 (gN (pX (seF (inF (pX X) i kd ln, pH X, (if 0 < gN (pX X) ∧ i ≤ pA X then pA X + 1 else pA X), pS X)))).toNat
      dsimp only
      omega
theorem cuR_n {X : WnS} (h : WW X) (i : Int) : 0 ≤ (cuR X i).1 ∨ (cuR X i).2 = X := by
  unfold cuR
  split
  · exact Or.inr rfl
  · refine Or.inl ?_
    have hP := WW_se (PW_cu h (i := i) (by omega)).1
    have h2 := hP.1.1.1.1
    dsimp only
    omega
theorem chR_n {X : WnS} (h : WW X) (i ln : Int) : 0 ≤ (chR X i ln).1 ∨ (chR X i ln).2 = X := by
  unfold chR
  split
  · exact Or.inr rfl
  · refine Or.inl ?_
    have h2 := (h.1.1.2.2.1 i.toNat).2.1
    dsimp only
    omega
theorem shR_n {X : WnS} (h : WW X) (v : Int) : 0 ≤ (shR X v).1 ∨ (shR X v).2 = X := by
  unfold shR
  split
  · exact Or.inr rfl
  · refine Or.inl ?_
    have h2 := h.1.2.1
    dsimp only
    omega
theorem swR_n {X : WnS} (h : WW X) (v : Int) : 0 ≤ (swR X v).1 ∨ (swR X v).2 = X := by
  unfold swR
  split
  · exact Or.inr rfl
  · refine Or.inl ?_
    have h2 := h.1.1.2.1
    dsimp only
    omega
theorem mbR_n {X : WnS} (h : WW X) (d : Int) : 0 ≤ (mbR X d).1 ∨ (mbR X d).2 = X := by
  unfold mbR
  split
  · exact Or.inr rfl
  · split
    · exact Or.inr rfl
    · rename_i hn
      refine Or.inl ?_
      have hP := (WW_se (PW_mb h (d := d) (by omega) hn).1).1
      have h2 := hP.an
      dsimp only
      omega
theorem msR_n {X : WnS} (h : WW X) (d : Int) : 0 ≤ (msR X d).1 ∨ (msR X d).2 = X := by
  unfold msR
  split
  · exact Or.inr rfl
  · split
    · exact Or.inr rfl
    · rename_i hn
      refine Or.inl ?_
      have hP := (WW_se (PW_ms h (s := d) (by omega) hn)).1
      have h2 := hP.an
      dsimp only
      omega
theorem mlR_n {X : WnS} (h : WW X) (i : Int) : 0 ≤ (mlR X i).1 ∨ (mlR X i).2 = X := by
  unfold mlR
  split
  · exact Or.inr rfl
  · refine Or.inl ?_
    have hP := (WW_se (PW_ml h (i := i) (by omega))).1
    have h2 := hP.an
    dsimp only
    omega
theorem ruL_I {tx : Nat → Int} {L : Int} (f : Nat) (X : WnS) (nm : Nat → Int) (s e p i c : Int) (hX : WW X) (hn : NMI nm) : WW (ruL tx L f X nm s e p i c).2.1 ∧ NMI (ruL tx L f X nm s e p i c).2.2.1 := by
  induction f generalizing X nm s e p i c with
  | zero => exact ⟨hX, hn⟩
  | succ f ih =>
    unfold ruL
    split
    · split
      · exact ⟨WW_pf hX nm c, hn⟩
      · exact ih _ _ _ _ _ _ _ (WW_pf hX nm c) (rcF_N hn)
    · split
      · exact ⟨hX, hn⟩
      · exact ⟨hX, hn⟩
theorem ruR_I {X : WnS} {tx nm : Nat → Int} {L : Int} (hX : WW X) (hn : NMI nm) : WW (ruR X tx nm L).2.1 ∧ NMI (ruR X tx nm L).2.2.1 := ruL_I _ _ _ _ _ _ _ _ hX (rcF_N hn)
theorem scR_1 (X Y Z : WnS) (i d : Int) : (scR X Y i d).1 = (scR X Z i d).1 := by
  unfold scR
  split <;> rfl
theorem TXI_0 {tx : AR} {L : Int} (h : TXI tx L) : TXI tx 0 := ⟨by omega, h.2⟩
theorem TE_0 (te tx : AR) : TE te tx 0 := fun j hj => by omega
theorem TXI_r {tx : AR} {L r : Int} (h : TXI tx L) : TXI tx (if 0 ≤ r then 0 else L) := by
  split
  · exact TXI_0 h
  · exact h
theorem TE_r {te tx : AR} {L r : Int} (h : TE te tx L) : TE te tx (if 0 ≤ r then 0 else L) := by
  split
  · exact TE_0 te tx
  · exact h
theorem TXI_a {tx : AR} {L v : Int} (h : TXI tx L) : TXI (if ¬ (1 ≤ v ∧ v ≤ 255) then tx else if 100 ≤ L then tx else va_up tx L.toNat v) (if ¬ (1 ≤ v ∧ v ≤ 255) then L else if 100 ≤ L then L else L + 1) := by
  by_cases c : ¬ (1 ≤ v ∧ v ≤ 255)
  · rw [if_pos c, if_pos c]
    exact h
  · rw [if_neg c, if_neg c]
    by_cases c2 : 100 ≤ L
    · rw [if_pos c2, if_pos c2]
      exact h
    · rw [if_neg c2, if_neg c2]
      refine ⟨by have := h.1; omega, fun j => ?_⟩
      unfold va_up
      split
      · omega
      · exact h.2 j
theorem TE_a {te tx : AR} {L v : Int} (h : TE te tx L) (hL : TXI tx L) : TE (if ¬ (1 ≤ v ∧ v ≤ 255) then te else if 100 ≤ L then te else va_up te L.toNat v) (if ¬ (1 ≤ v ∧ v ≤ 255) then tx else if 100 ≤ L then tx else va_up tx L.toNat v) (if ¬ (1 ≤ v ∧ v ≤ 255) then L else if 100 ≤ L then L else L + 1) := by
  by_cases c : ¬ (1 ≤ v ∧ v ≤ 255)
  · rw [if_pos c, if_pos c, if_pos c]
    exact h
  · rw [if_neg c, if_neg c, if_neg c]
    by_cases c2 : 100 ≤ L
    · rw [if_pos c2, if_pos c2, if_pos c2]
      exact h
    · rw [if_neg c2, if_neg c2, if_neg c2]
      intro j hj
      have h1 := hL.1
      unfold va_up
      by_cases e : j = L.toNat
      · rw [if_pos e, if_pos e]
      · rw [if_neg e, if_neg e]
        exact h j (by omega)
-- the start
theorem WW_em : WW emW :=
  ⟨⟨⟨(by decide : (0 : Int) ≤ 0 ∧ (0 : Int) ≤ 100), (by decide : (5 : Int) ≤ 40 ∧ (40 : Int) ≤ 80), fun i => ⟨(by decide : (0 : Int) ≤ 0 ∧ (0 : Int) ≤ 2), (by decide : (0 : Int) ≤ 0 ∧ (0 : Int) ≤ 400), Or.inl rfl⟩, fun k hk => ⟨rfl, rfl⟩⟩,
    (by decide : (20 : Int) ≤ 100 ∧ (100 : Int) ≤ 600), fun _ => ⟨rfl, rfl⟩, fun h => absurd h (by decide : ¬ (0 : Int) < 0), (by decide : (0 : Int) ≤ 0 ∧ (0 : Int) ≤ 400000)⟩, (by decide : (0 : Int) ≤ 1450)⟩
theorem Rep_em : Rep (va_up (va_up (fun _ => 0) 3 100) 4 40) emW :=
  ⟨rfl, rfl, rfl, rfl, rfl, fun i hi => absurd hi (by show ¬ ((i : Int) < 0); omega)⟩
theorem RHc_0 (ps : AR) (H : Nat → WnS) (nx : Int) : RHc ps H 0 nx := fun k hk => by omega
theorem TXI_em : TXI (fun _ => 0) 0 := ⟨by omega, fun j => (by decide : (0 : Int) ≤ 0 ∧ (0 : Int) ≤ 255)⟩
theorem NMI_em : NMI (fun _ => 0) := fun j => (by decide : (-1 : Int) ≤ 0 ∧ (0 : Int) ≤ 9999)
theorem NB3_em : NB3 (fun _ => 0) := fun j hj => (by decide : (0 : Int) ≤ 0 ∧ (0 : Int) ≤ 9999)
