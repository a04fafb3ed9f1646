/-! ===== TEXTS: the commands' words as String constants, the JDK's methods over them ===== -/
def xw (i j : Nat) : Int := ((xbyt.getD i []).getD j 0).toInt
theorem xw_ok : ∀ i, i < 6 → ∀ j, j < xlen.getD i 0 → ((xbyt.getD i []).getD j 0 &&& 255 = (xbyt.getD i []).getD j 0) ∧ 97 ≤ xw i j ∧ xw i j ≤ 122 := by decide
theorem xi_nch {x : Int} (h : 0 ≤ x ∧ x < 65536) : narrow .char (iv x) = iv x := by
  obtain ⟨n, rfl⟩ := Int.eq_ofNat_of_zero_le h.1
  have h2 : Int32.ofInt (n : Int) = nI n := Int32.ofInt_eq_ofNat
  unfold iv
  rw [h2]
  exact (pk_charN (by omega)).1
section Text
variable {T : TT} {M : MB} {cc : ByteArray} {own : String} {nL : Nat} {Ts : List Cond} {R0 : Room} {lv lv' : List (Nat × Value)} {ws ws' : va_W} {ce sl pc : Nat} {rest : List Value}
theorem xr_sval (hM : FM T M cc own nL Ts R0) {index : Nat} (i : Nat) (hi : i < 6) (hw : Cond.fieldLink own index "java/lang/String" "value" "[B" ∈ Ts) (hd : decode cc pc = .ok (.getfield index, 3)) (k : VV T M nL lv ws ce sl (pc + 3) (.ref (T.2.2.2.2.2.2.1 i) :: rest)) : VV T M nL lv ws ce sl pc (.ref (T.2.2.2.2.2.1 i) :: rest) := by
  obtain ⟨p, l, e, R, s, m, args, below, meth, c, Q, A⟩ := M
  obtain ⟨hx, hb, hml, hown, hts, hK, hA, hR0, hSX⟩ := hM
  intro ls H locs hl hP hD hS
  exact vk_getf hx hb (hSX.2.2.1.1 i hi).2.2.1 hS hown (hts _ hw) (fun x h => h) hd (k ls H locs hl hP hD hS)
theorem xr_scod (hM : FM T M cc own nL Ts R0) {index : Nat} (i : Nat) (hi : i < 6) (hw : Cond.fieldLink own index "java/lang/String" "coder" "B" ∈ Ts) (hd : decode cc pc = .ok (.getfield index, 3)) (k : VV T M nL lv ws ce sl (pc + 3) (iv 0 :: rest)) : VV T M nL lv ws ce sl pc (.ref (T.2.2.2.2.2.1 i) :: rest) := by
  obtain ⟨p, l, e, R, s, m, args, below, meth, c, Q, A⟩ := M
  obtain ⟨hx, hb, hml, hown, hts, hK, hA, hR0, hSX⟩ := hM
  intro ls H locs hl hP hD hS
  exact vk_getf hx hb (hSX.2.2.1.1 i hi).2.1 hS hown (hts _ hw) (fun x h => h) hd (k ls H locs hl hP hD hS)
theorem xr_salen (hM : FM T M cc own nL Ts R0) (i : Nat) (hi : i < 6) (hd : decode cc pc = .ok (.arraylength, 1)) (k : VV T M nL lv ws ce sl (pc + 1) (iv (xlen.getD i 0 : Nat) :: rest)) : VV T M nL lv ws ce sl pc (.ref (T.2.2.2.2.2.2.1 i) :: rest) := by
  obtain ⟨p, l, e, R, s, m, args, below, meth, c, Q, A⟩ := M
  obtain ⟨hx, hb, hml, hown, hts, hK, hA, hR0, hSX⟩ := hM
  intro ls H locs hl hP hD hS
  exact va_tlen hx hb (hSX.2.2.1.1 i hi).2.2.2 hS (v := Int32.ofInt (xlen.getD i 0 : Nat)) Int32.ofInt_eq_ofNat.symm hd (k ls H locs hl hP hD hS)
theorem xr_sbld (hM : FM T M cc own nL Ts R0) (i j : Nat) (hi : i < 6) (hj : j < xlen.getD i 0) (hj2 : j < 2147483648) (hd : decode cc pc = .ok (.baload, 1)) (k : VV T M nL lv ws ce sl (pc + 1) (iv (xw i j) :: rest)) : VV T M nL lv ws ce sl pc (iv (j : Int) :: .ref (T.2.2.2.2.2.2.1 i) :: rest) := by
  obtain ⟨p, l, e, R, s, m, args, below, meth, c, Q, A⟩ := M
  obtain ⟨hx, hb, hml, hown, hts, hK, hA, hR0, hSX⟩ := hM
  intro ls H locs hl hP hD hS
  refine va_tb hx hb (hSX.2.2.1.1 i hi).2.2.2 hS (i := Int32.ofInt (j : Int)) (v := iv (xw i j)) (xi_in (by omega)) ?_ hd (k ls H locs hl hP hD hS)
  rw [xi_cl (by omega)]
  exact iv_to _
theorem xr_gcs (hM : FM T M cc own nL Ts R0) {index : Nat} (hw : Cond.fieldLink own index "java/lang/String" "COMPACT_STRINGS" "Z" ∈ Ts) (hd : decode cc pc = .ok (.getstatic index, 3)) (k : VV T M nL lv ws ce sl (pc + 3) (iv 1 :: rest)) : VV T M nL lv ws ce sl pc rest := by
  obtain ⟨p, l, e, R, s, m, args, below, meth, c, Q, A⟩ := M
  obtain ⟨hx, hb, hml, hown, hts, hK, hA, hR0, hSX⟩ := hM
  intro ls H locs hl hP hD hS
  exact va_gets hx hb hSX.2.2.2.1 hS hown (hts _ hw) (fun x h => h) hd (k ls H locs hl hP hD hS)
theorem xr_gsio (hM : FM T M cc own nL Ts R0) {index : Nat} (hw : Cond.fieldLink own index "jdk/internal/util/Preconditions" "SIOOBE_FORMATTER" "Ljava/util/function/BiFunction;" ∈ Ts) (hd : decode cc pc = .ok (.getstatic index, 3)) (k : VV T M nL lv ws ce sl (pc + 3) (va_rf T.2.2.2.2.2.2.2 :: rest)) : VV T M nL lv ws ce sl pc rest := by
  obtain ⟨p, l, e, R, s, m, args, below, meth, c, Q, A⟩ := M
  obtain ⟨hx, hb, hml, hown, hts, hK, hA, hR0, hSX⟩ := hM
  intro ls H locs hl hP hD hS
  exact va_gets hx hb hSX.2.2.2.2 hS hown (hts _ hw) (fun x h => h) hd (k ls H locs hl hP hD hS)
theorem xr_ldcS (hM : FM T M cc RX2 nL Ts R0) {index : Nat} (i : Nat) (hi : i < 6) (he : (xtxt.getD i (0, "")).1 = index) (hd : decode cc pc = .ok (.ldc index, 2)) (k : VV T M nL lv ws ce sl (pc + 2) (.ref (T.2.2.2.2.2.1 i) :: rest)) : VV T M nL lv ws ce sl pc rest := by
  obtain ⟨p, l, e, R, s, m, args, below, meth, c, Q, A⟩ := M
  obtain ⟨hx, hb, hml, hown, hts, hK, hA, hR0, hSX⟩ := hM
  intro ls H locs hl hP hD hS
  subst he
  exact va_ldcS hx hb hown (hSX.2.1 i hi) hd (k ls H locs hl hP hD hS)
theorem xr_ishr0 (hM : FM T M cc own nL Ts R0) {x : Int} (hd : decode cc pc = .ok (.ishr, 1)) (k : VV T M nL lv ws ce sl (pc + 1) (iv x :: rest)) : VV T M nL lv ws ce sl pc (iv 0 :: iv x :: rest) := by
  obtain ⟨p, l, e, R, s, m, args, below, meth, c, Q, A⟩ := M
  obtain ⟨hx, hb, hml, hown, hts, hK, hA, hR0, hSX⟩ := hM
  intro ls H locs hl hP hD hS
  have k1 := k ls H locs hl hP hD hS
  refine lv_ishr hx hb hd ?_
  rw [show Int32.ofInt 0 = 0 from rfl, sb_shr0]
  exact k1
theorem xr_iand255 (hM : FM T M cc own nL Ts R0) (i j : Nat) (hi : i < 6) (hj : j < xlen.getD i 0) (hd : decode cc pc = .ok (.iand, 1)) (k : VV T M nL lv ws ce sl (pc + 1) (iv (xw i j) :: rest)) : VV T M nL lv ws ce sl pc (iv 255 :: iv (xw i j) :: rest) := by
  obtain ⟨p, l, e, R, s, m, args, below, meth, c, Q, A⟩ := M
  obtain ⟨hx, hb, hml, hown, hts, hK, hA, hR0, hSX⟩ := hM
  intro ls H locs hl hP hD hS
  have k1 := k ls H locs hl hP hD hS
  refine lv_iand hx hb hd ?_
  have e : Int32.ofInt (xw i j) = (xbyt.getD i []).getD j 0 := Int32.ofInt_toInt _
  rw [show Int32.ofInt 255 = 255 from rfl, e, (xw_ok i hi j hj).1, ← e]
  exact k1
/-- a call of a method of a String constant -/
theorem xr_callT (hM : FM T M cc own nL Ts R0) {y : MethodName} {wy wy' : List Cond} {bytes : ByteArray} {maxL index n : Nat} {rt : Option FieldType} {rm : Room} (i : Nat) (hi : i < 6) {As : List Value} {ret : Option Value} (hct : CT M.2.1 y wy rm T (.ref (T.2.2.2.2.2.1 i) :: As) [] ret [])
    (hg : GoodIn Ts (wsV own index RJ0 y wy)) (hw : wy = Cond.code y bytes maxL rt :: wy') (hrm : rm.cells = 0 ∧ rm.slots = 0) (hy : y.cls = RJ0 ∧ y.cls ≠ "java/lang/invoke/MethodHandle" ∧ y.cls ≠ "java/lang/invoke/VarHandle" ∧ (parseMethodDescriptor y.desc).map (fun d => d.parameters.length) = some n) (hn : As.length = n) (hR : rm.frames + 1 ≤ R0.frames ∧ 8 + (maxL + 11) + rm.locals ≤ R0.locals)
    {st st' : List Value} (hst : st = As.reverse ++ .ref (T.2.2.2.2.2.1 i) :: rest) (hst' : ret.toList ++ rest = st') (hcat : (rest.map fun v => v.category).sum ≤ 8) (hce : ce ≤ R0.cells ∧ sl ≤ R0.slots) (hd : decode cc pc = .ok (.invokevirtual index, 3))
    (k : VV T M nL lv ws ce sl (pc + 3) st') : VV T M nL lv ws ce sl pc st := by
  obtain ⟨p, l, e, R, s, m, args, below, meth, c, Q, A⟩ := M
  obtain ⟨hx, hb, hml, hown, hts, hK, hA, hR0, hSX⟩ := hM
  intro ls H locs hl hP hD hS
  subst hst hst'
  have hPc : va_P T.1 xcl [] H := fun k q h => by simp at h
  have hDc : va_D A [] := ⟨fun i j p q h => by simp at h, fun k q h => by simp at h⟩
  have hFc := va_free (wc := []) hD hS hA [] rfl
  have hR1 : R = R0 := hR0
  have hrun := va_runV (R := R) (p := p) (l := l) (m := m) (s := s) (args := args) (c := c) (H := H) (locs := locs) (cells := ce) (slots := sl) (below := below) (e := e) (meth := meth) (g := F0 m pc ls (As.reverse ++ .ref (T.2.2.2.2.2.1 i) :: rest)) (As := As) (rest := rest) ⟨hx, hb, hml, hown, hts⟩ (hct H.size) (cwV n hts hg hw hrm.1 hrm.2 hy (by rw [hR1]; exact hR)) ⟨xl_blind, vk_recv hSX.2.2.1 hi hS, fun U hU hW => ⟨rfl, by rw [hU], by rw [hU]; exact hPc, va_K.moved hW.alike hK, hDc.weaken (fun _ _ _ _ => trivial), by rw [hU]; exact ((hSX.kept hS.2.1).narrow hFc).warm hW⟩⟩ rfl hn hl.1 rfl (lv_room hcat) hd ⟨by rw [hR1]; exact hce.1, by rw [hR1]; exact hce.2⟩
  intro X hXH X0
  obtain ⟨v, st₀, t, T', L, h0, X', hL, e1, e2, ⟨⟨hoc, hP1⟩, hF⟩, sts⟩ := hrun X hXH X0
  have hv : v = ret := by injection hoc
  subst hv
  obtain ⟨hz, hk⟩ := hF
  rw [h0] at hz hk
  have hSn := xl_S (L := L) hS hz hk hFc hL
  obtain ⟨t2, a1, b1⟩ := k ls t.heap (locs ++ L) hl (hP.kept (fun k q hq => hk q.1 (hP k q hq).lt (fun hA9 => by
    rcases hA9 with ⟨j, e9, h9⟩ | h9
    · simp at h9
    · exact absurd (hP k q hq).lt (Nat.not_lt.mpr h9)))) hD hSn T' e1 X'
  exact ⟨t2, sts t2 a1, b1⟩
end Text
def rm_J0_coder_7d493 : Room := { frames := 0, cells := 0, slots := 0, locals := 0 }
theorem hy_J0_coder_7d493 : yJ0_coder_7d493.cls = RJ0 ∧ yJ0_coder_7d493.cls ≠ "java/lang/invoke/MethodHandle" ∧ yJ0_coder_7d493.cls ≠ "java/lang/invoke/VarHandle" ∧ (parseMethodDescriptor yJ0_coder_7d493.desc).map (fun d => d.parameters.length) = some 0 := by decide +kernel
theorem hp_J0_coder_7d493 : plainName yJ0_coder_7d493.cls = true := by decide +kernel
def rm_J0_length_8abf5 : Room := { frames := 1, cells := 0, slots := 0, locals := 20 }
theorem hy_J0_length_8abf5 : yJ0_length_8abf5.cls = RJ0 ∧ yJ0_length_8abf5.cls ≠ "java/lang/invoke/MethodHandle" ∧ yJ0_length_8abf5.cls ≠ "java/lang/invoke/VarHandle" ∧ (parseMethodDescriptor yJ0_length_8abf5.desc).map (fun d => d.parameters.length) = some 0 := by decide +kernel
theorem hp_J0_length_8abf5 : plainName yJ0_length_8abf5.cls = true := by decide +kernel
def rm_J0_isLatin1_aae02 : Room := { frames := 0, cells := 0, slots := 0, locals := 0 }
theorem hy_J0_isLatin1_aae02 : yJ0_isLatin1_aae02.cls = RJ0 ∧ yJ0_isLatin1_aae02.cls ≠ "java/lang/invoke/MethodHandle" ∧ yJ0_isLatin1_aae02.cls ≠ "java/lang/invoke/VarHandle" ∧ (parseMethodDescriptor yJ0_isLatin1_aae02.desc).map (fun d => d.parameters.length) = some 0 := by decide +kernel
theorem hp_J0_isLatin1_aae02 : plainName yJ0_isLatin1_aae02.cls = true := by decide +kernel
def rm_J3_checkIndex_8e157 : Room := { frames := 0, cells := 0, slots := 0, locals := 0 }
theorem hy_J3_checkIndex_8e157 : yJ3_checkIndex_8e157.cls ≠ "java/lang/invoke/MethodHandle" ∧ yJ3_checkIndex_8e157.cls ≠ "java/lang/invoke/VarHandle" ∧ (parseMethodDescriptor yJ3_checkIndex_8e157.desc).map (fun d => d.parameters.length) = some 3 := by decide +kernel
theorem hp_J3_checkIndex_8e157 : plainName yJ3_checkIndex_8e157.cls = true := by decide +kernel
def rm_J0_checkIndex_df160 : Room := { frames := 1, cells := 0, slots := 0, locals := 22 }
theorem hy_J0_checkIndex_df160 : yJ0_checkIndex_df160.cls ≠ "java/lang/invoke/MethodHandle" ∧ yJ0_checkIndex_df160.cls ≠ "java/lang/invoke/VarHandle" ∧ (parseMethodDescriptor yJ0_checkIndex_df160.desc).map (fun d => d.parameters.length) = some 2 := by decide +kernel
theorem hp_J0_checkIndex_df160 : plainName yJ0_checkIndex_df160.cls = true := by decide +kernel
def rm_J1_charAt_3b067 : Room := { frames := 2, cells := 0, slots := 0, locals := 43 }
theorem hy_J1_charAt_3b067 : yJ1_charAt_3b067.cls ≠ "java/lang/invoke/MethodHandle" ∧ yJ1_charAt_3b067.cls ≠ "java/lang/invoke/VarHandle" ∧ (parseMethodDescriptor yJ1_charAt_3b067.desc).map (fun d => d.parameters.length) = some 2 := by decide +kernel
theorem hp_J1_charAt_3b067 : plainName yJ1_charAt_3b067.cls = true := by decide +kernel
def rm_J0_charAt_5068e : Room := { frames := 3, cells := 0, slots := 0, locals := 64 }
theorem hy_J0_charAt_5068e : yJ0_charAt_5068e.cls = RJ0 ∧ yJ0_charAt_5068e.cls ≠ "java/lang/invoke/MethodHandle" ∧ yJ0_charAt_5068e.cls ≠ "java/lang/invoke/VarHandle" ∧ (parseMethodDescriptor yJ0_charAt_5068e.desc).map (fun d => d.parameters.length) = some 1 := by decide +kernel
theorem hp_J0_charAt_5068e : plainName yJ0_charAt_5068e.cls = true := by decide +kernel
theorem ct_J0_coder_7d493 (l : Launch) (T : TT) (i : Nat) (hi : i < 6) : CT l yJ0_coder_7d493 wsJ0_coder_7d493 rm_J0_coder_7d493 T [.ref (T.2.2.2.2.2.1 i)] [] (some (iv 0)) [] := by
  refine CT.Z (maxL := 1) (lv0 := [(0, .ref (T.2.2.2.2.2.1 i))]) hp_J0_coder_7d493 rfl (Nat.le_of_ble_eq_true rfl) rfl rfl (fun M hM hF => ?_)
  refine xr_gcs hM (List.mem_of_getElem? (i := 1) rfl) dJ0_coder_7d493_0 ?_
  refine xr_if_eq hM 13 dJ0_coder_7d493_3 (by decide) (by omega) (fun c => by exfalso; omega) (fun c => ?_)
  refine xr_aload_n hM 0 dJ0_coder_7d493_6 rfl rfl ?_
  refine xr_scod hM i hi (List.mem_of_getElem? (i := 2) rfl) dJ0_coder_7d493_7 ?_
  refine xr_goto hM 14 dJ0_coder_7d493_10 (by decide) ?_
  exact xr_iret hF dJ0_coder_7d493_14 rfl rfl
theorem ct_J0_length_8abf5 (l : Launch) (T : TT) (i : Nat) (hi : i < 6) : CT l yJ0_length_8abf5 wsJ0_length_8abf5 rm_J0_length_8abf5 T [.ref (T.2.2.2.2.2.1 i)] [] (some (iv (xlen.getD i 0 : Nat))) [] := by
  refine CT.Z (maxL := 1) (lv0 := [(0, .ref (T.2.2.2.2.2.1 i))]) hp_J0_length_8abf5 rfl (Nat.le_of_ble_eq_true rfl) rfl rfl (fun M hM hF => ?_)
  refine xr_aload_n hM 0 dJ0_length_8abf5_0 rfl rfl ?_
  refine xr_sval hM i hi (List.mem_of_getElem? (i := 1) rfl) dJ0_length_8abf5_1 ?_
  refine xr_salen hM i hi dJ0_length_8abf5_4 ?_
  refine xr_aload_n hM 0 dJ0_length_8abf5_5 rfl rfl ?_
  refine xr_callT (rest := [iv (xlen.getD i 0 : Nat)]) (As := []) (st' := [iv 0, iv (xlen.getD i 0 : Nat)]) hM i hi (ct_J0_coder_7d493 M.2.1 T i hi) gJ0_length_8abf5_J0_coder_7d493 rfl ⟨rfl, rfl⟩ hy_J0_coder_7d493 rfl ⟨by decide, by decide⟩ rfl rfl (Nat.le_of_ble_eq_true rfl) ⟨by decide, by decide⟩ dJ0_length_8abf5_6 ?_
  refine xr_ishr0 hM dJ0_length_8abf5_9 ?_
  exact xr_iret hF dJ0_length_8abf5_10 rfl rfl
theorem ct_J0_isLatin1_aae02 (l : Launch) (T : TT) (i : Nat) (hi : i < 6) : CT l yJ0_isLatin1_aae02 wsJ0_isLatin1_aae02 rm_J0_isLatin1_aae02 T [.ref (T.2.2.2.2.2.1 i)] [] (some (iv 1)) [] := by
  refine CT.Z (maxL := 1) (lv0 := [(0, .ref (T.2.2.2.2.2.1 i))]) hp_J0_isLatin1_aae02 rfl (Nat.le_of_ble_eq_true rfl) rfl rfl (fun M hM hF => ?_)
  refine xr_gcs hM (List.mem_of_getElem? (i := 1) rfl) dJ0_isLatin1_aae02_0 ?_
  refine xr_if_eq hM 17 dJ0_isLatin1_aae02_3 (by decide) (by omega) (fun c => by exfalso; omega) (fun c => ?_)
  refine xr_aload_n hM 0 dJ0_isLatin1_aae02_6 rfl rfl ?_
  refine xr_scod hM i hi (List.mem_of_getElem? (i := 2) rfl) dJ0_isLatin1_aae02_7 ?_
  refine xr_if_ne hM 17 dJ0_isLatin1_aae02_10 (by decide) (by omega) (fun c => by exfalso; omega) (fun c => ?_)
  refine xr_iconst hM dJ0_isLatin1_aae02_13 ?_
  refine xr_goto hM 18 dJ0_isLatin1_aae02_14 (by decide) ?_
  exact xr_iret hF dJ0_isLatin1_aae02_18 rfl rfl
theorem ct_J3_checkIndex_8e157 (l : Launch) (T : TT) (i n : Int) (o : Option Nat) (h : 0 ≤ i ∧ i < n ∧ n < 2147483648) : CT l yJ3_checkIndex_8e157 wsJ3_checkIndex_8e157 rm_J3_checkIndex_8e157 T [iv i, iv n, va_rf o] [] (some (iv i)) [] := by
  cases o with
  | none =>
    refine CT.Z (maxL := 3) (lv0 := [(0, iv i), (1, iv n), (2, va_rf none)]) hp_J3_checkIndex_8e157 rfl (Nat.le_of_ble_eq_true rfl) rfl rfl (fun M hM hF => ?_)
    refine xr_iload_n hM 0 dJ3_checkIndex_8e157_0 rfl rfl ?_
    refine xr_if_lt hM 9 dJ3_checkIndex_8e157_1 (by decide) (by omega) (fun c => by exfalso; omega) (fun c => ?_)
    refine xr_iload_n hM 0 dJ3_checkIndex_8e157_4 rfl rfl ?_
    refine xr_iload_n hM 1 dJ3_checkIndex_8e157_5 rfl rfl ?_
    refine xr_icmp_lt hM 16 dJ3_checkIndex_8e157_6 (by decide) (by omega) (fun c => ?_) (fun c => by exfalso; omega)
    refine xr_iload_n hM 0 dJ3_checkIndex_8e157_16 rfl rfl ?_
    exact xr_iret hF dJ3_checkIndex_8e157_17 rfl rfl
  | some a =>
    refine CT.Z (maxL := 3) (lv0 := [(0, iv i), (1, iv n), (2, va_rf (some a))]) hp_J3_checkIndex_8e157 rfl (Nat.le_of_ble_eq_true rfl) rfl rfl (fun M hM hF => ?_)
    refine xr_iload_n hM 0 dJ3_checkIndex_8e157_0 rfl rfl ?_
    refine xr_if_lt hM 9 dJ3_checkIndex_8e157_1 (by decide) (by omega) (fun c => by exfalso; omega) (fun c => ?_)
    refine xr_iload_n hM 0 dJ3_checkIndex_8e157_4 rfl rfl ?_
    refine xr_iload_n hM 1 dJ3_checkIndex_8e157_5 rfl rfl ?_
    refine xr_icmp_lt hM 16 dJ3_checkIndex_8e157_6 (by decide) (by omega) (fun c => ?_) (fun c => by exfalso; omega)
    refine xr_iload_n hM 0 dJ3_checkIndex_8e157_16 rfl rfl ?_
    exact xr_iret hF dJ3_checkIndex_8e157_17 rfl rfl
theorem ct_J0_checkIndex_df160 (l : Launch) (T : TT) (i n : Int) (h : 0 ≤ i ∧ i < n ∧ n < 2147483648) : CT l yJ0_checkIndex_df160 wsJ0_checkIndex_df160 rm_J0_checkIndex_df160 T [iv i, iv n] [] none [] := by
  refine CT.V (maxL := 2) (lv0 := [(0, iv i), (1, iv n)]) hp_J0_checkIndex_df160 rfl (Nat.le_of_ble_eq_true rfl) rfl (fun M hM hF => ?_)
  refine xr_iload_n hM 0 dJ0_checkIndex_df160_0 rfl rfl ?_
  refine xr_iload_n hM 1 dJ0_checkIndex_df160_1 rfl rfl ?_
  refine xr_gsio hM (List.mem_of_getElem? (i := 1) rfl) dJ0_checkIndex_df160_2 ?_
  refine xr_callSr (rest := []) (As := [iv i, iv n, va_rf T.2.2.2.2.2.2.2]) (st' := [iv i]) hM (ct_J3_checkIndex_8e157 M.2.1 T i n T.2.2.2.2.2.2.2 h) gJ0_checkIndex_df160_J3_checkIndex_8e157 rfl ⟨rfl, rfl⟩ hy_J3_checkIndex_8e157 rfl ⟨by decide, by decide⟩ [] rfl rfl rfl rfl (Nat.le_of_ble_eq_true rfl) ⟨by decide, by decide⟩ dJ0_checkIndex_df160_5 ?_
  refine xr_pop hM dJ0_checkIndex_df160_8 rfl ?_
  exact xr_vret hF dJ0_checkIndex_df160_9 rfl
theorem ct_J1_charAt_3b067 (l : Launch) (T : TT) (i j : Nat) (hi : i < 6) (hj : j < xlen.getD i 0) (hj2 : xlen.getD i 0 < 100) : CT l yJ1_charAt_3b067 wsJ1_charAt_3b067 rm_J1_charAt_3b067 T [.ref (T.2.2.2.2.2.2.1 i), iv (j : Int)] [] (some (iv (xw i j))) [] := by
  refine CT.Z (maxL := 2) (lv0 := [(0, .ref (T.2.2.2.2.2.2.1 i)), (1, iv (j : Int))]) hp_J1_charAt_3b067 rfl (Nat.le_of_ble_eq_true rfl) (xi_nch (by have := (xw_ok i hi j hj).2; omega)) rfl (fun M hM hF => ?_)
  have hw := (xw_ok i hi j hj).2
  refine xr_iload_n hM 1 dJ1_charAt_3b067_0 rfl rfl ?_
  refine xr_aload_n hM 0 dJ1_charAt_3b067_1 rfl rfl ?_
  refine xr_salen hM i hi dJ1_charAt_3b067_2 ?_
  refine xr_callSr (rest := []) (As := [iv (j : Int), iv (xlen.getD i 0 : Nat)]) (st' := []) hM (ct_J0_checkIndex_df160 M.2.1 T (j : Int) (xlen.getD i 0 : Nat) (by omega)) gJ1_charAt_3b067_J0_checkIndex_df160 rfl ⟨rfl, rfl⟩ hy_J0_checkIndex_df160 rfl ⟨by decide, by decide⟩ [] rfl rfl rfl rfl (Nat.le_of_ble_eq_true rfl) ⟨by decide, by decide⟩ dJ1_charAt_3b067_3 ?_
  refine xr_aload_n hM 0 dJ1_charAt_3b067_6 rfl rfl ?_
  refine xr_iload_n hM 1 dJ1_charAt_3b067_7 rfl rfl ?_
  refine xr_sbld hM i j hi hj (by omega) dJ1_charAt_3b067_8 ?_
  refine xr_sipush hM dJ1_charAt_3b067_9 (by decide) ?_
  refine xr_iand255 hM i j hi hj dJ1_charAt_3b067_12 ?_
  refine xr_i2c hM (by omega) dJ1_charAt_3b067_13 ?_
  exact xr_iret hF dJ1_charAt_3b067_14 rfl rfl
theorem ct_J0_charAt_5068e (l : Launch) (T : TT) (i j : Nat) (hi : i < 6) (hj : j < xlen.getD i 0) (hj2 : xlen.getD i 0 < 100) : CT l yJ0_charAt_5068e wsJ0_charAt_5068e rm_J0_charAt_5068e T [.ref (T.2.2.2.2.2.1 i), iv (j : Int)] [] (some (iv (xw i j))) [] := by
  refine CT.Z (maxL := 2) (lv0 := [(0, .ref (T.2.2.2.2.2.1 i)), (1, iv (j : Int))]) hp_J0_charAt_5068e rfl (Nat.le_of_ble_eq_true rfl) (xi_nch (by have := (xw_ok i hi j hj).2; omega)) rfl (fun M hM hF => ?_)
  refine xr_aload_n hM 0 dJ0_charAt_5068e_0 rfl rfl ?_
  refine xr_callT (rest := []) (As := []) (st' := [iv 1]) hM i hi (ct_J0_isLatin1_aae02 M.2.1 T i hi) gJ0_charAt_5068e_J0_isLatin1_aae02 rfl ⟨rfl, rfl⟩ hy_J0_isLatin1_aae02 rfl ⟨by decide, by decide⟩ rfl rfl (Nat.le_of_ble_eq_true rfl) ⟨by decide, by decide⟩ dJ0_charAt_5068e_1 ?_
  refine xr_if_eq hM 16 dJ0_charAt_5068e_4 (by decide) (by omega) (fun c => by exfalso; omega) (fun c => ?_)
  refine xr_aload_n hM 0 dJ0_charAt_5068e_7 rfl rfl ?_
  refine xr_sval hM i hi (List.mem_of_getElem? (i := 1) rfl) dJ0_charAt_5068e_8 ?_
  refine xr_iload_n hM 1 dJ0_charAt_5068e_11 rfl rfl ?_
  refine xr_callSr (rest := []) (As := [.ref (T.2.2.2.2.2.2.1 i), iv (j : Int)]) (st' := [iv (xw i j)]) hM (ct_J1_charAt_3b067 M.2.1 T i j hi hj hj2) gJ0_charAt_5068e_J1_charAt_3b067 rfl ⟨rfl, rfl⟩ hy_J1_charAt_3b067 rfl ⟨by decide, by decide⟩ [] rfl rfl rfl rfl (Nat.le_of_ble_eq_true rfl) ⟨by decide, by decide⟩ dJ0_charAt_5068e_12 ?_
  exact xr_iret hF dJ0_charAt_5068e_15 rfl rfl
