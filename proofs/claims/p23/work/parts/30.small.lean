/-! ===== THE LAW: its small methods ===== -/
section Script
variable {T : TT} {M : MB} {cc : ByteArray} {own : String} {nL : Nat} {Ts : List Cond} {R0 : Room} {lv lv' : List (Nat × Value)} {ws ws' : va_W} {ce sl pc : Nat} {rest : List Value}
theorem xr_slenT (hM : FM T M cc own nL Ts R0) (hd : decode cc pc = .ok (.arraylength, 1))
    (k : VV T M nL lv ws ce sl (pc + 1) (iv (T.2.2.2.2.2.2.1 : Int) :: rest)) : VV T M nL lv ws ce sl pc (.ref T.2.2.2.2.2.1 :: rest) := by
  obtain ⟨p, l, e, R, s, m, args, below, meth, c, Q, A⟩ := M
  obtain ⟨hx, hb, hml, hown, hts, hK, hA, hR, hSX⟩ := hM
  intro ls H locs hl hP hD hS
  exact va_slen hx hb hSX.2.1 hSX.2.2.1 hSX.2.2.2 hS hd (k ls H locs hl hP hD hS)
theorem xr_sldT (hM : FM T M cc own nL Ts R0) {i : Int} (hi : 0 ≤ i ∧ i < (T.2.2.2.2.2.2.1 : Int) ∧ i < 2147483648) (hd : decode cc pc = .ok (.iaload, 1))
    (k : VV T M nL lv ws ce sl (pc + 1) (iv (T.2.2.2.2.2.2.2 i.toNat).toInt :: rest)) : VV T M nL lv ws ce sl pc (iv i :: .ref T.2.2.2.2.2.1 :: rest) := by
  obtain ⟨p, l, e, R, s, m, args, below, meth, c, Q, A⟩ := M
  obtain ⟨hx, hb, hml, hown, hts, hK, hA, hR, hSX⟩ := hM
  intro ls H locs hl hP hD hS
  have k1 := k ls H locs hl hP hD hS
  rw [← iv_to] at k1
  refine va_sld hx hb hSX.2.1 hSX.2.2.1 hSX.2.2.2 hS (xi_in hi) hd ?_
  rw [xi_cl ⟨hi.1, hi.2.2⟩]
  exact k1
theorem xr_iandM (hM : FM T M cc own nL Ts R0) {x z : Int} (hd : decode cc pc = .ok (.iand, 1)) (k : VV T M nL lv ws ce sl (pc + 1) (iv (Int32.ofInt x &&& Int32.ofInt z).toInt :: rest)) : VV T M nL lv ws ce sl pc (iv z :: iv x :: rest) := by
  rw [← iv_to] at k
  obtain ⟨p, l, e, R, s, m, args, below, meth, c, Q, A⟩ := M
  obtain ⟨hx, hb, hml, hown, hts, hK, hA, hR, hSX⟩ := hM
  intro ls H locs hl hP hD hS
  exact lv_iand hx hb hd (k ls H locs hl hP hD hS)
end Script
/-- a cell of the script, its sign taken off; beyond its end a number of its own -/
def celF (T : TT) (k : Int) : Int := (Int32.ofInt (if k < (T.2.2.2.2.2.2.1 : Int) then (T.2.2.2.2.2.2.2 k.toNat).toInt else 16807 * (k + 13)) &&& Int32.ofInt 2147483647).toInt
theorem celF_b (T : TT) (k : Int) : 0 ≤ celF T k ∧ celF T k < 2147483648 := by
  unfold celF
  generalize Int32.ofInt (if k < (T.2.2.2.2.2.2.1 : Int) then (T.2.2.2.2.2.2.2 k.toNat).toInt else 16807 * (k + 13)) = a
  refine ⟨?_, (xi_bd _).2⟩
  show 0 ≤ (a &&& Int32.ofInt 2147483647).toBitVec.toInt
  refine BitVec.toInt_nonneg_of_msb_false ?_
  rw [Int32.toBitVec_and, BitVec.msb_and, show (Int32.ofInt 2147483647).toBitVec.msb = false by decide, Bool.and_false]
theorem ct_L_cell (l : Launch) (T : TT) (k : Int) (hk : 0 ≤ k ∧ k ≤ 1000) (hT : T.2.2.2.2.2.2.1 < 2147483648) : CT l yL_cell wsL_cell rm_L_cell T [.ref T.2.2.2.2.2.1, iv k] ([]) (some (iv (celF T k))) ([]) := by
  refine CT.Z (maxL := 2) (lv0 := [(0, .ref T.2.2.2.2.2.1), (1, iv k)]) hp_L_cell rfl (Nat.le_of_ble_eq_true rfl) rfl rfl (fun M hM hF => ?_)
  have K : ∀ x : Int, x = (if k < (T.2.2.2.2.2.2.1 : Int) then (T.2.2.2.2.2.2.2 k.toNat).toInt else 16807 * (k + 13)) → VV T M 2 [(0, .ref T.2.2.2.2.2.1), (1, iv k)] [] 0 0 20 [iv x] := by
    intro x hx
    refine xr_ldc hM 2147483647 (List.mem_of_getElem? (i := 1) rfl) (by decide) dL_cell_20 ?_
    refine xr_iandM hM dL_cell_22 ?_
    exact xr_iret hF dL_cell_23 (by rw [hx]; rfl) rfl
  refine xr_iload_n hM 1 dL_cell_0 rfl rfl ?_
  refine xr_aload_n hM 0 dL_cell_1 rfl rfl ?_
  refine xr_slenT hM dL_cell_2 ?_
  refine xr_icmp_ge hM 12 dL_cell_3 (by decide) (by omega) (fun c3 => ?_) (fun c3 => ?_)
  · refine xr_sipush hM dL_cell_12 (by decide) ?_
    refine xr_iload_n hM 1 dL_cell_15 rfl rfl ?_
    refine xr_bipush hM dL_cell_16 (by decide) ?_
    refine xr_iadd hM dL_cell_18 ?_
    refine xr_imul hM dL_cell_19 ?_
    exact K _ (by rw [if_neg (by omega)])
  · refine xr_aload_n hM 0 dL_cell_6 rfl rfl ?_
    refine xr_iload_n hM 1 dL_cell_7 rfl rfl ?_
    refine xr_sldT hM (by omega) dL_cell_8 ?_
    refine xr_goto hM 20 dL_cell_9 (by decide) ?_
    exact K _ (by rw [if_pos (by omega)])
theorem pu_oE (X : WnS) (i kd ln : Int) (h : SE X) (hi : 0 ≤ i ∧ i ≤ gN (pX X)) (hn : gN (pX X) < 100) (hk : 0 ≤ kd ∧ kd ≤ 2) (hl : 0 ≤ ln ∧ ln ≤ 400) : 0 ≤ (puR X i kd ln).1 ∧ gN (pX (puR X i kd ln).2) = gN (pX X) + 1 ∧ (puR X i kd ln).1 = tpF (pX (puR X i kd ln).2) (gN (pX (puR X i kd ln).2)).toNat := pu_ok h hi hn hk hl
theorem cu_oE (X : WnS) (i : Int) (h : SE X) (hi : 0 ≤ i ∧ i < gN (pX X)) : (cuR X i).1 = gN (pX X) - 1 ∧ gN (pX (cuR X i).2) = gN (pX X) - 1 ∧ (i + 1 < gN (pX X) → gL (pX (cuR X i).2) i.toNat = gL (pX X) (i + 1).toNat) := cu_ok h hi
theorem ch_oE (X : WnS) (i ln : Int) (hi : 0 ≤ i ∧ i < gN (pX X)) (hl : 0 ≤ ln ∧ ln ≤ 400) (h : SE X) : (chR X i ln).1 = gL (pX X) i.toNat ∧ gN (pX (chR X i ln).2) = gN (pX X) := ch_ok hi hl h
theorem sh_oE (X : WnS) (v : Int) (hv : 20 ≤ v ∧ v ≤ 600) (h : SE X) : (shR X v).1 = pH X ∧ pH (shR X v).2 = v ∧ gN (pX (shR X v).2) = gN (pX X) := sh_ok hv h
theorem sw_oE (X : WnS) (v : Int) (hv : 5 ≤ v ∧ v ≤ 80) (h : SE X) : (swR X v).1 = gW (pX X) ∧ gW (pX (swR X v).2) = v ∧ gN (pX (swR X v).2) = gN (pX X) := sw_ok hv h
theorem ml_oE (X : WnS) (i : Int) (hi : 0 ≤ i ∧ i < gN (pX X)) (h : SE X) : (mlR X i).1 = pA (mlR X i).2 ∧ gN (pX (mlR X i).2) = gN (pX X) := ml_ok hi h
/-- how long a line is made -/
def sizF (z : Int) : Int := if z % 4 = 0 then z / 4 % 401 else z / 4 % 90
theorem sizF_b {z : Int} (h : 0 ≤ z) : 0 ≤ sizF z ∧ sizF z ≤ 400 := by
  unfold sizF
  split <;> omega
theorem ct_L_size (l : Launch) (T : TT) (z : Int) (hz : 0 ≤ z ∧ z < 2147483648) : CT l yL_size wsL_size rm_L_size T [iv z] ([]) (some (iv (sizF z))) ([]) := by
  refine CT.Z (maxL := 1) (lv0 := [(0, iv z)]) hp_L_size rfl (Nat.le_of_ble_eq_true rfl) rfl rfl (fun M hM hF => ?_)
  refine xr_iload_n hM 0 dL_size_0 rfl rfl ?_
  refine xr_iconst hM dL_size_1 ?_
  refine xr_irem hM dL_size_2 (by omega) ?_
  refine xr_if_ne hM 16 dL_size_3 (by decide) (by omega) (fun c3 => ?_) (fun c3 => ?_)
  · refine xr_iload_n hM 0 dL_size_16 rfl rfl ?_
    refine xr_iconst hM dL_size_17 ?_
    refine xr_idiv hM dL_size_18 (by omega) ?_
    refine xr_bipush hM dL_size_19 (by decide) ?_
    refine xr_irem hM dL_size_21 (by omega) ?_
    exact xr_iret hF dL_size_22 (by unfold sizF; rw [if_neg (by omega)]) rfl
  · refine xr_iload_n hM 0 dL_size_6 rfl rfl ?_
    refine xr_iconst hM dL_size_7 ?_
    refine xr_idiv hM dL_size_8 (by omega) ?_
    refine xr_sipush hM dL_size_9 (by decide) ?_
    refine xr_irem hM dL_size_12 (by omega) ?_
    refine xr_goto hM 22 dL_size_13 (by decide) ?_
    exact xr_iret hF dL_size_22 (by unfold sizF; rw [if_pos (by omega)]) rfl

