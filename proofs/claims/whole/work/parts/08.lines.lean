theorem ct_X1_isLine (l : Launch) (T : TT) (a : Nat → Nat) (x : LnS) (i : Int) (hx : WFL x) (hi : -2147483648 ≤ i ∧ i < 2147483648) : CT l yX1_isLine wsX1_isLine rm_X1_isLine T [.ref (a 0), iv i] (linE T a x) (some (iv (bi (0 ≤ i ∧ i < gN x)))) (linE T a x) := by
  refine CT.Z (maxL := 2) (lv0 := [(0, .ref (a 0)), (1, iv i)]) hp_X1_isLine rfl (Nat.le_of_ble_eq_true rfl) bi_n rfl (fun M hM hF => ?_)
  have hn := hx.1
  refine xr_iload_n hM 1 dX1_isLine_0 rfl rfl ?_
  refine xr_if_lt hM 22 dX1_isLine_1 (by decide) (by omega) (fun c1 => ?_) (fun c1 => ?_)
  · refine xr_iconst hM dX1_isLine_22 ?_
    exact xr_iret hF dX1_isLine_23 (bi_f (by omega)).symm rfl
  · refine xr_iload_n hM 1 dX1_isLine_4 rfl rfl ?_
    refine xr_aload_n hM 0 dX1_isLine_5 rfl rfl ?_
    refine xr_get (C := RX1) (TT0 := TX1) (N := 7) hM 1 0 5 (fun _ h => List.mem_cons_of_mem _ (List.mem_append_right _ h)) rfl rfl (by decide) (List.mem_of_getElem? (i := 1) rfl) rfl rfl dX1_isLine_6 ?_
    refine xr_icmp_ge hM 22 dX1_isLine_9 (by decide) (by omega) (fun c9 => ?_) (fun c9 => ?_)
    · refine xr_iconst hM dX1_isLine_22 ?_
      exact xr_iret hF dX1_isLine_23 (bi_f (by omega)).symm rfl
    · refine xr_iload_n hM 1 dX1_isLine_12 rfl rfl ?_
      refine xr_bipush hM dX1_isLine_13 (by decide) ?_
      refine xr_icmp_ge hM 22 dX1_isLine_15 (by decide) (by omega) (fun c15 => ?_) (fun c15 => ?_)
      · refine xr_iconst hM dX1_isLine_22 ?_
        exact xr_iret hF dX1_isLine_23 (bi_f (by omega)).symm rfl
      · refine xr_iconst hM dX1_isLine_18 ?_
        refine xr_goto hM 23 dX1_isLine_19 (by decide) ?_
        exact xr_iret hF dX1_isLine_23 (bi_t (by omega)).symm rfl

theorem ct_X1_isKind (l : Launch) (T : TT) (a : Nat → Nat) (x : LnS) (i : Int) (hi : -2147483648 ≤ i ∧ i < 2147483648) : CT l yX1_isKind wsX1_isKind rm_X1_isKind T [.ref (a 0), iv i] (linE T a x) (some (iv (bi (0 ≤ i ∧ i < 3)))) (linE T a x) := by
  refine CT.Z (maxL := 2) (lv0 := [(0, .ref (a 0)), (1, iv i)]) hp_X1_isKind rfl (Nat.le_of_ble_eq_true rfl) bi_n rfl (fun M hM hF => ?_)
  refine xr_iload_n hM 1 dX1_isKind_0 rfl rfl ?_
  refine xr_if_lt hM 13 dX1_isKind_1 (by decide) (by omega) (fun c1 => ?_) (fun c1 => ?_)
  · refine xr_iconst hM dX1_isKind_13 ?_
    exact xr_iret hF dX1_isKind_14 (bi_f (by omega)).symm rfl
  · refine xr_iload_n hM 1 dX1_isKind_4 rfl rfl ?_
    refine xr_iconst hM dX1_isKind_5 ?_
    refine xr_icmp_ge hM 13 dX1_isKind_6 (by decide) (by omega) (fun c6 => ?_) (fun c6 => ?_)
    · refine xr_iconst hM dX1_isKind_13 ?_
      exact xr_iret hF dX1_isKind_14 (bi_f (by omega)).symm rfl
    · refine xr_iconst hM dX1_isKind_9 ?_
      refine xr_goto hM 14 dX1_isKind_10 (by decide) ?_
      exact xr_iret hF dX1_isKind_14 (bi_t (by omega)).symm rfl

theorem ct_X1_trueHeight (l : Launch) (T : TT) (a : Nat → Nat) (x : LnS) (k n : Int) (hx : WFL x) (hk : 0 ≤ k ∧ k ≤ 2) (hn : 0 ≤ n ∧ n ≤ 400) : CT l yX1_trueHeight wsX1_trueHeight rm_X1_trueHeight T [.ref (a 0), iv k, iv n] (linE T a x) (some (iv (tH (gW x) k n))) (linE T a x) := by
  refine CT.Z (maxL := 4) (lv0 := [(0, .ref (a 0)), (1, iv k), (2, iv n)]) hp_X1_trueHeight rfl (Nat.le_of_ble_eq_true rfl) rfl rfl (fun M hM hF => ?_)
  have hw := hx.2.1
  refine xr_iload_n hM 2 dX1_trueHeight_0 rfl rfl ?_
  refine xr_if_le hM 27 dX1_trueHeight_1 (by decide) (by omega) (fun c1 => ?_) (fun c1 => ?_)
  · refine xr_iconst hM dX1_trueHeight_27 ?_
    refine xr_istore_n (lv' := [(0, .ref (a 0)), (1, iv k), (2, iv n), (3, iv 1)]) hM dX1_trueHeight_28 rfl (by decide) rfl rfl ?_
    refine xr_iload_n hM 1 dX1_trueHeight_29 rfl rfl ?_
    have hrw : True := trivial
    by_cases c30_0 : k = 0
    · refine xr_lookupK hM 56 dX1_trueHeight_30 (by decide) c30_0 (by decide) rfl (by decide) ?_
      refine xr_bipush hM dX1_trueHeight_56 (by decide) ?_
      refine xr_iload_n hM 3 dX1_trueHeight_58 rfl rfl ?_
      refine xr_imul hM dX1_trueHeight_59 ?_
      refine xr_iconst hM dX1_trueHeight_60 ?_
      refine xr_iadd hM dX1_trueHeight_61 ?_
      exact xr_iret hF dX1_trueHeight_62 (by unfold tH rowsF; (repeat' split) <;> omega) rfl
    by_cases c30_1 : k = 1
    · refine xr_lookupK hM 63 dX1_trueHeight_30 (by decide) c30_1 (by decide) rfl (by decide) ?_
      refine xr_bipush hM dX1_trueHeight_63 (by decide) ?_
      refine xr_iload_n hM 3 dX1_trueHeight_65 rfl rfl ?_
      refine xr_imul hM dX1_trueHeight_66 ?_
      refine xr_bipush hM dX1_trueHeight_67 (by decide) ?_
      refine xr_iadd hM dX1_trueHeight_69 ?_
      exact xr_iret hF dX1_trueHeight_70 (by unfold tH rowsF; (repeat' split) <;> omega) rfl
    refine xr_lookup hM 71 dX1_trueHeight_30 (by decide) (by omega) (xl_def2 (by omega) (by omega)) (by decide) ?_
    refine xr_iload_n hM 2 dX1_trueHeight_71 rfl rfl ?_
    refine xr_bipush hM dX1_trueHeight_72 (by decide) ?_
    refine xr_iadd hM dX1_trueHeight_74 ?_
    exact xr_iret hF dX1_trueHeight_75 (by unfold tH rowsF; (repeat' split) <;> omega) rfl
  · refine xr_aload_n hM 0 dX1_trueHeight_4 rfl rfl ?_
    refine xr_get (C := RX1) (TT0 := TX1) (N := 7) hM 1 0 6 (fun _ h => List.mem_cons_of_mem _ (List.mem_append_right _ h)) rfl rfl (by decide) (List.mem_of_getElem? (i := 1) rfl) rfl rfl dX1_trueHeight_5 ?_
    refine xr_if_le hM 27 dX1_trueHeight_8 (by decide) (by omega) (fun c8 => ?_) (fun c8 => ?_)
    · refine xr_iconst hM dX1_trueHeight_27 ?_
      refine xr_istore_n (lv' := [(0, .ref (a 0)), (1, iv k), (2, iv n), (3, iv 1)]) hM dX1_trueHeight_28 rfl (by decide) rfl rfl ?_
      refine xr_iload_n hM 1 dX1_trueHeight_29 rfl rfl ?_
      have hrw : True := trivial
      by_cases c30_1_0 : k = 0
      · refine xr_lookupK hM 56 dX1_trueHeight_30 (by decide) c30_1_0 (by decide) rfl (by decide) ?_
        refine xr_bipush hM dX1_trueHeight_56 (by decide) ?_
        refine xr_iload_n hM 3 dX1_trueHeight_58 rfl rfl ?_
        refine xr_imul hM dX1_trueHeight_59 ?_
        refine xr_iconst hM dX1_trueHeight_60 ?_
        refine xr_iadd hM dX1_trueHeight_61 ?_
        exact xr_iret hF dX1_trueHeight_62 (by unfold tH rowsF; (repeat' split) <;> omega) rfl
      by_cases c30_1_1 : k = 1
      · refine xr_lookupK hM 63 dX1_trueHeight_30 (by decide) c30_1_1 (by decide) rfl (by decide) ?_
        refine xr_bipush hM dX1_trueHeight_63 (by decide) ?_
        refine xr_iload_n hM 3 dX1_trueHeight_65 rfl rfl ?_
        refine xr_imul hM dX1_trueHeight_66 ?_
        refine xr_bipush hM dX1_trueHeight_67 (by decide) ?_
        refine xr_iadd hM dX1_trueHeight_69 ?_
        exact xr_iret hF dX1_trueHeight_70 (by unfold tH rowsF; (repeat' split) <;> omega) rfl
      refine xr_lookup hM 71 dX1_trueHeight_30 (by decide) (by omega) (xl_def2 (by omega) (by omega)) (by decide) ?_
      refine xr_iload_n hM 2 dX1_trueHeight_71 rfl rfl ?_
      refine xr_bipush hM dX1_trueHeight_72 (by decide) ?_
      refine xr_iadd hM dX1_trueHeight_74 ?_
      exact xr_iret hF dX1_trueHeight_75 (by unfold tH rowsF; (repeat' split) <;> omega) rfl
    · refine xr_iload_n hM 2 dX1_trueHeight_11 rfl rfl ?_
      refine xr_aload_n hM 0 dX1_trueHeight_12 rfl rfl ?_
      refine xr_get (C := RX1) (TT0 := TX1) (N := 7) hM 1 0 6 (fun _ h => List.mem_cons_of_mem _ (List.mem_append_right _ h)) rfl rfl (by decide) (List.mem_of_getElem? (i := 1) rfl) rfl rfl dX1_trueHeight_13 ?_
      refine xr_iadd hM dX1_trueHeight_16 ?_
      refine xr_iconst hM dX1_trueHeight_17 ?_
      refine xr_isub hM dX1_trueHeight_18 ?_
      refine xr_aload_n hM 0 dX1_trueHeight_19 rfl rfl ?_
      refine xr_get (C := RX1) (TT0 := TX1) (N := 7) hM 1 0 6 (fun _ h => List.mem_cons_of_mem _ (List.mem_append_right _ h)) rfl rfl (by decide) (List.mem_of_getElem? (i := 1) rfl) rfl rfl dX1_trueHeight_20 ?_
      refine xr_idiv hM dX1_trueHeight_23 (by omega) ?_
      refine xr_goto hM 28 dX1_trueHeight_24 (by decide) ?_
      refine xr_istore_n (lv' := [(0, .ref (a 0)), (1, iv k), (2, iv n), (3, iv (((n + (gW x)) - 1) / (gW x)))]) hM dX1_trueHeight_28 rfl (by decide) rfl rfl ?_
      refine xr_iload_n hM 1 dX1_trueHeight_29 rfl rfl ?_
      have hrw : True := trivial
      by_cases c30_2_0 : k = 0
      · refine xr_lookupK hM 56 dX1_trueHeight_30 (by decide) c30_2_0 (by decide) rfl (by decide) ?_
        refine xr_bipush hM dX1_trueHeight_56 (by decide) ?_
        refine xr_iload_n hM 3 dX1_trueHeight_58 rfl rfl ?_
        refine xr_imul hM dX1_trueHeight_59 ?_
        refine xr_iconst hM dX1_trueHeight_60 ?_
        refine xr_iadd hM dX1_trueHeight_61 ?_
        exact xr_iret hF dX1_trueHeight_62 (by unfold tH rowsF; (repeat' split) <;> omega) rfl
      by_cases c30_2_1 : k = 1
      · refine xr_lookupK hM 63 dX1_trueHeight_30 (by decide) c30_2_1 (by decide) rfl (by decide) ?_
        refine xr_bipush hM dX1_trueHeight_63 (by decide) ?_
        refine xr_iload_n hM 3 dX1_trueHeight_65 rfl rfl ?_
        refine xr_imul hM dX1_trueHeight_66 ?_
        refine xr_bipush hM dX1_trueHeight_67 (by decide) ?_
        refine xr_iadd hM dX1_trueHeight_69 ?_
        exact xr_iret hF dX1_trueHeight_70 (by unfold tH rowsF; (repeat' split) <;> omega) rfl
      refine xr_lookup hM 71 dX1_trueHeight_30 (by decide) (by omega) (xl_def2 (by omega) (by omega)) (by decide) ?_
      refine xr_iload_n hM 2 dX1_trueHeight_71 rfl rfl ?_
      refine xr_bipush hM dX1_trueHeight_72 (by decide) ?_
      refine xr_iadd hM dX1_trueHeight_74 ?_
      exact xr_iret hF dX1_trueHeight_75 (by unfold tH rowsF; (repeat' split) <;> omega) rfl
