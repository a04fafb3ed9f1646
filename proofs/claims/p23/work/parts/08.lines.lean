theorem ct_X1_isLine (l : Launch) (T : TT) (a : Nat → Nat) (x : LnS) (i : Int) (hx : WFL x) (hi : -2147483648 ≤ i ∧ i < 2147483648) : CT l yX1_isLine wsX1_isLine rm_X1_isLine T [.ref (a 0), iv i] (linE T a x) (some (iv (bi (0 ≤ i ∧ i < gN x)))) (linE T a x) := by
  refine CT.Z (maxL := 2) (lv0 := [(0, .ref (a 0)), (1, iv i)]) hp_X1_isLine rfl (Nat.le_of_ble_eq_true rfl) bi_n rfl (fun M hM hF => ?_)
  have hn := hx.1
  refine xr_iload_n hM 1 dX1_isLine_0 rfl rfl ?_
  refine xr_if_lt hM 22 dX1_isLine_1 (by decide) (by omega) (fun c1 => ?_) (fun c1 => ?_)
  · refine xr_iconst hM dX1_isLine_22 ?_
    exact xr_iret hF dX1_isLine_23 (bi_f (by omega)).symm rfl
  · refine xr_iload_n hM 1 dX1_isLine_4 rfl rfl ?_
    refine xr_aload_n hM 0 dX1_isLine_5 rfl rfl ?_
    refine xr_get (C := RX1) (TT0 := TX1) (N := 7) hM 1 0 5 (fun _ h => List.mem_cons_of_mem _ (List.mem_append_right _ h)) rfl rfl (by decide) (List.mem_of_getElem? (i := 1) rfl) rfl rfl dX1_isLine_6 ?_
    refine xr_icmp_ge hM 22 dX1_isLine_9 (by decide) (by omega) (fun c9 => ?_) (fun c9 => ?_)
    · refine xr_iconst hM dX1_isLine_22 ?_
      exact xr_iret hF dX1_isLine_23 (bi_f (by omega)).symm rfl
    · refine xr_iload_n hM 1 dX1_isLine_12 rfl rfl ?_
      refine xr_bipush hM dX1_isLine_13 (by decide) ?_
      refine xr_icmp_ge hM 22 dX1_isLine_15 (by decide) (by omega) (fun c15 => ?_) (fun c15 => ?_)
      · refine xr_iconst hM dX1_isLine_22 ?_
        exact xr_iret hF dX1_isLine_23 (bi_f (by omega)).symm rfl
      · refine xr_iconst hM dX1_isLine_18 ?_
        refine xr_goto hM 23 dX1_isLine_19 (by decide) ?_
        exact xr_iret hF dX1_isLine_23 (bi_t (by omega)).symm rfl

theorem ct_X1_isKind (l : Launch) (T : TT) (a : Nat → Nat) (x : LnS) (i : Int) (hi : -2147483648 ≤ i ∧ i < 2147483648) : CT l yX1_isKind wsX1_isKind rm_X1_isKind T [.ref (a 0), iv i] (linE T a x) (some (iv (bi (0 ≤ i ∧ i < 3)))) (linE T a x) := by
  refine CT.Z (maxL := 2) (lv0 := [(0, .ref (a 0)), (1, iv i)]) hp_X1_isKind rfl (Nat.le_of_ble_eq_true rfl) bi_n rfl (fun M hM hF => ?_)
  refine xr_iload_n hM 1 dX1_isKind_0 rfl rfl ?_
  refine xr_if_lt hM 13 dX1_isKind_1 (by decide) (by omega) (fun c1 => ?_) (fun c1 => ?_)
  · refine xr_iconst hM dX1_isKind_13 ?_
    exact xr_iret hF dX1_isKind_14 (bi_f (by omega)).symm rfl
  · refine xr_iload_n hM 1 dX1_isKind_4 rfl rfl ?_
    refine xr_iconst hM dX1_isKind_5 ?_
    refine xr_icmp_ge hM 13 dX1_isKind_6 (by decide) (by omega) (fun c6 => ?_) (fun c6 => ?_)
    · refine xr_iconst hM dX1_isKind_13 ?_
      exact xr_iret hF dX1_isKind_14 (bi_f (by omega)).symm rfl
    · refine xr_iconst hM dX1_isKind_9 ?_
      refine xr_goto hM 14 dX1_isKind_10 (by decide) ?_
      exact xr_iret hF dX1_isKind_14 (bi_t (by omega)).symm rfl

theorem ct_X1_trueHeight (l : Launch) (T : TT) (a : Nat → Nat) (x : LnS) (k n : Int) (hw : 5 ≤ gW x ∧ gW x ≤ 80) (hk : 0 ≤ k ∧ k ≤ 2) (hn : 0 ≤ n ∧ n ≤ 400) : CT l yX1_trueHeight wsX1_trueHeight rm_X1_trueHeight T [.ref (a 0), iv k, iv n] (linE T a x) (some (iv (tH (gW x) k n))) (linE T a x) := by
  refine CT.Z (maxL := 4) (lv0 := [(0, .ref (a 0)), (1, iv k), (2, iv n)]) hp_X1_trueHeight rfl (Nat.le_of_ble_eq_true rfl) rfl rfl (fun M hM hF => ?_)
  refine xr_iload_n hM 2 dX1_trueHeight_0 rfl rfl ?_
  refine xr_if_le hM 27 dX1_trueHeight_1 (by decide) (by omega) (fun c1 => ?_) (fun c1 => ?_)
  · refine xr_iconst hM dX1_trueHeight_27 ?_
    refine xr_istore_n (lv' := [(0, .ref (a 0)), (1, iv k), (2, iv n), (3, iv 1)]) hM dX1_trueHeight_28 rfl (by decide) rfl rfl ?_
    refine xr_iload_n hM 1 dX1_trueHeight_29 rfl rfl ?_
    by_cases c30_0 : k = 0
    · refine xr_lookupK hM 56 dX1_trueHeight_30 (by decide) c30_0 (by decide) rfl (by decide) ?_
      refine xr_bipush hM dX1_trueHeight_56 (by decide) ?_
      refine xr_iload_n hM 3 dX1_trueHeight_58 rfl rfl ?_
      refine xr_imul hM dX1_trueHeight_59 ?_
      refine xr_iconst hM dX1_trueHeight_60 ?_
      refine xr_iadd hM dX1_trueHeight_61 ?_
      exact xr_iret hF dX1_trueHeight_62 (by unfold tH rowsF; (repeat' split) <;> omega) rfl
    by_cases c30_1 : k = 1
    · refine xr_lookupK hM 63 dX1_trueHeight_30 (by decide) c30_1 (by decide) rfl (by decide) ?_
      refine xr_bipush hM dX1_trueHeight_63 (by decide) ?_
      refine xr_iload_n hM 3 dX1_trueHeight_65 rfl rfl ?_
      refine xr_imul hM dX1_trueHeight_66 ?_
      refine xr_bipush hM dX1_trueHeight_67 (by decide) ?_
      refine xr_iadd hM dX1_trueHeight_69 ?_
      exact xr_iret hF dX1_trueHeight_70 (by unfold tH rowsF; (repeat' split) <;> omega) rfl
    refine xr_lookup hM 71 dX1_trueHeight_30 (by decide) (by omega) (xl_def2 (by omega) (by omega)) (by decide) ?_
    refine xr_iload_n hM 2 dX1_trueHeight_71 rfl rfl ?_
    refine xr_bipush hM dX1_trueHeight_72 (by decide) ?_
    refine xr_iadd hM dX1_trueHeight_74 ?_
    exact xr_iret hF dX1_trueHeight_75 (by unfold tH rowsF; (repeat' split) <;> omega) rfl
  · refine xr_aload_n hM 0 dX1_trueHeight_4 rfl rfl ?_
    refine xr_get (C := RX1) (TT0 := TX1) (N := 7) hM 1 0 6 (fun _ h => List.mem_cons_of_mem _ (List.mem_append_right _ h)) rfl rfl (by decide) (List.mem_of_getElem? (i := 1) rfl) rfl rfl dX1_trueHeight_5 ?_
    refine xr_if_le hM 27 dX1_trueHeight_8 (by decide) (by omega) (fun c8 => ?_) (fun c8 => ?_)
    · refine xr_iconst hM dX1_trueHeight_27 ?_
      refine xr_istore_n (lv' := [(0, .ref (a 0)), (1, iv k), (2, iv n), (3, iv 1)]) hM dX1_trueHeight_28 rfl (by decide) rfl rfl ?_
      refine xr_iload_n hM 1 dX1_trueHeight_29 rfl rfl ?_
      by_cases c30_1_0 : k = 0
      · refine xr_lookupK hM 56 dX1_trueHeight_30 (by decide) c30_1_0 (by decide) rfl (by decide) ?_
        refine xr_bipush hM dX1_trueHeight_56 (by decide) ?_
        refine xr_iload_n hM 3 dX1_trueHeight_58 rfl rfl ?_
        refine xr_imul hM dX1_trueHeight_59 ?_
        refine xr_iconst hM dX1_trueHeight_60 ?_
        refine xr_iadd hM dX1_trueHeight_61 ?_
        exact xr_iret hF dX1_trueHeight_62 (by unfold tH rowsF; (repeat' split) <;> omega) rfl
      by_cases c30_1_1 : k = 1
      · refine xr_lookupK hM 63 dX1_trueHeight_30 (by decide) c30_1_1 (by decide) rfl (by decide) ?_
        refine xr_bipush hM dX1_trueHeight_63 (by decide) ?_
        refine xr_iload_n hM 3 dX1_trueHeight_65 rfl rfl ?_
        refine xr_imul hM dX1_trueHeight_66 ?_
        refine xr_bipush hM dX1_trueHeight_67 (by decide) ?_
        refine xr_iadd hM dX1_trueHeight_69 ?_
        exact xr_iret hF dX1_trueHeight_70 (by unfold tH rowsF; (repeat' split) <;> omega) rfl
      refine xr_lookup hM 71 dX1_trueHeight_30 (by decide) (by omega) (xl_def2 (by omega) (by omega)) (by decide) ?_
      refine xr_iload_n hM 2 dX1_trueHeight_71 rfl rfl ?_
      refine xr_bipush hM dX1_trueHeight_72 (by decide) ?_
      refine xr_iadd hM dX1_trueHeight_74 ?_
      exact xr_iret hF dX1_trueHeight_75 (by unfold tH rowsF; (repeat' split) <;> omega) rfl
    · refine xr_iload_n hM 2 dX1_trueHeight_11 rfl rfl ?_
      refine xr_aload_n hM 0 dX1_trueHeight_12 rfl rfl ?_
      refine xr_get (C := RX1) (TT0 := TX1) (N := 7) hM 1 0 6 (fun _ h => List.mem_cons_of_mem _ (List.mem_append_right _ h)) rfl rfl (by decide) (List.mem_of_getElem? (i := 1) rfl) rfl rfl dX1_trueHeight_13 ?_
      refine xr_iadd hM dX1_trueHeight_16 ?_
      refine xr_iconst hM dX1_trueHeight_17 ?_
      refine xr_isub hM dX1_trueHeight_18 ?_
      refine xr_aload_n hM 0 dX1_trueHeight_19 rfl rfl ?_
      refine xr_get (C := RX1) (TT0 := TX1) (N := 7) hM 1 0 6 (fun _ h => List.mem_cons_of_mem _ (List.mem_append_right _ h)) rfl rfl (by decide) (List.mem_of_getElem? (i := 1) rfl) rfl rfl dX1_trueHeight_20 ?_
      refine xr_idiv hM dX1_trueHeight_23 (by omega) ?_
      refine xr_goto hM 28 dX1_trueHeight_24 (by decide) ?_
      refine xr_istore_n (lv' := [(0, .ref (a 0)), (1, iv k), (2, iv n), (3, iv (((n + (gW x)) - 1) / (gW x)))]) hM dX1_trueHeight_28 rfl (by decide) rfl rfl ?_
      refine xr_iload_n hM 1 dX1_trueHeight_29 rfl rfl ?_
      by_cases c30_2_0 : k = 0
      · refine xr_lookupK hM 56 dX1_trueHeight_30 (by decide) c30_2_0 (by decide) rfl (by decide) ?_
        refine xr_bipush hM dX1_trueHeight_56 (by decide) ?_
        refine xr_iload_n hM 3 dX1_trueHeight_58 rfl rfl ?_
        refine xr_imul hM dX1_trueHeight_59 ?_
        refine xr_iconst hM dX1_trueHeight_60 ?_
        refine xr_iadd hM dX1_trueHeight_61 ?_
        exact xr_iret hF dX1_trueHeight_62 (by unfold tH rowsF; (repeat' split) <;> omega) rfl
      by_cases c30_2_1 : k = 1
      · refine xr_lookupK hM 63 dX1_trueHeight_30 (by decide) c30_2_1 (by decide) rfl (by decide) ?_
        refine xr_bipush hM dX1_trueHeight_63 (by decide) ?_
        refine xr_iload_n hM 3 dX1_trueHeight_65 rfl rfl ?_
        refine xr_imul hM dX1_trueHeight_66 ?_
        refine xr_bipush hM dX1_trueHeight_67 (by decide) ?_
        refine xr_iadd hM dX1_trueHeight_69 ?_
        exact xr_iret hF dX1_trueHeight_70 (by unfold tH rowsF; (repeat' split) <;> omega) rfl
      refine xr_lookup hM 71 dX1_trueHeight_30 (by decide) (by omega) (xl_def2 (by omega) (by omega)) (by decide) ?_
      refine xr_iload_n hM 2 dX1_trueHeight_71 rfl rfl ?_
      refine xr_bipush hM dX1_trueHeight_72 (by decide) ?_
      refine xr_iadd hM dX1_trueHeight_74 ?_
      exact xr_iret hF dX1_trueHeight_75 (by unfold tH rowsF; (repeat' split) <;> omega) rfl

theorem ct_X1_guess (l : Launch) (T : TT) (a : Nat → Nat) (x : LnS) (k : Int) (hx : WFL x) (hk : 0 ≤ k ∧ k ≤ 2) : CT l yX1_guess wsX1_guess rm_X1_guess T [.ref (a 0), iv k] (linE T a x) (some (iv (gsF x k))) (linE T a x) := by
  refine CT.Z (maxL := 2) (lv0 := [(0, .ref (a 0)), (1, iv k)]) hp_X1_guess rfl (Nat.le_of_ble_eq_true rfl) rfl rfl (fun M hM hF => ?_)
  have hcs := hx.cs hk
  refine xr_iload_n hM 1 dX1_guess_0 rfl rfl ?_
  refine xr_if_lt hM 18 dX1_guess_1 (by decide) (by omega) (fun c1 => by exfalso; omega) (fun c1 => ?_)
  refine xr_iload_n hM 1 dX1_guess_4 rfl rfl ?_
  refine xr_iconst hM dX1_guess_5 ?_
  refine xr_icmp_ge hM 18 dX1_guess_6 (by decide) (by omega) (fun c6 => by exfalso; omega) (fun c6 => ?_)
  refine xr_aload_n hM 0 dX1_guess_9 rfl rfl ?_
  refine xr_get (C := RX1) (TT0 := TX1) (N := 7) hM 1 0 4 (fun _ h => List.mem_cons_of_mem _ (List.mem_append_right _ h)) rfl rfl (by decide) (List.mem_of_getElem? (i := 1) rfl) rfl rfl dX1_guess_10 ?_
  refine xr_iload_n hM 1 dX1_guess_13 rfl rfl ?_
  refine xr_iald hM 5 k.toNat rfl rfl (by omega) dX1_guess_14 ?_
  refine xr_if_gt hM 21 dX1_guess_15 (by decide) (by omega) (fun c15 => ?_) (fun c15 => ?_)
  · refine xr_aload_n hM 0 dX1_guess_21 rfl rfl ?_
    refine xr_get (C := RX1) (TT0 := TX1) (N := 7) hM 1 0 3 (fun _ h => List.mem_cons_of_mem _ (List.mem_append_right _ h)) rfl rfl (by decide) (List.mem_of_getElem? (i := 2) rfl) rfl rfl dX1_guess_22 ?_
    refine xr_iload_n hM 1 dX1_guess_25 rfl rfl ?_
    refine xr_iald hM 4 k.toNat rfl rfl (by omega) dX1_guess_26 ?_
    refine xr_aload_n hM 0 dX1_guess_27 rfl rfl ?_
    refine xr_get (C := RX1) (TT0 := TX1) (N := 7) hM 1 0 4 (fun _ h => List.mem_cons_of_mem _ (List.mem_append_right _ h)) rfl rfl (by decide) (List.mem_of_getElem? (i := 1) rfl) rfl rfl dX1_guess_28 ?_
    refine xr_iload_n hM 1 dX1_guess_31 rfl rfl ?_
    refine xr_iald hM 5 k.toNat rfl rfl (by omega) dX1_guess_32 ?_
    refine xr_idiv hM dX1_guess_33 (by omega) ?_
    exact xr_iret hF dX1_guess_34 (by rw [gsF, if_pos c15]) rfl
  · refine xr_bipush hM dX1_guess_18 (by decide) ?_
    exact xr_iret hF dX1_guess_20 (by rw [gsF, if_neg (by omega)]) rfl

theorem ct_X1_heightOf (l : Launch) (T : TT) (a : Nat → Nat) (x : LnS) (i : Int) (hx : WFL x) (hi : 0 ≤ i ∧ i < gN x) : CT l yX1_heightOf wsX1_heightOf rm_X1_heightOf T [.ref (a 0), iv i] (linE T a x) (some (iv (htF x i.toNat))) (linE T a x) := by
  refine CT.Z (maxL := 2) (lv0 := [(0, .ref (a 0)), (1, iv i)]) hp_X1_heightOf rfl (Nat.le_of_ble_eq_true rfl) rfl rfl (fun M hM hF => ?_)
  have hn := hx.1
  have hw := hx.2.1
  have h3 := hx.2.2.1 i.toNat
  refine xr_aload_n hM 0 dX1_heightOf_0 rfl rfl ?_
  refine xr_iload_n hM 1 dX1_heightOf_1 rfl rfl ?_
  refine xr_callVr (rest := []) (As := [iv i]) (st' := [iv (bi (0 ≤ i ∧ i < gN x))]) hM (ct_X1_isLine M.2.1 T a x i hx (by omega)) gX1_heightOf_X1_isLine rfl ⟨rfl, rfl⟩ hy_X1_isLine rfl ⟨by decide, by decide⟩ [0, 1, 2, 3, 4, 5] rfl rfl 0 1 rfl rfl rfl rfl rfl (Nat.le_of_ble_eq_true rfl) ⟨by decide, by decide⟩ dX1_heightOf_2 ?_
  refine xr_ifb_ne hM 10 dX1_heightOf_5 (by decide) (fun c5 => ?_) (fun c5 => by exfalso; omega)
  refine xr_aload_n hM 0 dX1_heightOf_10 rfl rfl ?_
  refine xr_get (C := RX1) (TT0 := TX1) (N := 7) hM 1 0 2 (fun _ h => List.mem_cons_of_mem _ (List.mem_append_right _ h)) rfl rfl (by decide) (List.mem_of_getElem? (i := 1) rfl) rfl rfl dX1_heightOf_11 ?_
  refine xr_iload_n hM 1 dX1_heightOf_14 rfl rfl ?_
  refine xr_zald hM 3 i.toNat rfl rfl (by omega) dX1_heightOf_15 ?_
  refine xr_if_eq hM 38 dX1_heightOf_16 (by decide) (by omega) (fun c16 => ?_) (fun c16 => ?_)
  · refine xr_aload_n hM 0 dX1_heightOf_38 rfl rfl ?_
    refine xr_aload_n hM 0 dX1_heightOf_39 rfl rfl ?_
    refine xr_get (C := RX1) (TT0 := TX1) (N := 7) hM 1 0 0 (fun _ h => List.mem_cons_of_mem _ (List.mem_append_right _ h)) rfl rfl (by decide) (List.mem_of_getElem? (i := 2) rfl) rfl rfl dX1_heightOf_40 ?_
    refine xr_iload_n hM 1 dX1_heightOf_43 rfl rfl ?_
    refine xr_iald hM 1 i.toNat rfl rfl (by omega) dX1_heightOf_44 ?_
    refine xr_callVr (rest := []) (As := [iv ((gK x) i.toNat)]) (st' := [iv (gsF x ((gK x) i.toNat))]) hM (ct_X1_guess M.2.1 T a x ((gK x) i.toNat) hx (by omega)) gX1_heightOf_X1_guess rfl ⟨rfl, rfl⟩ hy_X1_guess rfl ⟨by decide, by decide⟩ [0, 1, 2, 3, 4, 5] rfl rfl 0 1 rfl rfl rfl rfl rfl (Nat.le_of_ble_eq_true rfl) ⟨by decide, by decide⟩ dX1_heightOf_45 ?_
    have hf45 := gsF_b hx (by omega : 0 ≤ ((gK x) i.toNat) ∧ ((gK x) i.toNat) ≤ 2)
    exact xr_iret hF dX1_heightOf_48 (by rw [htF, if_neg (by omega)]) rfl
  · refine xr_aload_n hM 0 dX1_heightOf_19 rfl rfl ?_
    refine xr_aload_n hM 0 dX1_heightOf_20 rfl rfl ?_
    refine xr_get (C := RX1) (TT0 := TX1) (N := 7) hM 1 0 0 (fun _ h => List.mem_cons_of_mem _ (List.mem_append_right _ h)) rfl rfl (by decide) (List.mem_of_getElem? (i := 2) rfl) rfl rfl dX1_heightOf_21 ?_
    refine xr_iload_n hM 1 dX1_heightOf_24 rfl rfl ?_
    refine xr_iald hM 1 i.toNat rfl rfl (by omega) dX1_heightOf_25 ?_
    refine xr_aload_n hM 0 dX1_heightOf_26 rfl rfl ?_
    refine xr_get (C := RX1) (TT0 := TX1) (N := 7) hM 1 0 1 (fun _ h => List.mem_cons_of_mem _ (List.mem_append_right _ h)) rfl rfl (by decide) (List.mem_of_getElem? (i := 3) rfl) rfl rfl dX1_heightOf_27 ?_
    refine xr_iload_n hM 1 dX1_heightOf_30 rfl rfl ?_
    refine xr_iald hM 2 i.toNat rfl rfl (by omega) dX1_heightOf_31 ?_
    refine xr_callVr (rest := []) (As := [iv ((gK x) i.toNat), iv ((gL x) i.toNat)]) (st' := [iv (tH (gW x) ((gK x) i.toNat) ((gL x) i.toNat))]) hM (ct_X1_trueHeight M.2.1 T a x ((gK x) i.toNat) ((gL x) i.toNat) (hw) (by omega) (by omega)) gX1_heightOf_X1_trueHeight rfl ⟨rfl, rfl⟩ hy_X1_trueHeight rfl ⟨by decide, by decide⟩ [0, 1, 2, 3, 4, 5] rfl rfl 0 1 rfl rfl rfl rfl rfl (Nat.le_of_ble_eq_true rfl) ⟨by decide, by decide⟩ dX1_heightOf_32 ?_
    have hf32 := (tH_b ⟨by omega, (hw)⟩ : 6 ≤ tH (gW x) ((gK x) i.toNat) ((gL x) i.toNat) ∧ tH (gW x) ((gK x) i.toNat) ((gL x) i.toNat) ≤ 1450)
    refine xr_goto hM 48 dX1_heightOf_35 (by decide) ?_
    exact xr_iret hF dX1_heightOf_48 (by rw [htF, if_pos (by omega)]) rfl

theorem lp_X1_topOf {T : TT} {M : MB} (a : Nat → Nat) (x : LnS) (i : Int) (hx : WFL x) (hi : 0 ≤ i ∧ i ≤ gN x) (hM : FM T M cX1_topOf RX1 4 wsX1_topOf rm_X1_topOf) (hF : FinI T M cX1_topOf 4 (iv (tpF x i.toNat)) (linE T a x)) : ∀ (f b : Nat), (b : Int) ≤ i → i.toNat - b < f → VV T M 4 [(0, .ref (a 0)), (1, iv i), (2, iv (tpF x b)), (3, iv (b : Int))] (linE T a x) 0 0 4 [] := by
  intro f
  induction f with
  | zero =>
    intro b h1 h2
    omega
  | succ f ih =>
    intro b h1 h2
    have hn := hx.1
    have htb := tpF_b hx b
    refine xr_iload_n hM 3 dX1_topOf_4 rfl rfl ?_
    refine xr_iload_n hM 1 dX1_topOf_5 rfl rfl ?_
    refine xr_icmp_ge hM 31 dX1_topOf_6 (by decide) (by omega) (fun c6 => ?_) (fun c6 => ?_)
    · refine xr_iload_n hM 2 dX1_topOf_31 rfl rfl ?_
      exact xr_iret hF dX1_topOf_32 (congrArg (tpF x) (by omega)) rfl
    · refine xr_iload_n hM 3 dX1_topOf_9 rfl rfl ?_
      refine xr_aload_n hM 0 dX1_topOf_10 rfl rfl ?_
      refine xr_get (C := RX1) (TT0 := TX1) (N := 7) hM 1 0 5 (fun _ h => List.mem_cons_of_mem _ (List.mem_append_right _ h)) rfl rfl (by decide) (List.mem_of_getElem? (i := 1) rfl) rfl rfl dX1_topOf_11 ?_
      refine xr_icmp_ge hM 31 dX1_topOf_14 (by decide) (by omega) (fun c14 => ?_) (fun c14 => ?_)
      · refine xr_iload_n hM 2 dX1_topOf_31 rfl rfl ?_
        exact xr_iret hF dX1_topOf_32 (congrArg (tpF x) (by omega)) rfl
      · refine xr_iload_n hM 2 dX1_topOf_17 rfl rfl ?_
        refine xr_aload_n hM 0 dX1_topOf_18 rfl rfl ?_
        refine xr_iload_n hM 3 dX1_topOf_19 rfl rfl ?_
        refine xr_callVr (rest := [iv (tpF x b)]) (As := [iv (b : Int)]) (st' := [iv (htF x (b : Int).toNat), iv (tpF x b)]) hM (ct_X1_heightOf M.2.1 T a x (b : Int) hx (by omega)) gX1_topOf_X1_heightOf rfl ⟨rfl, rfl⟩ hy_X1_heightOf rfl ⟨by decide, by decide⟩ [0, 1, 2, 3, 4, 5] rfl rfl 0 1 rfl rfl rfl rfl rfl (Nat.le_of_ble_eq_true rfl) ⟨by decide, by decide⟩ dX1_topOf_20 ?_
        have hf20 := htF_b hx (b : Int).toNat
        refine xr_iadd hM dX1_topOf_23 ?_
        refine xr_istore_n (lv' := [(0, .ref (a 0)), (1, iv i), (2, iv ((tpF x b) + (htF x (b : Int).toNat))), (3, iv (b : Int))]) hM dX1_topOf_24 rfl (by decide) rfl rfl ?_
        refine xr_iinc (lv' := [(0, .ref (a 0)), (1, iv i), (2, iv ((tpF x b) + (htF x (b : Int).toNat))), (3, iv ((b : Int) + 1))]) hM 3 dX1_topOf_25 rfl (by decide) rfl rfl ?_
        refine xr_goto hM 4 dX1_topOf_28 (by decide) ?_
        exact ih (b + 1) (by omega) (by omega)

theorem ct_X1_topOf (l : Launch) (T : TT) (a : Nat → Nat) (x : LnS) (i : Int) (hx : WFL x) (hi : 0 ≤ i ∧ i ≤ gN x) : CT l yX1_topOf wsX1_topOf rm_X1_topOf T [.ref (a 0), iv i] (linE T a x) (some (iv (tpF x i.toNat))) (linE T a x) := by
  refine CT.Z (maxL := 4) (lv0 := [(0, .ref (a 0)), (1, iv i)]) hp_X1_topOf rfl (Nat.le_of_ble_eq_true rfl) rfl rfl (fun M hM hF => ?_)
  refine xr_iconst hM dX1_topOf_0 ?_
  refine xr_istore_n (lv' := [(0, .ref (a 0)), (1, iv i), (2, iv 0)]) hM dX1_topOf_1 rfl (by decide) rfl rfl ?_
  refine xr_iconst hM dX1_topOf_2 ?_
  refine xr_istore_n (lv' := [(0, .ref (a 0)), (1, iv i), (2, iv 0), (3, iv 0)]) hM dX1_topOf_3 rfl (by decide) rfl rfl ?_
  exact lp_X1_topOf a x i hx hi hM hF (i.toNat + 1) 0 (by omega) (by omega)

theorem ct_X1_total (l : Launch) (T : TT) (a : Nat → Nat) (x : LnS) (hx : WFL x) : CT l yX1_total wsX1_total rm_X1_total T [.ref (a 0)] (linE T a x) (some (iv (tpF x (gN x).toNat))) (linE T a x) := by
  refine CT.Z (maxL := 1) (lv0 := [(0, .ref (a 0))]) hp_X1_total rfl (Nat.le_of_ble_eq_true rfl) rfl rfl (fun M hM hF => ?_)
  have hn := hx.1
  refine xr_aload_n hM 0 dX1_total_0 rfl rfl ?_
  refine xr_aload_n hM 0 dX1_total_1 rfl rfl ?_
  refine xr_get (C := RX1) (TT0 := TX1) (N := 7) hM 1 0 5 (fun _ h => List.mem_cons_of_mem _ (List.mem_append_right _ h)) rfl rfl (by decide) (List.mem_of_getElem? (i := 1) rfl) rfl rfl dX1_total_2 ?_
  refine xr_callVr (rest := []) (As := [iv (gN x)]) (st' := [iv (tpF x (gN x).toNat)]) hM (ct_X1_topOf M.2.1 T a x (gN x) hx (by omega)) gX1_total_X1_topOf rfl ⟨rfl, rfl⟩ hy_X1_topOf rfl ⟨by decide, by decide⟩ [0, 1, 2, 3, 4, 5] rfl rfl 0 1 rfl rfl rfl rfl rfl (Nat.le_of_ble_eq_true rfl) ⟨by decide, by decide⟩ dX1_total_5 ?_
  have hf5 := tpF_b hx (gN x).toNat
  exact xr_iret hF dX1_total_8 rfl rfl

theorem lp_X1_lineAt {T : TT} {M : MB} (a : Nat → Nat) (x : LnS) (y r : Int) (hx : WFL x) (hy : -2147483648 ≤ y ∧ y < 2147483648) (hM : FM T M cX1_lineAt RX1 4 wsX1_lineAt rm_X1_lineAt) (hF : FinI T M cX1_lineAt 4 (iv r) (linE T a x)) : ∀ (f b : Nat), b + f = (gN x).toNat → laF x y f b = r → VV T M 4 [(0, .ref (a 0)), (1, iv y), (2, iv (tpF x b)), (3, iv (b : Int))] (linE T a x) 0 0 4 [] := by
  intro f
  induction f with
  | zero =>
    intro b h1 heq
    have hn := hx.1
    have htb := tpF_b hx b
    refine xr_iload_n hM 3 dX1_lineAt_4 rfl rfl ?_
    refine xr_aload_n hM 0 dX1_lineAt_5 rfl rfl ?_
    refine xr_get (C := RX1) (TT0 := TX1) (N := 7) hM 1 0 5 (fun _ h => List.mem_cons_of_mem _ (List.mem_append_right _ h)) rfl rfl (by decide) (List.mem_of_getElem? (i := 1) rfl) rfl rfl dX1_lineAt_6 ?_
    refine xr_icmp_ge hM 33 dX1_lineAt_9 (by decide) (by omega) (fun c9 => ?_) (fun c9 => by exfalso; omega)
    refine xr_ldc hM (-100009) (List.mem_of_getElem? (i := 2) rfl) (by decide) dX1_lineAt_33 ?_
    exact xr_iret hF dX1_lineAt_35 heq rfl
  | succ f ih =>
    intro b h1 heq
    have hn := hx.1
    have htb := tpF_b hx b
    refine xr_iload_n hM 3 dX1_lineAt_4 rfl rfl ?_
    refine xr_aload_n hM 0 dX1_lineAt_5 rfl rfl ?_
    refine xr_get (C := RX1) (TT0 := TX1) (N := 7) hM 1 0 5 (fun _ h => List.mem_cons_of_mem _ (List.mem_append_right _ h)) rfl rfl (by decide) (List.mem_of_getElem? (i := 1) rfl) rfl rfl dX1_lineAt_6 ?_
    refine xr_icmp_ge hM 33 dX1_lineAt_9 (by decide) (by omega) (fun c9 => by exfalso; omega) (fun c9 => ?_)
    refine xr_iload_n hM 2 dX1_lineAt_12 rfl rfl ?_
    refine xr_aload_n hM 0 dX1_lineAt_13 rfl rfl ?_
    refine xr_iload_n hM 3 dX1_lineAt_14 rfl rfl ?_
    refine xr_callVr (rest := [iv (tpF x b)]) (As := [iv (b : Int)]) (st' := [iv (htF x (b : Int).toNat), iv (tpF x b)]) hM (ct_X1_heightOf M.2.1 T a x (b : Int) hx (by omega)) gX1_lineAt_X1_heightOf rfl ⟨rfl, rfl⟩ hy_X1_heightOf rfl ⟨by decide, by decide⟩ [0, 1, 2, 3, 4, 5] rfl rfl 0 1 rfl rfl rfl rfl rfl (Nat.le_of_ble_eq_true rfl) ⟨by decide, by decide⟩ dX1_lineAt_15 ?_
    have hf15 := htF_b hx (b : Int).toNat
    refine xr_iadd hM dX1_lineAt_18 ?_
    refine xr_istore_n (lv' := [(0, .ref (a 0)), (1, iv y), (2, iv ((tpF x b) + (htF x (b : Int).toNat))), (3, iv (b : Int))]) hM dX1_lineAt_19 rfl (by decide) rfl rfl ?_
    refine xr_iload_n hM 1 dX1_lineAt_20 rfl rfl ?_
    refine xr_iload_n hM 2 dX1_lineAt_21 rfl rfl ?_
    refine xr_icmp_ge hM 27 dX1_lineAt_22 (by decide) (by omega) (fun c22 => ?_) (fun c22 => ?_)
    · refine xr_iinc (lv' := [(0, .ref (a 0)), (1, iv y), (2, iv ((tpF x b) + (htF x (b : Int).toNat))), (3, iv ((b : Int) + 1))]) hM 3 dX1_lineAt_27 rfl (by decide) rfl rfl ?_
      refine xr_goto hM 4 dX1_lineAt_30 (by decide) ?_
      exact ih (b + 1) (by omega) (by rw [← heq, laF, if_neg]; exact Int.not_lt.mpr c22)
    · refine xr_iload_n hM 3 dX1_lineAt_25 rfl rfl ?_
      exact xr_iret hF dX1_lineAt_26 (by rw [← heq, laF, if_pos]; exact c22) rfl

theorem ct_X1_lineAt (l : Launch) (T : TT) (a : Nat → Nat) (x : LnS) (y : Int) (hx : WFL x) (hy : -2147483648 ≤ y ∧ y < 2147483648) : CT l yX1_lineAt wsX1_lineAt rm_X1_lineAt T [.ref (a 0), iv y] (linE T a x) (some (iv (laF x y (gN x).toNat 0))) (linE T a x) := by
  refine CT.Z (maxL := 4) (lv0 := [(0, .ref (a 0)), (1, iv y)]) hp_X1_lineAt rfl (Nat.le_of_ble_eq_true rfl) rfl rfl (fun M hM hF => ?_)
  have hn := hx.1
  refine xr_iconst hM dX1_lineAt_0 ?_
  refine xr_istore_n (lv' := [(0, .ref (a 0)), (1, iv y), (2, iv 0)]) hM dX1_lineAt_1 rfl (by decide) rfl rfl ?_
  refine xr_iconst hM dX1_lineAt_2 ?_
  refine xr_istore_n (lv' := [(0, .ref (a 0)), (1, iv y), (2, iv 0), (3, iv 0)]) hM dX1_lineAt_3 rfl (by decide) rfl rfl ?_
  exact lp_X1_lineAt a x y _ hx hy hM hF (gN x).toNat 0 (by omega) rfl

theorem ct_X1_measuredLines (l : Launch) (T : TT) (a : Nat → Nat) (x : LnS) : CT l yX1_measuredLines wsX1_measuredLines rm_X1_measuredLines T [.ref (a 0)] (linE T a x) (some (iv (gC x 0 + gC x 1 + gC x 2))) (linE T a x) := by
  refine CT.Z (maxL := 3) (lv0 := [(0, .ref (a 0))]) hp_X1_measuredLines rfl (Nat.le_of_ble_eq_true rfl) rfl rfl (fun M hM hF => ?_)
  refine xr_iconst hM dX1_measuredLines_0 ?_
  refine xr_istore_n (lv' := [(0, .ref (a 0)), (1, iv 0)]) hM dX1_measuredLines_1 rfl (by decide) rfl rfl ?_
  refine xr_iconst hM dX1_measuredLines_2 ?_
  refine xr_istore_n (lv' := [(0, .ref (a 0)), (1, iv 0), (2, iv 0)]) hM dX1_measuredLines_3 rfl (by decide) rfl rfl ?_
  refine xr_iload_n hM 2 dX1_measuredLines_4 rfl rfl ?_
  refine xr_iconst hM dX1_measuredLines_5 ?_
  refine xr_icmp_ge hM 24 dX1_measuredLines_6 (by decide) (by omega) (fun c6 => by exfalso; omega) (fun c6 => ?_)
  refine xr_iload_n hM 1 dX1_measuredLines_9 rfl rfl ?_
  refine xr_aload_n hM 0 dX1_measuredLines_10 rfl rfl ?_
  refine xr_get (C := RX1) (TT0 := TX1) (N := 7) hM 1 0 4 (fun _ h => List.mem_cons_of_mem _ (List.mem_append_right _ h)) rfl rfl (by decide) (List.mem_of_getElem? (i := 1) rfl) rfl rfl dX1_measuredLines_11 ?_
  refine xr_iload_n hM 2 dX1_measuredLines_14 rfl rfl ?_
  refine xr_iald hM 5 0 rfl rfl (by omega) dX1_measuredLines_15 ?_
  refine xr_iadd hM dX1_measuredLines_16 ?_
  refine xr_istore_n (lv' := [(0, .ref (a 0)), (1, iv (0 + ((gC x) 0))), (2, iv 0)]) hM dX1_measuredLines_17 rfl (by decide) rfl rfl ?_
  refine xr_iinc (lv' := [(0, .ref (a 0)), (1, iv (0 + ((gC x) 0))), (2, iv 1)]) hM 2 dX1_measuredLines_18 rfl (by decide) rfl rfl ?_
  refine xr_goto hM 4 dX1_measuredLines_21 (by decide) ?_
  refine xr_iload_n hM 2 dX1_measuredLines_4 rfl rfl ?_
  refine xr_iconst hM dX1_measuredLines_5 ?_
  refine xr_icmp_ge hM 24 dX1_measuredLines_6 (by decide) (by omega) (fun c6_1 => by exfalso; omega) (fun c6_1 => ?_)
  refine xr_iload_n hM 1 dX1_measuredLines_9 rfl rfl ?_
  refine xr_aload_n hM 0 dX1_measuredLines_10 rfl rfl ?_
  refine xr_get (C := RX1) (TT0 := TX1) (N := 7) hM 1 0 4 (fun _ h => List.mem_cons_of_mem _ (List.mem_append_right _ h)) rfl rfl (by decide) (List.mem_of_getElem? (i := 1) rfl) rfl rfl dX1_measuredLines_11 ?_
  refine xr_iload_n hM 2 dX1_measuredLines_14 rfl rfl ?_
  refine xr_iald hM 5 1 rfl rfl (by omega) dX1_measuredLines_15 ?_
  refine xr_iadd hM dX1_measuredLines_16 ?_
  refine xr_istore_n (lv' := [(0, .ref (a 0)), (1, iv ((0 + ((gC x) 0)) + ((gC x) 1))), (2, iv 1)]) hM dX1_measuredLines_17 rfl (by decide) rfl rfl ?_
  refine xr_iinc (lv' := [(0, .ref (a 0)), (1, iv ((0 + ((gC x) 0)) + ((gC x) 1))), (2, iv 2)]) hM 2 dX1_measuredLines_18 rfl (by decide) rfl rfl ?_
  refine xr_goto hM 4 dX1_measuredLines_21 (by decide) ?_
  refine xr_iload_n hM 2 dX1_measuredLines_4 rfl rfl ?_
  refine xr_iconst hM dX1_measuredLines_5 ?_
  refine xr_icmp_ge hM 24 dX1_measuredLines_6 (by decide) (by omega) (fun c6_2 => by exfalso; omega) (fun c6_2 => ?_)
  refine xr_iload_n hM 1 dX1_measuredLines_9 rfl rfl ?_
  refine xr_aload_n hM 0 dX1_measuredLines_10 rfl rfl ?_
  refine xr_get (C := RX1) (TT0 := TX1) (N := 7) hM 1 0 4 (fun _ h => List.mem_cons_of_mem _ (List.mem_append_right _ h)) rfl rfl (by decide) (List.mem_of_getElem? (i := 1) rfl) rfl rfl dX1_measuredLines_11 ?_
  refine xr_iload_n hM 2 dX1_measuredLines_14 rfl rfl ?_
  refine xr_iald hM 5 2 rfl rfl (by omega) dX1_measuredLines_15 ?_
  refine xr_iadd hM dX1_measuredLines_16 ?_
  refine xr_istore_n (lv' := [(0, .ref (a 0)), (1, iv (((0 + ((gC x) 0)) + ((gC x) 1)) + ((gC x) 2))), (2, iv 2)]) hM dX1_measuredLines_17 rfl (by decide) rfl rfl ?_
  refine xr_iinc (lv' := [(0, .ref (a 0)), (1, iv (((0 + ((gC x) 0)) + ((gC x) 1)) + ((gC x) 2))), (2, iv 3)]) hM 2 dX1_measuredLines_18 rfl (by decide) rfl rfl ?_
  refine xr_goto hM 4 dX1_measuredLines_21 (by decide) ?_
  refine xr_iload_n hM 2 dX1_measuredLines_4 rfl rfl ?_
  refine xr_iconst hM dX1_measuredLines_5 ?_
  refine xr_icmp_ge hM 24 dX1_measuredLines_6 (by decide) (by omega) (fun c6_3 => ?_) (fun c6_3 => by exfalso; omega)
  refine xr_iload_n hM 1 dX1_measuredLines_24 rfl rfl ?_
  exact xr_iret hF dX1_measuredLines_25 (by omega) rfl

theorem ct_X1_trueHeightOf (l : Launch) (T : TT) (a : Nat → Nat) (x : LnS) (i : Int) (hx : WFL x) (hi : 0 ≤ i ∧ i < gN x) : CT l yX1_trueHeightOf wsX1_trueHeightOf rm_X1_trueHeightOf T [.ref (a 0), iv i] (linE T a x) (some (iv (tH (gW x) (gK x i.toNat) (gL x i.toNat)))) (linE T a x) := by
  refine CT.Z (maxL := 2) (lv0 := [(0, .ref (a 0)), (1, iv i)]) hp_X1_trueHeightOf rfl (Nat.le_of_ble_eq_true rfl) rfl rfl (fun M hM hF => ?_)
  have hn := hx.1
  have hw := hx.2.1
  have h3 := hx.2.2.1 i.toNat
  refine xr_aload_n hM 0 dX1_trueHeightOf_0 rfl rfl ?_
  refine xr_iload_n hM 1 dX1_trueHeightOf_1 rfl rfl ?_
  refine xr_callVr (rest := []) (As := [iv i]) (st' := [iv (bi (0 ≤ i ∧ i < gN x))]) hM (ct_X1_isLine M.2.1 T a x i hx (by omega)) gX1_trueHeightOf_X1_isLine rfl ⟨rfl, rfl⟩ hy_X1_isLine rfl ⟨by decide, by decide⟩ [0, 1, 2, 3, 4, 5] rfl rfl 0 1 rfl rfl rfl rfl rfl (Nat.le_of_ble_eq_true rfl) ⟨by decide, by decide⟩ dX1_trueHeightOf_2 ?_
  refine xr_ifb_eq hM 27 dX1_trueHeightOf_5 (by decide) (fun c5 => by exfalso; omega) (fun c5 => ?_)
  refine xr_aload_n hM 0 dX1_trueHeightOf_8 rfl rfl ?_
  refine xr_aload_n hM 0 dX1_trueHeightOf_9 rfl rfl ?_
  refine xr_get (C := RX1) (TT0 := TX1) (N := 7) hM 1 0 0 (fun _ h => List.mem_cons_of_mem _ (List.mem_append_right _ h)) rfl rfl (by decide) (List.mem_of_getElem? (i := 1) rfl) rfl rfl dX1_trueHeightOf_10 ?_
  refine xr_iload_n hM 1 dX1_trueHeightOf_13 rfl rfl ?_
  refine xr_iald hM 1 i.toNat rfl rfl (by omega) dX1_trueHeightOf_14 ?_
  refine xr_aload_n hM 0 dX1_trueHeightOf_15 rfl rfl ?_
  refine xr_get (C := RX1) (TT0 := TX1) (N := 7) hM 1 0 1 (fun _ h => List.mem_cons_of_mem _ (List.mem_append_right _ h)) rfl rfl (by decide) (List.mem_of_getElem? (i := 2) rfl) rfl rfl dX1_trueHeightOf_16 ?_
  refine xr_iload_n hM 1 dX1_trueHeightOf_19 rfl rfl ?_
  refine xr_iald hM 2 i.toNat rfl rfl (by omega) dX1_trueHeightOf_20 ?_
  refine xr_callVr (rest := []) (As := [iv ((gK x) i.toNat), iv ((gL x) i.toNat)]) (st' := [iv (tH (gW x) ((gK x) i.toNat) ((gL x) i.toNat))]) hM (ct_X1_trueHeight M.2.1 T a x ((gK x) i.toNat) ((gL x) i.toNat) (hw) (by omega) (by omega)) gX1_trueHeightOf_X1_trueHeight rfl ⟨rfl, rfl⟩ hy_X1_trueHeight rfl ⟨by decide, by decide⟩ [0, 1, 2, 3, 4, 5] rfl rfl 0 1 rfl rfl rfl rfl rfl (Nat.le_of_ble_eq_true rfl) ⟨by decide, by decide⟩ dX1_trueHeightOf_21 ?_
  have hf21 := (tH_b ⟨by omega, (hw)⟩ : 6 ≤ tH (gW x) ((gK x) i.toNat) ((gL x) i.toNat) ∧ tH (gW x) ((gK x) i.toNat) ((gL x) i.toNat) ≤ 1450)
  refine xr_goto hM 28 dX1_trueHeightOf_24 (by decide) ?_
  exact xr_iret hF dX1_trueHeightOf_28 rfl rfl

theorem ct_X1_measure (l : Launch) (T : TT) (a : Nat → Nat) (x : LnS) (i : Int) (hx : WFL x) (hi : 0 ≤ i ∧ i < gN x) : CT l yX1_measure wsX1_measure rm_X1_measure T [.ref (a 0), iv i] (linE T a x) none (linE T a (meF x i.toNat)) := by
  refine CT.V (maxL := 2) (lv0 := [(0, .ref (a 0)), (1, iv i)]) hp_X1_measure rfl (Nat.le_of_ble_eq_true rfl) rfl (fun M hM hF => ?_)
  have hn := hx.1
  have hw := hx.2.1
  have h3 := hx.2.2.1 i.toNat
  refine xr_aload_n hM 0 dX1_measure_0 rfl rfl ?_
  refine xr_iload_n hM 1 dX1_measure_1 rfl rfl ?_
  refine xr_callVr (rest := []) (As := [iv i]) (st' := [iv (bi (0 ≤ i ∧ i < gN x))]) hM (ct_X1_isLine M.2.1 T a x i hx (by omega)) gX1_measure_X1_isLine rfl ⟨rfl, rfl⟩ hy_X1_isLine rfl ⟨by decide, by decide⟩ [0, 1, 2, 3, 4, 5] rfl rfl 0 1 rfl rfl rfl rfl rfl (Nat.le_of_ble_eq_true rfl) ⟨by decide, by decide⟩ dX1_measure_2 ?_
  refine xr_ifb_eq hM 30 dX1_measure_5 (by decide) (fun c5 => by exfalso; omega) (fun c5 => ?_)
  refine xr_aload_n hM 0 dX1_measure_8 rfl rfl ?_
  refine xr_get (C := RX1) (TT0 := TX1) (N := 7) hM 1 0 2 (fun _ h => List.mem_cons_of_mem _ (List.mem_append_right _ h)) rfl rfl (by decide) (List.mem_of_getElem? (i := 1) rfl) rfl rfl dX1_measure_9 ?_
  refine xr_iload_n hM 1 dX1_measure_12 rfl rfl ?_
  refine xr_zald hM 3 i.toNat rfl rfl (by omega) dX1_measure_13 ?_
  refine xr_if_ne hM 30 dX1_measure_14 (by decide) (by omega) (fun c14 => ?_) (fun c14 => ?_)
  · exact xr_vret hF dX1_measure_30 (by rw [meF, if_neg c14])
  · refine xr_aload_n hM 0 dX1_measure_17 rfl rfl ?_
    refine xr_aload_n hM 0 dX1_measure_18 rfl rfl ?_
    refine xr_get (C := RX1) (TT0 := TX1) (N := 7) hM 1 0 0 (fun _ h => List.mem_cons_of_mem _ (List.mem_append_right _ h)) rfl rfl (by decide) (List.mem_of_getElem? (i := 2) rfl) rfl rfl dX1_measure_19 ?_
    refine xr_iload_n hM 1 dX1_measure_22 rfl rfl ?_
    refine xr_iald hM 1 i.toNat rfl rfl (by omega) dX1_measure_23 ?_
    refine xr_callVr (rest := []) (As := [iv ((gK x) i.toNat)]) (st' := [iv (bi (0 ≤ ((gK x) i.toNat) ∧ ((gK x) i.toNat) < 3))]) hM (ct_X1_isKind M.2.1 T a x ((gK x) i.toNat) (by omega)) gX1_measure_X1_isKind rfl ⟨rfl, rfl⟩ hy_X1_isKind rfl ⟨by decide, by decide⟩ [0, 1, 2, 3, 4, 5] rfl rfl 0 1 rfl rfl rfl rfl rfl (Nat.le_of_ble_eq_true rfl) ⟨by decide, by decide⟩ dX1_measure_24 ?_
    refine xr_ifb_ne hM 31 dX1_measure_27 (by decide) (fun c27 => ?_) (fun c27 => by exfalso; omega)
    refine xr_aload_n hM 0 dX1_measure_31 rfl rfl ?_
    refine xr_get (C := RX1) (TT0 := TX1) (N := 7) hM 1 0 2 (fun _ h => List.mem_cons_of_mem _ (List.mem_append_right _ h)) rfl rfl (by decide) (List.mem_of_getElem? (i := 1) rfl) rfl rfl dX1_measure_32 ?_
    refine xr_iload_n hM 1 dX1_measure_35 rfl rfl ?_
    refine xr_iconst hM dX1_measure_36 ?_
    refine xr_zast (ws' := [(a 0, ob 1 [.ref (a 1), .ref (a 2), .ref (a 3), .ref (a 4), .ref (a 5), iv (gN x), iv (gW x)]), (a 1, ia T.2.1 100 (gK x)), (a 2, ia T.2.1 100 (gL x)), (a 3, ia T.2.2.1 100 (va_up (gM x) i.toNat 1)), (a 4, ia T.2.1 3 (gS x)), (a 5, ia T.2.1 3 (gC x))]) hM 3 i.toNat rfl rfl (by omega) (by omega) dX1_measure_37 rfl ?_
    refine xr_aload_n hM 0 dX1_measure_38 rfl rfl ?_
    refine xr_get (C := RX1) (TT0 := TX1) (N := 7) hM 1 0 3 (fun _ h => List.mem_cons_of_mem _ (List.mem_append_right _ h)) rfl rfl (by decide) (List.mem_of_getElem? (i := 3) rfl) rfl rfl dX1_measure_39 ?_
    refine xr_aload_n hM 0 dX1_measure_42 rfl rfl ?_
    refine xr_get (C := RX1) (TT0 := TX1) (N := 7) hM 1 0 0 (fun _ h => List.mem_cons_of_mem _ (List.mem_append_right _ h)) rfl rfl (by decide) (List.mem_of_getElem? (i := 2) rfl) rfl rfl dX1_measure_43 ?_
    refine xr_iload_n hM 1 dX1_measure_46 rfl rfl ?_
    refine xr_iald hM 1 i.toNat rfl rfl (by omega) dX1_measure_47 ?_
    refine xr_dup2 hM dX1_measure_48 rfl rfl ?_
    refine xr_iald hM 4 ((gK x) i.toNat).toNat rfl rfl (by omega) dX1_measure_49 ?_
    refine xr_aload_n hM 0 dX1_measure_50 rfl rfl ?_
    refine xr_aload_n hM 0 dX1_measure_51 rfl rfl ?_
    refine xr_get (C := RX1) (TT0 := TX1) (N := 7) hM 1 0 0 (fun _ h => List.mem_cons_of_mem _ (List.mem_append_right _ h)) rfl rfl (by decide) (List.mem_of_getElem? (i := 2) rfl) rfl rfl dX1_measure_52 ?_
    refine xr_iload_n hM 1 dX1_measure_55 rfl rfl ?_
    refine xr_iald hM 1 i.toNat rfl rfl (by omega) dX1_measure_56 ?_
    refine xr_aload_n hM 0 dX1_measure_57 rfl rfl ?_
    refine xr_get (C := RX1) (TT0 := TX1) (N := 7) hM 1 0 1 (fun _ h => List.mem_cons_of_mem _ (List.mem_append_right _ h)) rfl rfl (by decide) (List.mem_of_getElem? (i := 4) rfl) rfl rfl dX1_measure_58 ?_
    refine xr_iload_n hM 1 dX1_measure_61 rfl rfl ?_
    refine xr_iald hM 2 i.toNat rfl rfl (by omega) dX1_measure_62 ?_
    refine xr_callVr (rest := [iv ((gS x) (((gK x) i.toNat).toNat)), iv ((gK x) i.toNat), .ref (a 4)]) (As := [iv ((gK x) i.toNat), iv ((gL x) i.toNat)]) (st' := [iv (tH ((gW x)) ((gK x) i.toNat) ((gL x) i.toNat)), iv ((gS x) (((gK x) i.toNat).toNat)), iv ((gK x) i.toNat), .ref (a 4)]) hM (ct_X1_trueHeight M.2.1 T a (gK x, gL x, va_up (gM x) i.toNat 1, gS x, gC x, gN x, gW x) ((gK x) i.toNat) ((gL x) i.toNat) (hw) (by omega) (by omega)) gX1_measure_X1_trueHeight rfl ⟨rfl, rfl⟩ hy_X1_trueHeight rfl ⟨by decide, by decide⟩ [0, 1, 2, 3, 4, 5] rfl rfl 0 1 rfl rfl rfl rfl rfl (Nat.le_of_ble_eq_true rfl) ⟨by decide, by decide⟩ dX1_measure_63 ?_
    have hf63 := (tH_b ⟨by omega, (hw)⟩ : 6 ≤ tH ((gW x)) ((gK x) i.toNat) ((gL x) i.toNat) ∧ tH ((gW x)) ((gK x) i.toNat) ((gL x) i.toNat) ≤ 1450)
    refine xr_iadd hM dX1_measure_66 ?_
    refine xr_iast (ws' := [(a 0, ob 1 [.ref (a 1), .ref (a 2), .ref (a 3), .ref (a 4), .ref (a 5), iv (gN x), iv (gW x)]), (a 1, ia T.2.1 100 (gK x)), (a 2, ia T.2.1 100 (gL x)), (a 3, ia T.2.2.1 100 (va_up (gM x) i.toNat 1)), (a 4, ia T.2.1 3 (va_up (gS x) (((gK x) i.toNat).toNat) (((gS x) (((gK x) i.toNat).toNat)) + (tH ((gW x)) ((gK x) i.toNat) ((gL x) i.toNat))))), (a 5, ia T.2.1 3 (gC x))]) hM 4 ((gK x) i.toNat).toNat rfl rfl (by omega) dX1_measure_67 rfl ?_
    refine xr_aload_n hM 0 dX1_measure_68 rfl rfl ?_
    refine xr_get (C := RX1) (TT0 := TX1) (N := 7) hM 1 0 4 (fun _ h => List.mem_cons_of_mem _ (List.mem_append_right _ h)) rfl rfl (by decide) (List.mem_of_getElem? (i := 5) rfl) rfl rfl dX1_measure_69 ?_
    refine xr_aload_n hM 0 dX1_measure_72 rfl rfl ?_
    refine xr_get (C := RX1) (TT0 := TX1) (N := 7) hM 1 0 0 (fun _ h => List.mem_cons_of_mem _ (List.mem_append_right _ h)) rfl rfl (by decide) (List.mem_of_getElem? (i := 2) rfl) rfl rfl dX1_measure_73 ?_
    refine xr_iload_n hM 1 dX1_measure_76 rfl rfl ?_
    refine xr_iald hM 1 i.toNat rfl rfl (by omega) dX1_measure_77 ?_
    refine xr_dup2 hM dX1_measure_78 rfl rfl ?_
    refine xr_iald hM 5 ((gK x) i.toNat).toNat rfl rfl (by omega) dX1_measure_79 ?_
    refine xr_iconst hM dX1_measure_80 ?_
    refine xr_iadd hM dX1_measure_81 ?_
    refine xr_iast (ws' := [(a 0, ob 1 [.ref (a 1), .ref (a 2), .ref (a 3), .ref (a 4), .ref (a 5), iv (gN x), iv (gW x)]), (a 1, ia T.2.1 100 (gK x)), (a 2, ia T.2.1 100 (gL x)), (a 3, ia T.2.2.1 100 (va_up (gM x) i.toNat 1)), (a 4, ia T.2.1 3 (va_up (gS x) (((gK x) i.toNat).toNat) (((gS x) (((gK x) i.toNat).toNat)) + (tH ((gW x)) ((gK x) i.toNat) ((gL x) i.toNat))))), (a 5, ia T.2.1 3 (va_up (gC x) (((gK x) i.toNat).toNat) (((gC x) (((gK x) i.toNat).toNat)) + 1)))]) hM 5 ((gK x) i.toNat).toNat rfl rfl (by omega) dX1_measure_82 rfl ?_
    exact xr_vret hF dX1_measure_83 (by rw [meF, if_pos c14]; rfl)

theorem ct_X1_forget (l : Launch) (T : TT) (a : Nat → Nat) (x : LnS) (i : Int) (hx : WFL x) (hi : 0 ≤ i ∧ i < gN x) : CT l yX1_forget wsX1_forget rm_X1_forget T [.ref (a 0), iv i] (linE T a x) none (linE T a (fgF x i.toNat)) := by
  refine CT.V (maxL := 2) (lv0 := [(0, .ref (a 0)), (1, iv i)]) hp_X1_forget rfl (Nat.le_of_ble_eq_true rfl) rfl (fun M hM hF => ?_)
  have hn := hx.1
  have hw := hx.2.1
  have h3 := hx.2.2.1 i.toNat
  refine xr_aload_n hM 0 dX1_forget_0 rfl rfl ?_
  refine xr_iload_n hM 1 dX1_forget_1 rfl rfl ?_
  refine xr_callVr (rest := []) (As := [iv i]) (st' := [iv (bi (0 ≤ i ∧ i < gN x))]) hM (ct_X1_isLine M.2.1 T a x i hx (by omega)) gX1_forget_X1_isLine rfl ⟨rfl, rfl⟩ hy_X1_isLine rfl ⟨by decide, by decide⟩ [0, 1, 2, 3, 4, 5] rfl rfl 0 1 rfl rfl rfl rfl rfl (Nat.le_of_ble_eq_true rfl) ⟨by decide, by decide⟩ dX1_forget_2 ?_
  refine xr_ifb_eq hM 30 dX1_forget_5 (by decide) (fun c5 => by exfalso; omega) (fun c5 => ?_)
  refine xr_aload_n hM 0 dX1_forget_8 rfl rfl ?_
  refine xr_get (C := RX1) (TT0 := TX1) (N := 7) hM 1 0 2 (fun _ h => List.mem_cons_of_mem _ (List.mem_append_right _ h)) rfl rfl (by decide) (List.mem_of_getElem? (i := 1) rfl) rfl rfl dX1_forget_9 ?_
  refine xr_iload_n hM 1 dX1_forget_12 rfl rfl ?_
  refine xr_zald hM 3 i.toNat rfl rfl (by omega) dX1_forget_13 ?_
  refine xr_if_eq hM 30 dX1_forget_14 (by decide) (by omega) (fun c14 => ?_) (fun c14 => ?_)
  · exact xr_vret hF dX1_forget_30 (by rw [fgF, if_pos c14])
  · refine xr_aload_n hM 0 dX1_forget_17 rfl rfl ?_
    refine xr_aload_n hM 0 dX1_forget_18 rfl rfl ?_
    refine xr_get (C := RX1) (TT0 := TX1) (N := 7) hM 1 0 0 (fun _ h => List.mem_cons_of_mem _ (List.mem_append_right _ h)) rfl rfl (by decide) (List.mem_of_getElem? (i := 2) rfl) rfl rfl dX1_forget_19 ?_
    refine xr_iload_n hM 1 dX1_forget_22 rfl rfl ?_
    refine xr_iald hM 1 i.toNat rfl rfl (by omega) dX1_forget_23 ?_
    refine xr_callVr (rest := []) (As := [iv ((gK x) i.toNat)]) (st' := [iv (bi (0 ≤ ((gK x) i.toNat) ∧ ((gK x) i.toNat) < 3))]) hM (ct_X1_isKind M.2.1 T a x ((gK x) i.toNat) (by omega)) gX1_forget_X1_isKind rfl ⟨rfl, rfl⟩ hy_X1_isKind rfl ⟨by decide, by decide⟩ [0, 1, 2, 3, 4, 5] rfl rfl 0 1 rfl rfl rfl rfl rfl (Nat.le_of_ble_eq_true rfl) ⟨by decide, by decide⟩ dX1_forget_24 ?_
    refine xr_ifb_ne hM 31 dX1_forget_27 (by decide) (fun c27 => ?_) (fun c27 => by exfalso; omega)
    refine xr_aload_n hM 0 dX1_forget_31 rfl rfl ?_
    refine xr_get (C := RX1) (TT0 := TX1) (N := 7) hM 1 0 2 (fun _ h => List.mem_cons_of_mem _ (List.mem_append_right _ h)) rfl rfl (by decide) (List.mem_of_getElem? (i := 1) rfl) rfl rfl dX1_forget_32 ?_
    refine xr_iload_n hM 1 dX1_forget_35 rfl rfl ?_
    refine xr_iconst hM dX1_forget_36 ?_
    refine xr_zast (ws' := [(a 0, ob 1 [.ref (a 1), .ref (a 2), .ref (a 3), .ref (a 4), .ref (a 5), iv (gN x), iv (gW x)]), (a 1, ia T.2.1 100 (gK x)), (a 2, ia T.2.1 100 (gL x)), (a 3, ia T.2.2.1 100 (va_up (gM x) i.toNat 0)), (a 4, ia T.2.1 3 (gS x)), (a 5, ia T.2.1 3 (gC x))]) hM 3 i.toNat rfl rfl (by omega) (by omega) dX1_forget_37 rfl ?_
    refine xr_aload_n hM 0 dX1_forget_38 rfl rfl ?_
    refine xr_get (C := RX1) (TT0 := TX1) (N := 7) hM 1 0 3 (fun _ h => List.mem_cons_of_mem _ (List.mem_append_right _ h)) rfl rfl (by decide) (List.mem_of_getElem? (i := 3) rfl) rfl rfl dX1_forget_39 ?_
    refine xr_aload_n hM 0 dX1_forget_42 rfl rfl ?_
    refine xr_get (C := RX1) (TT0 := TX1) (N := 7) hM 1 0 0 (fun _ h => List.mem_cons_of_mem _ (List.mem_append_right _ h)) rfl rfl (by decide) (List.mem_of_getElem? (i := 2) rfl) rfl rfl dX1_forget_43 ?_
    refine xr_iload_n hM 1 dX1_forget_46 rfl rfl ?_
    refine xr_iald hM 1 i.toNat rfl rfl (by omega) dX1_forget_47 ?_
    refine xr_dup2 hM dX1_forget_48 rfl rfl ?_
    refine xr_iald hM 4 ((gK x) i.toNat).toNat rfl rfl (by omega) dX1_forget_49 ?_
    refine xr_aload_n hM 0 dX1_forget_50 rfl rfl ?_
    refine xr_aload_n hM 0 dX1_forget_51 rfl rfl ?_
    refine xr_get (C := RX1) (TT0 := TX1) (N := 7) hM 1 0 0 (fun _ h => List.mem_cons_of_mem _ (List.mem_append_right _ h)) rfl rfl (by decide) (List.mem_of_getElem? (i := 2) rfl) rfl rfl dX1_forget_52 ?_
    refine xr_iload_n hM 1 dX1_forget_55 rfl rfl ?_
    refine xr_iald hM 1 i.toNat rfl rfl (by omega) dX1_forget_56 ?_
    refine xr_aload_n hM 0 dX1_forget_57 rfl rfl ?_
    refine xr_get (C := RX1) (TT0 := TX1) (N := 7) hM 1 0 1 (fun _ h => List.mem_cons_of_mem _ (List.mem_append_right _ h)) rfl rfl (by decide) (List.mem_of_getElem? (i := 4) rfl) rfl rfl dX1_forget_58 ?_
    refine xr_iload_n hM 1 dX1_forget_61 rfl rfl ?_
    refine xr_iald hM 2 i.toNat rfl rfl (by omega) dX1_forget_62 ?_
    refine xr_callVr (rest := [iv ((gS x) (((gK x) i.toNat).toNat)), iv ((gK x) i.toNat), .ref (a 4)]) (As := [iv ((gK x) i.toNat), iv ((gL x) i.toNat)]) (st' := [iv (tH ((gW x)) ((gK x) i.toNat) ((gL x) i.toNat)), iv ((gS x) (((gK x) i.toNat).toNat)), iv ((gK x) i.toNat), .ref (a 4)]) hM (ct_X1_trueHeight M.2.1 T a (gK x, gL x, va_up (gM x) i.toNat 0, gS x, gC x, gN x, gW x) ((gK x) i.toNat) ((gL x) i.toNat) (hw) (by omega) (by omega)) gX1_forget_X1_trueHeight rfl ⟨rfl, rfl⟩ hy_X1_trueHeight rfl ⟨by decide, by decide⟩ [0, 1, 2, 3, 4, 5] rfl rfl 0 1 rfl rfl rfl rfl rfl (Nat.le_of_ble_eq_true rfl) ⟨by decide, by decide⟩ dX1_forget_63 ?_
    have hf63 := (tH_b ⟨by omega, (hw)⟩ : 6 ≤ tH ((gW x)) ((gK x) i.toNat) ((gL x) i.toNat) ∧ tH ((gW x)) ((gK x) i.toNat) ((gL x) i.toNat) ≤ 1450)
    refine xr_isub hM dX1_forget_66 ?_
    refine xr_iast (ws' := [(a 0, ob 1 [.ref (a 1), .ref (a 2), .ref (a 3), .ref (a 4), .ref (a 5), iv (gN x), iv (gW x)]), (a 1, ia T.2.1 100 (gK x)), (a 2, ia T.2.1 100 (gL x)), (a 3, ia T.2.2.1 100 (va_up (gM x) i.toNat 0)), (a 4, ia T.2.1 3 (va_up (gS x) (((gK x) i.toNat).toNat) (((gS x) (((gK x) i.toNat).toNat)) - (tH ((gW x)) ((gK x) i.toNat) ((gL x) i.toNat))))), (a 5, ia T.2.1 3 (gC x))]) hM 4 ((gK x) i.toNat).toNat rfl rfl (by omega) dX1_forget_67 rfl ?_
    refine xr_aload_n hM 0 dX1_forget_68 rfl rfl ?_
    refine xr_get (C := RX1) (TT0 := TX1) (N := 7) hM 1 0 4 (fun _ h => List.mem_cons_of_mem _ (List.mem_append_right _ h)) rfl rfl (by decide) (List.mem_of_getElem? (i := 5) rfl) rfl rfl dX1_forget_69 ?_
    refine xr_aload_n hM 0 dX1_forget_72 rfl rfl ?_
    refine xr_get (C := RX1) (TT0 := TX1) (N := 7) hM 1 0 0 (fun _ h => List.mem_cons_of_mem _ (List.mem_append_right _ h)) rfl rfl (by decide) (List.mem_of_getElem? (i := 2) rfl) rfl rfl dX1_forget_73 ?_
    refine xr_iload_n hM 1 dX1_forget_76 rfl rfl ?_
    refine xr_iald hM 1 i.toNat rfl rfl (by omega) dX1_forget_77 ?_
    refine xr_dup2 hM dX1_forget_78 rfl rfl ?_
    refine xr_iald hM 5 ((gK x) i.toNat).toNat rfl rfl (by omega) dX1_forget_79 ?_
    refine xr_iconst hM dX1_forget_80 ?_
    refine xr_isub hM dX1_forget_81 ?_
    refine xr_iast (ws' := [(a 0, ob 1 [.ref (a 1), .ref (a 2), .ref (a 3), .ref (a 4), .ref (a 5), iv (gN x), iv (gW x)]), (a 1, ia T.2.1 100 (gK x)), (a 2, ia T.2.1 100 (gL x)), (a 3, ia T.2.2.1 100 (va_up (gM x) i.toNat 0)), (a 4, ia T.2.1 3 (va_up (gS x) (((gK x) i.toNat).toNat) (((gS x) (((gK x) i.toNat).toNat)) - (tH ((gW x)) ((gK x) i.toNat) ((gL x) i.toNat))))), (a 5, ia T.2.1 3 (va_up (gC x) (((gK x) i.toNat).toNat) (((gC x) (((gK x) i.toNat).toNat)) - 1)))]) hM 5 ((gK x) i.toNat).toNat rfl rfl (by omega) dX1_forget_82 rfl ?_
    exact xr_vret hF dX1_forget_83 (by rw [fgF, if_neg c14]; rfl)

theorem ct_X1_insert (l : Launch) (T : TT) (a : Nat → Nat) (x : LnS) (i kd ln : Int) (hx : WFL x) (hi : 0 ≤ i ∧ i ≤ gN x) (hn : gN x < 100) (hk : 0 ≤ kd ∧ kd ≤ 2) (hl : 0 ≤ ln ∧ ln ≤ 400) : CT l yX1_insert wsX1_insert rm_X1_insert T [.ref (a 0), iv i, iv kd, iv ln] (linE T a x) none (linE T a (inF x i kd ln)) := by
  refine CT.V (maxL := 4) (lv0 := [(0, .ref (a 0)), (1, iv i), (2, iv kd), (3, iv ln)]) hp_X1_insert rfl (Nat.le_of_ble_eq_true rfl) rfl (fun M hM hF => ?_)
  have hn0 := hx.1
  refine xr_iload_n hM 1 dX1_insert_0 rfl rfl ?_
  refine xr_if_lt hM 21 dX1_insert_1 (by decide) (by omega) (fun c1 => by exfalso; omega) (fun c1 => ?_)
  refine xr_iload_n hM 1 dX1_insert_4 rfl rfl ?_
  refine xr_aload_n hM 0 dX1_insert_5 rfl rfl ?_
  refine xr_get (C := RX1) (TT0 := TX1) (N := 7) hM 1 0 5 (fun _ h => List.mem_cons_of_mem _ (List.mem_append_right _ h)) rfl rfl (by decide) (List.mem_of_getElem? (i := 1) rfl) rfl rfl dX1_insert_6 ?_
  refine xr_icmp_gt hM 21 dX1_insert_9 (by decide) (by omega) (fun c9 => by exfalso; omega) (fun c9 => ?_)
  refine xr_aload_n hM 0 dX1_insert_12 rfl rfl ?_
  refine xr_get (C := RX1) (TT0 := TX1) (N := 7) hM 1 0 5 (fun _ h => List.mem_cons_of_mem _ (List.mem_append_right _ h)) rfl rfl (by decide) (List.mem_of_getElem? (i := 1) rfl) rfl rfl dX1_insert_13 ?_
  refine xr_bipush hM dX1_insert_16 (by decide) ?_
  refine xr_icmp_lt hM 22 dX1_insert_18 (by decide) (by omega) (fun c18 => ?_) (fun c18 => by exfalso; omega)
  refine xr_aload_n hM 0 dX1_insert_22 rfl rfl ?_
  refine xr_get (C := RX1) (TT0 := TX1) (N := 7) hM 1 0 0 (fun _ h => List.mem_cons_of_mem _ (List.mem_append_right _ h)) rfl rfl (by decide) (List.mem_of_getElem? (i := 2) rfl) rfl rfl dX1_insert_23 ?_
  refine xr_iload_n hM 1 dX1_insert_26 rfl rfl ?_
  refine xr_aload_n hM 0 dX1_insert_27 rfl rfl ?_
  refine xr_get (C := RX1) (TT0 := TX1) (N := 7) hM 1 0 0 (fun _ h => List.mem_cons_of_mem _ (List.mem_append_right _ h)) rfl rfl (by decide) (List.mem_of_getElem? (i := 2) rfl) rfl rfl dX1_insert_28 ?_
  refine xr_iload_n hM 1 dX1_insert_31 rfl rfl ?_
  refine xr_iconst hM dX1_insert_32 ?_
  refine xr_iadd hM dX1_insert_33 ?_
  refine xr_aload_n hM 0 dX1_insert_34 rfl rfl ?_
  refine xr_get (C := RX1) (TT0 := TX1) (N := 7) hM 1 0 5 (fun _ h => List.mem_cons_of_mem _ (List.mem_append_right _ h)) rfl rfl (by decide) (List.mem_of_getElem? (i := 1) rfl) rfl rfl dX1_insert_35 ?_
  refine xr_iload_n hM 1 dX1_insert_38 rfl rfl ?_
  refine xr_isub hM dX1_insert_39 ?_
  refine xr_copyi (ws' := [(a 0, ob 1 [.ref (a 1), .ref (a 2), .ref (a 3), .ref (a 4), .ref (a 5), iv (gN x), iv (gW x)]), (a 1, ia T.2.1 100 (va_cpy (gK x) (gK x) i.toNat ((i + 1).toNat) (((gN x) - i).toNat))), (a 2, ia T.2.1 100 (gL x)), (a 3, ia T.2.2.1 100 (gM x)), (a 4, ia T.2.1 3 (gS x)), (a 5, ia T.2.1 3 (gC x))]) hM 1 1 (List.mem_of_getElem? (i := 3) rfl) (List.mem_of_getElem? (i := 4) rfl) (List.mem_of_getElem? (i := 5) rfl) (List.mem_of_getElem? (i := 6) rfl) rfl rfl (by omega) (by decide) (by decide) dX1_insert_40 rfl ?_
  refine xr_aload_n hM 0 dX1_insert_43 rfl rfl ?_
  refine xr_get (C := RX1) (TT0 := TX1) (N := 7) hM 1 0 1 (fun _ h => List.mem_cons_of_mem _ (List.mem_append_right _ h)) rfl rfl (by decide) (List.mem_of_getElem? (i := 7) rfl) rfl rfl dX1_insert_44 ?_
  refine xr_iload_n hM 1 dX1_insert_47 rfl rfl ?_
  refine xr_aload_n hM 0 dX1_insert_48 rfl rfl ?_
  refine xr_get (C := RX1) (TT0 := TX1) (N := 7) hM 1 0 1 (fun _ h => List.mem_cons_of_mem _ (List.mem_append_right _ h)) rfl rfl (by decide) (List.mem_of_getElem? (i := 7) rfl) rfl rfl dX1_insert_49 ?_
  refine xr_iload_n hM 1 dX1_insert_52 rfl rfl ?_
  refine xr_iconst hM dX1_insert_53 ?_
  refine xr_iadd hM dX1_insert_54 ?_
  refine xr_aload_n hM 0 dX1_insert_55 rfl rfl ?_
  refine xr_get (C := RX1) (TT0 := TX1) (N := 7) hM 1 0 5 (fun _ h => List.mem_cons_of_mem _ (List.mem_append_right _ h)) rfl rfl (by decide) (List.mem_of_getElem? (i := 1) rfl) rfl rfl dX1_insert_56 ?_
  refine xr_iload_n hM 1 dX1_insert_59 rfl rfl ?_
  refine xr_isub hM dX1_insert_60 ?_
  refine xr_copyi (ws' := [(a 0, ob 1 [.ref (a 1), .ref (a 2), .ref (a 3), .ref (a 4), .ref (a 5), iv (gN x), iv (gW x)]), (a 1, ia T.2.1 100 (va_cpy (gK x) (gK x) i.toNat ((i + 1).toNat) (((gN x) - i).toNat))), (a 2, ia T.2.1 100 (va_cpy (gL x) (gL x) i.toNat ((i + 1).toNat) (((gN x) - i).toNat))), (a 3, ia T.2.2.1 100 (gM x)), (a 4, ia T.2.1 3 (gS x)), (a 5, ia T.2.1 3 (gC x))]) hM 2 2 (List.mem_of_getElem? (i := 3) rfl) (List.mem_of_getElem? (i := 4) rfl) (List.mem_of_getElem? (i := 5) rfl) (List.mem_of_getElem? (i := 6) rfl) rfl rfl (by omega) (by decide) (by decide) dX1_insert_61 rfl ?_
  refine xr_aload_n hM 0 dX1_insert_64 rfl rfl ?_
  refine xr_get (C := RX1) (TT0 := TX1) (N := 7) hM 1 0 2 (fun _ h => List.mem_cons_of_mem _ (List.mem_append_right _ h)) rfl rfl (by decide) (List.mem_of_getElem? (i := 8) rfl) rfl rfl dX1_insert_65 ?_
  refine xr_iload_n hM 1 dX1_insert_68 rfl rfl ?_
  refine xr_aload_n hM 0 dX1_insert_69 rfl rfl ?_
  refine xr_get (C := RX1) (TT0 := TX1) (N := 7) hM 1 0 2 (fun _ h => List.mem_cons_of_mem _ (List.mem_append_right _ h)) rfl rfl (by decide) (List.mem_of_getElem? (i := 8) rfl) rfl rfl dX1_insert_70 ?_
  refine xr_iload_n hM 1 dX1_insert_73 rfl rfl ?_
  refine xr_iconst hM dX1_insert_74 ?_
  refine xr_iadd hM dX1_insert_75 ?_
  refine xr_aload_n hM 0 dX1_insert_76 rfl rfl ?_
  refine xr_get (C := RX1) (TT0 := TX1) (N := 7) hM 1 0 5 (fun _ h => List.mem_cons_of_mem _ (List.mem_append_right _ h)) rfl rfl (by decide) (List.mem_of_getElem? (i := 1) rfl) rfl rfl dX1_insert_77 ?_
  refine xr_iload_n hM 1 dX1_insert_80 rfl rfl ?_
  refine xr_isub hM dX1_insert_81 ?_
  refine xr_copyz (ws' := [(a 0, ob 1 [.ref (a 1), .ref (a 2), .ref (a 3), .ref (a 4), .ref (a 5), iv (gN x), iv (gW x)]), (a 1, ia T.2.1 100 (va_cpy (gK x) (gK x) i.toNat ((i + 1).toNat) (((gN x) - i).toNat))), (a 2, ia T.2.1 100 (va_cpy (gL x) (gL x) i.toNat ((i + 1).toNat) (((gN x) - i).toNat))), (a 3, ia T.2.2.1 100 (va_cpy (gM x) (gM x) i.toNat ((i + 1).toNat) (((gN x) - i).toNat))), (a 4, ia T.2.1 3 (gS x)), (a 5, ia T.2.1 3 (gC x))]) hM 3 3 (List.mem_of_getElem? (i := 3) rfl) (List.mem_of_getElem? (i := 4) rfl) (List.mem_of_getElem? (i := 5) rfl) (List.mem_of_getElem? (i := 6) rfl) rfl rfl (fun j => (hx.2.2.1 j).2.2) (by omega) (by decide) (by decide) dX1_insert_82 rfl ?_
  refine xr_aload_n hM 0 dX1_insert_85 rfl rfl ?_
  refine xr_dup hM dX1_insert_86 rfl ?_
  refine xr_get (C := RX1) (TT0 := TX1) (N := 7) hM 1 0 5 (fun _ h => List.mem_cons_of_mem _ (List.mem_append_right _ h)) rfl rfl (by decide) (List.mem_of_getElem? (i := 1) rfl) rfl rfl dX1_insert_87 ?_
  refine xr_iconst hM dX1_insert_90 ?_
  refine xr_iadd hM dX1_insert_91 ?_
  refine xr_put (ws' := [(a 0, ob 1 [.ref (a 1), .ref (a 2), .ref (a 3), .ref (a 4), .ref (a 5), iv ((gN x) + 1), iv (gW x)]), (a 1, ia T.2.1 100 (va_cpy (gK x) (gK x) i.toNat ((i + 1).toNat) (((gN x) - i).toNat))), (a 2, ia T.2.1 100 (va_cpy (gL x) (gL x) i.toNat ((i + 1).toNat) (((gN x) - i).toNat))), (a 3, ia T.2.2.1 100 (va_cpy (gM x) (gM x) i.toNat ((i + 1).toNat) (((gN x) - i).toNat))), (a 4, ia T.2.1 3 (gS x)), (a 5, ia T.2.1 3 (gC x))]) (C := RX1) (TT0 := TX1) (N := 7) hM 1 0 5 (fun _ h => List.mem_cons_of_mem _ (List.mem_append_right _ h)) tyX1 tyX1_ok nmX1 rfl rfl (by decide) (List.mem_of_getElem? (i := 1) rfl) rfl rfl rfl (Nat.le_of_ble_eq_true rfl) rfl dX1_insert_92 ?_
  refine xr_aload_n hM 0 dX1_insert_95 rfl rfl ?_
  refine xr_get (C := RX1) (TT0 := TX1) (N := 7) hM 1 0 0 (fun _ h => List.mem_cons_of_mem _ (List.mem_append_right _ h)) rfl rfl (by decide) (List.mem_of_getElem? (i := 2) rfl) rfl rfl dX1_insert_96 ?_
  refine xr_iload_n hM 1 dX1_insert_99 rfl rfl ?_
  refine xr_iload_n hM 2 dX1_insert_100 rfl rfl ?_
  refine xr_iast (ws' := [(a 0, ob 1 [.ref (a 1), .ref (a 2), .ref (a 3), .ref (a 4), .ref (a 5), iv ((gN x) + 1), iv (gW x)]), (a 1, ia T.2.1 100 (va_up (va_cpy (gK x) (gK x) i.toNat ((i + 1).toNat) (((gN x) - i).toNat)) i.toNat kd)), (a 2, ia T.2.1 100 (va_cpy (gL x) (gL x) i.toNat ((i + 1).toNat) (((gN x) - i).toNat))), (a 3, ia T.2.2.1 100 (va_cpy (gM x) (gM x) i.toNat ((i + 1).toNat) (((gN x) - i).toNat))), (a 4, ia T.2.1 3 (gS x)), (a 5, ia T.2.1 3 (gC x))]) hM 1 i.toNat rfl rfl (by omega) dX1_insert_101 rfl ?_
  refine xr_aload_n hM 0 dX1_insert_102 rfl rfl ?_
  refine xr_get (C := RX1) (TT0 := TX1) (N := 7) hM 1 0 1 (fun _ h => List.mem_cons_of_mem _ (List.mem_append_right _ h)) rfl rfl (by decide) (List.mem_of_getElem? (i := 7) rfl) rfl rfl dX1_insert_103 ?_
  refine xr_iload_n hM 1 dX1_insert_106 rfl rfl ?_
  refine xr_iload_n hM 3 dX1_insert_107 rfl rfl ?_
  refine xr_iast (ws' := [(a 0, ob 1 [.ref (a 1), .ref (a 2), .ref (a 3), .ref (a 4), .ref (a 5), iv ((gN x) + 1), iv (gW x)]), (a 1, ia T.2.1 100 (va_up (va_cpy (gK x) (gK x) i.toNat ((i + 1).toNat) (((gN x) - i).toNat)) i.toNat kd)), (a 2, ia T.2.1 100 (va_up (va_cpy (gL x) (gL x) i.toNat ((i + 1).toNat) (((gN x) - i).toNat)) i.toNat ln)), (a 3, ia T.2.2.1 100 (va_cpy (gM x) (gM x) i.toNat ((i + 1).toNat) (((gN x) - i).toNat))), (a 4, ia T.2.1 3 (gS x)), (a 5, ia T.2.1 3 (gC x))]) hM 2 i.toNat rfl rfl (by omega) dX1_insert_108 rfl ?_
  refine xr_aload_n hM 0 dX1_insert_109 rfl rfl ?_
  refine xr_get (C := RX1) (TT0 := TX1) (N := 7) hM 1 0 2 (fun _ h => List.mem_cons_of_mem _ (List.mem_append_right _ h)) rfl rfl (by decide) (List.mem_of_getElem? (i := 8) rfl) rfl rfl dX1_insert_110 ?_
  refine xr_iload_n hM 1 dX1_insert_113 rfl rfl ?_
  refine xr_iconst hM dX1_insert_114 ?_
  refine xr_zast (ws' := [(a 0, ob 1 [.ref (a 1), .ref (a 2), .ref (a 3), .ref (a 4), .ref (a 5), iv ((gN x) + 1), iv (gW x)]), (a 1, ia T.2.1 100 (va_up (va_cpy (gK x) (gK x) i.toNat ((i + 1).toNat) (((gN x) - i).toNat)) i.toNat kd)), (a 2, ia T.2.1 100 (va_up (va_cpy (gL x) (gL x) i.toNat ((i + 1).toNat) (((gN x) - i).toNat)) i.toNat ln)), (a 3, ia T.2.2.1 100 (va_up (va_cpy (gM x) (gM x) i.toNat ((i + 1).toNat) (((gN x) - i).toNat)) i.toNat 0)), (a 4, ia T.2.1 3 (gS x)), (a 5, ia T.2.1 3 (gC x))]) hM 3 i.toNat rfl rfl (by omega) (by omega) dX1_insert_115 rfl ?_
  exact xr_vret hF dX1_insert_116 rfl

theorem ct_X1_remove (l : Launch) (T : TT) (a : Nat → Nat) (x : LnS) (i : Int) (hx : WFL x) (hi : 0 ≤ i ∧ i < gN x) : CT l yX1_remove wsX1_remove rm_X1_remove T [.ref (a 0), iv i] (linE T a x) none (linE T a (rmF x i)) := by
  refine CT.V (maxL := 2) (lv0 := [(0, .ref (a 0)), (1, iv i)]) hp_X1_remove rfl (Nat.le_of_ble_eq_true rfl) rfl (fun M hM hF => ?_)
  have hn0 := hx.1
  refine xr_aload_n hM 0 dX1_remove_0 rfl rfl ?_
  refine xr_iload_n hM 1 dX1_remove_1 rfl rfl ?_
  refine xr_callVr (rest := []) (As := [iv i]) (st' := [iv (bi (0 ≤ i ∧ i < gN x))]) hM (ct_X1_isLine M.2.1 T a x i hx (by omega)) gX1_remove_X1_isLine rfl ⟨rfl, rfl⟩ hy_X1_isLine rfl ⟨by decide, by decide⟩ [0, 1, 2, 3, 4, 5] rfl rfl 0 1 rfl rfl rfl rfl rfl (Nat.le_of_ble_eq_true rfl) ⟨by decide, by decide⟩ dX1_remove_2 ?_
  refine xr_ifb_ne hM 9 dX1_remove_5 (by decide) (fun c5 => ?_) (fun c5 => by exfalso; omega)
  refine xr_aload_n hM 0 dX1_remove_9 rfl rfl ?_
  refine xr_iload_n hM 1 dX1_remove_10 rfl rfl ?_
  refine xr_callV (ws' := [(a 0, ob 1 [.ref (a 1), .ref (a 2), .ref (a 3), .ref (a 4), .ref (a 5), iv (gN (fgF x i.toNat)), iv (gW (fgF x i.toNat))]), (a 1, ia T.2.1 100 (gK (fgF x i.toNat))), (a 2, ia T.2.1 100 (gL (fgF x i.toNat))), (a 3, ia T.2.2.1 100 (gM (fgF x i.toNat))), (a 4, ia T.2.1 3 (gS (fgF x i.toNat))), (a 5, ia T.2.1 3 (gC (fgF x i.toNat)))]) (rest := []) (As := [iv i]) (st' := []) hM (ct_X1_forget M.2.1 T a x i hx (by omega)) gX1_remove_X1_forget rfl ⟨rfl, rfl⟩ hy_X1_forget rfl ⟨by decide, by decide⟩ [0, 1, 2, 3, 4, 5] rfl rfl rfl 0 1 rfl rfl rfl rfl rfl (Nat.le_of_ble_eq_true rfl) ⟨by decide, by decide⟩ rfl dX1_remove_11 ?_
  have hf11 := fgF_N x i.toNat
  have hf11_1 := fgF_W x i.toNat
  have hw11 := (WFL_fg hx (by omega) : WFL (fgF x i.toNat))
  refine xr_aload_n hM 0 dX1_remove_14 rfl rfl ?_
  refine xr_dup hM dX1_remove_15 rfl ?_
  refine xr_get (C := RX1) (TT0 := TX1) (N := 7) hM 1 0 5 (fun _ h => List.mem_cons_of_mem _ (List.mem_append_right _ h)) rfl rfl (by decide) (List.mem_of_getElem? (i := 1) rfl) rfl rfl dX1_remove_16 ?_
  refine xr_iconst hM dX1_remove_19 ?_
  refine xr_isub hM dX1_remove_20 ?_
  refine xr_put (ws' := [(a 0, ob 1 [.ref (a 1), .ref (a 2), .ref (a 3), .ref (a 4), .ref (a 5), iv ((gN (fgF x i.toNat)) - 1), iv (gW (fgF x i.toNat))]), (a 1, ia T.2.1 100 (gK (fgF x i.toNat))), (a 2, ia T.2.1 100 (gL (fgF x i.toNat))), (a 3, ia T.2.2.1 100 (gM (fgF x i.toNat))), (a 4, ia T.2.1 3 (gS (fgF x i.toNat))), (a 5, ia T.2.1 3 (gC (fgF x i.toNat)))]) (C := RX1) (TT0 := TX1) (N := 7) hM 1 0 5 (fun _ h => List.mem_cons_of_mem _ (List.mem_append_right _ h)) tyX1 tyX1_ok nmX1 rfl rfl (by decide) (List.mem_of_getElem? (i := 1) rfl) rfl rfl rfl (Nat.le_of_ble_eq_true rfl) rfl dX1_remove_21 ?_
  refine xr_aload_n hM 0 dX1_remove_24 rfl rfl ?_
  refine xr_get (C := RX1) (TT0 := TX1) (N := 7) hM 1 0 0 (fun _ h => List.mem_cons_of_mem _ (List.mem_append_right _ h)) rfl rfl (by decide) (List.mem_of_getElem? (i := 2) rfl) rfl rfl dX1_remove_25 ?_
  refine xr_iload_n hM 1 dX1_remove_28 rfl rfl ?_
  refine xr_iconst hM dX1_remove_29 ?_
  refine xr_iadd hM dX1_remove_30 ?_
  refine xr_aload_n hM 0 dX1_remove_31 rfl rfl ?_
  refine xr_get (C := RX1) (TT0 := TX1) (N := 7) hM 1 0 0 (fun _ h => List.mem_cons_of_mem _ (List.mem_append_right _ h)) rfl rfl (by decide) (List.mem_of_getElem? (i := 2) rfl) rfl rfl dX1_remove_32 ?_
  refine xr_iload_n hM 1 dX1_remove_35 rfl rfl ?_
  refine xr_aload_n hM 0 dX1_remove_36 rfl rfl ?_
  refine xr_get (C := RX1) (TT0 := TX1) (N := 7) hM 1 0 5 (fun _ h => List.mem_cons_of_mem _ (List.mem_append_right _ h)) rfl rfl (by decide) (List.mem_of_getElem? (i := 1) rfl) rfl rfl dX1_remove_37 ?_
  refine xr_iload_n hM 1 dX1_remove_40 rfl rfl ?_
  refine xr_isub hM dX1_remove_41 ?_
  refine xr_copyi (ws' := [(a 0, ob 1 [.ref (a 1), .ref (a 2), .ref (a 3), .ref (a 4), .ref (a 5), iv ((gN (fgF x i.toNat)) - 1), iv (gW (fgF x i.toNat))]), (a 1, ia T.2.1 100 (va_cpy (gK (fgF x i.toNat)) (gK (fgF x i.toNat)) ((i + 1).toNat) i.toNat ((((gN (fgF x i.toNat)) - 1) - i).toNat))), (a 2, ia T.2.1 100 (gL (fgF x i.toNat))), (a 3, ia T.2.2.1 100 (gM (fgF x i.toNat))), (a 4, ia T.2.1 3 (gS (fgF x i.toNat))), (a 5, ia T.2.1 3 (gC (fgF x i.toNat)))]) hM 1 1 (List.mem_of_getElem? (i := 3) rfl) (List.mem_of_getElem? (i := 4) rfl) (List.mem_of_getElem? (i := 5) rfl) (List.mem_of_getElem? (i := 6) rfl) rfl rfl (by omega) (by decide) (by decide) dX1_remove_42 rfl ?_
  refine xr_aload_n hM 0 dX1_remove_45 rfl rfl ?_
  refine xr_get (C := RX1) (TT0 := TX1) (N := 7) hM 1 0 1 (fun _ h => List.mem_cons_of_mem _ (List.mem_append_right _ h)) rfl rfl (by decide) (List.mem_of_getElem? (i := 7) rfl) rfl rfl dX1_remove_46 ?_
  refine xr_iload_n hM 1 dX1_remove_49 rfl rfl ?_
  refine xr_iconst hM dX1_remove_50 ?_
  refine xr_iadd hM dX1_remove_51 ?_
  refine xr_aload_n hM 0 dX1_remove_52 rfl rfl ?_
  refine xr_get (C := RX1) (TT0 := TX1) (N := 7) hM 1 0 1 (fun _ h => List.mem_cons_of_mem _ (List.mem_append_right _ h)) rfl rfl (by decide) (List.mem_of_getElem? (i := 7) rfl) rfl rfl dX1_remove_53 ?_
  refine xr_iload_n hM 1 dX1_remove_56 rfl rfl ?_
  refine xr_aload_n hM 0 dX1_remove_57 rfl rfl ?_
  refine xr_get (C := RX1) (TT0 := TX1) (N := 7) hM 1 0 5 (fun _ h => List.mem_cons_of_mem _ (List.mem_append_right _ h)) rfl rfl (by decide) (List.mem_of_getElem? (i := 1) rfl) rfl rfl dX1_remove_58 ?_
  refine xr_iload_n hM 1 dX1_remove_61 rfl rfl ?_
  refine xr_isub hM dX1_remove_62 ?_
  refine xr_copyi (ws' := [(a 0, ob 1 [.ref (a 1), .ref (a 2), .ref (a 3), .ref (a 4), .ref (a 5), iv ((gN (fgF x i.toNat)) - 1), iv (gW (fgF x i.toNat))]), (a 1, ia T.2.1 100 (va_cpy (gK (fgF x i.toNat)) (gK (fgF x i.toNat)) ((i + 1).toNat) i.toNat ((((gN (fgF x i.toNat)) - 1) - i).toNat))), (a 2, ia T.2.1 100 (va_cpy (gL (fgF x i.toNat)) (gL (fgF x i.toNat)) ((i + 1).toNat) i.toNat ((((gN (fgF x i.toNat)) - 1) - i).toNat))), (a 3, ia T.2.2.1 100 (gM (fgF x i.toNat))), (a 4, ia T.2.1 3 (gS (fgF x i.toNat))), (a 5, ia T.2.1 3 (gC (fgF x i.toNat)))]) hM 2 2 (List.mem_of_getElem? (i := 3) rfl) (List.mem_of_getElem? (i := 4) rfl) (List.mem_of_getElem? (i := 5) rfl) (List.mem_of_getElem? (i := 6) rfl) rfl rfl (by omega) (by decide) (by decide) dX1_remove_63 rfl ?_
  refine xr_aload_n hM 0 dX1_remove_66 rfl rfl ?_
  refine xr_get (C := RX1) (TT0 := TX1) (N := 7) hM 1 0 2 (fun _ h => List.mem_cons_of_mem _ (List.mem_append_right _ h)) rfl rfl (by decide) (List.mem_of_getElem? (i := 8) rfl) rfl rfl dX1_remove_67 ?_
  refine xr_iload_n hM 1 dX1_remove_70 rfl rfl ?_
  refine xr_iconst hM dX1_remove_71 ?_
  refine xr_iadd hM dX1_remove_72 ?_
  refine xr_aload_n hM 0 dX1_remove_73 rfl rfl ?_
  refine xr_get (C := RX1) (TT0 := TX1) (N := 7) hM 1 0 2 (fun _ h => List.mem_cons_of_mem _ (List.mem_append_right _ h)) rfl rfl (by decide) (List.mem_of_getElem? (i := 8) rfl) rfl rfl dX1_remove_74 ?_
  refine xr_iload_n hM 1 dX1_remove_77 rfl rfl ?_
  refine xr_aload_n hM 0 dX1_remove_78 rfl rfl ?_
  refine xr_get (C := RX1) (TT0 := TX1) (N := 7) hM 1 0 5 (fun _ h => List.mem_cons_of_mem _ (List.mem_append_right _ h)) rfl rfl (by decide) (List.mem_of_getElem? (i := 1) rfl) rfl rfl dX1_remove_79 ?_
  refine xr_iload_n hM 1 dX1_remove_82 rfl rfl ?_
  refine xr_isub hM dX1_remove_83 ?_
  refine xr_copyz (ws' := [(a 0, ob 1 [.ref (a 1), .ref (a 2), .ref (a 3), .ref (a 4), .ref (a 5), iv ((gN (fgF x i.toNat)) - 1), iv (gW (fgF x i.toNat))]), (a 1, ia T.2.1 100 (va_cpy (gK (fgF x i.toNat)) (gK (fgF x i.toNat)) ((i + 1).toNat) i.toNat ((((gN (fgF x i.toNat)) - 1) - i).toNat))), (a 2, ia T.2.1 100 (va_cpy (gL (fgF x i.toNat)) (gL (fgF x i.toNat)) ((i + 1).toNat) i.toNat ((((gN (fgF x i.toNat)) - 1) - i).toNat))), (a 3, ia T.2.2.1 100 (va_cpy (gM (fgF x i.toNat)) (gM (fgF x i.toNat)) ((i + 1).toNat) i.toNat ((((gN (fgF x i.toNat)) - 1) - i).toNat))), (a 4, ia T.2.1 3 (gS (fgF x i.toNat))), (a 5, ia T.2.1 3 (gC (fgF x i.toNat)))]) hM 3 3 (List.mem_of_getElem? (i := 3) rfl) (List.mem_of_getElem? (i := 4) rfl) (List.mem_of_getElem? (i := 5) rfl) (List.mem_of_getElem? (i := 6) rfl) rfl rfl (fun j => (hw11.2.2.1 j).2.2) (by omega) (by decide) (by decide) dX1_remove_84 rfl ?_
  exact xr_vret hF dX1_remove_87 rfl

theorem ct_X1_setLength (l : Launch) (T : TT) (a : Nat → Nat) (x : LnS) (i ln : Int) (hx : WFL x) (hi : 0 ≤ i ∧ i < gN x) (hl : 0 ≤ ln ∧ ln ≤ 400) : CT l yX1_setLength wsX1_setLength rm_X1_setLength T [.ref (a 0), iv i, iv ln] (linE T a x) none (linE T a (slF x i ln)) := by
  refine CT.V (maxL := 3) (lv0 := [(0, .ref (a 0)), (1, iv i), (2, iv ln)]) hp_X1_setLength rfl (Nat.le_of_ble_eq_true rfl) rfl (fun M hM hF => ?_)
  have hn0 := hx.1
  refine xr_aload_n hM 0 dX1_setLength_0 rfl rfl ?_
  refine xr_iload_n hM 1 dX1_setLength_1 rfl rfl ?_
  refine xr_callVr (rest := []) (As := [iv i]) (st' := [iv (bi (0 ≤ i ∧ i < gN x))]) hM (ct_X1_isLine M.2.1 T a x i hx (by omega)) gX1_setLength_X1_isLine rfl ⟨rfl, rfl⟩ hy_X1_isLine rfl ⟨by decide, by decide⟩ [0, 1, 2, 3, 4, 5] rfl rfl 0 1 rfl rfl rfl rfl rfl (Nat.le_of_ble_eq_true rfl) ⟨by decide, by decide⟩ dX1_setLength_2 ?_
  refine xr_ifb_ne hM 9 dX1_setLength_5 (by decide) (fun c5 => ?_) (fun c5 => by exfalso; omega)
  refine xr_aload_n hM 0 dX1_setLength_9 rfl rfl ?_
  refine xr_iload_n hM 1 dX1_setLength_10 rfl rfl ?_
  refine xr_callV (ws' := [(a 0, ob 1 [.ref (a 1), .ref (a 2), .ref (a 3), .ref (a 4), .ref (a 5), iv (gN (fgF x i.toNat)), iv (gW (fgF x i.toNat))]), (a 1, ia T.2.1 100 (gK (fgF x i.toNat))), (a 2, ia T.2.1 100 (gL (fgF x i.toNat))), (a 3, ia T.2.2.1 100 (gM (fgF x i.toNat))), (a 4, ia T.2.1 3 (gS (fgF x i.toNat))), (a 5, ia T.2.1 3 (gC (fgF x i.toNat)))]) (rest := []) (As := [iv i]) (st' := []) hM (ct_X1_forget M.2.1 T a x i hx (by omega)) gX1_setLength_X1_forget rfl ⟨rfl, rfl⟩ hy_X1_forget rfl ⟨by decide, by decide⟩ [0, 1, 2, 3, 4, 5] rfl rfl rfl 0 1 rfl rfl rfl rfl rfl (Nat.le_of_ble_eq_true rfl) ⟨by decide, by decide⟩ rfl dX1_setLength_11 ?_
  have hf11 := fgF_N x i.toNat
  have hf11_1 := fgF_W x i.toNat
  have hw11 := (WFL_fg hx (by omega) : WFL (fgF x i.toNat))
  refine xr_aload_n hM 0 dX1_setLength_14 rfl rfl ?_
  refine xr_get (C := RX1) (TT0 := TX1) (N := 7) hM 1 0 1 (fun _ h => List.mem_cons_of_mem _ (List.mem_append_right _ h)) rfl rfl (by decide) (List.mem_of_getElem? (i := 1) rfl) rfl rfl dX1_setLength_15 ?_
  refine xr_iload_n hM 1 dX1_setLength_18 rfl rfl ?_
  refine xr_iload_n hM 2 dX1_setLength_19 rfl rfl ?_
  refine xr_iast (ws' := [(a 0, ob 1 [.ref (a 1), .ref (a 2), .ref (a 3), .ref (a 4), .ref (a 5), iv (gN (fgF x i.toNat)), iv (gW (fgF x i.toNat))]), (a 1, ia T.2.1 100 (gK (fgF x i.toNat))), (a 2, ia T.2.1 100 (va_up (gL (fgF x i.toNat)) i.toNat ln)), (a 3, ia T.2.2.1 100 (gM (fgF x i.toNat))), (a 4, ia T.2.1 3 (gS (fgF x i.toNat))), (a 5, ia T.2.1 3 (gC (fgF x i.toNat)))]) hM 2 i.toNat rfl rfl (by omega) dX1_setLength_20 rfl ?_
  exact xr_vret hF dX1_setLength_21 rfl

theorem lp_X1_forgetAllFor {T : TT} {M : MB} (a : Nat → Nat) (x : LnS) (w : Int) (hx : WFL x) (hM : FM T M cX1_forgetAllFor RX1 3 wsX1_forgetAllFor rm_X1_forgetAllFor) (hF : FinV T M cX1_forgetAllFor 3 (linE T a (faF x w))) : ∀ (f b : Nat), b + f = (gN x).toNat → VV T M 3 [(0, .ref (a 0)), (1, iv w), (2, iv (b : Int))] (linE T a (fgA x b)) 0 0 2 [] := by
  intro f
  induction f with
  | zero =>
    intro b h1
    have hn := hx.1
    have hnb := fgA_N x b
    have hxb := WFL_fgA hx b (by omega)
    refine xr_iload_n hM 2 dX1_forgetAllFor_2 rfl rfl ?_
    refine xr_aload_n hM 0 dX1_forgetAllFor_3 rfl rfl ?_
    refine xr_get (C := RX1) (TT0 := TX1) (N := 7) hM 1 0 5 (fun _ h => List.mem_cons_of_mem _ (List.mem_append_right _ h)) rfl rfl (by decide) (List.mem_of_getElem? (i := 1) rfl) rfl rfl dX1_forgetAllFor_4 ?_
    refine xr_icmp_ge hM 21 dX1_forgetAllFor_7 (by decide) (by omega) (fun c7 => ?_) (fun c7 => by exfalso; omega)
    refine xr_aload_n hM 0 dX1_forgetAllFor_21 rfl rfl ?_
    refine xr_iload_n hM 1 dX1_forgetAllFor_22 rfl rfl ?_
    refine xr_put (ws' := [(a 0, ob 1 [.ref (a 1), .ref (a 2), .ref (a 3), .ref (a 4), .ref (a 5), iv (gN (fgA x b)), iv w]), (a 1, ia T.2.1 100 (gK (fgA x b))), (a 2, ia T.2.1 100 (gL (fgA x b))), (a 3, ia T.2.2.1 100 (gM (fgA x b))), (a 4, ia T.2.1 3 (gS (fgA x b))), (a 5, ia T.2.1 3 (gC (fgA x b)))]) (C := RX1) (TT0 := TX1) (N := 7) hM 1 0 6 (fun _ h => List.mem_cons_of_mem _ (List.mem_append_right _ h)) tyX1 tyX1_ok nmX1 rfl rfl (by decide) (List.mem_of_getElem? (i := 2) rfl) rfl rfl rfl (Nat.le_of_ble_eq_true rfl) rfl dX1_forgetAllFor_23 ?_
    exact xr_vret hF dX1_forgetAllFor_26 (by rw [show b = (gN x).toNat by omega]; rfl)
  | succ f ih =>
    intro b h1
    have hn := hx.1
    have hnb := fgA_N x b
    have hxb := WFL_fgA hx b (by omega)
    refine xr_iload_n hM 2 dX1_forgetAllFor_2 rfl rfl ?_
    refine xr_aload_n hM 0 dX1_forgetAllFor_3 rfl rfl ?_
    refine xr_get (C := RX1) (TT0 := TX1) (N := 7) hM 1 0 5 (fun _ h => List.mem_cons_of_mem _ (List.mem_append_right _ h)) rfl rfl (by decide) (List.mem_of_getElem? (i := 1) rfl) rfl rfl dX1_forgetAllFor_4 ?_
    refine xr_icmp_ge hM 21 dX1_forgetAllFor_7 (by decide) (by omega) (fun c7 => by exfalso; omega) (fun c7 => ?_)
    refine xr_aload_n hM 0 dX1_forgetAllFor_10 rfl rfl ?_
    refine xr_iload_n hM 2 dX1_forgetAllFor_11 rfl rfl ?_
    refine xr_callV (ws' := [(a 0, ob 1 [.ref (a 1), .ref (a 2), .ref (a 3), .ref (a 4), .ref (a 5), iv (gN (fgF (fgA x b) (b : Int).toNat)), iv (gW (fgF (fgA x b) (b : Int).toNat))]), (a 1, ia T.2.1 100 (gK (fgF (fgA x b) (b : Int).toNat))), (a 2, ia T.2.1 100 (gL (fgF (fgA x b) (b : Int).toNat))), (a 3, ia T.2.2.1 100 (gM (fgF (fgA x b) (b : Int).toNat))), (a 4, ia T.2.1 3 (gS (fgF (fgA x b) (b : Int).toNat))), (a 5, ia T.2.1 3 (gC (fgF (fgA x b) (b : Int).toNat)))]) (rest := []) (As := [iv (b : Int)]) (st' := []) hM (ct_X1_forget M.2.1 T a (fgA x b) (b : Int) hxb (by omega)) gX1_forgetAllFor_X1_forget rfl ⟨rfl, rfl⟩ hy_X1_forget rfl ⟨by decide, by decide⟩ [0, 1, 2, 3, 4, 5] rfl rfl rfl 0 1 rfl rfl rfl rfl rfl (Nat.le_of_ble_eq_true rfl) ⟨by decide, by decide⟩ rfl dX1_forgetAllFor_12 ?_
    have hf12 := fgF_N (fgA x b) (b : Int).toNat
    have hf12_1 := fgF_W (fgA x b) (b : Int).toNat
    have hw12 := (WFL_fg hxb (by omega) : WFL (fgF (fgA x b) (b : Int).toNat))
    refine xr_iinc (lv' := [(0, .ref (a 0)), (1, iv w), (2, iv ((b : Int) + 1))]) hM 2 dX1_forgetAllFor_15 rfl (by decide) rfl rfl ?_
    refine xr_goto hM 2 dX1_forgetAllFor_18 (by decide) ?_
    exact ih (b + 1) (by omega)

theorem ct_X1_forgetAllFor (l : Launch) (T : TT) (a : Nat → Nat) (x : LnS) (w : Int) (hx : WFL x) (hw : 5 ≤ w ∧ w ≤ 80) : CT l yX1_forgetAllFor wsX1_forgetAllFor rm_X1_forgetAllFor T [.ref (a 0), iv w] (linE T a x) none (linE T a (faF x w)) := by
  refine CT.V (maxL := 3) (lv0 := [(0, .ref (a 0)), (1, iv w)]) hp_X1_forgetAllFor rfl (Nat.le_of_ble_eq_true rfl) rfl (fun M hM hF => ?_)
  have hn := hx.1
  refine xr_iconst hM dX1_forgetAllFor_0 ?_
  refine xr_istore_n (lv' := [(0, .ref (a 0)), (1, iv w), (2, iv 0)]) hM dX1_forgetAllFor_1 rfl (by decide) rfl rfl ?_
  exact lp_X1_forgetAllFor a x w hx hM hF (gN x).toNat 0 (by omega)

theorem ct_X1_copyFrom (l : Launch) (T : TT) (a : Nat → Nat) (x : LnS) (b : Nat → Nat) (y : LnS) (hy : WFL y) : CT l yX1_copyFrom wsX1_copyFrom rm_X1_copyFrom T [.ref (a 0), .ref (b 0)] (linE T a x ++ linE T b y) none (linE T a y ++ linE T b y) := by
  refine CT.V (maxL := 2) (lv0 := [(0, .ref (a 0)), (1, .ref (b 0))]) hp_X1_copyFrom rfl (Nat.le_of_ble_eq_true rfl) rfl (fun M hM hF => ?_)
  refine xr_aload_n hM 1 dX1_copyFrom_0 rfl rfl ?_
  refine xr_ifnonnull hM 5 dX1_copyFrom_1 (by decide) ?_
  refine xr_aload_n hM 1 dX1_copyFrom_5 rfl rfl ?_
  refine xr_get (C := RX1) (TT0 := TX1) (N := 7) hM 1 6 0 (fun _ h => List.mem_cons_of_mem _ (List.mem_append_right _ h)) rfl rfl (by decide) (List.mem_of_getElem? (i := 1) rfl) rfl rfl dX1_copyFrom_6 ?_
  refine xr_iconst hM dX1_copyFrom_9 ?_
  refine xr_aload_n hM 0 dX1_copyFrom_10 rfl rfl ?_
  refine xr_get (C := RX1) (TT0 := TX1) (N := 7) hM 1 0 0 (fun _ h => List.mem_cons_of_mem _ (List.mem_append_right _ h)) rfl rfl (by decide) (List.mem_of_getElem? (i := 1) rfl) rfl rfl dX1_copyFrom_11 ?_
  refine xr_iconst hM dX1_copyFrom_14 ?_
  refine xr_bipush hM dX1_copyFrom_15 (by decide) ?_
  refine xr_copyi (ws' := [(a 0, ob 1 [.ref (a 1), .ref (a 2), .ref (a 3), .ref (a 4), .ref (a 5), iv (gN x), iv (gW x)]), (a 1, ia T.2.1 100 (va_cpy (gK y) (gK x) 0 0 100)), (a 2, ia T.2.1 100 (gL x)), (a 3, ia T.2.2.1 100 (gM x)), (a 4, ia T.2.1 3 (gS x)), (a 5, ia T.2.1 3 (gC x)), (b 0, ob 1 [.ref (b 1), .ref (b 2), .ref (b 3), .ref (b 4), .ref (b 5), iv (gN y), iv (gW y)]), (b 1, ia T.2.1 100 (gK y)), (b 2, ia T.2.1 100 (gL y)), (b 3, ia T.2.2.1 100 (gM y)), (b 4, ia T.2.1 3 (gS y)), (b 5, ia T.2.1 3 (gC y))]) hM 7 1 (List.mem_of_getElem? (i := 2) rfl) (List.mem_of_getElem? (i := 3) rfl) (List.mem_of_getElem? (i := 4) rfl) (List.mem_of_getElem? (i := 5) rfl) rfl rfl (by omega) (by decide) (by decide) dX1_copyFrom_17 rfl ?_
  refine xr_aload_n hM 1 dX1_copyFrom_20 rfl rfl ?_
  refine xr_get (C := RX1) (TT0 := TX1) (N := 7) hM 1 6 1 (fun _ h => List.mem_cons_of_mem _ (List.mem_append_right _ h)) rfl rfl (by decide) (List.mem_of_getElem? (i := 6) rfl) rfl rfl dX1_copyFrom_21 ?_
  refine xr_iconst hM dX1_copyFrom_24 ?_
  refine xr_aload_n hM 0 dX1_copyFrom_25 rfl rfl ?_
  refine xr_get (C := RX1) (TT0 := TX1) (N := 7) hM 1 0 1 (fun _ h => List.mem_cons_of_mem _ (List.mem_append_right _ h)) rfl rfl (by decide) (List.mem_of_getElem? (i := 6) rfl) rfl rfl dX1_copyFrom_26 ?_
  refine xr_iconst hM dX1_copyFrom_29 ?_
  refine xr_bipush hM dX1_copyFrom_30 (by decide) ?_
  refine xr_copyi (ws' := [(a 0, ob 1 [.ref (a 1), .ref (a 2), .ref (a 3), .ref (a 4), .ref (a 5), iv (gN x), iv (gW x)]), (a 1, ia T.2.1 100 (va_cpy (gK y) (gK x) 0 0 100)), (a 2, ia T.2.1 100 (va_cpy (gL y) (gL x) 0 0 100)), (a 3, ia T.2.2.1 100 (gM x)), (a 4, ia T.2.1 3 (gS x)), (a 5, ia T.2.1 3 (gC x)), (b 0, ob 1 [.ref (b 1), .ref (b 2), .ref (b 3), .ref (b 4), .ref (b 5), iv (gN y), iv (gW y)]), (b 1, ia T.2.1 100 (gK y)), (b 2, ia T.2.1 100 (gL y)), (b 3, ia T.2.2.1 100 (gM y)), (b 4, ia T.2.1 3 (gS y)), (b 5, ia T.2.1 3 (gC y))]) hM 8 2 (List.mem_of_getElem? (i := 2) rfl) (List.mem_of_getElem? (i := 3) rfl) (List.mem_of_getElem? (i := 4) rfl) (List.mem_of_getElem? (i := 5) rfl) rfl rfl (by omega) (by decide) (by decide) dX1_copyFrom_32 rfl ?_
  refine xr_aload_n hM 1 dX1_copyFrom_35 rfl rfl ?_
  refine xr_get (C := RX1) (TT0 := TX1) (N := 7) hM 1 6 2 (fun _ h => List.mem_cons_of_mem _ (List.mem_append_right _ h)) rfl rfl (by decide) (List.mem_of_getElem? (i := 7) rfl) rfl rfl dX1_copyFrom_36 ?_
  refine xr_iconst hM dX1_copyFrom_39 ?_
  refine xr_aload_n hM 0 dX1_copyFrom_40 rfl rfl ?_
  refine xr_get (C := RX1) (TT0 := TX1) (N := 7) hM 1 0 2 (fun _ h => List.mem_cons_of_mem _ (List.mem_append_right _ h)) rfl rfl (by decide) (List.mem_of_getElem? (i := 7) rfl) rfl rfl dX1_copyFrom_41 ?_
  refine xr_iconst hM dX1_copyFrom_44 ?_
  refine xr_bipush hM dX1_copyFrom_45 (by decide) ?_
  refine xr_copyz (ws' := [(a 0, ob 1 [.ref (a 1), .ref (a 2), .ref (a 3), .ref (a 4), .ref (a 5), iv (gN x), iv (gW x)]), (a 1, ia T.2.1 100 (va_cpy (gK y) (gK x) 0 0 100)), (a 2, ia T.2.1 100 (va_cpy (gL y) (gL x) 0 0 100)), (a 3, ia T.2.2.1 100 (va_cpy (gM y) (gM x) 0 0 100)), (a 4, ia T.2.1 3 (gS x)), (a 5, ia T.2.1 3 (gC x)), (b 0, ob 1 [.ref (b 1), .ref (b 2), .ref (b 3), .ref (b 4), .ref (b 5), iv (gN y), iv (gW y)]), (b 1, ia T.2.1 100 (gK y)), (b 2, ia T.2.1 100 (gL y)), (b 3, ia T.2.2.1 100 (gM y)), (b 4, ia T.2.1 3 (gS y)), (b 5, ia T.2.1 3 (gC y))]) hM 9 3 (List.mem_of_getElem? (i := 2) rfl) (List.mem_of_getElem? (i := 3) rfl) (List.mem_of_getElem? (i := 4) rfl) (List.mem_of_getElem? (i := 5) rfl) rfl rfl (fun j => (hy.2.2.1 j).2.2) (by omega) (by decide) (by decide) dX1_copyFrom_47 rfl ?_
  refine xr_aload_n hM 1 dX1_copyFrom_50 rfl rfl ?_
  refine xr_get (C := RX1) (TT0 := TX1) (N := 7) hM 1 6 3 (fun _ h => List.mem_cons_of_mem _ (List.mem_append_right _ h)) rfl rfl (by decide) (List.mem_of_getElem? (i := 8) rfl) rfl rfl dX1_copyFrom_51 ?_
  refine xr_iconst hM dX1_copyFrom_54 ?_
  refine xr_aload_n hM 0 dX1_copyFrom_55 rfl rfl ?_
  refine xr_get (C := RX1) (TT0 := TX1) (N := 7) hM 1 0 3 (fun _ h => List.mem_cons_of_mem _ (List.mem_append_right _ h)) rfl rfl (by decide) (List.mem_of_getElem? (i := 8) rfl) rfl rfl dX1_copyFrom_56 ?_
  refine xr_iconst hM dX1_copyFrom_59 ?_
  refine xr_iconst hM dX1_copyFrom_60 ?_
  refine xr_copyi (ws' := [(a 0, ob 1 [.ref (a 1), .ref (a 2), .ref (a 3), .ref (a 4), .ref (a 5), iv (gN x), iv (gW x)]), (a 1, ia T.2.1 100 (va_cpy (gK y) (gK x) 0 0 100)), (a 2, ia T.2.1 100 (va_cpy (gL y) (gL x) 0 0 100)), (a 3, ia T.2.2.1 100 (va_cpy (gM y) (gM x) 0 0 100)), (a 4, ia T.2.1 3 (va_cpy (gS y) (gS x) 0 0 3)), (a 5, ia T.2.1 3 (gC x)), (b 0, ob 1 [.ref (b 1), .ref (b 2), .ref (b 3), .ref (b 4), .ref (b 5), iv (gN y), iv (gW y)]), (b 1, ia T.2.1 100 (gK y)), (b 2, ia T.2.1 100 (gL y)), (b 3, ia T.2.2.1 100 (gM y)), (b 4, ia T.2.1 3 (gS y)), (b 5, ia T.2.1 3 (gC y))]) hM 10 4 (List.mem_of_getElem? (i := 2) rfl) (List.mem_of_getElem? (i := 3) rfl) (List.mem_of_getElem? (i := 4) rfl) (List.mem_of_getElem? (i := 5) rfl) rfl rfl (by omega) (by decide) (by decide) dX1_copyFrom_61 rfl ?_
  refine xr_aload_n hM 1 dX1_copyFrom_64 rfl rfl ?_
  refine xr_get (C := RX1) (TT0 := TX1) (N := 7) hM 1 6 4 (fun _ h => List.mem_cons_of_mem _ (List.mem_append_right _ h)) rfl rfl (by decide) (List.mem_of_getElem? (i := 9) rfl) rfl rfl dX1_copyFrom_65 ?_
  refine xr_iconst hM dX1_copyFrom_68 ?_
  refine xr_aload_n hM 0 dX1_copyFrom_69 rfl rfl ?_
  refine xr_get (C := RX1) (TT0 := TX1) (N := 7) hM 1 0 4 (fun _ h => List.mem_cons_of_mem _ (List.mem_append_right _ h)) rfl rfl (by decide) (List.mem_of_getElem? (i := 9) rfl) rfl rfl dX1_copyFrom_70 ?_
  refine xr_iconst hM dX1_copyFrom_73 ?_
  refine xr_iconst hM dX1_copyFrom_74 ?_
  refine xr_copyi (ws' := [(a 0, ob 1 [.ref (a 1), .ref (a 2), .ref (a 3), .ref (a 4), .ref (a 5), iv (gN x), iv (gW x)]), (a 1, ia T.2.1 100 (va_cpy (gK y) (gK x) 0 0 100)), (a 2, ia T.2.1 100 (va_cpy (gL y) (gL x) 0 0 100)), (a 3, ia T.2.2.1 100 (va_cpy (gM y) (gM x) 0 0 100)), (a 4, ia T.2.1 3 (va_cpy (gS y) (gS x) 0 0 3)), (a 5, ia T.2.1 3 (va_cpy (gC y) (gC x) 0 0 3)), (b 0, ob 1 [.ref (b 1), .ref (b 2), .ref (b 3), .ref (b 4), .ref (b 5), iv (gN y), iv (gW y)]), (b 1, ia T.2.1 100 (gK y)), (b 2, ia T.2.1 100 (gL y)), (b 3, ia T.2.2.1 100 (gM y)), (b 4, ia T.2.1 3 (gS y)), (b 5, ia T.2.1 3 (gC y))]) hM 11 5 (List.mem_of_getElem? (i := 2) rfl) (List.mem_of_getElem? (i := 3) rfl) (List.mem_of_getElem? (i := 4) rfl) (List.mem_of_getElem? (i := 5) rfl) rfl rfl (by omega) (by decide) (by decide) dX1_copyFrom_75 rfl ?_
  refine xr_aload_n hM 0 dX1_copyFrom_78 rfl rfl ?_
  refine xr_aload_n hM 1 dX1_copyFrom_79 rfl rfl ?_
  refine xr_get (C := RX1) (TT0 := TX1) (N := 7) hM 1 6 5 (fun _ h => List.mem_cons_of_mem _ (List.mem_append_right _ h)) rfl rfl (by decide) (List.mem_of_getElem? (i := 10) rfl) rfl rfl dX1_copyFrom_80 ?_
  refine xr_put (ws' := [(a 0, ob 1 [.ref (a 1), .ref (a 2), .ref (a 3), .ref (a 4), .ref (a 5), iv (gN y), iv (gW x)]), (a 1, ia T.2.1 100 (va_cpy (gK y) (gK x) 0 0 100)), (a 2, ia T.2.1 100 (va_cpy (gL y) (gL x) 0 0 100)), (a 3, ia T.2.2.1 100 (va_cpy (gM y) (gM x) 0 0 100)), (a 4, ia T.2.1 3 (va_cpy (gS y) (gS x) 0 0 3)), (a 5, ia T.2.1 3 (va_cpy (gC y) (gC x) 0 0 3)), (b 0, ob 1 [.ref (b 1), .ref (b 2), .ref (b 3), .ref (b 4), .ref (b 5), iv (gN y), iv (gW y)]), (b 1, ia T.2.1 100 (gK y)), (b 2, ia T.2.1 100 (gL y)), (b 3, ia T.2.2.1 100 (gM y)), (b 4, ia T.2.1 3 (gS y)), (b 5, ia T.2.1 3 (gC y))]) (C := RX1) (TT0 := TX1) (N := 7) hM 1 0 5 (fun _ h => List.mem_cons_of_mem _ (List.mem_append_right _ h)) tyX1 tyX1_ok nmX1 rfl rfl (by decide) (List.mem_of_getElem? (i := 10) rfl) rfl rfl rfl (Nat.le_of_ble_eq_true rfl) rfl dX1_copyFrom_83 ?_
  refine xr_aload_n hM 0 dX1_copyFrom_86 rfl rfl ?_
  refine xr_aload_n hM 1 dX1_copyFrom_87 rfl rfl ?_
  refine xr_get (C := RX1) (TT0 := TX1) (N := 7) hM 1 6 6 (fun _ h => List.mem_cons_of_mem _ (List.mem_append_right _ h)) rfl rfl (by decide) (List.mem_of_getElem? (i := 11) rfl) rfl rfl dX1_copyFrom_88 ?_
  refine xr_put (ws' := [(a 0, ob 1 [.ref (a 1), .ref (a 2), .ref (a 3), .ref (a 4), .ref (a 5), iv (gN y), iv (gW y)]), (a 1, ia T.2.1 100 (va_cpy (gK y) (gK x) 0 0 100)), (a 2, ia T.2.1 100 (va_cpy (gL y) (gL x) 0 0 100)), (a 3, ia T.2.2.1 100 (va_cpy (gM y) (gM x) 0 0 100)), (a 4, ia T.2.1 3 (va_cpy (gS y) (gS x) 0 0 3)), (a 5, ia T.2.1 3 (va_cpy (gC y) (gC x) 0 0 3)), (b 0, ob 1 [.ref (b 1), .ref (b 2), .ref (b 3), .ref (b 4), .ref (b 5), iv (gN y), iv (gW y)]), (b 1, ia T.2.1 100 (gK y)), (b 2, ia T.2.1 100 (gL y)), (b 3, ia T.2.2.1 100 (gM y)), (b 4, ia T.2.1 3 (gS y)), (b 5, ia T.2.1 3 (gC y))]) (C := RX1) (TT0 := TX1) (N := 7) hM 1 0 6 (fun _ h => List.mem_cons_of_mem _ (List.mem_append_right _ h)) tyX1 tyX1_ok nmX1 rfl rfl (by decide) (List.mem_of_getElem? (i := 11) rfl) rfl rfl rfl (Nat.le_of_ble_eq_true rfl) rfl dX1_copyFrom_91 ?_
  refine xr_ws (ws' := linE T a y ++ linE T b y) (fun H hP => ?_) rfl ?_
  · exact ((((hP.arr 1 rfl (fun j hj => xi_cpy0 (f := gK y) (g := gK x) hj)).arr 2 rfl (fun j hj => xi_cpy0 (f := gL y) (g := gL x) hj)).arr 3 rfl (fun j hj => xi_cpy0 (f := gM y) (g := gM x) hj)).arr 4 rfl (fun j hj => xi_cpy0 (f := gS y) (g := gS x) hj)).arr 5 rfl (fun j hj => xi_cpy0 (f := gC y) (g := gC x) hj)
  exact xr_vret hF dX1_copyFrom_94 rfl
