theorem ct_X5_in (l : Launch) (T : TT) (v lo hi : Int) (h1 : (-2147483648 ≤ v ∧ v < 2147483648) ∧ (-2147483648 ≤ lo ∧ lo < 2147483648) ∧ (-2147483648 ≤ hi ∧ hi < 2147483648)) : CT l yX5_in wsX5_in rm_X5_in T [iv v, iv lo, iv hi] ([]) (some (iv (bi (lo ≤ v ∧ v ≤ hi)))) ([]) := by
  refine CT.Z (maxL := 3) (lv0 := [(0, iv v), (1, iv lo), (2, iv hi)]) hp_X5_in rfl (Nat.le_of_ble_eq_true rfl) bi_n rfl (fun M hM hF => ?_)
  refine xr_iload_n hM 0 dX5_in_0 rfl rfl ?_
  refine xr_iload_n hM 1 dX5_in_1 rfl rfl ?_
  refine xr_icmp_lt hM 14 dX5_in_2 (by decide) (by omega) (fun c2 => ?_) (fun c2 => ?_)
  · refine xr_iconst hM dX5_in_14 ?_
    exact xr_iret hF dX5_in_15 (bi_f (by omega)).symm rfl
  · refine xr_iload_n hM 0 dX5_in_5 rfl rfl ?_
    refine xr_iload_n hM 2 dX5_in_6 rfl rfl ?_
    refine xr_icmp_gt hM 14 dX5_in_7 (by decide) (by omega) (fun c7 => ?_) (fun c7 => ?_)
    · refine xr_iconst hM dX5_in_14 ?_
      exact xr_iret hF dX5_in_15 (bi_f (by omega)).symm rfl
    · refine xr_iconst hM dX5_in_10 ?_
      refine xr_goto hM 15 dX5_in_11 (by decide) ?_
      exact xr_iret hF dX5_in_15 (bi_t (by omega)).symm rfl

theorem ct_X5_l (l : Launch) (T : TT) (u v : Int) : CT l yX5_l wsX5_l rm_X5_l T [iv u, iv v] ([]) (some (iv (5 + 3 * u + v))) ([]) := by
  refine CT.Z (maxL := 2) (lv0 := [(0, iv u), (1, iv v)]) hp_X5_l rfl (Nat.le_of_ble_eq_true rfl) rfl rfl (fun M hM hF => ?_)
  refine xr_iconst hM dX5_l_0 ?_
  refine xr_iconst hM dX5_l_1 ?_
  refine xr_iload_n hM 0 dX5_l_2 rfl rfl ?_
  refine xr_imul hM dX5_l_3 ?_
  refine xr_iadd hM dX5_l_4 ?_
  refine xr_iload_n hM 1 dX5_l_5 rfl rfl ?_
  refine xr_iadd hM dX5_l_6 ?_
  exact xr_iret hF dX5_l_7 rfl rfl

theorem ct_X5_trueOf (l : Launch) (T : TT) (bb : Nat) (w : AR) (X : WnS) (i : Int) (hr : Rep w X) (hx : WFL (pX X)) (hi : 0 ≤ i ∧ i < gN (pX X)) : CT l yX5_trueOf wsX5_trueOf rm_X5_trueOf T [.ref bb, iv i] ([(bb, ia T.2.1 305 w)]) (some (iv (tH (gW (pX X)) (gK (pX X) i.toNat) (gL (pX X) i.toNat)))) ([(bb, ia T.2.1 305 w)]) := by
  refine CT.Z (maxL := 5) (lv0 := [(0, .ref bb), (1, iv i)]) hp_X5_trueOf rfl (Nat.le_of_ble_eq_true rfl) rfl rfl (fun M hM hF => ?_)
  have hn := hx.1
  have hwd := hx.2.1
  have h3 := hx.2.2.1 i.toNat
  refine xr_aload_n hM 0 dX5_trueOf_0 rfl rfl ?_
  refine xr_iload_n hM 1 dX5_trueOf_1 rfl rfl ?_
  refine xr_iconst hM dX5_trueOf_2 ?_
  refine xr_callSr (rest := [.ref bb]) (As := [iv i, iv 1]) (st' := [iv (5 + 3 * i + 1), .ref bb]) hM (ct_X5_l M.2.1 T i 1) gX5_trueOf_X5_l rfl ⟨rfl, rfl⟩ hy_X5_l rfl ⟨by decide, by decide⟩ [] rfl rfl rfl rfl (Nat.le_of_ble_eq_true rfl) ⟨by decide, by decide⟩ dX5_trueOf_3 ?_
  refine xr_iald hM 0 (rI i 1) rfl (by unfold rI; omega) (by omega) dX5_trueOf_6 ?_
  refine xr_topv (v' := gL (pX X) i.toNat) (hr.l (by omega)) ?_
  refine xr_istore_n (lv' := [(0, .ref bb), (1, iv i), (2, iv (gL (pX X) i.toNat))]) hM dX5_trueOf_7 rfl (by decide) rfl rfl ?_
  refine xr_iload_n hM 2 dX5_trueOf_8 rfl rfl ?_
  refine xr_aload_n hM 0 dX5_trueOf_9 rfl rfl ?_
  refine xr_iconst hM dX5_trueOf_10 ?_
  refine xr_iald hM 0 4 rfl rfl (by omega) dX5_trueOf_11 ?_
  refine xr_topv (v' := gW (pX X)) (hr.2.2.2.2.1) ?_
  refine xr_iadd hM dX5_trueOf_12 ?_
  refine xr_iconst hM dX5_trueOf_13 ?_
  refine xr_isub hM dX5_trueOf_14 ?_
  refine xr_aload_n hM 0 dX5_trueOf_15 rfl rfl ?_
  refine xr_iconst hM dX5_trueOf_16 ?_
  refine xr_iald hM 0 4 rfl rfl (by omega) dX5_trueOf_17 ?_
  refine xr_topv (v' := gW (pX X)) (hr.2.2.2.2.1) ?_
  refine xr_idiv hM dX5_trueOf_18 (by omega) ?_
  refine xr_istore_n (lv' := [(0, .ref bb), (1, iv i), (2, iv (gL (pX X) i.toNat)), (3, iv ((((gL (pX X) i.toNat) + (gW (pX X))) - 1) / (gW (pX X))))]) hM dX5_trueOf_19 rfl (by decide) rfl rfl ?_
  have hq1 : 0 ≤ (gL (pX X) i.toNat + gW (pX X) - 1) / gW (pX X) := Int.ediv_nonneg (by omega) (by omega)
  have hq2 : 0 < gL (pX X) i.toNat → 1 ≤ (gL (pX X) i.toNat + gW (pX X) - 1) / gW (pX X) := fun q => Int.le_ediv_of_mul_le (by omega) (by omega)
  have hq3 : gL (pX X) i.toNat ≤ 0 → (gL (pX X) i.toNat + gW (pX X) - 1) / gW (pX X) < 1 := fun q => Int.ediv_lt_of_lt_mul (by omega) (by omega)
  have hq4 : (gL (pX X) i.toNat + gW (pX X) - 1) / gW (pX X) ≤ gL (pX X) i.toNat + gW (pX X) - 1 := Int.ediv_le_self _ (by omega)
  refine xr_iload_n hM 3 dX5_trueOf_20 rfl rfl ?_
  refine xr_iconst hM dX5_trueOf_21 ?_
  refine xr_icmp_ge hM 29 dX5_trueOf_22 (by decide) (by omega) (fun c22 => ?_) (fun c22 => ?_)
  · refine xr_iload_n hM 3 dX5_trueOf_29 rfl rfl ?_
    refine xr_istore_n (lv' := [(0, .ref bb), (1, iv i), (2, iv (gL (pX X) i.toNat)), (3, iv ((((gL (pX X) i.toNat) + (gW (pX X))) - 1) / (gW (pX X))))]) hM dX5_trueOf_30 rfl (by decide) rfl rfl ?_
    refine xr_aload_n hM 0 dX5_trueOf_31 rfl rfl ?_
    refine xr_iload_n hM 1 dX5_trueOf_32 rfl rfl ?_
    refine xr_iconst hM dX5_trueOf_33 ?_
    refine xr_callSr (rest := [.ref bb]) (As := [iv i, iv 0]) (st' := [iv (5 + 3 * i + 0), .ref bb]) hM (ct_X5_l M.2.1 T i 0) gX5_trueOf_X5_l rfl ⟨rfl, rfl⟩ hy_X5_l rfl ⟨by decide, by decide⟩ [] rfl rfl rfl rfl (Nat.le_of_ble_eq_true rfl) ⟨by decide, by decide⟩ dX5_trueOf_34 ?_
    refine xr_iald hM 0 (rI i 0) rfl (by unfold rI; omega) (by omega) dX5_trueOf_37 ?_
    refine xr_topv (v' := gK (pX X) i.toNat) (hr.k (by omega)) ?_
    refine xr_istore (lv' := [(0, .ref bb), (1, iv i), (2, iv (gL (pX X) i.toNat)), (3, iv ((((gL (pX X) i.toNat) + (gW (pX X))) - 1) / (gW (pX X)))), (4, iv (gK (pX X) i.toNat))]) hM dX5_trueOf_38 (by decide) rfl rfl ?_
    refine xr_iload hM 4 dX5_trueOf_40 rfl ?_
    refine xr_if_ne hM 54 dX5_trueOf_42 (by decide) (by omega) (fun c42 => ?_) (fun c42 => ?_)
    · refine xr_iload hM 4 dX5_trueOf_54 rfl ?_
      refine xr_iconst hM dX5_trueOf_56 ?_
      refine xr_icmp_ne hM 70 dX5_trueOf_57 (by decide) (by omega) (fun c57 => ?_) (fun c57 => ?_)
      · refine xr_iload_n hM 2 dX5_trueOf_70 rfl rfl ?_
        refine xr_bipush hM dX5_trueOf_71 (by decide) ?_
        refine xr_iadd hM dX5_trueOf_73 ?_
        exact xr_iret hF dX5_trueOf_74 (by unfold tH rowsF; (repeat' split) <;> omega) rfl
      · refine xr_bipush hM dX5_trueOf_60 (by decide) ?_
        refine xr_iload_n hM 3 dX5_trueOf_62 rfl rfl ?_
        refine xr_imul hM dX5_trueOf_63 ?_
        refine xr_bipush hM dX5_trueOf_64 (by decide) ?_
        refine xr_iadd hM dX5_trueOf_66 ?_
        refine xr_goto hM 74 dX5_trueOf_67 (by decide) ?_
        exact xr_iret hF dX5_trueOf_74 (by unfold tH rowsF; (repeat' split) <;> omega) rfl
    · refine xr_bipush hM dX5_trueOf_45 (by decide) ?_
      refine xr_iload_n hM 3 dX5_trueOf_47 rfl rfl ?_
      refine xr_imul hM dX5_trueOf_48 ?_
      refine xr_iconst hM dX5_trueOf_49 ?_
      refine xr_iadd hM dX5_trueOf_50 ?_
      refine xr_goto hM 74 dX5_trueOf_51 (by decide) ?_
      exact xr_iret hF dX5_trueOf_74 (by unfold tH rowsF; (repeat' split) <;> omega) rfl
  · refine xr_iconst hM dX5_trueOf_25 ?_
    refine xr_goto hM 30 dX5_trueOf_26 (by decide) ?_
    refine xr_istore_n (lv' := [(0, .ref bb), (1, iv i), (2, iv (gL (pX X) i.toNat)), (3, iv 1)]) hM dX5_trueOf_30 rfl (by decide) rfl rfl ?_
    refine xr_aload_n hM 0 dX5_trueOf_31 rfl rfl ?_
    refine xr_iload_n hM 1 dX5_trueOf_32 rfl rfl ?_
    refine xr_iconst hM dX5_trueOf_33 ?_
    refine xr_callSr (rest := [.ref bb]) (As := [iv i, iv 0]) (st' := [iv (5 + 3 * i + 0), .ref bb]) hM (ct_X5_l M.2.1 T i 0) gX5_trueOf_X5_l rfl ⟨rfl, rfl⟩ hy_X5_l rfl ⟨by decide, by decide⟩ [] rfl rfl rfl rfl (Nat.le_of_ble_eq_true rfl) ⟨by decide, by decide⟩ dX5_trueOf_34 ?_
    refine xr_iald hM 0 (rI i 0) rfl (by unfold rI; omega) (by omega) dX5_trueOf_37 ?_
    refine xr_topv (v' := gK (pX X) i.toNat) (hr.k (by omega)) ?_
    refine xr_istore (lv' := [(0, .ref bb), (1, iv i), (2, iv (gL (pX X) i.toNat)), (3, iv 1), (4, iv (gK (pX X) i.toNat))]) hM dX5_trueOf_38 (by decide) rfl rfl ?_
    refine xr_iload hM 4 dX5_trueOf_40 rfl ?_
    refine xr_if_ne hM 54 dX5_trueOf_42 (by decide) (by omega) (fun c42_1 => ?_) (fun c42_1 => ?_)
    · refine xr_iload hM 4 dX5_trueOf_54 rfl ?_
      refine xr_iconst hM dX5_trueOf_56 ?_
      refine xr_icmp_ne hM 70 dX5_trueOf_57 (by decide) (by omega) (fun c57_1 => ?_) (fun c57_1 => ?_)
      · refine xr_iload_n hM 2 dX5_trueOf_70 rfl rfl ?_
        refine xr_bipush hM dX5_trueOf_71 (by decide) ?_
        refine xr_iadd hM dX5_trueOf_73 ?_
        exact xr_iret hF dX5_trueOf_74 (by unfold tH rowsF; (repeat' split) <;> omega) rfl
      · refine xr_bipush hM dX5_trueOf_60 (by decide) ?_
        refine xr_iload_n hM 3 dX5_trueOf_62 rfl rfl ?_
        refine xr_imul hM dX5_trueOf_63 ?_
        refine xr_bipush hM dX5_trueOf_64 (by decide) ?_
        refine xr_iadd hM dX5_trueOf_66 ?_
        refine xr_goto hM 74 dX5_trueOf_67 (by decide) ?_
        exact xr_iret hF dX5_trueOf_74 (by unfold tH rowsF; (repeat' split) <;> omega) rfl
    · refine xr_bipush hM dX5_trueOf_45 (by decide) ?_
      refine xr_iload_n hM 3 dX5_trueOf_47 rfl rfl ?_
      refine xr_imul hM dX5_trueOf_48 ?_
      refine xr_iconst hM dX5_trueOf_49 ?_
      refine xr_iadd hM dX5_trueOf_50 ?_
      refine xr_goto hM 74 dX5_trueOf_51 (by decide) ?_
      exact xr_iret hF dX5_trueOf_74 (by unfold tH rowsF; (repeat' split) <;> omega) rfl
