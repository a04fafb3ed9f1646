theorem ct_X5_in (l : Launch) (T : TT) (v lo hi : Int) (h1 : (-2147483648 ≤ v ∧ v < 2147483648) ∧ (-2147483648 ≤ lo ∧ lo < 2147483648) ∧ (-2147483648 ≤ hi ∧ hi < 2147483648)) : CT l yX5_in wsX5_in rm_X5_in T [iv v, iv lo, iv hi] ([]) (some (iv (bi (lo ≤ v ∧ v ≤ hi)))) ([]) := by
  refine CT.Z (maxL := 3) (lv0 := [(0, iv v), (1, iv lo), (2, iv hi)]) hp_X5_in rfl (Nat.le_of_ble_eq_true rfl) bi_n rfl (fun M hM hF => ?_)
  refine xr_iload_n hM 0 dX5_in_0 rfl rfl ?_
  refine xr_iload_n hM 1 dX5_in_1 rfl rfl ?_
  refine xr_icmp_lt hM 14 dX5_in_2 (by decide) (by omega) (fun c2 => ?_) (fun c2 => ?_)
  · refine xr_iconst hM dX5_in_14 ?_
    exact xr_iret hF dX5_in_15 (bi_f (by omega)).symm rfl
  · refine xr_iload_n hM 0 dX5_in_5 rfl rfl ?_
    refine xr_iload_n hM 2 dX5_in_6 rfl rfl ?_
    refine xr_icmp_gt hM 14 dX5_in_7 (by decide) (by omega) (fun c7 => ?_) (fun c7 => ?_)
    · refine xr_iconst hM dX5_in_14 ?_
      exact xr_iret hF dX5_in_15 (bi_f (by omega)).symm rfl
    · refine xr_iconst hM dX5_in_10 ?_
      refine xr_goto hM 15 dX5_in_11 (by decide) ?_
      exact xr_iret hF dX5_in_15 (bi_t (by omega)).symm rfl

theorem ct_X5_l (l : Launch) (T : TT) (u v : Int) : CT l yX5_l wsX5_l rm_X5_l T [iv u, iv v] ([]) (some (iv (5 + 3 * u + v))) ([]) := by
  refine CT.Z (maxL := 2) (lv0 := [(0, iv u), (1, iv v)]) hp_X5_l rfl (Nat.le_of_ble_eq_true rfl) rfl rfl (fun M hM hF => ?_)
  refine xr_iconst hM dX5_l_0 ?_
  refine xr_iconst hM dX5_l_1 ?_
  refine xr_iload_n hM 0 dX5_l_2 rfl rfl ?_
  refine xr_imul hM dX5_l_3 ?_
  refine xr_iadd hM dX5_l_4 ?_
  refine xr_iload_n hM 1 dX5_l_5 rfl rfl ?_
  refine xr_iadd hM dX5_l_6 ?_
  exact xr_iret hF dX5_l_7 rfl rfl

theorem ct_X5_trueOf (l : Launch) (T : TT) (bb : Nat) (w : AR) (X : WnS) (i : Int) (hr : Rep w X) (hx : WFL (pX X)) (hi : 0 ≤ i ∧ i < gN (pX X)) : CT l yX5_trueOf wsX5_trueOf rm_X5_trueOf T [.ref bb, iv i] ([(bb, ia T.2.1 305 w)]) (some (iv (tH (gW (pX X)) (gK (pX X) i.toNat) (gL (pX X) i.toNat)))) ([(bb, ia T.2.1 305 w)]) := by
  refine CT.Z (maxL := 5) (lv0 := [(0, .ref bb), (1, iv i)]) hp_X5_trueOf rfl (Nat.le_of_ble_eq_true rfl) rfl rfl (fun M hM hF => ?_)
  have hn := hx.1
  have hwd := hx.2.1
  have h3 := hx.2.2.1 i.toNat
  refine xr_aload_n hM 0 dX5_trueOf_0 rfl rfl ?_
  refine xr_iload_n hM 1 dX5_trueOf_1 rfl rfl ?_
  refine xr_iconst hM dX5_trueOf_2 ?_
  refine xr_callSr (rest := [.ref bb]) (As := [iv i, iv 1]) (st' := [iv (5 + 3 * i + 1), .ref bb]) hM (ct_X5_l M.2.1 T i 1) gX5_trueOf_X5_l rfl ⟨rfl, rfl⟩ hy_X5_l rfl ⟨by decide, by decide⟩ [] rfl rfl rfl rfl (Nat.le_of_ble_eq_true rfl) ⟨by decide, by decide⟩ dX5_trueOf_3 ?_
  refine xr_iald hM 0 (rI i 1) rfl (by unfold rI; omega) (by omega) dX5_trueOf_6 ?_
  refine xr_topv (v' := gL (pX X) i.toNat) (hr.l (by omega)) ?_
  refine xr_istore_n (lv' := [(0, .ref bb), (1, iv i), (2, iv (gL (pX X) i.toNat))]) hM dX5_trueOf_7 rfl (by decide) rfl rfl ?_
  refine xr_iload_n hM 2 dX5_trueOf_8 rfl rfl ?_
  refine xr_aload_n hM 0 dX5_trueOf_9 rfl rfl ?_
  refine xr_iconst hM dX5_trueOf_10 ?_
  refine xr_iald hM 0 4 rfl rfl (by omega) dX5_trueOf_11 ?_
  refine xr_topv (v' := gW (pX X)) (hr.2.2.2.2.1) ?_
  refine xr_iadd hM dX5_trueOf_12 ?_
  refine xr_iconst hM dX5_trueOf_13 ?_
  refine xr_isub hM dX5_trueOf_14 ?_
  refine xr_aload_n hM 0 dX5_trueOf_15 rfl rfl ?_
  refine xr_iconst hM dX5_trueOf_16 ?_
  refine xr_iald hM 0 4 rfl rfl (by omega) dX5_trueOf_17 ?_
  refine xr_topv (v' := gW (pX X)) (hr.2.2.2.2.1) ?_
  refine xr_idiv hM dX5_trueOf_18 (by omega) ?_
  refine xr_istore_n (lv' := [(0, .ref bb), (1, iv i), (2, iv (gL (pX X) i.toNat)), (3, iv ((((gL (pX X) i.toNat) + (gW (pX X))) - 1) / (gW (pX X))))]) hM dX5_trueOf_19 rfl (by decide) rfl rfl ?_
  have hq1 : 0 ≤ (gL (pX X) i.toNat + gW (pX X) - 1) / gW (pX X) := Int.ediv_nonneg (by omega) (by omega)
  have hq2 : 0 < gL (pX X) i.toNat → 1 ≤ (gL (pX X) i.toNat + gW (pX X) - 1) / gW (pX X) := fun q => Int.le_ediv_of_mul_le (by omega) (by omega)
  have hq3 : gL (pX X) i.toNat ≤ 0 → (gL (pX X) i.toNat + gW (pX X) - 1) / gW (pX X) < 1 := fun q => Int.ediv_lt_of_lt_mul (by omega) (by omega)
  have hq4 : (gL (pX X) i.toNat + gW (pX X) - 1) / gW (pX X) ≤ gL (pX X) i.toNat + gW (pX X) - 1 := Int.ediv_le_self _ (by omega)
  refine xr_iload_n hM 3 dX5_trueOf_20 rfl rfl ?_
  refine xr_iconst hM dX5_trueOf_21 ?_
  refine xr_icmp_ge hM 29 dX5_trueOf_22 (by decide) (by omega) (fun c22 => ?_) (fun c22 => ?_)
  · refine xr_iload_n hM 3 dX5_trueOf_29 rfl rfl ?_
    refine xr_istore_n (lv' := [(0, .ref bb), (1, iv i), (2, iv (gL (pX X) i.toNat)), (3, iv ((((gL (pX X) i.toNat) + (gW (pX X))) - 1) / (gW (pX X))))]) hM dX5_trueOf_30 rfl (by decide) rfl rfl ?_
    refine xr_aload_n hM 0 dX5_trueOf_31 rfl rfl ?_
    refine xr_iload_n hM 1 dX5_trueOf_32 rfl rfl ?_
    refine xr_iconst hM dX5_trueOf_33 ?_
    refine xr_callSr (rest := [.ref bb]) (As := [iv i, iv 0]) (st' := [iv (5 + 3 * i + 0), .ref bb]) hM (ct_X5_l M.2.1 T i 0) gX5_trueOf_X5_l rfl ⟨rfl, rfl⟩ hy_X5_l rfl ⟨by decide, by decide⟩ [] rfl rfl rfl rfl (Nat.le_of_ble_eq_true rfl) ⟨by decide, by decide⟩ dX5_trueOf_34 ?_
    refine xr_iald hM 0 (rI i 0) rfl (by unfold rI; omega) (by omega) dX5_trueOf_37 ?_
    refine xr_topv (v' := gK (pX X) i.toNat) (hr.k (by omega)) ?_
    refine xr_istore (lv' := [(0, .ref bb), (1, iv i), (2, iv (gL (pX X) i.toNat)), (3, iv ((((gL (pX X) i.toNat) + (gW (pX X))) - 1) / (gW (pX X)))), (4, iv (gK (pX X) i.toNat))]) hM dX5_trueOf_38 (by decide) rfl rfl ?_
    refine xr_iload hM 4 dX5_trueOf_40 rfl ?_
    refine xr_if_ne hM 54 dX5_trueOf_42 (by decide) (by omega) (fun c42 => ?_) (fun c42 => ?_)
    · refine xr_iload hM 4 dX5_trueOf_54 rfl ?_
      refine xr_iconst hM dX5_trueOf_56 ?_
      refine xr_icmp_ne hM 70 dX5_trueOf_57 (by decide) (by omega) (fun c57 => ?_) (fun c57 => ?_)
      · refine xr_iload_n hM 2 dX5_trueOf_70 rfl rfl ?_
        refine xr_bipush hM dX5_trueOf_71 (by decide) ?_
        refine xr_iadd hM dX5_trueOf_73 ?_
        exact xr_iret hF dX5_trueOf_74 (by unfold tH rowsF; (repeat' split) <;> omega) rfl
      · refine xr_bipush hM dX5_trueOf_60 (by decide) ?_
        refine xr_iload_n hM 3 dX5_trueOf_62 rfl rfl ?_
        refine xr_imul hM dX5_trueOf_63 ?_
        refine xr_bipush hM dX5_trueOf_64 (by decide) ?_
        refine xr_iadd hM dX5_trueOf_66 ?_
        refine xr_goto hM 74 dX5_trueOf_67 (by decide) ?_
        exact xr_iret hF dX5_trueOf_74 (by unfold tH rowsF; (repeat' split) <;> omega) rfl
    · refine xr_bipush hM dX5_trueOf_45 (by decide) ?_
      refine xr_iload_n hM 3 dX5_trueOf_47 rfl rfl ?_
      refine xr_imul hM dX5_trueOf_48 ?_
      refine xr_iconst hM dX5_trueOf_49 ?_
      refine xr_iadd hM dX5_trueOf_50 ?_
      refine xr_goto hM 74 dX5_trueOf_51 (by decide) ?_
      exact xr_iret hF dX5_trueOf_74 (by unfold tH rowsF; (repeat' split) <;> omega) rfl
  · refine xr_iconst hM dX5_trueOf_25 ?_
    refine xr_goto hM 30 dX5_trueOf_26 (by decide) ?_
    refine xr_istore_n (lv' := [(0, .ref bb), (1, iv i), (2, iv (gL (pX X) i.toNat)), (3, iv 1)]) hM dX5_trueOf_30 rfl (by decide) rfl rfl ?_
    refine xr_aload_n hM 0 dX5_trueOf_31 rfl rfl ?_
    refine xr_iload_n hM 1 dX5_trueOf_32 rfl rfl ?_
    refine xr_iconst hM dX5_trueOf_33 ?_
    refine xr_callSr (rest := [.ref bb]) (As := [iv i, iv 0]) (st' := [iv (5 + 3 * i + 0), .ref bb]) hM (ct_X5_l M.2.1 T i 0) gX5_trueOf_X5_l rfl ⟨rfl, rfl⟩ hy_X5_l rfl ⟨by decide, by decide⟩ [] rfl rfl rfl rfl (Nat.le_of_ble_eq_true rfl) ⟨by decide, by decide⟩ dX5_trueOf_34 ?_
    refine xr_iald hM 0 (rI i 0) rfl (by unfold rI; omega) (by omega) dX5_trueOf_37 ?_
    refine xr_topv (v' := gK (pX X) i.toNat) (hr.k (by omega)) ?_
    refine xr_istore (lv' := [(0, .ref bb), (1, iv i), (2, iv (gL (pX X) i.toNat)), (3, iv 1), (4, iv (gK (pX X) i.toNat))]) hM dX5_trueOf_38 (by decide) rfl rfl ?_
    refine xr_iload hM 4 dX5_trueOf_40 rfl ?_
    refine xr_if_ne hM 54 dX5_trueOf_42 (by decide) (by omega) (fun c42_1 => ?_) (fun c42_1 => ?_)
    · refine xr_iload hM 4 dX5_trueOf_54 rfl ?_
      refine xr_iconst hM dX5_trueOf_56 ?_
      refine xr_icmp_ne hM 70 dX5_trueOf_57 (by decide) (by omega) (fun c57_1 => ?_) (fun c57_1 => ?_)
      · refine xr_iload_n hM 2 dX5_trueOf_70 rfl rfl ?_
        refine xr_bipush hM dX5_trueOf_71 (by decide) ?_
        refine xr_iadd hM dX5_trueOf_73 ?_
        exact xr_iret hF dX5_trueOf_74 (by unfold tH rowsF; (repeat' split) <;> omega) rfl
      · refine xr_bipush hM dX5_trueOf_60 (by decide) ?_
        refine xr_iload_n hM 3 dX5_trueOf_62 rfl rfl ?_
        refine xr_imul hM dX5_trueOf_63 ?_
        refine xr_bipush hM dX5_trueOf_64 (by decide) ?_
        refine xr_iadd hM dX5_trueOf_66 ?_
        refine xr_goto hM 74 dX5_trueOf_67 (by decide) ?_
        exact xr_iret hF dX5_trueOf_74 (by unfold tH rowsF; (repeat' split) <;> omega) rfl
    · refine xr_bipush hM dX5_trueOf_45 (by decide) ?_
      refine xr_iload_n hM 3 dX5_trueOf_47 rfl rfl ?_
      refine xr_imul hM dX5_trueOf_48 ?_
      refine xr_iconst hM dX5_trueOf_49 ?_
      refine xr_iadd hM dX5_trueOf_50 ?_
      refine xr_goto hM 74 dX5_trueOf_51 (by decide) ?_
      exact xr_iret hF dX5_trueOf_74 (by unfold tH rowsF; (repeat' split) <;> omega) rfl

theorem lp_lg {T : TT} {M : MB} (r : Nat → Nat) (sT lE aT fR wR : Int) (gs : AR) (bb : Nat) (w : AR) (X : WnS) (kd : Int) (hr : Rep w X) (hx : WFL (pX X)) (hkd : 0 ≤ kd ∧ kd ≤ 2) (hM : FM T M cX5_laysGuesses RX5 7 wsX5_laysGuesses rm_X5_laysGuesses) (hK : VV T M 7 [(0, .ref (r 0)), (1, .ref bb), (2, iv kd), (3, iv (smF (gW (pX X)) (gK (pX X)) (gL (pX X)) (gM (pX X)) kd (gN (pX X)).toNat)), (4, iv (cntF (gK (pX X)) (gM (pX X)) kd (gN (pX X)).toNat)), (5, iv (gN (pX X)))] [(r 0, ob 5 [.ref (r 1), .ref (r 2), .ref (r 3), .ref (r 4), iv sT, .ref (r 5), iv lE, .ref (r 6), iv aT, iv fR, iv wR, .ref (r 7)]), (r 6, ia T.2.1 3 gs), (bb, ia T.2.1 305 w)] 0 0 93 []) : ∀ (f b : Nat), b + f = (gN (pX X)).toNat → VV T M 7 [(0, .ref (r 0)), (1, .ref bb), (2, iv kd), (3, iv (smF (gW (pX X)) (gK (pX X)) (gL (pX X)) (gM (pX X)) kd b)), (4, iv (cntF (gK (pX X)) (gM (pX X)) kd b)), (5, iv (b : Int))] [(r 0, ob 5 [.ref (r 1), .ref (r 2), .ref (r 3), .ref (r 4), iv sT, .ref (r 5), iv lE, .ref (r 6), iv aT, iv fR, iv wR, .ref (r 7)]), (r 6, ia T.2.1 3 gs), (bb, ia T.2.1 305 w)] 0 0 15 [] := by
  intro f
  induction f with
  | zero =>
    intro b h1
    have hn := hx.1
    have hwd := hx.2.1
    have h3 := hx.2.2.1 b
    have hsb := smF_b (wd := gW (pX X)) (gK (pX X)) (gL (pX X)) (gM (pX X)) kd hwd (fun i => (hx.2.2.1 i).2.1) b
    have hcb := cntF_b (gK (pX X)) (gM (pX X)) kd b
    refine xr_iload hM 5 dX5_laysGuesses_15 rfl ?_
    refine xr_aload_n hM 1 dX5_laysGuesses_17 rfl rfl ?_
    refine xr_iconst hM dX5_laysGuesses_18 ?_
    refine xr_iald hM 2 0 rfl rfl (by omega) dX5_laysGuesses_19 ?_
    refine xr_topv (v' := gN (pX X)) (hr.1) ?_
    refine xr_icmp_ge hM 93 dX5_laysGuesses_20 (by decide) (by omega) (fun c20 => ?_) (fun c20 => by exfalso; omega)
    obtain rfl : b = (gN (pX X)).toNat := by omega
    refine xr_re (lv' := [(0, .ref (r 0)), (1, .ref bb), (2, iv kd), (3, iv (smF (gW (pX X)) (gK (pX X)) (gL (pX X)) (gM (pX X)) kd (gN (pX X)).toNat)), (4, iv (cntF (gK (pX X)) (gM (pX X)) kd (gN (pX X)).toNat)), (5, iv (gN (pX X)))]) (ws' := [(r 0, ob 5 [.ref (r 1), .ref (r 2), .ref (r 3), .ref (r 4), iv sT, .ref (r 5), iv lE, .ref (r 6), iv aT, iv fR, iv wR, .ref (r 7)]), (r 6, ia T.2.1 3 gs), (bb, ia T.2.1 305 w)]) (st' := []) (by rw [show (((gN (pX X)).toNat : Nat) : Int) = gN (pX X) by omega]) rfl rfl ?_
    exact hK
  | succ f ih =>
    intro b h1
    have hn := hx.1
    have hwd := hx.2.1
    have h3 := hx.2.2.1 b
    have hsb := smF_b (wd := gW (pX X)) (gK (pX X)) (gL (pX X)) (gM (pX X)) kd hwd (fun i => (hx.2.2.1 i).2.1) b
    have hcb := cntF_b (gK (pX X)) (gM (pX X)) kd b
    refine xr_iload hM 5 dX5_laysGuesses_15 rfl ?_
    refine xr_aload_n hM 1 dX5_laysGuesses_17 rfl rfl ?_
    refine xr_iconst hM dX5_laysGuesses_18 ?_
    refine xr_iald hM 2 0 rfl rfl (by omega) dX5_laysGuesses_19 ?_
    refine xr_topv (v' := gN (pX X)) (hr.1) ?_
    refine xr_icmp_ge hM 93 dX5_laysGuesses_20 (by decide) (by omega) (fun c20 => by exfalso; omega) (fun c20 => ?_)
    refine xr_aload_n hM 1 dX5_laysGuesses_23 rfl rfl ?_
    refine xr_iload hM 5 dX5_laysGuesses_24 rfl ?_
    refine xr_iconst hM dX5_laysGuesses_26 ?_
    refine xr_callSr (rest := [.ref bb]) (As := [iv (b : Int), iv 0]) (st' := [iv (5 + 3 * (b : Int) + 0), .ref bb]) hM (ct_X5_l M.2.1 T (b : Int) 0) gX5_laysGuesses_X5_l rfl ⟨rfl, rfl⟩ hy_X5_l rfl ⟨by decide, by decide⟩ [] rfl rfl rfl rfl (Nat.le_of_ble_eq_true rfl) ⟨by decide, by decide⟩ dX5_laysGuesses_27 ?_
    refine xr_iald hM 2 (rI (b : Int) 0) rfl (by unfold rI; omega) (by omega) dX5_laysGuesses_30 ?_
    refine xr_topv (v' := gK (pX X) b) (hr.k (by omega)) ?_
    refine xr_iload_n hM 2 dX5_laysGuesses_31 rfl rfl ?_
    refine xr_icmp_ne hM 51 dX5_laysGuesses_32 (by decide) (by omega) (fun c32 => ?_) (fun c32 => ?_)
    · refine xr_iconst hM dX5_laysGuesses_51 ?_
      refine xr_istore (lv' := [(0, .ref (r 0)), (1, .ref bb), (2, iv kd), (3, iv (smF (gW (pX X)) (gK (pX X)) (gL (pX X)) (gM (pX X)) kd b)), (4, iv (cntF (gK (pX X)) (gM (pX X)) kd b)), (5, iv (b : Int)), (6, iv 0)]) hM dX5_laysGuesses_52 (by decide) rfl rfl ?_
      refine xr_iload_n hM 3 dX5_laysGuesses_54 rfl rfl ?_
      refine xr_iload hM 6 dX5_laysGuesses_55 rfl ?_
      refine xr_if_eq hM 69 dX5_laysGuesses_57 (by decide) (by omega) (fun c57 => ?_) (fun c57 => by exfalso; omega)
      refine xr_iconst hM dX5_laysGuesses_69 ?_
      refine xr_iadd hM dX5_laysGuesses_70 ?_
      refine xr_istore_n (lv' := [(0, .ref (r 0)), (1, .ref bb), (2, iv kd), (3, iv ((smF (gW (pX X)) (gK (pX X)) (gL (pX X)) (gM (pX X)) kd b) + 0)), (4, iv (cntF (gK (pX X)) (gM (pX X)) kd b)), (5, iv (b : Int)), (6, iv 0)]) hM dX5_laysGuesses_71 rfl (by decide) rfl rfl ?_
      refine xr_iload hM 4 dX5_laysGuesses_72 rfl ?_
      refine xr_iload hM 6 dX5_laysGuesses_74 rfl ?_
      refine xr_if_eq hM 83 dX5_laysGuesses_76 (by decide) (by omega) (fun c76 => ?_) (fun c76 => by exfalso; omega)
      refine xr_iconst hM dX5_laysGuesses_83 ?_
      refine xr_iadd hM dX5_laysGuesses_84 ?_
      refine xr_istore (lv' := [(0, .ref (r 0)), (1, .ref bb), (2, iv kd), (3, iv ((smF (gW (pX X)) (gK (pX X)) (gL (pX X)) (gM (pX X)) kd b) + 0)), (4, iv ((cntF (gK (pX X)) (gM (pX X)) kd b) + 0)), (5, iv (b : Int)), (6, iv 0)]) hM dX5_laysGuesses_85 (by decide) rfl rfl ?_
      refine xr_iinc (lv' := [(0, .ref (r 0)), (1, .ref bb), (2, iv kd), (3, iv ((smF (gW (pX X)) (gK (pX X)) (gL (pX X)) (gM (pX X)) kd b) + 0)), (4, iv ((cntF (gK (pX X)) (gM (pX X)) kd b) + 0)), (5, iv ((b : Int) + 1)), (6, iv 0)]) hM 5 dX5_laysGuesses_87 rfl (by decide) rfl rfl ?_
      refine xr_goto hM 15 dX5_laysGuesses_90 (by decide) ?_
      refine xr_pick [0, 1, 2, 3, 4, 5] (lv' := [(0, .ref (r 0)), (1, .ref bb), (2, iv kd), (3, iv ((smF (gW (pX X)) (gK (pX X)) (gL (pX X)) (gM (pX X)) kd b) + 0)), (4, iv ((cntF (gK (pX X)) (gM (pX X)) kd b) + 0)), (5, iv ((b : Int) + 1))]) rfl ?_
      refine xr_re (lv' := [(0, .ref (r 0)), (1, .ref bb), (2, iv kd), (3, iv (smF (gW (pX X)) (gK (pX X)) (gL (pX X)) (gM (pX X)) kd (b + 1))), (4, iv (cntF (gK (pX X)) (gM (pX X)) kd (b + 1))), (5, iv ((b + 1 : Nat) : Int))]) (ws' := [(r 0, ob 5 [.ref (r 1), .ref (r 2), .ref (r 3), .ref (r 4), iv sT, .ref (r 5), iv lE, .ref (r 6), iv aT, iv fR, iv wR, .ref (r 7)]), (r 6, ia T.2.1 3 gs), (bb, ia T.2.1 305 w)]) (st' := []) (by rw [show cntF (gK (pX X)) (gM (pX X)) kd (b + 1) = cntF (gK (pX X)) (gM (pX X)) kd b + _ from rfl, show smF (gW (pX X)) (gK (pX X)) (gL (pX X)) (gM (pX X)) kd (b + 1) = smF (gW (pX X)) (gK (pX X)) (gL (pX X)) (gM (pX X)) kd b + _ from rfl, if_neg (fun q9 => by omega), if_neg (fun q9 => by omega)]; rfl) rfl rfl ?_
      exact ih (b + 1) (by omega)
    · refine xr_aload_n hM 1 dX5_laysGuesses_35 rfl rfl ?_
      refine xr_iload hM 5 dX5_laysGuesses_36 rfl ?_
      refine xr_iconst hM dX5_laysGuesses_38 ?_
      refine xr_callSr (rest := [.ref bb]) (As := [iv (b : Int), iv 2]) (st' := [iv (5 + 3 * (b : Int) + 2), .ref bb]) hM (ct_X5_l M.2.1 T (b : Int) 2) gX5_laysGuesses_X5_l rfl ⟨rfl, rfl⟩ hy_X5_l rfl ⟨by decide, by decide⟩ [] rfl rfl rfl rfl (Nat.le_of_ble_eq_true rfl) ⟨by decide, by decide⟩ dX5_laysGuesses_39 ?_
      refine xr_iald hM 2 (rI (b : Int) 2) rfl (by unfold rI; omega) (by omega) dX5_laysGuesses_42 ?_
      refine xr_topv (v' := gM (pX X) b) (hr.m (by omega)) ?_
      refine xr_iconst hM dX5_laysGuesses_43 ?_
      refine xr_icmp_ne hM 51 dX5_laysGuesses_44 (by decide) (by omega) (fun c44 => ?_) (fun c44 => ?_)
      · refine xr_iconst hM dX5_laysGuesses_51 ?_
        refine xr_istore (lv' := [(0, .ref (r 0)), (1, .ref bb), (2, iv kd), (3, iv (smF (gW (pX X)) (gK (pX X)) (gL (pX X)) (gM (pX X)) kd b)), (4, iv (cntF (gK (pX X)) (gM (pX X)) kd b)), (5, iv (b : Int)), (6, iv 0)]) hM dX5_laysGuesses_52 (by decide) rfl rfl ?_
        refine xr_iload_n hM 3 dX5_laysGuesses_54 rfl rfl ?_
        refine xr_iload hM 6 dX5_laysGuesses_55 rfl ?_
        refine xr_if_eq hM 69 dX5_laysGuesses_57 (by decide) (by omega) (fun c57_1 => ?_) (fun c57_1 => by exfalso; omega)
        refine xr_iconst hM dX5_laysGuesses_69 ?_
        refine xr_iadd hM dX5_laysGuesses_70 ?_
        refine xr_istore_n (lv' := [(0, .ref (r 0)), (1, .ref bb), (2, iv kd), (3, iv ((smF (gW (pX X)) (gK (pX X)) (gL (pX X)) (gM (pX X)) kd b) + 0)), (4, iv (cntF (gK (pX X)) (gM (pX X)) kd b)), (5, iv (b : Int)), (6, iv 0)]) hM dX5_laysGuesses_71 rfl (by decide) rfl rfl ?_
        refine xr_iload hM 4 dX5_laysGuesses_72 rfl ?_
        refine xr_iload hM 6 dX5_laysGuesses_74 rfl ?_
        refine xr_if_eq hM 83 dX5_laysGuesses_76 (by decide) (by omega) (fun c76_1 => ?_) (fun c76_1 => by exfalso; omega)
        refine xr_iconst hM dX5_laysGuesses_83 ?_
        refine xr_iadd hM dX5_laysGuesses_84 ?_
        refine xr_istore (lv' := [(0, .ref (r 0)), (1, .ref bb), (2, iv kd), (3, iv ((smF (gW (pX X)) (gK (pX X)) (gL (pX X)) (gM (pX X)) kd b) + 0)), (4, iv ((cntF (gK (pX X)) (gM (pX X)) kd b) + 0)), (5, iv (b : Int)), (6, iv 0)]) hM dX5_laysGuesses_85 (by decide) rfl rfl ?_
        refine xr_iinc (lv' := [(0, .ref (r 0)), (1, .ref bb), (2, iv kd), (3, iv ((smF (gW (pX X)) (gK (pX X)) (gL (pX X)) (gM (pX X)) kd b) + 0)), (4, iv ((cntF (gK (pX X)) (gM (pX X)) kd b) + 0)), (5, iv ((b : Int) + 1)), (6, iv 0)]) hM 5 dX5_laysGuesses_87 rfl (by decide) rfl rfl ?_
        refine xr_goto hM 15 dX5_laysGuesses_90 (by decide) ?_
        refine xr_pick [0, 1, 2, 3, 4, 5] (lv' := [(0, .ref (r 0)), (1, .ref bb), (2, iv kd), (3, iv ((smF (gW (pX X)) (gK (pX X)) (gL (pX X)) (gM (pX X)) kd b) + 0)), (4, iv ((cntF (gK (pX X)) (gM (pX X)) kd b) + 0)), (5, iv ((b : Int) + 1))]) rfl ?_
        refine xr_re (lv' := [(0, .ref (r 0)), (1, .ref bb), (2, iv kd), (3, iv (smF (gW (pX X)) (gK (pX X)) (gL (pX X)) (gM (pX X)) kd (b + 1))), (4, iv (cntF (gK (pX X)) (gM (pX X)) kd (b + 1))), (5, iv ((b + 1 : Nat) : Int))]) (ws' := [(r 0, ob 5 [.ref (r 1), .ref (r 2), .ref (r 3), .ref (r 4), iv sT, .ref (r 5), iv lE, .ref (r 6), iv aT, iv fR, iv wR, .ref (r 7)]), (r 6, ia T.2.1 3 gs), (bb, ia T.2.1 305 w)]) (st' := []) (by rw [show cntF (gK (pX X)) (gM (pX X)) kd (b + 1) = cntF (gK (pX X)) (gM (pX X)) kd b + _ from rfl, show smF (gW (pX X)) (gK (pX X)) (gL (pX X)) (gM (pX X)) kd (b + 1) = smF (gW (pX X)) (gK (pX X)) (gL (pX X)) (gM (pX X)) kd b + _ from rfl, if_neg (fun q9 => by omega), if_neg (fun q9 => by omega)]; rfl) rfl rfl ?_
        exact ih (b + 1) (by omega)
      · refine xr_iconst hM dX5_laysGuesses_47 ?_
        refine xr_goto hM 52 dX5_laysGuesses_48 (by decide) ?_
        refine xr_istore (lv' := [(0, .ref (r 0)), (1, .ref bb), (2, iv kd), (3, iv (smF (gW (pX X)) (gK (pX X)) (gL (pX X)) (gM (pX X)) kd b)), (4, iv (cntF (gK (pX X)) (gM (pX X)) kd b)), (5, iv (b : Int)), (6, iv 1)]) hM dX5_laysGuesses_52 (by decide) rfl rfl ?_
        refine xr_iload_n hM 3 dX5_laysGuesses_54 rfl rfl ?_
        refine xr_iload hM 6 dX5_laysGuesses_55 rfl ?_
        refine xr_if_eq hM 69 dX5_laysGuesses_57 (by decide) (by omega) (fun c57_2 => by exfalso; omega) (fun c57_2 => ?_)
        refine xr_aload_n hM 1 dX5_laysGuesses_60 rfl rfl ?_
        refine xr_iload hM 5 dX5_laysGuesses_61 rfl ?_
        refine xr_callSr (rest := [iv (smF (gW (pX X)) (gK (pX X)) (gL (pX X)) (gM (pX X)) kd b)]) (As := [.ref bb, iv (b : Int)]) (st' := [iv (tH (gW (pX X)) (gK (pX X) b) (gL (pX X) b)), iv (smF (gW (pX X)) (gK (pX X)) (gL (pX X)) (gM (pX X)) kd b)]) hM (ct_X5_trueOf M.2.1 T bb w X (b : Int) hr hx (by (try simp only [pX_t, pH_t, pA_t, pS_t]); omega)) gX5_laysGuesses_X5_trueOf rfl ⟨rfl, rfl⟩ hy_X5_trueOf rfl ⟨by decide, by decide⟩ [2] rfl rfl rfl rfl (Nat.le_of_ble_eq_true rfl) ⟨by decide, by decide⟩ dX5_laysGuesses_63 ?_
        have hf63 := (tH_b ⟨(hx.2.2.1 b).2.1, hx.2.1⟩ : 6 ≤ tH (gW (pX X)) (gK (pX X) b) (gL (pX X) b) ∧ tH (gW (pX X)) (gK (pX X) b) (gL (pX X) b) ≤ 1450)
        refine xr_goto hM 70 dX5_laysGuesses_66 (by decide) ?_
        refine xr_iadd hM dX5_laysGuesses_70 ?_
        refine xr_istore_n (lv' := [(0, .ref (r 0)), (1, .ref bb), (2, iv kd), (3, iv ((smF (gW (pX X)) (gK (pX X)) (gL (pX X)) (gM (pX X)) kd b) + (tH (gW (pX X)) (gK (pX X) b) (gL (pX X) b)))), (4, iv (cntF (gK (pX X)) (gM (pX X)) kd b)), (5, iv (b : Int)), (6, iv 1)]) hM dX5_laysGuesses_71 rfl (by decide) rfl rfl ?_
        refine xr_iload hM 4 dX5_laysGuesses_72 rfl ?_
        refine xr_iload hM 6 dX5_laysGuesses_74 rfl ?_
        refine xr_if_eq hM 83 dX5_laysGuesses_76 (by decide) (by omega) (fun c76_2 => by exfalso; omega) (fun c76_2 => ?_)
        refine xr_iconst hM dX5_laysGuesses_79 ?_
        refine xr_goto hM 84 dX5_laysGuesses_80 (by decide) ?_
        refine xr_iadd hM dX5_laysGuesses_84 ?_
        refine xr_istore (lv' := [(0, .ref (r 0)), (1, .ref bb), (2, iv kd), (3, iv ((smF (gW (pX X)) (gK (pX X)) (gL (pX X)) (gM (pX X)) kd b) + (tH (gW (pX X)) (gK (pX X) b) (gL (pX X) b)))), (4, iv ((cntF (gK (pX X)) (gM (pX X)) kd b) + 1)), (5, iv (b : Int)), (6, iv 1)]) hM dX5_laysGuesses_85 (by decide) rfl rfl ?_
        refine xr_iinc (lv' := [(0, .ref (r 0)), (1, .ref bb), (2, iv kd), (3, iv ((smF (gW (pX X)) (gK (pX X)) (gL (pX X)) (gM (pX X)) kd b) + (tH (gW (pX X)) (gK (pX X) b) (gL (pX X) b)))), (4, iv ((cntF (gK (pX X)) (gM (pX X)) kd b) + 1)), (5, iv ((b : Int) + 1)), (6, iv 1)]) hM 5 dX5_laysGuesses_87 rfl (by decide) rfl rfl ?_
        refine xr_goto hM 15 dX5_laysGuesses_90 (by decide) ?_
        refine xr_pick [0, 1, 2, 3, 4, 5] (lv' := [(0, .ref (r 0)), (1, .ref bb), (2, iv kd), (3, iv ((smF (gW (pX X)) (gK (pX X)) (gL (pX X)) (gM (pX X)) kd b) + (tH (gW (pX X)) (gK (pX X) b) (gL (pX X) b)))), (4, iv ((cntF (gK (pX X)) (gM (pX X)) kd b) + 1)), (5, iv ((b : Int) + 1))]) rfl ?_
        refine xr_re (lv' := [(0, .ref (r 0)), (1, .ref bb), (2, iv kd), (3, iv (smF (gW (pX X)) (gK (pX X)) (gL (pX X)) (gM (pX X)) kd (b + 1))), (4, iv (cntF (gK (pX X)) (gM (pX X)) kd (b + 1))), (5, iv ((b + 1 : Nat) : Int))]) (ws' := [(r 0, ob 5 [.ref (r 1), .ref (r 2), .ref (r 3), .ref (r 4), iv sT, .ref (r 5), iv lE, .ref (r 6), iv aT, iv fR, iv wR, .ref (r 7)]), (r 6, ia T.2.1 3 gs), (bb, ia T.2.1 305 w)]) (st' := []) (by rw [show cntF (gK (pX X)) (gM (pX X)) kd (b + 1) = cntF (gK (pX X)) (gM (pX X)) kd b + _ from rfl, show smF (gW (pX X)) (gK (pX X)) (gL (pX X)) (gM (pX X)) kd (b + 1) = smF (gW (pX X)) (gK (pX X)) (gL (pX X)) (gM (pX X)) kd b + _ from rfl, if_pos ⟨by omega, by omega⟩, if_pos ⟨by omega, by omega⟩]; rfl) rfl rfl ?_
        exact ih (b + 1) (by omega)

theorem ct_lg7 {T : TT} {M : MB} (r : Nat → Nat) (sT lE aT fR wR : Int) (gs : AR) (bb : Nat) (w : AR) (X : WnS) (kd : Int) (hr : Rep w X) (hx : WFL (pX X)) (hkd : 0 ≤ kd ∧ kd ≤ 2) (hM : FM T M cX5_laysGuesses RX5 7 wsX5_laysGuesses rm_X5_laysGuesses) (hK : VV T M 7 [(0, .ref (r 0)), (1, .ref bb), (2, iv (kd + 1))] [(r 0, ob 5 [.ref (r 1), .ref (r 2), .ref (r 3), .ref (r 4), iv sT, .ref (r 5), iv lE, .ref (r 6), iv aT, iv fR, iv wR, .ref (r 7)]), (r 6, ia T.2.1 3 (va_up gs kd.toNat (gsF (pX X) kd))), (bb, ia T.2.1 305 w)] 0 0 2 []) : VV T M 7 [(0, .ref (r 0)), (1, .ref bb), (2, iv kd)] [(r 0, ob 5 [.ref (r 1), .ref (r 2), .ref (r 3), .ref (r 4), iv sT, .ref (r 5), iv lE, .ref (r 6), iv aT, iv fR, iv wR, .ref (r 7)]), (r 6, ia T.2.1 3 gs), (bb, ia T.2.1 305 w)] 0 0 7 [] := by
  have hn := hx.1
  have hwd := hx.2.1
  have hsb := smF_b (wd := gW (pX X)) (gK (pX X)) (gL (pX X)) (gM (pX X)) kd hwd (fun i => (hx.2.2.1 i).2.1) (gN (pX X)).toNat
  have hcb := cntF_b (gK (pX X)) (gM (pX X)) kd (gN (pX X)).toNat
  refine xr_iconst hM dX5_laysGuesses_7 ?_
  refine xr_istore_n (lv' := [(0, .ref (r 0)), (1, .ref bb), (2, iv kd), (3, iv 0)]) hM dX5_laysGuesses_8 rfl (by decide) rfl rfl ?_
  refine xr_iconst hM dX5_laysGuesses_9 ?_
  refine xr_istore (lv' := [(0, .ref (r 0)), (1, .ref bb), (2, iv kd), (3, iv 0), (4, iv 0)]) hM dX5_laysGuesses_10 (by decide) rfl rfl ?_
  refine xr_iconst hM dX5_laysGuesses_12 ?_
  refine xr_istore (lv' := [(0, .ref (r 0)), (1, .ref bb), (2, iv kd), (3, iv 0), (4, iv 0), (5, iv 0)]) hM dX5_laysGuesses_13 (by decide) rfl rfl ?_
  refine lp_lg r sT lE aT fR wR gs bb w X kd hr hx hkd hM ?_ (gN (pX X)).toNat 0 (by omega)
  refine xr_aload_n hM 0 dX5_laysGuesses_93 rfl rfl ?_
  refine xr_get (C := RX5) (TT0 := TX5) (N := 12) hM 5 0 7 (fun _ h => List.mem_cons_of_mem _ (List.mem_append_right _ h)) rfl rfl (by decide) (List.mem_of_getElem? (i := 1) rfl) rfl rfl dX5_laysGuesses_94 ?_
  refine xr_iload_n hM 2 dX5_laysGuesses_97 rfl rfl ?_
  refine xr_iload hM 4 dX5_laysGuesses_98 rfl ?_
  refine xr_if_ne hM 108 dX5_laysGuesses_100 (by decide) (by omega) (fun c100 => ?_) (fun c100 => ?_)
  · refine xr_iload_n hM 3 dX5_laysGuesses_108 rfl rfl ?_
    refine xr_iload hM 4 dX5_laysGuesses_109 rfl ?_
    refine xr_idiv hM dX5_laysGuesses_111 (by omega) ?_
    refine xr_iast (ws' := [(r 0, ob 5 [.ref (r 1), .ref (r 2), .ref (r 3), .ref (r 4), iv sT, .ref (r 5), iv lE, .ref (r 6), iv aT, iv fR, iv wR, .ref (r 7)]), (r 6, ia T.2.1 3 (va_up gs kd.toNat ((smF (gW (pX X)) (gK (pX X)) (gL (pX X)) (gM (pX X)) kd (gN (pX X)).toNat) / (cntF (gK (pX X)) (gM (pX X)) kd (gN (pX X)).toNat)))), (bb, ia T.2.1 305 w)]) hM 1 kd.toNat rfl rfl (by omega) dX5_laysGuesses_112 rfl ?_
    refine xr_iinc (lv' := [(0, .ref (r 0)), (1, .ref bb), (2, iv (kd + 1)), (3, iv (smF (gW (pX X)) (gK (pX X)) (gL (pX X)) (gM (pX X)) kd (gN (pX X)).toNat)), (4, iv (cntF (gK (pX X)) (gM (pX X)) kd (gN (pX X)).toNat)), (5, iv (gN (pX X)))]) hM 2 dX5_laysGuesses_113 rfl (by decide) rfl rfl ?_
    refine xr_goto hM 2 dX5_laysGuesses_116 (by decide) ?_
    refine xr_pick [0, 1, 2] (lv' := [(0, .ref (r 0)), (1, .ref bb), (2, iv (kd + 1))]) rfl ?_
    rw [gsF_e hx hkd, if_neg c100] at hK
    exact hK
  · refine xr_bipush hM dX5_laysGuesses_103 (by decide) ?_
    refine xr_goto hM 112 dX5_laysGuesses_105 (by decide) ?_
    refine xr_iast (ws' := [(r 0, ob 5 [.ref (r 1), .ref (r 2), .ref (r 3), .ref (r 4), iv sT, .ref (r 5), iv lE, .ref (r 6), iv aT, iv fR, iv wR, .ref (r 7)]), (r 6, ia T.2.1 3 (va_up gs kd.toNat 20)), (bb, ia T.2.1 305 w)]) hM 1 kd.toNat rfl rfl (by omega) dX5_laysGuesses_112 rfl ?_
    refine xr_iinc (lv' := [(0, .ref (r 0)), (1, .ref bb), (2, iv (kd + 1)), (3, iv (smF (gW (pX X)) (gK (pX X)) (gL (pX X)) (gM (pX X)) kd (gN (pX X)).toNat)), (4, iv (cntF (gK (pX X)) (gM (pX X)) kd (gN (pX X)).toNat)), (5, iv (gN (pX X)))]) hM 2 dX5_laysGuesses_113 rfl (by decide) rfl rfl ?_
    refine xr_goto hM 2 dX5_laysGuesses_116 (by decide) ?_
    refine xr_pick [0, 1, 2] (lv' := [(0, .ref (r 0)), (1, .ref bb), (2, iv (kd + 1))]) rfl ?_
    rw [gsF_e hx hkd, if_pos c100] at hK
    exact hK

theorem ct_X5_laysGuesses (l : Launch) (T : TT) (r : Nat → Nat) (sT lE aT fR wR : Int) (gs : AR) (bb : Nat) (w : AR) (X : WnS) (hr : Rep w X) (hx : WFL (pX X)) : CT2 l yX5_laysGuesses wsX5_laysGuesses rm_X5_laysGuesses T [.ref (r 0), .ref bb] ([(r 0, ob 5 [.ref (r 1), .ref (r 2), .ref (r 3), .ref (r 4), iv sT, .ref (r 5), iv lE, .ref (r 6), iv aT, iv fR, iv wR, .ref (r 7)]), (r 6, ia T.2.1 3 gs), (bb, ia T.2.1 305 w)]) none (fun w_ g_ => GI g_ (pX X)) (fun w_ g_ => [(r 0, ob 5 [.ref (r 1), .ref (r 2), .ref (r 3), .ref (r 4), iv sT, .ref (r 5), iv lE, .ref (r 6), iv aT, iv fR, iv wR, .ref (r 7)]), (r 6, ia T.2.1 3 g_), (bb, ia T.2.1 305 w)]) := by
  refine CT2.V (maxL := 7) (lv0 := [(0, .ref (r 0)), (1, .ref bb)]) hp_X5_laysGuesses rfl (Nat.le_of_ble_eq_true rfl) rfl (fun M hM hF => ?_)
  refine xr_iconst hM dX5_laysGuesses_0 ?_
  refine xr_istore_n (lv' := [(0, .ref (r 0)), (1, .ref bb), (2, iv 0)]) hM dX5_laysGuesses_1 rfl (by decide) rfl rfl ?_
  refine xr_iload_n hM 2 dX5_laysGuesses_2 rfl rfl ?_
  refine xr_iconst hM dX5_laysGuesses_3 ?_
  refine xr_icmp_ge hM 119 dX5_laysGuesses_4 (by decide) (by omega) (fun c4 => by exfalso; omega) (fun c4 => ?_)
  refine ct_lg7 r sT lE aT fR wR gs bb w X 0 hr hx (by decide) hM ?_
  refine xr_iload_n hM 2 dX5_laysGuesses_2 rfl rfl ?_
  refine xr_iconst hM dX5_laysGuesses_3 ?_
  refine xr_icmp_ge hM 119 dX5_laysGuesses_4 (by decide) (by omega) (fun c4_1 => by exfalso; omega) (fun c4_1 => ?_)
  refine ct_lg7 r sT lE aT fR wR (va_up gs 0 (gsF (pX X) 0)) bb w X 1 hr hx (by decide) hM ?_
  refine xr_iload_n hM 2 dX5_laysGuesses_2 rfl rfl ?_
  refine xr_iconst hM dX5_laysGuesses_3 ?_
  refine xr_icmp_ge hM 119 dX5_laysGuesses_4 (by decide) (by omega) (fun c4_2 => by exfalso; omega) (fun c4_2 => ?_)
  refine ct_lg7 r sT lE aT fR wR (va_up (va_up gs 0 (gsF (pX X) 0)) 1 (gsF (pX X) 1)) bb w X 2 hr hx (by decide) hM ?_
  refine xr_iload_n hM 2 dX5_laysGuesses_2 rfl rfl ?_
  refine xr_iconst hM dX5_laysGuesses_3 ?_
  refine xr_icmp_ge hM 119 dX5_laysGuesses_4 (by decide) (by omega) (fun c4_3 => ?_) (fun c4_3 => by exfalso; omega)
  exact xr_vret (hF w _ (GI_3 gs (pX X))) dX5_laysGuesses_119 rfl

theorem ct_X5_heightOf (l : Launch) (T : TT) (r : Nat → Nat) (sT lE aT fR wR : Int) (gs : AR) (bb : Nat) (w : AR) (X : WnS) (i : Int) (hr : Rep w X) (hx : WFL (pX X)) (hg : GI gs (pX X)) (hi : 0 ≤ i ∧ i < gN (pX X)) : CT l yX5_heightOf wsX5_heightOf rm_X5_heightOf T [.ref (r 0), .ref bb, iv i] ([(r 0, ob 5 [.ref (r 1), .ref (r 2), .ref (r 3), .ref (r 4), iv sT, .ref (r 5), iv lE, .ref (r 6), iv aT, iv fR, iv wR, .ref (r 7)]), (r 6, ia T.2.1 3 gs), (bb, ia T.2.1 305 w)]) (some (iv (htF (pX X) i.toNat))) ([(r 0, ob 5 [.ref (r 1), .ref (r 2), .ref (r 3), .ref (r 4), iv sT, .ref (r 5), iv lE, .ref (r 6), iv aT, iv fR, iv wR, .ref (r 7)]), (r 6, ia T.2.1 3 gs), (bb, ia T.2.1 305 w)]) := by
  refine CT.Z (maxL := 3) (lv0 := [(0, .ref (r 0)), (1, .ref bb), (2, iv i)]) hp_X5_heightOf rfl (Nat.le_of_ble_eq_true rfl) rfl rfl (fun M hM hF => ?_)
  have hn := hx.1
  have hwd := hx.2.1
  have h3 := hx.2.2.1 i.toNat
  refine xr_aload_n hM 1 dX5_heightOf_0 rfl rfl ?_
  refine xr_iload_n hM 2 dX5_heightOf_1 rfl rfl ?_
  refine xr_iconst hM dX5_heightOf_2 ?_
  refine xr_callSr (rest := [.ref bb]) (As := [iv i, iv 2]) (st' := [iv (5 + 3 * i + 2), .ref bb]) hM (ct_X5_l M.2.1 T i 2) gX5_heightOf_X5_l rfl ⟨rfl, rfl⟩ hy_X5_l rfl ⟨by decide, by decide⟩ [] rfl rfl rfl rfl (Nat.le_of_ble_eq_true rfl) ⟨by decide, by decide⟩ dX5_heightOf_3 ?_
  refine xr_iald hM 2 (rI i 2) rfl (by unfold rI; omega) (by omega) dX5_heightOf_6 ?_
  refine xr_topv (v' := gM (pX X) i.toNat) (hr.m (by omega)) ?_
  refine xr_iconst hM dX5_heightOf_7 ?_
  refine xr_icmp_ne hM 19 dX5_heightOf_8 (by decide) (by omega) (fun c8 => ?_) (fun c8 => ?_)
  · refine xr_aload_n hM 0 dX5_heightOf_19 rfl rfl ?_
    refine xr_get (C := RX5) (TT0 := TX5) (N := 12) hM 5 0 7 (fun _ h => List.mem_cons_of_mem _ (List.mem_append_right _ h)) rfl rfl (by decide) (List.mem_of_getElem? (i := 1) rfl) rfl rfl dX5_heightOf_20 ?_
    refine xr_aload_n hM 1 dX5_heightOf_23 rfl rfl ?_
    refine xr_iload_n hM 2 dX5_heightOf_24 rfl rfl ?_
    refine xr_iconst hM dX5_heightOf_25 ?_
    refine xr_callSr (rest := [.ref bb, .ref (r 6)]) (As := [iv i, iv 0]) (st' := [iv (5 + 3 * i + 0), .ref bb, .ref (r 6)]) hM (ct_X5_l M.2.1 T i 0) gX5_heightOf_X5_l rfl ⟨rfl, rfl⟩ hy_X5_l rfl ⟨by decide, by decide⟩ [] rfl rfl rfl rfl (Nat.le_of_ble_eq_true rfl) ⟨by decide, by decide⟩ dX5_heightOf_26 ?_
    refine xr_iald hM 2 (rI i 0) rfl (by unfold rI; omega) (by omega) dX5_heightOf_29 ?_
    refine xr_topv (v' := gK (pX X) i.toNat) (hr.k (by omega)) ?_
    refine xr_iald hM 1 (gK (pX X) i.toNat).toNat rfl rfl (by omega) dX5_heightOf_30 ?_
    have hgk := hg (gK (pX X) i.toNat).toNat (by omega)
    rw [show (((gK (pX X) i.toNat).toNat : Nat) : Int) = gK (pX X) i.toNat by omega] at hgk
    exact xr_iret hF dX5_heightOf_31 (by rw [htF, if_neg (by omega)]; exact hgk) rfl
  · refine xr_aload_n hM 1 dX5_heightOf_11 rfl rfl ?_
    refine xr_iload_n hM 2 dX5_heightOf_12 rfl rfl ?_
    refine xr_callSr (rest := []) (As := [.ref bb, iv i]) (st' := [iv (tH (gW (pX X)) (gK (pX X) i.toNat) (gL (pX X) i.toNat))]) hM (ct_X5_trueOf M.2.1 T bb w X i hr hx (by (try simp only [pX_t, pH_t, pA_t, pS_t]); omega)) gX5_heightOf_X5_trueOf rfl ⟨rfl, rfl⟩ hy_X5_trueOf rfl ⟨by decide, by decide⟩ [2] rfl rfl rfl rfl (Nat.le_of_ble_eq_true rfl) ⟨by decide, by decide⟩ dX5_heightOf_13 ?_
    have hf13 := (tH_b ⟨(hx.2.2.1 i.toNat).2.1, hx.2.1⟩ : 6 ≤ tH (gW (pX X)) (gK (pX X) i.toNat) (gL (pX X) i.toNat) ∧ tH (gW (pX X)) (gK (pX X) i.toNat) (gL (pX X) i.toNat) ≤ 1450)
    refine xr_goto hM 31 dX5_heightOf_16 (by decide) ?_
    exact xr_iret hF dX5_heightOf_31 (by rw [htF, if_pos (by omega)]) rfl

theorem lp_X5_topOf {T : TT} {M : MB} (r : Nat → Nat) (sT lE aT fR wR : Int) (bb : Nat) (w : AR) (X : WnS) (g : AR) (i : Int) (hr : Rep w X) (hx : WFL (pX X)) (hg : GI g (pX X)) (hi : 0 ≤ i ∧ i ≤ gN (pX X)) (hM : FM T M cX5_topOf RX5 5 wsX5_topOf rm_X5_topOf) (hF : FinI T M cX5_topOf 5 (iv (tpF (pX X) i.toNat)) ([(r 0, ob 5 [.ref (r 1), .ref (r 2), .ref (r 3), .ref (r 4), iv sT, .ref (r 5), iv lE, .ref (r 6), iv aT, iv fR, iv wR, .ref (r 7)]), (r 6, ia T.2.1 3 g), (bb, ia T.2.1 305 w)])) : ∀ (f b : Nat), (b : Int) + f = i → VV T M 5 [(0, .ref (r 0)), (1, .ref bb), (2, iv i), (3, iv (tpF (pX X) b)), (4, iv (b : Int))] [(r 0, ob 5 [.ref (r 1), .ref (r 2), .ref (r 3), .ref (r 4), iv sT, .ref (r 5), iv lE, .ref (r 6), iv aT, iv fR, iv wR, .ref (r 7)]), (r 6, ia T.2.1 3 g), (bb, ia T.2.1 305 w)] 0 0 10 [] := by
  intro f
  induction f with
  | zero =>
    intro b h1
    have hn := hx.1
    have hwd := hx.2.1
    have htb := tpF_b hx b
    refine xr_iload hM 4 dX5_topOf_10 rfl ?_
    refine xr_iload_n hM 2 dX5_topOf_12 rfl rfl ?_
    refine xr_icmp_ge hM 32 dX5_topOf_13 (by decide) (by omega) (fun c13 => ?_) (fun c13 => by exfalso; omega)
    refine xr_iload_n hM 3 dX5_topOf_32 rfl rfl ?_
    exact xr_iret hF dX5_topOf_33 (congrArg (tpF (pX X)) (by omega)) rfl
  | succ f ih =>
    intro b h1
    have hn := hx.1
    have hwd := hx.2.1
    have htb := tpF_b hx b
    refine xr_iload hM 4 dX5_topOf_10 rfl ?_
    refine xr_iload_n hM 2 dX5_topOf_12 rfl rfl ?_
    refine xr_icmp_ge hM 32 dX5_topOf_13 (by decide) (by omega) (fun c13 => by exfalso; omega) (fun c13 => ?_)
    refine xr_iload_n hM 3 dX5_topOf_16 rfl rfl ?_
    refine xr_aload_n hM 0 dX5_topOf_17 rfl rfl ?_
    refine xr_aload_n hM 1 dX5_topOf_18 rfl rfl ?_
    refine xr_iload hM 4 dX5_topOf_19 rfl ?_
    refine xr_callVr (rest := [iv (tpF (pX X) b)]) (As := [.ref bb, iv (b : Int)]) (st' := [iv (htF (pX X) b), iv (tpF (pX X) b)]) hM (ct_X5_heightOf M.2.1 T r sT lE aT fR wR g bb w X (b : Int) hr hx (hg) (by omega)) gX5_topOf_X5_heightOf rfl ⟨rfl, rfl⟩ hy_X5_heightOf rfl ⟨by decide, by decide⟩ [0, 1, 2] rfl rfl 0 5 rfl rfl rfl rfl rfl (Nat.le_of_ble_eq_true rfl) ⟨by decide, by decide⟩ dX5_topOf_21 ?_
    have hf21 := htF_b hx b
    refine xr_iadd hM dX5_topOf_24 ?_
    refine xr_istore_n (lv' := [(0, .ref (r 0)), (1, .ref bb), (2, iv i), (3, iv ((tpF (pX X) b) + (htF (pX X) b))), (4, iv (b : Int))]) hM dX5_topOf_25 rfl (by decide) rfl rfl ?_
    refine xr_iinc (lv' := [(0, .ref (r 0)), (1, .ref bb), (2, iv i), (3, iv ((tpF (pX X) b) + (htF (pX X) b))), (4, iv ((b : Int) + 1))]) hM 4 dX5_topOf_26 rfl (by decide) rfl rfl ?_
    refine xr_goto hM 10 dX5_topOf_29 (by decide) ?_
    exact ih (b + 1) (by omega)

theorem ct_X5_topOf (l : Launch) (T : TT) (r : Nat → Nat) (sT lE aT fR wR : Int) (gs : AR) (bb : Nat) (w : AR) (X : WnS) (i : Int) (hr : Rep w X) (hx : WFL (pX X)) (hi : 0 ≤ i ∧ i ≤ gN (pX X)) : CT2 l yX5_topOf wsX5_topOf rm_X5_topOf T [.ref (r 0), .ref bb, iv i] ([(r 0, ob 5 [.ref (r 1), .ref (r 2), .ref (r 3), .ref (r 4), iv sT, .ref (r 5), iv lE, .ref (r 6), iv aT, iv fR, iv wR, .ref (r 7)]), (r 6, ia T.2.1 3 gs), (bb, ia T.2.1 305 w)]) (some (iv (tpF (pX X) i.toNat))) (fun w_ g_ => GI g_ (pX X)) (fun w_ g_ => [(r 0, ob 5 [.ref (r 1), .ref (r 2), .ref (r 3), .ref (r 4), iv sT, .ref (r 5), iv lE, .ref (r 6), iv aT, iv fR, iv wR, .ref (r 7)]), (r 6, ia T.2.1 3 g_), (bb, ia T.2.1 305 w)]) := by
  refine CT2.Z (maxL := 5) (lv0 := [(0, .ref (r 0)), (1, .ref bb), (2, iv i)]) hp_X5_topOf rfl (Nat.le_of_ble_eq_true rfl) rfl rfl (fun M hM hF => ?_)
  have hn := hx.1
  have hwd := hx.2.1
  refine xr_aload_n hM 0 dX5_topOf_0 rfl rfl ?_
  refine xr_aload_n hM 1 dX5_topOf_1 rfl rfl ?_
  refine xr_callV2 (ws' := fun w2 g2 => [(r 0, ob 5 [.ref (r 1), .ref (r 2), .ref (r 3), .ref (r 4), iv sT, .ref (r 5), iv lE, .ref (r 6), iv aT, iv fR, iv wR, .ref (r 7)]), (r 6, ia T.2.1 3 g2), (bb, ia T.2.1 305 w)]) (rest := []) (As := [.ref bb]) (st' := []) hM (ct_X5_laysGuesses M.2.1 T r sT lE aT fR wR gs bb w X hr hx) gX5_topOf_X5_laysGuesses rfl ⟨rfl, rfl⟩ hy_X5_laysGuesses rfl ⟨by decide, by decide⟩ [0, 1, 2] rfl rfl (fun _ _ => rfl) 0 5 rfl rfl rfl rfl rfl (Nat.le_of_ble_eq_true rfl) ⟨by decide, by decide⟩ (fun _ _ => rfl) dX5_topOf_2 (fun w2 g2 hP2 => ?_)
  refine xr_iconst hM dX5_topOf_5 ?_
  refine xr_istore_n (lv' := [(0, .ref (r 0)), (1, .ref bb), (2, iv i), (3, iv 0)]) hM dX5_topOf_6 rfl (by decide) rfl rfl ?_
  refine xr_iconst hM dX5_topOf_7 ?_
  refine xr_istore (lv' := [(0, .ref (r 0)), (1, .ref bb), (2, iv i), (3, iv 0), (4, iv 0)]) hM dX5_topOf_8 (by decide) rfl rfl ?_
  exact lp_X5_topOf r sT lE aT fR wR bb w X g2 i hr hx hP2 hi hM (hF w _ hP2) i.toNat 0 (by omega)

theorem ct_X5_total (l : Launch) (T : TT) (r : Nat → Nat) (sT lE aT fR wR : Int) (gs : AR) (bb : Nat) (w : AR) (X : WnS) (hr : Rep w X) (hx : WFL (pX X)) : CT2 l yX5_total wsX5_total rm_X5_total T [.ref (r 0), .ref bb] ([(r 0, ob 5 [.ref (r 1), .ref (r 2), .ref (r 3), .ref (r 4), iv sT, .ref (r 5), iv lE, .ref (r 6), iv aT, iv fR, iv wR, .ref (r 7)]), (r 6, ia T.2.1 3 gs), (bb, ia T.2.1 305 w)]) (some (iv (tpF (pX X) (gN (pX X)).toNat))) (fun w_ g_ => GI g_ (pX X)) (fun w_ g_ => [(r 0, ob 5 [.ref (r 1), .ref (r 2), .ref (r 3), .ref (r 4), iv sT, .ref (r 5), iv lE, .ref (r 6), iv aT, iv fR, iv wR, .ref (r 7)]), (r 6, ia T.2.1 3 g_), (bb, ia T.2.1 305 w)]) := by
  refine CT2.Z (maxL := 2) (lv0 := [(0, .ref (r 0)), (1, .ref bb)]) hp_X5_total rfl (Nat.le_of_ble_eq_true rfl) rfl rfl (fun M hM hF => ?_)
  have hn := hx.1
  have hwd := hx.2.1
  refine xr_aload_n hM 0 dX5_total_0 rfl rfl ?_
  refine xr_aload_n hM 1 dX5_total_1 rfl rfl ?_
  refine xr_aload_n hM 1 dX5_total_2 rfl rfl ?_
  refine xr_iconst hM dX5_total_3 ?_
  refine xr_iald hM 2 0 rfl rfl (by omega) dX5_total_4 ?_
  refine xr_topv (v' := gN (pX X)) (hr.1) ?_
  refine xr_callV2 (ws' := fun w5 g5 => [(r 0, ob 5 [.ref (r 1), .ref (r 2), .ref (r 3), .ref (r 4), iv sT, .ref (r 5), iv lE, .ref (r 6), iv aT, iv fR, iv wR, .ref (r 7)]), (r 6, ia T.2.1 3 g5), (bb, ia T.2.1 305 w)]) (rest := []) (As := [.ref bb, iv (gN (pX X))]) (st' := [iv (tpF (pX X) (gN (pX X)).toNat)]) hM (ct_X5_topOf M.2.1 T r sT lE aT fR wR gs bb w X (gN (pX X)) hr hx (by omega)) gX5_total_X5_topOf rfl ⟨rfl, rfl⟩ hy_X5_topOf rfl ⟨by decide, by decide⟩ [0, 1, 2] rfl rfl (fun _ _ => rfl) 0 5 rfl rfl rfl rfl rfl (Nat.le_of_ble_eq_true rfl) ⟨by decide, by decide⟩ (fun _ _ => rfl) dX5_total_5 (fun w5 g5 hP5 => ?_)
  have hf5 := tpF_b hx (gN (pX X)).toNat
  exact xr_iret (hF w _ hP5) dX5_total_8 rfl rfl

theorem ct_X5_windowOf (l : Launch) (T : TT) (r : Nat → Nat) (sT lE aT fR wR : Int) (gs : AR) (bb : Nat) (w : AR) (X : WnS) (hr : Rep w X) (hx : WFL (pX X)) (hX : WW X) : CT2 l yX5_windowOf wsX5_windowOf rm_X5_windowOf T [.ref (r 0), .ref bb] ([(r 0, ob 5 [.ref (r 1), .ref (r 2), .ref (r 3), .ref (r 4), iv sT, .ref (r 5), iv lE, .ref (r 6), iv aT, iv fR, iv wR, .ref (r 7)]), (r 6, ia T.2.1 3 gs), (bb, ia T.2.1 305 w)]) (some (iv (tpF (pX X) (pA X).toNat + pS X))) (fun w_ g_ => GI gs (pX X) → GI g_ (pX X)) (fun w_ g_ => [(r 0, ob 5 [.ref (r 1), .ref (r 2), .ref (r 3), .ref (r 4), iv sT, .ref (r 5), iv lE, .ref (r 6), iv aT, iv fR, iv wR, .ref (r 7)]), (r 6, ia T.2.1 3 g_), (bb, ia T.2.1 305 w)]) := by
  refine CT2.Z (maxL := 2) (lv0 := [(0, .ref (r 0)), (1, .ref bb)]) hp_X5_windowOf rfl (Nat.le_of_ble_eq_true rfl) rfl rfl (fun M hM hF => ?_)
  have hn := hx.1
  have hwd := hx.2.1
  have hAn := hX.an
  refine xr_aload_n hM 1 dX5_windowOf_0 rfl rfl ?_
  refine xr_iconst hM dX5_windowOf_1 ?_
  refine xr_iald hM 2 0 rfl rfl (by omega) dX5_windowOf_2 ?_
  refine xr_topv (v' := gN (pX X)) (hr.1) ?_
  refine xr_if_ne hM 10 dX5_windowOf_3 (by decide) (by omega) (fun c3 => ?_) (fun c3 => ?_)
  · refine xr_aload_n hM 0 dX5_windowOf_10 rfl rfl ?_
    refine xr_aload_n hM 1 dX5_windowOf_11 rfl rfl ?_
    refine xr_aload_n hM 1 dX5_windowOf_12 rfl rfl ?_
    refine xr_iconst hM dX5_windowOf_13 ?_
    refine xr_iald hM 2 1 rfl rfl (by omega) dX5_windowOf_14 ?_
    refine xr_topv (v' := pA X) (hr.2.1) ?_
    refine xr_callV2 (ws' := fun w15 g15 => [(r 0, ob 5 [.ref (r 1), .ref (r 2), .ref (r 3), .ref (r 4), iv sT, .ref (r 5), iv lE, .ref (r 6), iv aT, iv fR, iv wR, .ref (r 7)]), (r 6, ia T.2.1 3 g15), (bb, ia T.2.1 305 w)]) (rest := []) (As := [.ref bb, iv (pA X)]) (st' := [iv (tpF (pX X) (pA X).toNat)]) hM (ct_X5_topOf M.2.1 T r sT lE aT fR wR gs bb w X (pA X) hr hx (by omega)) gX5_windowOf_X5_topOf rfl ⟨rfl, rfl⟩ hy_X5_topOf rfl ⟨by decide, by decide⟩ [0, 1, 2] rfl rfl (fun _ _ => rfl) 0 5 rfl rfl rfl rfl rfl (Nat.le_of_ble_eq_true rfl) ⟨by decide, by decide⟩ (fun _ _ => rfl) dX5_windowOf_15 (fun w15 g15 hP15 => ?_)
    have hf15 := tpF_b hx (pA X).toNat
    refine xr_aload_n hM 1 dX5_windowOf_18 rfl rfl ?_
    refine xr_iconst hM dX5_windowOf_19 ?_
    refine xr_iald hM 2 2 rfl rfl (by omega) dX5_windowOf_20 ?_
    refine xr_topv (v' := pS X) (hr.2.2.1) ?_
    refine xr_iadd hM dX5_windowOf_21 ?_
    exact xr_iret (hF w _ (fun _ => hP15)) dX5_windowOf_22 rfl rfl
  · refine xr_iconst hM dX5_windowOf_6 ?_
    refine xr_goto hM 22 dX5_windowOf_7 (by decide) ?_
    have ha0 := hX.1.2.2.1 c3
    exact xr_iret (hF w _ (fun q => q)) dX5_windowOf_22 (by rw [ha0.1, ha0.2]; rfl) rfl

theorem lp_X5_measured {T : TT} {M : MB} (r : Nat → Nat) (sT lE aT fR wR : Int) (bb : Nat) (w : AR) (X : WnS) (hr : Rep w X) (hx : WFL (pX X)) (hM : FM T M cX5_measured RX5 4 wsX5_measured rm_X5_measured) (hF : FinI T M cX5_measured 4 (iv (gC (pX X) 0 + gC (pX X) 1 + gC (pX X) 2)) ([(r 0, ob 5 [.ref (r 1), .ref (r 2), .ref (r 3), .ref (r 4), iv sT, .ref (r 5), iv lE, .ref (r 6), iv aT, iv fR, iv wR, .ref (r 7)]), (bb, ia T.2.1 305 w)])) : ∀ (f b : Nat), b + f = (gN (pX X)).toNat → VV T M 4 [(0, .ref (r 0)), (1, .ref bb), (2, iv (sumM (pX X) b)), (3, iv (b : Int))] [(r 0, ob 5 [.ref (r 1), .ref (r 2), .ref (r 3), .ref (r 4), iv sT, .ref (r 5), iv lE, .ref (r 6), iv aT, iv fR, iv wR, .ref (r 7)]), (bb, ia T.2.1 305 w)] 0 0 4 [] := by
  intro f
  induction f with
  | zero =>
    intro b h1
    have hn := hx.1
    have hwd := hx.2.1
    refine xr_iload_n hM 3 dX5_measured_4 rfl rfl ?_
    refine xr_aload_n hM 1 dX5_measured_5 rfl rfl ?_
    refine xr_iconst hM dX5_measured_6 ?_
    refine xr_iald hM 1 0 rfl rfl (by omega) dX5_measured_7 ?_
    refine xr_topv (v' := gN (pX X)) (hr.1) ?_
    refine xr_icmp_ge hM 27 dX5_measured_8 (by decide) (by omega) (fun c8 => ?_) (fun c8 => by exfalso; omega)
    refine xr_iload_n hM 2 dX5_measured_27 rfl rfl ?_
    exact xr_iret hF dX5_measured_28 (by rw [← sumM_g hx]; exact congrArg (sumM (pX X)) (by omega)) rfl
  | succ f ih =>
    intro b h1
    have hn := hx.1
    have hwd := hx.2.1
    refine xr_iload_n hM 3 dX5_measured_4 rfl rfl ?_
    refine xr_aload_n hM 1 dX5_measured_5 rfl rfl ?_
    refine xr_iconst hM dX5_measured_6 ?_
    refine xr_iald hM 1 0 rfl rfl (by omega) dX5_measured_7 ?_
    refine xr_topv (v' := gN (pX X)) (hr.1) ?_
    refine xr_icmp_ge hM 27 dX5_measured_8 (by decide) (by omega) (fun c8 => by exfalso; omega) (fun c8 => ?_)
    refine xr_iload_n hM 2 dX5_measured_11 rfl rfl ?_
    refine xr_aload_n hM 1 dX5_measured_12 rfl rfl ?_
    refine xr_iload_n hM 3 dX5_measured_13 rfl rfl ?_
    refine xr_iconst hM dX5_measured_14 ?_
    refine xr_callSr (rest := [.ref bb, iv (sumM (pX X) b)]) (As := [iv (b : Int), iv 2]) (st' := [iv (5 + 3 * (b : Int) + 2), .ref bb, iv (sumM (pX X) b)]) hM (ct_X5_l M.2.1 T (b : Int) 2) gX5_measured_X5_l rfl ⟨rfl, rfl⟩ hy_X5_l rfl ⟨by decide, by decide⟩ [] rfl rfl rfl rfl (Nat.le_of_ble_eq_true rfl) ⟨by decide, by decide⟩ dX5_measured_15 ?_
    refine xr_iald hM 1 (rI (b : Int) 2) rfl (by unfold rI; omega) (by omega) dX5_measured_18 ?_
    refine xr_topv (v' := gM (pX X) b) (hr.m (by omega)) ?_
    refine xr_iadd hM dX5_measured_19 ?_
    refine xr_istore_n (lv' := [(0, .ref (r 0)), (1, .ref bb), (2, iv ((sumM (pX X) b) + (gM (pX X) b))), (3, iv (b : Int))]) hM dX5_measured_20 rfl (by decide) rfl rfl ?_
    refine xr_iinc (lv' := [(0, .ref (r 0)), (1, .ref bb), (2, iv ((sumM (pX X) b) + (gM (pX X) b))), (3, iv ((b : Int) + 1))]) hM 3 dX5_measured_21 rfl (by decide) rfl rfl ?_
    refine xr_goto hM 4 dX5_measured_24 (by decide) ?_
    exact ih (b + 1) (by omega)

theorem ct_X5_measured (l : Launch) (T : TT) (r : Nat → Nat) (sT lE aT fR wR : Int) (gs : AR) (bb : Nat) (w : AR) (X : WnS) (hr : Rep w X) (hx : WFL (pX X)) : CT l yX5_measured wsX5_measured rm_X5_measured T [.ref (r 0), .ref bb] ([(r 0, ob 5 [.ref (r 1), .ref (r 2), .ref (r 3), .ref (r 4), iv sT, .ref (r 5), iv lE, .ref (r 6), iv aT, iv fR, iv wR, .ref (r 7)]), (bb, ia T.2.1 305 w)]) (some (iv (gC (pX X) 0 + gC (pX X) 1 + gC (pX X) 2))) ([(r 0, ob 5 [.ref (r 1), .ref (r 2), .ref (r 3), .ref (r 4), iv sT, .ref (r 5), iv lE, .ref (r 6), iv aT, iv fR, iv wR, .ref (r 7)]), (bb, ia T.2.1 305 w)]) := by
  refine CT.Z (maxL := 4) (lv0 := [(0, .ref (r 0)), (1, .ref bb)]) hp_X5_measured rfl (Nat.le_of_ble_eq_true rfl) rfl rfl (fun M hM hF => ?_)
  have hn := hx.1
  have hwd := hx.2.1
  refine xr_iconst hM dX5_measured_0 ?_
  refine xr_istore_n (lv' := [(0, .ref (r 0)), (1, .ref bb), (2, iv 0)]) hM dX5_measured_1 rfl (by decide) rfl rfl ?_
  refine xr_iconst hM dX5_measured_2 ?_
  refine xr_istore_n (lv' := [(0, .ref (r 0)), (1, .ref bb), (2, iv 0), (3, iv 0)]) hM dX5_measured_3 rfl (by decide) rfl rfl ?_
  exact lp_X5_measured r sT lE aT fR wR bb w X hr hx hM hF (gN (pX X)).toNat 0 (by omega)

theorem lp_X5_lineAt {T : TT} {M : MB} (r : Nat → Nat) (sT lE aT fR wR : Int) (bb : Nat) (w : AR) (X : WnS) (g : AR) (y R : Int) (hr : Rep w X) (hx : WFL (pX X)) (hg : GI g (pX X)) (hy : -2147483648 ≤ y ∧ y < 2147483648) (hM : FM T M cX5_lineAt RX5 5 wsX5_lineAt rm_X5_lineAt) (hF : FinI T M cX5_lineAt 5 (iv R) ([(r 0, ob 5 [.ref (r 1), .ref (r 2), .ref (r 3), .ref (r 4), iv sT, .ref (r 5), iv lE, .ref (r 6), iv aT, iv fR, iv wR, .ref (r 7)]), (r 6, ia T.2.1 3 g), (bb, ia T.2.1 305 w)])) : ∀ (f b : Nat), b + f = (gN (pX X)).toNat → laF (pX X) y f b = R → VV T M 5 [(0, .ref (r 0)), (1, .ref bb), (2, iv y), (3, iv (tpF (pX X) b)), (4, iv (b : Int))] [(r 0, ob 5 [.ref (r 1), .ref (r 2), .ref (r 3), .ref (r 4), iv sT, .ref (r 5), iv lE, .ref (r 6), iv aT, iv fR, iv wR, .ref (r 7)]), (r 6, ia T.2.1 3 g), (bb, ia T.2.1 305 w)] 0 0 10 [] := by
  intro f
  induction f with
  | zero =>
    intro b h1 hR
    have hn := hx.1
    have hwd := hx.2.1
    have htb := tpF_b hx b
    refine xr_iload hM 4 dX5_lineAt_10 rfl ?_
    refine xr_aload_n hM 1 dX5_lineAt_12 rfl rfl ?_
    refine xr_iconst hM dX5_lineAt_13 ?_
    refine xr_iald hM 2 0 rfl rfl (by omega) dX5_lineAt_14 ?_
    refine xr_topv (v' := gN (pX X)) (hr.1) ?_
    refine xr_icmp_ge hM 42 dX5_lineAt_15 (by decide) (by omega) (fun c15 => ?_) (fun c15 => by exfalso; omega)
    refine xr_ldc hM (-100009) (List.mem_of_getElem? (i := 1) rfl) (by decide) dX5_lineAt_42 ?_
    exact xr_iret hF dX5_lineAt_44 hR rfl
  | succ f ih =>
    intro b h1 hR
    have hn := hx.1
    have hwd := hx.2.1
    have htb := tpF_b hx b
    refine xr_iload hM 4 dX5_lineAt_10 rfl ?_
    refine xr_aload_n hM 1 dX5_lineAt_12 rfl rfl ?_
    refine xr_iconst hM dX5_lineAt_13 ?_
    refine xr_iald hM 2 0 rfl rfl (by omega) dX5_lineAt_14 ?_
    refine xr_topv (v' := gN (pX X)) (hr.1) ?_
    refine xr_icmp_ge hM 42 dX5_lineAt_15 (by decide) (by omega) (fun c15 => by exfalso; omega) (fun c15 => ?_)
    refine xr_iload_n hM 3 dX5_lineAt_18 rfl rfl ?_
    refine xr_aload_n hM 0 dX5_lineAt_19 rfl rfl ?_
    refine xr_aload_n hM 1 dX5_lineAt_20 rfl rfl ?_
    refine xr_iload hM 4 dX5_lineAt_21 rfl ?_
    refine xr_callVr (rest := [iv (tpF (pX X) b)]) (As := [.ref bb, iv (b : Int)]) (st' := [iv (htF (pX X) b), iv (tpF (pX X) b)]) hM (ct_X5_heightOf M.2.1 T r sT lE aT fR wR g bb w X (b : Int) hr hx (hg) (by omega)) gX5_lineAt_X5_heightOf rfl ⟨rfl, rfl⟩ hy_X5_heightOf rfl ⟨by decide, by decide⟩ [0, 1, 2] rfl rfl 0 5 rfl rfl rfl rfl rfl (Nat.le_of_ble_eq_true rfl) ⟨by decide, by decide⟩ dX5_lineAt_23 ?_
    have hf23 := htF_b hx b
    refine xr_iadd hM dX5_lineAt_26 ?_
    refine xr_istore_n (lv' := [(0, .ref (r 0)), (1, .ref bb), (2, iv y), (3, iv ((tpF (pX X) b) + (htF (pX X) b))), (4, iv (b : Int))]) hM dX5_lineAt_27 rfl (by decide) rfl rfl ?_
    refine xr_iload_n hM 2 dX5_lineAt_28 rfl rfl ?_
    refine xr_iload_n hM 3 dX5_lineAt_29 rfl rfl ?_
    refine xr_icmp_ge hM 36 dX5_lineAt_30 (by decide) (by omega) (fun c30 => ?_) (fun c30 => ?_)
    · refine xr_iinc (lv' := [(0, .ref (r 0)), (1, .ref bb), (2, iv y), (3, iv ((tpF (pX X) b) + (htF (pX X) b))), (4, iv ((b : Int) + 1))]) hM 4 dX5_lineAt_36 rfl (by decide) rfl rfl ?_
      refine xr_goto hM 10 dX5_lineAt_39 (by decide) ?_
      exact ih (b + 1) (by omega) (by rw [← hR, laF, if_neg]; exact Int.not_lt.mpr c30)
    · refine xr_iload hM 4 dX5_lineAt_33 rfl ?_
      exact xr_iret hF dX5_lineAt_35 (by rw [← hR, laF, if_pos]; exact c30) rfl

theorem ct_X5_lineAt (l : Launch) (T : TT) (r : Nat → Nat) (sT lE aT fR wR : Int) (gs : AR) (bb : Nat) (w : AR) (X : WnS) (y : Int) (hr : Rep w X) (hx : WFL (pX X)) (hy : -2147483648 ≤ y ∧ y < 2147483648) : CT2 l yX5_lineAt wsX5_lineAt rm_X5_lineAt T [.ref (r 0), .ref bb, iv y] ([(r 0, ob 5 [.ref (r 1), .ref (r 2), .ref (r 3), .ref (r 4), iv sT, .ref (r 5), iv lE, .ref (r 6), iv aT, iv fR, iv wR, .ref (r 7)]), (r 6, ia T.2.1 3 gs), (bb, ia T.2.1 305 w)]) (some (iv (laF (pX X) y (gN (pX X)).toNat 0))) (fun w_ g_ => GI g_ (pX X)) (fun w_ g_ => [(r 0, ob 5 [.ref (r 1), .ref (r 2), .ref (r 3), .ref (r 4), iv sT, .ref (r 5), iv lE, .ref (r 6), iv aT, iv fR, iv wR, .ref (r 7)]), (r 6, ia T.2.1 3 g_), (bb, ia T.2.1 305 w)]) := by
  refine CT2.Z (maxL := 5) (lv0 := [(0, .ref (r 0)), (1, .ref bb), (2, iv y)]) hp_X5_lineAt rfl (Nat.le_of_ble_eq_true rfl) rfl rfl (fun M hM hF => ?_)
  have hn := hx.1
  have hwd := hx.2.1
  refine xr_aload_n hM 0 dX5_lineAt_0 rfl rfl ?_
  refine xr_aload_n hM 1 dX5_lineAt_1 rfl rfl ?_
  refine xr_callV2 (ws' := fun w2 g2 => [(r 0, ob 5 [.ref (r 1), .ref (r 2), .ref (r 3), .ref (r 4), iv sT, .ref (r 5), iv lE, .ref (r 6), iv aT, iv fR, iv wR, .ref (r 7)]), (r 6, ia T.2.1 3 g2), (bb, ia T.2.1 305 w)]) (rest := []) (As := [.ref bb]) (st' := []) hM (ct_X5_laysGuesses M.2.1 T r sT lE aT fR wR gs bb w X hr hx) gX5_lineAt_X5_laysGuesses rfl ⟨rfl, rfl⟩ hy_X5_laysGuesses rfl ⟨by decide, by decide⟩ [0, 1, 2] rfl rfl (fun _ _ => rfl) 0 5 rfl rfl rfl rfl rfl (Nat.le_of_ble_eq_true rfl) ⟨by decide, by decide⟩ (fun _ _ => rfl) dX5_lineAt_2 (fun w2 g2 hP2 => ?_)
  refine xr_iconst hM dX5_lineAt_5 ?_
  refine xr_istore_n (lv' := [(0, .ref (r 0)), (1, .ref bb), (2, iv y), (3, iv 0)]) hM dX5_lineAt_6 rfl (by decide) rfl rfl ?_
  refine xr_iconst hM dX5_lineAt_7 ?_
  refine xr_istore (lv' := [(0, .ref (r 0)), (1, .ref bb), (2, iv y), (3, iv 0), (4, iv 0)]) hM dX5_lineAt_8 (by decide) rfl rfl ?_
  exact lp_X5_lineAt r sT lE aT fR wR bb w X g2 y _ hr hx hP2 hy hM (hF w _ hP2) (gN (pX X)).toNat 0 (by omega) rfl

theorem ct_X5_isSeen (l : Launch) (T : TT) (r : Nat → Nat) (sT lE aT fR wR : Int) (gs : AR) (bb : Nat) (w : AR) (X : WnS) (i : Int) (hr : Rep w X) (hx : WFL (pX X)) (hX : WW X) (hi : 0 ≤ i ∧ i < gN (pX X)) : CT2 l yX5_isSeen wsX5_isSeen rm_X5_isSeen T [.ref (r 0), .ref bb, iv i] ([(r 0, ob 5 [.ref (r 1), .ref (r 2), .ref (r 3), .ref (r 4), iv sT, .ref (r 5), iv lE, .ref (r 6), iv aT, iv fR, iv wR, .ref (r 7)]), (r 6, ia T.2.1 3 gs), (bb, ia T.2.1 305 w)]) (some (iv (bi (shP X i)))) (fun w_ g_ => GI g_ (pX X)) (fun w_ g_ => [(r 0, ob 5 [.ref (r 1), .ref (r 2), .ref (r 3), .ref (r 4), iv sT, .ref (r 5), iv lE, .ref (r 6), iv aT, iv fR, iv wR, .ref (r 7)]), (r 6, ia T.2.1 3 g_), (bb, ia T.2.1 305 w)]) := by
  refine CT2.Z (maxL := 4) (lv0 := [(0, .ref (r 0)), (1, .ref bb), (2, iv i)]) hp_X5_isSeen rfl (Nat.le_of_ble_eq_true rfl) bi_n rfl (fun M hM hF => ?_)
  have hn := hx.1
  have hwd := hx.2.1
  have hAn := hX.an
  have hSs := hX.2
  have hSb := hX.1.2.2.2.2
  have hHH := hX.1.2.1
  refine xr_aload_n hM 0 dX5_isSeen_0 rfl rfl ?_
  refine xr_aload_n hM 1 dX5_isSeen_1 rfl rfl ?_
  refine xr_iload_n hM 2 dX5_isSeen_2 rfl rfl ?_
  refine xr_callV2 (ws' := fun w3 g3 => [(r 0, ob 5 [.ref (r 1), .ref (r 2), .ref (r 3), .ref (r 4), iv sT, .ref (r 5), iv lE, .ref (r 6), iv aT, iv fR, iv wR, .ref (r 7)]), (r 6, ia T.2.1 3 g3), (bb, ia T.2.1 305 w)]) (rest := []) (As := [.ref bb, iv i]) (st' := [iv (tpF (pX X) i.toNat)]) hM (ct_X5_topOf M.2.1 T r sT lE aT fR wR gs bb w X i hr hx (by omega)) gX5_isSeen_X5_topOf rfl ⟨rfl, rfl⟩ hy_X5_topOf rfl ⟨by decide, by decide⟩ [0, 1, 2] rfl rfl (fun _ _ => rfl) 0 5 rfl rfl rfl rfl rfl (Nat.le_of_ble_eq_true rfl) ⟨by decide, by decide⟩ (fun _ _ => rfl) dX5_isSeen_3 (fun w3 g3 hP3 => ?_)
  have hf3 := tpF_b hx i.toNat
  refine xr_aload_n hM 0 dX5_isSeen_6 rfl rfl ?_
  refine xr_aload_n hM 1 dX5_isSeen_7 rfl rfl ?_
  refine xr_callV2 (ws' := fun w8 g8 => [(r 0, ob 5 [.ref (r 1), .ref (r 2), .ref (r 3), .ref (r 4), iv sT, .ref (r 5), iv lE, .ref (r 6), iv aT, iv fR, iv wR, .ref (r 7)]), (r 6, ia T.2.1 3 g8), (bb, ia T.2.1 305 w)]) (rest := [iv (tpF (pX X) i.toNat)]) (As := [.ref bb]) (st' := [iv (tpF (pX X) (pA X).toNat + pS X), iv (tpF (pX X) i.toNat)]) hM (ct_X5_windowOf M.2.1 T r sT lE aT fR wR g3 bb w X hr hx hX) gX5_isSeen_X5_windowOf rfl ⟨rfl, rfl⟩ hy_X5_windowOf rfl ⟨by decide, by decide⟩ [0, 1, 2] rfl rfl (fun _ _ => rfl) 0 5 rfl rfl rfl rfl rfl (Nat.le_of_ble_eq_true rfl) ⟨by decide, by decide⟩ (fun _ _ => rfl) dX5_isSeen_8 (fun w8 g8 hP8 => ?_)
  have hf8 := tpF_b hx (pA X).toNat
  refine xr_isub hM dX5_isSeen_11 ?_
  refine xr_istore_n (lv' := [(0, .ref (r 0)), (1, .ref bb), (2, iv i), (3, iv ((tpF (pX X) i.toNat) - (tpF (pX X) (pA X).toNat + pS X)))]) hM dX5_isSeen_12 rfl (by decide) rfl rfl ?_
  refine xr_iload_n hM 3 dX5_isSeen_13 rfl rfl ?_
  refine xr_aload_n hM 1 dX5_isSeen_14 rfl rfl ?_
  refine xr_iconst hM dX5_isSeen_15 ?_
  refine xr_iald hM 2 3 rfl rfl (by omega) dX5_isSeen_16 ?_
  refine xr_topv (v' := pH X) (hr.2.2.2.1) ?_
  refine xr_icmp_ge hM 35 dX5_isSeen_17 (by decide) (by omega) (fun c17 => ?_) (fun c17 => ?_)
  · refine xr_iconst hM dX5_isSeen_35 ?_
    have hq := shP_i hX hi
    exact xr_iret (hF w _ (hP8 hP3)) dX5_isSeen_36 (bi_f (fun q9 => by have q8 := hq.mp q9; omega)).symm rfl
  · refine xr_iload_n hM 3 dX5_isSeen_20 rfl rfl ?_
    refine xr_aload_n hM 0 dX5_isSeen_21 rfl rfl ?_
    refine xr_aload_n hM 1 dX5_isSeen_22 rfl rfl ?_
    refine xr_iload_n hM 2 dX5_isSeen_23 rfl rfl ?_
    have hg := hP8 hP3
    refine xr_callVr (rest := [iv ((tpF (pX X) i.toNat) - (tpF (pX X) (pA X).toNat + pS X))]) (As := [.ref bb, iv i]) (st' := [iv (htF (pX X) i.toNat), iv ((tpF (pX X) i.toNat) - (tpF (pX X) (pA X).toNat + pS X))]) hM (ct_X5_heightOf M.2.1 T r sT lE aT fR wR g8 bb w X i hr hx (hg) (by omega)) gX5_isSeen_X5_heightOf rfl ⟨rfl, rfl⟩ hy_X5_heightOf rfl ⟨by decide, by decide⟩ [0, 1, 2] rfl rfl 0 5 rfl rfl rfl rfl rfl (Nat.le_of_ble_eq_true rfl) ⟨by decide, by decide⟩ dX5_isSeen_24 ?_
    have hf24 := htF_b hx i.toNat
    refine xr_iadd hM dX5_isSeen_27 ?_
    refine xr_if_le hM 35 dX5_isSeen_28 (by decide) (by omega) (fun c28 => ?_) (fun c28 => ?_)
    · refine xr_iconst hM dX5_isSeen_35 ?_
      have hq := shP_i hX hi
      exact xr_iret (hF w _ (hP8 hP3)) dX5_isSeen_36 (bi_f (fun q9 => by have q8 := hq.mp q9; omega)).symm rfl
    · refine xr_iconst hM dX5_isSeen_31 ?_
      refine xr_goto hM 36 dX5_isSeen_32 (by decide) ?_
      have hq := shP_i hX hi
      exact xr_iret (hF w _ (hP8 hP3)) dX5_isSeen_36 (bi_t (hq.mpr (by omega))).symm rfl
