theorem ct_X4_isOutside (l : Launch) (T : TT) (v lo hi : Int) (h1 : (-2147483648 ≤ v ∧ v < 2147483648) ∧ (-2147483648 ≤ lo ∧ lo < 2147483648) ∧ (-2147483648 ≤ hi ∧ hi < 2147483648)) : CT l yX4_isOutside wsX4_isOutside rm_X4_isOutside T [iv v, iv lo, iv hi] ([]) (some (iv (bi (v < lo ∨ hi < v)))) ([]) := by
  refine CT.Z (maxL := 3) (lv0 := [(0, iv v), (1, iv lo), (2, iv hi)]) hp_X4_isOutside rfl (Nat.le_of_ble_eq_true rfl) bi_n rfl (fun M hM hF => ?_)
  refine xr_iload_n hM 0 dX4_isOutside_0 rfl rfl ?_
  refine xr_iload_n hM 1 dX4_isOutside_1 rfl rfl ?_
  refine xr_icmp_lt hM 10 dX4_isOutside_2 (by decide) (by omega) (fun c2 => ?_) (fun c2 => ?_)
  · refine xr_iconst hM dX4_isOutside_10 ?_
    refine xr_goto hM 15 dX4_isOutside_11 (by decide) ?_
    exact xr_iret hF dX4_isOutside_15 (bi_t (by omega)).symm rfl
  · refine xr_iload_n hM 0 dX4_isOutside_5 rfl rfl ?_
    refine xr_iload_n hM 2 dX4_isOutside_6 rfl rfl ?_
    refine xr_icmp_le hM 14 dX4_isOutside_7 (by decide) (by omega) (fun c7 => ?_) (fun c7 => ?_)
    · refine xr_iconst hM dX4_isOutside_14 ?_
      exact xr_iret hF dX4_isOutside_15 (bi_f (by omega)).symm rfl
    · refine xr_iconst hM dX4_isOutside_10 ?_
      refine xr_goto hM 15 dX4_isOutside_11 (by decide) ?_
      exact xr_iret hF dX4_isOutside_15 (bi_t (by omega)).symm rfl

theorem ct_X3_copyFrom (l : Launch) (T : TT) (a : Nat → Nat) (X : WnS) (b : Nat → Nat) (Y : WnS) (hY : WFL (pX Y)) : CT l yX3_copyFrom wsX3_copyFrom rm_X3_copyFrom T [.ref (a 6), .ref (b 6)] (winE T a X ++ winE T b Y) none (winE T a Y ++ winE T b Y) := by
  refine CT.V (maxL := 2) (lv0 := [(0, .ref (a 6)), (1, .ref (b 6))]) hp_X3_copyFrom rfl (Nat.le_of_ble_eq_true rfl) rfl (fun M hM hF => ?_)
  refine xr_aload_n hM 1 dX3_copyFrom_0 rfl rfl ?_
  refine xr_ifnonnull hM 5 dX3_copyFrom_1 (by decide) ?_
  refine xr_aload_n hM 0 dX3_copyFrom_5 rfl rfl ?_
  refine xr_get (C := RX3) (TT0 := TX3) (N := 4) hM 3 0 0 (fun _ h => List.mem_cons_of_mem _ (List.mem_append_left _ (List.mem_append_right _ h))) rfl rfl (by decide) (List.mem_of_getElem? (i := 1) rfl) rfl rfl dX3_copyFrom_6 ?_
  refine xr_aload_n hM 1 dX3_copyFrom_9 rfl rfl ?_
  refine xr_get (C := RX3) (TT0 := TX3) (N := 4) hM 3 7 0 (fun _ h => List.mem_cons_of_mem _ (List.mem_append_left _ (List.mem_append_right _ h))) rfl rfl (by decide) (List.mem_of_getElem? (i := 1) rfl) rfl rfl dX3_copyFrom_10 ?_
  refine xr_callV (ws' := [(a 6, ob 3 [.ref (a 0), iv (pH X), iv (pA X), iv (pS X)]), (a 0, ob 1 [.ref (a 1), .ref (a 2), .ref (a 3), .ref (a 4), .ref (a 5), iv (gN (pX Y)), iv (gW (pX Y))]), (a 1, ia T.2.1 100 (gK (pX Y))), (a 2, ia T.2.1 100 (gL (pX Y))), (a 3, ia T.2.2.1 100 (gM (pX Y))), (a 4, ia T.2.1 3 (gS (pX Y))), (a 5, ia T.2.1 3 (gC (pX Y))), (b 6, ob 3 [.ref (b 0), iv (pH Y), iv (pA Y), iv (pS Y)]), (b 0, ob 1 [.ref (b 1), .ref (b 2), .ref (b 3), .ref (b 4), .ref (b 5), iv (gN (pX Y)), iv (gW (pX Y))]), (b 1, ia T.2.1 100 (gK (pX Y))), (b 2, ia T.2.1 100 (gL (pX Y))), (b 3, ia T.2.2.1 100 (gM (pX Y))), (b 4, ia T.2.1 3 (gS (pX Y))), (b 5, ia T.2.1 3 (gC (pX Y)))]) (rest := []) (As := [.ref (b 0)]) (st' := []) hM (ct_X1_copyFrom M.2.1 T a (pX X) b (pX Y) hY) gX3_copyFrom_X1_copyFrom rfl ⟨rfl, rfl⟩ hy_X1_copyFrom rfl ⟨by decide, by decide⟩ [1, 2, 3, 4, 5, 6, 8, 9, 10, 11, 12, 13] rfl rfl rfl 0 1 rfl rfl rfl rfl rfl (Nat.le_of_ble_eq_true rfl) ⟨by decide, by decide⟩ rfl dX3_copyFrom_13 ?_
  refine xr_aload_n hM 0 dX3_copyFrom_16 rfl rfl ?_
  refine xr_aload_n hM 1 dX3_copyFrom_17 rfl rfl ?_
  refine xr_get (C := RX3) (TT0 := TX3) (N := 4) hM 3 7 1 (fun _ h => List.mem_cons_of_mem _ (List.mem_append_left _ (List.mem_append_right _ h))) rfl rfl (by decide) (List.mem_of_getElem? (i := 2) rfl) rfl rfl dX3_copyFrom_18 ?_
  refine xr_put (ws' := [(a 6, ob 3 [.ref (a 0), iv (pH Y), iv (pA X), iv (pS X)]), (a 0, ob 1 [.ref (a 1), .ref (a 2), .ref (a 3), .ref (a 4), .ref (a 5), iv (gN (pX Y)), iv (gW (pX Y))]), (a 1, ia T.2.1 100 (gK (pX Y))), (a 2, ia T.2.1 100 (gL (pX Y))), (a 3, ia T.2.2.1 100 (gM (pX Y))), (a 4, ia T.2.1 3 (gS (pX Y))), (a 5, ia T.2.1 3 (gC (pX Y))), (b 6, ob 3 [.ref (b 0), iv (pH Y), iv (pA Y), iv (pS Y)]), (b 0, ob 1 [.ref (b 1), .ref (b 2), .ref (b 3), .ref (b 4), .ref (b 5), iv (gN (pX Y)), iv (gW (pX Y))]), (b 1, ia T.2.1 100 (gK (pX Y))), (b 2, ia T.2.1 100 (gL (pX Y))), (b 3, ia T.2.2.1 100 (gM (pX Y))), (b 4, ia T.2.1 3 (gS (pX Y))), (b 5, ia T.2.1 3 (gC (pX Y)))]) (C := RX3) (TT0 := TX3) (N := 4) hM 3 0 1 (fun _ h => List.mem_cons_of_mem _ (List.mem_append_left _ (List.mem_append_right _ h))) tyX3 tyX3_ok nmX3 rfl rfl (by decide) (List.mem_of_getElem? (i := 2) rfl) rfl rfl rfl (Nat.le_of_ble_eq_true rfl) rfl dX3_copyFrom_21 ?_
  refine xr_aload_n hM 0 dX3_copyFrom_24 rfl rfl ?_
  refine xr_aload_n hM 1 dX3_copyFrom_25 rfl rfl ?_
  refine xr_get (C := RX3) (TT0 := TX3) (N := 4) hM 3 7 2 (fun _ h => List.mem_cons_of_mem _ (List.mem_append_left _ (List.mem_append_right _ h))) rfl rfl (by decide) (List.mem_of_getElem? (i := 3) rfl) rfl rfl dX3_copyFrom_26 ?_
  refine xr_put (ws' := [(a 6, ob 3 [.ref (a 0), iv (pH Y), iv (pA Y), iv (pS X)]), (a 0, ob 1 [.ref (a 1), .ref (a 2), .ref (a 3), .ref (a 4), .ref (a 5), iv (gN (pX Y)), iv (gW (pX Y))]), (a 1, ia T.2.1 100 (gK (pX Y))), (a 2, ia T.2.1 100 (gL (pX Y))), (a 3, ia T.2.2.1 100 (gM (pX Y))), (a 4, ia T.2.1 3 (gS (pX Y))), (a 5, ia T.2.1 3 (gC (pX Y))), (b 6, ob 3 [.ref (b 0), iv (pH Y), iv (pA Y), iv (pS Y)]), (b 0, ob 1 [.ref (b 1), .ref (b 2), .ref (b 3), .ref (b 4), .ref (b 5), iv (gN (pX Y)), iv (gW (pX Y))]), (b 1, ia T.2.1 100 (gK (pX Y))), (b 2, ia T.2.1 100 (gL (pX Y))), (b 3, ia T.2.2.1 100 (gM (pX Y))), (b 4, ia T.2.1 3 (gS (pX Y))), (b 5, ia T.2.1 3 (gC (pX Y)))]) (C := RX3) (TT0 := TX3) (N := 4) hM 3 0 2 (fun _ h => List.mem_cons_of_mem _ (List.mem_append_left _ (List.mem_append_right _ h))) tyX3 tyX3_ok nmX3 rfl rfl (by decide) (List.mem_of_getElem? (i := 3) rfl) rfl rfl rfl (Nat.le_of_ble_eq_true rfl) rfl dX3_copyFrom_29 ?_
  refine xr_aload_n hM 0 dX3_copyFrom_32 rfl rfl ?_
  refine xr_aload_n hM 1 dX3_copyFrom_33 rfl rfl ?_
  refine xr_get (C := RX3) (TT0 := TX3) (N := 4) hM 3 7 3 (fun _ h => List.mem_cons_of_mem _ (List.mem_append_left _ (List.mem_append_right _ h))) rfl rfl (by decide) (List.mem_of_getElem? (i := 4) rfl) rfl rfl dX3_copyFrom_34 ?_
  refine xr_put (ws' := [(a 6, ob 3 [.ref (a 0), iv (pH Y), iv (pA Y), iv (pS Y)]), (a 0, ob 1 [.ref (a 1), .ref (a 2), .ref (a 3), .ref (a 4), .ref (a 5), iv (gN (pX Y)), iv (gW (pX Y))]), (a 1, ia T.2.1 100 (gK (pX Y))), (a 2, ia T.2.1 100 (gL (pX Y))), (a 3, ia T.2.2.1 100 (gM (pX Y))), (a 4, ia T.2.1 3 (gS (pX Y))), (a 5, ia T.2.1 3 (gC (pX Y))), (b 6, ob 3 [.ref (b 0), iv (pH Y), iv (pA Y), iv (pS Y)]), (b 0, ob 1 [.ref (b 1), .ref (b 2), .ref (b 3), .ref (b 4), .ref (b 5), iv (gN (pX Y)), iv (gW (pX Y))]), (b 1, ia T.2.1 100 (gK (pX Y))), (b 2, ia T.2.1 100 (gL (pX Y))), (b 3, ia T.2.2.1 100 (gM (pX Y))), (b 4, ia T.2.1 3 (gS (pX Y))), (b 5, ia T.2.1 3 (gC (pX Y)))]) (C := RX3) (TT0 := TX3) (N := 4) hM 3 0 3 (fun _ h => List.mem_cons_of_mem _ (List.mem_append_left _ (List.mem_append_right _ h))) tyX3 tyX3_ok nmX3 rfl rfl (by decide) (List.mem_of_getElem? (i := 4) rfl) rfl rfl rfl (Nat.le_of_ble_eq_true rfl) rfl dX3_copyFrom_37 ?_
  exact xr_vret hF dX3_copyFrom_40 rfl

theorem lp_X3_descend {T : TT} {M : MB} (a : Nat → Nat) (N : Int) (R : WnS) (hM : FM T M cX3_descend RX3 1 wsX3_descend rm_X3_descend) (hF : FinV T M cX3_descend 1 (winE T a R)) : ∀ (f : Nat) (Y : WnS), DI N 0 400000 Y → (N - pA Y).toNat ≤ f → itL dsC dsS f Y = R → VV T M 1 [(0, .ref (a 6))] (winE T a Y) 0 0 11 [] := by
  intro f
  induction f with
  | zero =>
    intro Y hD hm hR
    exfalso
    have := hD.2.2.1
    omega
  | succ f ih =>
    intro Y hD hm hR
    obtain ⟨h1, h2, h3, h4, h5⟩ := id hD
    have hn1 := h1.1
    refine xr_aload_n hM 0 dX3_descend_11 rfl rfl ?_
    refine xr_get (C := RX3) (TT0 := TX3) (N := 4) hM 3 0 2 (fun _ h => List.mem_cons_of_mem _ (List.mem_append_left _ (List.mem_append_right _ h))) rfl rfl (by decide) (List.mem_of_getElem? (i := 2) rfl) rfl rfl dX3_descend_12 ?_
    refine xr_iconst hM dX3_descend_15 ?_
    refine xr_iadd hM dX3_descend_16 ?_
    refine xr_aload_n hM 0 dX3_descend_17 rfl rfl ?_
    refine xr_get (C := RX3) (TT0 := TX3) (N := 4) hM 3 0 0 (fun _ h => List.mem_cons_of_mem _ (List.mem_append_left _ (List.mem_append_right _ h))) rfl rfl (by decide) (List.mem_of_getElem? (i := 1) rfl) rfl rfl dX3_descend_18 ?_
    refine xr_get (C := RX1) (TT0 := TX1) (N := 7) hM 1 1 5 (fun _ h => List.mem_cons_of_mem _ (List.mem_append_right _ h)) rfl rfl (by decide) (List.mem_of_getElem? (i := 3) rfl) rfl rfl dX3_descend_21 ?_
    refine xr_icmp_ge hM 89 dX3_descend_24 (by decide) (by omega) (fun c24 => ?_) (fun c24 => ?_)
    · exact xr_vret hF dX3_descend_89 (congrArg (winE T a) (itL_f hR (fun q => by have q2 := of_decide_eq_true q; omega)))
    · refine xr_aload_n hM 0 dX3_descend_27 rfl rfl ?_
      refine xr_get (C := RX3) (TT0 := TX3) (N := 4) hM 3 0 3 (fun _ h => List.mem_cons_of_mem _ (List.mem_append_left _ (List.mem_append_right _ h))) rfl rfl (by decide) (List.mem_of_getElem? (i := 4) rfl) rfl rfl dX3_descend_28 ?_
      refine xr_aload_n hM 0 dX3_descend_31 rfl rfl ?_
      refine xr_get (C := RX3) (TT0 := TX3) (N := 4) hM 3 0 0 (fun _ h => List.mem_cons_of_mem _ (List.mem_append_left _ (List.mem_append_right _ h))) rfl rfl (by decide) (List.mem_of_getElem? (i := 1) rfl) rfl rfl dX3_descend_32 ?_
      refine xr_aload_n hM 0 dX3_descend_35 rfl rfl ?_
      refine xr_get (C := RX3) (TT0 := TX3) (N := 4) hM 3 0 2 (fun _ h => List.mem_cons_of_mem _ (List.mem_append_left _ (List.mem_append_right _ h))) rfl rfl (by decide) (List.mem_of_getElem? (i := 2) rfl) rfl rfl dX3_descend_36 ?_
      refine xr_callVr (rest := [iv (pS Y)]) (As := [iv (pA Y)]) (st' := [iv (htF (pX Y) (pA Y).toNat), iv (pS Y)]) hM (ct_X1_heightOf M.2.1 T a (pX Y) (pA Y) h1 (by omega)) gX3_descend_X1_heightOf rfl ⟨rfl, rfl⟩ hy_X1_heightOf rfl ⟨by decide, by decide⟩ [1, 2, 3, 4, 5, 6] rfl rfl 0 1 rfl rfl rfl rfl rfl (Nat.le_of_ble_eq_true rfl) ⟨by decide, by decide⟩ dX3_descend_39 ?_
      have hf39 := htF_b h1 (pA Y).toNat
      refine xr_icmp_lt hM 89 dX3_descend_42 (by decide) (by omega) (fun c42 => ?_) (fun c42 => ?_)
      · exact xr_vret hF dX3_descend_89 (congrArg (winE T a) (itL_f hR (fun q => by have q2 := of_decide_eq_true q; omega)))
      · refine xr_aload_n hM 0 dX3_descend_45 rfl rfl ?_
        refine xr_dup hM dX3_descend_46 rfl ?_
        refine xr_get (C := RX3) (TT0 := TX3) (N := 4) hM 3 0 3 (fun _ h => List.mem_cons_of_mem _ (List.mem_append_left _ (List.mem_append_right _ h))) rfl rfl (by decide) (List.mem_of_getElem? (i := 4) rfl) rfl rfl dX3_descend_47 ?_
        refine xr_aload_n hM 0 dX3_descend_50 rfl rfl ?_
        refine xr_get (C := RX3) (TT0 := TX3) (N := 4) hM 3 0 0 (fun _ h => List.mem_cons_of_mem _ (List.mem_append_left _ (List.mem_append_right _ h))) rfl rfl (by decide) (List.mem_of_getElem? (i := 1) rfl) rfl rfl dX3_descend_51 ?_
        refine xr_aload_n hM 0 dX3_descend_54 rfl rfl ?_
        refine xr_get (C := RX3) (TT0 := TX3) (N := 4) hM 3 0 2 (fun _ h => List.mem_cons_of_mem _ (List.mem_append_left _ (List.mem_append_right _ h))) rfl rfl (by decide) (List.mem_of_getElem? (i := 2) rfl) rfl rfl dX3_descend_55 ?_
        refine xr_callVr (rest := [iv (pS Y), .ref (a 6)]) (As := [iv (pA Y)]) (st' := [iv (htF (pX Y) (pA Y).toNat), iv (pS Y), .ref (a 6)]) hM (ct_X1_heightOf M.2.1 T a (pX Y) (pA Y) h1 (by omega)) gX3_descend_X1_heightOf rfl ⟨rfl, rfl⟩ hy_X1_heightOf rfl ⟨by decide, by decide⟩ [1, 2, 3, 4, 5, 6] rfl rfl 0 1 rfl rfl rfl rfl rfl (Nat.le_of_ble_eq_true rfl) ⟨by decide, by decide⟩ dX3_descend_58 ?_
        have hf58 := htF_b h1 (pA Y).toNat
        refine xr_isub hM dX3_descend_61 ?_
        refine xr_put (ws' := [(a 6, ob 3 [.ref (a 0), iv (pH Y), iv (pA Y), iv ((pS Y) - (htF (pX Y) (pA Y).toNat))]), (a 0, ob 1 [.ref (a 1), .ref (a 2), .ref (a 3), .ref (a 4), .ref (a 5), iv (gN (pX Y)), iv (gW (pX Y))]), (a 1, ia T.2.1 100 (gK (pX Y))), (a 2, ia T.2.1 100 (gL (pX Y))), (a 3, ia T.2.2.1 100 (gM (pX Y))), (a 4, ia T.2.1 3 (gS (pX Y))), (a 5, ia T.2.1 3 (gC (pX Y)))]) (C := RX3) (TT0 := TX3) (N := 4) hM 3 0 3 (fun _ h => List.mem_cons_of_mem _ (List.mem_append_left _ (List.mem_append_right _ h))) tyX3 tyX3_ok nmX3 rfl rfl (by decide) (List.mem_of_getElem? (i := 4) rfl) rfl rfl rfl (Nat.le_of_ble_eq_true rfl) rfl dX3_descend_62 ?_
        refine xr_aload_n hM 0 dX3_descend_65 rfl rfl ?_
        refine xr_dup hM dX3_descend_66 rfl ?_
        refine xr_get (C := RX3) (TT0 := TX3) (N := 4) hM 3 0 2 (fun _ h => List.mem_cons_of_mem _ (List.mem_append_left _ (List.mem_append_right _ h))) rfl rfl (by decide) (List.mem_of_getElem? (i := 2) rfl) rfl rfl dX3_descend_67 ?_
        refine xr_iconst hM dX3_descend_70 ?_
        refine xr_iadd hM dX3_descend_71 ?_
        refine xr_put (ws' := [(a 6, ob 3 [.ref (a 0), iv (pH Y), iv ((pA Y) + 1), iv ((pS Y) - (htF (pX Y) (pA Y).toNat))]), (a 0, ob 1 [.ref (a 1), .ref (a 2), .ref (a 3), .ref (a 4), .ref (a 5), iv (gN (pX Y)), iv (gW (pX Y))]), (a 1, ia T.2.1 100 (gK (pX Y))), (a 2, ia T.2.1 100 (gL (pX Y))), (a 3, ia T.2.2.1 100 (gM (pX Y))), (a 4, ia T.2.1 3 (gS (pX Y))), (a 5, ia T.2.1 3 (gC (pX Y)))]) (C := RX3) (TT0 := TX3) (N := 4) hM 3 0 2 (fun _ h => List.mem_cons_of_mem _ (List.mem_append_left _ (List.mem_append_right _ h))) tyX3 tyX3_ok nmX3 rfl rfl (by decide) (List.mem_of_getElem? (i := 2) rfl) rfl rfl rfl (Nat.le_of_ble_eq_true rfl) rfl dX3_descend_72 ?_
        refine xr_aload_n hM 0 dX3_descend_75 rfl rfl ?_
        refine xr_get (C := RX3) (TT0 := TX3) (N := 4) hM 3 0 0 (fun _ h => List.mem_cons_of_mem _ (List.mem_append_left _ (List.mem_append_right _ h))) rfl rfl (by decide) (List.mem_of_getElem? (i := 1) rfl) rfl rfl dX3_descend_76 ?_
        refine xr_aload_n hM 0 dX3_descend_79 rfl rfl ?_
        refine xr_get (C := RX3) (TT0 := TX3) (N := 4) hM 3 0 2 (fun _ h => List.mem_cons_of_mem _ (List.mem_append_left _ (List.mem_append_right _ h))) rfl rfl (by decide) (List.mem_of_getElem? (i := 2) rfl) rfl rfl dX3_descend_80 ?_
        refine xr_callV (ws' := [(a 6, ob 3 [.ref (a 0), iv (pH Y), iv ((pA Y) + 1), iv ((pS Y) - (htF (pX Y) (pA Y).toNat))]), (a 0, ob 1 [.ref (a 1), .ref (a 2), .ref (a 3), .ref (a 4), .ref (a 5), iv (gN (meF (pX Y) ((pA Y) + 1).toNat)), iv (gW (meF (pX Y) ((pA Y) + 1).toNat))]), (a 1, ia T.2.1 100 (gK (meF (pX Y) ((pA Y) + 1).toNat))), (a 2, ia T.2.1 100 (gL (meF (pX Y) ((pA Y) + 1).toNat))), (a 3, ia T.2.2.1 100 (gM (meF (pX Y) ((pA Y) + 1).toNat))), (a 4, ia T.2.1 3 (gS (meF (pX Y) ((pA Y) + 1).toNat))), (a 5, ia T.2.1 3 (gC (meF (pX Y) ((pA Y) + 1).toNat)))]) (rest := []) (As := [iv ((pA Y) + 1)]) (st' := []) hM (ct_X1_measure M.2.1 T a (pX Y) ((pA Y) + 1) h1 (by omega)) gX3_descend_X1_measure rfl ⟨rfl, rfl⟩ hy_X1_measure rfl ⟨by decide, by decide⟩ [1, 2, 3, 4, 5, 6] rfl rfl rfl 0 1 rfl rfl rfl rfl rfl (Nat.le_of_ble_eq_true rfl) ⟨by decide, by decide⟩ rfl dX3_descend_83 ?_
        have hf83 := meF_N (pX Y) ((pA Y) + 1).toNat
        have hf83_1 := meF_W (pX Y) ((pA Y) + 1).toNat
        have hw83 := (WFL_me h1 (by omega) : WFL (meF (pX Y) ((pA Y) + 1).toNat))
        refine xr_goto hM 11 dX3_descend_86 (by decide) ?_
        have hcd : dsC Y = true := decide_eq_true ⟨by omega, by omega⟩
        exact ih (dsS Y) (DI_ds hD hcd).1 (by have := (DI_ds hD hcd).2; omega) (itL_t hR hcd)

theorem ct_X3_descend (l : Launch) (T : TT) (a : Nat → Nat) (X : WnS) (hX : DI (gN (pX X)) 0 400000 X) : CT l yX3_descend wsX3_descend rm_X3_descend T [.ref (a 6)] (winE T a X) none (winE T a (dsF X)) := by
  refine CT.V (maxL := 1) (lv0 := [(0, .ref (a 6))]) hp_X3_descend rfl (Nat.le_of_ble_eq_true rfl) rfl (fun M hM hF => ?_)
  have hA := hX.2.2.1
  refine xr_aload_n hM 0 dX3_descend_0 rfl rfl ?_
  refine xr_get (C := RX3) (TT0 := TX3) (N := 4) hM 3 0 0 (fun _ h => List.mem_cons_of_mem _ (List.mem_append_left _ (List.mem_append_right _ h))) rfl rfl (by decide) (List.mem_of_getElem? (i := 1) rfl) rfl rfl dX3_descend_1 ?_
  refine xr_aload_n hM 0 dX3_descend_4 rfl rfl ?_
  refine xr_get (C := RX3) (TT0 := TX3) (N := 4) hM 3 0 2 (fun _ h => List.mem_cons_of_mem _ (List.mem_append_left _ (List.mem_append_right _ h))) rfl rfl (by decide) (List.mem_of_getElem? (i := 2) rfl) rfl rfl dX3_descend_5 ?_
  refine xr_callV (ws' := [(a 6, ob 3 [.ref (a 0), iv (pH X), iv (pA X), iv (pS X)]), (a 0, ob 1 [.ref (a 1), .ref (a 2), .ref (a 3), .ref (a 4), .ref (a 5), iv (gN (meF (pX X) (pA X).toNat)), iv (gW (meF (pX X) (pA X).toNat))]), (a 1, ia T.2.1 100 (gK (meF (pX X) (pA X).toNat))), (a 2, ia T.2.1 100 (gL (meF (pX X) (pA X).toNat))), (a 3, ia T.2.2.1 100 (gM (meF (pX X) (pA X).toNat))), (a 4, ia T.2.1 3 (gS (meF (pX X) (pA X).toNat))), (a 5, ia T.2.1 3 (gC (meF (pX X) (pA X).toNat)))]) (rest := []) (As := [iv (pA X)]) (st' := []) hM (ct_X1_measure M.2.1 T a (pX X) (pA X) hX.1 (by omega)) gX3_descend_X1_measure rfl ⟨rfl, rfl⟩ hy_X1_measure rfl ⟨by decide, by decide⟩ [1, 2, 3, 4, 5, 6] rfl rfl rfl 0 1 rfl rfl rfl rfl rfl (Nat.le_of_ble_eq_true rfl) ⟨by decide, by decide⟩ rfl dX3_descend_8 ?_
  have hf8 := meF_N (pX X) (pA X).toNat
  have hf8_1 := meF_W (pX X) (pA X).toNat
  have hw8 := (WFL_me hX.1 (by omega) : WFL (meF (pX X) (pA X).toNat))
  have h0 : DI (gN (pX X)) 0 400000 (ds0 X) := ⟨hw8, hf8, hX.2.2⟩
  exact lp_X3_descend a (gN (pX X)) (dsF X) hM hF _ (ds0 X) h0 (Nat.le_refl _) rfl

theorem lp_X3_climb {T : TT} {M : MB} (a : Nat → Nat) (N : Int) (R : WnS) (hM : FM T M cX3_climb RX3 1 wsX3_climb rm_X3_climb) (hF : FinV T M cX3_climb 1 (winE T a (pX R, pH R, pA R, max 0 (pS R)))) : ∀ (f : Nat) (Y : WnS), DI N (-600000) 400000 Y → (pA Y).toNat ≤ f → itL clC clS f Y = R → VV T M 1 [(0, .ref (a 6))] (winE T a Y) 0 0 0 [] := by
  intro f
  induction f with
  | zero =>
    intro Y hD hm hR
    obtain ⟨h1, h2, h3, h4, h5⟩ := id hD
    have hn1 := h1.1
    refine xr_aload_n hM 0 dX3_climb_0 rfl rfl ?_
    refine xr_get (C := RX3) (TT0 := TX3) (N := 4) hM 3 0 2 (fun _ h => List.mem_cons_of_mem _ (List.mem_append_left _ (List.mem_append_right _ h))) rfl rfl (by decide) (List.mem_of_getElem? (i := 1) rfl) rfl rfl dX3_climb_1 ?_
    refine xr_if_le hM 58 dX3_climb_4 (by decide) (by omega) (fun c4 => ?_) (fun c4 => by exfalso; omega)
    refine xr_aload_n hM 0 dX3_climb_58 rfl rfl ?_
    refine xr_iconst hM dX3_climb_59 ?_
    refine xr_aload_n hM 0 dX3_climb_60 rfl rfl ?_
    refine xr_get (C := RX3) (TT0 := TX3) (N := 4) hM 3 0 3 (fun _ h => List.mem_cons_of_mem _ (List.mem_append_left _ (List.mem_append_right _ h))) rfl rfl (by decide) (List.mem_of_getElem? (i := 2) rfl) rfl rfl dX3_climb_61 ?_
    refine xr_mmax hM (List.mem_of_getElem? (i := 4) rfl) (List.mem_of_getElem? (i := 5) rfl) (List.mem_of_getElem? (i := 6) rfl) (List.mem_of_getElem? (i := 7) rfl) (by omega) (by decide) (Nat.le_of_ble_eq_true rfl) (by decide) (by decide) dX3_climb_64 ?_
    refine xr_put (ws' := [(a 6, ob 3 [.ref (a 0), iv (pH Y), iv (pA Y), iv (max 0 (pS Y))]), (a 0, ob 1 [.ref (a 1), .ref (a 2), .ref (a 3), .ref (a 4), .ref (a 5), iv (gN (pX Y)), iv (gW (pX Y))]), (a 1, ia T.2.1 100 (gK (pX Y))), (a 2, ia T.2.1 100 (gL (pX Y))), (a 3, ia T.2.2.1 100 (gM (pX Y))), (a 4, ia T.2.1 3 (gS (pX Y))), (a 5, ia T.2.1 3 (gC (pX Y)))]) (C := RX3) (TT0 := TX3) (N := 4) hM 3 0 3 (fun _ h => List.mem_cons_of_mem _ (List.mem_append_left _ (List.mem_append_right _ h))) tyX3 tyX3_ok nmX3 rfl rfl (by decide) (List.mem_of_getElem? (i := 2) rfl) rfl rfl rfl (Nat.le_of_ble_eq_true rfl) rfl dX3_climb_67 ?_
    obtain rfl := itL_f hR (fun q => by have q2 := of_decide_eq_true q; omega)
    exact xr_vret hF dX3_climb_70 rfl
  | succ f ih =>
    intro Y hD hm hR
    obtain ⟨h1, h2, h3, h4, h5⟩ := id hD
    have hn1 := h1.1
    refine xr_aload_n hM 0 dX3_climb_0 rfl rfl ?_
    refine xr_get (C := RX3) (TT0 := TX3) (N := 4) hM 3 0 2 (fun _ h => List.mem_cons_of_mem _ (List.mem_append_left _ (List.mem_append_right _ h))) rfl rfl (by decide) (List.mem_of_getElem? (i := 1) rfl) rfl rfl dX3_climb_1 ?_
    refine xr_if_le hM 58 dX3_climb_4 (by decide) (by omega) (fun c4 => ?_) (fun c4 => ?_)
    · refine xr_aload_n hM 0 dX3_climb_58 rfl rfl ?_
      refine xr_iconst hM dX3_climb_59 ?_
      refine xr_aload_n hM 0 dX3_climb_60 rfl rfl ?_
      refine xr_get (C := RX3) (TT0 := TX3) (N := 4) hM 3 0 3 (fun _ h => List.mem_cons_of_mem _ (List.mem_append_left _ (List.mem_append_right _ h))) rfl rfl (by decide) (List.mem_of_getElem? (i := 2) rfl) rfl rfl dX3_climb_61 ?_
      refine xr_mmax hM (List.mem_of_getElem? (i := 4) rfl) (List.mem_of_getElem? (i := 5) rfl) (List.mem_of_getElem? (i := 6) rfl) (List.mem_of_getElem? (i := 7) rfl) (by omega) (by decide) (Nat.le_of_ble_eq_true rfl) (by decide) (by decide) dX3_climb_64 ?_
      refine xr_put (ws' := [(a 6, ob 3 [.ref (a 0), iv (pH Y), iv (pA Y), iv (max 0 (pS Y))]), (a 0, ob 1 [.ref (a 1), .ref (a 2), .ref (a 3), .ref (a 4), .ref (a 5), iv (gN (pX Y)), iv (gW (pX Y))]), (a 1, ia T.2.1 100 (gK (pX Y))), (a 2, ia T.2.1 100 (gL (pX Y))), (a 3, ia T.2.2.1 100 (gM (pX Y))), (a 4, ia T.2.1 3 (gS (pX Y))), (a 5, ia T.2.1 3 (gC (pX Y)))]) (C := RX3) (TT0 := TX3) (N := 4) hM 3 0 3 (fun _ h => List.mem_cons_of_mem _ (List.mem_append_left _ (List.mem_append_right _ h))) tyX3 tyX3_ok nmX3 rfl rfl (by decide) (List.mem_of_getElem? (i := 2) rfl) rfl rfl rfl (Nat.le_of_ble_eq_true rfl) rfl dX3_climb_67 ?_
      obtain rfl := itL_f hR (fun q => by have q2 := of_decide_eq_true q; omega)
      exact xr_vret hF dX3_climb_70 rfl
    · refine xr_aload_n hM 0 dX3_climb_7 rfl rfl ?_
      refine xr_get (C := RX3) (TT0 := TX3) (N := 4) hM 3 0 3 (fun _ h => List.mem_cons_of_mem _ (List.mem_append_left _ (List.mem_append_right _ h))) rfl rfl (by decide) (List.mem_of_getElem? (i := 2) rfl) rfl rfl dX3_climb_8 ?_
      refine xr_if_ge hM 58 dX3_climb_11 (by decide) (by omega) (fun c11 => ?_) (fun c11 => ?_)
      · refine xr_aload_n hM 0 dX3_climb_58 rfl rfl ?_
        refine xr_iconst hM dX3_climb_59 ?_
        refine xr_aload_n hM 0 dX3_climb_60 rfl rfl ?_
        refine xr_get (C := RX3) (TT0 := TX3) (N := 4) hM 3 0 3 (fun _ h => List.mem_cons_of_mem _ (List.mem_append_left _ (List.mem_append_right _ h))) rfl rfl (by decide) (List.mem_of_getElem? (i := 2) rfl) rfl rfl dX3_climb_61 ?_
        refine xr_mmax hM (List.mem_of_getElem? (i := 4) rfl) (List.mem_of_getElem? (i := 5) rfl) (List.mem_of_getElem? (i := 6) rfl) (List.mem_of_getElem? (i := 7) rfl) (by omega) (by decide) (Nat.le_of_ble_eq_true rfl) (by decide) (by decide) dX3_climb_64 ?_
        refine xr_put (ws' := [(a 6, ob 3 [.ref (a 0), iv (pH Y), iv (pA Y), iv (max 0 (pS Y))]), (a 0, ob 1 [.ref (a 1), .ref (a 2), .ref (a 3), .ref (a 4), .ref (a 5), iv (gN (pX Y)), iv (gW (pX Y))]), (a 1, ia T.2.1 100 (gK (pX Y))), (a 2, ia T.2.1 100 (gL (pX Y))), (a 3, ia T.2.2.1 100 (gM (pX Y))), (a 4, ia T.2.1 3 (gS (pX Y))), (a 5, ia T.2.1 3 (gC (pX Y)))]) (C := RX3) (TT0 := TX3) (N := 4) hM 3 0 3 (fun _ h => List.mem_cons_of_mem _ (List.mem_append_left _ (List.mem_append_right _ h))) tyX3 tyX3_ok nmX3 rfl rfl (by decide) (List.mem_of_getElem? (i := 2) rfl) rfl rfl rfl (Nat.le_of_ble_eq_true rfl) rfl dX3_climb_67 ?_
        obtain rfl := itL_f hR (fun q => by have q2 := of_decide_eq_true q; omega)
        exact xr_vret hF dX3_climb_70 rfl
      · refine xr_aload_n hM 0 dX3_climb_14 rfl rfl ?_
        refine xr_dup hM dX3_climb_15 rfl ?_
        refine xr_get (C := RX3) (TT0 := TX3) (N := 4) hM 3 0 2 (fun _ h => List.mem_cons_of_mem _ (List.mem_append_left _ (List.mem_append_right _ h))) rfl rfl (by decide) (List.mem_of_getElem? (i := 1) rfl) rfl rfl dX3_climb_16 ?_
        refine xr_iconst hM dX3_climb_19 ?_
        refine xr_isub hM dX3_climb_20 ?_
        refine xr_put (ws' := [(a 6, ob 3 [.ref (a 0), iv (pH Y), iv ((pA Y) - 1), iv (pS Y)]), (a 0, ob 1 [.ref (a 1), .ref (a 2), .ref (a 3), .ref (a 4), .ref (a 5), iv (gN (pX Y)), iv (gW (pX Y))]), (a 1, ia T.2.1 100 (gK (pX Y))), (a 2, ia T.2.1 100 (gL (pX Y))), (a 3, ia T.2.2.1 100 (gM (pX Y))), (a 4, ia T.2.1 3 (gS (pX Y))), (a 5, ia T.2.1 3 (gC (pX Y)))]) (C := RX3) (TT0 := TX3) (N := 4) hM 3 0 2 (fun _ h => List.mem_cons_of_mem _ (List.mem_append_left _ (List.mem_append_right _ h))) tyX3 tyX3_ok nmX3 rfl rfl (by decide) (List.mem_of_getElem? (i := 1) rfl) rfl rfl rfl (Nat.le_of_ble_eq_true rfl) rfl dX3_climb_21 ?_
        refine xr_aload_n hM 0 dX3_climb_24 rfl rfl ?_
        refine xr_get (C := RX3) (TT0 := TX3) (N := 4) hM 3 0 0 (fun _ h => List.mem_cons_of_mem _ (List.mem_append_left _ (List.mem_append_right _ h))) rfl rfl (by decide) (List.mem_of_getElem? (i := 3) rfl) rfl rfl dX3_climb_25 ?_
        refine xr_aload_n hM 0 dX3_climb_28 rfl rfl ?_
        refine xr_get (C := RX3) (TT0 := TX3) (N := 4) hM 3 0 2 (fun _ h => List.mem_cons_of_mem _ (List.mem_append_left _ (List.mem_append_right _ h))) rfl rfl (by decide) (List.mem_of_getElem? (i := 1) rfl) rfl rfl dX3_climb_29 ?_
        refine xr_callV (ws' := [(a 6, ob 3 [.ref (a 0), iv (pH Y), iv ((pA Y) - 1), iv (pS Y)]), (a 0, ob 1 [.ref (a 1), .ref (a 2), .ref (a 3), .ref (a 4), .ref (a 5), iv (gN (meF (pX Y) ((pA Y) - 1).toNat)), iv (gW (meF (pX Y) ((pA Y) - 1).toNat))]), (a 1, ia T.2.1 100 (gK (meF (pX Y) ((pA Y) - 1).toNat))), (a 2, ia T.2.1 100 (gL (meF (pX Y) ((pA Y) - 1).toNat))), (a 3, ia T.2.2.1 100 (gM (meF (pX Y) ((pA Y) - 1).toNat))), (a 4, ia T.2.1 3 (gS (meF (pX Y) ((pA Y) - 1).toNat))), (a 5, ia T.2.1 3 (gC (meF (pX Y) ((pA Y) - 1).toNat)))]) (rest := []) (As := [iv ((pA Y) - 1)]) (st' := []) hM (ct_X1_measure M.2.1 T a (pX Y) ((pA Y) - 1) h1 (by omega)) gX3_climb_X1_measure rfl ⟨rfl, rfl⟩ hy_X1_measure rfl ⟨by decide, by decide⟩ [1, 2, 3, 4, 5, 6] rfl rfl rfl 0 1 rfl rfl rfl rfl rfl (Nat.le_of_ble_eq_true rfl) ⟨by decide, by decide⟩ rfl dX3_climb_32 ?_
        have hf32 := meF_N (pX Y) ((pA Y) - 1).toNat
        have hf32_1 := meF_W (pX Y) ((pA Y) - 1).toNat
        have hw32 := (WFL_me h1 (by omega) : WFL (meF (pX Y) ((pA Y) - 1).toNat))
        refine xr_aload_n hM 0 dX3_climb_35 rfl rfl ?_
        refine xr_dup hM dX3_climb_36 rfl ?_
        refine xr_get (C := RX3) (TT0 := TX3) (N := 4) hM 3 0 3 (fun _ h => List.mem_cons_of_mem _ (List.mem_append_left _ (List.mem_append_right _ h))) rfl rfl (by decide) (List.mem_of_getElem? (i := 2) rfl) rfl rfl dX3_climb_37 ?_
        refine xr_aload_n hM 0 dX3_climb_40 rfl rfl ?_
        refine xr_get (C := RX3) (TT0 := TX3) (N := 4) hM 3 0 0 (fun _ h => List.mem_cons_of_mem _ (List.mem_append_left _ (List.mem_append_right _ h))) rfl rfl (by decide) (List.mem_of_getElem? (i := 3) rfl) rfl rfl dX3_climb_41 ?_
        refine xr_aload_n hM 0 dX3_climb_44 rfl rfl ?_
        refine xr_get (C := RX3) (TT0 := TX3) (N := 4) hM 3 0 2 (fun _ h => List.mem_cons_of_mem _ (List.mem_append_left _ (List.mem_append_right _ h))) rfl rfl (by decide) (List.mem_of_getElem? (i := 1) rfl) rfl rfl dX3_climb_45 ?_
        refine xr_callVr (rest := [iv (pS Y), .ref (a 6)]) (As := [iv ((pA Y) - 1)]) (st' := [iv (htF (meF (pX Y) ((pA Y) - 1).toNat) ((pA Y) - 1).toNat), iv (pS Y), .ref (a 6)]) hM (ct_X1_heightOf M.2.1 T a (meF (pX Y) ((pA Y) - 1).toNat) ((pA Y) - 1) hw32 (by omega)) gX3_climb_X1_heightOf rfl ⟨rfl, rfl⟩ hy_X1_heightOf rfl ⟨by decide, by decide⟩ [1, 2, 3, 4, 5, 6] rfl rfl 0 1 rfl rfl rfl rfl rfl (Nat.le_of_ble_eq_true rfl) ⟨by decide, by decide⟩ dX3_climb_48 ?_
        have hf48 := htF_b hw32 ((pA Y) - 1).toNat
        refine xr_iadd hM dX3_climb_51 ?_
        refine xr_put (ws' := [(a 6, ob 3 [.ref (a 0), iv (pH Y), iv ((pA Y) - 1), iv ((pS Y) + (htF (meF (pX Y) ((pA Y) - 1).toNat) ((pA Y) - 1).toNat))]), (a 0, ob 1 [.ref (a 1), .ref (a 2), .ref (a 3), .ref (a 4), .ref (a 5), iv (gN (meF (pX Y) ((pA Y) - 1).toNat)), iv (gW (meF (pX Y) ((pA Y) - 1).toNat))]), (a 1, ia T.2.1 100 (gK (meF (pX Y) ((pA Y) - 1).toNat))), (a 2, ia T.2.1 100 (gL (meF (pX Y) ((pA Y) - 1).toNat))), (a 3, ia T.2.2.1 100 (gM (meF (pX Y) ((pA Y) - 1).toNat))), (a 4, ia T.2.1 3 (gS (meF (pX Y) ((pA Y) - 1).toNat))), (a 5, ia T.2.1 3 (gC (meF (pX Y) ((pA Y) - 1).toNat)))]) (C := RX3) (TT0 := TX3) (N := 4) hM 3 0 3 (fun _ h => List.mem_cons_of_mem _ (List.mem_append_left _ (List.mem_append_right _ h))) tyX3 tyX3_ok nmX3 rfl rfl (by decide) (List.mem_of_getElem? (i := 2) rfl) rfl rfl rfl (Nat.le_of_ble_eq_true rfl) rfl dX3_climb_52 ?_
        refine xr_goto hM 0 dX3_climb_55 (by decide) ?_
        have hcd : clC Y = true := decide_eq_true ⟨by omega, by omega⟩
        exact ih (clS Y) (DI_cl (by omega) hD hcd).1 (by have := (DI_cl (by omega) hD hcd).2; omega) (itL_t hR hcd)

theorem ct_X3_climb (l : Launch) (T : TT) (a : Nat → Nat) (X : WnS) (hX : DI (gN (pX X)) (-600000) 400000 X) : CT l yX3_climb wsX3_climb rm_X3_climb T [.ref (a 6)] (winE T a X) none (winE T a (clF X)) := by
  refine CT.V (maxL := 1) (lv0 := [(0, .ref (a 6))]) hp_X3_climb rfl (Nat.le_of_ble_eq_true rfl) rfl (fun M hM hF => ?_)
  exact lp_X3_climb a (gN (pX X)) (clL X) hM hF _ X hX (Nat.le_refl _) rfl

theorem lp_X3_settle {T : TT} {M : MB} (a : Nat → Nat) (N : Int) (Y : WnS) (R : LnS × Int × Int) (hD : DI N 0 400000 Y) (hH : 20 ≤ pH Y ∧ pH Y ≤ 600) (hM : FM T M cX3_settle RX3 4 wsX3_settle rm_X3_settle) (hF : FinV T M cX3_settle 4 (winE T a (enF Y R))) : ∀ (f : Nat) (Z : LnS × Int × Int), FI N Z → (N - Z.2.1).toNat < f → itL (fiC (pS Y + pH Y)) fiS f Z = R → VV T M 4 [(0, .ref (a 6)), (1, iv (pS Y + pH Y)), (2, iv Z.2.1), (3, iv Z.2.2)] [(a 6, ob 3 [.ref (a 0), iv (pH Y), iv (pA Y), iv (pS Y)]), (a 0, ob 1 [.ref (a 1), .ref (a 2), .ref (a 3), .ref (a 4), .ref (a 5), iv (gN (Z.1)), iv (gW (Z.1))]), (a 1, ia T.2.1 100 (gK (Z.1))), (a 2, ia T.2.1 100 (gL (Z.1))), (a 3, ia T.2.2.1 100 (gM (Z.1))), (a 4, ia T.2.1 3 (gS (Z.1))), (a 5, ia T.2.1 3 (gC (Z.1)))] 0 0 44 [] := by
  intro f
  induction f with
  | zero =>
    intro Z hZ hm hR
    omega
  | succ f ih =>
    intro Z hZ hm hR
    obtain ⟨h1, h2, h3, h4, h5⟩ := id hD
    obtain ⟨f1, f2, f3, f4, f5⟩ := id hZ
    have hn1 := f1.1
    refine xr_iload_n hM 2 dX3_settle_44 rfl rfl ?_
    refine xr_aload_n hM 0 dX3_settle_45 rfl rfl ?_
    refine xr_get (C := RX3) (TT0 := TX3) (N := 4) hM 3 0 0 (fun _ h => List.mem_cons_of_mem _ (List.mem_append_left _ (List.mem_append_right _ h))) rfl rfl (by decide) (List.mem_of_getElem? (i := 1) rfl) rfl rfl dX3_settle_46 ?_
    refine xr_get (C := RX1) (TT0 := TX1) (N := 7) hM 1 1 5 (fun _ h => List.mem_cons_of_mem _ (List.mem_append_right _ h)) rfl rfl (by decide) (List.mem_of_getElem? (i := 2) rfl) rfl rfl dX3_settle_49 ?_
    refine xr_icmp_ge hM 85 dX3_settle_52 (by decide) (by omega) (fun c52 => ?_) (fun c52 => ?_)
    · refine xr_iload_n hM 2 dX3_settle_85 rfl rfl ?_
      refine xr_aload_n hM 0 dX3_settle_86 rfl rfl ?_
      refine xr_get (C := RX3) (TT0 := TX3) (N := 4) hM 3 0 0 (fun _ h => List.mem_cons_of_mem _ (List.mem_append_left _ (List.mem_append_right _ h))) rfl rfl (by decide) (List.mem_of_getElem? (i := 1) rfl) rfl rfl dX3_settle_87 ?_
      refine xr_get (C := RX1) (TT0 := TX1) (N := 7) hM 1 1 5 (fun _ h => List.mem_cons_of_mem _ (List.mem_append_right _ h)) rfl rfl (by decide) (List.mem_of_getElem? (i := 2) rfl) rfl rfl dX3_settle_90 ?_
      refine xr_icmp_lt hM 117 dX3_settle_93 (by decide) (by omega) (fun c93 => ?_) (fun c93 => ?_)
      · obtain rfl := itL_f hR (fun q => by have q2 := of_decide_eq_true q; omega)
        exact xr_vret hF dX3_settle_117 (by rw [enF, if_neg (by omega)] <;> rfl)
      · refine xr_iload_n hM 3 dX3_settle_96 rfl rfl ?_
        refine xr_iload_n hM 1 dX3_settle_97 rfl rfl ?_
        refine xr_icmp_ge hM 117 dX3_settle_98 (by decide) (by omega) (fun c98 => ?_) (fun c98 => ?_)
        · obtain rfl := itL_f hR (fun q => by have q2 := of_decide_eq_true q; omega)
          exact xr_vret hF dX3_settle_117 (by rw [enF, if_neg (by omega)] <;> rfl)
        · refine xr_aload_n hM 0 dX3_settle_101 rfl rfl ?_
          refine xr_dup hM dX3_settle_102 rfl ?_
          refine xr_get (C := RX3) (TT0 := TX3) (N := 4) hM 3 0 3 (fun _ h => List.mem_cons_of_mem _ (List.mem_append_left _ (List.mem_append_right _ h))) rfl rfl (by decide) (List.mem_of_getElem? (i := 3) rfl) rfl rfl dX3_settle_103 ?_
          refine xr_iload_n hM 1 dX3_settle_106 rfl rfl ?_
          refine xr_iload_n hM 3 dX3_settle_107 rfl rfl ?_
          refine xr_isub hM dX3_settle_108 ?_
          refine xr_isub hM dX3_settle_109 ?_
          refine xr_put (ws' := [(a 6, ob 3 [.ref (a 0), iv (pH Y), iv (pA Y), iv ((pS Y) - ((pS Y + pH Y) - Z.2.2))]), (a 0, ob 1 [.ref (a 1), .ref (a 2), .ref (a 3), .ref (a 4), .ref (a 5), iv (gN (Z.1)), iv (gW (Z.1))]), (a 1, ia T.2.1 100 (gK (Z.1))), (a 2, ia T.2.1 100 (gL (Z.1))), (a 3, ia T.2.2.1 100 (gM (Z.1))), (a 4, ia T.2.1 3 (gS (Z.1))), (a 5, ia T.2.1 3 (gC (Z.1)))]) (C := RX3) (TT0 := TX3) (N := 4) hM 3 0 3 (fun _ h => List.mem_cons_of_mem _ (List.mem_append_left _ (List.mem_append_right _ h))) tyX3 tyX3_ok nmX3 rfl rfl (by decide) (List.mem_of_getElem? (i := 3) rfl) rfl rfl rfl (Nat.le_of_ble_eq_true rfl) rfl dX3_settle_110 ?_
          have hDc : DI (gN Z.1) (-600000) 400000 (Z.1, pH Y, pA Y, pS Y - (pS Y + pH Y - Z.2.2)) := ⟨f1, rfl, by show 0 ≤ pA Y ∧ pA Y < gN Z.1; omega, (by show -600000 ≤ pS Y - (pS Y + pH Y - Z.2.2); omega), (by show pS Y - (pS Y + pH Y - Z.2.2) ≤ 400000; omega)⟩
          refine xr_aload_n hM 0 dX3_settle_113 rfl rfl ?_
          refine xr_callV (ws' := [(a 6, ob 3 [.ref (a 0), iv (pH (clF (Z.1, pH Y, pA Y, (pS Y) - ((pS Y + pH Y) - Z.2.2)))), iv (pA (clF (Z.1, pH Y, pA Y, (pS Y) - ((pS Y + pH Y) - Z.2.2)))), iv (pS (clF (Z.1, pH Y, pA Y, (pS Y) - ((pS Y + pH Y) - Z.2.2))))]), (a 0, ob 1 [.ref (a 1), .ref (a 2), .ref (a 3), .ref (a 4), .ref (a 5), iv (gN (pX (clF (Z.1, pH Y, pA Y, (pS Y) - ((pS Y + pH Y) - Z.2.2))))), iv (gW (pX (clF (Z.1, pH Y, pA Y, (pS Y) - ((pS Y + pH Y) - Z.2.2)))))]), (a 1, ia T.2.1 100 (gK (pX (clF (Z.1, pH Y, pA Y, (pS Y) - ((pS Y + pH Y) - Z.2.2)))))), (a 2, ia T.2.1 100 (gL (pX (clF (Z.1, pH Y, pA Y, (pS Y) - ((pS Y + pH Y) - Z.2.2)))))), (a 3, ia T.2.2.1 100 (gM (pX (clF (Z.1, pH Y, pA Y, (pS Y) - ((pS Y + pH Y) - Z.2.2)))))), (a 4, ia T.2.1 3 (gS (pX (clF (Z.1, pH Y, pA Y, (pS Y) - ((pS Y + pH Y) - Z.2.2)))))), (a 5, ia T.2.1 3 (gC (pX (clF (Z.1, pH Y, pA Y, (pS Y) - ((pS Y + pH Y) - Z.2.2))))))]) (rest := []) (As := []) (st' := []) hM (ct_X3_climb M.2.1 T a (Z.1, pH Y, pA Y, (pS Y) - ((pS Y + pH Y) - Z.2.2)) hDc) gX3_settle_X3_climb rfl ⟨rfl, rfl⟩ hy_X3_climb rfl ⟨by decide, by decide⟩ [0, 1, 2, 3, 4, 5, 6] rfl rfl rfl 0 3 rfl rfl rfl rfl rfl (Nat.le_of_ble_eq_true rfl) ⟨by decide, by decide⟩ rfl dX3_settle_114 ?_
          obtain rfl := itL_f hR (fun q => by have q2 := of_decide_eq_true q; omega)
          exact xr_vret hF dX3_settle_117 (by rw [enF, if_pos (by omega)] <;> rfl)
    · refine xr_iload_n hM 3 dX3_settle_55 rfl rfl ?_
      refine xr_iload_n hM 1 dX3_settle_56 rfl rfl ?_
      refine xr_icmp_ge hM 85 dX3_settle_57 (by decide) (by omega) (fun c57 => ?_) (fun c57 => ?_)
      · refine xr_iload_n hM 2 dX3_settle_85 rfl rfl ?_
        refine xr_aload_n hM 0 dX3_settle_86 rfl rfl ?_
        refine xr_get (C := RX3) (TT0 := TX3) (N := 4) hM 3 0 0 (fun _ h => List.mem_cons_of_mem _ (List.mem_append_left _ (List.mem_append_right _ h))) rfl rfl (by decide) (List.mem_of_getElem? (i := 1) rfl) rfl rfl dX3_settle_87 ?_
        refine xr_get (C := RX1) (TT0 := TX1) (N := 7) hM 1 1 5 (fun _ h => List.mem_cons_of_mem _ (List.mem_append_right _ h)) rfl rfl (by decide) (List.mem_of_getElem? (i := 2) rfl) rfl rfl dX3_settle_90 ?_
        refine xr_icmp_lt hM 117 dX3_settle_93 (by decide) (by omega) (fun c93_1 => ?_) (fun c93_1 => ?_)
        · obtain rfl := itL_f hR (fun q => by have q2 := of_decide_eq_true q; omega)
          exact xr_vret hF dX3_settle_117 (by rw [enF, if_neg (by omega)] <;> rfl)
        · refine xr_iload_n hM 3 dX3_settle_96 rfl rfl ?_
          refine xr_iload_n hM 1 dX3_settle_97 rfl rfl ?_
          refine xr_icmp_ge hM 117 dX3_settle_98 (by decide) (by omega) (fun c98_1 => ?_) (fun c98_1 => ?_)
          · obtain rfl := itL_f hR (fun q => by have q2 := of_decide_eq_true q; omega)
            exact xr_vret hF dX3_settle_117 (by rw [enF, if_neg (by omega)] <;> rfl)
          · refine xr_aload_n hM 0 dX3_settle_101 rfl rfl ?_
            refine xr_dup hM dX3_settle_102 rfl ?_
            refine xr_get (C := RX3) (TT0 := TX3) (N := 4) hM 3 0 3 (fun _ h => List.mem_cons_of_mem _ (List.mem_append_left _ (List.mem_append_right _ h))) rfl rfl (by decide) (List.mem_of_getElem? (i := 3) rfl) rfl rfl dX3_settle_103 ?_
            refine xr_iload_n hM 1 dX3_settle_106 rfl rfl ?_
            refine xr_iload_n hM 3 dX3_settle_107 rfl rfl ?_
            refine xr_isub hM dX3_settle_108 ?_
            refine xr_isub hM dX3_settle_109 ?_
            refine xr_put (ws' := [(a 6, ob 3 [.ref (a 0), iv (pH Y), iv (pA Y), iv ((pS Y) - ((pS Y + pH Y) - Z.2.2))]), (a 0, ob 1 [.ref (a 1), .ref (a 2), .ref (a 3), .ref (a 4), .ref (a 5), iv (gN (Z.1)), iv (gW (Z.1))]), (a 1, ia T.2.1 100 (gK (Z.1))), (a 2, ia T.2.1 100 (gL (Z.1))), (a 3, ia T.2.2.1 100 (gM (Z.1))), (a 4, ia T.2.1 3 (gS (Z.1))), (a 5, ia T.2.1 3 (gC (Z.1)))]) (C := RX3) (TT0 := TX3) (N := 4) hM 3 0 3 (fun _ h => List.mem_cons_of_mem _ (List.mem_append_left _ (List.mem_append_right _ h))) tyX3 tyX3_ok nmX3 rfl rfl (by decide) (List.mem_of_getElem? (i := 3) rfl) rfl rfl rfl (Nat.le_of_ble_eq_true rfl) rfl dX3_settle_110 ?_
            have hDc : DI (gN Z.1) (-600000) 400000 (Z.1, pH Y, pA Y, pS Y - (pS Y + pH Y - Z.2.2)) := ⟨f1, rfl, by show 0 ≤ pA Y ∧ pA Y < gN Z.1; omega, (by show -600000 ≤ pS Y - (pS Y + pH Y - Z.2.2); omega), (by show pS Y - (pS Y + pH Y - Z.2.2) ≤ 400000; omega)⟩
            refine xr_aload_n hM 0 dX3_settle_113 rfl rfl ?_
            refine xr_callV (ws' := [(a 6, ob 3 [.ref (a 0), iv (pH (clF (Z.1, pH Y, pA Y, (pS Y) - ((pS Y + pH Y) - Z.2.2)))), iv (pA (clF (Z.1, pH Y, pA Y, (pS Y) - ((pS Y + pH Y) - Z.2.2)))), iv (pS (clF (Z.1, pH Y, pA Y, (pS Y) - ((pS Y + pH Y) - Z.2.2))))]), (a 0, ob 1 [.ref (a 1), .ref (a 2), .ref (a 3), .ref (a 4), .ref (a 5), iv (gN (pX (clF (Z.1, pH Y, pA Y, (pS Y) - ((pS Y + pH Y) - Z.2.2))))), iv (gW (pX (clF (Z.1, pH Y, pA Y, (pS Y) - ((pS Y + pH Y) - Z.2.2)))))]), (a 1, ia T.2.1 100 (gK (pX (clF (Z.1, pH Y, pA Y, (pS Y) - ((pS Y + pH Y) - Z.2.2)))))), (a 2, ia T.2.1 100 (gL (pX (clF (Z.1, pH Y, pA Y, (pS Y) - ((pS Y + pH Y) - Z.2.2)))))), (a 3, ia T.2.2.1 100 (gM (pX (clF (Z.1, pH Y, pA Y, (pS Y) - ((pS Y + pH Y) - Z.2.2)))))), (a 4, ia T.2.1 3 (gS (pX (clF (Z.1, pH Y, pA Y, (pS Y) - ((pS Y + pH Y) - Z.2.2)))))), (a 5, ia T.2.1 3 (gC (pX (clF (Z.1, pH Y, pA Y, (pS Y) - ((pS Y + pH Y) - Z.2.2))))))]) (rest := []) (As := []) (st' := []) hM (ct_X3_climb M.2.1 T a (Z.1, pH Y, pA Y, (pS Y) - ((pS Y + pH Y) - Z.2.2)) hDc) gX3_settle_X3_climb rfl ⟨rfl, rfl⟩ hy_X3_climb rfl ⟨by decide, by decide⟩ [0, 1, 2, 3, 4, 5, 6] rfl rfl rfl 0 3 rfl rfl rfl rfl rfl (Nat.le_of_ble_eq_true rfl) ⟨by decide, by decide⟩ rfl dX3_settle_114 ?_
            obtain rfl := itL_f hR (fun q => by have q2 := of_decide_eq_true q; omega)
            exact xr_vret hF dX3_settle_117 (by rw [enF, if_pos (by omega)] <;> rfl)
      · refine xr_aload_n hM 0 dX3_settle_60 rfl rfl ?_
        refine xr_get (C := RX3) (TT0 := TX3) (N := 4) hM 3 0 0 (fun _ h => List.mem_cons_of_mem _ (List.mem_append_left _ (List.mem_append_right _ h))) rfl rfl (by decide) (List.mem_of_getElem? (i := 1) rfl) rfl rfl dX3_settle_61 ?_
        refine xr_iload_n hM 2 dX3_settle_64 rfl rfl ?_
        refine xr_callV (ws' := [(a 6, ob 3 [.ref (a 0), iv (pH Y), iv (pA Y), iv (pS Y)]), (a 0, ob 1 [.ref (a 1), .ref (a 2), .ref (a 3), .ref (a 4), .ref (a 5), iv (gN (meF Z.1 Z.2.1.toNat)), iv (gW (meF Z.1 Z.2.1.toNat))]), (a 1, ia T.2.1 100 (gK (meF Z.1 Z.2.1.toNat))), (a 2, ia T.2.1 100 (gL (meF Z.1 Z.2.1.toNat))), (a 3, ia T.2.2.1 100 (gM (meF Z.1 Z.2.1.toNat))), (a 4, ia T.2.1 3 (gS (meF Z.1 Z.2.1.toNat))), (a 5, ia T.2.1 3 (gC (meF Z.1 Z.2.1.toNat)))]) (rest := []) (As := [iv Z.2.1]) (st' := []) hM (ct_X1_measure M.2.1 T a Z.1 Z.2.1 f1 (by omega)) gX3_settle_X1_measure rfl ⟨rfl, rfl⟩ hy_X1_measure rfl ⟨by decide, by decide⟩ [1, 2, 3, 4, 5, 6] rfl rfl rfl 0 1 rfl rfl rfl rfl rfl (Nat.le_of_ble_eq_true rfl) ⟨by decide, by decide⟩ rfl dX3_settle_65 ?_
        have hf65 := meF_N Z.1 Z.2.1.toNat
        have hf65_1 := meF_W Z.1 Z.2.1.toNat
        have hw65 := (WFL_me f1 (by omega) : WFL (meF Z.1 Z.2.1.toNat))
        refine xr_iload_n hM 3 dX3_settle_68 rfl rfl ?_
        refine xr_aload_n hM 0 dX3_settle_69 rfl rfl ?_
        refine xr_get (C := RX3) (TT0 := TX3) (N := 4) hM 3 0 0 (fun _ h => List.mem_cons_of_mem _ (List.mem_append_left _ (List.mem_append_right _ h))) rfl rfl (by decide) (List.mem_of_getElem? (i := 1) rfl) rfl rfl dX3_settle_70 ?_
        refine xr_iload_n hM 2 dX3_settle_73 rfl rfl ?_
        refine xr_callVr (rest := [iv Z.2.2]) (As := [iv Z.2.1]) (st' := [iv (htF (meF Z.1 Z.2.1.toNat) Z.2.1.toNat), iv Z.2.2]) hM (ct_X1_heightOf M.2.1 T a (meF Z.1 Z.2.1.toNat) Z.2.1 hw65 (by omega)) gX3_settle_X1_heightOf rfl ⟨rfl, rfl⟩ hy_X1_heightOf rfl ⟨by decide, by decide⟩ [1, 2, 3, 4, 5, 6] rfl rfl 0 1 rfl rfl rfl rfl rfl (Nat.le_of_ble_eq_true rfl) ⟨by decide, by decide⟩ dX3_settle_74 ?_
        have hf74 := htF_b hw65 Z.2.1.toNat
        refine xr_iadd hM dX3_settle_77 ?_
        refine xr_istore_n (lv' := [(0, .ref (a 6)), (1, iv (pS Y + pH Y)), (2, iv Z.2.1), (3, iv (Z.2.2 + (htF (meF Z.1 Z.2.1.toNat) Z.2.1.toNat)))]) hM dX3_settle_78 rfl (by decide) rfl rfl ?_
        refine xr_iinc (lv' := [(0, .ref (a 6)), (1, iv (pS Y + pH Y)), (2, iv (Z.2.1 + 1)), (3, iv (Z.2.2 + (htF (meF Z.1 Z.2.1.toNat) Z.2.1.toNat)))]) hM 2 dX3_settle_79 rfl (by decide) rfl rfl ?_
        refine xr_goto hM 44 dX3_settle_82 (by decide) ?_
        have hcd : fiC (pS Y + pH Y) Z = true := decide_eq_true ⟨by omega, by omega⟩
        exact ih (fiS Z) (FI_s hZ hcd).1 (by have := (FI_s hZ hcd).2; omega) (itL_t hR hcd)

theorem ct_X3_settle (l : Launch) (T : TT) (a : Nat → Nat) (X : WnS) (hX : PW X) : CT l yX3_settle wsX3_settle rm_X3_settle T [.ref (a 6)] (winE T a X) none (winE T a (seF X)) := by
  refine CT.V (maxL := 4) (lv0 := [(0, .ref (a 6))]) hp_X3_settle rfl (Nat.le_of_ble_eq_true rfl) rfl (fun M hM hF => ?_)
  have hn0 := hX.1.1
  refine xr_aload_n hM 0 dX3_settle_0 rfl rfl ?_
  refine xr_get (C := RX3) (TT0 := TX3) (N := 4) hM 3 0 0 (fun _ h => List.mem_cons_of_mem _ (List.mem_append_left _ (List.mem_append_right _ h))) rfl rfl (by decide) (List.mem_of_getElem? (i := 1) rfl) rfl rfl dX3_settle_1 ?_
  refine xr_get (C := RX1) (TT0 := TX1) (N := 7) hM 1 1 5 (fun _ h => List.mem_cons_of_mem _ (List.mem_append_right _ h)) rfl rfl (by decide) (List.mem_of_getElem? (i := 2) rfl) rfl rfl dX3_settle_4 ?_
  refine xr_if_ne hM 11 dX3_settle_7 (by decide) (by omega) (fun c7 => ?_) (fun c7 => ?_)
  · have hD0 := hX.di c7
    refine xr_aload_n hM 0 dX3_settle_11 rfl rfl ?_
    refine xr_callV (ws' := [(a 6, ob 3 [.ref (a 0), iv (pH (dsF X)), iv (pA (dsF X)), iv (pS (dsF X))]), (a 0, ob 1 [.ref (a 1), .ref (a 2), .ref (a 3), .ref (a 4), .ref (a 5), iv (gN (pX (dsF X))), iv (gW (pX (dsF X)))]), (a 1, ia T.2.1 100 (gK (pX (dsF X)))), (a 2, ia T.2.1 100 (gL (pX (dsF X)))), (a 3, ia T.2.2.1 100 (gM (pX (dsF X)))), (a 4, ia T.2.1 3 (gS (pX (dsF X)))), (a 5, ia T.2.1 3 (gC (pX (dsF X))))]) (rest := []) (As := []) (st' := []) hM (ct_X3_descend M.2.1 T a X hD0) gX3_settle_X3_descend rfl ⟨rfl, rfl⟩ hy_X3_descend rfl ⟨by decide, by decide⟩ [0, 1, 2, 3, 4, 5, 6] rfl rfl rfl 0 3 rfl rfl rfl rfl rfl (Nat.le_of_ble_eq_true rfl) ⟨by decide, by decide⟩ rfl dX3_settle_12 ?_
    have hD := (DI_dsF hD0).1
    have hdN := hD.2.1
    have hdA := hD.2.2.1
    have hdS := hD.2.2.2
    have hdH : pH (dsF X) = pH X := dsF_H X
    have hXH := hX.2.1
    have hb0 := htF_b hD.1 (pA (dsF X)).toNat
    refine xr_aload_n hM 0 dX3_settle_15 rfl rfl ?_
    refine xr_get (C := RX3) (TT0 := TX3) (N := 4) hM 3 0 3 (fun _ h => List.mem_cons_of_mem _ (List.mem_append_left _ (List.mem_append_right _ h))) rfl rfl (by decide) (List.mem_of_getElem? (i := 3) rfl) rfl rfl dX3_settle_16 ?_
    refine xr_aload_n hM 0 dX3_settle_19 rfl rfl ?_
    refine xr_get (C := RX3) (TT0 := TX3) (N := 4) hM 3 0 1 (fun _ h => List.mem_cons_of_mem _ (List.mem_append_left _ (List.mem_append_right _ h))) rfl rfl (by decide) (List.mem_of_getElem? (i := 4) rfl) rfl rfl dX3_settle_20 ?_
    refine xr_iadd hM dX3_settle_23 ?_
    refine xr_istore_n (lv' := [(0, .ref (a 6)), (1, iv ((pS (dsF X)) + (pH (dsF X))))]) hM dX3_settle_24 rfl (by decide) rfl rfl ?_
    refine xr_aload_n hM 0 dX3_settle_25 rfl rfl ?_
    refine xr_get (C := RX3) (TT0 := TX3) (N := 4) hM 3 0 2 (fun _ h => List.mem_cons_of_mem _ (List.mem_append_left _ (List.mem_append_right _ h))) rfl rfl (by decide) (List.mem_of_getElem? (i := 5) rfl) rfl rfl dX3_settle_26 ?_
    refine xr_iconst hM dX3_settle_29 ?_
    refine xr_iadd hM dX3_settle_30 ?_
    refine xr_istore_n (lv' := [(0, .ref (a 6)), (1, iv ((pS (dsF X)) + (pH (dsF X)))), (2, iv ((pA (dsF X)) + 1))]) hM dX3_settle_31 rfl (by decide) rfl rfl ?_
    refine xr_aload_n hM 0 dX3_settle_32 rfl rfl ?_
    refine xr_get (C := RX3) (TT0 := TX3) (N := 4) hM 3 0 0 (fun _ h => List.mem_cons_of_mem _ (List.mem_append_left _ (List.mem_append_right _ h))) rfl rfl (by decide) (List.mem_of_getElem? (i := 1) rfl) rfl rfl dX3_settle_33 ?_
    refine xr_aload_n hM 0 dX3_settle_36 rfl rfl ?_
    refine xr_get (C := RX3) (TT0 := TX3) (N := 4) hM 3 0 2 (fun _ h => List.mem_cons_of_mem _ (List.mem_append_left _ (List.mem_append_right _ h))) rfl rfl (by decide) (List.mem_of_getElem? (i := 5) rfl) rfl rfl dX3_settle_37 ?_
    refine xr_callVr (rest := []) (As := [iv (pA (dsF X))]) (st' := [iv (htF (pX (dsF X)) (pA (dsF X)).toNat)]) hM (ct_X1_heightOf M.2.1 T a (pX (dsF X)) (pA (dsF X)) hD.1 (by omega)) gX3_settle_X1_heightOf rfl ⟨rfl, rfl⟩ hy_X1_heightOf rfl ⟨by decide, by decide⟩ [1, 2, 3, 4, 5, 6] rfl rfl 0 1 rfl rfl rfl rfl rfl (Nat.le_of_ble_eq_true rfl) ⟨by decide, by decide⟩ dX3_settle_40 ?_
    have hf40 := htF_b hD.1 (pA (dsF X)).toNat
    refine xr_istore_n (lv' := [(0, .ref (a 6)), (1, iv ((pS (dsF X)) + (pH (dsF X)))), (2, iv ((pA (dsF X)) + 1)), (3, iv (htF (pX (dsF X)) (pA (dsF X)).toNat))]) hM dX3_settle_43 rfl (by decide) rfl rfl ?_
    exact lp_X3_settle a (gN (pX X)) (dsF X) (fiF (dsF X)) hD (by rw [hdH]; exact hXH) hM (by have e : seF X = enF (dsF X) (fiF (dsF X)) := if_neg c7; rw [e] at hF; exact hF) _ _ (FI_0 hD) (by show (gN (pX X) - (pA (dsF X) + 1)).toNat < (gN (pX (dsF X)) - pA (dsF X)).toNat; omega) rfl
  · exact xr_vret hF dX3_settle_10 (by rw [seF, if_pos c7])

theorem ct_X3_top (l : Launch) (T : TT) (a : Nat → Nat) (X : WnS) (hX : WW X) : CT l yX3_top wsX3_top rm_X3_top T [.ref (a 6)] (winE T a X) (some (iv (tpF (pX X) (pA X).toNat + pS X))) (winE T a X) := by
  refine CT.Z (maxL := 1) (lv0 := [(0, .ref (a 6))]) hp_X3_top rfl (Nat.le_of_ble_eq_true rfl) rfl rfl (fun M hM hF => ?_)
  have hP := hX.1
  have hn := hX.1.1.1
  have hwd := hX.1.1.2.1
  have hHH := hX.1.2.1
  have hAn := hX.1.2.2.2.1
  have hA0 := hX.1.2.2.1
  have hSb := hX.1.2.2.2.2
  have hSs := hX.2
  refine xr_aload_n hM 0 dX3_top_0 rfl rfl ?_
  refine xr_get (C := RX3) (TT0 := TX3) (N := 4) hM 3 0 0 (fun _ h => List.mem_cons_of_mem _ (List.mem_append_left _ (List.mem_append_right _ h))) rfl rfl (by decide) (List.mem_of_getElem? (i := 1) rfl) rfl rfl dX3_top_1 ?_
  refine xr_aload_n hM 0 dX3_top_4 rfl rfl ?_
  refine xr_get (C := RX3) (TT0 := TX3) (N := 4) hM 3 0 2 (fun _ h => List.mem_cons_of_mem _ (List.mem_append_left _ (List.mem_append_right _ h))) rfl rfl (by decide) (List.mem_of_getElem? (i := 2) rfl) rfl rfl dX3_top_5 ?_
  refine xr_callVr (rest := []) (As := [iv (pA X)]) (st' := [iv (tpF (pX X) (pA X).toNat)]) hM (ct_X1_topOf M.2.1 T a (pX X) (pA X) hX.1.1 (by omega)) gX3_top_X1_topOf rfl ⟨rfl, rfl⟩ hy_X1_topOf rfl ⟨by decide, by decide⟩ [1, 2, 3, 4, 5, 6] rfl rfl 0 1 rfl rfl rfl rfl rfl (Nat.le_of_ble_eq_true rfl) ⟨by decide, by decide⟩ dX3_top_8 ?_
  have hf8 := tpF_b hX.1.1 (pA X).toNat
  refine xr_aload_n hM 0 dX3_top_11 rfl rfl ?_
  refine xr_get (C := RX3) (TT0 := TX3) (N := 4) hM 3 0 3 (fun _ h => List.mem_cons_of_mem _ (List.mem_append_left _ (List.mem_append_right _ h))) rfl rfl (by decide) (List.mem_of_getElem? (i := 3) rfl) rfl rfl dX3_top_12 ?_
  refine xr_iadd hM dX3_top_15 ?_
  exact xr_iret hF dX3_top_16 rfl rfl

theorem ct_X3_changeHeight (l : Launch) (T : TT) (a : Nat → Nat) (X : WnS) (v : Int) (hX : WW X) (hv : -2147483648 ≤ v ∧ v < 2147483648) : CT l yX3_changeHeight wsX3_changeHeight rm_X3_changeHeight T [.ref (a 6), iv v] (winE T a X) (some (iv ((shR X v).1))) (winE T a ((shR X v).2)) := by
  refine CT.Z (maxL := 3) (lv0 := [(0, .ref (a 6)), (1, iv v)]) hp_X3_changeHeight rfl (Nat.le_of_ble_eq_true rfl) rfl rfl (fun M hM hF => ?_)
  have hP := hX.1
  have hn := hX.1.1.1
  have hwd := hX.1.1.2.1
  have hHH := hX.1.2.1
  have hAn := hX.1.2.2.2.1
  have hA0 := hX.1.2.2.1
  have hSb := hX.1.2.2.2.2
  have hSs := hX.2
  refine xr_iload_n hM 1 dX3_changeHeight_0 rfl rfl ?_
  refine xr_bipush hM dX3_changeHeight_1 (by decide) ?_
  refine xr_sipush hM dX3_changeHeight_3 (by decide) ?_
  refine xr_callSNr (rest := []) (As := [iv v, iv 20, iv 600]) (st' := [iv (bi (v < 20 ∨ 600 < v))]) hM (ct_X4_isOutside M.2.1 T v 20 600 (by omega)) gX3_changeHeight_X4_isOutside_n35 rfl ⟨rfl, rfl⟩ hy_X4_isOutside (List.mem_of_getElem? (i := 4) rfl) (List.mem_of_getElem? (i := 3) rfl) rfl ⟨by decide, by decide⟩ [] rfl rfl rfl rfl (Nat.le_of_ble_eq_true rfl) ⟨by decide, by decide⟩ dX3_changeHeight_6 ?_
  refine xr_ifb_eq hM 15 dX3_changeHeight_9 (by decide) (fun c9 => ?_) (fun c9 => ?_)
  · refine xr_aload_n hM 0 dX3_changeHeight_15 rfl rfl ?_
    refine xr_get (C := RX3) (TT0 := TX3) (N := 4) hM 3 0 1 (fun _ h => List.mem_cons_of_mem _ (List.mem_append_left _ (List.mem_append_right _ h))) rfl rfl (by decide) (List.mem_of_getElem? (i := 2) rfl) rfl rfl dX3_changeHeight_16 ?_
    refine xr_istore_n (lv' := [(0, .ref (a 6)), (1, iv v), (2, iv (pH X))]) hM dX3_changeHeight_19 rfl (by decide) rfl rfl ?_
    refine xr_aload_n hM 0 dX3_changeHeight_20 rfl rfl ?_
    refine xr_iload_n hM 1 dX3_changeHeight_21 rfl rfl ?_
    refine xr_put (ws' := [(a 6, ob 3 [.ref (a 0), iv v, iv (pA X), iv (pS X)]), (a 0, ob 1 [.ref (a 1), .ref (a 2), .ref (a 3), .ref (a 4), .ref (a 5), iv (gN (pX X)), iv (gW (pX X))]), (a 1, ia T.2.1 100 (gK (pX X))), (a 2, ia T.2.1 100 (gL (pX X))), (a 3, ia T.2.2.1 100 (gM (pX X))), (a 4, ia T.2.1 3 (gS (pX X))), (a 5, ia T.2.1 3 (gC (pX X)))]) (C := RX3) (TT0 := TX3) (N := 4) hM 3 0 1 (fun _ h => List.mem_cons_of_mem _ (List.mem_append_left _ (List.mem_append_right _ h))) tyX3 tyX3_ok nmX3 rfl rfl (by decide) (List.mem_of_getElem? (i := 2) rfl) rfl rfl rfl (Nat.le_of_ble_eq_true rfl) rfl dX3_changeHeight_22 ?_
    have hPs : PW (pX X, v, pA X, pS X) := PW_sh hX (by omega)
    refine xr_aload_n hM 0 dX3_changeHeight_25 rfl rfl ?_
    refine xr_callV (ws' := [(a 6, ob 3 [.ref (a 0), iv (pH (seF (pX X, v, pA X, pS X))), iv (pA (seF (pX X, v, pA X, pS X))), iv (pS (seF (pX X, v, pA X, pS X)))]), (a 0, ob 1 [.ref (a 1), .ref (a 2), .ref (a 3), .ref (a 4), .ref (a 5), iv (gN (pX (seF (pX X, v, pA X, pS X)))), iv (gW (pX (seF (pX X, v, pA X, pS X))))]), (a 1, ia T.2.1 100 (gK (pX (seF (pX X, v, pA X, pS X))))), (a 2, ia T.2.1 100 (gL (pX (seF (pX X, v, pA X, pS X))))), (a 3, ia T.2.2.1 100 (gM (pX (seF (pX X, v, pA X, pS X))))), (a 4, ia T.2.1 3 (gS (pX (seF (pX X, v, pA X, pS X))))), (a 5, ia T.2.1 3 (gC (pX (seF (pX X, v, pA X, pS X)))))]) (rest := []) (As := []) (st' := []) hM (ct_X3_settle M.2.1 T a (pX X, v, pA X, pS X) hPs) gX3_changeHeight_X3_settle rfl ⟨rfl, rfl⟩ hy_X3_settle rfl ⟨by decide, by decide⟩ [0, 1, 2, 3, 4, 5, 6] rfl rfl rfl 0 3 rfl rfl rfl rfl rfl (Nat.le_of_ble_eq_true rfl) ⟨by decide, by decide⟩ rfl dX3_changeHeight_26 ?_
    have hf26 := (WW_se hPs).2
    have hf26_1 := (WW_se hPs).1
    have hw26 := (WW_se hPs).1.1.1
    refine xr_iload_n hM 2 dX3_changeHeight_29 rfl rfl ?_
    exact xr_iret hF dX3_changeHeight_30 (by rw [shR, if_neg (by omega)] <;> rfl) (by rw [shR, if_neg (by omega)] <;> rfl)
  · refine xr_ldc hM (-100001) (List.mem_of_getElem? (i := 1) rfl) (by decide) dX3_changeHeight_12 ?_
    exact xr_iret hF dX3_changeHeight_14 (by rw [shR, if_pos (by omega)] <;> rfl) (by rw [shR, if_pos (by omega)] <;> rfl)

theorem ct_X3_changeWidth (l : Launch) (T : TT) (a : Nat → Nat) (X : WnS) (v : Int) (hX : WW X) (hv : -2147483648 ≤ v ∧ v < 2147483648) : CT l yX3_changeWidth wsX3_changeWidth rm_X3_changeWidth T [.ref (a 6), iv v] (winE T a X) (some (iv ((swR X v).1))) (winE T a ((swR X v).2)) := by
  refine CT.Z (maxL := 3) (lv0 := [(0, .ref (a 6)), (1, iv v)]) hp_X3_changeWidth rfl (Nat.le_of_ble_eq_true rfl) rfl rfl (fun M hM hF => ?_)
  have hP := hX.1
  have hn := hX.1.1.1
  have hwd := hX.1.1.2.1
  have hHH := hX.1.2.1
  have hAn := hX.1.2.2.2.1
  have hA0 := hX.1.2.2.1
  have hSb := hX.1.2.2.2.2
  have hSs := hX.2
  refine xr_iload_n hM 1 dX3_changeWidth_0 rfl rfl ?_
  refine xr_iconst hM dX3_changeWidth_1 ?_
  refine xr_bipush hM dX3_changeWidth_2 (by decide) ?_
  refine xr_callSNr (rest := []) (As := [iv v, iv 5, iv 80]) (st' := [iv (bi (v < 5 ∨ 80 < v))]) hM (ct_X4_isOutside M.2.1 T v 5 80 (by omega)) gX3_changeWidth_X4_isOutside_n35 rfl ⟨rfl, rfl⟩ hy_X4_isOutside (List.mem_of_getElem? (i := 5) rfl) (List.mem_of_getElem? (i := 4) rfl) rfl ⟨by decide, by decide⟩ [] rfl rfl rfl rfl (Nat.le_of_ble_eq_true rfl) ⟨by decide, by decide⟩ dX3_changeWidth_4 ?_
  refine xr_ifb_eq hM 13 dX3_changeWidth_7 (by decide) (fun c7 => ?_) (fun c7 => ?_)
  · refine xr_aload_n hM 0 dX3_changeWidth_13 rfl rfl ?_
    refine xr_get (C := RX3) (TT0 := TX3) (N := 4) hM 3 0 0 (fun _ h => List.mem_cons_of_mem _ (List.mem_append_left _ (List.mem_append_right _ h))) rfl rfl (by decide) (List.mem_of_getElem? (i := 2) rfl) rfl rfl dX3_changeWidth_14 ?_
    refine xr_get (C := RX1) (TT0 := TX1) (N := 7) hM 1 1 6 (fun _ h => List.mem_cons_of_mem _ (List.mem_append_right _ h)) rfl rfl (by decide) (List.mem_of_getElem? (i := 3) rfl) rfl rfl dX3_changeWidth_17 ?_
    refine xr_istore_n (lv' := [(0, .ref (a 6)), (1, iv v), (2, iv (gW (pX X)))]) hM dX3_changeWidth_20 rfl (by decide) rfl rfl ?_
    refine xr_aload_n hM 0 dX3_changeWidth_21 rfl rfl ?_
    refine xr_get (C := RX3) (TT0 := TX3) (N := 4) hM 3 0 0 (fun _ h => List.mem_cons_of_mem _ (List.mem_append_left _ (List.mem_append_right _ h))) rfl rfl (by decide) (List.mem_of_getElem? (i := 2) rfl) rfl rfl dX3_changeWidth_22 ?_
    refine xr_iload_n hM 1 dX3_changeWidth_25 rfl rfl ?_
    refine xr_callV (ws' := [(a 6, ob 3 [.ref (a 0), iv (pH X), iv (pA X), iv (pS X)]), (a 0, ob 1 [.ref (a 1), .ref (a 2), .ref (a 3), .ref (a 4), .ref (a 5), iv (gN (faF (pX X) v)), iv (gW (faF (pX X) v))]), (a 1, ia T.2.1 100 (gK (faF (pX X) v))), (a 2, ia T.2.1 100 (gL (faF (pX X) v))), (a 3, ia T.2.2.1 100 (gM (faF (pX X) v))), (a 4, ia T.2.1 3 (gS (faF (pX X) v))), (a 5, ia T.2.1 3 (gC (faF (pX X) v)))]) (rest := []) (As := [iv v]) (st' := []) hM (ct_X1_forgetAllFor M.2.1 T a (pX X) v hX.1.1 (by omega)) gX3_changeWidth_X1_forgetAllFor rfl ⟨rfl, rfl⟩ hy_X1_forgetAllFor rfl ⟨by decide, by decide⟩ [1, 2, 3, 4, 5, 6] rfl rfl rfl 0 1 rfl rfl rfl rfl rfl (Nat.le_of_ble_eq_true rfl) ⟨by decide, by decide⟩ rfl dX3_changeWidth_26 ?_
    have hf26 := fgA_N (pX X) (gN (pX X)).toNat
    have hw26 := (WFL_fa hX.1.1 (by omega) : WFL (faF (pX X) v))
    have hPs : PW (faF (pX X) v, pH X, pA X, pS X) := PW_sw hX (by omega)
    refine xr_aload_n hM 0 dX3_changeWidth_29 rfl rfl ?_
    refine xr_callV (ws' := [(a 6, ob 3 [.ref (a 0), iv (pH (seF (faF (pX X) v, pH X, pA X, pS X))), iv (pA (seF (faF (pX X) v, pH X, pA X, pS X))), iv (pS (seF (faF (pX X) v, pH X, pA X, pS X)))]), (a 0, ob 1 [.ref (a 1), .ref (a 2), .ref (a 3), .ref (a 4), .ref (a 5), iv (gN (pX (seF (faF (pX X) v, pH X, pA X, pS X)))), iv (gW (pX (seF (faF (pX X) v, pH X, pA X, pS X))))]), (a 1, ia T.2.1 100 (gK (pX (seF (faF (pX X) v, pH X, pA X, pS X))))), (a 2, ia T.2.1 100 (gL (pX (seF (faF (pX X) v, pH X, pA X, pS X))))), (a 3, ia T.2.2.1 100 (gM (pX (seF (faF (pX X) v, pH X, pA X, pS X))))), (a 4, ia T.2.1 3 (gS (pX (seF (faF (pX X) v, pH X, pA X, pS X))))), (a 5, ia T.2.1 3 (gC (pX (seF (faF (pX X) v, pH X, pA X, pS X)))))]) (rest := []) (As := []) (st' := []) hM (ct_X3_settle M.2.1 T a (faF (pX X) v, pH X, pA X, pS X) hPs) gX3_changeWidth_X3_settle rfl ⟨rfl, rfl⟩ hy_X3_settle rfl ⟨by decide, by decide⟩ [0, 1, 2, 3, 4, 5, 6] rfl rfl rfl 0 3 rfl rfl rfl rfl rfl (Nat.le_of_ble_eq_true rfl) ⟨by decide, by decide⟩ rfl dX3_changeWidth_30 ?_
    have hf30 := (WW_se hPs).2
    have hf30_1 := (WW_se hPs).1
    have hw30 := (WW_se hPs).1.1.1
    refine xr_iload_n hM 2 dX3_changeWidth_33 rfl rfl ?_
    exact xr_iret hF dX3_changeWidth_34 (by rw [swR, if_neg (by omega)] <;> rfl) (by rw [swR, if_neg (by omega)] <;> rfl)
  · refine xr_ldc hM (-100001) (List.mem_of_getElem? (i := 1) rfl) (by decide) dX3_changeWidth_10 ?_
    exact xr_iret hF dX3_changeWidth_12 (by rw [swR, if_pos (by omega)] <;> rfl) (by rw [swR, if_pos (by omega)] <;> rfl)

theorem ct_X3_changeLength (l : Launch) (T : TT) (a : Nat → Nat) (X : WnS) (i v : Int) (hX : WW X) (hi : -2147483648 ≤ i ∧ i < 2147483648) (hv : -2147483648 ≤ v ∧ v < 2147483648) : CT l yX3_changeLength wsX3_changeLength rm_X3_changeLength T [.ref (a 6), iv i, iv v] (winE T a X) (some (iv ((chR X i v).1))) (winE T a ((chR X i v).2)) := by
  refine CT.Z (maxL := 4) (lv0 := [(0, .ref (a 6)), (1, iv i), (2, iv v)]) hp_X3_changeLength rfl (Nat.le_of_ble_eq_true rfl) rfl rfl (fun M hM hF => ?_)
  have hP := hX.1
  have hn := hX.1.1.1
  have hwd := hX.1.1.2.1
  have hHH := hX.1.2.1
  have hAn := hX.1.2.2.2.1
  have hA0 := hX.1.2.2.1
  have hSb := hX.1.2.2.2.2
  have hSs := hX.2
  refine xr_aload_n hM 0 dX3_changeLength_0 rfl rfl ?_
  refine xr_get (C := RX3) (TT0 := TX3) (N := 4) hM 3 0 0 (fun _ h => List.mem_cons_of_mem _ (List.mem_append_left _ (List.mem_append_right _ h))) rfl rfl (by decide) (List.mem_of_getElem? (i := 1) rfl) rfl rfl dX3_changeLength_1 ?_
  refine xr_iload_n hM 1 dX3_changeLength_4 rfl rfl ?_
  refine xr_callVr (rest := []) (As := [iv i]) (st' := [iv (bi (0 ≤ i ∧ i < gN (pX X)))]) hM (ct_X1_isLine M.2.1 T a (pX X) i hX.1.1 (by omega)) gX3_changeLength_X1_isLine rfl ⟨rfl, rfl⟩ hy_X1_isLine rfl ⟨by decide, by decide⟩ [1, 2, 3, 4, 5, 6] rfl rfl 0 1 rfl rfl rfl rfl rfl (Nat.le_of_ble_eq_true rfl) ⟨by decide, by decide⟩ dX3_changeLength_5 ?_
  refine xr_ifb_eq hM 22 dX3_changeLength_8 (by decide) (fun c8 => ?_) (fun c8 => ?_)
  · refine xr_ldc hM (-100001) (List.mem_of_getElem? (i := 2) rfl) (by decide) dX3_changeLength_22 ?_
    exact xr_iret hF dX3_changeLength_24 (by rw [chR, if_pos (by omega)] <;> rfl) (by rw [chR, if_pos (by omega)] <;> rfl)
  · refine xr_iload_n hM 2 dX3_changeLength_11 rfl rfl ?_
    refine xr_iconst hM dX3_changeLength_12 ?_
    refine xr_sipush hM dX3_changeLength_13 (by decide) ?_
    refine xr_callSNr (rest := []) (As := [iv v, iv 0, iv 400]) (st' := [iv (bi (v < 0 ∨ 400 < v))]) hM (ct_X4_isOutside M.2.1 T v 0 400 (by omega)) gX3_changeLength_X4_isOutside_n35 rfl ⟨rfl, rfl⟩ hy_X4_isOutside (List.mem_of_getElem? (i := 11) rfl) (List.mem_of_getElem? (i := 10) rfl) rfl ⟨by decide, by decide⟩ [] rfl rfl rfl rfl (Nat.le_of_ble_eq_true rfl) ⟨by decide, by decide⟩ dX3_changeLength_16 ?_
    refine xr_ifb_eq hM 25 dX3_changeLength_19 (by decide) (fun c19 => ?_) (fun c19 => ?_)
    · refine xr_aload_n hM 0 dX3_changeLength_25 rfl rfl ?_
      refine xr_get (C := RX3) (TT0 := TX3) (N := 4) hM 3 0 0 (fun _ h => List.mem_cons_of_mem _ (List.mem_append_left _ (List.mem_append_right _ h))) rfl rfl (by decide) (List.mem_of_getElem? (i := 1) rfl) rfl rfl dX3_changeLength_26 ?_
      refine xr_get (C := RX1) (TT0 := TX1) (N := 7) hM 1 1 1 (fun _ h => List.mem_cons_of_mem _ (List.mem_append_right _ h)) rfl rfl (by decide) (List.mem_of_getElem? (i := 3) rfl) rfl rfl dX3_changeLength_29 ?_
      refine xr_iload_n hM 1 dX3_changeLength_32 rfl rfl ?_
      refine xr_iald hM 3 i.toNat rfl rfl (by omega) dX3_changeLength_33 ?_
      refine xr_istore_n (lv' := [(0, .ref (a 6)), (1, iv i), (2, iv v), (3, iv ((gL (pX X)) i.toNat))]) hM dX3_changeLength_34 rfl (by decide) rfl rfl ?_
      refine xr_aload_n hM 0 dX3_changeLength_35 rfl rfl ?_
      refine xr_get (C := RX3) (TT0 := TX3) (N := 4) hM 3 0 0 (fun _ h => List.mem_cons_of_mem _ (List.mem_append_left _ (List.mem_append_right _ h))) rfl rfl (by decide) (List.mem_of_getElem? (i := 1) rfl) rfl rfl dX3_changeLength_36 ?_
      refine xr_iload_n hM 1 dX3_changeLength_39 rfl rfl ?_
      refine xr_iload_n hM 2 dX3_changeLength_40 rfl rfl ?_
      refine xr_callV (ws' := [(a 6, ob 3 [.ref (a 0), iv (pH X), iv (pA X), iv (pS X)]), (a 0, ob 1 [.ref (a 1), .ref (a 2), .ref (a 3), .ref (a 4), .ref (a 5), iv (gN (slF (pX X) i v)), iv (gW (slF (pX X) i v))]), (a 1, ia T.2.1 100 (gK (slF (pX X) i v))), (a 2, ia T.2.1 100 (gL (slF (pX X) i v))), (a 3, ia T.2.2.1 100 (gM (slF (pX X) i v))), (a 4, ia T.2.1 3 (gS (slF (pX X) i v))), (a 5, ia T.2.1 3 (gC (slF (pX X) i v)))]) (rest := []) (As := [iv i, iv v]) (st' := []) hM (ct_X1_setLength M.2.1 T a (pX X) i v hX.1.1 (by omega) (by omega)) gX3_changeLength_X1_setLength rfl ⟨rfl, rfl⟩ hy_X1_setLength rfl ⟨by decide, by decide⟩ [1, 2, 3, 4, 5, 6] rfl rfl rfl 0 1 rfl rfl rfl rfl rfl (Nat.le_of_ble_eq_true rfl) ⟨by decide, by decide⟩ rfl dX3_changeLength_41 ?_
      have hf41 := slF_N (pX X) i v
      have hf41_1 := slF_W (pX X) i v
      have hw41 := (WFL_sl hX.1.1 (by omega) (by omega) : WFL (slF (pX X) i v))
      have hPs : PW (slF (pX X) i v, pH X, pA X, pS X) := PW_ch hX (by omega) (by omega)
      refine xr_aload_n hM 0 dX3_changeLength_44 rfl rfl ?_
      refine xr_callV (ws' := [(a 6, ob 3 [.ref (a 0), iv (pH (seF (slF (pX X) i v, pH X, pA X, pS X))), iv (pA (seF (slF (pX X) i v, pH X, pA X, pS X))), iv (pS (seF (slF (pX X) i v, pH X, pA X, pS X)))]), (a 0, ob 1 [.ref (a 1), .ref (a 2), .ref (a 3), .ref (a 4), .ref (a 5), iv (gN (pX (seF (slF (pX X) i v, pH X, pA X, pS X)))), iv (gW (pX (seF (slF (pX X) i v, pH X, pA X, pS X))))]), (a 1, ia T.2.1 100 (gK (pX (seF (slF (pX X) i v, pH X, pA X, pS X))))), (a 2, ia T.2.1 100 (gL (pX (seF (slF (pX X) i v, pH X, pA X, pS X))))), (a 3, ia T.2.2.1 100 (gM (pX (seF (slF (pX X) i v, pH X, pA X, pS X))))), (a 4, ia T.2.1 3 (gS (pX (seF (slF (pX X) i v, pH X, pA X, pS X))))), (a 5, ia T.2.1 3 (gC (pX (seF (slF (pX X) i v, pH X, pA X, pS X)))))]) (rest := []) (As := []) (st' := []) hM (ct_X3_settle M.2.1 T a (slF (pX X) i v, pH X, pA X, pS X) hPs) gX3_changeLength_X3_settle rfl ⟨rfl, rfl⟩ hy_X3_settle rfl ⟨by decide, by decide⟩ [0, 1, 2, 3, 4, 5, 6] rfl rfl rfl 0 3 rfl rfl rfl rfl rfl (Nat.le_of_ble_eq_true rfl) ⟨by decide, by decide⟩ rfl dX3_changeLength_45 ?_
      have hf45 := (WW_se hPs).2
      have hf45_1 := (WW_se hPs).1
      have hw45 := (WW_se hPs).1.1.1
      refine xr_iload_n hM 3 dX3_changeLength_48 rfl rfl ?_
      exact xr_iret hF dX3_changeLength_49 (by rw [chR, if_neg (by omega)] <;> rfl) (by rw [chR, if_neg (by omega)] <;> rfl)
    · refine xr_ldc hM (-100001) (List.mem_of_getElem? (i := 2) rfl) (by decide) dX3_changeLength_22 ?_
      exact xr_iret hF dX3_changeLength_24 (by rw [chR, if_pos (by omega)] <;> rfl) (by rw [chR, if_pos (by omega)] <;> rfl)

theorem ct_X3_moveToLine (l : Launch) (T : TT) (a : Nat → Nat) (X : WnS) (i : Int) (hX : WW X) (hi : -2147483648 ≤ i ∧ i < 2147483648) : CT l yX3_moveToLine wsX3_moveToLine rm_X3_moveToLine T [.ref (a 6), iv i] (winE T a X) (some (iv ((mlR X i).1))) (winE T a ((mlR X i).2)) := by
  refine CT.Z (maxL := 2) (lv0 := [(0, .ref (a 6)), (1, iv i)]) hp_X3_moveToLine rfl (Nat.le_of_ble_eq_true rfl) rfl rfl (fun M hM hF => ?_)
  have hP := hX.1
  have hn := hX.1.1.1
  have hwd := hX.1.1.2.1
  have hHH := hX.1.2.1
  have hAn := hX.1.2.2.2.1
  have hA0 := hX.1.2.2.1
  have hSb := hX.1.2.2.2.2
  have hSs := hX.2
  refine xr_aload_n hM 0 dX3_moveToLine_0 rfl rfl ?_
  refine xr_get (C := RX3) (TT0 := TX3) (N := 4) hM 3 0 0 (fun _ h => List.mem_cons_of_mem _ (List.mem_append_left _ (List.mem_append_right _ h))) rfl rfl (by decide) (List.mem_of_getElem? (i := 1) rfl) rfl rfl dX3_moveToLine_1 ?_
  refine xr_iload_n hM 1 dX3_moveToLine_4 rfl rfl ?_
  refine xr_callVr (rest := []) (As := [iv i]) (st' := [iv (bi (0 ≤ i ∧ i < gN (pX X)))]) hM (ct_X1_isLine M.2.1 T a (pX X) i hX.1.1 (by omega)) gX3_moveToLine_X1_isLine rfl ⟨rfl, rfl⟩ hy_X1_isLine rfl ⟨by decide, by decide⟩ [1, 2, 3, 4, 5, 6] rfl rfl 0 1 rfl rfl rfl rfl rfl (Nat.le_of_ble_eq_true rfl) ⟨by decide, by decide⟩ dX3_moveToLine_5 ?_
  refine xr_ifb_ne hM 14 dX3_moveToLine_8 (by decide) (fun c8 => ?_) (fun c8 => ?_)
  · refine xr_aload_n hM 0 dX3_moveToLine_14 rfl rfl ?_
    refine xr_iload_n hM 1 dX3_moveToLine_15 rfl rfl ?_
    refine xr_put (ws' := [(a 6, ob 3 [.ref (a 0), iv (pH X), iv i, iv (pS X)]), (a 0, ob 1 [.ref (a 1), .ref (a 2), .ref (a 3), .ref (a 4), .ref (a 5), iv (gN (pX X)), iv (gW (pX X))]), (a 1, ia T.2.1 100 (gK (pX X))), (a 2, ia T.2.1 100 (gL (pX X))), (a 3, ia T.2.2.1 100 (gM (pX X))), (a 4, ia T.2.1 3 (gS (pX X))), (a 5, ia T.2.1 3 (gC (pX X)))]) (C := RX3) (TT0 := TX3) (N := 4) hM 3 0 2 (fun _ h => List.mem_cons_of_mem _ (List.mem_append_left _ (List.mem_append_right _ h))) tyX3 tyX3_ok nmX3 rfl rfl (by decide) (List.mem_of_getElem? (i := 3) rfl) rfl rfl rfl (Nat.le_of_ble_eq_true rfl) rfl dX3_moveToLine_16 ?_
    refine xr_aload_n hM 0 dX3_moveToLine_19 rfl rfl ?_
    refine xr_iconst hM dX3_moveToLine_20 ?_
    refine xr_put (ws' := [(a 6, ob 3 [.ref (a 0), iv (pH X), iv i, iv 0]), (a 0, ob 1 [.ref (a 1), .ref (a 2), .ref (a 3), .ref (a 4), .ref (a 5), iv (gN (pX X)), iv (gW (pX X))]), (a 1, ia T.2.1 100 (gK (pX X))), (a 2, ia T.2.1 100 (gL (pX X))), (a 3, ia T.2.2.1 100 (gM (pX X))), (a 4, ia T.2.1 3 (gS (pX X))), (a 5, ia T.2.1 3 (gC (pX X)))]) (C := RX3) (TT0 := TX3) (N := 4) hM 3 0 3 (fun _ h => List.mem_cons_of_mem _ (List.mem_append_left _ (List.mem_append_right _ h))) tyX3 tyX3_ok nmX3 rfl rfl (by decide) (List.mem_of_getElem? (i := 4) rfl) rfl rfl rfl (Nat.le_of_ble_eq_true rfl) rfl dX3_moveToLine_21 ?_
    have hPs : PW (pX X, pH X, i, 0) := PW_ml hX (by omega)
    refine xr_aload_n hM 0 dX3_moveToLine_24 rfl rfl ?_
    refine xr_callV (ws' := [(a 6, ob 3 [.ref (a 0), iv (pH (seF (pX X, pH X, i, 0))), iv (pA (seF (pX X, pH X, i, 0))), iv (pS (seF (pX X, pH X, i, 0)))]), (a 0, ob 1 [.ref (a 1), .ref (a 2), .ref (a 3), .ref (a 4), .ref (a 5), iv (gN (pX (seF (pX X, pH X, i, 0)))), iv (gW (pX (seF (pX X, pH X, i, 0))))]), (a 1, ia T.2.1 100 (gK (pX (seF (pX X, pH X, i, 0))))), (a 2, ia T.2.1 100 (gL (pX (seF (pX X, pH X, i, 0))))), (a 3, ia T.2.2.1 100 (gM (pX (seF (pX X, pH X, i, 0))))), (a 4, ia T.2.1 3 (gS (pX (seF (pX X, pH X, i, 0))))), (a 5, ia T.2.1 3 (gC (pX (seF (pX X, pH X, i, 0)))))]) (rest := []) (As := []) (st' := []) hM (ct_X3_settle M.2.1 T a (pX X, pH X, i, 0) hPs) gX3_moveToLine_X3_settle rfl ⟨rfl, rfl⟩ hy_X3_settle rfl ⟨by decide, by decide⟩ [0, 1, 2, 3, 4, 5, 6] rfl rfl rfl 0 3 rfl rfl rfl rfl rfl (Nat.le_of_ble_eq_true rfl) ⟨by decide, by decide⟩ rfl dX3_moveToLine_25 ?_
    have hf25 := (WW_se hPs).2
    have hf25_1 := (WW_se hPs).1
    have hw25 := (WW_se hPs).1.1.1
    refine xr_aload_n hM 0 dX3_moveToLine_28 rfl rfl ?_
    refine xr_get (C := RX3) (TT0 := TX3) (N := 4) hM 3 0 2 (fun _ h => List.mem_cons_of_mem _ (List.mem_append_left _ (List.mem_append_right _ h))) rfl rfl (by decide) (List.mem_of_getElem? (i := 3) rfl) rfl rfl dX3_moveToLine_29 ?_
    exact xr_iret hF dX3_moveToLine_32 (by rw [mlR, if_neg (by omega)] <;> rfl) (by rw [mlR, if_neg (by omega)] <;> rfl)
  · refine xr_ldc hM (-100001) (List.mem_of_getElem? (i := 2) rfl) (by decide) dX3_moveToLine_11 ?_
    exact xr_iret hF dX3_moveToLine_13 (by rw [mlR, if_pos (by omega)] <;> rfl) (by rw [mlR, if_pos (by omega)] <;> rfl)

theorem ct_X3_putIn (l : Launch) (T : TT) (a : Nat → Nat) (X : WnS) (i kd ln : Int) (hX : WW X) (hi : -2147483648 ≤ i ∧ i < 2147483648) (hkd : -2147483648 ≤ kd ∧ kd < 2147483648) (hln : -2147483648 ≤ ln ∧ ln < 2147483648) : CT l yX3_putIn wsX3_putIn rm_X3_putIn T [.ref (a 6), iv i, iv kd, iv ln] (winE T a X) (some (iv ((puR X i kd ln).1))) (winE T a ((puR X i kd ln).2)) := by
  refine CT.Z (maxL := 4) (lv0 := [(0, .ref (a 6)), (1, iv i), (2, iv kd), (3, iv ln)]) hp_X3_putIn rfl (Nat.le_of_ble_eq_true rfl) rfl rfl (fun M hM hF => ?_)
  have hP := hX.1
  have hn := hX.1.1.1
  have hwd := hX.1.1.2.1
  have hHH := hX.1.2.1
  have hAn := hX.1.2.2.2.1
  have hA0 := hX.1.2.2.1
  have hSb := hX.1.2.2.2.2
  have hSs := hX.2
  refine xr_iload_n hM 1 dX3_putIn_0 rfl rfl ?_
  refine xr_iconst hM dX3_putIn_1 ?_
  refine xr_aload_n hM 0 dX3_putIn_2 rfl rfl ?_
  refine xr_get (C := RX3) (TT0 := TX3) (N := 4) hM 3 0 0 (fun _ h => List.mem_cons_of_mem _ (List.mem_append_left _ (List.mem_append_right _ h))) rfl rfl (by decide) (List.mem_of_getElem? (i := 1) rfl) rfl rfl dX3_putIn_3 ?_
  refine xr_get (C := RX1) (TT0 := TX1) (N := 7) hM 1 1 5 (fun _ h => List.mem_cons_of_mem _ (List.mem_append_right _ h)) rfl rfl (by decide) (List.mem_of_getElem? (i := 2) rfl) rfl rfl dX3_putIn_6 ?_
  refine xr_callSNr (rest := []) (As := [iv i, iv 0, iv (gN (pX X))]) (st' := [iv (bi (i < 0 ∨ (gN (pX X)) < i))]) hM (ct_X4_isOutside M.2.1 T i 0 (gN (pX X)) (by omega)) gX3_putIn_X4_isOutside_n35 rfl ⟨rfl, rfl⟩ hy_X4_isOutside (List.mem_of_getElem? (i := 7) rfl) (List.mem_of_getElem? (i := 6) rfl) rfl ⟨by decide, by decide⟩ [] rfl rfl rfl rfl (Nat.le_of_ble_eq_true rfl) ⟨by decide, by decide⟩ dX3_putIn_9 ?_
  refine xr_ifb_ne hM 37 dX3_putIn_12 (by decide) (fun c12 => ?_) (fun c12 => ?_)
  · refine xr_ldc hM (-100001) (List.mem_of_getElem? (i := 3) rfl) (by decide) dX3_putIn_37 ?_
    exact xr_iret hF dX3_putIn_39 (by rw [puR, if_pos (by omega)] <;> rfl) (by rw [puR, if_pos (by omega)] <;> rfl)
  · refine xr_aload_n hM 0 dX3_putIn_15 rfl rfl ?_
    refine xr_get (C := RX3) (TT0 := TX3) (N := 4) hM 3 0 0 (fun _ h => List.mem_cons_of_mem _ (List.mem_append_left _ (List.mem_append_right _ h))) rfl rfl (by decide) (List.mem_of_getElem? (i := 1) rfl) rfl rfl dX3_putIn_16 ?_
    refine xr_iload_n hM 2 dX3_putIn_19 rfl rfl ?_
    refine xr_callVr (rest := []) (As := [iv kd]) (st' := [iv (bi (0 ≤ kd ∧ kd < 3))]) hM (ct_X1_isKind M.2.1 T a (pX X) kd (by omega)) gX3_putIn_X1_isKind rfl ⟨rfl, rfl⟩ hy_X1_isKind rfl ⟨by decide, by decide⟩ [1, 2, 3, 4, 5, 6] rfl rfl 0 1 rfl rfl rfl rfl rfl (Nat.le_of_ble_eq_true rfl) ⟨by decide, by decide⟩ dX3_putIn_20 ?_
    refine xr_ifb_eq hM 37 dX3_putIn_23 (by decide) (fun c23 => ?_) (fun c23 => ?_)
    · refine xr_ldc hM (-100001) (List.mem_of_getElem? (i := 3) rfl) (by decide) dX3_putIn_37 ?_
      exact xr_iret hF dX3_putIn_39 (by rw [puR, if_pos (by omega)] <;> rfl) (by rw [puR, if_pos (by omega)] <;> rfl)
    · refine xr_iload_n hM 3 dX3_putIn_26 rfl rfl ?_
      refine xr_iconst hM dX3_putIn_27 ?_
      refine xr_sipush hM dX3_putIn_28 (by decide) ?_
      refine xr_callSNr (rest := []) (As := [iv ln, iv 0, iv 400]) (st' := [iv (bi (ln < 0 ∨ 400 < ln))]) hM (ct_X4_isOutside M.2.1 T ln 0 400 (by omega)) gX3_putIn_X4_isOutside_n35 rfl ⟨rfl, rfl⟩ hy_X4_isOutside (List.mem_of_getElem? (i := 7) rfl) (List.mem_of_getElem? (i := 6) rfl) rfl ⟨by decide, by decide⟩ [] rfl rfl rfl rfl (Nat.le_of_ble_eq_true rfl) ⟨by decide, by decide⟩ dX3_putIn_31 ?_
      refine xr_ifb_eq hM 40 dX3_putIn_34 (by decide) (fun c34 => ?_) (fun c34 => ?_)
      · refine xr_aload_n hM 0 dX3_putIn_40 rfl rfl ?_
        refine xr_get (C := RX3) (TT0 := TX3) (N := 4) hM 3 0 0 (fun _ h => List.mem_cons_of_mem _ (List.mem_append_left _ (List.mem_append_right _ h))) rfl rfl (by decide) (List.mem_of_getElem? (i := 1) rfl) rfl rfl dX3_putIn_41 ?_
        refine xr_get (C := RX1) (TT0 := TX1) (N := 7) hM 1 1 5 (fun _ h => List.mem_cons_of_mem _ (List.mem_append_right _ h)) rfl rfl (by decide) (List.mem_of_getElem? (i := 2) rfl) rfl rfl dX3_putIn_44 ?_
        refine xr_bipush hM dX3_putIn_47 (by decide) ?_
        refine xr_icmp_lt hM 55 dX3_putIn_49 (by decide) (by omega) (fun c49 => ?_) (fun c49 => ?_)
        · refine xr_aload_n hM 0 dX3_putIn_55 rfl rfl ?_
          refine xr_get (C := RX3) (TT0 := TX3) (N := 4) hM 3 0 0 (fun _ h => List.mem_cons_of_mem _ (List.mem_append_left _ (List.mem_append_right _ h))) rfl rfl (by decide) (List.mem_of_getElem? (i := 1) rfl) rfl rfl dX3_putIn_56 ?_
          refine xr_get (C := RX1) (TT0 := TX1) (N := 7) hM 1 1 5 (fun _ h => List.mem_cons_of_mem _ (List.mem_append_right _ h)) rfl rfl (by decide) (List.mem_of_getElem? (i := 2) rfl) rfl rfl dX3_putIn_59 ?_
          refine xr_if_le hM 83 dX3_putIn_62 (by decide) (by omega) (fun c62 => ?_) (fun c62 => ?_)
          · refine xr_aload_n hM 0 dX3_putIn_83 rfl rfl ?_
            refine xr_get (C := RX3) (TT0 := TX3) (N := 4) hM 3 0 0 (fun _ h => List.mem_cons_of_mem _ (List.mem_append_left _ (List.mem_append_right _ h))) rfl rfl (by decide) (List.mem_of_getElem? (i := 1) rfl) rfl rfl dX3_putIn_84 ?_
            refine xr_iload_n hM 1 dX3_putIn_87 rfl rfl ?_
            refine xr_iload_n hM 2 dX3_putIn_88 rfl rfl ?_
            refine xr_iload_n hM 3 dX3_putIn_89 rfl rfl ?_
            refine xr_callV (ws' := [(a 6, ob 3 [.ref (a 0), iv (pH X), iv (pA X), iv (pS X)]), (a 0, ob 1 [.ref (a 1), .ref (a 2), .ref (a 3), .ref (a 4), .ref (a 5), iv (gN (inF (pX X) i kd ln)), iv (gW (inF (pX X) i kd ln))]), (a 1, ia T.2.1 100 (gK (inF (pX X) i kd ln))), (a 2, ia T.2.1 100 (gL (inF (pX X) i kd ln))), (a 3, ia T.2.2.1 100 (gM (inF (pX X) i kd ln))), (a 4, ia T.2.1 3 (gS (inF (pX X) i kd ln))), (a 5, ia T.2.1 3 (gC (inF (pX X) i kd ln)))]) (rest := []) (As := [iv i, iv kd, iv ln]) (st' := []) hM (ct_X1_insert M.2.1 T a (pX X) i kd ln hX.1.1 (by omega) (by omega) (by omega) (by omega)) gX3_putIn_X1_insert rfl ⟨rfl, rfl⟩ hy_X1_insert rfl ⟨by decide, by decide⟩ [1, 2, 3, 4, 5, 6] rfl rfl rfl 0 1 rfl rfl rfl rfl rfl (Nat.le_of_ble_eq_true rfl) ⟨by decide, by decide⟩ rfl dX3_putIn_90 ?_
            have hf90 := inF_N (pX X) i kd ln
            have hf90_1 := inF_W (pX X) i kd ln
            have hw90 := (WFL_in hX.1.1 (by omega) (by omega) (by omega) (by omega) : WFL (inF (pX X) i kd ln))
            have hPs : PW (inF (pX X) i kd ln, pH X, pA X, pS X) := by have q := PW_pu hX (i := i) (kd := kd) (ln := ln) (by omega) (by omega) (by omega) (by omega); rwa [if_neg (by omega)] at q
            refine xr_aload_n hM 0 dX3_putIn_93 rfl rfl ?_
            refine xr_callV (ws' := [(a 6, ob 3 [.ref (a 0), iv (pH (seF (inF (pX X) i kd ln, pH X, pA X, pS X))), iv (pA (seF (inF (pX X) i kd ln, pH X, pA X, pS X))), iv (pS (seF (inF (pX X) i kd ln, pH X, pA X, pS X)))]), (a 0, ob 1 [.ref (a 1), .ref (a 2), .ref (a 3), .ref (a 4), .ref (a 5), iv (gN (pX (seF (inF (pX X) i kd ln, pH X, pA X, pS X)))), iv (gW (pX (seF (inF (pX X) i kd ln, pH X, pA X, pS X))))]), (a 1, ia T.2.1 100 (gK (pX (seF (inF (pX X) i kd ln, pH X, pA X, pS X))))), (a 2, ia T.2.1 100 (gL (pX (seF (inF (pX X) i kd ln, pH X, pA X, pS X))))), (a 3, ia T.2.2.1 100 (gM (pX (seF (inF (pX X) i kd ln, pH X, pA X, pS X))))), (a 4, ia T.2.1 3 (gS (pX (seF (inF (pX X) i kd ln, pH X, pA X, pS X))))), (a 5, ia T.2.1 3 (gC (pX (seF (inF (pX X) i kd ln, pH X, pA X, pS X)))))]) (rest := []) (As := []) (st' := []) hM (ct_X3_settle M.2.1 T a (inF (pX X) i kd ln, pH X, pA X, pS X) hPs) gX3_putIn_X3_settle rfl ⟨rfl, rfl⟩ hy_X3_settle rfl ⟨by decide, by decide⟩ [0, 1, 2, 3, 4, 5, 6] rfl rfl rfl 0 3 rfl rfl rfl rfl rfl (Nat.le_of_ble_eq_true rfl) ⟨by decide, by decide⟩ rfl dX3_putIn_94 ?_
            have hf94 := (WW_se hPs).2
            have hf94_1 := (WW_se hPs).1
            have hw94 := (WW_se hPs).1.1.1
            refine xr_aload_n hM 0 dX3_putIn_97 rfl rfl ?_
            refine xr_get (C := RX3) (TT0 := TX3) (N := 4) hM 3 0 0 (fun _ h => List.mem_cons_of_mem _ (List.mem_append_left _ (List.mem_append_right _ h))) rfl rfl (by decide) (List.mem_of_getElem? (i := 1) rfl) rfl rfl dX3_putIn_98 ?_
            refine xr_callVr (rest := []) (As := []) (st' := [iv (tpF (pX (seF (inF (pX X) i kd ln, pH X, pA X, pS X))) (gN (pX (seF (inF (pX X) i kd ln, pH X, pA X, pS X)))).toNat)]) hM (ct_X1_total M.2.1 T a (pX (seF (inF (pX X) i kd ln, pH X, pA X, pS X))) hw94) gX3_putIn_X1_total rfl ⟨rfl, rfl⟩ hy_X1_total rfl ⟨by decide, by decide⟩ [1, 2, 3, 4, 5, 6] rfl rfl 0 1 rfl rfl rfl rfl rfl (Nat.le_of_ble_eq_true rfl) ⟨by decide, by decide⟩ dX3_putIn_101 ?_
            have hf101 := tpF_b hw94 (gN (pX (seF (inF (pX X) i kd ln, pH X, pA X, pS X)))).toNat
            exact xr_iret hF dX3_putIn_104 (by rw [puR, if_neg (by omega), if_neg (by omega), if_neg (by omega)] <;> rfl) (by rw [puR, if_neg (by omega), if_neg (by omega), if_neg (by omega)] <;> rfl)
          · refine xr_iload_n hM 1 dX3_putIn_65 rfl rfl ?_
            refine xr_aload_n hM 0 dX3_putIn_66 rfl rfl ?_
            refine xr_get (C := RX3) (TT0 := TX3) (N := 4) hM 3 0 2 (fun _ h => List.mem_cons_of_mem _ (List.mem_append_left _ (List.mem_append_right _ h))) rfl rfl (by decide) (List.mem_of_getElem? (i := 5) rfl) rfl rfl dX3_putIn_67 ?_
            refine xr_icmp_gt hM 83 dX3_putIn_70 (by decide) (by omega) (fun c70 => ?_) (fun c70 => ?_)
            · refine xr_aload_n hM 0 dX3_putIn_83 rfl rfl ?_
              refine xr_get (C := RX3) (TT0 := TX3) (N := 4) hM 3 0 0 (fun _ h => List.mem_cons_of_mem _ (List.mem_append_left _ (List.mem_append_right _ h))) rfl rfl (by decide) (List.mem_of_getElem? (i := 1) rfl) rfl rfl dX3_putIn_84 ?_
              refine xr_iload_n hM 1 dX3_putIn_87 rfl rfl ?_
              refine xr_iload_n hM 2 dX3_putIn_88 rfl rfl ?_
              refine xr_iload_n hM 3 dX3_putIn_89 rfl rfl ?_
              refine xr_callV (ws' := [(a 6, ob 3 [.ref (a 0), iv (pH X), iv (pA X), iv (pS X)]), (a 0, ob 1 [.ref (a 1), .ref (a 2), .ref (a 3), .ref (a 4), .ref (a 5), iv (gN (inF (pX X) i kd ln)), iv (gW (inF (pX X) i kd ln))]), (a 1, ia T.2.1 100 (gK (inF (pX X) i kd ln))), (a 2, ia T.2.1 100 (gL (inF (pX X) i kd ln))), (a 3, ia T.2.2.1 100 (gM (inF (pX X) i kd ln))), (a 4, ia T.2.1 3 (gS (inF (pX X) i kd ln))), (a 5, ia T.2.1 3 (gC (inF (pX X) i kd ln)))]) (rest := []) (As := [iv i, iv kd, iv ln]) (st' := []) hM (ct_X1_insert M.2.1 T a (pX X) i kd ln hX.1.1 (by omega) (by omega) (by omega) (by omega)) gX3_putIn_X1_insert rfl ⟨rfl, rfl⟩ hy_X1_insert rfl ⟨by decide, by decide⟩ [1, 2, 3, 4, 5, 6] rfl rfl rfl 0 1 rfl rfl rfl rfl rfl (Nat.le_of_ble_eq_true rfl) ⟨by decide, by decide⟩ rfl dX3_putIn_90 ?_
              have hf90_2 := inF_N (pX X) i kd ln
              have hf90_3 := inF_W (pX X) i kd ln
              have hw90_1 := (WFL_in hX.1.1 (by omega) (by omega) (by omega) (by omega) : WFL (inF (pX X) i kd ln))
              have hPs : PW (inF (pX X) i kd ln, pH X, pA X, pS X) := by have q := PW_pu hX (i := i) (kd := kd) (ln := ln) (by omega) (by omega) (by omega) (by omega); rwa [if_neg (by omega)] at q
              refine xr_aload_n hM 0 dX3_putIn_93 rfl rfl ?_
              refine xr_callV (ws' := [(a 6, ob 3 [.ref (a 0), iv (pH (seF (inF (pX X) i kd ln, pH X, pA X, pS X))), iv (pA (seF (inF (pX X) i kd ln, pH X, pA X, pS X))), iv (pS (seF (inF (pX X) i kd ln, pH X, pA X, pS X)))]), (a 0, ob 1 [.ref (a 1), .ref (a 2), .ref (a 3), .ref (a 4), .ref (a 5), iv (gN (pX (seF (inF (pX X) i kd ln, pH X, pA X, pS X)))), iv (gW (pX (seF (inF (pX X) i kd ln, pH X, pA X, pS X))))]), (a 1, ia T.2.1 100 (gK (pX (seF (inF (pX X) i kd ln, pH X, pA X, pS X))))), (a 2, ia T.2.1 100 (gL (pX (seF (inF (pX X) i kd ln, pH X, pA X, pS X))))), (a 3, ia T.2.2.1 100 (gM (pX (seF (inF (pX X) i kd ln, pH X, pA X, pS X))))), (a 4, ia T.2.1 3 (gS (pX (seF (inF (pX X) i kd ln, pH X, pA X, pS X))))), (a 5, ia T.2.1 3 (gC (pX (seF (inF (pX X) i kd ln, pH X, pA X, pS X)))))]) (rest := []) (As := []) (st' := []) hM (ct_X3_settle M.2.1 T a (inF (pX X) i kd ln, pH X, pA X, pS X) hPs) gX3_putIn_X3_settle rfl ⟨rfl, rfl⟩ hy_X3_settle rfl ⟨by decide, by decide⟩ [0, 1, 2, 3, 4, 5, 6] rfl rfl rfl 0 3 rfl rfl rfl rfl rfl (Nat.le_of_ble_eq_true rfl) ⟨by decide, by decide⟩ rfl dX3_putIn_94 ?_
              have hf94_2 := (WW_se hPs).2
              have hf94_3 := (WW_se hPs).1
              have hw94_1 := (WW_se hPs).1.1.1
              refine xr_aload_n hM 0 dX3_putIn_97 rfl rfl ?_
              refine xr_get (C := RX3) (TT0 := TX3) (N := 4) hM 3 0 0 (fun _ h => List.mem_cons_of_mem _ (List.mem_append_left _ (List.mem_append_right _ h))) rfl rfl (by decide) (List.mem_of_getElem? (i := 1) rfl) rfl rfl dX3_putIn_98 ?_
              refine xr_callVr (rest := []) (As := []) (st' := [iv (tpF (pX (seF (inF (pX X) i kd ln, pH X, pA X, pS X))) (gN (pX (seF (inF (pX X) i kd ln, pH X, pA X, pS X)))).toNat)]) hM (ct_X1_total M.2.1 T a (pX (seF (inF (pX X) i kd ln, pH X, pA X, pS X))) hw94_1) gX3_putIn_X1_total rfl ⟨rfl, rfl⟩ hy_X1_total rfl ⟨by decide, by decide⟩ [1, 2, 3, 4, 5, 6] rfl rfl 0 1 rfl rfl rfl rfl rfl (Nat.le_of_ble_eq_true rfl) ⟨by decide, by decide⟩ dX3_putIn_101 ?_
              have hf101_1 := tpF_b hw94_1 (gN (pX (seF (inF (pX X) i kd ln, pH X, pA X, pS X)))).toNat
              exact xr_iret hF dX3_putIn_104 (by rw [puR, if_neg (by omega), if_neg (by omega), if_neg (by omega)] <;> rfl) (by rw [puR, if_neg (by omega), if_neg (by omega), if_neg (by omega)] <;> rfl)
            · refine xr_aload_n hM 0 dX3_putIn_73 rfl rfl ?_
              refine xr_dup hM dX3_putIn_74 rfl ?_
              refine xr_get (C := RX3) (TT0 := TX3) (N := 4) hM 3 0 2 (fun _ h => List.mem_cons_of_mem _ (List.mem_append_left _ (List.mem_append_right _ h))) rfl rfl (by decide) (List.mem_of_getElem? (i := 5) rfl) rfl rfl dX3_putIn_75 ?_
              refine xr_iconst hM dX3_putIn_78 ?_
              refine xr_iadd hM dX3_putIn_79 ?_
              refine xr_put (ws' := [(a 6, ob 3 [.ref (a 0), iv (pH X), iv ((pA X) + 1), iv (pS X)]), (a 0, ob 1 [.ref (a 1), .ref (a 2), .ref (a 3), .ref (a 4), .ref (a 5), iv (gN (pX X)), iv (gW (pX X))]), (a 1, ia T.2.1 100 (gK (pX X))), (a 2, ia T.2.1 100 (gL (pX X))), (a 3, ia T.2.2.1 100 (gM (pX X))), (a 4, ia T.2.1 3 (gS (pX X))), (a 5, ia T.2.1 3 (gC (pX X)))]) (C := RX3) (TT0 := TX3) (N := 4) hM 3 0 2 (fun _ h => List.mem_cons_of_mem _ (List.mem_append_left _ (List.mem_append_right _ h))) tyX3 tyX3_ok nmX3 rfl rfl (by decide) (List.mem_of_getElem? (i := 5) rfl) rfl rfl rfl (Nat.le_of_ble_eq_true rfl) rfl dX3_putIn_80 ?_
              refine xr_aload_n hM 0 dX3_putIn_83 rfl rfl ?_
              refine xr_get (C := RX3) (TT0 := TX3) (N := 4) hM 3 0 0 (fun _ h => List.mem_cons_of_mem _ (List.mem_append_left _ (List.mem_append_right _ h))) rfl rfl (by decide) (List.mem_of_getElem? (i := 1) rfl) rfl rfl dX3_putIn_84 ?_
              refine xr_iload_n hM 1 dX3_putIn_87 rfl rfl ?_
              refine xr_iload_n hM 2 dX3_putIn_88 rfl rfl ?_
              refine xr_iload_n hM 3 dX3_putIn_89 rfl rfl ?_
              refine xr_callV (ws' := [(a 6, ob 3 [.ref (a 0), iv (pH X), iv ((pA X) + 1), iv (pS X)]), (a 0, ob 1 [.ref (a 1), .ref (a 2), .ref (a 3), .ref (a 4), .ref (a 5), iv (gN (inF (pX X) i kd ln)), iv (gW (inF (pX X) i kd ln))]), (a 1, ia T.2.1 100 (gK (inF (pX X) i kd ln))), (a 2, ia T.2.1 100 (gL (inF (pX X) i kd ln))), (a 3, ia T.2.2.1 100 (gM (inF (pX X) i kd ln))), (a 4, ia T.2.1 3 (gS (inF (pX X) i kd ln))), (a 5, ia T.2.1 3 (gC (inF (pX X) i kd ln)))]) (rest := []) (As := [iv i, iv kd, iv ln]) (st' := []) hM (ct_X1_insert M.2.1 T a (pX X) i kd ln hX.1.1 (by omega) (by omega) (by omega) (by omega)) gX3_putIn_X1_insert rfl ⟨rfl, rfl⟩ hy_X1_insert rfl ⟨by decide, by decide⟩ [1, 2, 3, 4, 5, 6] rfl rfl rfl 0 1 rfl rfl rfl rfl rfl (Nat.le_of_ble_eq_true rfl) ⟨by decide, by decide⟩ rfl dX3_putIn_90 ?_
              have hf90_4 := inF_N (pX X) i kd ln
              have hf90_5 := inF_W (pX X) i kd ln
              have hw90_2 := (WFL_in hX.1.1 (by omega) (by omega) (by omega) (by omega) : WFL (inF (pX X) i kd ln))
              have hPs : PW (inF (pX X) i kd ln, pH X, (pA X) + 1, pS X) := by have q := PW_pu hX (i := i) (kd := kd) (ln := ln) (by omega) (by omega) (by omega) (by omega); rwa [if_pos (by omega)] at q
              refine xr_aload_n hM 0 dX3_putIn_93 rfl rfl ?_
              refine xr_callV (ws' := [(a 6, ob 3 [.ref (a 0), iv (pH (seF (inF (pX X) i kd ln, pH X, (pA X) + 1, pS X))), iv (pA (seF (inF (pX X) i kd ln, pH X, (pA X) + 1, pS X))), iv (pS (seF (inF (pX X) i kd ln, pH X, (pA X) + 1, pS X)))]), (a 0, ob 1 [.ref (a 1), .ref (a 2), .ref (a 3), .ref (a 4), .ref (a 5), iv (gN (pX (seF (inF (pX X) i kd ln, pH X, (pA X) + 1, pS X)))), iv (gW (pX (seF (inF (pX X) i kd ln, pH X, (pA X) + 1, pS X))))]), (a 1, ia T.2.1 100 (gK (pX (seF (inF (pX X) i kd ln, pH X, (pA X) + 1, pS X))))), (a 2, ia T.2.1 100 (gL (pX (seF (inF (pX X) i kd ln, pH X, (pA X) + 1, pS X))))), (a 3, ia T.2.2.1 100 (gM (pX (seF (inF (pX X) i kd ln, pH X, (pA X) + 1, pS X))))), (a 4, ia T.2.1 3 (gS (pX (seF (inF (pX X) i kd ln, pH X, (pA X) + 1, pS X))))), (a 5, ia T.2.1 3 (gC (pX (seF (inF (pX X) i kd ln, pH X, (pA X) + 1, pS X)))))]) (rest := []) (As := []) (st' := []) hM (ct_X3_settle M.2.1 T a (inF (pX X) i kd ln, pH X, (pA X) + 1, pS X) hPs) gX3_putIn_X3_settle rfl ⟨rfl, rfl⟩ hy_X3_settle rfl ⟨by decide, by decide⟩ [0, 1, 2, 3, 4, 5, 6] rfl rfl rfl 0 3 rfl rfl rfl rfl rfl (Nat.le_of_ble_eq_true rfl) ⟨by decide, by decide⟩ rfl dX3_putIn_94 ?_
              have hf94_4 := (WW_se hPs).2
              have hf94_5 := (WW_se hPs).1
              have hw94_2 := (WW_se hPs).1.1.1
              refine xr_aload_n hM 0 dX3_putIn_97 rfl rfl ?_
              refine xr_get (C := RX3) (TT0 := TX3) (N := 4) hM 3 0 0 (fun _ h => List.mem_cons_of_mem _ (List.mem_append_left _ (List.mem_append_right _ h))) rfl rfl (by decide) (List.mem_of_getElem? (i := 1) rfl) rfl rfl dX3_putIn_98 ?_
              refine xr_callVr (rest := []) (As := []) (st' := [iv (tpF (pX (seF (inF (pX X) i kd ln, pH X, (pA X) + 1, pS X))) (gN (pX (seF (inF (pX X) i kd ln, pH X, (pA X) + 1, pS X)))).toNat)]) hM (ct_X1_total M.2.1 T a (pX (seF (inF (pX X) i kd ln, pH X, (pA X) + 1, pS X))) hw94_2) gX3_putIn_X1_total rfl ⟨rfl, rfl⟩ hy_X1_total rfl ⟨by decide, by decide⟩ [1, 2, 3, 4, 5, 6] rfl rfl 0 1 rfl rfl rfl rfl rfl (Nat.le_of_ble_eq_true rfl) ⟨by decide, by decide⟩ dX3_putIn_101 ?_
              have hf101_2 := tpF_b hw94_2 (gN (pX (seF (inF (pX X) i kd ln, pH X, (pA X) + 1, pS X)))).toNat
              exact xr_iret hF dX3_putIn_104 (by rw [puR, if_neg (by omega), if_neg (by omega), if_pos (by omega)] <;> rfl) (by rw [puR, if_neg (by omega), if_neg (by omega), if_pos (by omega)] <;> rfl)
        · refine xr_ldc hM (-100003) (List.mem_of_getElem? (i := 4) rfl) (by decide) dX3_putIn_52 ?_
          exact xr_iret hF dX3_putIn_54 (by rw [puR, if_neg (by omega), if_pos (by omega)] <;> rfl) (by rw [puR, if_neg (by omega), if_pos (by omega)] <;> rfl)
      · refine xr_ldc hM (-100001) (List.mem_of_getElem? (i := 3) rfl) (by decide) dX3_putIn_37 ?_
        exact xr_iret hF dX3_putIn_39 (by rw [puR, if_pos (by omega)] <;> rfl) (by rw [puR, if_pos (by omega)] <;> rfl)

theorem ct_X3_takeOut (l : Launch) (T : TT) (a : Nat → Nat) (X : WnS) (i : Int) (hX : WW X) (hi : -2147483648 ≤ i ∧ i < 2147483648) : CT l yX3_takeOut wsX3_takeOut rm_X3_takeOut T [.ref (a 6), iv i] (winE T a X) (some (iv ((cuR X i).1))) (winE T a ((cuR X i).2)) := by
  refine CT.Z (maxL := 3) (lv0 := [(0, .ref (a 6)), (1, iv i)]) hp_X3_takeOut rfl (Nat.le_of_ble_eq_true rfl) rfl rfl (fun M hM hF => ?_)
  have hP := hX.1
  have hn := hX.1.1.1
  have hwd := hX.1.1.2.1
  have hHH := hX.1.2.1
  have hAn := hX.1.2.2.2.1
  have hA0 := hX.1.2.2.1
  have hSb := hX.1.2.2.2.2
  have hSs := hX.2
  refine xr_aload_n hM 0 dX3_takeOut_0 rfl rfl ?_
  refine xr_get (C := RX3) (TT0 := TX3) (N := 4) hM 3 0 0 (fun _ h => List.mem_cons_of_mem _ (List.mem_append_left _ (List.mem_append_right _ h))) rfl rfl (by decide) (List.mem_of_getElem? (i := 1) rfl) rfl rfl dX3_takeOut_1 ?_
  refine xr_iload_n hM 1 dX3_takeOut_4 rfl rfl ?_
  refine xr_callVr (rest := []) (As := [iv i]) (st' := [iv (bi (0 ≤ i ∧ i < gN (pX X)))]) hM (ct_X1_isLine M.2.1 T a (pX X) i hX.1.1 (by omega)) gX3_takeOut_X1_isLine rfl ⟨rfl, rfl⟩ hy_X1_isLine rfl ⟨by decide, by decide⟩ [1, 2, 3, 4, 5, 6] rfl rfl 0 1 rfl rfl rfl rfl rfl (Nat.le_of_ble_eq_true rfl) ⟨by decide, by decide⟩ dX3_takeOut_5 ?_
  refine xr_ifb_ne hM 14 dX3_takeOut_8 (by decide) (fun c8 => ?_) (fun c8 => ?_)
  · refine xr_iload_n hM 1 dX3_takeOut_14 rfl rfl ?_
    refine xr_aload_n hM 0 dX3_takeOut_15 rfl rfl ?_
    refine xr_get (C := RX3) (TT0 := TX3) (N := 4) hM 3 0 0 (fun _ h => List.mem_cons_of_mem _ (List.mem_append_left _ (List.mem_append_right _ h))) rfl rfl (by decide) (List.mem_of_getElem? (i := 1) rfl) rfl rfl dX3_takeOut_16 ?_
    refine xr_get (C := RX1) (TT0 := TX1) (N := 7) hM 1 1 5 (fun _ h => List.mem_cons_of_mem _ (List.mem_append_right _ h)) rfl rfl (by decide) (List.mem_of_getElem? (i := 3) rfl) rfl rfl dX3_takeOut_19 ?_
    refine xr_iconst hM dX3_takeOut_22 ?_
    refine xr_isub hM dX3_takeOut_23 ?_
    refine xr_icmp_ne hM 31 dX3_takeOut_24 (by decide) (by omega) (fun c24 => ?_) (fun c24 => ?_)
    · refine xr_iconst hM dX3_takeOut_31 ?_
      refine xr_istore_n (lv' := [(0, .ref (a 6)), (1, iv i), (2, iv 0)]) hM dX3_takeOut_32 rfl (by decide) rfl rfl ?_
      refine xr_aload_n hM 0 dX3_takeOut_33 rfl rfl ?_
      refine xr_get (C := RX3) (TT0 := TX3) (N := 4) hM 3 0 0 (fun _ h => List.mem_cons_of_mem _ (List.mem_append_left _ (List.mem_append_right _ h))) rfl rfl (by decide) (List.mem_of_getElem? (i := 1) rfl) rfl rfl dX3_takeOut_34 ?_
      refine xr_iload_n hM 1 dX3_takeOut_37 rfl rfl ?_
      refine xr_callV (ws' := [(a 6, ob 3 [.ref (a 0), iv (pH X), iv (pA X), iv (pS X)]), (a 0, ob 1 [.ref (a 1), .ref (a 2), .ref (a 3), .ref (a 4), .ref (a 5), iv (gN (rmF (pX X) i)), iv (gW (rmF (pX X) i))]), (a 1, ia T.2.1 100 (gK (rmF (pX X) i))), (a 2, ia T.2.1 100 (gL (rmF (pX X) i))), (a 3, ia T.2.2.1 100 (gM (rmF (pX X) i))), (a 4, ia T.2.1 3 (gS (rmF (pX X) i))), (a 5, ia T.2.1 3 (gC (rmF (pX X) i)))]) (rest := []) (As := [iv i]) (st' := []) hM (ct_X1_remove M.2.1 T a (pX X) i hX.1.1 (by omega)) gX3_takeOut_X1_remove rfl ⟨rfl, rfl⟩ hy_X1_remove rfl ⟨by decide, by decide⟩ [1, 2, 3, 4, 5, 6] rfl rfl rfl 0 1 rfl rfl rfl rfl rfl (Nat.le_of_ble_eq_true rfl) ⟨by decide, by decide⟩ rfl dX3_takeOut_38 ?_
      have hf38 := rmF_N (pX X) i
      have hf38_1 := rmF_W (pX X) i
      have hw38 := (WFL_rm hX.1.1 (by omega) : WFL (rmF (pX X) i))
      refine xr_iload_n hM 1 dX3_takeOut_41 rfl rfl ?_
      refine xr_aload_n hM 0 dX3_takeOut_42 rfl rfl ?_
      refine xr_get (C := RX3) (TT0 := TX3) (N := 4) hM 3 0 2 (fun _ h => List.mem_cons_of_mem _ (List.mem_append_left _ (List.mem_append_right _ h))) rfl rfl (by decide) (List.mem_of_getElem? (i := 4) rfl) rfl rfl dX3_takeOut_43 ?_
      refine xr_icmp_ne hM 54 dX3_takeOut_46 (by decide) (by omega) (fun c46 => ?_) (fun c46 => ?_)
      · refine xr_iload_n hM 1 dX3_takeOut_54 rfl rfl ?_
        refine xr_aload_n hM 0 dX3_takeOut_55 rfl rfl ?_
        refine xr_get (C := RX3) (TT0 := TX3) (N := 4) hM 3 0 2 (fun _ h => List.mem_cons_of_mem _ (List.mem_append_left _ (List.mem_append_right _ h))) rfl rfl (by decide) (List.mem_of_getElem? (i := 4) rfl) rfl rfl dX3_takeOut_56 ?_
        refine xr_icmp_lt hM 81 dX3_takeOut_59 (by decide) (by omega) (fun c59 => ?_) (fun c59 => ?_)
        · refine xr_aload_n hM 0 dX3_takeOut_81 rfl rfl ?_
          refine xr_dup hM dX3_takeOut_82 rfl ?_
          refine xr_get (C := RX3) (TT0 := TX3) (N := 4) hM 3 0 2 (fun _ h => List.mem_cons_of_mem _ (List.mem_append_left _ (List.mem_append_right _ h))) rfl rfl (by decide) (List.mem_of_getElem? (i := 4) rfl) rfl rfl dX3_takeOut_83 ?_
          refine xr_iconst hM dX3_takeOut_86 ?_
          refine xr_isub hM dX3_takeOut_87 ?_
          refine xr_put (ws' := [(a 6, ob 3 [.ref (a 0), iv (pH X), iv ((pA X) - 1), iv (pS X)]), (a 0, ob 1 [.ref (a 1), .ref (a 2), .ref (a 3), .ref (a 4), .ref (a 5), iv (gN (rmF (pX X) i)), iv (gW (rmF (pX X) i))]), (a 1, ia T.2.1 100 (gK (rmF (pX X) i))), (a 2, ia T.2.1 100 (gL (rmF (pX X) i))), (a 3, ia T.2.2.1 100 (gM (rmF (pX X) i))), (a 4, ia T.2.1 3 (gS (rmF (pX X) i))), (a 5, ia T.2.1 3 (gC (rmF (pX X) i)))]) (C := RX3) (TT0 := TX3) (N := 4) hM 3 0 2 (fun _ h => List.mem_cons_of_mem _ (List.mem_append_left _ (List.mem_append_right _ h))) tyX3 tyX3_ok nmX3 rfl rfl (by decide) (List.mem_of_getElem? (i := 4) rfl) rfl rfl rfl (Nat.le_of_ble_eq_true rfl) rfl dX3_takeOut_88 ?_
          have hPs : PW (rmF (pX X) i, pH X, (pA X) - 1, pS X) := by have q := (PW_cu hX (i := i) (by omega)).1; unfold cuP at q; rwa [if_pos (by omega), if_neg (by omega)] at q
          refine xr_aload_n hM 0 dX3_takeOut_91 rfl rfl ?_
          refine xr_callV (ws' := [(a 6, ob 3 [.ref (a 0), iv (pH (seF (rmF (pX X) i, pH X, (pA X) - 1, pS X))), iv (pA (seF (rmF (pX X) i, pH X, (pA X) - 1, pS X))), iv (pS (seF (rmF (pX X) i, pH X, (pA X) - 1, pS X)))]), (a 0, ob 1 [.ref (a 1), .ref (a 2), .ref (a 3), .ref (a 4), .ref (a 5), iv (gN (pX (seF (rmF (pX X) i, pH X, (pA X) - 1, pS X)))), iv (gW (pX (seF (rmF (pX X) i, pH X, (pA X) - 1, pS X))))]), (a 1, ia T.2.1 100 (gK (pX (seF (rmF (pX X) i, pH X, (pA X) - 1, pS X))))), (a 2, ia T.2.1 100 (gL (pX (seF (rmF (pX X) i, pH X, (pA X) - 1, pS X))))), (a 3, ia T.2.2.1 100 (gM (pX (seF (rmF (pX X) i, pH X, (pA X) - 1, pS X))))), (a 4, ia T.2.1 3 (gS (pX (seF (rmF (pX X) i, pH X, (pA X) - 1, pS X))))), (a 5, ia T.2.1 3 (gC (pX (seF (rmF (pX X) i, pH X, (pA X) - 1, pS X)))))]) (rest := []) (As := []) (st' := []) hM (ct_X3_settle M.2.1 T a (rmF (pX X) i, pH X, (pA X) - 1, pS X) hPs) gX3_takeOut_X3_settle rfl ⟨rfl, rfl⟩ hy_X3_settle rfl ⟨by decide, by decide⟩ [0, 1, 2, 3, 4, 5, 6] rfl rfl rfl 0 3 rfl rfl rfl rfl rfl (Nat.le_of_ble_eq_true rfl) ⟨by decide, by decide⟩ rfl dX3_takeOut_92 ?_
          have hf92 := (WW_se hPs).2
          have hf92_1 := (WW_se hPs).1
          have hw92 := (WW_se hPs).1.1.1
          refine xr_aload_n hM 0 dX3_takeOut_95 rfl rfl ?_
          refine xr_get (C := RX3) (TT0 := TX3) (N := 4) hM 3 0 0 (fun _ h => List.mem_cons_of_mem _ (List.mem_append_left _ (List.mem_append_right _ h))) rfl rfl (by decide) (List.mem_of_getElem? (i := 1) rfl) rfl rfl dX3_takeOut_96 ?_
          refine xr_get (C := RX1) (TT0 := TX1) (N := 7) hM 1 1 5 (fun _ h => List.mem_cons_of_mem _ (List.mem_append_right _ h)) rfl rfl (by decide) (List.mem_of_getElem? (i := 3) rfl) rfl rfl dX3_takeOut_99 ?_
          have hcu : cuR X i = _ := if_neg (by omega)
          rw [cuP, if_pos (by omega), if_neg (by omega)] at hcu
          exact xr_iret hF dX3_takeOut_102 (by rw [hcu]) (by rw [hcu]; rfl)
        · refine xr_iload_n hM 1 dX3_takeOut_62 rfl rfl ?_
          refine xr_aload_n hM 0 dX3_takeOut_63 rfl rfl ?_
          refine xr_get (C := RX3) (TT0 := TX3) (N := 4) hM 3 0 2 (fun _ h => List.mem_cons_of_mem _ (List.mem_append_left _ (List.mem_append_right _ h))) rfl rfl (by decide) (List.mem_of_getElem? (i := 4) rfl) rfl rfl dX3_takeOut_64 ?_
          refine xr_icmp_ne hM 91 dX3_takeOut_67 (by decide) (by omega) (fun c67 => ?_) (fun c67 => ?_)
          · have hPs : PW (rmF (pX X) i, pH X, pA X, pS X) := by have q := (PW_cu hX (i := i) (by omega)).1; unfold cuP at q; rwa [if_neg (by omega), if_neg (by omega)] at q
            refine xr_aload_n hM 0 dX3_takeOut_91 rfl rfl ?_
            refine xr_callV (ws' := [(a 6, ob 3 [.ref (a 0), iv (pH (seF (rmF (pX X) i, pH X, pA X, pS X))), iv (pA (seF (rmF (pX X) i, pH X, pA X, pS X))), iv (pS (seF (rmF (pX X) i, pH X, pA X, pS X)))]), (a 0, ob 1 [.ref (a 1), .ref (a 2), .ref (a 3), .ref (a 4), .ref (a 5), iv (gN (pX (seF (rmF (pX X) i, pH X, pA X, pS X)))), iv (gW (pX (seF (rmF (pX X) i, pH X, pA X, pS X))))]), (a 1, ia T.2.1 100 (gK (pX (seF (rmF (pX X) i, pH X, pA X, pS X))))), (a 2, ia T.2.1 100 (gL (pX (seF (rmF (pX X) i, pH X, pA X, pS X))))), (a 3, ia T.2.2.1 100 (gM (pX (seF (rmF (pX X) i, pH X, pA X, pS X))))), (a 4, ia T.2.1 3 (gS (pX (seF (rmF (pX X) i, pH X, pA X, pS X))))), (a 5, ia T.2.1 3 (gC (pX (seF (rmF (pX X) i, pH X, pA X, pS X)))))]) (rest := []) (As := []) (st' := []) hM (ct_X3_settle M.2.1 T a (rmF (pX X) i, pH X, pA X, pS X) hPs) gX3_takeOut_X3_settle rfl ⟨rfl, rfl⟩ hy_X3_settle rfl ⟨by decide, by decide⟩ [0, 1, 2, 3, 4, 5, 6] rfl rfl rfl 0 3 rfl rfl rfl rfl rfl (Nat.le_of_ble_eq_true rfl) ⟨by decide, by decide⟩ rfl dX3_takeOut_92 ?_
            have hf92_2 := (WW_se hPs).2
            have hf92_3 := (WW_se hPs).1
            have hw92_1 := (WW_se hPs).1.1.1
            refine xr_aload_n hM 0 dX3_takeOut_95 rfl rfl ?_
            refine xr_get (C := RX3) (TT0 := TX3) (N := 4) hM 3 0 0 (fun _ h => List.mem_cons_of_mem _ (List.mem_append_left _ (List.mem_append_right _ h))) rfl rfl (by decide) (List.mem_of_getElem? (i := 1) rfl) rfl rfl dX3_takeOut_96 ?_
            refine xr_get (C := RX1) (TT0 := TX1) (N := 7) hM 1 1 5 (fun _ h => List.mem_cons_of_mem _ (List.mem_append_right _ h)) rfl rfl (by decide) (List.mem_of_getElem? (i := 3) rfl) rfl rfl dX3_takeOut_99 ?_
            have hcu : cuR X i = _ := if_neg (by omega)
            rw [cuP, if_neg (by omega), if_neg (by omega)] at hcu
            exact xr_iret hF dX3_takeOut_102 (by rw [hcu]) (by rw [hcu]; rfl)
          · refine xr_iload_n hM 2 dX3_takeOut_70 rfl rfl ?_
            refine xr_if_eq hM 91 dX3_takeOut_71 (by decide) (by omega) (fun c71 => ?_) (fun c71 => by exfalso; omega)
            have hPs : PW (rmF (pX X) i, pH X, pA X, pS X) := by have q := (PW_cu hX (i := i) (by omega)).1; unfold cuP at q; rwa [if_neg (by omega), if_neg (by omega)] at q
            refine xr_aload_n hM 0 dX3_takeOut_91 rfl rfl ?_
            refine xr_callV (ws' := [(a 6, ob 3 [.ref (a 0), iv (pH (seF (rmF (pX X) i, pH X, pA X, pS X))), iv (pA (seF (rmF (pX X) i, pH X, pA X, pS X))), iv (pS (seF (rmF (pX X) i, pH X, pA X, pS X)))]), (a 0, ob 1 [.ref (a 1), .ref (a 2), .ref (a 3), .ref (a 4), .ref (a 5), iv (gN (pX (seF (rmF (pX X) i, pH X, pA X, pS X)))), iv (gW (pX (seF (rmF (pX X) i, pH X, pA X, pS X))))]), (a 1, ia T.2.1 100 (gK (pX (seF (rmF (pX X) i, pH X, pA X, pS X))))), (a 2, ia T.2.1 100 (gL (pX (seF (rmF (pX X) i, pH X, pA X, pS X))))), (a 3, ia T.2.2.1 100 (gM (pX (seF (rmF (pX X) i, pH X, pA X, pS X))))), (a 4, ia T.2.1 3 (gS (pX (seF (rmF (pX X) i, pH X, pA X, pS X))))), (a 5, ia T.2.1 3 (gC (pX (seF (rmF (pX X) i, pH X, pA X, pS X)))))]) (rest := []) (As := []) (st' := []) hM (ct_X3_settle M.2.1 T a (rmF (pX X) i, pH X, pA X, pS X) hPs) gX3_takeOut_X3_settle rfl ⟨rfl, rfl⟩ hy_X3_settle rfl ⟨by decide, by decide⟩ [0, 1, 2, 3, 4, 5, 6] rfl rfl rfl 0 3 rfl rfl rfl rfl rfl (Nat.le_of_ble_eq_true rfl) ⟨by decide, by decide⟩ rfl dX3_takeOut_92 ?_
            have hf92_4 := (WW_se hPs).2
            have hf92_5 := (WW_se hPs).1
            have hw92_2 := (WW_se hPs).1.1.1
            refine xr_aload_n hM 0 dX3_takeOut_95 rfl rfl ?_
            refine xr_get (C := RX3) (TT0 := TX3) (N := 4) hM 3 0 0 (fun _ h => List.mem_cons_of_mem _ (List.mem_append_left _ (List.mem_append_right _ h))) rfl rfl (by decide) (List.mem_of_getElem? (i := 1) rfl) rfl rfl dX3_takeOut_96 ?_
            refine xr_get (C := RX1) (TT0 := TX1) (N := 7) hM 1 1 5 (fun _ h => List.mem_cons_of_mem _ (List.mem_append_right _ h)) rfl rfl (by decide) (List.mem_of_getElem? (i := 3) rfl) rfl rfl dX3_takeOut_99 ?_
            have hcu : cuR X i = _ := if_neg (by omega)
            rw [cuP, if_neg (by omega), if_neg (by omega)] at hcu
            exact xr_iret hF dX3_takeOut_102 (by rw [hcu]) (by rw [hcu]; rfl)
      · refine xr_aload_n hM 0 dX3_takeOut_49 rfl rfl ?_
        refine xr_iconst hM dX3_takeOut_50 ?_
        refine xr_put (ws' := [(a 6, ob 3 [.ref (a 0), iv (pH X), iv (pA X), iv 0]), (a 0, ob 1 [.ref (a 1), .ref (a 2), .ref (a 3), .ref (a 4), .ref (a 5), iv (gN (rmF (pX X) i)), iv (gW (rmF (pX X) i))]), (a 1, ia T.2.1 100 (gK (rmF (pX X) i))), (a 2, ia T.2.1 100 (gL (rmF (pX X) i))), (a 3, ia T.2.2.1 100 (gM (rmF (pX X) i))), (a 4, ia T.2.1 3 (gS (rmF (pX X) i))), (a 5, ia T.2.1 3 (gC (rmF (pX X) i)))]) (C := RX3) (TT0 := TX3) (N := 4) hM 3 0 3 (fun _ h => List.mem_cons_of_mem _ (List.mem_append_left _ (List.mem_append_right _ h))) tyX3 tyX3_ok nmX3 rfl rfl (by decide) (List.mem_of_getElem? (i := 5) rfl) rfl rfl rfl (Nat.le_of_ble_eq_true rfl) rfl dX3_takeOut_51 ?_
        refine xr_iload_n hM 1 dX3_takeOut_54 rfl rfl ?_
        refine xr_aload_n hM 0 dX3_takeOut_55 rfl rfl ?_
        refine xr_get (C := RX3) (TT0 := TX3) (N := 4) hM 3 0 2 (fun _ h => List.mem_cons_of_mem _ (List.mem_append_left _ (List.mem_append_right _ h))) rfl rfl (by decide) (List.mem_of_getElem? (i := 4) rfl) rfl rfl dX3_takeOut_56 ?_
        refine xr_icmp_lt hM 81 dX3_takeOut_59 (by decide) (by omega) (fun c59_1 => ?_) (fun c59_1 => ?_)
        · refine xr_aload_n hM 0 dX3_takeOut_81 rfl rfl ?_
          refine xr_dup hM dX3_takeOut_82 rfl ?_
          refine xr_get (C := RX3) (TT0 := TX3) (N := 4) hM 3 0 2 (fun _ h => List.mem_cons_of_mem _ (List.mem_append_left _ (List.mem_append_right _ h))) rfl rfl (by decide) (List.mem_of_getElem? (i := 4) rfl) rfl rfl dX3_takeOut_83 ?_
          refine xr_iconst hM dX3_takeOut_86 ?_
          refine xr_isub hM dX3_takeOut_87 ?_
          refine xr_put (ws' := [(a 6, ob 3 [.ref (a 0), iv (pH X), iv ((pA X) - 1), iv 0]), (a 0, ob 1 [.ref (a 1), .ref (a 2), .ref (a 3), .ref (a 4), .ref (a 5), iv (gN (rmF (pX X) i)), iv (gW (rmF (pX X) i))]), (a 1, ia T.2.1 100 (gK (rmF (pX X) i))), (a 2, ia T.2.1 100 (gL (rmF (pX X) i))), (a 3, ia T.2.2.1 100 (gM (rmF (pX X) i))), (a 4, ia T.2.1 3 (gS (rmF (pX X) i))), (a 5, ia T.2.1 3 (gC (rmF (pX X) i)))]) (C := RX3) (TT0 := TX3) (N := 4) hM 3 0 2 (fun _ h => List.mem_cons_of_mem _ (List.mem_append_left _ (List.mem_append_right _ h))) tyX3 tyX3_ok nmX3 rfl rfl (by decide) (List.mem_of_getElem? (i := 4) rfl) rfl rfl rfl (Nat.le_of_ble_eq_true rfl) rfl dX3_takeOut_88 ?_
          have hPs : PW (rmF (pX X) i, pH X, (pA X) - 1, 0) := by have q := (PW_cu hX (i := i) (by omega)).1; unfold cuP at q; rwa [if_pos (by omega), if_pos (by omega)] at q
          refine xr_aload_n hM 0 dX3_takeOut_91 rfl rfl ?_
          refine xr_callV (ws' := [(a 6, ob 3 [.ref (a 0), iv (pH (seF (rmF (pX X) i, pH X, (pA X) - 1, 0))), iv (pA (seF (rmF (pX X) i, pH X, (pA X) - 1, 0))), iv (pS (seF (rmF (pX X) i, pH X, (pA X) - 1, 0)))]), (a 0, ob 1 [.ref (a 1), .ref (a 2), .ref (a 3), .ref (a 4), .ref (a 5), iv (gN (pX (seF (rmF (pX X) i, pH X, (pA X) - 1, 0)))), iv (gW (pX (seF (rmF (pX X) i, pH X, (pA X) - 1, 0))))]), (a 1, ia T.2.1 100 (gK (pX (seF (rmF (pX X) i, pH X, (pA X) - 1, 0))))), (a 2, ia T.2.1 100 (gL (pX (seF (rmF (pX X) i, pH X, (pA X) - 1, 0))))), (a 3, ia T.2.2.1 100 (gM (pX (seF (rmF (pX X) i, pH X, (pA X) - 1, 0))))), (a 4, ia T.2.1 3 (gS (pX (seF (rmF (pX X) i, pH X, (pA X) - 1, 0))))), (a 5, ia T.2.1 3 (gC (pX (seF (rmF (pX X) i, pH X, (pA X) - 1, 0)))))]) (rest := []) (As := []) (st' := []) hM (ct_X3_settle M.2.1 T a (rmF (pX X) i, pH X, (pA X) - 1, 0) hPs) gX3_takeOut_X3_settle rfl ⟨rfl, rfl⟩ hy_X3_settle rfl ⟨by decide, by decide⟩ [0, 1, 2, 3, 4, 5, 6] rfl rfl rfl 0 3 rfl rfl rfl rfl rfl (Nat.le_of_ble_eq_true rfl) ⟨by decide, by decide⟩ rfl dX3_takeOut_92 ?_
          have hf92_6 := (WW_se hPs).2
          have hf92_7 := (WW_se hPs).1
          have hw92_3 := (WW_se hPs).1.1.1
          refine xr_aload_n hM 0 dX3_takeOut_95 rfl rfl ?_
          refine xr_get (C := RX3) (TT0 := TX3) (N := 4) hM 3 0 0 (fun _ h => List.mem_cons_of_mem _ (List.mem_append_left _ (List.mem_append_right _ h))) rfl rfl (by decide) (List.mem_of_getElem? (i := 1) rfl) rfl rfl dX3_takeOut_96 ?_
          refine xr_get (C := RX1) (TT0 := TX1) (N := 7) hM 1 1 5 (fun _ h => List.mem_cons_of_mem _ (List.mem_append_right _ h)) rfl rfl (by decide) (List.mem_of_getElem? (i := 3) rfl) rfl rfl dX3_takeOut_99 ?_
          have hcu : cuR X i = _ := if_neg (by omega)
          rw [cuP, if_pos (by omega), if_pos (by omega)] at hcu
          exact xr_iret hF dX3_takeOut_102 (by rw [hcu]) (by rw [hcu]; rfl)
        · refine xr_iload_n hM 1 dX3_takeOut_62 rfl rfl ?_
          refine xr_aload_n hM 0 dX3_takeOut_63 rfl rfl ?_
          refine xr_get (C := RX3) (TT0 := TX3) (N := 4) hM 3 0 2 (fun _ h => List.mem_cons_of_mem _ (List.mem_append_left _ (List.mem_append_right _ h))) rfl rfl (by decide) (List.mem_of_getElem? (i := 4) rfl) rfl rfl dX3_takeOut_64 ?_
          refine xr_icmp_ne hM 91 dX3_takeOut_67 (by decide) (by omega) (fun c67_1 => ?_) (fun c67_1 => ?_)
          · have hPs : PW (rmF (pX X) i, pH X, pA X, 0) := by have q := (PW_cu hX (i := i) (by omega)).1; unfold cuP at q; rwa [if_neg (by omega), if_pos (by omega)] at q
            refine xr_aload_n hM 0 dX3_takeOut_91 rfl rfl ?_
            refine xr_callV (ws' := [(a 6, ob 3 [.ref (a 0), iv (pH (seF (rmF (pX X) i, pH X, pA X, 0))), iv (pA (seF (rmF (pX X) i, pH X, pA X, 0))), iv (pS (seF (rmF (pX X) i, pH X, pA X, 0)))]), (a 0, ob 1 [.ref (a 1), .ref (a 2), .ref (a 3), .ref (a 4), .ref (a 5), iv (gN (pX (seF (rmF (pX X) i, pH X, pA X, 0)))), iv (gW (pX (seF (rmF (pX X) i, pH X, pA X, 0))))]), (a 1, ia T.2.1 100 (gK (pX (seF (rmF (pX X) i, pH X, pA X, 0))))), (a 2, ia T.2.1 100 (gL (pX (seF (rmF (pX X) i, pH X, pA X, 0))))), (a 3, ia T.2.2.1 100 (gM (pX (seF (rmF (pX X) i, pH X, pA X, 0))))), (a 4, ia T.2.1 3 (gS (pX (seF (rmF (pX X) i, pH X, pA X, 0))))), (a 5, ia T.2.1 3 (gC (pX (seF (rmF (pX X) i, pH X, pA X, 0)))))]) (rest := []) (As := []) (st' := []) hM (ct_X3_settle M.2.1 T a (rmF (pX X) i, pH X, pA X, 0) hPs) gX3_takeOut_X3_settle rfl ⟨rfl, rfl⟩ hy_X3_settle rfl ⟨by decide, by decide⟩ [0, 1, 2, 3, 4, 5, 6] rfl rfl rfl 0 3 rfl rfl rfl rfl rfl (Nat.le_of_ble_eq_true rfl) ⟨by decide, by decide⟩ rfl dX3_takeOut_92 ?_
            have hf92_8 := (WW_se hPs).2
            have hf92_9 := (WW_se hPs).1
            have hw92_4 := (WW_se hPs).1.1.1
            refine xr_aload_n hM 0 dX3_takeOut_95 rfl rfl ?_
            refine xr_get (C := RX3) (TT0 := TX3) (N := 4) hM 3 0 0 (fun _ h => List.mem_cons_of_mem _ (List.mem_append_left _ (List.mem_append_right _ h))) rfl rfl (by decide) (List.mem_of_getElem? (i := 1) rfl) rfl rfl dX3_takeOut_96 ?_
            refine xr_get (C := RX1) (TT0 := TX1) (N := 7) hM 1 1 5 (fun _ h => List.mem_cons_of_mem _ (List.mem_append_right _ h)) rfl rfl (by decide) (List.mem_of_getElem? (i := 3) rfl) rfl rfl dX3_takeOut_99 ?_
            have hcu : cuR X i = _ := if_neg (by omega)
            rw [cuP, if_neg (by omega), if_pos (by omega)] at hcu
            exact xr_iret hF dX3_takeOut_102 (by rw [hcu]) (by rw [hcu]; rfl)
          · refine xr_iload_n hM 2 dX3_takeOut_70 rfl rfl ?_
            refine xr_if_eq hM 91 dX3_takeOut_71 (by decide) (by omega) (fun c71_1 => ?_) (fun c71_1 => by exfalso; omega)
            have hPs : PW (rmF (pX X) i, pH X, pA X, 0) := by have q := (PW_cu hX (i := i) (by omega)).1; unfold cuP at q; rwa [if_neg (by omega), if_pos (by omega)] at q
            refine xr_aload_n hM 0 dX3_takeOut_91 rfl rfl ?_
            refine xr_callV (ws' := [(a 6, ob 3 [.ref (a 0), iv (pH (seF (rmF (pX X) i, pH X, pA X, 0))), iv (pA (seF (rmF (pX X) i, pH X, pA X, 0))), iv (pS (seF (rmF (pX X) i, pH X, pA X, 0)))]), (a 0, ob 1 [.ref (a 1), .ref (a 2), .ref (a 3), .ref (a 4), .ref (a 5), iv (gN (pX (seF (rmF (pX X) i, pH X, pA X, 0)))), iv (gW (pX (seF (rmF (pX X) i, pH X, pA X, 0))))]), (a 1, ia T.2.1 100 (gK (pX (seF (rmF (pX X) i, pH X, pA X, 0))))), (a 2, ia T.2.1 100 (gL (pX (seF (rmF (pX X) i, pH X, pA X, 0))))), (a 3, ia T.2.2.1 100 (gM (pX (seF (rmF (pX X) i, pH X, pA X, 0))))), (a 4, ia T.2.1 3 (gS (pX (seF (rmF (pX X) i, pH X, pA X, 0))))), (a 5, ia T.2.1 3 (gC (pX (seF (rmF (pX X) i, pH X, pA X, 0)))))]) (rest := []) (As := []) (st' := []) hM (ct_X3_settle M.2.1 T a (rmF (pX X) i, pH X, pA X, 0) hPs) gX3_takeOut_X3_settle rfl ⟨rfl, rfl⟩ hy_X3_settle rfl ⟨by decide, by decide⟩ [0, 1, 2, 3, 4, 5, 6] rfl rfl rfl 0 3 rfl rfl rfl rfl rfl (Nat.le_of_ble_eq_true rfl) ⟨by decide, by decide⟩ rfl dX3_takeOut_92 ?_
            have hf92_10 := (WW_se hPs).2
            have hf92_11 := (WW_se hPs).1
            have hw92_5 := (WW_se hPs).1.1.1
            refine xr_aload_n hM 0 dX3_takeOut_95 rfl rfl ?_
            refine xr_get (C := RX3) (TT0 := TX3) (N := 4) hM 3 0 0 (fun _ h => List.mem_cons_of_mem _ (List.mem_append_left _ (List.mem_append_right _ h))) rfl rfl (by decide) (List.mem_of_getElem? (i := 1) rfl) rfl rfl dX3_takeOut_96 ?_
            refine xr_get (C := RX1) (TT0 := TX1) (N := 7) hM 1 1 5 (fun _ h => List.mem_cons_of_mem _ (List.mem_append_right _ h)) rfl rfl (by decide) (List.mem_of_getElem? (i := 3) rfl) rfl rfl dX3_takeOut_99 ?_
            have hcu : cuR X i = _ := if_neg (by omega)
            rw [cuP, if_neg (by omega), if_pos (by omega)] at hcu
            exact xr_iret hF dX3_takeOut_102 (by rw [hcu]) (by rw [hcu]; rfl)
    · refine xr_iconst hM dX3_takeOut_27 ?_
      refine xr_goto hM 32 dX3_takeOut_28 (by decide) ?_
      refine xr_istore_n (lv' := [(0, .ref (a 6)), (1, iv i), (2, iv 1)]) hM dX3_takeOut_32 rfl (by decide) rfl rfl ?_
      refine xr_aload_n hM 0 dX3_takeOut_33 rfl rfl ?_
      refine xr_get (C := RX3) (TT0 := TX3) (N := 4) hM 3 0 0 (fun _ h => List.mem_cons_of_mem _ (List.mem_append_left _ (List.mem_append_right _ h))) rfl rfl (by decide) (List.mem_of_getElem? (i := 1) rfl) rfl rfl dX3_takeOut_34 ?_
      refine xr_iload_n hM 1 dX3_takeOut_37 rfl rfl ?_
      refine xr_callV (ws' := [(a 6, ob 3 [.ref (a 0), iv (pH X), iv (pA X), iv (pS X)]), (a 0, ob 1 [.ref (a 1), .ref (a 2), .ref (a 3), .ref (a 4), .ref (a 5), iv (gN (rmF (pX X) i)), iv (gW (rmF (pX X) i))]), (a 1, ia T.2.1 100 (gK (rmF (pX X) i))), (a 2, ia T.2.1 100 (gL (rmF (pX X) i))), (a 3, ia T.2.2.1 100 (gM (rmF (pX X) i))), (a 4, ia T.2.1 3 (gS (rmF (pX X) i))), (a 5, ia T.2.1 3 (gC (rmF (pX X) i)))]) (rest := []) (As := [iv i]) (st' := []) hM (ct_X1_remove M.2.1 T a (pX X) i hX.1.1 (by omega)) gX3_takeOut_X1_remove rfl ⟨rfl, rfl⟩ hy_X1_remove rfl ⟨by decide, by decide⟩ [1, 2, 3, 4, 5, 6] rfl rfl rfl 0 1 rfl rfl rfl rfl rfl (Nat.le_of_ble_eq_true rfl) ⟨by decide, by decide⟩ rfl dX3_takeOut_38 ?_
      have hf38_2 := rmF_N (pX X) i
      have hf38_3 := rmF_W (pX X) i
      have hw38_1 := (WFL_rm hX.1.1 (by omega) : WFL (rmF (pX X) i))
      refine xr_iload_n hM 1 dX3_takeOut_41 rfl rfl ?_
      refine xr_aload_n hM 0 dX3_takeOut_42 rfl rfl ?_
      refine xr_get (C := RX3) (TT0 := TX3) (N := 4) hM 3 0 2 (fun _ h => List.mem_cons_of_mem _ (List.mem_append_left _ (List.mem_append_right _ h))) rfl rfl (by decide) (List.mem_of_getElem? (i := 4) rfl) rfl rfl dX3_takeOut_43 ?_
      refine xr_icmp_ne hM 54 dX3_takeOut_46 (by decide) (by omega) (fun c46_1 => ?_) (fun c46_1 => ?_)
      · refine xr_iload_n hM 1 dX3_takeOut_54 rfl rfl ?_
        refine xr_aload_n hM 0 dX3_takeOut_55 rfl rfl ?_
        refine xr_get (C := RX3) (TT0 := TX3) (N := 4) hM 3 0 2 (fun _ h => List.mem_cons_of_mem _ (List.mem_append_left _ (List.mem_append_right _ h))) rfl rfl (by decide) (List.mem_of_getElem? (i := 4) rfl) rfl rfl dX3_takeOut_56 ?_
        refine xr_icmp_lt hM 81 dX3_takeOut_59 (by decide) (by omega) (fun c59_2 => ?_) (fun c59_2 => ?_)
        · refine xr_aload_n hM 0 dX3_takeOut_81 rfl rfl ?_
          refine xr_dup hM dX3_takeOut_82 rfl ?_
          refine xr_get (C := RX3) (TT0 := TX3) (N := 4) hM 3 0 2 (fun _ h => List.mem_cons_of_mem _ (List.mem_append_left _ (List.mem_append_right _ h))) rfl rfl (by decide) (List.mem_of_getElem? (i := 4) rfl) rfl rfl dX3_takeOut_83 ?_
          refine xr_iconst hM dX3_takeOut_86 ?_
          refine xr_isub hM dX3_takeOut_87 ?_
          refine xr_put (ws' := [(a 6, ob 3 [.ref (a 0), iv (pH X), iv ((pA X) - 1), iv (pS X)]), (a 0, ob 1 [.ref (a 1), .ref (a 2), .ref (a 3), .ref (a 4), .ref (a 5), iv (gN (rmF (pX X) i)), iv (gW (rmF (pX X) i))]), (a 1, ia T.2.1 100 (gK (rmF (pX X) i))), (a 2, ia T.2.1 100 (gL (rmF (pX X) i))), (a 3, ia T.2.2.1 100 (gM (rmF (pX X) i))), (a 4, ia T.2.1 3 (gS (rmF (pX X) i))), (a 5, ia T.2.1 3 (gC (rmF (pX X) i)))]) (C := RX3) (TT0 := TX3) (N := 4) hM 3 0 2 (fun _ h => List.mem_cons_of_mem _ (List.mem_append_left _ (List.mem_append_right _ h))) tyX3 tyX3_ok nmX3 rfl rfl (by decide) (List.mem_of_getElem? (i := 4) rfl) rfl rfl rfl (Nat.le_of_ble_eq_true rfl) rfl dX3_takeOut_88 ?_
          have hPs : PW (rmF (pX X) i, pH X, (pA X) - 1, pS X) := by have q := (PW_cu hX (i := i) (by omega)).1; unfold cuP at q; rwa [if_pos (by omega), if_neg (by omega)] at q
          refine xr_aload_n hM 0 dX3_takeOut_91 rfl rfl ?_
          refine xr_callV (ws' := [(a 6, ob 3 [.ref (a 0), iv (pH (seF (rmF (pX X) i, pH X, (pA X) - 1, pS X))), iv (pA (seF (rmF (pX X) i, pH X, (pA X) - 1, pS X))), iv (pS (seF (rmF (pX X) i, pH X, (pA X) - 1, pS X)))]), (a 0, ob 1 [.ref (a 1), .ref (a 2), .ref (a 3), .ref (a 4), .ref (a 5), iv (gN (pX (seF (rmF (pX X) i, pH X, (pA X) - 1, pS X)))), iv (gW (pX (seF (rmF (pX X) i, pH X, (pA X) - 1, pS X))))]), (a 1, ia T.2.1 100 (gK (pX (seF (rmF (pX X) i, pH X, (pA X) - 1, pS X))))), (a 2, ia T.2.1 100 (gL (pX (seF (rmF (pX X) i, pH X, (pA X) - 1, pS X))))), (a 3, ia T.2.2.1 100 (gM (pX (seF (rmF (pX X) i, pH X, (pA X) - 1, pS X))))), (a 4, ia T.2.1 3 (gS (pX (seF (rmF (pX X) i, pH X, (pA X) - 1, pS X))))), (a 5, ia T.2.1 3 (gC (pX (seF (rmF (pX X) i, pH X, (pA X) - 1, pS X)))))]) (rest := []) (As := []) (st' := []) hM (ct_X3_settle M.2.1 T a (rmF (pX X) i, pH X, (pA X) - 1, pS X) hPs) gX3_takeOut_X3_settle rfl ⟨rfl, rfl⟩ hy_X3_settle rfl ⟨by decide, by decide⟩ [0, 1, 2, 3, 4, 5, 6] rfl rfl rfl 0 3 rfl rfl rfl rfl rfl (Nat.le_of_ble_eq_true rfl) ⟨by decide, by decide⟩ rfl dX3_takeOut_92 ?_
          have hf92_12 := (WW_se hPs).2
          have hf92_13 := (WW_se hPs).1
          have hw92_6 := (WW_se hPs).1.1.1
          refine xr_aload_n hM 0 dX3_takeOut_95 rfl rfl ?_
          refine xr_get (C := RX3) (TT0 := TX3) (N := 4) hM 3 0 0 (fun _ h => List.mem_cons_of_mem _ (List.mem_append_left _ (List.mem_append_right _ h))) rfl rfl (by decide) (List.mem_of_getElem? (i := 1) rfl) rfl rfl dX3_takeOut_96 ?_
          refine xr_get (C := RX1) (TT0 := TX1) (N := 7) hM 1 1 5 (fun _ h => List.mem_cons_of_mem _ (List.mem_append_right _ h)) rfl rfl (by decide) (List.mem_of_getElem? (i := 3) rfl) rfl rfl dX3_takeOut_99 ?_
          have hcu : cuR X i = _ := if_neg (by omega)
          rw [cuP, if_pos (by omega), if_neg (by omega)] at hcu
          exact xr_iret hF dX3_takeOut_102 (by rw [hcu]) (by rw [hcu]; rfl)
        · refine xr_iload_n hM 1 dX3_takeOut_62 rfl rfl ?_
          refine xr_aload_n hM 0 dX3_takeOut_63 rfl rfl ?_
          refine xr_get (C := RX3) (TT0 := TX3) (N := 4) hM 3 0 2 (fun _ h => List.mem_cons_of_mem _ (List.mem_append_left _ (List.mem_append_right _ h))) rfl rfl (by decide) (List.mem_of_getElem? (i := 4) rfl) rfl rfl dX3_takeOut_64 ?_
          refine xr_icmp_ne hM 91 dX3_takeOut_67 (by decide) (by omega) (fun c67_2 => ?_) (fun c67_2 => ?_)
          · have hPs : PW (rmF (pX X) i, pH X, pA X, pS X) := by have q := (PW_cu hX (i := i) (by omega)).1; unfold cuP at q; rwa [if_neg (by omega), if_neg (by omega)] at q
            refine xr_aload_n hM 0 dX3_takeOut_91 rfl rfl ?_
            refine xr_callV (ws' := [(a 6, ob 3 [.ref (a 0), iv (pH (seF (rmF (pX X) i, pH X, pA X, pS X))), iv (pA (seF (rmF (pX X) i, pH X, pA X, pS X))), iv (pS (seF (rmF (pX X) i, pH X, pA X, pS X)))]), (a 0, ob 1 [.ref (a 1), .ref (a 2), .ref (a 3), .ref (a 4), .ref (a 5), iv (gN (pX (seF (rmF (pX X) i, pH X, pA X, pS X)))), iv (gW (pX (seF (rmF (pX X) i, pH X, pA X, pS X))))]), (a 1, ia T.2.1 100 (gK (pX (seF (rmF (pX X) i, pH X, pA X, pS X))))), (a 2, ia T.2.1 100 (gL (pX (seF (rmF (pX X) i, pH X, pA X, pS X))))), (a 3, ia T.2.2.1 100 (gM (pX (seF (rmF (pX X) i, pH X, pA X, pS X))))), (a 4, ia T.2.1 3 (gS (pX (seF (rmF (pX X) i, pH X, pA X, pS X))))), (a 5, ia T.2.1 3 (gC (pX (seF (rmF (pX X) i, pH X, pA X, pS X)))))]) (rest := []) (As := []) (st' := []) hM (ct_X3_settle M.2.1 T a (rmF (pX X) i, pH X, pA X, pS X) hPs) gX3_takeOut_X3_settle rfl ⟨rfl, rfl⟩ hy_X3_settle rfl ⟨by decide, by decide⟩ [0, 1, 2, 3, 4, 5, 6] rfl rfl rfl 0 3 rfl rfl rfl rfl rfl (Nat.le_of_ble_eq_true rfl) ⟨by decide, by decide⟩ rfl dX3_takeOut_92 ?_
            have hf92_14 := (WW_se hPs).2
            have hf92_15 := (WW_se hPs).1
            have hw92_7 := (WW_se hPs).1.1.1
            refine xr_aload_n hM 0 dX3_takeOut_95 rfl rfl ?_
            refine xr_get (C := RX3) (TT0 := TX3) (N := 4) hM 3 0 0 (fun _ h => List.mem_cons_of_mem _ (List.mem_append_left _ (List.mem_append_right _ h))) rfl rfl (by decide) (List.mem_of_getElem? (i := 1) rfl) rfl rfl dX3_takeOut_96 ?_
            refine xr_get (C := RX1) (TT0 := TX1) (N := 7) hM 1 1 5 (fun _ h => List.mem_cons_of_mem _ (List.mem_append_right _ h)) rfl rfl (by decide) (List.mem_of_getElem? (i := 3) rfl) rfl rfl dX3_takeOut_99 ?_
            have hcu : cuR X i = _ := if_neg (by omega)
            rw [cuP, if_neg (by omega), if_neg (by omega)] at hcu
            exact xr_iret hF dX3_takeOut_102 (by rw [hcu]) (by rw [hcu]; rfl)
          · refine xr_iload_n hM 2 dX3_takeOut_70 rfl rfl ?_
            refine xr_if_eq hM 91 dX3_takeOut_71 (by decide) (by omega) (fun c71_2 => by exfalso; omega) (fun c71_2 => ?_)
            refine xr_aload_n hM 0 dX3_takeOut_74 rfl rfl ?_
            refine xr_get (C := RX3) (TT0 := TX3) (N := 4) hM 3 0 2 (fun _ h => List.mem_cons_of_mem _ (List.mem_append_left _ (List.mem_append_right _ h))) rfl rfl (by decide) (List.mem_of_getElem? (i := 4) rfl) rfl rfl dX3_takeOut_75 ?_
            refine xr_if_le hM 91 dX3_takeOut_78 (by decide) (by omega) (fun c78 => ?_) (fun c78 => ?_)
            · have hPs : PW (rmF (pX X) i, pH X, pA X, pS X) := by have q := (PW_cu hX (i := i) (by omega)).1; unfold cuP at q; rwa [if_neg (by omega), if_neg (by omega)] at q
              refine xr_aload_n hM 0 dX3_takeOut_91 rfl rfl ?_
              refine xr_callV (ws' := [(a 6, ob 3 [.ref (a 0), iv (pH (seF (rmF (pX X) i, pH X, pA X, pS X))), iv (pA (seF (rmF (pX X) i, pH X, pA X, pS X))), iv (pS (seF (rmF (pX X) i, pH X, pA X, pS X)))]), (a 0, ob 1 [.ref (a 1), .ref (a 2), .ref (a 3), .ref (a 4), .ref (a 5), iv (gN (pX (seF (rmF (pX X) i, pH X, pA X, pS X)))), iv (gW (pX (seF (rmF (pX X) i, pH X, pA X, pS X))))]), (a 1, ia T.2.1 100 (gK (pX (seF (rmF (pX X) i, pH X, pA X, pS X))))), (a 2, ia T.2.1 100 (gL (pX (seF (rmF (pX X) i, pH X, pA X, pS X))))), (a 3, ia T.2.2.1 100 (gM (pX (seF (rmF (pX X) i, pH X, pA X, pS X))))), (a 4, ia T.2.1 3 (gS (pX (seF (rmF (pX X) i, pH X, pA X, pS X))))), (a 5, ia T.2.1 3 (gC (pX (seF (rmF (pX X) i, pH X, pA X, pS X)))))]) (rest := []) (As := []) (st' := []) hM (ct_X3_settle M.2.1 T a (rmF (pX X) i, pH X, pA X, pS X) hPs) gX3_takeOut_X3_settle rfl ⟨rfl, rfl⟩ hy_X3_settle rfl ⟨by decide, by decide⟩ [0, 1, 2, 3, 4, 5, 6] rfl rfl rfl 0 3 rfl rfl rfl rfl rfl (Nat.le_of_ble_eq_true rfl) ⟨by decide, by decide⟩ rfl dX3_takeOut_92 ?_
              have hf92_16 := (WW_se hPs).2
              have hf92_17 := (WW_se hPs).1
              have hw92_8 := (WW_se hPs).1.1.1
              refine xr_aload_n hM 0 dX3_takeOut_95 rfl rfl ?_
              refine xr_get (C := RX3) (TT0 := TX3) (N := 4) hM 3 0 0 (fun _ h => List.mem_cons_of_mem _ (List.mem_append_left _ (List.mem_append_right _ h))) rfl rfl (by decide) (List.mem_of_getElem? (i := 1) rfl) rfl rfl dX3_takeOut_96 ?_
              refine xr_get (C := RX1) (TT0 := TX1) (N := 7) hM 1 1 5 (fun _ h => List.mem_cons_of_mem _ (List.mem_append_right _ h)) rfl rfl (by decide) (List.mem_of_getElem? (i := 3) rfl) rfl rfl dX3_takeOut_99 ?_
              have hcu : cuR X i = _ := if_neg (by omega)
              rw [cuP, if_neg (by omega), if_neg (by omega)] at hcu
              exact xr_iret hF dX3_takeOut_102 (by rw [hcu]) (by rw [hcu]; rfl)
            · refine xr_aload_n hM 0 dX3_takeOut_81 rfl rfl ?_
              refine xr_dup hM dX3_takeOut_82 rfl ?_
              refine xr_get (C := RX3) (TT0 := TX3) (N := 4) hM 3 0 2 (fun _ h => List.mem_cons_of_mem _ (List.mem_append_left _ (List.mem_append_right _ h))) rfl rfl (by decide) (List.mem_of_getElem? (i := 4) rfl) rfl rfl dX3_takeOut_83 ?_
              refine xr_iconst hM dX3_takeOut_86 ?_
              refine xr_isub hM dX3_takeOut_87 ?_
              refine xr_put (ws' := [(a 6, ob 3 [.ref (a 0), iv (pH X), iv ((pA X) - 1), iv (pS X)]), (a 0, ob 1 [.ref (a 1), .ref (a 2), .ref (a 3), .ref (a 4), .ref (a 5), iv (gN (rmF (pX X) i)), iv (gW (rmF (pX X) i))]), (a 1, ia T.2.1 100 (gK (rmF (pX X) i))), (a 2, ia T.2.1 100 (gL (rmF (pX X) i))), (a 3, ia T.2.2.1 100 (gM (rmF (pX X) i))), (a 4, ia T.2.1 3 (gS (rmF (pX X) i))), (a 5, ia T.2.1 3 (gC (rmF (pX X) i)))]) (C := RX3) (TT0 := TX3) (N := 4) hM 3 0 2 (fun _ h => List.mem_cons_of_mem _ (List.mem_append_left _ (List.mem_append_right _ h))) tyX3 tyX3_ok nmX3 rfl rfl (by decide) (List.mem_of_getElem? (i := 4) rfl) rfl rfl rfl (Nat.le_of_ble_eq_true rfl) rfl dX3_takeOut_88 ?_
              have hPs : PW (rmF (pX X) i, pH X, (pA X) - 1, pS X) := by have q := (PW_cu hX (i := i) (by omega)).1; unfold cuP at q; rwa [if_pos (by omega), if_neg (by omega)] at q
              refine xr_aload_n hM 0 dX3_takeOut_91 rfl rfl ?_
              refine xr_callV (ws' := [(a 6, ob 3 [.ref (a 0), iv (pH (seF (rmF (pX X) i, pH X, (pA X) - 1, pS X))), iv (pA (seF (rmF (pX X) i, pH X, (pA X) - 1, pS X))), iv (pS (seF (rmF (pX X) i, pH X, (pA X) - 1, pS X)))]), (a 0, ob 1 [.ref (a 1), .ref (a 2), .ref (a 3), .ref (a 4), .ref (a 5), iv (gN (pX (seF (rmF (pX X) i, pH X, (pA X) - 1, pS X)))), iv (gW (pX (seF (rmF (pX X) i, pH X, (pA X) - 1, pS X))))]), (a 1, ia T.2.1 100 (gK (pX (seF (rmF (pX X) i, pH X, (pA X) - 1, pS X))))), (a 2, ia T.2.1 100 (gL (pX (seF (rmF (pX X) i, pH X, (pA X) - 1, pS X))))), (a 3, ia T.2.2.1 100 (gM (pX (seF (rmF (pX X) i, pH X, (pA X) - 1, pS X))))), (a 4, ia T.2.1 3 (gS (pX (seF (rmF (pX X) i, pH X, (pA X) - 1, pS X))))), (a 5, ia T.2.1 3 (gC (pX (seF (rmF (pX X) i, pH X, (pA X) - 1, pS X)))))]) (rest := []) (As := []) (st' := []) hM (ct_X3_settle M.2.1 T a (rmF (pX X) i, pH X, (pA X) - 1, pS X) hPs) gX3_takeOut_X3_settle rfl ⟨rfl, rfl⟩ hy_X3_settle rfl ⟨by decide, by decide⟩ [0, 1, 2, 3, 4, 5, 6] rfl rfl rfl 0 3 rfl rfl rfl rfl rfl (Nat.le_of_ble_eq_true rfl) ⟨by decide, by decide⟩ rfl dX3_takeOut_92 ?_
              have hf92_18 := (WW_se hPs).2
              have hf92_19 := (WW_se hPs).1
              have hw92_9 := (WW_se hPs).1.1.1
              refine xr_aload_n hM 0 dX3_takeOut_95 rfl rfl ?_
              refine xr_get (C := RX3) (TT0 := TX3) (N := 4) hM 3 0 0 (fun _ h => List.mem_cons_of_mem _ (List.mem_append_left _ (List.mem_append_right _ h))) rfl rfl (by decide) (List.mem_of_getElem? (i := 1) rfl) rfl rfl dX3_takeOut_96 ?_
              refine xr_get (C := RX1) (TT0 := TX1) (N := 7) hM 1 1 5 (fun _ h => List.mem_cons_of_mem _ (List.mem_append_right _ h)) rfl rfl (by decide) (List.mem_of_getElem? (i := 3) rfl) rfl rfl dX3_takeOut_99 ?_
              have hcu : cuR X i = _ := if_neg (by omega)
              rw [cuP, if_pos (by omega), if_neg (by omega)] at hcu
              exact xr_iret hF dX3_takeOut_102 (by rw [hcu]) (by rw [hcu]; rfl)
      · refine xr_aload_n hM 0 dX3_takeOut_49 rfl rfl ?_
        refine xr_iconst hM dX3_takeOut_50 ?_
        refine xr_put (ws' := [(a 6, ob 3 [.ref (a 0), iv (pH X), iv (pA X), iv 0]), (a 0, ob 1 [.ref (a 1), .ref (a 2), .ref (a 3), .ref (a 4), .ref (a 5), iv (gN (rmF (pX X) i)), iv (gW (rmF (pX X) i))]), (a 1, ia T.2.1 100 (gK (rmF (pX X) i))), (a 2, ia T.2.1 100 (gL (rmF (pX X) i))), (a 3, ia T.2.2.1 100 (gM (rmF (pX X) i))), (a 4, ia T.2.1 3 (gS (rmF (pX X) i))), (a 5, ia T.2.1 3 (gC (rmF (pX X) i)))]) (C := RX3) (TT0 := TX3) (N := 4) hM 3 0 3 (fun _ h => List.mem_cons_of_mem _ (List.mem_append_left _ (List.mem_append_right _ h))) tyX3 tyX3_ok nmX3 rfl rfl (by decide) (List.mem_of_getElem? (i := 5) rfl) rfl rfl rfl (Nat.le_of_ble_eq_true rfl) rfl dX3_takeOut_51 ?_
        refine xr_iload_n hM 1 dX3_takeOut_54 rfl rfl ?_
        refine xr_aload_n hM 0 dX3_takeOut_55 rfl rfl ?_
        refine xr_get (C := RX3) (TT0 := TX3) (N := 4) hM 3 0 2 (fun _ h => List.mem_cons_of_mem _ (List.mem_append_left _ (List.mem_append_right _ h))) rfl rfl (by decide) (List.mem_of_getElem? (i := 4) rfl) rfl rfl dX3_takeOut_56 ?_
        refine xr_icmp_lt hM 81 dX3_takeOut_59 (by decide) (by omega) (fun c59_3 => ?_) (fun c59_3 => ?_)
        · refine xr_aload_n hM 0 dX3_takeOut_81 rfl rfl ?_
          refine xr_dup hM dX3_takeOut_82 rfl ?_
          refine xr_get (C := RX3) (TT0 := TX3) (N := 4) hM 3 0 2 (fun _ h => List.mem_cons_of_mem _ (List.mem_append_left _ (List.mem_append_right _ h))) rfl rfl (by decide) (List.mem_of_getElem? (i := 4) rfl) rfl rfl dX3_takeOut_83 ?_
          refine xr_iconst hM dX3_takeOut_86 ?_
          refine xr_isub hM dX3_takeOut_87 ?_
          refine xr_put (ws' := [(a 6, ob 3 [.ref (a 0), iv (pH X), iv ((pA X) - 1), iv 0]), (a 0, ob 1 [.ref (a 1), .ref (a 2), .ref (a 3), .ref (a 4), .ref (a 5), iv (gN (rmF (pX X) i)), iv (gW (rmF (pX X) i))]), (a 1, ia T.2.1 100 (gK (rmF (pX X) i))), (a 2, ia T.2.1 100 (gL (rmF (pX X) i))), (a 3, ia T.2.2.1 100 (gM (rmF (pX X) i))), (a 4, ia T.2.1 3 (gS (rmF (pX X) i))), (a 5, ia T.2.1 3 (gC (rmF (pX X) i)))]) (C := RX3) (TT0 := TX3) (N := 4) hM 3 0 2 (fun _ h => List.mem_cons_of_mem _ (List.mem_append_left _ (List.mem_append_right _ h))) tyX3 tyX3_ok nmX3 rfl rfl (by decide) (List.mem_of_getElem? (i := 4) rfl) rfl rfl rfl (Nat.le_of_ble_eq_true rfl) rfl dX3_takeOut_88 ?_
          have hPs : PW (rmF (pX X) i, pH X, (pA X) - 1, 0) := by have q := (PW_cu hX (i := i) (by omega)).1; unfold cuP at q; rwa [if_pos (by omega), if_pos (by omega)] at q
          refine xr_aload_n hM 0 dX3_takeOut_91 rfl rfl ?_
          refine xr_callV (ws' := [(a 6, ob 3 [.ref (a 0), iv (pH (seF (rmF (pX X) i, pH X, (pA X) - 1, 0))), iv (pA (seF (rmF (pX X) i, pH X, (pA X) - 1, 0))), iv (pS (seF (rmF (pX X) i, pH X, (pA X) - 1, 0)))]), (a 0, ob 1 [.ref (a 1), .ref (a 2), .ref (a 3), .ref (a 4), .ref (a 5), iv (gN (pX (seF (rmF (pX X) i, pH X, (pA X) - 1, 0)))), iv (gW (pX (seF (rmF (pX X) i, pH X, (pA X) - 1, 0))))]), (a 1, ia T.2.1 100 (gK (pX (seF (rmF (pX X) i, pH X, (pA X) - 1, 0))))), (a 2, ia T.2.1 100 (gL (pX (seF (rmF (pX X) i, pH X, (pA X) - 1, 0))))), (a 3, ia T.2.2.1 100 (gM (pX (seF (rmF (pX X) i, pH X, (pA X) - 1, 0))))), (a 4, ia T.2.1 3 (gS (pX (seF (rmF (pX X) i, pH X, (pA X) - 1, 0))))), (a 5, ia T.2.1 3 (gC (pX (seF (rmF (pX X) i, pH X, (pA X) - 1, 0)))))]) (rest := []) (As := []) (st' := []) hM (ct_X3_settle M.2.1 T a (rmF (pX X) i, pH X, (pA X) - 1, 0) hPs) gX3_takeOut_X3_settle rfl ⟨rfl, rfl⟩ hy_X3_settle rfl ⟨by decide, by decide⟩ [0, 1, 2, 3, 4, 5, 6] rfl rfl rfl 0 3 rfl rfl rfl rfl rfl (Nat.le_of_ble_eq_true rfl) ⟨by decide, by decide⟩ rfl dX3_takeOut_92 ?_
          have hf92_20 := (WW_se hPs).2
          have hf92_21 := (WW_se hPs).1
          have hw92_10 := (WW_se hPs).1.1.1
          refine xr_aload_n hM 0 dX3_takeOut_95 rfl rfl ?_
          refine xr_get (C := RX3) (TT0 := TX3) (N := 4) hM 3 0 0 (fun _ h => List.mem_cons_of_mem _ (List.mem_append_left _ (List.mem_append_right _ h))) rfl rfl (by decide) (List.mem_of_getElem? (i := 1) rfl) rfl rfl dX3_takeOut_96 ?_
          refine xr_get (C := RX1) (TT0 := TX1) (N := 7) hM 1 1 5 (fun _ h => List.mem_cons_of_mem _ (List.mem_append_right _ h)) rfl rfl (by decide) (List.mem_of_getElem? (i := 3) rfl) rfl rfl dX3_takeOut_99 ?_
          have hcu : cuR X i = _ := if_neg (by omega)
          rw [cuP, if_pos (by omega), if_pos (by omega)] at hcu
          exact xr_iret hF dX3_takeOut_102 (by rw [hcu]) (by rw [hcu]; rfl)
        · refine xr_iload_n hM 1 dX3_takeOut_62 rfl rfl ?_
          refine xr_aload_n hM 0 dX3_takeOut_63 rfl rfl ?_
          refine xr_get (C := RX3) (TT0 := TX3) (N := 4) hM 3 0 2 (fun _ h => List.mem_cons_of_mem _ (List.mem_append_left _ (List.mem_append_right _ h))) rfl rfl (by decide) (List.mem_of_getElem? (i := 4) rfl) rfl rfl dX3_takeOut_64 ?_
          refine xr_icmp_ne hM 91 dX3_takeOut_67 (by decide) (by omega) (fun c67_3 => ?_) (fun c67_3 => ?_)
          · have hPs : PW (rmF (pX X) i, pH X, pA X, 0) := by have q := (PW_cu hX (i := i) (by omega)).1; unfold cuP at q; rwa [if_neg (by omega), if_pos (by omega)] at q
            refine xr_aload_n hM 0 dX3_takeOut_91 rfl rfl ?_
            refine xr_callV (ws' := [(a 6, ob 3 [.ref (a 0), iv (pH (seF (rmF (pX X) i, pH X, pA X, 0))), iv (pA (seF (rmF (pX X) i, pH X, pA X, 0))), iv (pS (seF (rmF (pX X) i, pH X, pA X, 0)))]), (a 0, ob 1 [.ref (a 1), .ref (a 2), .ref (a 3), .ref (a 4), .ref (a 5), iv (gN (pX (seF (rmF (pX X) i, pH X, pA X, 0)))), iv (gW (pX (seF (rmF (pX X) i, pH X, pA X, 0))))]), (a 1, ia T.2.1 100 (gK (pX (seF (rmF (pX X) i, pH X, pA X, 0))))), (a 2, ia T.2.1 100 (gL (pX (seF (rmF (pX X) i, pH X, pA X, 0))))), (a 3, ia T.2.2.1 100 (gM (pX (seF (rmF (pX X) i, pH X, pA X, 0))))), (a 4, ia T.2.1 3 (gS (pX (seF (rmF (pX X) i, pH X, pA X, 0))))), (a 5, ia T.2.1 3 (gC (pX (seF (rmF (pX X) i, pH X, pA X, 0)))))]) (rest := []) (As := []) (st' := []) hM (ct_X3_settle M.2.1 T a (rmF (pX X) i, pH X, pA X, 0) hPs) gX3_takeOut_X3_settle rfl ⟨rfl, rfl⟩ hy_X3_settle rfl ⟨by decide, by decide⟩ [0, 1, 2, 3, 4, 5, 6] rfl rfl rfl 0 3 rfl rfl rfl rfl rfl (Nat.le_of_ble_eq_true rfl) ⟨by decide, by decide⟩ rfl dX3_takeOut_92 ?_
            have hf92_22 := (WW_se hPs).2
            have hf92_23 := (WW_se hPs).1
            have hw92_11 := (WW_se hPs).1.1.1
            refine xr_aload_n hM 0 dX3_takeOut_95 rfl rfl ?_
            refine xr_get (C := RX3) (TT0 := TX3) (N := 4) hM 3 0 0 (fun _ h => List.mem_cons_of_mem _ (List.mem_append_left _ (List.mem_append_right _ h))) rfl rfl (by decide) (List.mem_of_getElem? (i := 1) rfl) rfl rfl dX3_takeOut_96 ?_
            refine xr_get (C := RX1) (TT0 := TX1) (N := 7) hM 1 1 5 (fun _ h => List.mem_cons_of_mem _ (List.mem_append_right _ h)) rfl rfl (by decide) (List.mem_of_getElem? (i := 3) rfl) rfl rfl dX3_takeOut_99 ?_
            have hcu : cuR X i = _ := if_neg (by omega)
            rw [cuP, if_neg (by omega), if_pos (by omega)] at hcu
            exact xr_iret hF dX3_takeOut_102 (by rw [hcu]) (by rw [hcu]; rfl)
          · refine xr_iload_n hM 2 dX3_takeOut_70 rfl rfl ?_
            refine xr_if_eq hM 91 dX3_takeOut_71 (by decide) (by omega) (fun c71_3 => by exfalso; omega) (fun c71_3 => ?_)
            refine xr_aload_n hM 0 dX3_takeOut_74 rfl rfl ?_
            refine xr_get (C := RX3) (TT0 := TX3) (N := 4) hM 3 0 2 (fun _ h => List.mem_cons_of_mem _ (List.mem_append_left _ (List.mem_append_right _ h))) rfl rfl (by decide) (List.mem_of_getElem? (i := 4) rfl) rfl rfl dX3_takeOut_75 ?_
            refine xr_if_le hM 91 dX3_takeOut_78 (by decide) (by omega) (fun c78_1 => ?_) (fun c78_1 => ?_)
            · have hPs : PW (rmF (pX X) i, pH X, pA X, 0) := by have q := (PW_cu hX (i := i) (by omega)).1; unfold cuP at q; rwa [if_neg (by omega), if_pos (by omega)] at q
              refine xr_aload_n hM 0 dX3_takeOut_91 rfl rfl ?_
              refine xr_callV (ws' := [(a 6, ob 3 [.ref (a 0), iv (pH (seF (rmF (pX X) i, pH X, pA X, 0))), iv (pA (seF (rmF (pX X) i, pH X, pA X, 0))), iv (pS (seF (rmF (pX X) i, pH X, pA X, 0)))]), (a 0, ob 1 [.ref (a 1), .ref (a 2), .ref (a 3), .ref (a 4), .ref (a 5), iv (gN (pX (seF (rmF (pX X) i, pH X, pA X, 0)))), iv (gW (pX (seF (rmF (pX X) i, pH X, pA X, 0))))]), (a 1, ia T.2.1 100 (gK (pX (seF (rmF (pX X) i, pH X, pA X, 0))))), (a 2, ia T.2.1 100 (gL (pX (seF (rmF (pX X) i, pH X, pA X, 0))))), (a 3, ia T.2.2.1 100 (gM (pX (seF (rmF (pX X) i, pH X, pA X, 0))))), (a 4, ia T.2.1 3 (gS (pX (seF (rmF (pX X) i, pH X, pA X, 0))))), (a 5, ia T.2.1 3 (gC (pX (seF (rmF (pX X) i, pH X, pA X, 0)))))]) (rest := []) (As := []) (st' := []) hM (ct_X3_settle M.2.1 T a (rmF (pX X) i, pH X, pA X, 0) hPs) gX3_takeOut_X3_settle rfl ⟨rfl, rfl⟩ hy_X3_settle rfl ⟨by decide, by decide⟩ [0, 1, 2, 3, 4, 5, 6] rfl rfl rfl 0 3 rfl rfl rfl rfl rfl (Nat.le_of_ble_eq_true rfl) ⟨by decide, by decide⟩ rfl dX3_takeOut_92 ?_
              have hf92_24 := (WW_se hPs).2
              have hf92_25 := (WW_se hPs).1
              have hw92_12 := (WW_se hPs).1.1.1
              refine xr_aload_n hM 0 dX3_takeOut_95 rfl rfl ?_
              refine xr_get (C := RX3) (TT0 := TX3) (N := 4) hM 3 0 0 (fun _ h => List.mem_cons_of_mem _ (List.mem_append_left _ (List.mem_append_right _ h))) rfl rfl (by decide) (List.mem_of_getElem? (i := 1) rfl) rfl rfl dX3_takeOut_96 ?_
              refine xr_get (C := RX1) (TT0 := TX1) (N := 7) hM 1 1 5 (fun _ h => List.mem_cons_of_mem _ (List.mem_append_right _ h)) rfl rfl (by decide) (List.mem_of_getElem? (i := 3) rfl) rfl rfl dX3_takeOut_99 ?_
              have hcu : cuR X i = _ := if_neg (by omega)
              rw [cuP, if_neg (by omega), if_pos (by omega)] at hcu
              exact xr_iret hF dX3_takeOut_102 (by rw [hcu]) (by rw [hcu]; rfl)
            · refine xr_aload_n hM 0 dX3_takeOut_81 rfl rfl ?_
              refine xr_dup hM dX3_takeOut_82 rfl ?_
              refine xr_get (C := RX3) (TT0 := TX3) (N := 4) hM 3 0 2 (fun _ h => List.mem_cons_of_mem _ (List.mem_append_left _ (List.mem_append_right _ h))) rfl rfl (by decide) (List.mem_of_getElem? (i := 4) rfl) rfl rfl dX3_takeOut_83 ?_
              refine xr_iconst hM dX3_takeOut_86 ?_
              refine xr_isub hM dX3_takeOut_87 ?_
              refine xr_put (ws' := [(a 6, ob 3 [.ref (a 0), iv (pH X), iv ((pA X) - 1), iv 0]), (a 0, ob 1 [.ref (a 1), .ref (a 2), .ref (a 3), .ref (a 4), .ref (a 5), iv (gN (rmF (pX X) i)), iv (gW (rmF (pX X) i))]), (a 1, ia T.2.1 100 (gK (rmF (pX X) i))), (a 2, ia T.2.1 100 (gL (rmF (pX X) i))), (a 3, ia T.2.2.1 100 (gM (rmF (pX X) i))), (a 4, ia T.2.1 3 (gS (rmF (pX X) i))), (a 5, ia T.2.1 3 (gC (rmF (pX X) i)))]) (C := RX3) (TT0 := TX3) (N := 4) hM 3 0 2 (fun _ h => List.mem_cons_of_mem _ (List.mem_append_left _ (List.mem_append_right _ h))) tyX3 tyX3_ok nmX3 rfl rfl (by decide) (List.mem_of_getElem? (i := 4) rfl) rfl rfl rfl (Nat.le_of_ble_eq_true rfl) rfl dX3_takeOut_88 ?_
              have hPs : PW (rmF (pX X) i, pH X, (pA X) - 1, 0) := by have q := (PW_cu hX (i := i) (by omega)).1; unfold cuP at q; rwa [if_pos (by omega), if_pos (by omega)] at q
              refine xr_aload_n hM 0 dX3_takeOut_91 rfl rfl ?_
              refine xr_callV (ws' := [(a 6, ob 3 [.ref (a 0), iv (pH (seF (rmF (pX X) i, pH X, (pA X) - 1, 0))), iv (pA (seF (rmF (pX X) i, pH X, (pA X) - 1, 0))), iv (pS (seF (rmF (pX X) i, pH X, (pA X) - 1, 0)))]), (a 0, ob 1 [.ref (a 1), .ref (a 2), .ref (a 3), .ref (a 4), .ref (a 5), iv (gN (pX (seF (rmF (pX X) i, pH X, (pA X) - 1, 0)))), iv (gW (pX (seF (rmF (pX X) i, pH X, (pA X) - 1, 0))))]), (a 1, ia T.2.1 100 (gK (pX (seF (rmF (pX X) i, pH X, (pA X) - 1, 0))))), (a 2, ia T.2.1 100 (gL (pX (seF (rmF (pX X) i, pH X, (pA X) - 1, 0))))), (a 3, ia T.2.2.1 100 (gM (pX (seF (rmF (pX X) i, pH X, (pA X) - 1, 0))))), (a 4, ia T.2.1 3 (gS (pX (seF (rmF (pX X) i, pH X, (pA X) - 1, 0))))), (a 5, ia T.2.1 3 (gC (pX (seF (rmF (pX X) i, pH X, (pA X) - 1, 0)))))]) (rest := []) (As := []) (st' := []) hM (ct_X3_settle M.2.1 T a (rmF (pX X) i, pH X, (pA X) - 1, 0) hPs) gX3_takeOut_X3_settle rfl ⟨rfl, rfl⟩ hy_X3_settle rfl ⟨by decide, by decide⟩ [0, 1, 2, 3, 4, 5, 6] rfl rfl rfl 0 3 rfl rfl rfl rfl rfl (Nat.le_of_ble_eq_true rfl) ⟨by decide, by decide⟩ rfl dX3_takeOut_92 ?_
              have hf92_26 := (WW_se hPs).2
              have hf92_27 := (WW_se hPs).1
              have hw92_13 := (WW_se hPs).1.1.1
              refine xr_aload_n hM 0 dX3_takeOut_95 rfl rfl ?_
              refine xr_get (C := RX3) (TT0 := TX3) (N := 4) hM 3 0 0 (fun _ h => List.mem_cons_of_mem _ (List.mem_append_left _ (List.mem_append_right _ h))) rfl rfl (by decide) (List.mem_of_getElem? (i := 1) rfl) rfl rfl dX3_takeOut_96 ?_
              refine xr_get (C := RX1) (TT0 := TX1) (N := 7) hM 1 1 5 (fun _ h => List.mem_cons_of_mem _ (List.mem_append_right _ h)) rfl rfl (by decide) (List.mem_of_getElem? (i := 3) rfl) rfl rfl dX3_takeOut_99 ?_
              have hcu : cuR X i = _ := if_neg (by omega)
              rw [cuP, if_pos (by omega), if_pos (by omega)] at hcu
              exact xr_iret hF dX3_takeOut_102 (by rw [hcu]) (by rw [hcu]; rfl)
  · refine xr_ldc hM (-100001) (List.mem_of_getElem? (i := 2) rfl) (by decide) dX3_takeOut_11 ?_
    exact xr_iret hF dX3_takeOut_13 (by rw [cuR, if_pos (by omega)] <;> rfl) (by rw [cuR, if_pos (by omega)] <;> rfl)

theorem ct_X3_moveBy (l : Launch) (T : TT) (a : Nat → Nat) (X : WnS) (d : Int) (hX : WW X) (hd : -2147483648 ≤ d ∧ d < 2147483648) : CT l yX3_moveBy wsX3_moveBy rm_X3_moveBy T [.ref (a 6), iv d] (winE T a X) (some (iv ((mbR X d).1))) (winE T a ((mbR X d).2)) := by
  refine CT.Z (maxL := 2) (lv0 := [(0, .ref (a 6)), (1, iv d)]) hp_X3_moveBy rfl (Nat.le_of_ble_eq_true rfl) rfl rfl (fun M hM hF => ?_)
  have hP := hX.1
  have hn := hX.1.1.1
  have hwd := hX.1.1.2.1
  have hHH := hX.1.2.1
  have hAn := hX.1.2.2.2.1
  have hA0 := hX.1.2.2.1
  have hSb := hX.1.2.2.2.2
  have hSs := hX.2
  refine xr_iload_n hM 1 dX3_moveBy_0 rfl rfl ?_
  refine xr_sipush hM dX3_moveBy_1 (by decide) ?_
  refine xr_sipush hM dX3_moveBy_4 (by decide) ?_
  refine xr_callSNr (rest := []) (As := [iv d, iv (-9999), iv 9999]) (st' := [iv (bi (d < (-9999) ∨ 9999 < d))]) hM (ct_X4_isOutside M.2.1 T d (-9999) 9999 (by omega)) gX3_moveBy_X4_isOutside_n35 rfl ⟨rfl, rfl⟩ hy_X4_isOutside (List.mem_of_getElem? (i := 8) rfl) (List.mem_of_getElem? (i := 7) rfl) rfl ⟨by decide, by decide⟩ [] rfl rfl rfl rfl (Nat.le_of_ble_eq_true rfl) ⟨by decide, by decide⟩ dX3_moveBy_7 ?_
  refine xr_ifb_eq hM 16 dX3_moveBy_10 (by decide) (fun c10 => ?_) (fun c10 => ?_)
  · refine xr_aload_n hM 0 dX3_moveBy_16 rfl rfl ?_
    refine xr_get (C := RX3) (TT0 := TX3) (N := 4) hM 3 0 0 (fun _ h => List.mem_cons_of_mem _ (List.mem_append_left _ (List.mem_append_right _ h))) rfl rfl (by decide) (List.mem_of_getElem? (i := 2) rfl) rfl rfl dX3_moveBy_17 ?_
    refine xr_get (C := RX1) (TT0 := TX1) (N := 7) hM 1 1 5 (fun _ h => List.mem_cons_of_mem _ (List.mem_append_right _ h)) rfl rfl (by decide) (List.mem_of_getElem? (i := 3) rfl) rfl rfl dX3_moveBy_20 ?_
    refine xr_if_ne hM 29 dX3_moveBy_23 (by decide) (by omega) (fun c23 => ?_) (fun c23 => ?_)
    · refine xr_aload_n hM 0 dX3_moveBy_29 rfl rfl ?_
      refine xr_dup hM dX3_moveBy_30 rfl ?_
      refine xr_get (C := RX3) (TT0 := TX3) (N := 4) hM 3 0 3 (fun _ h => List.mem_cons_of_mem _ (List.mem_append_left _ (List.mem_append_right _ h))) rfl rfl (by decide) (List.mem_of_getElem? (i := 5) rfl) rfl rfl dX3_moveBy_31 ?_
      refine xr_iload_n hM 1 dX3_moveBy_34 rfl rfl ?_
      refine xr_iadd hM dX3_moveBy_35 ?_
      refine xr_put (ws' := [(a 6, ob 3 [.ref (a 0), iv (pH X), iv (pA X), iv ((pS X) + d)]), (a 0, ob 1 [.ref (a 1), .ref (a 2), .ref (a 3), .ref (a 4), .ref (a 5), iv (gN (pX X)), iv (gW (pX X))]), (a 1, ia T.2.1 100 (gK (pX X))), (a 2, ia T.2.1 100 (gL (pX X))), (a 3, ia T.2.2.1 100 (gM (pX X))), (a 4, ia T.2.1 3 (gS (pX X))), (a 5, ia T.2.1 3 (gC (pX X)))]) (C := RX3) (TT0 := TX3) (N := 4) hM 3 0 3 (fun _ h => List.mem_cons_of_mem _ (List.mem_append_left _ (List.mem_append_right _ h))) tyX3 tyX3_ok nmX3 rfl rfl (by decide) (List.mem_of_getElem? (i := 5) rfl) rfl rfl rfl (Nat.le_of_ble_eq_true rfl) rfl dX3_moveBy_36 ?_
      have hA1 := hAn (by omega)
      have hDc : DI (gN (pX X)) (-600000) 400000 (pX X, pH X, pA X, (pS X) + d) := ⟨hX.1.1, rfl, hA1, by show -600000 ≤ pS X + d; omega, by show pS X + d ≤ 400000; omega⟩
      refine xr_aload_n hM 0 dX3_moveBy_39 rfl rfl ?_
      refine xr_callV (ws' := [(a 6, ob 3 [.ref (a 0), iv (pH (clF (pX X, pH X, pA X, (pS X) + d))), iv (pA (clF (pX X, pH X, pA X, (pS X) + d))), iv (pS (clF (pX X, pH X, pA X, (pS X) + d)))]), (a 0, ob 1 [.ref (a 1), .ref (a 2), .ref (a 3), .ref (a 4), .ref (a 5), iv (gN (pX (clF (pX X, pH X, pA X, (pS X) + d)))), iv (gW (pX (clF (pX X, pH X, pA X, (pS X) + d))))]), (a 1, ia T.2.1 100 (gK (pX (clF (pX X, pH X, pA X, (pS X) + d))))), (a 2, ia T.2.1 100 (gL (pX (clF (pX X, pH X, pA X, (pS X) + d))))), (a 3, ia T.2.2.1 100 (gM (pX (clF (pX X, pH X, pA X, (pS X) + d))))), (a 4, ia T.2.1 3 (gS (pX (clF (pX X, pH X, pA X, (pS X) + d))))), (a 5, ia T.2.1 3 (gC (pX (clF (pX X, pH X, pA X, (pS X) + d)))))]) (rest := []) (As := []) (st' := []) hM (ct_X3_climb M.2.1 T a (pX X, pH X, pA X, (pS X) + d) hDc) gX3_moveBy_X3_climb rfl ⟨rfl, rfl⟩ hy_X3_climb rfl ⟨by decide, by decide⟩ [0, 1, 2, 3, 4, 5, 6] rfl rfl rfl 0 3 rfl rfl rfl rfl rfl (Nat.le_of_ble_eq_true rfl) ⟨by decide, by decide⟩ rfl dX3_moveBy_40 ?_
      have hPs : PW (clF (pX X, pH X, pA X, (pS X) + d)) := (PW_mb hX (by omega) c23).1
      refine xr_aload_n hM 0 dX3_moveBy_43 rfl rfl ?_
      refine xr_callV (ws' := [(a 6, ob 3 [.ref (a 0), iv (pH (seF (clF (pX X, pH X, pA X, (pS X) + d)))), iv (pA (seF (clF (pX X, pH X, pA X, (pS X) + d)))), iv (pS (seF (clF (pX X, pH X, pA X, (pS X) + d))))]), (a 0, ob 1 [.ref (a 1), .ref (a 2), .ref (a 3), .ref (a 4), .ref (a 5), iv (gN (pX (seF (clF (pX X, pH X, pA X, (pS X) + d))))), iv (gW (pX (seF (clF (pX X, pH X, pA X, (pS X) + d)))))]), (a 1, ia T.2.1 100 (gK (pX (seF (clF (pX X, pH X, pA X, (pS X) + d)))))), (a 2, ia T.2.1 100 (gL (pX (seF (clF (pX X, pH X, pA X, (pS X) + d)))))), (a 3, ia T.2.2.1 100 (gM (pX (seF (clF (pX X, pH X, pA X, (pS X) + d)))))), (a 4, ia T.2.1 3 (gS (pX (seF (clF (pX X, pH X, pA X, (pS X) + d)))))), (a 5, ia T.2.1 3 (gC (pX (seF (clF (pX X, pH X, pA X, (pS X) + d))))))]) (rest := []) (As := []) (st' := []) hM (ct_X3_settle M.2.1 T a (clF (pX X, pH X, pA X, (pS X) + d)) hPs) gX3_moveBy_X3_settle rfl ⟨rfl, rfl⟩ hy_X3_settle rfl ⟨by decide, by decide⟩ [0, 1, 2, 3, 4, 5, 6] rfl rfl rfl 0 3 rfl rfl rfl rfl rfl (Nat.le_of_ble_eq_true rfl) ⟨by decide, by decide⟩ rfl dX3_moveBy_44 ?_
      have hf44 := (WW_se hPs).2
      have hf44_1 := (WW_se hPs).1
      have hw44 := (WW_se hPs).1.1.1
      refine xr_aload_n hM 0 dX3_moveBy_47 rfl rfl ?_
      refine xr_get (C := RX3) (TT0 := TX3) (N := 4) hM 3 0 2 (fun _ h => List.mem_cons_of_mem _ (List.mem_append_left _ (List.mem_append_right _ h))) rfl rfl (by decide) (List.mem_of_getElem? (i := 6) rfl) rfl rfl dX3_moveBy_48 ?_
      exact xr_iret hF dX3_moveBy_51 (by rw [mbR, if_neg (by omega), if_neg c23] <;> rfl) (by rw [mbR, if_neg (by omega), if_neg c23] <;> rfl)
    · refine xr_ldc hM (-100002) (List.mem_of_getElem? (i := 4) rfl) (by decide) dX3_moveBy_26 ?_
      exact xr_iret hF dX3_moveBy_28 (by rw [mbR, if_neg (by omega), if_pos c23] <;> rfl) (by rw [mbR, if_neg (by omega), if_pos c23] <;> rfl)
  · refine xr_ldc hM (-100001) (List.mem_of_getElem? (i := 1) rfl) (by decide) dX3_moveBy_13 ?_
    exact xr_iret hF dX3_moveBy_15 (by rw [mbR, if_pos (by omega)] <;> rfl) (by rw [mbR, if_pos (by omega)] <;> rfl)

theorem ct_X3_moveToShare (l : Launch) (T : TT) (a : Nat → Nat) (X : WnS) (d : Int) (hX : WW X) (hd : -2147483648 ≤ d ∧ d < 2147483648) : CT l yX3_moveToShare wsX3_moveToShare rm_X3_moveToShare T [.ref (a 6), iv d] (winE T a X) (some (iv ((msR X d).1))) (winE T a ((msR X d).2)) := by
  refine CT.Z (maxL := 3) (lv0 := [(0, .ref (a 6)), (1, iv d)]) hp_X3_moveToShare rfl (Nat.le_of_ble_eq_true rfl) rfl rfl (fun M hM hF => ?_)
  have hP := hX.1
  have hn := hX.1.1.1
  have hwd := hX.1.1.2.1
  have hHH := hX.1.2.1
  have hAn := hX.1.2.2.2.1
  have hA0 := hX.1.2.2.1
  have hSb := hX.1.2.2.2.2
  have hSs := hX.2
  refine xr_iload_n hM 1 dX3_moveToShare_0 rfl rfl ?_
  refine xr_iconst hM dX3_moveToShare_1 ?_
  refine xr_sipush hM dX3_moveToShare_2 (by decide) ?_
  refine xr_callSNr (rest := []) (As := [iv d, iv 0, iv 1000]) (st' := [iv (bi (d < 0 ∨ 1000 < d))]) hM (ct_X4_isOutside M.2.1 T d 0 1000 (by omega)) gX3_moveToShare_X4_isOutside_n35 rfl ⟨rfl, rfl⟩ hy_X4_isOutside (List.mem_of_getElem? (i := 13) rfl) (List.mem_of_getElem? (i := 12) rfl) rfl ⟨by decide, by decide⟩ [] rfl rfl rfl rfl (Nat.le_of_ble_eq_true rfl) ⟨by decide, by decide⟩ dX3_moveToShare_5 ?_
  refine xr_ifb_eq hM 14 dX3_moveToShare_8 (by decide) (fun c8 => ?_) (fun c8 => ?_)
  · refine xr_aload_n hM 0 dX3_moveToShare_14 rfl rfl ?_
    refine xr_get (C := RX3) (TT0 := TX3) (N := 4) hM 3 0 0 (fun _ h => List.mem_cons_of_mem _ (List.mem_append_left _ (List.mem_append_right _ h))) rfl rfl (by decide) (List.mem_of_getElem? (i := 2) rfl) rfl rfl dX3_moveToShare_15 ?_
    refine xr_get (C := RX1) (TT0 := TX1) (N := 7) hM 1 1 5 (fun _ h => List.mem_cons_of_mem _ (List.mem_append_right _ h)) rfl rfl (by decide) (List.mem_of_getElem? (i := 3) rfl) rfl rfl dX3_moveToShare_18 ?_
    refine xr_if_ne hM 27 dX3_moveToShare_21 (by decide) (by omega) (fun c21 => ?_) (fun c21 => ?_)
    · refine xr_iconst hM dX3_moveToShare_27 ?_
      refine xr_aload_n hM 0 dX3_moveToShare_28 rfl rfl ?_
      refine xr_get (C := RX3) (TT0 := TX3) (N := 4) hM 3 0 0 (fun _ h => List.mem_cons_of_mem _ (List.mem_append_left _ (List.mem_append_right _ h))) rfl rfl (by decide) (List.mem_of_getElem? (i := 2) rfl) rfl rfl dX3_moveToShare_29 ?_
      refine xr_callVr (rest := [iv 0]) (As := []) (st' := [iv (tpF (pX X) (gN (pX X)).toNat), iv 0]) hM (ct_X1_total M.2.1 T a (pX X) hX.1.1) gX3_moveToShare_X1_total rfl ⟨rfl, rfl⟩ hy_X1_total rfl ⟨by decide, by decide⟩ [1, 2, 3, 4, 5, 6] rfl rfl 0 1 rfl rfl rfl rfl rfl (Nat.le_of_ble_eq_true rfl) ⟨by decide, by decide⟩ dX3_moveToShare_32 ?_
      have hf32 := tpF_b hX.1.1 (gN (pX X)).toNat
      refine xr_aload_n hM 0 dX3_moveToShare_35 rfl rfl ?_
      refine xr_get (C := RX3) (TT0 := TX3) (N := 4) hM 3 0 1 (fun _ h => List.mem_cons_of_mem _ (List.mem_append_left _ (List.mem_append_right _ h))) rfl rfl (by decide) (List.mem_of_getElem? (i := 5) rfl) rfl rfl dX3_moveToShare_36 ?_
      refine xr_isub hM dX3_moveToShare_39 ?_
      refine xr_mmax hM (List.mem_of_getElem? (i := 6) rfl) (List.mem_of_getElem? (i := 7) rfl) (List.mem_of_getElem? (i := 8) rfl) (List.mem_of_getElem? (i := 9) rfl) (by omega) (by decide) (Nat.le_of_ble_eq_true rfl) (by decide) (by decide) dX3_moveToShare_40 ?_
      refine xr_iload_n hM 1 dX3_moveToShare_43 rfl rfl ?_
      refine xr_imul hM dX3_moveToShare_44 ?_
      refine xr_sipush hM dX3_moveToShare_45 (by decide) ?_
      have hm0 := Int.mul_nonneg (show 0 ≤ max 0 (tpF (pX X) (gN (pX X)).toNat - pH X) by omega) (show 0 ≤ d by omega)
      have hm1 := Int.mul_le_mul_of_nonneg_left (show d ≤ 1000 by omega) (show 0 ≤ max 0 (tpF (pX X) (gN (pX X)).toNat - pH X) by omega)
      refine xr_idiv hM dX3_moveToShare_48 (by omega) ?_
      refine xr_re (lv' := [(0, .ref (a 6)), (1, iv d)]) (ws' := [(a 6, ob 3 [.ref (a 0), iv (pH X), iv (pA X), iv (pS X)]), (a 0, ob 1 [.ref (a 1), .ref (a 2), .ref (a 3), .ref (a 4), .ref (a 5), iv (gN (pX X)), iv (gW (pX X))]), (a 1, ia T.2.1 100 (gK (pX X))), (a 2, ia T.2.1 100 (gL (pX X))), (a 3, ia T.2.2.1 100 (gM (pX X))), (a 4, ia T.2.1 3 (gS (pX X))), (a 5, ia T.2.1 3 (gC (pX X)))]) (st' := [iv (plF X d)]) rfl rfl rfl ?_
      have hpl := plF_b hP (s := d) (by omega) c21
      have han := anF_b hP (s := d) (by omega) c21
      refine xr_istore_n (lv' := [(0, .ref (a 6)), (1, iv d), (2, iv (plF X d))]) hM dX3_moveToShare_49 rfl (by decide) rfl rfl ?_
      refine xr_aload_n hM 0 dX3_moveToShare_50 rfl rfl ?_
      refine xr_iconst hM dX3_moveToShare_51 ?_
      refine xr_aload_n hM 0 dX3_moveToShare_52 rfl rfl ?_
      refine xr_get (C := RX3) (TT0 := TX3) (N := 4) hM 3 0 0 (fun _ h => List.mem_cons_of_mem _ (List.mem_append_left _ (List.mem_append_right _ h))) rfl rfl (by decide) (List.mem_of_getElem? (i := 2) rfl) rfl rfl dX3_moveToShare_53 ?_
      refine xr_iload_n hM 2 dX3_moveToShare_56 rfl rfl ?_
      refine xr_callVr (rest := [iv 0, .ref (a 6)]) (As := [iv (plF X d)]) (st' := [iv (laF (pX X) (plF X d) (gN (pX X)).toNat 0), iv 0, .ref (a 6)]) hM (ct_X1_lineAt M.2.1 T a (pX X) (plF X d) hX.1.1 (by omega)) gX3_moveToShare_X1_lineAt rfl ⟨rfl, rfl⟩ hy_X1_lineAt rfl ⟨by decide, by decide⟩ [1, 2, 3, 4, 5, 6] rfl rfl 0 1 rfl rfl rfl rfl rfl (Nat.le_of_ble_eq_true rfl) ⟨by decide, by decide⟩ dX3_moveToShare_57 ?_
      have hla : (laF (pX X) (plF X d) (gN (pX X)).toNat 0) = anF X d := han.2.2.symm
      refine xr_mmax hM (List.mem_of_getElem? (i := 6) rfl) (List.mem_of_getElem? (i := 7) rfl) (List.mem_of_getElem? (i := 8) rfl) (List.mem_of_getElem? (i := 9) rfl) (by omega) (by decide) (Nat.le_of_ble_eq_true rfl) (by decide) (by decide) dX3_moveToShare_60 ?_
      refine xr_re (lv' := [(0, .ref (a 6)), (1, iv d), (2, iv (plF X d))]) (ws' := [(a 6, ob 3 [.ref (a 0), iv (pH X), iv (pA X), iv (pS X)]), (a 0, ob 1 [.ref (a 1), .ref (a 2), .ref (a 3), .ref (a 4), .ref (a 5), iv (gN (pX X)), iv (gW (pX X))]), (a 1, ia T.2.1 100 (gK (pX X))), (a 2, ia T.2.1 100 (gL (pX X))), (a 3, ia T.2.2.1 100 (gM (pX X))), (a 4, ia T.2.1 3 (gS (pX X))), (a 5, ia T.2.1 3 (gC (pX X)))]) (st' := [iv (anF X d), .ref (a 6)]) rfl rfl rfl ?_
      refine xr_put (ws' := [(a 6, ob 3 [.ref (a 0), iv (pH X), iv (anF X d), iv (pS X)]), (a 0, ob 1 [.ref (a 1), .ref (a 2), .ref (a 3), .ref (a 4), .ref (a 5), iv (gN (pX X)), iv (gW (pX X))]), (a 1, ia T.2.1 100 (gK (pX X))), (a 2, ia T.2.1 100 (gL (pX X))), (a 3, ia T.2.2.1 100 (gM (pX X))), (a 4, ia T.2.1 3 (gS (pX X))), (a 5, ia T.2.1 3 (gC (pX X)))]) (C := RX3) (TT0 := TX3) (N := 4) hM 3 0 2 (fun _ h => List.mem_cons_of_mem _ (List.mem_append_left _ (List.mem_append_right _ h))) tyX3 tyX3_ok nmX3 rfl rfl (by decide) (List.mem_of_getElem? (i := 10) rfl) rfl rfl rfl (Nat.le_of_ble_eq_true rfl) rfl dX3_moveToShare_63 ?_
      refine xr_aload_n hM 0 dX3_moveToShare_66 rfl rfl ?_
      refine xr_iload_n hM 2 dX3_moveToShare_67 rfl rfl ?_
      refine xr_aload_n hM 0 dX3_moveToShare_68 rfl rfl ?_
      refine xr_get (C := RX3) (TT0 := TX3) (N := 4) hM 3 0 0 (fun _ h => List.mem_cons_of_mem _ (List.mem_append_left _ (List.mem_append_right _ h))) rfl rfl (by decide) (List.mem_of_getElem? (i := 2) rfl) rfl rfl dX3_moveToShare_69 ?_
      refine xr_aload_n hM 0 dX3_moveToShare_72 rfl rfl ?_
      refine xr_get (C := RX3) (TT0 := TX3) (N := 4) hM 3 0 2 (fun _ h => List.mem_cons_of_mem _ (List.mem_append_left _ (List.mem_append_right _ h))) rfl rfl (by decide) (List.mem_of_getElem? (i := 10) rfl) rfl rfl dX3_moveToShare_73 ?_
      refine xr_callVr (rest := [iv (plF X d), .ref (a 6)]) (As := [iv (anF X d)]) (st' := [iv (tpF (pX X) (anF X d).toNat), iv (plF X d), .ref (a 6)]) hM (ct_X1_topOf M.2.1 T a (pX X) (anF X d) hX.1.1 (by omega)) gX3_moveToShare_X1_topOf rfl ⟨rfl, rfl⟩ hy_X1_topOf rfl ⟨by decide, by decide⟩ [1, 2, 3, 4, 5, 6] rfl rfl 0 1 rfl rfl rfl rfl rfl (Nat.le_of_ble_eq_true rfl) ⟨by decide, by decide⟩ dX3_moveToShare_76 ?_
      have hf76 := tpF_b hX.1.1 (anF X d).toNat
      refine xr_isub hM dX3_moveToShare_79 ?_
      refine xr_put (ws' := [(a 6, ob 3 [.ref (a 0), iv (pH X), iv (anF X d), iv ((plF X d) - (tpF (pX X) (anF X d).toNat))]), (a 0, ob 1 [.ref (a 1), .ref (a 2), .ref (a 3), .ref (a 4), .ref (a 5), iv (gN (pX X)), iv (gW (pX X))]), (a 1, ia T.2.1 100 (gK (pX X))), (a 2, ia T.2.1 100 (gL (pX X))), (a 3, ia T.2.2.1 100 (gM (pX X))), (a 4, ia T.2.1 3 (gS (pX X))), (a 5, ia T.2.1 3 (gC (pX X)))]) (C := RX3) (TT0 := TX3) (N := 4) hM 3 0 3 (fun _ h => List.mem_cons_of_mem _ (List.mem_append_left _ (List.mem_append_right _ h))) tyX3 tyX3_ok nmX3 rfl rfl (by decide) (List.mem_of_getElem? (i := 11) rfl) rfl rfl rfl (Nat.le_of_ble_eq_true rfl) rfl dX3_moveToShare_80 ?_
      have hPs : PW (pX X, pH X, anF X d, (plF X d) - (tpF (pX X) (anF X d).toNat)) := PW_ms hX (by omega) c21
      refine xr_aload_n hM 0 dX3_moveToShare_83 rfl rfl ?_
      refine xr_callV (ws' := [(a 6, ob 3 [.ref (a 0), iv (pH (seF (pX X, pH X, anF X d, (plF X d) - (tpF (pX X) (anF X d).toNat)))), iv (pA (seF (pX X, pH X, anF X d, (plF X d) - (tpF (pX X) (anF X d).toNat)))), iv (pS (seF (pX X, pH X, anF X d, (plF X d) - (tpF (pX X) (anF X d).toNat))))]), (a 0, ob 1 [.ref (a 1), .ref (a 2), .ref (a 3), .ref (a 4), .ref (a 5), iv (gN (pX (seF (pX X, pH X, anF X d, (plF X d) - (tpF (pX X) (anF X d).toNat))))), iv (gW (pX (seF (pX X, pH X, anF X d, (plF X d) - (tpF (pX X) (anF X d).toNat)))))]), (a 1, ia T.2.1 100 (gK (pX (seF (pX X, pH X, anF X d, (plF X d) - (tpF (pX X) (anF X d).toNat)))))), (a 2, ia T.2.1 100 (gL (pX (seF (pX X, pH X, anF X d, (plF X d) - (tpF (pX X) (anF X d).toNat)))))), (a 3, ia T.2.2.1 100 (gM (pX (seF (pX X, pH X, anF X d, (plF X d) - (tpF (pX X) (anF X d).toNat)))))), (a 4, ia T.2.1 3 (gS (pX (seF (pX X, pH X, anF X d, (plF X d) - (tpF (pX X) (anF X d).toNat)))))), (a 5, ia T.2.1 3 (gC (pX (seF (pX X, pH X, anF X d, (plF X d) - (tpF (pX X) (anF X d).toNat))))))]) (rest := []) (As := []) (st' := []) hM (ct_X3_settle M.2.1 T a (pX X, pH X, anF X d, (plF X d) - (tpF (pX X) (anF X d).toNat)) hPs) gX3_moveToShare_X3_settle rfl ⟨rfl, rfl⟩ hy_X3_settle rfl ⟨by decide, by decide⟩ [0, 1, 2, 3, 4, 5, 6] rfl rfl rfl 0 3 rfl rfl rfl rfl rfl (Nat.le_of_ble_eq_true rfl) ⟨by decide, by decide⟩ rfl dX3_moveToShare_84 ?_
      have hf84 := (WW_se hPs).2
      have hf84_1 := (WW_se hPs).1
      have hw84 := (WW_se hPs).1.1.1
      refine xr_aload_n hM 0 dX3_moveToShare_87 rfl rfl ?_
      refine xr_get (C := RX3) (TT0 := TX3) (N := 4) hM 3 0 2 (fun _ h => List.mem_cons_of_mem _ (List.mem_append_left _ (List.mem_append_right _ h))) rfl rfl (by decide) (List.mem_of_getElem? (i := 10) rfl) rfl rfl dX3_moveToShare_88 ?_
      exact xr_iret hF dX3_moveToShare_91 (by rw [msR, if_neg (by omega), if_neg c21] <;> rfl) (by rw [msR, if_neg (by omega), if_neg c21] <;> rfl)
    · refine xr_ldc hM (-100002) (List.mem_of_getElem? (i := 4) rfl) (by decide) dX3_moveToShare_24 ?_
      exact xr_iret hF dX3_moveToShare_26 (by rw [msR, if_neg (by omega), if_pos c21] <;> rfl) (by rw [msR, if_neg (by omega), if_pos c21] <;> rfl)
  · refine xr_ldc hM (-100001) (List.mem_of_getElem? (i := 1) rfl) (by decide) dX3_moveToShare_11 ?_
    exact xr_iret hF dX3_moveToShare_13 (by rw [msR, if_pos (by omega)] <;> rfl) (by rw [msR, if_pos (by omega)] <;> rfl)

theorem lp_X3_linesShown {T : TT} {M : MB} (a : Nat → Nat) (X : WnS) (hX : WW X) (hM : FM T M cX3_linesShown RX3 4 wsX3_linesShown rm_X3_linesShown) (hF : FinI T M cX3_linesShown 4 (iv (snF (pX X) (tpF (pX X) (pA X).toNat + pS X) (pH X) (gN (pX X)).toNat)) (winE T a X)) : ∀ (f b : Nat), (b : Int) ≤ gN (pX X) → (gN (pX X)).toNat - b < f → VV T M 4 [(0, .ref (a 6)), (1, iv (snF (pX X) (tpF (pX X) (pA X).toNat + pS X) (pH X) b)), (2, iv (tpF (pX X) b - (tpF (pX X) (pA X).toNat + pS X))), (3, iv (b : Int))] (winE T a X) 0 0 13 [] := by
  intro f
  induction f with
  | zero =>
    intro b h1 h2
    omega
  | succ f ih =>
    intro b h1 h2
    have hP := hX.1
    have hn := hX.1.1.1
    have hwd := hX.1.1.2.1
    have hHH := hX.1.2.1
    have hAn := hX.1.2.2.2.1
    have hA0 := hX.1.2.2.1
    have hSb := hX.1.2.2.2.2
    have hSs := hX.2
    have htb := tpF_b hX.1.1 b
    have hta := tpF_b hX.1.1 (pA X).toNat
    have hsb := snF_b (pX X) (tpF (pX X) (pA X).toNat + pS X) (pH X) b
    have hAA := hX.an
    refine xr_iload_n hM 3 dX3_linesShown_13 rfl rfl ?_
    refine xr_aload_n hM 0 dX3_linesShown_14 rfl rfl ?_
    refine xr_get (C := RX3) (TT0 := TX3) (N := 4) hM 3 0 0 (fun _ h => List.mem_cons_of_mem _ (List.mem_append_left _ (List.mem_append_right _ h))) rfl rfl (by decide) (List.mem_of_getElem? (i := 3) rfl) rfl rfl dX3_linesShown_15 ?_
    refine xr_get (C := RX1) (TT0 := TX1) (N := 7) hM 1 1 5 (fun _ h => List.mem_cons_of_mem _ (List.mem_append_right _ h)) rfl rfl (by decide) (List.mem_of_getElem? (i := 4) rfl) rfl rfl dX3_linesShown_18 ?_
    refine xr_icmp_ge hM 56 dX3_linesShown_21 (by decide) (by omega) (fun c21 => ?_) (fun c21 => ?_)
    · refine xr_iload_n hM 1 dX3_linesShown_56 rfl rfl ?_
      exact xr_iret hF dX3_linesShown_57 (by first | (rw [show b = (gN (pX X)).toNat by omega]; done) | exact (snF_hi hX.1.1 b _ (by omega) (by omega)).symm) rfl
    · refine xr_iload_n hM 2 dX3_linesShown_24 rfl rfl ?_
      refine xr_aload_n hM 0 dX3_linesShown_25 rfl rfl ?_
      refine xr_get (C := RX3) (TT0 := TX3) (N := 4) hM 3 0 1 (fun _ h => List.mem_cons_of_mem _ (List.mem_append_left _ (List.mem_append_right _ h))) rfl rfl (by decide) (List.mem_of_getElem? (i := 5) rfl) rfl rfl dX3_linesShown_26 ?_
      refine xr_icmp_ge hM 56 dX3_linesShown_29 (by decide) (by omega) (fun c29 => ?_) (fun c29 => ?_)
      · refine xr_iload_n hM 1 dX3_linesShown_56 rfl rfl ?_
        exact xr_iret hF dX3_linesShown_57 (by first | (rw [show b = (gN (pX X)).toNat by omega]; done) | exact (snF_hi hX.1.1 b _ (by omega) (by omega)).symm) rfl
      · refine xr_iload_n hM 2 dX3_linesShown_32 rfl rfl ?_
        refine xr_aload_n hM 0 dX3_linesShown_33 rfl rfl ?_
        refine xr_get (C := RX3) (TT0 := TX3) (N := 4) hM 3 0 0 (fun _ h => List.mem_cons_of_mem _ (List.mem_append_left _ (List.mem_append_right _ h))) rfl rfl (by decide) (List.mem_of_getElem? (i := 3) rfl) rfl rfl dX3_linesShown_34 ?_
        refine xr_iload_n hM 3 dX3_linesShown_37 rfl rfl ?_
        refine xr_callVr (rest := [iv (tpF (pX X) b - (tpF (pX X) (pA X).toNat + pS X))]) (As := [iv (b : Int)]) (st' := [iv (htF (pX X) (b : Int).toNat), iv (tpF (pX X) b - (tpF (pX X) (pA X).toNat + pS X))]) hM (ct_X1_heightOf M.2.1 T a (pX X) (b : Int) hX.1.1 (by omega)) gX3_linesShown_X1_heightOf rfl ⟨rfl, rfl⟩ hy_X1_heightOf rfl ⟨by decide, by decide⟩ [1, 2, 3, 4, 5, 6] rfl rfl 0 1 rfl rfl rfl rfl rfl (Nat.le_of_ble_eq_true rfl) ⟨by decide, by decide⟩ dX3_linesShown_38 ?_
        have hf38 := htF_b hX.1.1 (b : Int).toNat
        refine xr_iadd hM dX3_linesShown_41 ?_
        refine xr_istore_n (lv' := [(0, .ref (a 6)), (1, iv (snF (pX X) (tpF (pX X) (pA X).toNat + pS X) (pH X) b)), (2, iv ((tpF (pX X) b - (tpF (pX X) (pA X).toNat + pS X)) + (htF (pX X) (b : Int).toNat))), (3, iv (b : Int))]) hM dX3_linesShown_42 rfl (by decide) rfl rfl ?_
        refine xr_iload_n hM 2 dX3_linesShown_43 rfl rfl ?_
        refine xr_if_le hM 50 dX3_linesShown_44 (by decide) (by omega) (fun c44 => ?_) (fun c44 => ?_)
        · refine xr_iinc (lv' := [(0, .ref (a 6)), (1, iv (snF (pX X) (tpF (pX X) (pA X).toNat + pS X) (pH X) b)), (2, iv ((tpF (pX X) b - (tpF (pX X) (pA X).toNat + pS X)) + (htF (pX X) (b : Int).toNat))), (3, iv ((b : Int) + 1))]) hM 3 dX3_linesShown_50 rfl (by decide) rfl rfl ?_
          refine xr_goto hM 13 dX3_linesShown_53 (by decide) ?_
          refine xr_re (lv' := [(0, .ref (a 6)), (1, iv (snF (pX X) (tpF (pX X) (pA X).toNat + pS X) (pH X) (b + 1))), (2, iv (tpF (pX X) (b + 1) - (tpF (pX X) (pA X).toNat + pS X))), (3, iv ((b + 1 : Nat) : Int))]) (ws' := winE T a X) (st' := []) (by rw [show tpF (pX X) (b + 1) = tpF (pX X) b + htF (pX X) b from rfl]; simp only [snF]; rw [if_neg (by simp at *; omega)]; simp only [List.cons.injEq, Prod.mk.injEq, true_and, and_true]; refine ⟨?_, ?_, ?_⟩ <;> refine congrArg iv ?_ <;> simp <;> omega) rfl rfl ?_
          exact ih (b + 1) (by omega) (by omega)
        · refine xr_iinc (lv' := [(0, .ref (a 6)), (1, iv ((snF (pX X) (tpF (pX X) (pA X).toNat + pS X) (pH X) b) + 1)), (2, iv ((tpF (pX X) b - (tpF (pX X) (pA X).toNat + pS X)) + (htF (pX X) (b : Int).toNat))), (3, iv (b : Int))]) hM 1 dX3_linesShown_47 rfl (by decide) rfl rfl ?_
          refine xr_iinc (lv' := [(0, .ref (a 6)), (1, iv ((snF (pX X) (tpF (pX X) (pA X).toNat + pS X) (pH X) b) + 1)), (2, iv ((tpF (pX X) b - (tpF (pX X) (pA X).toNat + pS X)) + (htF (pX X) (b : Int).toNat))), (3, iv ((b : Int) + 1))]) hM 3 dX3_linesShown_50 rfl (by decide) rfl rfl ?_
          refine xr_goto hM 13 dX3_linesShown_53 (by decide) ?_
          refine xr_re (lv' := [(0, .ref (a 6)), (1, iv (snF (pX X) (tpF (pX X) (pA X).toNat + pS X) (pH X) (b + 1))), (2, iv (tpF (pX X) (b + 1) - (tpF (pX X) (pA X).toNat + pS X))), (3, iv ((b + 1 : Nat) : Int))]) (ws' := winE T a X) (st' := []) (by rw [show tpF (pX X) (b + 1) = tpF (pX X) b + htF (pX X) b from rfl]; simp only [snF]; rw [if_pos (by simp at *; omega)]; simp only [List.cons.injEq, Prod.mk.injEq, true_and, and_true]; refine ⟨?_, ?_⟩ <;> refine congrArg iv ?_ <;> simp <;> omega) rfl rfl ?_
          exact ih (b + 1) (by omega) (by omega)

theorem ct_X3_linesShown (l : Launch) (T : TT) (a : Nat → Nat) (X : WnS) (hX : WW X) : CT l yX3_linesShown wsX3_linesShown rm_X3_linesShown T [.ref (a 6)] (winE T a X) (some (iv (snF (pX X) (tpF (pX X) (pA X).toNat + pS X) (pH X) (gN (pX X)).toNat))) (winE T a X) := by
  refine CT.Z (maxL := 4) (lv0 := [(0, .ref (a 6))]) hp_X3_linesShown rfl (Nat.le_of_ble_eq_true rfl) rfl rfl (fun M hM hF => ?_)
  have hP := hX.1
  have hn := hX.1.1.1
  have hwd := hX.1.1.2.1
  have hHH := hX.1.2.1
  have hAn := hX.1.2.2.2.1
  have hA0 := hX.1.2.2.1
  have hSb := hX.1.2.2.2.2
  have hSs := hX.2
  have hAA := hX.an
  refine xr_iconst hM dX3_linesShown_0 ?_
  refine xr_istore_n (lv' := [(0, .ref (a 6)), (1, iv 0)]) hM dX3_linesShown_1 rfl (by decide) rfl rfl ?_
  refine xr_aload_n hM 0 dX3_linesShown_2 rfl rfl ?_
  refine xr_get (C := RX3) (TT0 := TX3) (N := 4) hM 3 0 3 (fun _ h => List.mem_cons_of_mem _ (List.mem_append_left _ (List.mem_append_right _ h))) rfl rfl (by decide) (List.mem_of_getElem? (i := 1) rfl) rfl rfl dX3_linesShown_3 ?_
  refine xr_ineg hM dX3_linesShown_6 ?_
  refine xr_istore_n (lv' := [(0, .ref (a 6)), (1, iv 0), (2, iv (-(pS X)))]) hM dX3_linesShown_7 rfl (by decide) rfl rfl ?_
  refine xr_aload_n hM 0 dX3_linesShown_8 rfl rfl ?_
  refine xr_get (C := RX3) (TT0 := TX3) (N := 4) hM 3 0 2 (fun _ h => List.mem_cons_of_mem _ (List.mem_append_left _ (List.mem_append_right _ h))) rfl rfl (by decide) (List.mem_of_getElem? (i := 2) rfl) rfl rfl dX3_linesShown_9 ?_
  refine xr_istore_n (lv' := [(0, .ref (a 6)), (1, iv 0), (2, iv (-(pS X))), (3, iv (pA X))]) hM dX3_linesShown_12 rfl (by decide) rfl rfl ?_
  refine xr_re (lv' := [(0, .ref (a 6)), (1, iv (snF (pX X) (tpF (pX X) (pA X).toNat + pS X) (pH X) (pA X).toNat)), (2, iv (tpF (pX X) (pA X).toNat - (tpF (pX X) (pA X).toNat + pS X))), (3, iv (((pA X).toNat : Nat) : Int))]) (ws' := winE T a X) (st' := []) (by rw [snF_lo hX.1.1 _ (by omega)]; simp only [List.cons.injEq, Prod.mk.injEq, true_and, and_true]; constructor <;> refine congrArg iv ?_ <;> omega) rfl rfl ?_
  exact lp_X3_linesShown a X hX hM hF ((gN (pX X)).toNat + 1) (pA X).toNat (by omega) (by omega)
