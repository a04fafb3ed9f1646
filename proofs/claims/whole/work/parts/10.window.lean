theorem ct_X4_isOutside (l : Launch) (T : TT) (v lo hi : Int) (h1 : (-2147483648 ≤ v ∧ v < 2147483648) ∧ (-2147483648 ≤ lo ∧ lo < 2147483648) ∧ (-2147483648 ≤ hi ∧ hi < 2147483648)) : CT l yX4_isOutside wsX4_isOutside rm_X4_isOutside T [iv v, iv lo, iv hi] ([]) (some (iv (bi (v < lo ∨ hi < v)))) ([]) := by
  refine CT.Z (maxL := 3) (lv0 := [(0, iv v), (1, iv lo), (2, iv hi)]) hp_X4_isOutside rfl (Nat.le_of_ble_eq_true rfl) bi_n rfl (fun M hM hF => ?_)
  refine xr_iload_n hM 0 dX4_isOutside_0 rfl rfl ?_
  refine xr_iload_n hM 1 dX4_isOutside_1 rfl rfl ?_
  refine xr_icmp_lt hM 10 dX4_isOutside_2 (by decide) (by omega) (fun c2 => ?_) (fun c2 => ?_)
  · refine xr_iconst hM dX4_isOutside_10 ?_
    refine xr_goto hM 15 dX4_isOutside_11 (by decide) ?_
    exact xr_iret hF dX4_isOutside_15 (bi_t (by omega)).symm rfl
  · refine xr_iload_n hM 0 dX4_isOutside_5 rfl rfl ?_
    refine xr_iload_n hM 2 dX4_isOutside_6 rfl rfl ?_
    refine xr_icmp_le hM 14 dX4_isOutside_7 (by decide) (by omega) (fun c7 => ?_) (fun c7 => ?_)
    · refine xr_iconst hM dX4_isOutside_14 ?_
      exact xr_iret hF dX4_isOutside_15 (bi_f (by omega)).symm rfl
    · refine xr_iconst hM dX4_isOutside_10 ?_
      refine xr_goto hM 15 dX4_isOutside_11 (by decide) ?_
      exact xr_iret hF dX4_isOutside_15 (bi_t (by omega)).symm rfl

theorem ct_X3_copyFrom (l : Launch) (T : TT) (a : Nat → Nat) (X : WnS) (b : Nat → Nat) (Y : WnS) (hY : WFL (pX Y)) : CT l yX3_copyFrom wsX3_copyFrom rm_X3_copyFrom T [.ref (a 6), .ref (b 6)] (winE T a X ++ winE T b Y) none (winE T a Y ++ winE T b Y) := by
  refine CT.V (maxL := 2) (lv0 := [(0, .ref (a 6)), (1, .ref (b 6))]) hp_X3_copyFrom rfl (Nat.le_of_ble_eq_true rfl) rfl (fun M hM hF => ?_)
  refine xr_aload_n hM 1 dX3_copyFrom_0 rfl rfl ?_
  refine xr_ifnonnull hM 5 dX3_copyFrom_1 (by decide) ?_
  refine xr_aload_n hM 0 dX3_copyFrom_5 rfl rfl ?_
  refine xr_get (C := RX3) (TT0 := TX3) (N := 4) hM 3 0 0 (fun _ h => List.mem_cons_of_mem _ (List.mem_append_left _ (List.mem_append_right _ h))) rfl rfl (by decide) (List.mem_of_getElem? (i := 1) rfl) rfl rfl dX3_copyFrom_6 ?_
  refine xr_aload_n hM 1 dX3_copyFrom_9 rfl rfl ?_
  refine xr_get (C := RX3) (TT0 := TX3) (N := 4) hM 3 7 0 (fun _ h => List.mem_cons_of_mem _ (List.mem_append_left _ (List.mem_append_right _ h))) rfl rfl (by decide) (List.mem_of_getElem? (i := 1) rfl) rfl rfl dX3_copyFrom_10 ?_
  refine xr_callV (ws' := [(a 6, ob 3 [.ref (a 0), iv (pH X), iv (pA X), iv (pS X)]), (a 0, ob 1 [.ref (a 1), .ref (a 2), .ref (a 3), .ref (a 4), .ref (a 5), iv (gN (pX Y)), iv (gW (pX Y))]), (a 1, ia T.2.1 100 (gK (pX Y))), (a 2, ia T.2.1 100 (gL (pX Y))), (a 3, ia T.2.2.1 100 (gM (pX Y))), (a 4, ia T.2.1 3 (gS (pX Y))), (a 5, ia T.2.1 3 (gC (pX Y))), (b 6, ob 3 [.ref (b 0), iv (pH Y), iv (pA Y), iv (pS Y)]), (b 0, ob 1 [.ref (b 1), .ref (b 2), .ref (b 3), .ref (b 4), .ref (b 5), iv (gN (pX Y)), iv (gW (pX Y))]), (b 1, ia T.2.1 100 (gK (pX Y))), (b 2, ia T.2.1 100 (gL (pX Y))), (b 3, ia T.2.2.1 100 (gM (pX Y))), (b 4, ia T.2.1 3 (gS (pX Y))), (b 5, ia T.2.1 3 (gC (pX Y)))]) (rest := []) (As := [.ref (b 0)]) (st' := []) hM (ct_X1_copyFrom M.2.1 T a (pX X) b (pX Y) hY) gX3_copyFrom_X1_copyFrom rfl ⟨rfl, rfl⟩ hy_X1_copyFrom rfl ⟨by decide, by decide⟩ [1, 2, 3, 4, 5, 6, 8, 9, 10, 11, 12, 13] rfl rfl rfl 0 1 rfl rfl rfl rfl rfl (Nat.le_of_ble_eq_true rfl) ⟨by decide, by decide⟩ rfl dX3_copyFrom_13 ?_
  refine xr_aload_n hM 0 dX3_copyFrom_16 rfl rfl ?_
  refine xr_aload_n hM 1 dX3_copyFrom_17 rfl rfl ?_
  refine xr_get (C := RX3) (TT0 := TX3) (N := 4) hM 3 7 1 (fun _ h => List.mem_cons_of_mem _ (List.mem_append_left _ (List.mem_append_right _ h))) rfl rfl (by decide) (List.mem_of_getElem? (i := 2) rfl) rfl rfl dX3_copyFrom_18 ?_
  refine xr_put (ws' := [(a 6, ob 3 [.ref (a 0), iv (pH Y), iv (pA X), iv (pS X)]), (a 0, ob 1 [.ref (a 1), .ref (a 2), .ref (a 3), .ref (a 4), .ref (a 5), iv (gN (pX Y)), iv (gW (pX Y))]), (a 1, ia T.2.1 100 (gK (pX Y))), (a 2, ia T.2.1 100 (gL (pX Y))), (a 3, ia T.2.2.1 100 (gM (pX Y))), (a 4, ia T.2.1 3 (gS (pX Y))), (a 5, ia T.2.1 3 (gC (pX Y))), (b 6, ob 3 [.ref (b 0), iv (pH Y), iv (pA Y), iv (pS Y)]), (b 0, ob 1 [.ref (b 1), .ref (b 2), .ref (b 3), .ref (b 4), .ref (b 5), iv (gN (pX Y)), iv (gW (pX Y))]), (b 1, ia T.2.1 100 (gK (pX Y))), (b 2, ia T.2.1 100 (gL (pX Y))), (b 3, ia T.2.2.1 100 (gM (pX Y))), (b 4, ia T.2.1 3 (gS (pX Y))), (b 5, ia T.2.1 3 (gC (pX Y)))]) (C := RX3) (TT0 := TX3) (N := 4) hM 3 0 1 (fun _ h => List.mem_cons_of_mem _ (List.mem_append_left _ (List.mem_append_right _ h))) tyX3 tyX3_ok nmX3 rfl rfl (by decide) (List.mem_of_getElem? (i := 2) rfl) rfl rfl rfl (Nat.le_of_ble_eq_true rfl) rfl dX3_copyFrom_21 ?_
  refine xr_aload_n hM 0 dX3_copyFrom_24 rfl rfl ?_
  refine xr_aload_n hM 1 dX3_copyFrom_25 rfl rfl ?_
  refine xr_get (C := RX3) (TT0 := TX3) (N := 4) hM 3 7 2 (fun _ h => List.mem_cons_of_mem _ (List.mem_append_left _ (List.mem_append_right _ h))) rfl rfl (by decide) (List.mem_of_getElem? (i := 3) rfl) rfl rfl dX3_copyFrom_26 ?_
  refine xr_put (ws' := [(a 6, ob 3 [.ref (a 0), iv (pH Y), iv (pA Y), iv (pS X)]), (a 0, ob 1 [.ref (a 1), .ref (a 2), .ref (a 3), .ref (a 4), .ref (a 5), iv (gN (pX Y)), iv (gW (pX Y))]), (a 1, ia T.2.1 100 (gK (pX Y))), (a 2, ia T.2.1 100 (gL (pX Y))), (a 3, ia T.2.2.1 100 (gM (pX Y))), (a 4, ia T.2.1 3 (gS (pX Y))), (a 5, ia T.2.1 3 (gC (pX Y))), (b 6, ob 3 [.ref (b 0), iv (pH Y), iv (pA Y), iv (pS Y)]), (b 0, ob 1 [.ref (b 1), .ref (b 2), .ref (b 3), .ref (b 4), .ref (b 5), iv (gN (pX Y)), iv (gW (pX Y))]), (b 1, ia T.2.1 100 (gK (pX Y))), (b 2, ia T.2.1 100 (gL (pX Y))), (b 3, ia T.2.2.1 100 (gM (pX Y))), (b 4, ia T.2.1 3 (gS (pX Y))), (b 5, ia T.2.1 3 (gC (pX Y)))]) (C := RX3) (TT0 := TX3) (N := 4) hM 3 0 2 (fun _ h => List.mem_cons_of_mem _ (List.mem_append_left _ (List.mem_append_right _ h))) tyX3 tyX3_ok nmX3 rfl rfl (by decide) (List.mem_of_getElem? (i := 3) rfl) rfl rfl rfl (Nat.le_of_ble_eq_true rfl) rfl dX3_copyFrom_29 ?_
  refine xr_aload_n hM 0 dX3_copyFrom_32 rfl rfl ?_
  refine xr_aload_n hM 1 dX3_copyFrom_33 rfl rfl ?_
  refine xr_get (C := RX3) (TT0 := TX3) (N := 4) hM 3 7 3 (fun _ h => List.mem_cons_of_mem _ (List.mem_append_left _ (List.mem_append_right _ h))) rfl rfl (by decide) (List.mem_of_getElem? (i := 4) rfl) rfl rfl dX3_copyFrom_34 ?_
  refine xr_put (ws' := [(a 6, ob 3 [.ref (a 0), iv (pH Y), iv (pA Y), iv (pS Y)]), (a 0, ob 1 [.ref (a 1), .ref (a 2), .ref (a 3), .ref (a 4), .ref (a 5), iv (gN (pX Y)), iv (gW (pX Y))]), (a 1, ia T.2.1 100 (gK (pX Y))), (a 2, ia T.2.1 100 (gL (pX Y))), (a 3, ia T.2.2.1 100 (gM (pX Y))), (a 4, ia T.2.1 3 (gS (pX Y))), (a 5, ia T.2.1 3 (gC (pX Y))), (b 6, ob 3 [.ref (b 0), iv (pH Y), iv (pA Y), iv (pS Y)]), (b 0, ob 1 [.ref (b 1), .ref (b 2), .ref (b 3), .ref (b 4), .ref (b 5), iv (gN (pX Y)), iv (gW (pX Y))]), (b 1, ia T.2.1 100 (gK (pX Y))), (b 2, ia T.2.1 100 (gL (pX Y))), (b 3, ia T.2.2.1 100 (gM (pX Y))), (b 4, ia T.2.1 3 (gS (pX Y))), (b 5, ia T.2.1 3 (gC (pX Y)))]) (C := RX3) (TT0 := TX3) (N := 4) hM 3 0 3 (fun _ h => List.mem_cons_of_mem _ (List.mem_append_left _ (List.mem_append_right _ h))) tyX3 tyX3_ok nmX3 rfl rfl (by decide) (List.mem_of_getElem? (i := 4) rfl) rfl rfl rfl (Nat.le_of_ble_eq_true rfl) rfl dX3_copyFrom_37 ?_
  exact xr_vret hF dX3_copyFrom_40 rfl

theorem lp_X3_descend {T : TT} {M : MB} (a : Nat → Nat) (N : Int) (R : WnS) (hM : FM T M cX3_descend RX3 1 wsX3_descend rm_X3_descend) (hF : FinV T M cX3_descend 1 (winE T a R)) : ∀ (f : Nat) (Y : WnS), DI N 0 400000 Y → (N - pA Y).toNat ≤ f → itL dsC dsS f Y = R → VV T M 1 [(0, .ref (a 6))] (winE T a Y) 0 0 11 [] := by
  intro f
  induction f with
  | zero =>
    intro Y hD hm hR
    exfalso
    have := hD.2.2.1
    omega
  | succ f ih =>
    intro Y hD hm hR
    obtain ⟨h1, h2, h3, h4, h5⟩ := id hD
    have hn1 := h1.1
    refine xr_aload_n hM 0 dX3_descend_11 rfl rfl ?_
    refine xr_get (C := RX3) (TT0 := TX3) (N := 4) hM 3 0 2 (fun _ h => List.mem_cons_of_mem _ (List.mem_append_left _ (List.mem_append_right _ h))) rfl rfl (by decide) (List.mem_of_getElem? (i := 2) rfl) rfl rfl dX3_descend_12 ?_
    refine xr_iconst hM dX3_descend_15 ?_
    refine xr_iadd hM dX3_descend_16 ?_
    refine xr_aload_n hM 0 dX3_descend_17 rfl rfl ?_
    refine xr_get (C := RX3) (TT0 := TX3) (N := 4) hM 3 0 0 (fun _ h => List.mem_cons_of_mem _ (List.mem_append_left _ (List.mem_append_right _ h))) rfl rfl (by decide) (List.mem_of_getElem? (i := 1) rfl) rfl rfl dX3_descend_18 ?_
    refine xr_get (C := RX1) (TT0 := TX1) (N := 7) hM 1 1 5 (fun _ h => List.mem_cons_of_mem _ (List.mem_append_right _ h)) rfl rfl (by decide) (List.mem_of_getElem? (i := 3) rfl) rfl rfl dX3_descend_21 ?_
    refine xr_icmp_ge hM 89 dX3_descend_24 (by decide) (by omega) (fun c24 => ?_) (fun c24 => ?_)
    · exact xr_vret hF dX3_descend_89 (congrArg (winE T a) (itL_f hR (fun q => by have q2 := of_decide_eq_true q; omega)))
    · refine xr_aload_n hM 0 dX3_descend_27 rfl rfl ?_
      refine xr_get (C := RX3) (TT0 := TX3) (N := 4) hM 3 0 3 (fun _ h => List.mem_cons_of_mem _ (List.mem_append_left _ (List.mem_append_right _ h))) rfl rfl (by decide) (List.mem_of_getElem? (i := 4) rfl) rfl rfl dX3_descend_28 ?_
      refine xr_aload_n hM 0 dX3_descend_31 rfl rfl ?_
      refine xr_get (C := RX3) (TT0 := TX3) (N := 4) hM 3 0 0 (fun _ h => List.mem_cons_of_mem _ (List.mem_append_left _ (List.mem_append_right _ h))) rfl rfl (by decide) (List.mem_of_getElem? (i := 1) rfl) rfl rfl dX3_descend_32 ?_
      refine xr_aload_n hM 0 dX3_descend_35 rfl rfl ?_
      refine xr_get (C := RX3) (TT0 := TX3) (N := 4) hM 3 0 2 (fun _ h => List.mem_cons_of_mem _ (List.mem_append_left _ (List.mem_append_right _ h))) rfl rfl (by decide) (List.mem_of_getElem? (i := 2) rfl) rfl rfl dX3_descend_36 ?_
      refine xr_callVr (rest := [iv (pS Y)]) (As := [iv (pA Y)]) (st' := [iv (htF (pX Y) (pA Y).toNat), iv (pS Y)]) hM (ct_X1_heightOf M.2.1 T a (pX Y) (pA Y) h1 (by omega)) gX3_descend_X1_heightOf rfl ⟨rfl, rfl⟩ hy_X1_heightOf rfl ⟨by decide, by decide⟩ [1, 2, 3, 4, 5, 6] rfl rfl 0 1 rfl rfl rfl rfl rfl (Nat.le_of_ble_eq_true rfl) ⟨by decide, by decide⟩ dX3_descend_39 ?_
      have hf39 := htF_b h1 (pA Y).toNat
      refine xr_icmp_lt hM 89 dX3_descend_42 (by decide) (by omega) (fun c42 => ?_) (fun c42 => ?_)
      · exact xr_vret hF dX3_descend_89 (congrArg (winE T a) (itL_f hR (fun q => by have q2 := of_decide_eq_true q; omega)))
      · refine xr_aload_n hM 0 dX3_descend_45 rfl rfl ?_
        refine xr_dup hM dX3_descend_46 rfl ?_
        refine xr_get (C := RX3) (TT0 := TX3) (N := 4) hM 3 0 3 (fun _ h => List.mem_cons_of_mem _ (List.mem_append_left _ (List.mem_append_right _ h))) rfl rfl (by decide) (List.mem_of_getElem? (i := 4) rfl) rfl rfl dX3_descend_47 ?_
        refine xr_aload_n hM 0 dX3_descend_50 rfl rfl ?_
        refine xr_get (C := RX3) (TT0 := TX3) (N := 4) hM 3 0 0 (fun _ h => List.mem_cons_of_mem _ (List.mem_append_left _ (List.mem_append_right _ h))) rfl rfl (by decide) (List.mem_of_getElem? (i := 1) rfl) rfl rfl dX3_descend_51 ?_
        refine xr_aload_n hM 0 dX3_descend_54 rfl rfl ?_
        refine xr_get (C := RX3) (TT0 := TX3) (N := 4) hM 3 0 2 (fun _ h => List.mem_cons_of_mem _ (List.mem_append_left _ (List.mem_append_right _ h))) rfl rfl (by decide) (List.mem_of_getElem? (i := 2) rfl) rfl rfl dX3_descend_55 ?_
        refine xr_callVr (rest := [iv (pS Y), .ref (a 6)]) (As := [iv (pA Y)]) (st' := [iv (htF (pX Y) (pA Y).toNat), iv (pS Y), .ref (a 6)]) hM (ct_X1_heightOf M.2.1 T a (pX Y) (pA Y) h1 (by omega)) gX3_descend_X1_heightOf rfl ⟨rfl, rfl⟩ hy_X1_heightOf rfl ⟨by decide, by decide⟩ [1, 2, 3, 4, 5, 6] rfl rfl 0 1 rfl rfl rfl rfl rfl (Nat.le_of_ble_eq_true rfl) ⟨by decide, by decide⟩ dX3_descend_58 ?_
        have hf58 := htF_b h1 (pA Y).toNat
        refine xr_isub hM dX3_descend_61 ?_
        refine xr_put (ws' := [(a 6, ob 3 [.ref (a 0), iv (pH Y), iv (pA Y), iv ((pS Y) - (htF (pX Y) (pA Y).toNat))]), (a 0, ob 1 [.ref (a 1), .ref (a 2), .ref (a 3), .ref (a 4), .ref (a 5), iv (gN (pX Y)), iv (gW (pX Y))]), (a 1, ia T.2.1 100 (gK (pX Y))), (a 2, ia T.2.1 100 (gL (pX Y))), (a 3, ia T.2.2.1 100 (gM (pX Y))), (a 4, ia T.2.1 3 (gS (pX Y))), (a 5, ia T.2.1 3 (gC (pX Y)))]) (C := RX3) (TT0 := TX3) (N := 4) hM 3 0 3 (fun _ h => List.mem_cons_of_mem _ (List.mem_append_left _ (List.mem_append_right _ h))) tyX3 tyX3_ok nmX3 rfl rfl (by decide) (List.mem_of_getElem? (i := 4) rfl) rfl rfl rfl (Nat.le_of_ble_eq_true rfl) rfl dX3_descend_62 ?_
        refine xr_aload_n hM 0 dX3_descend_65 rfl rfl ?_
        refine xr_dup hM dX3_descend_66 rfl ?_
        refine xr_get (C := RX3) (TT0 := TX3) (N := 4) hM 3 0 2 (fun _ h => List.mem_cons_of_mem _ (List.mem_append_left _ (List.mem_append_right _ h))) rfl rfl (by decide) (List.mem_of_getElem? (i := 2) rfl) rfl rfl dX3_descend_67 ?_
        refine xr_iconst hM dX3_descend_70 ?_
        refine xr_iadd hM dX3_descend_71 ?_
        refine xr_put (ws' := [(a 6, ob 3 [.ref (a 0), iv (pH Y), iv ((pA Y) + 1), iv ((pS Y) - (htF (pX Y) (pA Y).toNat))]), (a 0, ob 1 [.ref (a 1), .ref (a 2), .ref (a 3), .ref (a 4), .ref (a 5), iv (gN (pX Y)), iv (gW (pX Y))]), (a 1, ia T.2.1 100 (gK (pX Y))), (a 2, ia T.2.1 100 (gL (pX Y))), (a 3, ia T.2.2.1 100 (gM (pX Y))), (a 4, ia T.2.1 3 (gS (pX Y))), (a 5, ia T.2.1 3 (gC (pX Y)))]) (C := RX3) (TT0 := TX3) (N := 4) hM 3 0 2 (fun _ h => List.mem_cons_of_mem _ (List.mem_append_left _ (List.mem_append_right _ h))) tyX3 tyX3_ok nmX3 rfl rfl (by decide) (List.mem_of_getElem? (i := 2) rfl) rfl rfl rfl (Nat.le_of_ble_eq_true rfl) rfl dX3_descend_72 ?_
        refine xr_aload_n hM 0 dX3_descend_75 rfl rfl ?_
        refine xr_get (C := RX3) (TT0 := TX3) (N := 4) hM 3 0 0 (fun _ h => List.mem_cons_of_mem _ (List.mem_append_left _ (List.mem_append_right _ h))) rfl rfl (by decide) (List.mem_of_getElem? (i := 1) rfl) rfl rfl dX3_descend_76 ?_
        refine xr_aload_n hM 0 dX3_descend_79 rfl rfl ?_
        refine xr_get (C := RX3) (TT0 := TX3) (N := 4) hM 3 0 2 (fun _ h => List.mem_cons_of_mem _ (List.mem_append_left _ (List.mem_append_right _ h))) rfl rfl (by decide) (List.mem_of_getElem? (i := 2) rfl) rfl rfl dX3_descend_80 ?_
        refine xr_callV (ws' := [(a 6, ob 3 [.ref (a 0), iv (pH Y), iv ((pA Y) + 1), iv ((pS Y) - (htF (pX Y) (pA Y).toNat))]), (a 0, ob 1 [.ref (a 1), .ref (a 2), .ref (a 3), .ref (a 4), .ref (a 5), iv (gN (meF (pX Y) ((pA Y) + 1).toNat)), iv (gW (meF (pX Y) ((pA Y) + 1).toNat))]), (a 1, ia T.2.1 100 (gK (meF (pX Y) ((pA Y) + 1).toNat))), (a 2, ia T.2.1 100 (gL (meF (pX Y) ((pA Y) + 1).toNat))), (a 3, ia T.2.2.1 100 (gM (meF (pX Y) ((pA Y) + 1).toNat))), (a 4, ia T.2.1 3 (gS (meF (pX Y) ((pA Y) + 1).toNat))), (a 5, ia T.2.1 3 (gC (meF (pX Y) ((pA Y) + 1).toNat)))]) (rest := []) (As := [iv ((pA Y) + 1)]) (st' := []) hM (ct_X1_measure M.2.1 T a (pX Y) ((pA Y) + 1) h1 (by omega)) gX3_descend_X1_measure rfl ⟨rfl, rfl⟩ hy_X1_measure rfl ⟨by decide, by decide⟩ [1, 2, 3, 4, 5, 6] rfl rfl rfl 0 1 rfl rfl rfl rfl rfl (Nat.le_of_ble_eq_true rfl) ⟨by decide, by decide⟩ rfl dX3_descend_83 ?_
        have hf83 := meF_N (pX Y) ((pA Y) + 1).toNat
        have hf83_1 := meF_W (pX Y) ((pA Y) + 1).toNat
        have hw83 := (WFL_me h1 (by omega) : WFL (meF (pX Y) ((pA Y) + 1).toNat))
        refine xr_goto hM 11 dX3_descend_86 (by decide) ?_
        have hcd : dsC Y = true := decide_eq_true ⟨by omega, by omega⟩
        exact ih (dsS Y) (DI_ds hD hcd).1 (by have := (DI_ds hD hcd).2; omega) (itL_t hR hcd)

theorem ct_X3_descend (l : Launch) (T : TT) (a : Nat → Nat) (X : WnS) (hX : DI (gN (pX X)) 0 400000 X) : CT l yX3_descend wsX3_descend rm_X3_descend T [.ref (a 6)] (winE T a X) none (winE T a (dsF X)) := by
  refine CT.V (maxL := 1) (lv0 := [(0, .ref (a 6))]) hp_X3_descend rfl (Nat.le_of_ble_eq_true rfl) rfl (fun M hM hF => ?_)
  have hA := hX.2.2.1
  refine xr_aload_n hM 0 dX3_descend_0 rfl rfl ?_
  refine xr_get (C := RX3) (TT0 := TX3) (N := 4) hM 3 0 0 (fun _ h => List.mem_cons_of_mem _ (List.mem_append_left _ (List.mem_append_right _ h))) rfl rfl (by decide) (List.mem_of_getElem? (i := 1) rfl) rfl rfl dX3_descend_1 ?_
  refine xr_aload_n hM 0 dX3_descend_4 rfl rfl ?_
  refine xr_get (C := RX3) (TT0 := TX3) (N := 4) hM 3 0 2 (fun _ h => List.mem_cons_of_mem _ (List.mem_append_left _ (List.mem_append_right _ h))) rfl rfl (by decide) (List.mem_of_getElem? (i := 2) rfl) rfl rfl dX3_descend_5 ?_
  refine xr_callV (ws' := [(a 6, ob 3 [.ref (a 0), iv (pH X), iv (pA X), iv (pS X)]), (a 0, ob 1 [.ref (a 1), .ref (a 2), .ref (a 3), .ref (a 4), .ref (a 5), iv (gN (meF (pX X) (pA X).toNat)), iv (gW (meF (pX X) (pA X).toNat))]), (a 1, ia T.2.1 100 (gK (meF (pX X) (pA X).toNat))), (a 2, ia T.2.1 100 (gL (meF (pX X) (pA X).toNat))), (a 3, ia T.2.2.1 100 (gM (meF (pX X) (pA X).toNat))), (a 4, ia T.2.1 3 (gS (meF (pX X) (pA X).toNat))), (a 5, ia T.2.1 3 (gC (meF (pX X) (pA X).toNat)))]) (rest := []) (As := [iv (pA X)]) (st' := []) hM (ct_X1_measure M.2.1 T a (pX X) (pA X) hX.1 (by omega)) gX3_descend_X1_measure rfl ⟨rfl, rfl⟩ hy_X1_measure rfl ⟨by decide, by decide⟩ [1, 2, 3, 4, 5, 6] rfl rfl rfl 0 1 rfl rfl rfl rfl rfl (Nat.le_of_ble_eq_true rfl) ⟨by decide, by decide⟩ rfl dX3_descend_8 ?_
  have hf8 := meF_N (pX X) (pA X).toNat
  have hf8_1 := meF_W (pX X) (pA X).toNat
  have hw8 := (WFL_me hX.1 (by omega) : WFL (meF (pX X) (pA X).toNat))
  have h0 : DI (gN (pX X)) 0 400000 (ds0 X) := ⟨hw8, hf8, hX.2.2⟩
  exact lp_X3_descend a (gN (pX X)) (dsF X) hM hF _ (ds0 X) h0 (Nat.le_refl _) rfl

theorem lp_X3_climb {T : TT} {M : MB} (a : Nat → Nat) (N : Int) (R : WnS) (hM : FM T M cX3_climb RX3 1 wsX3_climb rm_X3_climb) (hF : FinV T M cX3_climb 1 (winE T a (pX R, pH R, pA R, max 0 (pS R)))) : ∀ (f : Nat) (Y : WnS), DI N (-600000) 400000 Y → (pA Y).toNat ≤ f → itL clC clS f Y = R → VV T M 1 [(0, .ref (a 6))] (winE T a Y) 0 0 0 [] := by
  intro f
  induction f with
  | zero =>
    intro Y hD hm hR
    obtain ⟨h1, h2, h3, h4, h5⟩ := id hD
    have hn1 := h1.1
    refine xr_aload_n hM 0 dX3_climb_0 rfl rfl ?_
    refine xr_get (C := RX3) (TT0 := TX3) (N := 4) hM 3 0 2 (fun _ h => List.mem_cons_of_mem _ (List.mem_append_left _ (List.mem_append_right _ h))) rfl rfl (by decide) (List.mem_of_getElem? (i := 1) rfl) rfl rfl dX3_climb_1 ?_
    refine xr_if_le hM 58 dX3_climb_4 (by decide) (by omega) (fun c4 => ?_) (fun c4 => by exfalso; omega)
    refine xr_aload_n hM 0 dX3_climb_58 rfl rfl ?_
    refine xr_iconst hM dX3_climb_59 ?_
    refine xr_aload_n hM 0 dX3_climb_60 rfl rfl ?_
    refine xr_get (C := RX3) (TT0 := TX3) (N := 4) hM 3 0 3 (fun _ h => List.mem_cons_of_mem _ (List.mem_append_left _ (List.mem_append_right _ h))) rfl rfl (by decide) (List.mem_of_getElem? (i := 2) rfl) rfl rfl dX3_climb_61 ?_
    refine xr_mmax hM (List.mem_of_getElem? (i := 4) rfl) (List.mem_of_getElem? (i := 5) rfl) (List.mem_of_getElem? (i := 6) rfl) (List.mem_of_getElem? (i := 7) rfl) (by omega) (by decide) (Nat.le_of_ble_eq_true rfl) (by decide) (by decide) dX3_climb_64 ?_
    refine xr_put (ws' := [(a 6, ob 3 [.ref (a 0), iv (pH Y), iv (pA Y), iv (max 0 (pS Y))]), (a 0, ob 1 [.ref (a 1), .ref (a 2), .ref (a 3), .ref (a 4), .ref (a 5), iv (gN (pX Y)), iv (gW (pX Y))]), (a 1, ia T.2.1 100 (gK (pX Y))), (a 2, ia T.2.1 100 (gL (pX Y))), (a 3, ia T.2.2.1 100 (gM (pX Y))), (a 4, ia T.2.1 3 (gS (pX Y))), (a 5, ia T.2.1 3 (gC (pX Y)))]) (C := RX3) (TT0 := TX3) (N := 4) hM 3 0 3 (fun _ h => List.mem_cons_of_mem _ (List.mem_append_left _ (List.mem_append_right _ h))) tyX3 tyX3_ok nmX3 rfl rfl (by decide) (List.mem_of_getElem? (i := 2) rfl) rfl rfl rfl (Nat.le_of_ble_eq_true rfl) rfl dX3_climb_67 ?_
    obtain rfl := itL_f hR (fun q => by have q2 := of_decide_eq_true q; omega)
    exact xr_vret hF dX3_climb_70 rfl
  | succ f ih =>
    intro Y hD hm hR
    obtain ⟨h1, h2, h3, h4, h5⟩ := id hD
    have hn1 := h1.1
    refine xr_aload_n hM 0 dX3_climb_0 rfl rfl ?_
    refine xr_get (C := RX3) (TT0 := TX3) (N := 4) hM 3 0 2 (fun _ h => List.mem_cons_of_mem _ (List.mem_append_left _ (List.mem_append_right _ h))) rfl rfl (by decide) (List.mem_of_getElem? (i := 1) rfl) rfl rfl dX3_climb_1 ?_
    refine xr_if_le hM 58 dX3_climb_4 (by decide) (by omega) (fun c4 => ?_) (fun c4 => ?_)
    · refine xr_aload_n hM 0 dX3_climb_58 rfl rfl ?_
      refine xr_iconst hM dX3_climb_59 ?_
      refine xr_aload_n hM 0 dX3_climb_60 rfl rfl ?_
      refine xr_get (C := RX3) (TT0 := TX3) (N := 4) hM 3 0 3 (fun _ h => List.mem_cons_of_mem _ (List.mem_append_left _ (List.mem_append_right _ h))) rfl rfl (by decide) (List.mem_of_getElem? (i := 2) rfl) rfl rfl dX3_climb_61 ?_
      refine xr_mmax hM (List.mem_of_getElem? (i := 4) rfl) (List.mem_of_getElem? (i := 5) rfl) (List.mem_of_getElem? (i := 6) rfl) (List.mem_of_getElem? (i := 7) rfl) (by omega) (by decide) (Nat.le_of_ble_eq_true rfl) (by decide) (by decide) dX3_climb_64 ?_
      refine xr_put (ws' := [(a 6, ob 3 [.ref (a 0), iv (pH Y), iv (pA Y), iv (max 0 (pS Y))]), (a 0, ob 1 [.ref (a 1), .ref (a 2), .ref (a 3), .ref (a 4), .ref (a 5), iv (gN (pX Y)), iv (gW (pX Y))]), (a 1, ia T.2.1 100 (gK (pX Y))), (a 2, ia T.2.1 100 (gL (pX Y))), (a 3, ia T.2.2.1 100 (gM (pX Y))), (a 4, ia T.2.1 3 (gS (pX Y))), (a 5, ia T.2.1 3 (gC (pX Y)))]) (C := RX3) (TT0 := TX3) (N := 4) hM 3 0 3 (fun _ h => List.mem_cons_of_mem _ (List.mem_append_left _ (List.mem_append_right _ h))) tyX3 tyX3_ok nmX3 rfl rfl (by decide) (List.mem_of_getElem? (i := 2) rfl) rfl rfl rfl (Nat.le_of_ble_eq_true rfl) rfl dX3_climb_67 ?_
      obtain rfl := itL_f hR (fun q => by have q2 := of_decide_eq_true q; omega)
      exact xr_vret hF dX3_climb_70 rfl
    · refine xr_aload_n hM 0 dX3_climb_7 rfl rfl ?_
      refine xr_get (C := RX3) (TT0 := TX3) (N := 4) hM 3 0 3 (fun _ h => List.mem_cons_of_mem _ (List.mem_append_left _ (List.mem_append_right _ h))) rfl rfl (by decide) (List.mem_of_getElem? (i := 2) rfl) rfl rfl dX3_climb_8 ?_
      refine xr_if_ge hM 58 dX3_climb_11 (by decide) (by omega) (fun c11 => ?_) (fun c11 => ?_)
      · refine xr_aload_n hM 0 dX3_climb_58 rfl rfl ?_
        refine xr_iconst hM dX3_climb_59 ?_
        refine xr_aload_n hM 0 dX3_climb_60 rfl rfl ?_
        refine xr_get (C := RX3) (TT0 := TX3) (N := 4) hM 3 0 3 (fun _ h => List.mem_cons_of_mem _ (List.mem_append_left _ (List.mem_append_right _ h))) rfl rfl (by decide) (List.mem_of_getElem? (i := 2) rfl) rfl rfl dX3_climb_61 ?_
        refine xr_mmax hM (List.mem_of_getElem? (i := 4) rfl) (List.mem_of_getElem? (i := 5) rfl) (List.mem_of_getElem? (i := 6) rfl) (List.mem_of_getElem? (i := 7) rfl) (by omega) (by decide) (Nat.le_of_ble_eq_true rfl) (by decide) (by decide) dX3_climb_64 ?_
        refine xr_put (ws' := [(a 6, ob 3 [.ref (a 0), iv (pH Y), iv (pA Y), iv (max 0 (pS Y))]), (a 0, ob 1 [.ref (a 1), .ref (a 2), .ref (a 3), .ref (a 4), .ref (a 5), iv (gN (pX Y)), iv (gW (pX Y))]), (a 1, ia T.2.1 100 (gK (pX Y))), (a 2, ia T.2.1 100 (gL (pX Y))), (a 3, ia T.2.2.1 100 (gM (pX Y))), (a 4, ia T.2.1 3 (gS (pX Y))), (a 5, ia T.2.1 3 (gC (pX Y)))]) (C := RX3) (TT0 := TX3) (N := 4) hM 3 0 3 (fun _ h => List.mem_cons_of_mem _ (List.mem_append_left _ (List.mem_append_right _ h))) tyX3 tyX3_ok nmX3 rfl rfl (by decide) (List.mem_of_getElem? (i := 2) rfl) rfl rfl rfl (Nat.le_of_ble_eq_true rfl) rfl dX3_climb_67 ?_
        obtain rfl := itL_f hR (fun q => by have q2 := of_decide_eq_true q; omega)
        exact xr_vret hF dX3_climb_70 rfl
      · refine xr_aload_n hM 0 dX3_climb_14 rfl rfl ?_
        refine xr_dup hM dX3_climb_15 rfl ?_
        refine xr_get (C := RX3) (TT0 := TX3) (N := 4) hM 3 0 2 (fun _ h => List.mem_cons_of_mem _ (List.mem_append_left _ (List.mem_append_right _ h))) rfl rfl (by decide) (List.mem_of_getElem? (i := 1) rfl) rfl rfl dX3_climb_16 ?_
        refine xr_iconst hM dX3_climb_19 ?_
        refine xr_isub hM dX3_climb_20 ?_
        refine xr_put (ws' := [(a 6, ob 3 [.ref (a 0), iv (pH Y), iv ((pA Y) - 1), iv (pS Y)]), (a 0, ob 1 [.ref (a 1), .ref (a 2), .ref (a 3), .ref (a 4), .ref (a 5), iv (gN (pX Y)), iv (gW (pX Y))]), (a 1, ia T.2.1 100 (gK (pX Y))), (a 2, ia T.2.1 100 (gL (pX Y))), (a 3, ia T.2.2.1 100 (gM (pX Y))), (a 4, ia T.2.1 3 (gS (pX Y))), (a 5, ia T.2.1 3 (gC (pX Y)))]) (C := RX3) (TT0 := TX3) (N := 4) hM 3 0 2 (fun _ h => List.mem_cons_of_mem _ (List.mem_append_left _ (List.mem_append_right _ h))) tyX3 tyX3_ok nmX3 rfl rfl (by decide) (List.mem_of_getElem? (i := 1) rfl) rfl rfl rfl (Nat.le_of_ble_eq_true rfl) rfl dX3_climb_21 ?_
        refine xr_aload_n hM 0 dX3_climb_24 rfl rfl ?_
        refine xr_get (C := RX3) (TT0 := TX3) (N := 4) hM 3 0 0 (fun _ h => List.mem_cons_of_mem _ (List.mem_append_left _ (List.mem_append_right _ h))) rfl rfl (by decide) (List.mem_of_getElem? (i := 3) rfl) rfl rfl dX3_climb_25 ?_
        refine xr_aload_n hM 0 dX3_climb_28 rfl rfl ?_
        refine xr_get (C := RX3) (TT0 := TX3) (N := 4) hM 3 0 2 (fun _ h => List.mem_cons_of_mem _ (List.mem_append_left _ (List.mem_append_right _ h))) rfl rfl (by decide) (List.mem_of_getElem? (i := 1) rfl) rfl rfl dX3_climb_29 ?_
        refine xr_callV (ws' := [(a 6, ob 3 [.ref (a 0), iv (pH Y), iv ((pA Y) - 1), iv (pS Y)]), (a 0, ob 1 [.ref (a 1), .ref (a 2), .ref (a 3), .ref (a 4), .ref (a 5), iv (gN (meF (pX Y) ((pA Y) - 1).toNat)), iv (gW (meF (pX Y) ((pA Y) - 1).toNat))]), (a 1, ia T.2.1 100 (gK (meF (pX Y) ((pA Y) - 1).toNat))), (a 2, ia T.2.1 100 (gL (meF (pX Y) ((pA Y) - 1).toNat))), (a 3, ia T.2.2.1 100 (gM (meF (pX Y) ((pA Y) - 1).toNat))), (a 4, ia T.2.1 3 (gS (meF (pX Y) ((pA Y) - 1).toNat))), (a 5, ia T.2.1 3 (gC (meF (pX Y) ((pA Y) - 1).toNat)))]) (rest := []) (As := [iv ((pA Y) - 1)]) (st' := []) hM (ct_X1_measure M.2.1 T a (pX Y) ((pA Y) - 1) h1 (by omega)) gX3_climb_X1_measure rfl ⟨rfl, rfl⟩ hy_X1_measure rfl ⟨by decide, by decide⟩ [1, 2, 3, 4, 5, 6] rfl rfl rfl 0 1 rfl rfl rfl rfl rfl (Nat.le_of_ble_eq_true rfl) ⟨by decide, by decide⟩ rfl dX3_climb_32 ?_
        have hf32 := meF_N (pX Y) ((pA Y) - 1).toNat
        have hf32_1 := meF_W (pX Y) ((pA Y) - 1).toNat
        have hw32 := (WFL_me h1 (by omega) : WFL (meF (pX Y) ((pA Y) - 1).toNat))
        refine xr_aload_n hM 0 dX3_climb_35 rfl rfl ?_
        refine xr_dup hM dX3_climb_36 rfl ?_
        refine xr_get (C := RX3) (TT0 := TX3) (N := 4) hM 3 0 3 (fun _ h => List.mem_cons_of_mem _ (List.mem_append_left _ (List.mem_append_right _ h))) rfl rfl (by decide) (List.mem_of_getElem? (i := 2) rfl) rfl rfl dX3_climb_37 ?_
        refine xr_aload_n hM 0 dX3_climb_40 rfl rfl ?_
        refine xr_get (C := RX3) (TT0 := TX3) (N := 4) hM 3 0 0 (fun _ h => List.mem_cons_of_mem _ (List.mem_append_left _ (List.mem_append_right _ h))) rfl rfl (by decide) (List.mem_of_getElem? (i := 3) rfl) rfl rfl dX3_climb_41 ?_
        refine xr_aload_n hM 0 dX3_climb_44 rfl rfl ?_
        refine xr_get (C := RX3) (TT0 := TX3) (N := 4) hM 3 0 2 (fun _ h => List.mem_cons_of_mem _ (List.mem_append_left _ (List.mem_append_right _ h))) rfl rfl (by decide) (List.mem_of_getElem? (i := 1) rfl) rfl rfl dX3_climb_45 ?_
        refine xr_callVr (rest := [iv (pS Y), .ref (a 6)]) (As := [iv ((pA Y) - 1)]) (st' := [iv (htF (meF (pX Y) ((pA Y) - 1).toNat) ((pA Y) - 1).toNat), iv (pS Y), .ref (a 6)]) hM (ct_X1_heightOf M.2.1 T a (meF (pX Y) ((pA Y) - 1).toNat) ((pA Y) - 1) hw32 (by omega)) gX3_climb_X1_heightOf rfl ⟨rfl, rfl⟩ hy_X1_heightOf rfl ⟨by decide, by decide⟩ [1, 2, 3, 4, 5, 6] rfl rfl 0 1 rfl rfl rfl rfl rfl (Nat.le_of_ble_eq_true rfl) ⟨by decide, by decide⟩ dX3_climb_48 ?_
        have hf48 := htF_b hw32 ((pA Y) - 1).toNat
        refine xr_iadd hM dX3_climb_51 ?_
        refine xr_put (ws' := [(a 6, ob 3 [.ref (a 0), iv (pH Y), iv ((pA Y) - 1), iv ((pS Y) + (htF (meF (pX Y) ((pA Y) - 1).toNat) ((pA Y) - 1).toNat))]), (a 0, ob 1 [.ref (a 1), .ref (a 2), .ref (a 3), .ref (a 4), .ref (a 5), iv (gN (meF (pX Y) ((pA Y) - 1).toNat)), iv (gW (meF (pX Y) ((pA Y) - 1).toNat))]), (a 1, ia T.2.1 100 (gK (meF (pX Y) ((pA Y) - 1).toNat))), (a 2, ia T.2.1 100 (gL (meF (pX Y) ((pA Y) - 1).toNat))), (a 3, ia T.2.2.1 100 (gM (meF (pX Y) ((pA Y) - 1).toNat))), (a 4, ia T.2.1 3 (gS (meF (pX Y) ((pA Y) - 1).toNat))), (a 5, ia T.2.1 3 (gC (meF (pX Y) ((pA Y) - 1).toNat)))]) (C := RX3) (TT0 := TX3) (N := 4) hM 3 0 3 (fun _ h => List.mem_cons_of_mem _ (List.mem_append_left _ (List.mem_append_right _ h))) tyX3 tyX3_ok nmX3 rfl rfl (by decide) (List.mem_of_getElem? (i := 2) rfl) rfl rfl rfl (Nat.le_of_ble_eq_true rfl) rfl dX3_climb_52 ?_
        refine xr_goto hM 0 dX3_climb_55 (by decide) ?_
        have hcd : clC Y = true := decide_eq_true ⟨by omega, by omega⟩
        exact ih (clS Y) (DI_cl (by omega) hD hcd).1 (by have := (DI_cl (by omega) hD hcd).2; omega) (itL_t hR hcd)

theorem ct_X3_climb (l : Launch) (T : TT) (a : Nat → Nat) (X : WnS) (hX : DI (gN (pX X)) (-600000) 400000 X) : CT l yX3_climb wsX3_climb rm_X3_climb T [.ref (a 6)] (winE T a X) none (winE T a (clF X)) := by
  refine CT.V (maxL := 1) (lv0 := [(0, .ref (a 6))]) hp_X3_climb rfl (Nat.le_of_ble_eq_true rfl) rfl (fun M hM hF => ?_)
  exact lp_X3_climb a (gN (pX X)) (clL X) hM hF _ X hX (Nat.le_refl _) rfl

theorem lp_X3_settle {T : TT} {M : MB} (a : Nat → Nat) (N : Int) (Y : WnS) (R : LnS × Int × Int) (hD : DI N 0 400000 Y) (hH : 20 ≤ pH Y ∧ pH Y ≤ 600) (hM : FM T M cX3_settle RX3 4 wsX3_settle rm_X3_settle) (hF : FinV T M cX3_settle 4 (winE T a (enF Y R))) : ∀ (f : Nat) (Z : LnS × Int × Int), FI N Z → (N - Z.2.1).toNat < f → itL (fiC (pS Y + pH Y)) fiS f Z = R → VV T M 4 [(0, .ref (a 6)), (1, iv (pS Y + pH Y)), (2, iv Z.2.1), (3, iv Z.2.2)] [(a 6, ob 3 [.ref (a 0), iv (pH Y), iv (pA Y), iv (pS Y)]), (a 0, ob 1 [.ref (a 1), .ref (a 2), .ref (a 3), .ref (a 4), .ref (a 5), iv (gN (Z.1)), iv (gW (Z.1))]), (a 1, ia T.2.1 100 (gK (Z.1))), (a 2, ia T.2.1 100 (gL (Z.1))), (a 3, ia T.2.2.1 100 (gM (Z.1))), (a 4, ia T.2.1 3 (gS (Z.1))), (a 5, ia T.2.1 3 (gC (Z.1)))] 0 0 44 [] := by
  intro f
  induction f with
  | zero =>
    intro Z hZ hm hR
    omega
  | succ f ih =>
    intro Z hZ hm hR
    obtain ⟨h1, h2, h3, h4, h5⟩ := id hD
    obtain ⟨f1, f2, f3, f4, f5⟩ := id hZ
    have hn1 := f1.1
    refine xr_iload_n hM 2 dX3_settle_44 rfl rfl ?_
    refine xr_aload_n hM 0 dX3_settle_45 rfl rfl ?_
    refine xr_get (C := RX3) (TT0 := TX3) (N := 4) hM 3 0 0 (fun _ h => List.mem_cons_of_mem _ (List.mem_append_left _ (List.mem_append_right _ h))) rfl rfl (by decide) (List.mem_of_getElem? (i := 1) rfl) rfl rfl dX3_settle_46 ?_
    refine xr_get (C := RX1) (TT0 := TX1) (N := 7) hM 1 1 5 (fun _ h => List.mem_cons_of_mem _ (List.mem_append_right _ h)) rfl rfl (by decide) (List.mem_of_getElem? (i := 2) rfl) rfl rfl dX3_settle_49 ?_
    refine xr_icmp_ge hM 85 dX3_settle_52 (by decide) (by omega) (fun c52 => ?_) (fun c52 => ?_)
    · refine xr_iload_n hM 2 dX3_settle_85 rfl rfl ?_
      refine xr_aload_n hM 0 dX3_settle_86 rfl rfl ?_
      refine xr_get (C := RX3) (TT0 := TX3) (N := 4) hM 3 0 0 (fun _ h => List.mem_cons_of_mem _ (List.mem_append_left _ (List.mem_append_right _ h))) rfl rfl (by decide) (List.mem_of_getElem? (i := 1) rfl) rfl rfl dX3_settle_87 ?_
      refine xr_get (C := RX1) (TT0 := TX1) (N := 7) hM 1 1 5 (fun _ h => List.mem_cons_of_mem _ (List.mem_append_right _ h)) rfl rfl (by decide) (List.mem_of_getElem? (i := 2) rfl) rfl rfl dX3_settle_90 ?_
      refine xr_icmp_lt hM 117 dX3_settle_93 (by decide) (by omega) (fun c93 => ?_) (fun c93 => ?_)
      · obtain rfl := itL_f hR (fun q => by have q2 := of_decide_eq_true q; omega)
        exact xr_vret hF dX3_settle_117 (by rw [enF, if_neg (by omega)] <;> rfl)
      · refine xr_iload_n hM 3 dX3_settle_96 rfl rfl ?_
        refine xr_iload_n hM 1 dX3_settle_97 rfl rfl ?_
        refine xr_icmp_ge hM 117 dX3_settle_98 (by decide) (by omega) (fun c98 => ?_) (fun c98 => ?_)
        · obtain rfl := itL_f hR (fun q => by have q2 := of_decide_eq_true q; omega)
          exact xr_vret hF dX3_settle_117 (by rw [enF, if_neg (by omega)] <;> rfl)
        · refine xr_aload_n hM 0 dX3_settle_101 rfl rfl ?_
          refine xr_dup hM dX3_settle_102 rfl ?_
          refine xr_get (C := RX3) (TT0 := TX3) (N := 4) hM 3 0 3 (fun _ h => List.mem_cons_of_mem _ (List.mem_append_left _ (List.mem_append_right _ h))) rfl rfl (by decide) (List.mem_of_getElem? (i := 3) rfl) rfl rfl dX3_settle_103 ?_
          refine xr_iload_n hM 1 dX3_settle_106 rfl rfl ?_
          refine xr_iload_n hM 3 dX3_settle_107 rfl rfl ?_
          refine xr_isub hM dX3_settle_108 ?_
          refine xr_isub hM dX3_settle_109 ?_
          refine xr_put (ws' := [(a 6, ob 3 [.ref (a 0), iv (pH Y), iv (pA Y), iv ((pS Y) - ((pS Y + pH Y) - Z.2.2))]), (a 0, ob 1 [.ref (a 1), .ref (a 2), .ref (a 3), .ref (a 4), .ref (a 5), iv (gN (Z.1)), iv (gW (Z.1))]), (a 1, ia T.2.1 100 (gK (Z.1))), (a 2, ia T.2.1 100 (gL (Z.1))), (a 3, ia T.2.2.1 100 (gM (Z.1))), (a 4, ia T.2.1 3 (gS (Z.1))), (a 5, ia T.2.1 3 (gC (Z.1)))]) (C := RX3) (TT0 := TX3) (N := 4) hM 3 0 3 (fun _ h => List.mem_cons_of_mem _ (List.mem_append_left _ (List.mem_append_right _ h))) tyX3 tyX3_ok nmX3 rfl rfl (by decide) (List.mem_of_getElem? (i := 3) rfl) rfl rfl rfl (Nat.le_of_ble_eq_true rfl) rfl dX3_settle_110 ?_
          have hDc : DI (gN Z.1) (-600000) 400000 (Z.1, pH Y, pA Y, pS Y - (pS Y + pH Y - Z.2.2)) := ⟨f1, rfl, by show 0 ≤ pA Y ∧ pA Y < gN Z.1; omega, (by show -600000 ≤ pS Y - (pS Y + pH Y - Z.2.2); omega), (by show pS Y - (pS Y + pH Y - Z.2.2) ≤ 400000; omega)⟩
          refine xr_aload_n hM 0 dX3_settle_113 rfl rfl ?_
          refine xr_callV (ws' := [(a 6, ob 3 [.ref (a 0), iv (pH (clF (Z.1, pH Y, pA Y, (pS Y) - ((pS Y + pH Y) - Z.2.2)))), iv (pA (clF (Z.1, pH Y, pA Y, (pS Y) - ((pS Y + pH Y) - Z.2.2)))), iv (pS (clF (Z.1, pH Y, pA Y, (pS Y) - ((pS Y + pH Y) - Z.2.2))))]), (a 0, ob 1 [.ref (a 1), .ref (a 2), .ref (a 3), .ref (a 4), .ref (a 5), iv (gN (pX (clF (Z.1, pH Y, pA Y, (pS Y) - ((pS Y + pH Y) - Z.2.2))))), iv (gW (pX (clF (Z.1, pH Y, pA Y, (pS Y) - ((pS Y + pH Y) - Z.2.2)))))]), (a 1, ia T.2.1 100 (gK (pX (clF (Z.1, pH Y, pA Y, (pS Y) - ((pS Y + pH Y) - Z.2.2)))))), (a 2, ia T.2.1 100 (gL (pX (clF (Z.1, pH Y, pA Y, (pS Y) - ((pS Y + pH Y) - Z.2.2)))))), (a 3, ia T.2.2.1 100 (gM (pX (clF (Z.1, pH Y, pA Y, (pS Y) - ((pS Y + pH Y) - Z.2.2)))))), (a 4, ia T.2.1 3 (gS (pX (clF (Z.1, pH Y, pA Y, (pS Y) - ((pS Y + pH Y) - Z.2.2)))))), (a 5, ia T.2.1 3 (gC (pX (clF (Z.1, pH Y, pA Y, (pS Y) - ((pS Y + pH Y) - Z.2.2))))))]) (rest := []) (As := []) (st' := []) hM (ct_X3_climb M.2.1 T a (Z.1, pH Y, pA Y, (pS Y) - ((pS Y + pH Y) - Z.2.2)) hDc) gX3_settle_X3_climb rfl ⟨rfl, rfl⟩ hy_X3_climb rfl ⟨by decide, by decide⟩ [0, 1, 2, 3, 4, 5, 6] rfl rfl rfl 0 3 rfl rfl rfl rfl rfl (Nat.le_of_ble_eq_true rfl) ⟨by decide, by decide⟩ rfl dX3_settle_114 ?_
          obtain rfl := itL_f hR (fun q => by have q2 := of_decide_eq_true q; omega)
          exact xr_vret hF dX3_settle_117 (by rw [enF, if_pos (by omega)] <;> rfl)
    · refine xr_iload_n hM 3 dX3_settle_55 rfl rfl ?_
      refine xr_iload_n hM 1 dX3_settle_56 rfl rfl ?_
      refine xr_icmp_ge hM 85 dX3_settle_57 (by decide) (by omega) (fun c57 => ?_) (fun c57 => ?_)
      · refine xr_iload_n hM 2 dX3_settle_85 rfl rfl ?_
        refine xr_aload_n hM 0 dX3_settle_86 rfl rfl ?_
        refine xr_get (C := RX3) (TT0 := TX3) (N := 4) hM 3 0 0 (fun _ h => List.mem_cons_of_mem _ (List.mem_append_left _ (List.mem_append_right _ h))) rfl rfl (by decide) (List.mem_of_getElem? (i := 1) rfl) rfl rfl dX3_settle_87 ?_
        refine xr_get (C := RX1) (TT0 := TX1) (N := 7) hM 1 1 5 (fun _ h => List.mem_cons_of_mem _ (List.mem_append_right _ h)) rfl rfl (by decide) (List.mem_of_getElem? (i := 2) rfl) rfl rfl dX3_settle_90 ?_
        refine xr_icmp_lt hM 117 dX3_settle_93 (by decide) (by omega) (fun c93_1 => ?_) (fun c93_1 => ?_)
        · obtain rfl := itL_f hR (fun q => by have q2 := of_decide_eq_true q; omega)
          exact xr_vret hF dX3_settle_117 (by rw [enF, if_neg (by omega)] <;> rfl)
        · refine xr_iload_n hM 3 dX3_settle_96 rfl rfl ?_
          refine xr_iload_n hM 1 dX3_settle_97 rfl rfl ?_
          refine xr_icmp_ge hM 117 dX3_settle_98 (by decide) (by omega) (fun c98_1 => ?_) (fun c98_1 => ?_)
          · obtain rfl := itL_f hR (fun q => by have q2 := of_decide_eq_true q; omega)
            exact xr_vret hF dX3_settle_117 (by rw [enF, if_neg (by omega)] <;> rfl)
          · refine xr_aload_n hM 0 dX3_settle_101 rfl rfl ?_
            refine xr_dup hM dX3_settle_102 rfl ?_
            refine xr_get (C := RX3) (TT0 := TX3) (N := 4) hM 3 0 3 (fun _ h => List.mem_cons_of_mem _ (List.mem_append_left _ (List.mem_append_right _ h))) rfl rfl (by decide) (List.mem_of_getElem? (i := 3) rfl) rfl rfl dX3_settle_103 ?_
            refine xr_iload_n hM 1 dX3_settle_106 rfl rfl ?_
            refine xr_iload_n hM 3 dX3_settle_107 rfl rfl ?_
            refine xr_isub hM dX3_settle_108 ?_
            refine xr_isub hM dX3_settle_109 ?_
            refine xr_put (ws' := [(a 6, ob 3 [.ref (a 0), iv (pH Y), iv (pA Y), iv ((pS Y) - ((pS Y + pH Y) - Z.2.2))]), (a 0, ob 1 [.ref (a 1), .ref (a 2), .ref (a 3), .ref (a 4), .ref (a 5), iv (gN (Z.1)), iv (gW (Z.1))]), (a 1, ia T.2.1 100 (gK (Z.1))), (a 2, ia T.2.1 100 (gL (Z.1))), (a 3, ia T.2.2.1 100 (gM (Z.1))), (a 4, ia T.2.1 3 (gS (Z.1))), (a 5, ia T.2.1 3 (gC (Z.1)))]) (C := RX3) (TT0 := TX3) (N := 4) hM 3 0 3 (fun _ h => List.mem_cons_of_mem _ (List.mem_append_left _ (List.mem_append_right _ h))) tyX3 tyX3_ok nmX3 rfl rfl (by decide) (List.mem_of_getElem? (i := 3) rfl) rfl rfl rfl (Nat.le_of_ble_eq_true rfl) rfl dX3_settle_110 ?_
            have hDc : DI (gN Z.1) (-600000) 400000 (Z.1, pH Y, pA Y, pS Y - (pS Y + pH Y - Z.2.2)) := ⟨f1, rfl, by show 0 ≤ pA Y ∧ pA Y < gN Z.1; omega, (by show -600000 ≤ pS Y - (pS Y + pH Y - Z.2.2); omega), (by show pS Y - (pS Y + pH Y - Z.2.2) ≤ 400000; omega)⟩
            refine xr_aload_n hM 0 dX3_settle_113 rfl rfl ?_
            refine xr_callV (ws' := [(a 6, ob 3 [.ref (a 0), iv (pH (clF (Z.1, pH Y, pA Y, (pS Y) - ((pS Y + pH Y) - Z.2.2)))), iv (pA (clF (Z.1, pH Y, pA Y, (pS Y) - ((pS Y + pH Y) - Z.2.2)))), iv (pS (clF (Z.1, pH Y, pA Y, (pS Y) - ((pS Y + pH Y) - Z.2.2))))]), (a 0, ob 1 [.ref (a 1), .ref (a 2), .ref (a 3), .ref (a 4), .ref (a 5), iv (gN (pX (clF (Z.1, pH Y, pA Y, (pS Y) - ((pS Y + pH Y) - Z.2.2))))), iv (gW (pX (clF (Z.1, pH Y, pA Y, (pS Y) - ((pS Y + pH Y) - Z.2.2)))))]), (a 1, ia T.2.1 100 (gK (pX (clF (Z.1, pH Y, pA Y, (pS Y) - ((pS Y + pH Y) - Z.2.2)))))), (a 2, ia T.2.1 100 (gL (pX (clF (Z.1, pH Y, pA Y, (pS Y) - ((pS Y + pH Y) - Z.2.2)))))), (a 3, ia T.2.2.1 100 (gM (pX (clF (Z.1, pH Y, pA Y, (pS Y) - ((pS Y + pH Y) - Z.2.2)))))), (a 4, ia T.2.1 3 (gS (pX (clF (Z.1, pH Y, pA Y, (pS Y) - ((pS Y + pH Y) - Z.2.2)))))), (a 5, ia T.2.1 3 (gC (pX (clF (Z.1, pH Y, pA Y, (pS Y) - ((pS Y + pH Y) - Z.2.2))))))]) (rest := []) (As := []) (st' := []) hM (ct_X3_climb M.2.1 T a (Z.1, pH Y, pA Y, (pS Y) - ((pS Y + pH Y) - Z.2.2)) hDc) gX3_settle_X3_climb rfl ⟨rfl, rfl⟩ hy_X3_climb rfl ⟨by decide, by decide⟩ [0, 1, 2, 3, 4, 5, 6] rfl rfl rfl 0 3 rfl rfl rfl rfl rfl (Nat.le_of_ble_eq_true rfl) ⟨by decide, by decide⟩ rfl dX3_settle_114 ?_
            obtain rfl := itL_f hR (fun q => by have q2 := of_decide_eq_true q; omega)
            exact xr_vret hF dX3_settle_117 (by rw [enF, if_pos (by omega)] <;> rfl)
      · refine xr_aload_n hM 0 dX3_settle_60 rfl rfl ?_
        refine xr_get (C := RX3) (TT0 := TX3) (N := 4) hM 3 0 0 (fun _ h => List.mem_cons_of_mem _ (List.mem_append_left _ (List.mem_append_right _ h))) rfl rfl (by decide) (List.mem_of_getElem? (i := 1) rfl) rfl rfl dX3_settle_61 ?_
        refine xr_iload_n hM 2 dX3_settle_64 rfl rfl ?_
        refine xr_callV (ws' := [(a 6, ob 3 [.ref (a 0), iv (pH Y), iv (pA Y), iv (pS Y)]), (a 0, ob 1 [.ref (a 1), .ref (a 2), .ref (a 3), .ref (a 4), .ref (a 5), iv (gN (meF Z.1 Z.2.1.toNat)), iv (gW (meF Z.1 Z.2.1.toNat))]), (a 1, ia T.2.1 100 (gK (meF Z.1 Z.2.1.toNat))), (a 2, ia T.2.1 100 (gL (meF Z.1 Z.2.1.toNat))), (a 3, ia T.2.2.1 100 (gM (meF Z.1 Z.2.1.toNat))), (a 4, ia T.2.1 3 (gS (meF Z.1 Z.2.1.toNat))), (a 5, ia T.2.1 3 (gC (meF Z.1 Z.2.1.toNat)))]) (rest := []) (As := [iv Z.2.1]) (st' := []) hM (ct_X1_measure M.2.1 T a Z.1 Z.2.1 f1 (by omega)) gX3_settle_X1_measure rfl ⟨rfl, rfl⟩ hy_X1_measure rfl ⟨by decide, by decide⟩ [1, 2, 3, 4, 5, 6] rfl rfl rfl 0 1 rfl rfl rfl rfl rfl (Nat.le_of_ble_eq_true rfl) ⟨by decide, by decide⟩ rfl dX3_settle_65 ?_
        have hf65 := meF_N Z.1 Z.2.1.toNat
        have hf65_1 := meF_W Z.1 Z.2.1.toNat
        have hw65 := (WFL_me f1 (by omega) : WFL (meF Z.1 Z.2.1.toNat))
        refine xr_iload_n hM 3 dX3_settle_68 rfl rfl ?_
        refine xr_aload_n hM 0 dX3_settle_69 rfl rfl ?_
        refine xr_get (C := RX3) (TT0 := TX3) (N := 4) hM 3 0 0 (fun _ h => List.mem_cons_of_mem _ (List.mem_append_left _ (List.mem_append_right _ h))) rfl rfl (by decide) (List.mem_of_getElem? (i := 1) rfl) rfl rfl dX3_settle_70 ?_
        refine xr_iload_n hM 2 dX3_settle_73 rfl rfl ?_
        refine xr_callVr (rest := [iv Z.2.2]) (As := [iv Z.2.1]) (st' := [iv (htF (meF Z.1 Z.2.1.toNat) Z.2.1.toNat), iv Z.2.2]) hM (ct_X1_heightOf M.2.1 T a (meF Z.1 Z.2.1.toNat) Z.2.1 hw65 (by omega)) gX3_settle_X1_heightOf rfl ⟨rfl, rfl⟩ hy_X1_heightOf rfl ⟨by decide, by decide⟩ [1, 2, 3, 4, 5, 6] rfl rfl 0 1 rfl rfl rfl rfl rfl (Nat.le_of_ble_eq_true rfl) ⟨by decide, by decide⟩ dX3_settle_74 ?_
        have hf74 := htF_b hw65 Z.2.1.toNat
        refine xr_iadd hM dX3_settle_77 ?_
        refine xr_istore_n (lv' := [(0, .ref (a 6)), (1, iv (pS Y + pH Y)), (2, iv Z.2.1), (3, iv (Z.2.2 + (htF (meF Z.1 Z.2.1.toNat) Z.2.1.toNat)))]) hM dX3_settle_78 rfl (by decide) rfl rfl ?_
        refine xr_iinc (lv' := [(0, .ref (a 6)), (1, iv (pS Y + pH Y)), (2, iv (Z.2.1 + 1)), (3, iv (Z.2.2 + (htF (meF Z.1 Z.2.1.toNat) Z.2.1.toNat)))]) hM 2 dX3_settle_79 rfl (by decide) rfl rfl ?_
        refine xr_goto hM 44 dX3_settle_82 (by decide) ?_
        have hcd : fiC (pS Y + pH Y) Z = true := decide_eq_true ⟨by omega, by omega⟩
        exact ih (fiS Z) (FI_s hZ hcd).1 (by have := (FI_s hZ hcd).2; omega) (itL_t hR hcd)

theorem ct_X3_settle (l : Launch) (T : TT) (a : Nat → Nat) (X : WnS) (hX : PW X) : CT l yX3_settle wsX3_settle rm_X3_settle T [.ref (a 6)] (winE T a X) none (winE T a (seF X)) := by
  refine CT.V (maxL := 4) (lv0 := [(0, .ref (a 6))]) hp_X3_settle rfl (Nat.le_of_ble_eq_true rfl) rfl (fun M hM hF => ?_)
  have hn0 := hX.1.1
  refine xr_aload_n hM 0 dX3_settle_0 rfl rfl ?_
  refine xr_get (C := RX3) (TT0 := TX3) (N := 4) hM 3 0 0 (fun _ h => List.mem_cons_of_mem _ (List.mem_append_left _ (List.mem_append_right _ h))) rfl rfl (by decide) (List.mem_of_getElem? (i := 1) rfl) rfl rfl dX3_settle_1 ?_
  refine xr_get (C := RX1) (TT0 := TX1) (N := 7) hM 1 1 5 (fun _ h => List.mem_cons_of_mem _ (List.mem_append_right _ h)) rfl rfl (by decide) (List.mem_of_getElem? (i := 2) rfl) rfl rfl dX3_settle_4 ?_
  refine xr_if_ne hM 11 dX3_settle_7 (by decide) (by omega) (fun c7 => ?_) (fun c7 => ?_)
  · have hD0 := hX.di c7
    refine xr_aload_n hM 0 dX3_settle_11 rfl rfl ?_
    refine xr_callV (ws' := [(a 6, ob 3 [.ref (a 0), iv (pH (dsF X)), iv (pA (dsF X)), iv (pS (dsF X))]), (a 0, ob 1 [.ref (a 1), .ref (a 2), .ref (a 3), .ref (a 4), .ref (a 5), iv (gN (pX (dsF X))), iv (gW (pX (dsF X)))]), (a 1, ia T.2.1 100 (gK (pX (dsF X)))), (a 2, ia T.2.1 100 (gL (pX (dsF X)))), (a 3, ia T.2.2.1 100 (gM (pX (dsF X)))), (a 4, ia T.2.1 3 (gS (pX (dsF X)))), (a 5, ia T.2.1 3 (gC (pX (dsF X))))]) (rest := []) (As := []) (st' := []) hM (ct_X3_descend M.2.1 T a X hD0) gX3_settle_X3_descend rfl ⟨rfl, rfl⟩ hy_X3_descend rfl ⟨by decide, by decide⟩ [0, 1, 2, 3, 4, 5, 6] rfl rfl rfl 0 3 rfl rfl rfl rfl rfl (Nat.le_of_ble_eq_true rfl) ⟨by decide, by decide⟩ rfl dX3_settle_12 ?_
    have hD := (DI_dsF hD0).1
    have hdN := hD.2.1
    have hdA := hD.2.2.1
    have hdS := hD.2.2.2
    have hdH : pH (dsF X) = pH X := dsF_H X
    have hXH := hX.2.1
    have hb0 := htF_b hD.1 (pA (dsF X)).toNat
    refine xr_aload_n hM 0 dX3_settle_15 rfl rfl ?_
    refine xr_get (C := RX3) (TT0 := TX3) (N := 4) hM 3 0 3 (fun _ h => List.mem_cons_of_mem _ (List.mem_append_left _ (List.mem_append_right _ h))) rfl rfl (by decide) (List.mem_of_getElem? (i := 3) rfl) rfl rfl dX3_settle_16 ?_
    refine xr_aload_n hM 0 dX3_settle_19 rfl rfl ?_
    refine xr_get (C := RX3) (TT0 := TX3) (N := 4) hM 3 0 1 (fun _ h => List.mem_cons_of_mem _ (List.mem_append_left _ (List.mem_append_right _ h))) rfl rfl (by decide) (List.mem_of_getElem? (i := 4) rfl) rfl rfl dX3_settle_20 ?_
    refine xr_iadd hM dX3_settle_23 ?_
    refine xr_istore_n (lv' := [(0, .ref (a 6)), (1, iv ((pS (dsF X)) + (pH (dsF X))))]) hM dX3_settle_24 rfl (by decide) rfl rfl ?_
    refine xr_aload_n hM 0 dX3_settle_25 rfl rfl ?_
    refine xr_get (C := RX3) (TT0 := TX3) (N := 4) hM 3 0 2 (fun _ h => List.mem_cons_of_mem _ (List.mem_append_left _ (List.mem_append_right _ h))) rfl rfl (by decide) (List.mem_of_getElem? (i := 5) rfl) rfl rfl dX3_settle_26 ?_
    refine xr_iconst hM dX3_settle_29 ?_
    refine xr_iadd hM dX3_settle_30 ?_
    refine xr_istore_n (lv' := [(0, .ref (a 6)), (1, iv ((pS (dsF X)) + (pH (dsF X)))), (2, iv ((pA (dsF X)) + 1))]) hM dX3_settle_31 rfl (by decide) rfl rfl ?_
    refine xr_aload_n hM 0 dX3_settle_32 rfl rfl ?_
    refine xr_get (C := RX3) (TT0 := TX3) (N := 4) hM 3 0 0 (fun _ h => List.mem_cons_of_mem _ (List.mem_append_left _ (List.mem_append_right _ h))) rfl rfl (by decide) (List.mem_of_getElem? (i := 1) rfl) rfl rfl dX3_settle_33 ?_
    refine xr_aload_n hM 0 dX3_settle_36 rfl rfl ?_
    refine xr_get (C := RX3) (TT0 := TX3) (N := 4) hM 3 0 2 (fun _ h => List.mem_cons_of_mem _ (List.mem_append_left _ (List.mem_append_right _ h))) rfl rfl (by decide) (List.mem_of_getElem? (i := 5) rfl) rfl rfl dX3_settle_37 ?_
    refine xr_callVr (rest := []) (As := [iv (pA (dsF X))]) (st' := [iv (htF (pX (dsF X)) (pA (dsF X)).toNat)]) hM (ct_X1_heightOf M.2.1 T a (pX (dsF X)) (pA (dsF X)) hD.1 (by omega)) gX3_settle_X1_heightOf rfl ⟨rfl, rfl⟩ hy_X1_heightOf rfl ⟨by decide, by decide⟩ [1, 2, 3, 4, 5, 6] rfl rfl 0 1 rfl rfl rfl rfl rfl (Nat.le_of_ble_eq_true rfl) ⟨by decide, by decide⟩ dX3_settle_40 ?_
    have hf40 := htF_b hD.1 (pA (dsF X)).toNat
    refine xr_istore_n (lv' := [(0, .ref (a 6)), (1, iv ((pS (dsF X)) + (pH (dsF X)))), (2, iv ((pA (dsF X)) + 1)), (3, iv (htF (pX (dsF X)) (pA (dsF X)).toNat))]) hM dX3_settle_43 rfl (by decide) rfl rfl ?_
    exact lp_X3_settle a (gN (pX X)) (dsF X) (fiF (dsF X)) hD (by rw [hdH]; exact hXH) hM (by have e : seF X = enF (dsF X) (fiF (dsF X)) := if_neg c7; rw [e] at hF; exact hF) _ _ (FI_0 hD) (by show (gN (pX X) - (pA (dsF X) + 1)).toNat < (gN (pX (dsF X)) - pA (dsF X)).toNat; omega) rfl
  · exact xr_vret hF dX3_settle_10 (by rw [seF, if_pos c7])

theorem ct_X3_top (l : Launch) (T : TT) (a : Nat → Nat) (X : WnS) (hX : WW X) : CT l yX3_top wsX3_top rm_X3_top T [.ref (a 6)] (winE T a X) (some (iv (tpF (pX X) (pA X).toNat + pS X))) (winE T a X) := by
  refine CT.Z (maxL := 1) (lv0 := [(0, .ref (a 6))]) hp_X3_top rfl (Nat.le_of_ble_eq_true rfl) rfl rfl (fun M hM hF => ?_)
  have hP := hX.1
  have hn := hX.1.1.1
  have hwd := hX.1.1.2.1
  have hHH := hX.1.2.1
  have hAn := hX.1.2.2.2.1
  have hA0 := hX.1.2.2.1
  have hSb := hX.1.2.2.2.2
  have hSs := hX.2
  refine xr_aload_n hM 0 dX3_top_0 rfl rfl ?_
  refine xr_get (C := RX3) (TT0 := TX3) (N := 4) hM 3 0 0 (fun _ h => List.mem_cons_of_mem _ (List.mem_append_left _ (List.mem_append_right _ h))) rfl rfl (by decide) (List.mem_of_getElem? (i := 1) rfl) rfl rfl dX3_top_1 ?_
  refine xr_aload_n hM 0 dX3_top_4 rfl rfl ?_
  refine xr_get (C := RX3) (TT0 := TX3) (N := 4) hM 3 0 2 (fun _ h => List.mem_cons_of_mem _ (List.mem_append_left _ (List.mem_append_right _ h))) rfl rfl (by decide) (List.mem_of_getElem? (i := 2) rfl) rfl rfl dX3_top_5 ?_
  refine xr_callVr (rest := []) (As := [iv (pA X)]) (st' := [iv (tpF (pX X) (pA X).toNat)]) hM (ct_X1_topOf M.2.1 T a (pX X) (pA X) hX.1.1 (by omega)) gX3_top_X1_topOf rfl ⟨rfl, rfl⟩ hy_X1_topOf rfl ⟨by decide, by decide⟩ [1, 2, 3, 4, 5, 6] rfl rfl 0 1 rfl rfl rfl rfl rfl (Nat.le_of_ble_eq_true rfl) ⟨by decide, by decide⟩ dX3_top_8 ?_
  have hf8 := tpF_b hX.1.1 (pA X).toNat
  refine xr_aload_n hM 0 dX3_top_11 rfl rfl ?_
  refine xr_get (C := RX3) (TT0 := TX3) (N := 4) hM 3 0 3 (fun _ h => List.mem_cons_of_mem _ (List.mem_append_left _ (List.mem_append_right _ h))) rfl rfl (by decide) (List.mem_of_getElem? (i := 3) rfl) rfl rfl dX3_top_12 ?_
  refine xr_iadd hM dX3_top_15 ?_
  exact xr_iret hF dX3_top_16 rfl rfl

theorem ct_X3_changeHeight (l : Launch) (T : TT) (a : Nat → Nat) (X : WnS) (v : Int) (hX : WW X) (hv : -2147483648 ≤ v ∧ v < 2147483648) : CT l yX3_changeHeight wsX3_changeHeight rm_X3_changeHeight T [.ref (a 6), iv v] (winE T a X) (some (iv ((shR X v).1))) (winE T a ((shR X v).2)) := by
  refine CT.Z (maxL := 3) (lv0 := [(0, .ref (a 6)), (1, iv v)]) hp_X3_changeHeight rfl (Nat.le_of_ble_eq_true rfl) rfl rfl (fun M hM hF => ?_)
  have hP := hX.1
  have hn := hX.1.1.1
  have hwd := hX.1.1.2.1
  have hHH := hX.1.2.1
  have hAn := hX.1.2.2.2.1
  have hA0 := hX.1.2.2.1
  have hSb := hX.1.2.2.2.2
  have hSs := hX.2
  refine xr_iload_n hM 1 dX3_changeHeight_0 rfl rfl ?_
  refine xr_bipush hM dX3_changeHeight_1 (by decide) ?_
  refine xr_sipush hM dX3_changeHeight_3 (by decide) ?_
  refine xr_callSNr (rest := []) (As := [iv v, iv 20, iv 600]) (st' := [iv (bi (v < 20 ∨ 600 < v))]) hM (ct_X4_isOutside M.2.1 T v 20 600 (by omega)) gX3_changeHeight_X4_isOutside_n35 rfl ⟨rfl, rfl⟩ hy_X4_isOutside (List.mem_of_getElem? (i := 4) rfl) (List.mem_of_getElem? (i := 3) rfl) rfl ⟨by decide, by decide⟩ [] rfl rfl rfl rfl (Nat.le_of_ble_eq_true rfl) ⟨by decide, by decide⟩ dX3_changeHeight_6 ?_
  refine xr_ifb_eq hM 15 dX3_changeHeight_9 (by decide) (fun c9 => ?_) (fun c9 => ?_)
  · refine xr_aload_n hM 0 dX3_changeHeight_15 rfl rfl ?_
    refine xr_get (C := RX3) (TT0 := TX3) (N := 4) hM 3 0 1 (fun _ h => List.mem_cons_of_mem _ (List.mem_append_left _ (List.mem_append_right _ h))) rfl rfl (by decide) (List.mem_of_getElem? (i := 2) rfl) rfl rfl dX3_changeHeight_16 ?_
    refine xr_istore_n (lv' := [(0, .ref (a 6)), (1, iv v), (2, iv (pH X))]) hM dX3_changeHeight_19 rfl (by decide) rfl rfl ?_
    refine xr_aload_n hM 0 dX3_changeHeight_20 rfl rfl ?_
    refine xr_iload_n hM 1 dX3_changeHeight_21 rfl rfl ?_
    refine xr_put (ws' := [(a 6, ob 3 [.ref (a 0), iv v, iv (pA X), iv (pS X)]), (a 0, ob 1 [.ref (a 1), .ref (a 2), .ref (a 3), .ref (a 4), .ref (a 5), iv (gN (pX X)), iv (gW (pX X))]), (a 1, ia T.2.1 100 (gK (pX X))), (a 2, ia T.2.1 100 (gL (pX X))), (a 3, ia T.2.2.1 100 (gM (pX X))), (a 4, ia T.2.1 3 (gS (pX X))), (a 5, ia T.2.1 3 (gC (pX X)))]) (C := RX3) (TT0 := TX3) (N := 4) hM 3 0 1 (fun _ h => List.mem_cons_of_mem _ (List.mem_append_left _ (List.mem_append_right _ h))) tyX3 tyX3_ok nmX3 rfl rfl (by decide) (List.mem_of_getElem? (i := 2) rfl) rfl rfl rfl (Nat.le_of_ble_eq_true rfl) rfl dX3_changeHeight_22 ?_
    have hPs : PW (pX X, v, pA X, pS X) := PW_sh hX (by omega)
    refine xr_aload_n hM 0 dX3_changeHeight_25 rfl rfl ?_
    refine xr_callV (ws' := [(a 6, ob 3 [.ref (a 0), iv (pH (seF (pX X, v, pA X, pS X))), iv (pA (seF (pX X, v, pA X, pS X))), iv (pS (seF (pX X, v, pA X, pS X)))]), (a 0, ob 1 [.ref (a 1), .ref (a 2), .ref (a 3), .ref (a 4), .ref (a 5), iv (gN (pX (seF (pX X, v, pA X, pS X)))), iv (gW (pX (seF (pX X, v, pA X, pS X))))]), (a 1, ia T.2.1 100 (gK (pX (seF (pX X, v, pA X, pS X))))), (a 2, ia T.2.1 100 (gL (pX (seF (pX X, v, pA X, pS X))))), (a 3, ia T.2.2.1 100 (gM (pX (seF (pX X, v, pA X, pS X))))), (a 4, ia T.2.1 3 (gS (pX (seF (pX X, v, pA X, pS X))))), (a 5, ia T.2.1 3 (gC (pX (seF (pX X, v, pA X, pS X)))))]) (rest := []) (As := []) (st' := []) hM (ct_X3_settle M.2.1 T a (pX X, v, pA X, pS X) hPs) gX3_changeHeight_X3_settle rfl ⟨rfl, rfl⟩ hy_X3_settle rfl ⟨by decide, by decide⟩ [0, 1, 2, 3, 4, 5, 6] rfl rfl rfl 0 3 rfl rfl rfl rfl rfl (Nat.le_of_ble_eq_true rfl) ⟨by decide, by decide⟩ rfl dX3_changeHeight_26 ?_
    have hf26 := (WW_se hPs).2
    have hf26_1 := (WW_se hPs).1
    refine xr_iload_n hM 2 dX3_changeHeight_29 rfl rfl ?_
    exact xr_iret hF dX3_changeHeight_30 (by rw [shR, if_neg (by omega)] <;> rfl) (by rw [shR, if_neg (by omega)] <;> rfl)
  · refine xr_ldc hM (-100001) (List.mem_of_getElem? (i := 1) rfl) (by decide) dX3_changeHeight_12 ?_
    exact xr_iret hF dX3_changeHeight_14 (by rw [shR, if_pos (by omega)] <;> rfl) (by rw [shR, if_pos (by omega)] <;> rfl)

theorem ct_X3_changeWidth (l : Launch) (T : TT) (a : Nat → Nat) (X : WnS) (v : Int) (hX : WW X) (hv : -2147483648 ≤ v ∧ v < 2147483648) : CT l yX3_changeWidth wsX3_changeWidth rm_X3_changeWidth T [.ref (a 6), iv v] (winE T a X) (some (iv ((swR X v).1))) (winE T a ((swR X v).2)) := by
  refine CT.Z (maxL := 3) (lv0 := [(0, .ref (a 6)), (1, iv v)]) hp_X3_changeWidth rfl (Nat.le_of_ble_eq_true rfl) rfl rfl (fun M hM hF => ?_)
  have hP := hX.1
  have hn := hX.1.1.1
  have hwd := hX.1.1.2.1
  have hHH := hX.1.2.1
  have hAn := hX.1.2.2.2.1
  have hA0 := hX.1.2.2.1
  have hSb := hX.1.2.2.2.2
  have hSs := hX.2
  refine xr_iload_n hM 1 dX3_changeWidth_0 rfl rfl ?_
  refine xr_iconst hM dX3_changeWidth_1 ?_
  refine xr_bipush hM dX3_changeWidth_2 (by decide) ?_
  refine xr_callSNr (rest := []) (As := [iv v, iv 5, iv 80]) (st' := [iv (bi (v < 5 ∨ 80 < v))]) hM (ct_X4_isOutside M.2.1 T v 5 80 (by omega)) gX3_changeWidth_X4_isOutside_n35 rfl ⟨rfl, rfl⟩ hy_X4_isOutside (List.mem_of_getElem? (i := 5) rfl) (List.mem_of_getElem? (i := 4) rfl) rfl ⟨by decide, by decide⟩ [] rfl rfl rfl rfl (Nat.le_of_ble_eq_true rfl) ⟨by decide, by decide⟩ dX3_changeWidth_4 ?_
  refine xr_ifb_eq hM 13 dX3_changeWidth_7 (by decide) (fun c7 => ?_) (fun c7 => ?_)
  · refine xr_aload_n hM 0 dX3_changeWidth_13 rfl rfl ?_
    refine xr_get (C := RX3) (TT0 := TX3) (N := 4) hM 3 0 0 (fun _ h => List.mem_cons_of_mem _ (List.mem_append_left _ (List.mem_append_right _ h))) rfl rfl (by decide) (List.mem_of_getElem? (i := 2) rfl) rfl rfl dX3_changeWidth_14 ?_
    refine xr_get (C := RX1) (TT0 := TX1) (N := 7) hM 1 1 6 (fun _ h => List.mem_cons_of_mem _ (List.mem_append_right _ h)) rfl rfl (by decide) (List.mem_of_getElem? (i := 3) rfl) rfl rfl dX3_changeWidth_17 ?_
    refine xr_istore_n (lv' := [(0, .ref (a 6)), (1, iv v), (2, iv (gW (pX X)))]) hM dX3_changeWidth_20 rfl (by decide) rfl rfl ?_
    refine xr_aload_n hM 0 dX3_changeWidth_21 rfl rfl ?_
    refine xr_get (C := RX3) (TT0 := TX3) (N := 4) hM 3 0 0 (fun _ h => List.mem_cons_of_mem _ (List.mem_append_left _ (List.mem_append_right _ h))) rfl rfl (by decide) (List.mem_of_getElem? (i := 2) rfl) rfl rfl dX3_changeWidth_22 ?_
    refine xr_iload_n hM 1 dX3_changeWidth_25 rfl rfl ?_
    refine xr_callV (ws' := [(a 6, ob 3 [.ref (a 0), iv (pH X), iv (pA X), iv (pS X)]), (a 0, ob 1 [.ref (a 1), .ref (a 2), .ref (a 3), .ref (a 4), .ref (a 5), iv (gN (faF (pX X) v)), iv (gW (faF (pX X) v))]), (a 1, ia T.2.1 100 (gK (faF (pX X) v))), (a 2, ia T.2.1 100 (gL (faF (pX X) v))), (a 3, ia T.2.2.1 100 (gM (faF (pX X) v))), (a 4, ia T.2.1 3 (gS (faF (pX X) v))), (a 5, ia T.2.1 3 (gC (faF (pX X) v)))]) (rest := []) (As := [iv v]) (st' := []) hM (ct_X1_forgetAllFor M.2.1 T a (pX X) v hX.1.1 (by omega)) gX3_changeWidth_X1_forgetAllFor rfl ⟨rfl, rfl⟩ hy_X1_forgetAllFor rfl ⟨by decide, by decide⟩ [1, 2, 3, 4, 5, 6] rfl rfl rfl 0 1 rfl rfl rfl rfl rfl (Nat.le_of_ble_eq_true rfl) ⟨by decide, by decide⟩ rfl dX3_changeWidth_26 ?_
    have hf26 := fgA_N (pX X) (gN (pX X)).toNat
    have hw26 := (WFL_fa hX.1.1 (by omega) : WFL (faF (pX X) v))
    have hPs : PW (faF (pX X) v, pH X, pA X, pS X) := PW_sw hX (by omega)
    refine xr_aload_n hM 0 dX3_changeWidth_29 rfl rfl ?_
    refine xr_callV (ws' := [(a 6, ob 3 [.ref (a 0), iv (pH (seF (faF (pX X) v, pH X, pA X, pS X))), iv (pA (seF (faF (pX X) v, pH X, pA X, pS X))), iv (pS (seF (faF (pX X) v, pH X, pA X, pS X)))]), (a 0, ob 1 [.ref (a 1), .ref (a 2), .ref (a 3), .ref (a 4), .ref (a 5), iv (gN (pX (seF (faF (pX X) v, pH X, pA X, pS X)))), iv (gW (pX (seF (faF (pX X) v, pH X, pA X, pS X))))]), (a 1, ia T.2.1 100 (gK (pX (seF (faF (pX X) v, pH X, pA X, pS X))))), (a 2, ia T.2.1 100 (gL (pX (seF (faF (pX X) v, pH X, pA X, pS X))))), (a 3, ia T.2.2.1 100 (gM (pX (seF (faF (pX X) v, pH X, pA X, pS X))))), (a 4, ia T.2.1 3 (gS (pX (seF (faF (pX X) v, pH X, pA X, pS X))))), (a 5, ia T.2.1 3 (gC (pX (seF (faF (pX X) v, pH X, pA X, pS X)))))]) (rest := []) (As := []) (st' := []) hM (ct_X3_settle M.2.1 T a (faF (pX X) v, pH X, pA X, pS X) hPs) gX3_changeWidth_X3_settle rfl ⟨rfl, rfl⟩ hy_X3_settle rfl ⟨by decide, by decide⟩ [0, 1, 2, 3, 4, 5, 6] rfl rfl rfl 0 3 rfl rfl rfl rfl rfl (Nat.le_of_ble_eq_true rfl) ⟨by decide, by decide⟩ rfl dX3_changeWidth_30 ?_
    have hf30 := (WW_se hPs).2
    have hf30_1 := (WW_se hPs).1
    refine xr_iload_n hM 2 dX3_changeWidth_33 rfl rfl ?_
    exact xr_iret hF dX3_changeWidth_34 (by rw [swR, if_neg (by omega)] <;> rfl) (by rw [swR, if_neg (by omega)] <;> rfl)
  · refine xr_ldc hM (-100001) (List.mem_of_getElem? (i := 1) rfl) (by decide) dX3_changeWidth_10 ?_
    exact xr_iret hF dX3_changeWidth_12 (by rw [swR, if_pos (by omega)] <;> rfl) (by rw [swR, if_pos (by omega)] <;> rfl)

theorem ct_X3_changeLength (l : Launch) (T : TT) (a : Nat → Nat) (X : WnS) (i v : Int) (hX : WW X) (hi : -2147483648 ≤ i ∧ i < 2147483648) (hv : -2147483648 ≤ v ∧ v < 2147483648) : CT l yX3_changeLength wsX3_changeLength rm_X3_changeLength T [.ref (a 6), iv i, iv v] (winE T a X) (some (iv ((chR X i v).1))) (winE T a ((chR X i v).2)) := by
  refine CT.Z (maxL := 4) (lv0 := [(0, .ref (a 6)), (1, iv i), (2, iv v)]) hp_X3_changeLength rfl (Nat.le_of_ble_eq_true rfl) rfl rfl (fun M hM hF => ?_)
  have hP := hX.1
  have hn := hX.1.1.1
  have hwd := hX.1.1.2.1
  have hHH := hX.1.2.1
  have hAn := hX.1.2.2.2.1
  have hA0 := hX.1.2.2.1
  have hSb := hX.1.2.2.2.2
  have hSs := hX.2
  refine xr_aload_n hM 0 dX3_changeLength_0 rfl rfl ?_
  refine xr_get (C := RX3) (TT0 := TX3) (N := 4) hM 3 0 0 (fun _ h => List.mem_cons_of_mem _ (List.mem_append_left _ (List.mem_append_right _ h))) rfl rfl (by decide) (List.mem_of_getElem? (i := 1) rfl) rfl rfl dX3_changeLength_1 ?_
  refine xr_iload_n hM 1 dX3_changeLength_4 rfl rfl ?_
  refine xr_callVr (rest := []) (As := [iv i]) (st' := [iv (bi (0 ≤ i ∧ i < gN (pX X)))]) hM (ct_X1_isLine M.2.1 T a (pX X) i hX.1.1 (by omega)) gX3_changeLength_X1_isLine rfl ⟨rfl, rfl⟩ hy_X1_isLine rfl ⟨by decide, by decide⟩ [1, 2, 3, 4, 5, 6] rfl rfl 0 1 rfl rfl rfl rfl rfl (Nat.le_of_ble_eq_true rfl) ⟨by decide, by decide⟩ dX3_changeLength_5 ?_
  refine xr_ifb_eq hM 22 dX3_changeLength_8 (by decide) (fun c8 => ?_) (fun c8 => ?_)
  · refine xr_ldc hM (-100001) (List.mem_of_getElem? (i := 2) rfl) (by decide) dX3_changeLength_22 ?_
    exact xr_iret hF dX3_changeLength_24 (by rw [chR, if_pos (by omega)] <;> rfl) (by rw [chR, if_pos (by omega)] <;> rfl)
  · refine xr_iload_n hM 2 dX3_changeLength_11 rfl rfl ?_
    refine xr_iconst hM dX3_changeLength_12 ?_
    refine xr_sipush hM dX3_changeLength_13 (by decide) ?_
    refine xr_callSNr (rest := []) (As := [iv v, iv 0, iv 400]) (st' := [iv (bi (v < 0 ∨ 400 < v))]) hM (ct_X4_isOutside M.2.1 T v 0 400 (by omega)) gX3_changeLength_X4_isOutside_n35 rfl ⟨rfl, rfl⟩ hy_X4_isOutside (List.mem_of_getElem? (i := 11) rfl) (List.mem_of_getElem? (i := 10) rfl) rfl ⟨by decide, by decide⟩ [] rfl rfl rfl rfl (Nat.le_of_ble_eq_true rfl) ⟨by decide, by decide⟩ dX3_changeLength_16 ?_
    refine xr_ifb_eq hM 25 dX3_changeLength_19 (by decide) (fun c19 => ?_) (fun c19 => ?_)
    · refine xr_aload_n hM 0 dX3_changeLength_25 rfl rfl ?_
      refine xr_get (C := RX3) (TT0 := TX3) (N := 4) hM 3 0 0 (fun _ h => List.mem_cons_of_mem _ (List.mem_append_left _ (List.mem_append_right _ h))) rfl rfl (by decide) (List.mem_of_getElem? (i := 1) rfl) rfl rfl dX3_changeLength_26 ?_
      refine xr_get (C := RX1) (TT0 := TX1) (N := 7) hM 1 1 1 (fun _ h => List.mem_cons_of_mem _ (List.mem_append_right _ h)) rfl rfl (by decide) (List.mem_of_getElem? (i := 3) rfl) rfl rfl dX3_changeLength_29 ?_
      refine xr_iload_n hM 1 dX3_changeLength_32 rfl rfl ?_
      refine xr_iald hM 3 i.toNat rfl rfl (by omega) dX3_changeLength_33 ?_
      refine xr_istore_n (lv' := [(0, .ref (a 6)), (1, iv i), (2, iv v), (3, iv ((gL (pX X)) i.toNat))]) hM dX3_changeLength_34 rfl (by decide) rfl rfl ?_
      refine xr_aload_n hM 0 dX3_changeLength_35 rfl rfl ?_
      refine xr_get (C := RX3) (TT0 := TX3) (N := 4) hM 3 0 0 (fun _ h => List.mem_cons_of_mem _ (List.mem_append_left _ (List.mem_append_right _ h))) rfl rfl (by decide) (List.mem_of_getElem? (i := 1) rfl) rfl rfl dX3_changeLength_36 ?_
      refine xr_iload_n hM 1 dX3_changeLength_39 rfl rfl ?_
      refine xr_iload_n hM 2 dX3_changeLength_40 rfl rfl ?_
      refine xr_callV (ws' := [(a 6, ob 3 [.ref (a 0), iv (pH X), iv (pA X), iv (pS X)]), (a 0, ob 1 [.ref (a 1), .ref (a 2), .ref (a 3), .ref (a 4), .ref (a 5), iv (gN (slF (pX X) i v)), iv (gW (slF (pX X) i v))]), (a 1, ia T.2.1 100 (gK (slF (pX X) i v))), (a 2, ia T.2.1 100 (gL (slF (pX X) i v))), (a 3, ia T.2.2.1 100 (gM (slF (pX X) i v))), (a 4, ia T.2.1 3 (gS (slF (pX X) i v))), (a 5, ia T.2.1 3 (gC (slF (pX X) i v)))]) (rest := []) (As := [iv i, iv v]) (st' := []) hM (ct_X1_setLength M.2.1 T a (pX X) i v hX.1.1 (by omega) (by omega)) gX3_changeLength_X1_setLength rfl ⟨rfl, rfl⟩ hy_X1_setLength rfl ⟨by decide, by decide⟩ [1, 2, 3, 4, 5, 6] rfl rfl rfl 0 1 rfl rfl rfl rfl rfl (Nat.le_of_ble_eq_true rfl) ⟨by decide, by decide⟩ rfl dX3_changeLength_41 ?_
      have hf41 := slF_N (pX X) i v
      have hf41_1 := slF_W (pX X) i v
      have hw41 := (WFL_sl hX.1.1 (by omega) (by omega) : WFL (slF (pX X) i v))
      have hPs : PW (slF (pX X) i v, pH X, pA X, pS X) := PW_ch hX (by omega) (by omega)
      refine xr_aload_n hM 0 dX3_changeLength_44 rfl rfl ?_
      refine xr_callV (ws' := [(a 6, ob 3 [.ref (a 0), iv (pH (seF (slF (pX X) i v, pH X, pA X, pS X))), iv (pA (seF (slF (pX X) i v, pH X, pA X, pS X))), iv (pS (seF (slF (pX X) i v, pH X, pA X, pS X)))]), (a 0, ob 1 [.ref (a 1), .ref (a 2), .ref (a 3), .ref (a 4), .ref (a 5), iv (gN (pX (seF (slF (pX X) i v, pH X, pA X, pS X)))), iv (gW (pX (seF (slF (pX X) i v, pH X, pA X, pS X))))]), (a 1, ia T.2.1 100 (gK (pX (seF (slF (pX X) i v, pH X, pA X, pS X))))), (a 2, ia T.2.1 100 (gL (pX (seF (slF (pX X) i v, pH X, pA X, pS X))))), (a 3, ia T.2.2.1 100 (gM (pX (seF (slF (pX X) i v, pH X, pA X, pS X))))), (a 4, ia T.2.1 3 (gS (pX (seF (slF (pX X) i v, pH X, pA X, pS X))))), (a 5, ia T.2.1 3 (gC (pX (seF (slF (pX X) i v, pH X, pA X, pS X)))))]) (rest := []) (As := []) (st' := []) hM (ct_X3_settle M.2.1 T a (slF (pX X) i v, pH X, pA X, pS X) hPs) gX3_changeLength_X3_settle rfl ⟨rfl, rfl⟩ hy_X3_settle rfl ⟨by decide, by decide⟩ [0, 1, 2, 3, 4, 5, 6] rfl rfl rfl 0 3 rfl rfl rfl rfl rfl (Nat.le_of_ble_eq_true rfl) ⟨by decide, by decide⟩ rfl dX3_changeLength_45 ?_
      have hf45 := (WW_se hPs).2
      have hf45_1 := (WW_se hPs).1
      refine xr_iload_n hM 3 dX3_changeLength_48 rfl rfl ?_
      exact xr_iret hF dX3_changeLength_49 (by rw [chR, if_neg (by omega)] <;> rfl) (by rw [chR, if_neg (by omega)] <;> rfl)
    · refine xr_ldc hM (-100001) (List.mem_of_getElem? (i := 2) rfl) (by decide) dX3_changeLength_22 ?_
      exact xr_iret hF dX3_changeLength_24 (by rw [chR, if_pos (by omega)] <;> rfl) (by rw [chR, if_pos (by omega)] <;> rfl)

theorem ct_X3_moveToLine (l : Launch) (T : TT) (a : Nat → Nat) (X : WnS) (i : Int) (hX : WW X) (hi : -2147483648 ≤ i ∧ i < 2147483648) : CT l yX3_moveToLine wsX3_moveToLine rm_X3_moveToLine T [.ref (a 6), iv i] (winE T a X) (some (iv ((mlR X i).1))) (winE T a ((mlR X i).2)) := by
  refine CT.Z (maxL := 2) (lv0 := [(0, .ref (a 6)), (1, iv i)]) hp_X3_moveToLine rfl (Nat.le_of_ble_eq_true rfl) rfl rfl (fun M hM hF => ?_)
  have hP := hX.1
  have hn := hX.1.1.1
  have hwd := hX.1.1.2.1
  have hHH := hX.1.2.1
  have hAn := hX.1.2.2.2.1
  have hA0 := hX.1.2.2.1
  have hSb := hX.1.2.2.2.2
  have hSs := hX.2
  refine xr_aload_n hM 0 dX3_moveToLine_0 rfl rfl ?_
  refine xr_get (C := RX3) (TT0 := TX3) (N := 4) hM 3 0 0 (fun _ h => List.mem_cons_of_mem _ (List.mem_append_left _ (List.mem_append_right _ h))) rfl rfl (by decide) (List.mem_of_getElem? (i := 1) rfl) rfl rfl dX3_moveToLine_1 ?_
  refine xr_iload_n hM 1 dX3_moveToLine_4 rfl rfl ?_
  refine xr_callVr (rest := []) (As := [iv i]) (st' := [iv (bi (0 ≤ i ∧ i < gN (pX X)))]) hM (ct_X1_isLine M.2.1 T a (pX X) i hX.1.1 (by omega)) gX3_moveToLine_X1_isLine rfl ⟨rfl, rfl⟩ hy_X1_isLine rfl ⟨by decide, by decide⟩ [1, 2, 3, 4, 5, 6] rfl rfl 0 1 rfl rfl rfl rfl rfl (Nat.le_of_ble_eq_true rfl) ⟨by decide, by decide⟩ dX3_moveToLine_5 ?_
  refine xr_ifb_ne hM 14 dX3_moveToLine_8 (by decide) (fun c8 => ?_) (fun c8 => ?_)
  · refine xr_aload_n hM 0 dX3_moveToLine_14 rfl rfl ?_
    refine xr_iload_n hM 1 dX3_moveToLine_15 rfl rfl ?_
    refine xr_put (ws' := [(a 6, ob 3 [.ref (a 0), iv (pH X), iv i, iv (pS X)]), (a 0, ob 1 [.ref (a 1), .ref (a 2), .ref (a 3), .ref (a 4), .ref (a 5), iv (gN (pX X)), iv (gW (pX X))]), (a 1, ia T.2.1 100 (gK (pX X))), (a 2, ia T.2.1 100 (gL (pX X))), (a 3, ia T.2.2.1 100 (gM (pX X))), (a 4, ia T.2.1 3 (gS (pX X))), (a 5, ia T.2.1 3 (gC (pX X)))]) (C := RX3) (TT0 := TX3) (N := 4) hM 3 0 2 (fun _ h => List.mem_cons_of_mem _ (List.mem_append_left _ (List.mem_append_right _ h))) tyX3 tyX3_ok nmX3 rfl rfl (by decide) (List.mem_of_getElem? (i := 3) rfl) rfl rfl rfl (Nat.le_of_ble_eq_true rfl) rfl dX3_moveToLine_16 ?_
    refine xr_aload_n hM 0 dX3_moveToLine_19 rfl rfl ?_
    refine xr_iconst hM dX3_moveToLine_20 ?_
    refine xr_put (ws' := [(a 6, ob 3 [.ref (a 0), iv (pH X), iv i, iv 0]), (a 0, ob 1 [.ref (a 1), .ref (a 2), .ref (a 3), .ref (a 4), .ref (a 5), iv (gN (pX X)), iv (gW (pX X))]), (a 1, ia T.2.1 100 (gK (pX X))), (a 2, ia T.2.1 100 (gL (pX X))), (a 3, ia T.2.2.1 100 (gM (pX X))), (a 4, ia T.2.1 3 (gS (pX X))), (a 5, ia T.2.1 3 (gC (pX X)))]) (C := RX3) (TT0 := TX3) (N := 4) hM 3 0 3 (fun _ h => List.mem_cons_of_mem _ (List.mem_append_left _ (List.mem_append_right _ h))) tyX3 tyX3_ok nmX3 rfl rfl (by decide) (List.mem_of_getElem? (i := 4) rfl) rfl rfl rfl (Nat.le_of_ble_eq_true rfl) rfl dX3_moveToLine_21 ?_
    have hPs : PW (pX X, pH X, i, 0) := PW_ml hX (by omega)
    refine xr_aload_n hM 0 dX3_moveToLine_24 rfl rfl ?_
    refine xr_callV (ws' := [(a 6, ob 3 [.ref (a 0), iv (pH (seF (pX X, pH X, i, 0))), iv (pA (seF (pX X, pH X, i, 0))), iv (pS (seF (pX X, pH X, i, 0)))]), (a 0, ob 1 [.ref (a 1), .ref (a 2), .ref (a 3), .ref (a 4), .ref (a 5), iv (gN (pX (seF (pX X, pH X, i, 0)))), iv (gW (pX (seF (pX X, pH X, i, 0))))]), (a 1, ia T.2.1 100 (gK (pX (seF (pX X, pH X, i, 0))))), (a 2, ia T.2.1 100 (gL (pX (seF (pX X, pH X, i, 0))))), (a 3, ia T.2.2.1 100 (gM (pX (seF (pX X, pH X, i, 0))))), (a 4, ia T.2.1 3 (gS (pX (seF (pX X, pH X, i, 0))))), (a 5, ia T.2.1 3 (gC (pX (seF (pX X, pH X, i, 0)))))]) (rest := []) (As := []) (st' := []) hM (ct_X3_settle M.2.1 T a (pX X, pH X, i, 0) hPs) gX3_moveToLine_X3_settle rfl ⟨rfl, rfl⟩ hy_X3_settle rfl ⟨by decide, by decide⟩ [0, 1, 2, 3, 4, 5, 6] rfl rfl rfl 0 3 rfl rfl rfl rfl rfl (Nat.le_of_ble_eq_true rfl) ⟨by decide, by decide⟩ rfl dX3_moveToLine_25 ?_
    have hf25 := (WW_se hPs).2
    have hf25_1 := (WW_se hPs).1
    refine xr_aload_n hM 0 dX3_moveToLine_28 rfl rfl ?_
    refine xr_get (C := RX3) (TT0 := TX3) (N := 4) hM 3 0 2 (fun _ h => List.mem_cons_of_mem _ (List.mem_append_left _ (List.mem_append_right _ h))) rfl rfl (by decide) (List.mem_of_getElem? (i := 3) rfl) rfl rfl dX3_moveToLine_29 ?_
    exact xr_iret hF dX3_moveToLine_32 (by rw [mlR, if_neg (by omega)] <;> rfl) (by rw [mlR, if_neg (by omega)] <;> rfl)
  · refine xr_ldc hM (-100001) (List.mem_of_getElem? (i := 2) rfl) (by decide) dX3_moveToLine_11 ?_
    exact xr_iret hF dX3_moveToLine_13 (by rw [mlR, if_pos (by omega)] <;> rfl) (by rw [mlR, if_pos (by omega)] <;> rfl)

