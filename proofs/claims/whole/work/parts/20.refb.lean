theorem lp_X5_goesUp {T : TT} {M : MB} (bb : Nat) (N : Int) (R : WnS) (hM : FM T M cX5_goesUp RX5 1 wsX5_goesUp rm_X5_goesUp) (hF : ∀ w g : AR, Rep w (pX R, pH R, pA R, max 0 (pS R)) → FinV T M cX5_goesUp 1 [(bb, ia T.2.1 305 w)]) : ∀ (f : Nat) (w : AR) (Y : WnS), Rep w Y → DI N (-600000) 400000 Y → (pA Y).toNat ≤ f → itL clC clS f Y = R → VV T M 1 [(0, .ref bb)] [(bb, ia T.2.1 305 w)] 0 0 0 [] := by
  intro f
  induction f with
  | zero =>
    intro w Y hr hD hm hR
    obtain ⟨h1, h2, h3, h4, h5⟩ := id hD
    have hn1 := h1.1
    refine xr_aload_n hM 0 dX5_goesUp_0 rfl rfl ?_
    refine xr_iconst hM dX5_goesUp_1 ?_
    refine xr_iald hM 0 2 rfl rfl (by omega) dX5_goesUp_2 ?_
    refine xr_topv (v' := pS Y) (hr.2.2.1) ?_
    refine xr_if_ge hM 45 dX5_goesUp_3 (by decide) (by omega) (fun c3 => ?_) (fun c3 => ?_)
    · refine xr_aload_n hM 0 dX5_goesUp_45 rfl rfl ?_
      refine xr_iconst hM dX5_goesUp_46 ?_
      refine xr_aload_n hM 0 dX5_goesUp_47 rfl rfl ?_
      refine xr_iconst hM dX5_goesUp_48 ?_
      refine xr_iald hM 0 2 rfl rfl (by omega) dX5_goesUp_49 ?_
      refine xr_topv (v' := pS Y) (hr.2.2.1) ?_
      refine xr_if_ge hM 57 dX5_goesUp_50 (by decide) (by omega) (fun c50 => ?_) (fun c50 => ?_)
      · refine xr_aload_n hM 0 dX5_goesUp_57 rfl rfl ?_
        refine xr_iconst hM dX5_goesUp_58 ?_
        refine xr_iald hM 0 2 rfl rfl (by omega) dX5_goesUp_59 ?_
        refine xr_topv (v' := pS Y) (hr.2.2.1) ?_
        refine xr_iast (ws' := [(bb, ia T.2.1 305 (va_up w 2 (pS Y)))]) hM 0 2 rfl rfl (by omega) dX5_goesUp_60 rfl ?_
        have hr60 : RG (va_up w 2 (pS Y)) (gN (pX Y)) (pA Y) (pS Y) (pH Y) (gW (pX Y)) (pX Y) := hr.s2 (pS Y)
        generalize va_up w 2 (pS Y) = w60 at hr60 ⊢
        obtain rfl := itL_f hR (fun q9 => by have q2 := of_decide_eq_true q9; omega)
        have em : max 0 (pS Y) = pS Y := by omega
        exact xr_vret (hF _ w (by show RG _ _ _ (max 0 (pS Y)) _ _ _; rw [em]; exact hr60)) dX5_goesUp_61 rfl
      · refine xr_iconst hM dX5_goesUp_53 ?_
        refine xr_goto hM 60 dX5_goesUp_54 (by decide) ?_
        refine xr_iast (ws' := [(bb, ia T.2.1 305 (va_up w 2 0))]) hM 0 2 rfl rfl (by omega) dX5_goesUp_60 rfl ?_
        have hr60_1 : RG (va_up w 2 0) (gN (pX Y)) (pA Y) 0 (pH Y) (gW (pX Y)) (pX Y) := hr.s2 0
        generalize va_up w 2 0 = w60_1 at hr60_1 ⊢
        obtain rfl := itL_f hR (fun q9 => by have q2 := of_decide_eq_true q9; omega)
        have em : max 0 (pS Y) = 0 := by omega
        exact xr_vret (hF _ w (by show RG _ _ _ (max 0 (pS Y)) _ _ _; rw [em]; exact hr60_1)) dX5_goesUp_61 rfl
    · refine xr_aload_n hM 0 dX5_goesUp_6 rfl rfl ?_
      refine xr_iconst hM dX5_goesUp_7 ?_
      refine xr_iald hM 0 1 rfl rfl (by omega) dX5_goesUp_8 ?_
      refine xr_topv (v' := pA Y) (hr.2.1) ?_
      refine xr_if_le hM 45 dX5_goesUp_9 (by decide) (by omega) (fun c9 => ?_) (fun c9 => by exfalso; omega)
      refine xr_aload_n hM 0 dX5_goesUp_45 rfl rfl ?_
      refine xr_iconst hM dX5_goesUp_46 ?_
      refine xr_aload_n hM 0 dX5_goesUp_47 rfl rfl ?_
      refine xr_iconst hM dX5_goesUp_48 ?_
      refine xr_iald hM 0 2 rfl rfl (by omega) dX5_goesUp_49 ?_
      refine xr_topv (v' := pS Y) (hr.2.2.1) ?_
      refine xr_if_ge hM 57 dX5_goesUp_50 (by decide) (by omega) (fun c50_1 => ?_) (fun c50_1 => ?_)
      · refine xr_aload_n hM 0 dX5_goesUp_57 rfl rfl ?_
        refine xr_iconst hM dX5_goesUp_58 ?_
        refine xr_iald hM 0 2 rfl rfl (by omega) dX5_goesUp_59 ?_
        refine xr_topv (v' := pS Y) (hr.2.2.1) ?_
        refine xr_iast (ws' := [(bb, ia T.2.1 305 (va_up w 2 (pS Y)))]) hM 0 2 rfl rfl (by omega) dX5_goesUp_60 rfl ?_
        have hr60_2 : RG (va_up w 2 (pS Y)) (gN (pX Y)) (pA Y) (pS Y) (pH Y) (gW (pX Y)) (pX Y) := hr.s2 (pS Y)
        generalize va_up w 2 (pS Y) = w60_2 at hr60_2 ⊢
        obtain rfl := itL_f hR (fun q9 => by have q2 := of_decide_eq_true q9; omega)
        have em : max 0 (pS Y) = pS Y := by omega
        exact xr_vret (hF _ w (by show RG _ _ _ (max 0 (pS Y)) _ _ _; rw [em]; exact hr60_2)) dX5_goesUp_61 rfl
      · refine xr_iconst hM dX5_goesUp_53 ?_
        refine xr_goto hM 60 dX5_goesUp_54 (by decide) ?_
        refine xr_iast (ws' := [(bb, ia T.2.1 305 (va_up w 2 0))]) hM 0 2 rfl rfl (by omega) dX5_goesUp_60 rfl ?_
        have hr60_3 : RG (va_up w 2 0) (gN (pX Y)) (pA Y) 0 (pH Y) (gW (pX Y)) (pX Y) := hr.s2 0
        generalize va_up w 2 0 = w60_3 at hr60_3 ⊢
        obtain rfl := itL_f hR (fun q9 => by have q2 := of_decide_eq_true q9; omega)
        have em : max 0 (pS Y) = 0 := by omega
        exact xr_vret (hF _ w (by show RG _ _ _ (max 0 (pS Y)) _ _ _; rw [em]; exact hr60_3)) dX5_goesUp_61 rfl
  | succ f ih =>
    intro w Y hr hD hm hR
    obtain ⟨h1, h2, h3, h4, h5⟩ := id hD
    have hn1 := h1.1
    refine xr_aload_n hM 0 dX5_goesUp_0 rfl rfl ?_
    refine xr_iconst hM dX5_goesUp_1 ?_
    refine xr_iald hM 0 2 rfl rfl (by omega) dX5_goesUp_2 ?_
    refine xr_topv (v' := pS Y) (hr.2.2.1) ?_
    refine xr_if_ge hM 45 dX5_goesUp_3 (by decide) (by omega) (fun c3 => ?_) (fun c3 => ?_)
    · refine xr_aload_n hM 0 dX5_goesUp_45 rfl rfl ?_
      refine xr_iconst hM dX5_goesUp_46 ?_
      refine xr_aload_n hM 0 dX5_goesUp_47 rfl rfl ?_
      refine xr_iconst hM dX5_goesUp_48 ?_
      refine xr_iald hM 0 2 rfl rfl (by omega) dX5_goesUp_49 ?_
      refine xr_topv (v' := pS Y) (hr.2.2.1) ?_
      refine xr_if_ge hM 57 dX5_goesUp_50 (by decide) (by omega) (fun c50 => ?_) (fun c50 => ?_)
      · refine xr_aload_n hM 0 dX5_goesUp_57 rfl rfl ?_
        refine xr_iconst hM dX5_goesUp_58 ?_
        refine xr_iald hM 0 2 rfl rfl (by omega) dX5_goesUp_59 ?_
        refine xr_topv (v' := pS Y) (hr.2.2.1) ?_
        refine xr_iast (ws' := [(bb, ia T.2.1 305 (va_up w 2 (pS Y)))]) hM 0 2 rfl rfl (by omega) dX5_goesUp_60 rfl ?_
        have hr60 : RG (va_up w 2 (pS Y)) (gN (pX Y)) (pA Y) (pS Y) (pH Y) (gW (pX Y)) (pX Y) := hr.s2 (pS Y)
        generalize va_up w 2 (pS Y) = w60 at hr60 ⊢
        obtain rfl := itL_f hR (fun q9 => by have q2 := of_decide_eq_true q9; omega)
        have em : max 0 (pS Y) = pS Y := by omega
        exact xr_vret (hF _ w (by show RG _ _ _ (max 0 (pS Y)) _ _ _; rw [em]; exact hr60)) dX5_goesUp_61 rfl
      · refine xr_iconst hM dX5_goesUp_53 ?_
        refine xr_goto hM 60 dX5_goesUp_54 (by decide) ?_
        refine xr_iast (ws' := [(bb, ia T.2.1 305 (va_up w 2 0))]) hM 0 2 rfl rfl (by omega) dX5_goesUp_60 rfl ?_
        have hr60_1 : RG (va_up w 2 0) (gN (pX Y)) (pA Y) 0 (pH Y) (gW (pX Y)) (pX Y) := hr.s2 0
        generalize va_up w 2 0 = w60_1 at hr60_1 ⊢
        obtain rfl := itL_f hR (fun q9 => by have q2 := of_decide_eq_true q9; omega)
        have em : max 0 (pS Y) = 0 := by omega
        exact xr_vret (hF _ w (by show RG _ _ _ (max 0 (pS Y)) _ _ _; rw [em]; exact hr60_1)) dX5_goesUp_61 rfl
    · refine xr_aload_n hM 0 dX5_goesUp_6 rfl rfl ?_
      refine xr_iconst hM dX5_goesUp_7 ?_
      refine xr_iald hM 0 1 rfl rfl (by omega) dX5_goesUp_8 ?_
      refine xr_topv (v' := pA Y) (hr.2.1) ?_
      refine xr_if_le hM 45 dX5_goesUp_9 (by decide) (by omega) (fun c9 => ?_) (fun c9 => ?_)
      · refine xr_aload_n hM 0 dX5_goesUp_45 rfl rfl ?_
        refine xr_iconst hM dX5_goesUp_46 ?_
        refine xr_aload_n hM 0 dX5_goesUp_47 rfl rfl ?_
        refine xr_iconst hM dX5_goesUp_48 ?_
        refine xr_iald hM 0 2 rfl rfl (by omega) dX5_goesUp_49 ?_
        refine xr_topv (v' := pS Y) (hr.2.2.1) ?_
        refine xr_if_ge hM 57 dX5_goesUp_50 (by decide) (by omega) (fun c50_1 => ?_) (fun c50_1 => ?_)
        · refine xr_aload_n hM 0 dX5_goesUp_57 rfl rfl ?_
          refine xr_iconst hM dX5_goesUp_58 ?_
          refine xr_iald hM 0 2 rfl rfl (by omega) dX5_goesUp_59 ?_
          refine xr_topv (v' := pS Y) (hr.2.2.1) ?_
          refine xr_iast (ws' := [(bb, ia T.2.1 305 (va_up w 2 (pS Y)))]) hM 0 2 rfl rfl (by omega) dX5_goesUp_60 rfl ?_
          have hr60_2 : RG (va_up w 2 (pS Y)) (gN (pX Y)) (pA Y) (pS Y) (pH Y) (gW (pX Y)) (pX Y) := hr.s2 (pS Y)
          generalize va_up w 2 (pS Y) = w60_2 at hr60_2 ⊢
          obtain rfl := itL_f hR (fun q9 => by have q2 := of_decide_eq_true q9; omega)
          have em : max 0 (pS Y) = pS Y := by omega
          exact xr_vret (hF _ w (by show RG _ _ _ (max 0 (pS Y)) _ _ _; rw [em]; exact hr60_2)) dX5_goesUp_61 rfl
        · refine xr_iconst hM dX5_goesUp_53 ?_
          refine xr_goto hM 60 dX5_goesUp_54 (by decide) ?_
          refine xr_iast (ws' := [(bb, ia T.2.1 305 (va_up w 2 0))]) hM 0 2 rfl rfl (by omega) dX5_goesUp_60 rfl ?_
          have hr60_3 : RG (va_up w 2 0) (gN (pX Y)) (pA Y) 0 (pH Y) (gW (pX Y)) (pX Y) := hr.s2 0
          generalize va_up w 2 0 = w60_3 at hr60_3 ⊢
          obtain rfl := itL_f hR (fun q9 => by have q2 := of_decide_eq_true q9; omega)
          have em : max 0 (pS Y) = 0 := by omega
          exact xr_vret (hF _ w (by show RG _ _ _ (max 0 (pS Y)) _ _ _; rw [em]; exact hr60_3)) dX5_goesUp_61 rfl
      · refine xr_aload_n hM 0 dX5_goesUp_12 rfl rfl ?_
        refine xr_iconst hM dX5_goesUp_13 ?_
        refine xr_dup2 hM dX5_goesUp_14 rfl rfl ?_
        refine xr_iald hM 0 1 rfl rfl (by omega) dX5_goesUp_15 ?_
        refine xr_topv (v' := pA Y) (hr.2.1) ?_
        refine xr_iconst hM dX5_goesUp_16 ?_
        refine xr_isub hM dX5_goesUp_17 ?_
        refine xr_iast (ws' := [(bb, ia T.2.1 305 (va_up w 1 ((pA Y) - 1)))]) hM 0 1 rfl rfl (by omega) dX5_goesUp_18 rfl ?_
        have hr18 : RG (va_up w 1 ((pA Y) - 1)) (gN (pX Y)) ((pA Y) - 1) (pS Y) (pH Y) (gW (pX Y)) (pX Y) := hr.s1 ((pA Y) - 1)
        generalize va_up w 1 ((pA Y) - 1) = w18 at hr18 ⊢
        refine xr_aload_n hM 0 dX5_goesUp_19 rfl rfl ?_
        refine xr_aload_n hM 0 dX5_goesUp_20 rfl rfl ?_
        refine xr_iconst hM dX5_goesUp_21 ?_
        refine xr_iald hM 0 1 rfl rfl (by omega) dX5_goesUp_22 ?_
        refine xr_topv (v' := (pA Y) - 1) (hr18.2.1) ?_
        refine xr_iconst hM dX5_goesUp_23 ?_
        refine xr_callSr (rest := [.ref bb]) (As := [iv ((pA Y) - 1), iv 2]) (st' := [iv (5 + 3 * ((pA Y) - 1) + 2), .ref bb]) hM (ct_X5_l M.2.1 T ((pA Y) - 1) 2) gX5_goesUp_X5_l rfl ⟨rfl, rfl⟩ hy_X5_l rfl ⟨by decide, by decide⟩ [] rfl rfl rfl rfl (Nat.le_of_ble_eq_true rfl) ⟨by decide, by decide⟩ dX5_goesUp_24 ?_
        refine xr_iconst hM dX5_goesUp_27 ?_
        refine xr_iast (ws' := [(bb, ia T.2.1 305 (va_up w18 (rI ((pA Y) - 1) 2) 1))]) hM 0 (rI ((pA Y) - 1) 2) rfl (by unfold rI; omega) (by omega) dX5_goesUp_28 rfl ?_
        have hN28 := meF_N (pX Y) ((pA Y) - 1).toNat
        have hV28 := meF_W (pX Y) ((pA Y) - 1).toNat
        have hwx28 : WFL (meF (pX Y) ((pA Y) - 1).toNat) := WFL_me h1 (by omega)
        have hr28 : RG (va_up w18 (rI ((pA Y) - 1) 2) 1) (gN (meF (pX Y) ((pA Y) - 1).toNat)) ((pA Y) - 1) (pS Y) (pH Y) (gW (meF (pX Y) ((pA Y) - 1).toNat)) (meF (pX Y) ((pA Y) - 1).toNat) := hr18.m1t h1 (by omega)
        generalize va_up w18 (rI ((pA Y) - 1) 2) 1 = w28 at hr28 ⊢
        refine xr_aload_n hM 0 dX5_goesUp_29 rfl rfl ?_
        refine xr_iconst hM dX5_goesUp_30 ?_
        refine xr_dup2 hM dX5_goesUp_31 rfl rfl ?_
        refine xr_iald hM 0 2 rfl rfl (by omega) dX5_goesUp_32 ?_
        refine xr_topv (v' := pS Y) (hr28.2.2.1) ?_
        refine xr_aload_n hM 0 dX5_goesUp_33 rfl rfl ?_
        refine xr_aload_n hM 0 dX5_goesUp_34 rfl rfl ?_
        refine xr_iconst hM dX5_goesUp_35 ?_
        refine xr_iald hM 0 1 rfl rfl (by omega) dX5_goesUp_36 ?_
        refine xr_topv (v' := (pA Y) - 1) (hr28.2.1) ?_
        refine xr_callSr (rest := [iv (pS Y), iv 2, .ref bb]) (As := [.ref bb, iv ((pA Y) - 1)]) (st' := [iv (tH (gW ((meF (pX Y) ((pA Y) - 1).toNat))) (gK ((meF (pX Y) ((pA Y) - 1).toNat)) ((pA Y) - 1).toNat) (gL ((meF (pX Y) ((pA Y) - 1).toNat)) ((pA Y) - 1).toNat)), iv (pS Y), iv 2, .ref bb]) hM (ct_X5_trueOf M.2.1 T bb w28 (meF (pX Y) ((pA Y) - 1).toNat, pH Y, (pA Y) - 1, pS Y) ((pA Y) - 1) hr28 hwx28 (by (try simp only [pX_t, pH_t, pA_t, pS_t]); omega)) gX5_goesUp_X5_trueOf rfl ⟨rfl, rfl⟩ hy_X5_trueOf rfl ⟨by decide, by decide⟩ [0] rfl rfl rfl rfl (Nat.le_of_ble_eq_true rfl) ⟨by decide, by decide⟩ dX5_goesUp_37 ?_
        have hf37 := (tH_b ⟨(hwx28.2.2.1 ((pA Y) - 1).toNat).2.1, hwx28.2.1⟩ : 6 ≤ tH (gW ((meF (pX Y) ((pA Y) - 1).toNat))) (gK ((meF (pX Y) ((pA Y) - 1).toNat)) ((pA Y) - 1).toNat) (gL ((meF (pX Y) ((pA Y) - 1).toNat)) ((pA Y) - 1).toNat) ∧ tH (gW ((meF (pX Y) ((pA Y) - 1).toNat))) (gK ((meF (pX Y) ((pA Y) - 1).toNat)) ((pA Y) - 1).toNat) (gL ((meF (pX Y) ((pA Y) - 1).toNat)) ((pA Y) - 1).toNat) ≤ 1450)
        refine xr_iadd hM dX5_goesUp_40 ?_
        refine xr_iast (ws' := [(bb, ia T.2.1 305 (va_up w28 2 ((pS Y) + (tH (gW ((meF (pX Y) ((pA Y) - 1).toNat))) (gK ((meF (pX Y) ((pA Y) - 1).toNat)) ((pA Y) - 1).toNat) (gL ((meF (pX Y) ((pA Y) - 1).toNat)) ((pA Y) - 1).toNat)))))]) hM 0 2 rfl rfl (by omega) dX5_goesUp_41 rfl ?_
        have hr41 : RG (va_up w28 2 ((pS Y) + (tH (gW ((meF (pX Y) ((pA Y) - 1).toNat))) (gK ((meF (pX Y) ((pA Y) - 1).toNat)) ((pA Y) - 1).toNat) (gL ((meF (pX Y) ((pA Y) - 1).toNat)) ((pA Y) - 1).toNat)))) (gN (meF (pX Y) ((pA Y) - 1).toNat)) ((pA Y) - 1) ((pS Y) + (tH (gW ((meF (pX Y) ((pA Y) - 1).toNat))) (gK ((meF (pX Y) ((pA Y) - 1).toNat)) ((pA Y) - 1).toNat) (gL ((meF (pX Y) ((pA Y) - 1).toNat)) ((pA Y) - 1).toNat))) (pH Y) (gW (meF (pX Y) ((pA Y) - 1).toNat)) (meF (pX Y) ((pA Y) - 1).toNat) := hr28.s2 ((pS Y) + (tH (gW ((meF (pX Y) ((pA Y) - 1).toNat))) (gK ((meF (pX Y) ((pA Y) - 1).toNat)) ((pA Y) - 1).toNat) (gL ((meF (pX Y) ((pA Y) - 1).toNat)) ((pA Y) - 1).toNat)))
        generalize va_up w28 2 ((pS Y) + (tH (gW ((meF (pX Y) ((pA Y) - 1).toNat))) (gK ((meF (pX Y) ((pA Y) - 1).toNat)) ((pA Y) - 1).toNat) (gL ((meF (pX Y) ((pA Y) - 1).toNat)) ((pA Y) - 1).toNat))) = w41 at hr41 ⊢
        refine xr_goto hM 0 dX5_goesUp_42 (by decide) ?_
        have hcd : clC Y = true := decide_eq_true ⟨by omega, by omega⟩
        have em := htF_m (x := meF (pX Y) (pA Y - 1).toNat) (i := (pA Y - 1).toNat) (by rw [meF_M h1]; exact up_at)
        rw [← em] at hr41
        exact ih _ (clS Y) hr41 (DI_cl (by omega) hD hcd).1 (by have := (DI_cl (by omega) hD hcd).2; omega) (itL_t hR hcd)

theorem ct_X5_goesUp (l : Launch) (T : TT) (bb : Nat) (w : AR) (X : WnS) (hr : Rep w X) (hD : DI (gN (pX X)) (-600000) 400000 X) : CT2 l yX5_goesUp wsX5_goesUp rm_X5_goesUp T [.ref bb] ([(bb, ia T.2.1 305 w)]) none (fun w_ g_ => Rep w_ (clF X)) (fun w_ g_ => [(bb, ia T.2.1 305 w_)]) := by
  refine CT2.V (maxL := 1) (lv0 := [(0, .ref bb)]) hp_X5_goesUp rfl (Nat.le_of_ble_eq_true rfl) rfl (fun M hM hF => ?_)
  exact lp_X5_goesUp bb (gN (pX X)) (clL X) hM hF _ w X hr hD (Nat.le_refl _) rfl

theorem lp_settles_17 {T : TT} {M : MB} (bb : Nat) (N : Int) (R : WnS) (hM : FM T M cX5_settles RX5 3 wsX5_settles rm_X5_settles) (hK : ∀ w : AR, Rep w R → VV T M 3 [(0, .ref bb)] [(bb, ia T.2.1 305 w)] 0 0 74 []) : ∀ (f : Nat) (w : AR) (Y : WnS), Rep w Y → DI N 0 400000 Y → gM (pX Y) (pA Y).toNat = 1 → (N - pA Y).toNat ≤ f → itL dsC dsS f Y = R → VV T M 3 [(0, .ref bb)] [(bb, ia T.2.1 305 w)] 0 0 17 [] := by
  intro f
  induction f with
  | zero =>
    intro w Y hr hD hme hm hR
    exfalso
    have := hD.2.2.1
    omega
  | succ f ih =>
    intro w Y hr hD hme hm hR
    obtain ⟨h1, h2, h3, h4, h5⟩ := id hD
    have hn1 := h1.1
    refine xr_aload_n hM 0 dX5_settles_17 rfl rfl ?_
    refine xr_iconst hM dX5_settles_18 ?_
    refine xr_iald hM 0 1 rfl rfl (by omega) dX5_settles_19 ?_
    refine xr_topv (v' := pA Y) (hr.2.1) ?_
    refine xr_iconst hM dX5_settles_20 ?_
    refine xr_iadd hM dX5_settles_21 ?_
    refine xr_aload_n hM 0 dX5_settles_22 rfl rfl ?_
    refine xr_iconst hM dX5_settles_23 ?_
    refine xr_iald hM 0 0 rfl rfl (by omega) dX5_settles_24 ?_
    refine xr_topv (v' := gN (pX Y)) (hr.1) ?_
    refine xr_icmp_ge hM 74 dX5_settles_25 (by decide) (by omega) (fun c25 => ?_) (fun c25 => ?_)
    · have em := htF_m (x := pX Y) (i := (pA Y).toNat) hme
      obtain rfl := itL_f hR (fun q9 => by have q2 := of_decide_eq_true q9; omega)
      exact hK w hr
    · refine xr_aload_n hM 0 dX5_settles_28 rfl rfl ?_
      refine xr_iconst hM dX5_settles_29 ?_
      refine xr_iald hM 0 2 rfl rfl (by omega) dX5_settles_30 ?_
      refine xr_topv (v' := pS Y) (hr.2.2.1) ?_
      refine xr_aload_n hM 0 dX5_settles_31 rfl rfl ?_
      refine xr_aload_n hM 0 dX5_settles_32 rfl rfl ?_
      refine xr_iconst hM dX5_settles_33 ?_
      refine xr_iald hM 0 1 rfl rfl (by omega) dX5_settles_34 ?_
      refine xr_topv (v' := pA Y) (hr.2.1) ?_
      refine xr_callSr (rest := [iv (pS Y)]) (As := [.ref bb, iv (pA Y)]) (st' := [iv (tH (gW (pX Y)) (gK (pX Y) (pA Y).toNat) (gL (pX Y) (pA Y).toNat)), iv (pS Y)]) hM (ct_X5_trueOf M.2.1 T bb w Y (pA Y) hr h1 (by (try simp only [pX_t, pH_t, pA_t, pS_t]); omega)) gX5_settles_X5_trueOf rfl ⟨rfl, rfl⟩ hy_X5_trueOf rfl ⟨by decide, by decide⟩ [0] rfl rfl rfl rfl (Nat.le_of_ble_eq_true rfl) ⟨by decide, by decide⟩ dX5_settles_35 ?_
      have hf35 := (tH_b ⟨(h1.2.2.1 (pA Y).toNat).2.1, h1.2.1⟩ : 6 ≤ tH (gW (pX Y)) (gK (pX Y) (pA Y).toNat) (gL (pX Y) (pA Y).toNat) ∧ tH (gW (pX Y)) (gK (pX Y) (pA Y).toNat) (gL (pX Y) (pA Y).toNat) ≤ 1450)
      refine xr_icmp_lt hM 74 dX5_settles_38 (by decide) (by omega) (fun c38 => ?_) (fun c38 => ?_)
      · have em := htF_m (x := pX Y) (i := (pA Y).toNat) hme
        obtain rfl := itL_f hR (fun q9 => by have q2 := of_decide_eq_true q9; omega)
        exact hK w hr
      · refine xr_aload_n hM 0 dX5_settles_41 rfl rfl ?_
        refine xr_iconst hM dX5_settles_42 ?_
        refine xr_dup2 hM dX5_settles_43 rfl rfl ?_
        refine xr_iald hM 0 2 rfl rfl (by omega) dX5_settles_44 ?_
        refine xr_topv (v' := pS Y) (hr.2.2.1) ?_
        refine xr_aload_n hM 0 dX5_settles_45 rfl rfl ?_
        refine xr_aload_n hM 0 dX5_settles_46 rfl rfl ?_
        refine xr_iconst hM dX5_settles_47 ?_
        refine xr_iald hM 0 1 rfl rfl (by omega) dX5_settles_48 ?_
        refine xr_topv (v' := pA Y) (hr.2.1) ?_
        refine xr_callSr (rest := [iv (pS Y), iv 2, .ref bb]) (As := [.ref bb, iv (pA Y)]) (st' := [iv (tH (gW (pX Y)) (gK (pX Y) (pA Y).toNat) (gL (pX Y) (pA Y).toNat)), iv (pS Y), iv 2, .ref bb]) hM (ct_X5_trueOf M.2.1 T bb w Y (pA Y) hr h1 (by (try simp only [pX_t, pH_t, pA_t, pS_t]); omega)) gX5_settles_X5_trueOf rfl ⟨rfl, rfl⟩ hy_X5_trueOf rfl ⟨by decide, by decide⟩ [0] rfl rfl rfl rfl (Nat.le_of_ble_eq_true rfl) ⟨by decide, by decide⟩ dX5_settles_49 ?_
        have hf49 := (tH_b ⟨(h1.2.2.1 (pA Y).toNat).2.1, h1.2.1⟩ : 6 ≤ tH (gW (pX Y)) (gK (pX Y) (pA Y).toNat) (gL (pX Y) (pA Y).toNat) ∧ tH (gW (pX Y)) (gK (pX Y) (pA Y).toNat) (gL (pX Y) (pA Y).toNat) ≤ 1450)
        refine xr_isub hM dX5_settles_52 ?_
        refine xr_iast (ws' := [(bb, ia T.2.1 305 (va_up w 2 ((pS Y) - (tH (gW (pX Y)) (gK (pX Y) (pA Y).toNat) (gL (pX Y) (pA Y).toNat)))))]) hM 0 2 rfl rfl (by omega) dX5_settles_53 rfl ?_
        have hr53 : RG (va_up w 2 ((pS Y) - (tH (gW (pX Y)) (gK (pX Y) (pA Y).toNat) (gL (pX Y) (pA Y).toNat)))) (gN (pX Y)) (pA Y) ((pS Y) - (tH (gW (pX Y)) (gK (pX Y) (pA Y).toNat) (gL (pX Y) (pA Y).toNat))) (pH Y) (gW (pX Y)) (pX Y) := hr.s2 ((pS Y) - (tH (gW (pX Y)) (gK (pX Y) (pA Y).toNat) (gL (pX Y) (pA Y).toNat)))
        generalize va_up w 2 ((pS Y) - (tH (gW (pX Y)) (gK (pX Y) (pA Y).toNat) (gL (pX Y) (pA Y).toNat))) = w53 at hr53 ⊢
        refine xr_aload_n hM 0 dX5_settles_54 rfl rfl ?_
        refine xr_iconst hM dX5_settles_55 ?_
        refine xr_dup2 hM dX5_settles_56 rfl rfl ?_
        refine xr_iald hM 0 1 rfl rfl (by omega) dX5_settles_57 ?_
        refine xr_topv (v' := pA Y) (hr53.2.1) ?_
        refine xr_iconst hM dX5_settles_58 ?_
        refine xr_iadd hM dX5_settles_59 ?_
        refine xr_iast (ws' := [(bb, ia T.2.1 305 (va_up w53 1 ((pA Y) + 1)))]) hM 0 1 rfl rfl (by omega) dX5_settles_60 rfl ?_
        have hr60 : RG (va_up w53 1 ((pA Y) + 1)) (gN (pX Y)) ((pA Y) + 1) ((pS Y) - (tH (gW (pX Y)) (gK (pX Y) (pA Y).toNat) (gL (pX Y) (pA Y).toNat))) (pH Y) (gW (pX Y)) (pX Y) := hr53.s1 ((pA Y) + 1)
        generalize va_up w53 1 ((pA Y) + 1) = w60 at hr60 ⊢
        refine xr_aload_n hM 0 dX5_settles_61 rfl rfl ?_
        refine xr_aload_n hM 0 dX5_settles_62 rfl rfl ?_
        refine xr_iconst hM dX5_settles_63 ?_
        refine xr_iald hM 0 1 rfl rfl (by omega) dX5_settles_64 ?_
        refine xr_topv (v' := (pA Y) + 1) (hr60.2.1) ?_
        refine xr_iconst hM dX5_settles_65 ?_
        refine xr_callSr (rest := [.ref bb]) (As := [iv ((pA Y) + 1), iv 2]) (st' := [iv (5 + 3 * ((pA Y) + 1) + 2), .ref bb]) hM (ct_X5_l M.2.1 T ((pA Y) + 1) 2) gX5_settles_X5_l rfl ⟨rfl, rfl⟩ hy_X5_l rfl ⟨by decide, by decide⟩ [] rfl rfl rfl rfl (Nat.le_of_ble_eq_true rfl) ⟨by decide, by decide⟩ dX5_settles_66 ?_
        refine xr_iconst hM dX5_settles_69 ?_
        refine xr_iast (ws' := [(bb, ia T.2.1 305 (va_up w60 (rI ((pA Y) + 1) 2) 1))]) hM 0 (rI ((pA Y) + 1) 2) rfl (by unfold rI; omega) (by omega) dX5_settles_70 rfl ?_
        have hN70 := meF_N (pX Y) ((pA Y) + 1).toNat
        have hV70 := meF_W (pX Y) ((pA Y) + 1).toNat
        have hwx70 : WFL (meF (pX Y) ((pA Y) + 1).toNat) := WFL_me h1 (by omega)
        have hr70 : RG (va_up w60 (rI ((pA Y) + 1) 2) 1) (gN (meF (pX Y) ((pA Y) + 1).toNat)) ((pA Y) + 1) ((pS Y) - (tH (gW (pX Y)) (gK (pX Y) (pA Y).toNat) (gL (pX Y) (pA Y).toNat))) (pH Y) (gW (meF (pX Y) ((pA Y) + 1).toNat)) (meF (pX Y) ((pA Y) + 1).toNat) := hr60.m1t h1 (by omega)
        generalize va_up w60 (rI ((pA Y) + 1) 2) 1 = w70 at hr70 ⊢
        refine xr_goto hM 17 dX5_settles_71 (by decide) ?_
        have em := htF_m (x := pX Y) (i := (pA Y).toNat) hme
        have hcd : dsC Y = true := decide_eq_true ⟨by omega, by omega⟩
        rw [← em] at hr70
        exact ih _ (dsS Y) hr70 (DI_ds hD hcd).1 (by show gM (meF (pX Y) (pA Y + 1).toNat) (pA Y + 1).toNat = 1; rw [meF_M h1]; exact up_at) (by have := (DI_ds hD hcd).2; omega) (itL_t hR hcd)

theorem lp_settles_88 {T : TT} {M : MB} (bb : Nat) (N : Int) (Y : WnS) (R : LnS × Int × Int) (hD : DI N 0 400000 Y) (hH : 20 ≤ pH Y ∧ pH Y ≤ 600) (hM : FM T M cX5_settles RX5 3 wsX5_settles rm_X5_settles) (hF : ∀ w g : AR, Rep w (enF Y R) → FinV T M cX5_settles 3 [(bb, ia T.2.1 305 w)]) : ∀ (f : Nat) (w : AR) (Z : LnS × Int × Int), Rep w (Z.1, pH Y, pA Y, pS Y) → FI N Z → (N - Z.2.1).toNat < f → itL (fiC (pS Y + pH Y)) fiS f Z = R → VV T M 3 [(0, .ref bb), (1, iv (Z.2.1 - 1)), (2, iv (Z.2.2 - pS Y))] [(bb, ia T.2.1 305 w)] 0 0 88 [] := by
  intro f
  induction f with
  | zero =>
    intro w Z hr hZ hm hR
    omega
  | succ f ih =>
    intro w Z hr hZ hm hR
    obtain ⟨h1, h2, h3, h4, h5⟩ := id hD
    obtain ⟨f1, f2, f3, f4, f5⟩ := id hZ
    have hn1 := f1.1
    have hr : RG w (gN Z.1) (pA Y) (pS Y) (pH Y) (gW Z.1) Z.1 := hr
    refine xr_iload_n hM 1 dX5_settles_88 rfl rfl ?_
    refine xr_iconst hM dX5_settles_89 ?_
    refine xr_iadd hM dX5_settles_90 ?_
    refine xr_aload_n hM 0 dX5_settles_91 rfl rfl ?_
    refine xr_iconst hM dX5_settles_92 ?_
    refine xr_iald hM 0 0 rfl rfl (by omega) dX5_settles_93 ?_
    refine xr_topv (v' := gN Z.1) (hr.1) ?_
    refine xr_icmp_ge hM 126 dX5_settles_94 (by decide) (by omega) (fun c94 => ?_) (fun c94 => ?_)
    · refine xr_iload_n hM 1 dX5_settles_126 rfl rfl ?_
      refine xr_iconst hM dX5_settles_127 ?_
      refine xr_iadd hM dX5_settles_128 ?_
      refine xr_aload_n hM 0 dX5_settles_129 rfl rfl ?_
      refine xr_iconst hM dX5_settles_130 ?_
      refine xr_iald hM 0 0 rfl rfl (by omega) dX5_settles_131 ?_
      refine xr_topv (v' := gN Z.1) (hr.1) ?_
      refine xr_icmp_ne hM 157 dX5_settles_132 (by decide) (by omega) (fun c132 => ?_) (fun c132 => ?_)
      · obtain rfl := itL_f hR (fun q9 => by have q2 := of_decide_eq_true q9; omega)
        exact xr_vret (hF _ w (by rw [enF, if_neg (by omega)]; exact hr)) dX5_settles_157 rfl
      · refine xr_iload_n hM 2 dX5_settles_135 rfl rfl ?_
        refine xr_aload_n hM 0 dX5_settles_136 rfl rfl ?_
        refine xr_iconst hM dX5_settles_137 ?_
        refine xr_iald hM 0 3 rfl rfl (by omega) dX5_settles_138 ?_
        refine xr_topv (v' := pH Y) (hr.2.2.2.1) ?_
        refine xr_icmp_ge hM 157 dX5_settles_139 (by decide) (by omega) (fun c139 => ?_) (fun c139 => ?_)
        · obtain rfl := itL_f hR (fun q9 => by have q2 := of_decide_eq_true q9; omega)
          exact xr_vret (hF _ w (by rw [enF, if_neg (by omega)]; exact hr)) dX5_settles_157 rfl
        · refine xr_aload_n hM 0 dX5_settles_142 rfl rfl ?_
          refine xr_iconst hM dX5_settles_143 ?_
          refine xr_dup2 hM dX5_settles_144 rfl rfl ?_
          refine xr_iald hM 0 2 rfl rfl (by omega) dX5_settles_145 ?_
          refine xr_topv (v' := pS Y) (hr.2.2.1) ?_
          refine xr_aload_n hM 0 dX5_settles_146 rfl rfl ?_
          refine xr_iconst hM dX5_settles_147 ?_
          refine xr_iald hM 0 3 rfl rfl (by omega) dX5_settles_148 ?_
          refine xr_topv (v' := pH Y) (hr.2.2.2.1) ?_
          refine xr_iload_n hM 2 dX5_settles_149 rfl rfl ?_
          refine xr_isub hM dX5_settles_150 ?_
          refine xr_isub hM dX5_settles_151 ?_
          refine xr_iast (ws' := [(bb, ia T.2.1 305 (va_up w 2 ((pS Y) - ((pH Y) - (Z.2.2 - pS Y)))))]) hM 0 2 rfl rfl (by omega) dX5_settles_152 rfl ?_
          have hr152 : RG (va_up w 2 ((pS Y) - ((pH Y) - (Z.2.2 - pS Y)))) (gN Z.1) (pA Y) ((pS Y) - ((pH Y) - (Z.2.2 - pS Y))) (pH Y) (gW Z.1) Z.1 := hr.s2 ((pS Y) - ((pH Y) - (Z.2.2 - pS Y)))
          generalize va_up w 2 ((pS Y) - ((pH Y) - (Z.2.2 - pS Y))) = w152 at hr152 ⊢
          have em : (pS Y) - ((pH Y) - (Z.2.2 - pS Y)) = pS Y - (pS Y + pH Y - Z.2.2) := by omega
          rw [em] at hr152
          have hDc : DI (gN Z.1) (-600000) 400000 (Z.1, pH Y, pA Y, pS Y - (pS Y + pH Y - Z.2.2)) := ⟨f1, rfl, by show 0 ≤ pA Y ∧ pA Y < gN Z.1; omega, (by show -600000 ≤ pS Y - (pS Y + pH Y - Z.2.2); omega), (by show pS Y - (pS Y + pH Y - Z.2.2) ≤ 400000; omega)⟩
          refine xr_aload_n hM 0 dX5_settles_153 rfl rfl ?_
          refine xr_callS2 (ws' := fun w154 g154 => [(bb, ia T.2.1 305 w154)]) (rest := []) (As := [.ref bb]) (st' := []) hM (ct_X5_goesUp M.2.1 T bb w152 (Z.1, pH Y, pA Y, pS Y - (pS Y + pH Y - Z.2.2)) hr152 hDc) gX5_settles_X5_goesUp rfl ⟨rfl, rfl⟩ hy_X5_goesUp rfl ⟨by decide, by decide⟩ [0] rfl rfl (fun _ _ => rfl) rfl rfl (Nat.le_of_ble_eq_true rfl) ⟨by decide, by decide⟩ (fun _ _ => rfl) dX5_settles_154 (fun w154 g154 hP154 => ?_)
          obtain rfl := itL_f hR (fun q9 => by have q2 := of_decide_eq_true q9; omega)
          exact xr_vret (hF _ w (by rw [enF, if_pos (by omega)]; exact hP154)) dX5_settles_157 rfl
    · refine xr_iload_n hM 2 dX5_settles_97 rfl rfl ?_
      refine xr_aload_n hM 0 dX5_settles_98 rfl rfl ?_
      refine xr_iconst hM dX5_settles_99 ?_
      refine xr_iald hM 0 3 rfl rfl (by omega) dX5_settles_100 ?_
      refine xr_topv (v' := pH Y) (hr.2.2.2.1) ?_
      refine xr_icmp_ge hM 126 dX5_settles_101 (by decide) (by omega) (fun c101 => ?_) (fun c101 => ?_)
      · refine xr_iload_n hM 1 dX5_settles_126 rfl rfl ?_
        refine xr_iconst hM dX5_settles_127 ?_
        refine xr_iadd hM dX5_settles_128 ?_
        refine xr_aload_n hM 0 dX5_settles_129 rfl rfl ?_
        refine xr_iconst hM dX5_settles_130 ?_
        refine xr_iald hM 0 0 rfl rfl (by omega) dX5_settles_131 ?_
        refine xr_topv (v' := gN Z.1) (hr.1) ?_
        refine xr_icmp_ne hM 157 dX5_settles_132 (by decide) (by omega) (fun c132_1 => ?_) (fun c132_1 => ?_)
        · obtain rfl := itL_f hR (fun q9 => by have q2 := of_decide_eq_true q9; omega)
          exact xr_vret (hF _ w (by rw [enF, if_neg (by omega)]; exact hr)) dX5_settles_157 rfl
        · refine xr_iload_n hM 2 dX5_settles_135 rfl rfl ?_
          refine xr_aload_n hM 0 dX5_settles_136 rfl rfl ?_
          refine xr_iconst hM dX5_settles_137 ?_
          refine xr_iald hM 0 3 rfl rfl (by omega) dX5_settles_138 ?_
          refine xr_topv (v' := pH Y) (hr.2.2.2.1) ?_
          refine xr_icmp_ge hM 157 dX5_settles_139 (by decide) (by omega) (fun c139_1 => ?_) (fun c139_1 => ?_)
          · obtain rfl := itL_f hR (fun q9 => by have q2 := of_decide_eq_true q9; omega)
            exact xr_vret (hF _ w (by rw [enF, if_neg (by omega)]; exact hr)) dX5_settles_157 rfl
          · refine xr_aload_n hM 0 dX5_settles_142 rfl rfl ?_
            refine xr_iconst hM dX5_settles_143 ?_
            refine xr_dup2 hM dX5_settles_144 rfl rfl ?_
            refine xr_iald hM 0 2 rfl rfl (by omega) dX5_settles_145 ?_
            refine xr_topv (v' := pS Y) (hr.2.2.1) ?_
            refine xr_aload_n hM 0 dX5_settles_146 rfl rfl ?_
            refine xr_iconst hM dX5_settles_147 ?_
            refine xr_iald hM 0 3 rfl rfl (by omega) dX5_settles_148 ?_
            refine xr_topv (v' := pH Y) (hr.2.2.2.1) ?_
            refine xr_iload_n hM 2 dX5_settles_149 rfl rfl ?_
            refine xr_isub hM dX5_settles_150 ?_
            refine xr_isub hM dX5_settles_151 ?_
            refine xr_iast (ws' := [(bb, ia T.2.1 305 (va_up w 2 ((pS Y) - ((pH Y) - (Z.2.2 - pS Y)))))]) hM 0 2 rfl rfl (by omega) dX5_settles_152 rfl ?_
            have hr152_1 : RG (va_up w 2 ((pS Y) - ((pH Y) - (Z.2.2 - pS Y)))) (gN Z.1) (pA Y) ((pS Y) - ((pH Y) - (Z.2.2 - pS Y))) (pH Y) (gW Z.1) Z.1 := hr.s2 ((pS Y) - ((pH Y) - (Z.2.2 - pS Y)))
            generalize va_up w 2 ((pS Y) - ((pH Y) - (Z.2.2 - pS Y))) = w152_1 at hr152_1 ⊢
            have em : (pS Y) - ((pH Y) - (Z.2.2 - pS Y)) = pS Y - (pS Y + pH Y - Z.2.2) := by omega
            rw [em] at hr152_1
            have hDc : DI (gN Z.1) (-600000) 400000 (Z.1, pH Y, pA Y, pS Y - (pS Y + pH Y - Z.2.2)) := ⟨f1, rfl, by show 0 ≤ pA Y ∧ pA Y < gN Z.1; omega, (by show -600000 ≤ pS Y - (pS Y + pH Y - Z.2.2); omega), (by show pS Y - (pS Y + pH Y - Z.2.2) ≤ 400000; omega)⟩
            refine xr_aload_n hM 0 dX5_settles_153 rfl rfl ?_
            refine xr_callS2 (ws' := fun w154_1 g154_1 => [(bb, ia T.2.1 305 w154_1)]) (rest := []) (As := [.ref bb]) (st' := []) hM (ct_X5_goesUp M.2.1 T bb w152_1 (Z.1, pH Y, pA Y, pS Y - (pS Y + pH Y - Z.2.2)) hr152_1 hDc) gX5_settles_X5_goesUp rfl ⟨rfl, rfl⟩ hy_X5_goesUp rfl ⟨by decide, by decide⟩ [0] rfl rfl (fun _ _ => rfl) rfl rfl (Nat.le_of_ble_eq_true rfl) ⟨by decide, by decide⟩ (fun _ _ => rfl) dX5_settles_154 (fun w154_1 g154_1 hP154_1 => ?_)
            obtain rfl := itL_f hR (fun q9 => by have q2 := of_decide_eq_true q9; omega)
            exact xr_vret (hF _ w (by rw [enF, if_pos (by omega)]; exact hP154_1)) dX5_settles_157 rfl
      · refine xr_iinc (lv' := [(0, .ref bb), (1, iv ((Z.2.1 - 1) + 1)), (2, iv (Z.2.2 - pS Y))]) hM 1 dX5_settles_104 rfl (by decide) rfl rfl ?_
        refine xr_re (lv' := [(0, .ref bb), (1, iv Z.2.1), (2, iv (Z.2.2 - pS Y))]) (ws' := [(bb, ia T.2.1 305 w)]) (st' := []) (by rw [show Z.2.1 - 1 + 1 = Z.2.1 by omega]) rfl rfl ?_
        refine xr_aload_n hM 0 dX5_settles_107 rfl rfl ?_
        refine xr_iload_n hM 1 dX5_settles_108 rfl rfl ?_
        refine xr_iconst hM dX5_settles_109 ?_
        refine xr_callSr (rest := [.ref bb]) (As := [iv Z.2.1, iv 2]) (st' := [iv (5 + 3 * Z.2.1 + 2), .ref bb]) hM (ct_X5_l M.2.1 T Z.2.1 2) gX5_settles_X5_l rfl ⟨rfl, rfl⟩ hy_X5_l rfl ⟨by decide, by decide⟩ [] rfl rfl rfl rfl (Nat.le_of_ble_eq_true rfl) ⟨by decide, by decide⟩ dX5_settles_110 ?_
        refine xr_iconst hM dX5_settles_113 ?_
        refine xr_iast (ws' := [(bb, ia T.2.1 305 (va_up w (rI Z.2.1 2) 1))]) hM 0 (rI Z.2.1 2) rfl (by unfold rI; omega) (by omega) dX5_settles_114 rfl ?_
        have hN114 := meF_N Z.1 Z.2.1.toNat
        have hV114 := meF_W Z.1 Z.2.1.toNat
        have hwx114 : WFL (meF Z.1 Z.2.1.toNat) := WFL_me f1 (by omega)
        have hr114 : RG (va_up w (rI Z.2.1 2) 1) (gN (meF Z.1 Z.2.1.toNat)) (pA Y) (pS Y) (pH Y) (gW (meF Z.1 Z.2.1.toNat)) (meF Z.1 Z.2.1.toNat) := hr.m1t f1 (by omega)
        generalize va_up w (rI Z.2.1 2) 1 = w114 at hr114 ⊢
        refine xr_iload_n hM 2 dX5_settles_115 rfl rfl ?_
        refine xr_aload_n hM 0 dX5_settles_116 rfl rfl ?_
        refine xr_iload_n hM 1 dX5_settles_117 rfl rfl ?_
        refine xr_callSr (rest := [iv (Z.2.2 - pS Y)]) (As := [.ref bb, iv Z.2.1]) (st' := [iv (tH (gW ((meF Z.1 Z.2.1.toNat))) (gK ((meF Z.1 Z.2.1.toNat)) Z.2.1.toNat) (gL ((meF Z.1 Z.2.1.toNat)) Z.2.1.toNat)), iv (Z.2.2 - pS Y)]) hM (ct_X5_trueOf M.2.1 T bb w114 (meF Z.1 Z.2.1.toNat, pH Y, pA Y, pS Y) Z.2.1 hr114 hwx114 (by (try simp only [pX_t, pH_t, pA_t, pS_t]); omega)) gX5_settles_X5_trueOf rfl ⟨rfl, rfl⟩ hy_X5_trueOf rfl ⟨by decide, by decide⟩ [0] rfl rfl rfl rfl (Nat.le_of_ble_eq_true rfl) ⟨by decide, by decide⟩ dX5_settles_118 ?_
        have hf118 := (tH_b ⟨(hwx114.2.2.1 Z.2.1.toNat).2.1, hwx114.2.1⟩ : 6 ≤ tH (gW ((meF Z.1 Z.2.1.toNat))) (gK ((meF Z.1 Z.2.1.toNat)) Z.2.1.toNat) (gL ((meF Z.1 Z.2.1.toNat)) Z.2.1.toNat) ∧ tH (gW ((meF Z.1 Z.2.1.toNat))) (gK ((meF Z.1 Z.2.1.toNat)) Z.2.1.toNat) (gL ((meF Z.1 Z.2.1.toNat)) Z.2.1.toNat) ≤ 1450)
        refine xr_iadd hM dX5_settles_121 ?_
        refine xr_istore_n (lv' := [(0, .ref bb), (1, iv Z.2.1), (2, iv ((Z.2.2 - pS Y) + (tH (gW ((meF Z.1 Z.2.1.toNat))) (gK ((meF Z.1 Z.2.1.toNat)) Z.2.1.toNat) (gL ((meF Z.1 Z.2.1.toNat)) Z.2.1.toNat))))]) hM dX5_settles_122 rfl (by decide) rfl rfl ?_
        refine xr_goto hM 88 dX5_settles_123 (by decide) ?_
        have em := htF_m (x := meF Z.1 Z.2.1.toNat) (i := Z.2.1.toNat) (by rw [meF_M f1]; exact up_at)
        have hcd : fiC (pS Y + pH Y) Z = true := decide_eq_true ⟨by omega, by omega⟩
        refine xr_re (lv' := [(0, .ref bb), (1, iv ((fiS Z).2.1 - 1)), (2, iv ((fiS Z).2.2 - pS Y))]) (ws' := [(bb, ia T.2.1 305 w114)]) (st' := []) (by rw [show (fiS Z).2.1 - 1 = Z.2.1 from Int.add_sub_cancel _ _, show (fiS Z).2.2 = Z.2.2 + htF (meF Z.1 Z.2.1.toNat) Z.2.1.toNat from rfl, em]; refine congrArg (fun z => [(0, Value.ref bb), (1, iv Z.2.1), (2, iv z)]) ?_; omega) rfl rfl ?_
        exact ih _ (fiS Z) hr114 (FI_s hZ hcd).1 (by have := (FI_s hZ hcd).2; omega) (itL_t hR hcd)

theorem ct_settles_74 {T : TT} {M : MB} (bb : Nat) (N : Int) (w : AR) (Y : WnS) (hr : Rep w Y) (hD : DI N 0 400000 Y) (hme : gM (pX Y) (pA Y).toNat = 1) (hH : 20 ≤ pH Y ∧ pH Y ≤ 600) (hM : FM T M cX5_settles RX5 3 wsX5_settles rm_X5_settles) (hF : ∀ w g : AR, Rep w (enF Y (fiF Y)) → FinV T M cX5_settles 3 [(bb, ia T.2.1 305 w)]) : VV T M 3 [(0, .ref bb)] [(bb, ia T.2.1 305 w)] 0 0 74 [] := by
  obtain ⟨h1, h2, h3, h4, h5⟩ := id hD
  have hn1 := h1.1
  refine xr_aload_n hM 0 dX5_settles_74 rfl rfl ?_
  refine xr_iconst hM dX5_settles_75 ?_
  refine xr_iald hM 0 1 rfl rfl (by omega) dX5_settles_76 ?_
  refine xr_topv (v' := pA Y) (hr.2.1) ?_
  refine xr_istore_n (lv' := [(0, .ref bb), (1, iv (pA Y))]) hM dX5_settles_77 rfl (by decide) rfl rfl ?_
  refine xr_aload_n hM 0 dX5_settles_78 rfl rfl ?_
  refine xr_iload_n hM 1 dX5_settles_79 rfl rfl ?_
  refine xr_callSr (rest := []) (As := [.ref bb, iv (pA Y)]) (st' := [iv (tH (gW (pX Y)) (gK (pX Y) (pA Y).toNat) (gL (pX Y) (pA Y).toNat))]) hM (ct_X5_trueOf M.2.1 T bb w Y (pA Y) hr h1 (by (try simp only [pX_t, pH_t, pA_t, pS_t]); omega)) gX5_settles_X5_trueOf rfl ⟨rfl, rfl⟩ hy_X5_trueOf rfl ⟨by decide, by decide⟩ [0] rfl rfl rfl rfl (Nat.le_of_ble_eq_true rfl) ⟨by decide, by decide⟩ dX5_settles_80 ?_
  have hf80 := (tH_b ⟨(h1.2.2.1 (pA Y).toNat).2.1, h1.2.1⟩ : 6 ≤ tH (gW (pX Y)) (gK (pX Y) (pA Y).toNat) (gL (pX Y) (pA Y).toNat) ∧ tH (gW (pX Y)) (gK (pX Y) (pA Y).toNat) (gL (pX Y) (pA Y).toNat) ≤ 1450)
  refine xr_aload_n hM 0 dX5_settles_83 rfl rfl ?_
  refine xr_iconst hM dX5_settles_84 ?_
  refine xr_iald hM 0 2 rfl rfl (by omega) dX5_settles_85 ?_
  refine xr_topv (v' := pS Y) (hr.2.2.1) ?_
  refine xr_isub hM dX5_settles_86 ?_
  refine xr_istore_n (lv' := [(0, .ref bb), (1, iv (pA Y)), (2, iv ((tH (gW (pX Y)) (gK (pX Y) (pA Y).toNat) (gL (pX Y) (pA Y).toNat)) - (pS Y)))]) hM dX5_settles_87 rfl (by decide) rfl rfl ?_
  have em := htF_m (x := pX Y) (i := (pA Y).toNat) hme
  refine xr_re (lv' := [(0, .ref bb), (1, iv ((pA Y + 1) - 1)), (2, iv (htF (pX Y) (pA Y).toNat - pS Y))]) (ws' := [(bb, ia T.2.1 305 w)]) (st' := []) (by rw [Int.add_sub_cancel, em]) rfl rfl ?_
  exact lp_settles_88 bb N Y (fiF Y) hD hH hM hF _ w (pX Y, pA Y + 1, htF (pX Y) (pA Y).toNat) hr (FI_0 hD) (by show (N - (pA Y + 1)).toNat < (gN (pX Y) - pA Y).toNat; omega) rfl

theorem dsF_m {N hi : Int} {X : WnS} (h : DI N 0 hi X) : gM (pX (dsF X)) (pA (dsF X)).toNat = 1 := by
  have h0 : DI N 0 hi (ds0 X) := ⟨WFL_me h.1 (by have := h.2; omega), (meF_N _ _).trans h.2.1, h.2.2⟩
  have hm0 : gM (pX (ds0 X)) (pA (ds0 X)).toNat = 1 := by show gM (meF (pX X) (pA X).toNat) (pA X).toNat = 1; rw [meF_M h.1]; exact up_at
  exact (itL_inv (fun Y : WnS => DI N 0 hi Y ∧ gM (pX Y) (pA Y).toNat = 1) (c := dsC) (s := dsS) (fun Y hY hc => ⟨(DI_ds hY.1 hc).1, by show gM (meF (pX Y) (pA Y + 1).toNat) (pA Y + 1).toNat = 1; rw [meF_M hY.1.1]; exact up_at⟩) _ (ds0 X) ⟨h0, hm0⟩).2

theorem ct_X5_settles (l : Launch) (T : TT) (bb : Nat) (w : AR) (X : WnS) (hr : Rep w X) (hX : PW X) : CT2 l yX5_settles wsX5_settles rm_X5_settles T [.ref bb] ([(bb, ia T.2.1 305 w)]) none (fun w_ g_ => Rep w_ (seF X)) (fun w_ g_ => [(bb, ia T.2.1 305 w_)]) := by
  refine CT2.V (maxL := 3) (lv0 := [(0, .ref bb)]) hp_X5_settles rfl (Nat.le_of_ble_eq_true rfl) rfl (fun M hM hF => ?_)
  have hn := hX.1.1
  refine xr_aload_n hM 0 dX5_settles_0 rfl rfl ?_
  refine xr_iconst hM dX5_settles_1 ?_
  refine xr_iald hM 0 0 rfl rfl (by omega) dX5_settles_2 ?_
  refine xr_topv (v' := gN (pX X)) (hr.1) ?_
  refine xr_if_ne hM 7 dX5_settles_3 (by decide) (by omega) (fun c3 => ?_) (fun c3 => ?_)
  · have hD0 := hX.di c3
    have hA0 := hD0.2.2.1
    refine xr_aload_n hM 0 dX5_settles_7 rfl rfl ?_
    refine xr_aload_n hM 0 dX5_settles_8 rfl rfl ?_
    refine xr_iconst hM dX5_settles_9 ?_
    refine xr_iald hM 0 1 rfl rfl (by omega) dX5_settles_10 ?_
    refine xr_topv (v' := pA X) (hr.2.1) ?_
    refine xr_iconst hM dX5_settles_11 ?_
    refine xr_callSr (rest := [.ref bb]) (As := [iv (pA X), iv 2]) (st' := [iv (5 + 3 * (pA X) + 2), .ref bb]) hM (ct_X5_l M.2.1 T (pA X) 2) gX5_settles_X5_l rfl ⟨rfl, rfl⟩ hy_X5_l rfl ⟨by decide, by decide⟩ [] rfl rfl rfl rfl (Nat.le_of_ble_eq_true rfl) ⟨by decide, by decide⟩ dX5_settles_12 ?_
    refine xr_iconst hM dX5_settles_15 ?_
    refine xr_iast (ws' := [(bb, ia T.2.1 305 (va_up w (rI (pA X) 2) 1))]) hM 0 (rI (pA X) 2) rfl (by unfold rI; omega) (by omega) dX5_settles_16 rfl ?_
    have hN16 := meF_N (pX X) (pA X).toNat
    have hV16 := meF_W (pX X) (pA X).toNat
    have hwx16 : WFL (meF (pX X) (pA X).toNat) := WFL_me hX.1 (by omega)
    have hr16 : RG (va_up w (rI (pA X) 2) 1) (gN (meF (pX X) (pA X).toNat)) (pA X) (pS X) (pH X) (gW (meF (pX X) (pA X).toNat)) (meF (pX X) (pA X).toNat) := hr.m1t hX.1 (by omega)
    generalize va_up w (rI (pA X) 2) 1 = w16 at hr16 ⊢
    have hdd := DI_dsF hD0
    have h0 : DI (gN (pX X)) 0 400000 (ds0 X) := ⟨hwx16, hN16, hD0.2.2⟩
    have eF : seF X = enF (dsF X) (fiF (dsF X)) := if_neg c3
    rw [eF] at hF
    exact lp_settles_17 bb (gN (pX X)) (dsF X) hM (fun w hrw => ct_settles_74 bb (gN (pX X)) w (dsF X) hrw hdd.1 (dsF_m hD0) (by rw [dsF_H]; exact hX.2.1) hM hF) _ _ (ds0 X) hr16 h0 (by show gM (meF (pX X) (pA X).toNat) (pA X).toNat = 1; rw [meF_M hX.1]; exact up_at) (Nat.le_refl _) rfl
  · exact xr_vret (hF w w (by rw [seF, if_pos c3]; exact hr)) dX5_settles_6 rfl
