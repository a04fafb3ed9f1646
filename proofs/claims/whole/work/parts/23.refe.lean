theorem RHc_undo {ps : AR} {H : Nat → WnS} {sz nx : Int} (h : RHc ps H sz nx) (hsz : 0 < sz ∧ sz ≤ 5) (hnx : 0 ≤ nx ∧ nx < 5) : RHc ps H (sz - 1) ((nx + 4) % 5) := by
  intro k hk
  have e1 : (((nx + 4) % 5 + 5 - (sz - 1) + k) % 5).toNat = ((nx + 5 - sz + k) % 5).toNat := by omega
  rw [e1]
  exact h k (by omega)
theorem RHc_top {ps w : AR} {H : Nat → WnS} {sz nx : Int} (h : RHc ps H sz nx) (hH : ∀ k, gN (pX (H k)) ≤ 100) (hsz : 0 < sz ∧ sz ≤ 5) (hnx : 0 ≤ nx ∧ nx < 5) : Rep (va_cpy ps w (305 * (sz - 1)).toNat (0 : Int).toNat 305) (H ((nx + 4) % 5).toNat) := by
  have h1 := h (sz - 1).toNat (by omega)
  have e1 : ((nx + 5 - sz + ((sz - 1).toNat : Nat)) % 5).toNat = ((nx + 4) % 5).toNat := by omega
  rw [e1] at h1
  exact RG.cp h1 (fun j hj => by
    show va_cpy ps w _ 0 305 j = ps (305 * (sz - 1).toNat + j)
    rw [cp_in (by omega) (by omega)]
    congr 1
    omega) (hH _)

theorem ct_X5_change (l : Launch) (T : TT) (r : Nat → Nat) (sT lE aT fR wR : Int) (w bf tr ps te gs nb : AR) (H : Nat → WnS) (nx : Int) (X : WnS) (i ln : Int) (hr : Rep w X) (hX : WW X) (hp : RHc ps H sT nx) (hHW : ∀ k, WW (H k)) (hsz : 0 ≤ sT ∧ sT ≤ 5) (hnx : 0 ≤ nx ∧ nx < 5) (hi : -2147483648 ≤ i ∧ i < 2147483648) (hln : -2147483648 ≤ ln ∧ ln < 2147483648) : CT3 l yX5_change wsX5_change rm_X5_change T [.ref (r 0), iv i, iv ln] ([(r 0, ob 5 [.ref (r 1), .ref (r 2), .ref (r 3), .ref (r 4), iv sT, .ref (r 5), iv lE, .ref (r 6), iv aT, iv fR, iv wR, .ref (r 7)]), (r 1, ia T.2.1 305 w), (r 2, ia T.2.1 305 bf), (r 3, ia T.2.1 305 tr), (r 4, ia T.2.1 1525 ps), (r 5, ia T.2.1 100 te), (r 6, ia T.2.1 3 gs), (r 7, ia T.2.1 3 nb)]) (some (iv ((chR X i ln).1))) (fun v_ => Rep (v_ 1) (chR X i ln).2 ∧ RHc (v_ 4) (kpH (chR X i ln).1 H nx X) (kpZ (chR X i ln).1 sT) (kpN (chR X i ln).1 nx)) (fun v_ => [(r 0, ob 5 [.ref (r 1), .ref (r 2), .ref (r 3), .ref (r 4), iv (kpZ (chR X i ln).1 sT), .ref (r 5), iv lE, .ref (r 6), iv aT, iv fR, iv wR, .ref (r 7)]), (r 1, ia T.2.1 305 (v_ 1)), (r 2, ia T.2.1 305 (v_ 2)), (r 3, ia T.2.1 305 (v_ 3)), (r 4, ia T.2.1 1525 (v_ 4)), (r 5, ia T.2.1 100 te), (r 6, ia T.2.1 3 (v_ 6)), (r 7, ia T.2.1 3 nb)]) := by
  refine CT3.Z (maxL := 4) (lv0 := [(0, .ref (r 0)), (1, iv i), (2, iv ln)]) hp_X5_change rfl (Nat.le_of_ble_eq_true rfl) rfl rfl (fun M hM hF => ?_)
  have hn := hX.1.1.1
  have hwd := hX.1.1.2.1
  have hHH := hX.1.2.1
  have hSb := hX.1.2.2.2.2
  have hSs := hX.2
  have hAn := hX.an
  have hA0 := hX.1.2.2.1
  have hH : ∀ k, gN (pX (H k)) ≤ 100 := fun k => (hHW k).1.1.1.2
  refine xr_aload_n hM 0 dX5_change_0 rfl rfl ?_
  refine xr_iload_n hM 1 dX5_change_1 rfl rfl ?_
  refine xr_callVr (rest := []) (As := [iv i]) (st' := [iv (bi (0 ≤ i ∧ i ≤ gN (pX X) - 1))]) hM (ct_X5_isLine M.2.1 T r sT lE aT fR wR w X i hr hX.1.1 (by omega)) gX5_change_X5_isLine rfl ⟨rfl, rfl⟩ hy_X5_isLine rfl ⟨by decide, by decide⟩ [0, 1] rfl rfl 0 5 rfl rfl rfl rfl rfl (Nat.le_of_ble_eq_true rfl) ⟨by decide, by decide⟩ dX5_change_2 ?_
  refine xr_ifb_eq hM 19 dX5_change_5 (by decide) (fun c5 => ?_) (fun c5 => ?_)
  · refine xr_ldc hM (-100001) (List.mem_of_getElem? (i := 1) rfl) (by decide) dX5_change_19 ?_
    rw [show chR X i ln = (-100001, X) from if_pos (by omega)] at hF
    exact xr_iret (hF (fun k9 => match k9 with | 1 => w | 2 => bf | 3 => tr | 4 => ps | 6 => gs | _ => nb) ⟨hr, RHc_err hp (show ¬ (0 : Int) ≤ -100001 by decide)⟩) dX5_change_21 rfl (by rw [show kpZ ((-100001 : Int), X).1 sT = sT from if_neg (show ¬ (0 : Int) ≤ -100001 by decide)]; rfl)
  · refine xr_iload_n hM 2 dX5_change_8 rfl rfl ?_
    refine xr_iconst hM dX5_change_9 ?_
    refine xr_sipush hM dX5_change_10 (by decide) ?_
    refine xr_callSr (rest := []) (As := [iv ln, iv 0, iv 400]) (st' := [iv (bi (0 ≤ ln ∧ ln ≤ 400))]) hM (ct_X5_in M.2.1 T ln 0 400 (by omega)) gX5_change_X5_in rfl ⟨rfl, rfl⟩ hy_X5_in rfl ⟨by decide, by decide⟩ [] rfl rfl rfl rfl (Nat.le_of_ble_eq_true rfl) ⟨by decide, by decide⟩ dX5_change_13 ?_
    refine xr_ifb_ne hM 22 dX5_change_16 (by decide) (fun c16 => ?_) (fun c16 => ?_)
    · refine xr_aload_n hM 0 dX5_change_22 rfl rfl ?_
      refine xr_callV2 (ws' := fun w23 g23 => [(r 0, ob 5 [.ref (r 1), .ref (r 2), .ref (r 3), .ref (r 4), iv sT, .ref (r 5), iv lE, .ref (r 6), iv aT, iv fR, iv wR, .ref (r 7)]), (r 1, ia T.2.1 305 w), (r 2, ia T.2.1 305 g23), (r 3, ia T.2.1 305 tr), (r 4, ia T.2.1 1525 ps), (r 5, ia T.2.1 100 te), (r 6, ia T.2.1 3 gs), (r 7, ia T.2.1 3 nb)]) (rest := []) (As := []) (st' := []) hM (ct_X5_keeps M.2.1 T r sT lE aT fR wR w bf X hr hX.1.1) gX5_change_X5_keeps rfl ⟨rfl, rfl⟩ hy_X5_keeps rfl ⟨by decide, by decide⟩ [0, 1, 2] rfl rfl (fun _ _ => rfl) 0 5 rfl rfl rfl rfl rfl (Nat.le_of_ble_eq_true rfl) ⟨by decide, by decide⟩ (fun _ _ => rfl) dX5_change_23 (fun w23 g23 hP23 => ?_)
      refine xr_aload_n hM 0 dX5_change_26 rfl rfl ?_
      refine xr_get (C := RX5) (TT0 := TX5) (N := 12) hM 5 0 0 (fun _ h => List.mem_cons_of_mem _ (List.mem_append_right _ h)) rfl rfl (by decide) (List.mem_of_getElem? (i := 2) rfl) rfl rfl dX5_change_27 ?_
      refine xr_iload_n hM 1 dX5_change_30 rfl rfl ?_
      refine xr_iconst hM dX5_change_31 ?_
      refine xr_callSr (rest := [.ref (r 1)]) (As := [iv i, iv 1]) (st' := [iv (5 + 3 * i + 1), .ref (r 1)]) hM (ct_X5_l M.2.1 T i 1) gX5_change_X5_l rfl ⟨rfl, rfl⟩ hy_X5_l rfl ⟨by decide, by decide⟩ [] rfl rfl rfl rfl (Nat.le_of_ble_eq_true rfl) ⟨by decide, by decide⟩ dX5_change_32 ?_
      refine xr_iald hM 1 (rI i 1) rfl (by unfold rI; omega) (by omega) dX5_change_35 ?_
      refine xr_topv (v' := gL (pX X) i.toNat) (hr.l (by omega)) ?_
      refine xr_istore_n (lv' := [(0, .ref (r 0)), (1, iv i), (2, iv ln), (3, iv (gL (pX X) i.toNat))]) hM dX5_change_36 rfl (by decide) rfl rfl ?_
      refine xr_aload_n hM 0 dX5_change_37 rfl rfl ?_
      refine xr_get (C := RX5) (TT0 := TX5) (N := 12) hM 5 0 0 (fun _ h => List.mem_cons_of_mem _ (List.mem_append_right _ h)) rfl rfl (by decide) (List.mem_of_getElem? (i := 2) rfl) rfl rfl dX5_change_38 ?_
      refine xr_iload_n hM 1 dX5_change_41 rfl rfl ?_
      refine xr_iconst hM dX5_change_42 ?_
      refine xr_callSr (rest := [.ref (r 1)]) (As := [iv i, iv 1]) (st' := [iv (5 + 3 * i + 1), .ref (r 1)]) hM (ct_X5_l M.2.1 T i 1) gX5_change_X5_l rfl ⟨rfl, rfl⟩ hy_X5_l rfl ⟨by decide, by decide⟩ [] rfl rfl rfl rfl (Nat.le_of_ble_eq_true rfl) ⟨by decide, by decide⟩ dX5_change_43 ?_
      refine xr_iload_n hM 2 dX5_change_46 rfl rfl ?_
      refine xr_iast (ws' := [(r 0, ob 5 [.ref (r 1), .ref (r 2), .ref (r 3), .ref (r 4), iv sT, .ref (r 5), iv lE, .ref (r 6), iv aT, iv fR, iv wR, .ref (r 7)]), (r 1, ia T.2.1 305 (va_up w (rI i 1) ln)), (r 2, ia T.2.1 305 g23), (r 3, ia T.2.1 305 tr), (r 4, ia T.2.1 1525 ps), (r 5, ia T.2.1 100 te), (r 6, ia T.2.1 3 gs), (r 7, ia T.2.1 3 nb)]) hM 1 (rI i 1) rfl (by unfold rI; omega) (by omega) dX5_change_47 rfl ?_
      refine xr_aload_n hM 0 dX5_change_48 rfl rfl ?_
      refine xr_get (C := RX5) (TT0 := TX5) (N := 12) hM 5 0 0 (fun _ h => List.mem_cons_of_mem _ (List.mem_append_right _ h)) rfl rfl (by decide) (List.mem_of_getElem? (i := 2) rfl) rfl rfl dX5_change_49 ?_
      refine xr_iload_n hM 1 dX5_change_52 rfl rfl ?_
      refine xr_iconst hM dX5_change_53 ?_
      refine xr_callSr (rest := [.ref (r 1)]) (As := [iv i, iv 2]) (st' := [iv (5 + 3 * i + 2), .ref (r 1)]) hM (ct_X5_l M.2.1 T i 2) gX5_change_X5_l rfl ⟨rfl, rfl⟩ hy_X5_l rfl ⟨by decide, by decide⟩ [] rfl rfl rfl rfl (Nat.le_of_ble_eq_true rfl) ⟨by decide, by decide⟩ dX5_change_54 ?_
      refine xr_iconst hM dX5_change_57 ?_
      refine xr_iast (ws' := [(r 0, ob 5 [.ref (r 1), .ref (r 2), .ref (r 3), .ref (r 4), iv sT, .ref (r 5), iv lE, .ref (r 6), iv aT, iv fR, iv wR, .ref (r 7)]), (r 1, ia T.2.1 305 (va_up (va_up w (rI i 1) ln) (rI i 2) 0)), (r 2, ia T.2.1 305 g23), (r 3, ia T.2.1 305 tr), (r 4, ia T.2.1 1525 ps), (r 5, ia T.2.1 100 te), (r 6, ia T.2.1 3 gs), (r 7, ia T.2.1 3 nb)]) hM 1 (rI i 2) rfl (by unfold rI; omega) (by omega) dX5_change_58 rfl ?_
      refine xr_aload_n hM 0 dX5_change_59 rfl rfl ?_
      refine xr_get (C := RX5) (TT0 := TX5) (N := 12) hM 5 0 0 (fun _ h => List.mem_cons_of_mem _ (List.mem_append_right _ h)) rfl rfl (by decide) (List.mem_of_getElem? (i := 2) rfl) rfl rfl dX5_change_60 ?_
      have hr9 : RG (va_up (va_up w (rI i 1) ln) (rI i 2) 0) (gN (slF (pX X) i ln)) (pA X) (pS X) (pH X) (gW (slF (pX X) i ln)) (slF (pX X) i ln) := by rw [slF_N, slF_W]; exact RG.sl hr (by omega) ln
      generalize va_up (va_up w (rI i 1) ln) (rI i 2) 0 = w9 at hr9 ⊢
      have hPs : PW (slF (pX X) i ln, pH X, pA X, pS X) := PW_ch hX (by omega) (by omega)
      have hgl := (hX.1.1.2.2.1 i.toNat).2.1
      refine xr_callS2 (ws' := fun w63 g63 => [(r 0, ob 5 [.ref (r 1), .ref (r 2), .ref (r 3), .ref (r 4), iv sT, .ref (r 5), iv lE, .ref (r 6), iv aT, iv fR, iv wR, .ref (r 7)]), (r 1, ia T.2.1 305 w63), (r 2, ia T.2.1 305 g23), (r 3, ia T.2.1 305 tr), (r 4, ia T.2.1 1525 ps), (r 5, ia T.2.1 100 te), (r 6, ia T.2.1 3 gs), (r 7, ia T.2.1 3 nb)]) (rest := []) (As := [.ref (r 1)]) (st' := []) hM (ct_X5_settles M.2.1 T (r 1) w9 (slF (pX X) i ln, pH X, pA X, pS X) hr9 hPs) gX5_change_X5_settles rfl ⟨rfl, rfl⟩ hy_X5_settles rfl ⟨by decide, by decide⟩ [1] rfl rfl (fun _ _ => rfl) rfl rfl (Nat.le_of_ble_eq_true rfl) ⟨by decide, by decide⟩ (fun _ _ => rfl) dX5_change_63 (fun w63 g63 hP63 => ?_)
      have hf63 := (WW_se hPs).2
      have hf63_1 := seF_W (slF (pX X) i ln, pH X, pA X, pS X)
      have hf63_2 := seF_H (slF (pX X) i ln, pH X, pA X, pS X)
      have hw63 := (WW_se hPs).1.1.1
      have hw63_1 := (WW_se hPs).1
      refine xr_aload_n hM 0 dX5_change_66 rfl rfl ?_
      refine xr_iload_n hM 3 dX5_change_67 rfl rfl ?_
      refine xr_callV2 (ws' := fun w68 g68 => [(r 0, ob 5 [.ref (r 1), .ref (r 2), .ref (r 3), .ref (r 4), iv (kpZ (gL (pX X) i.toNat) sT), .ref (r 5), iv lE, .ref (r 6), iv aT, iv fR, iv wR, .ref (r 7)]), (r 1, ia T.2.1 305 w63), (r 2, ia T.2.1 305 g23), (r 3, ia T.2.1 305 tr), (r 4, ia T.2.1 1525 g68), (r 5, ia T.2.1 100 te), (r 6, ia T.2.1 3 gs), (r 7, ia T.2.1 3 nb)]) (rest := []) (As := [iv (gL (pX X) i.toNat)]) (st' := [iv (gL (pX X) i.toNat)]) hM (ct_X5_acted M.2.1 T r sT lE aT fR wR g23 ps H nx X (gL (pX X) i.toNat) hP23 (hp) (hX.1.1.1.2) (hH) (by omega) (hnx) (by omega)) gX5_change_X5_acted rfl ⟨rfl, rfl⟩ hy_X5_acted rfl ⟨by decide, by decide⟩ [0, 2, 4] rfl rfl (fun _ _ => rfl) 0 5 rfl rfl rfl rfl rfl (Nat.le_of_ble_eq_true rfl) ⟨by decide, by decide⟩ (fun _ _ => rfl) dX5_change_68 (fun w68 g68 hP68 => ?_)
      rw [show chR X i ln = (gL (pX X) i.toNat, seF (slF (pX X) i ln, pH X, pA X, pS X)) from if_neg (by omega)] at hF
      exact xr_iret (hF (fun k9 => match k9 with | 1 => w63 | 2 => g23 | 3 => tr | 4 => g68 | 6 => gs | _ => nb) ⟨hP63, hP68⟩) dX5_change_71 rfl rfl
    · refine xr_ldc hM (-100001) (List.mem_of_getElem? (i := 1) rfl) (by decide) dX5_change_19 ?_
      rw [show chR X i ln = (-100001, X) from if_pos (by omega)] at hF
      exact xr_iret (hF (fun k9 => match k9 with | 1 => w | 2 => bf | 3 => tr | 4 => ps | 6 => gs | _ => nb) ⟨hr, RHc_err hp (show ¬ (0 : Int) ≤ -100001 by decide)⟩) dX5_change_21 rfl (by rw [show kpZ ((-100001 : Int), X).1 sT = sT from if_neg (show ¬ (0 : Int) ≤ -100001 by decide)]; rfl)

theorem ct_X5_setHeight (l : Launch) (T : TT) (r : Nat → Nat) (sT lE aT fR wR : Int) (w bf tr ps te gs nb : AR) (H : Nat → WnS) (nx : Int) (X : WnS) (ht : Int) (hr : Rep w X) (hX : WW X) (hp : RHc ps H sT nx) (hHW : ∀ k, WW (H k)) (hsz : 0 ≤ sT ∧ sT ≤ 5) (hnx : 0 ≤ nx ∧ nx < 5) (hht : -2147483648 ≤ ht ∧ ht < 2147483648) : CT3 l yX5_setHeight wsX5_setHeight rm_X5_setHeight T [.ref (r 0), iv ht] ([(r 0, ob 5 [.ref (r 1), .ref (r 2), .ref (r 3), .ref (r 4), iv sT, .ref (r 5), iv lE, .ref (r 6), iv aT, iv fR, iv wR, .ref (r 7)]), (r 1, ia T.2.1 305 w), (r 2, ia T.2.1 305 bf), (r 3, ia T.2.1 305 tr), (r 4, ia T.2.1 1525 ps), (r 5, ia T.2.1 100 te), (r 6, ia T.2.1 3 gs), (r 7, ia T.2.1 3 nb)]) (some (iv ((shR X ht).1))) (fun v_ => Rep (v_ 1) (shR X ht).2 ∧ RHc (v_ 4) (kpH (shR X ht).1 H nx X) (kpZ (shR X ht).1 sT) (kpN (shR X ht).1 nx)) (fun v_ => [(r 0, ob 5 [.ref (r 1), .ref (r 2), .ref (r 3), .ref (r 4), iv (kpZ (shR X ht).1 sT), .ref (r 5), iv lE, .ref (r 6), iv aT, iv fR, iv wR, .ref (r 7)]), (r 1, ia T.2.1 305 (v_ 1)), (r 2, ia T.2.1 305 (v_ 2)), (r 3, ia T.2.1 305 (v_ 3)), (r 4, ia T.2.1 1525 (v_ 4)), (r 5, ia T.2.1 100 te), (r 6, ia T.2.1 3 (v_ 6)), (r 7, ia T.2.1 3 nb)]) := by
  refine CT3.Z (maxL := 3) (lv0 := [(0, .ref (r 0)), (1, iv ht)]) hp_X5_setHeight rfl (Nat.le_of_ble_eq_true rfl) rfl rfl (fun M hM hF => ?_)
  have hn := hX.1.1.1
  have hwd := hX.1.1.2.1
  have hHH := hX.1.2.1
  have hSb := hX.1.2.2.2.2
  have hSs := hX.2
  have hAn := hX.an
  have hA0 := hX.1.2.2.1
  have hH : ∀ k, gN (pX (H k)) ≤ 100 := fun k => (hHW k).1.1.1.2
  refine xr_iload_n hM 1 dX5_setHeight_0 rfl rfl ?_
  refine xr_bipush hM dX5_setHeight_1 (by decide) ?_
  refine xr_sipush hM dX5_setHeight_3 (by decide) ?_
  refine xr_callSr (rest := []) (As := [iv ht, iv 20, iv 600]) (st' := [iv (bi (20 ≤ ht ∧ ht ≤ 600))]) hM (ct_X5_in M.2.1 T ht 20 600 (by omega)) gX5_setHeight_X5_in rfl ⟨rfl, rfl⟩ hy_X5_in rfl ⟨by decide, by decide⟩ [] rfl rfl rfl rfl (Nat.le_of_ble_eq_true rfl) ⟨by decide, by decide⟩ dX5_setHeight_6 ?_
  refine xr_ifb_ne hM 15 dX5_setHeight_9 (by decide) (fun c9 => ?_) (fun c9 => ?_)
  · refine xr_aload_n hM 0 dX5_setHeight_15 rfl rfl ?_
    refine xr_callV2 (ws' := fun w16 g16 => [(r 0, ob 5 [.ref (r 1), .ref (r 2), .ref (r 3), .ref (r 4), iv sT, .ref (r 5), iv lE, .ref (r 6), iv aT, iv fR, iv wR, .ref (r 7)]), (r 1, ia T.2.1 305 w), (r 2, ia T.2.1 305 g16), (r 3, ia T.2.1 305 tr), (r 4, ia T.2.1 1525 ps), (r 5, ia T.2.1 100 te), (r 6, ia T.2.1 3 gs), (r 7, ia T.2.1 3 nb)]) (rest := []) (As := []) (st' := []) hM (ct_X5_keeps M.2.1 T r sT lE aT fR wR w bf X hr hX.1.1) gX5_setHeight_X5_keeps rfl ⟨rfl, rfl⟩ hy_X5_keeps rfl ⟨by decide, by decide⟩ [0, 1, 2] rfl rfl (fun _ _ => rfl) 0 5 rfl rfl rfl rfl rfl (Nat.le_of_ble_eq_true rfl) ⟨by decide, by decide⟩ (fun _ _ => rfl) dX5_setHeight_16 (fun w16 g16 hP16 => ?_)
    refine xr_aload_n hM 0 dX5_setHeight_19 rfl rfl ?_
    refine xr_get (C := RX5) (TT0 := TX5) (N := 12) hM 5 0 0 (fun _ h => List.mem_cons_of_mem _ (List.mem_append_right _ h)) rfl rfl (by decide) (List.mem_of_getElem? (i := 2) rfl) rfl rfl dX5_setHeight_20 ?_
    refine xr_iconst hM dX5_setHeight_23 ?_
    refine xr_iald hM 1 3 rfl rfl (by omega) dX5_setHeight_24 ?_
    refine xr_topv (v' := pH X) (hr.2.2.2.1) ?_
    refine xr_istore_n (lv' := [(0, .ref (r 0)), (1, iv ht), (2, iv (pH X))]) hM dX5_setHeight_25 rfl (by decide) rfl rfl ?_
    refine xr_aload_n hM 0 dX5_setHeight_26 rfl rfl ?_
    refine xr_get (C := RX5) (TT0 := TX5) (N := 12) hM 5 0 0 (fun _ h => List.mem_cons_of_mem _ (List.mem_append_right _ h)) rfl rfl (by decide) (List.mem_of_getElem? (i := 2) rfl) rfl rfl dX5_setHeight_27 ?_
    refine xr_iconst hM dX5_setHeight_30 ?_
    refine xr_iload_n hM 1 dX5_setHeight_31 rfl rfl ?_
    refine xr_iast (ws' := [(r 0, ob 5 [.ref (r 1), .ref (r 2), .ref (r 3), .ref (r 4), iv sT, .ref (r 5), iv lE, .ref (r 6), iv aT, iv fR, iv wR, .ref (r 7)]), (r 1, ia T.2.1 305 (va_up w 3 ht)), (r 2, ia T.2.1 305 g16), (r 3, ia T.2.1 305 tr), (r 4, ia T.2.1 1525 ps), (r 5, ia T.2.1 100 te), (r 6, ia T.2.1 3 gs), (r 7, ia T.2.1 3 nb)]) hM 1 3 rfl rfl (by omega) dX5_setHeight_32 rfl ?_
    have hr32 : RG (va_up w 3 ht) (gN (pX X)) (pA X) (pS X) ht (gW (pX X)) (pX X) := hr.s3 ht
    generalize va_up w 3 ht = w32 at hr32 ⊢
    refine xr_aload_n hM 0 dX5_setHeight_33 rfl rfl ?_
    refine xr_get (C := RX5) (TT0 := TX5) (N := 12) hM 5 0 0 (fun _ h => List.mem_cons_of_mem _ (List.mem_append_right _ h)) rfl rfl (by decide) (List.mem_of_getElem? (i := 2) rfl) rfl rfl dX5_setHeight_34 ?_
    have hPs : PW (pX X, ht, pA X, pS X) := PW_sh hX (by omega)
    refine xr_callS2 (ws' := fun w37 g37 => [(r 0, ob 5 [.ref (r 1), .ref (r 2), .ref (r 3), .ref (r 4), iv sT, .ref (r 5), iv lE, .ref (r 6), iv aT, iv fR, iv wR, .ref (r 7)]), (r 1, ia T.2.1 305 w37), (r 2, ia T.2.1 305 g16), (r 3, ia T.2.1 305 tr), (r 4, ia T.2.1 1525 ps), (r 5, ia T.2.1 100 te), (r 6, ia T.2.1 3 gs), (r 7, ia T.2.1 3 nb)]) (rest := []) (As := [.ref (r 1)]) (st' := []) hM (ct_X5_settles M.2.1 T (r 1) w32 (pX X, ht, pA X, pS X) hr32 hPs) gX5_setHeight_X5_settles rfl ⟨rfl, rfl⟩ hy_X5_settles rfl ⟨by decide, by decide⟩ [1] rfl rfl (fun _ _ => rfl) rfl rfl (Nat.le_of_ble_eq_true rfl) ⟨by decide, by decide⟩ (fun _ _ => rfl) dX5_setHeight_37 (fun w37 g37 hP37 => ?_)
    have hf37 := (WW_se hPs).2
    have hf37_1 := seF_W (pX X, ht, pA X, pS X)
    have hf37_2 := seF_H (pX X, ht, pA X, pS X)
    have hw37 := (WW_se hPs).1.1.1
    have hw37_1 := (WW_se hPs).1
    refine xr_aload_n hM 0 dX5_setHeight_40 rfl rfl ?_
    refine xr_iload_n hM 2 dX5_setHeight_41 rfl rfl ?_
    refine xr_callV2 (ws' := fun w42 g42 => [(r 0, ob 5 [.ref (r 1), .ref (r 2), .ref (r 3), .ref (r 4), iv (kpZ (pH X) sT), .ref (r 5), iv lE, .ref (r 6), iv aT, iv fR, iv wR, .ref (r 7)]), (r 1, ia T.2.1 305 w37), (r 2, ia T.2.1 305 g16), (r 3, ia T.2.1 305 tr), (r 4, ia T.2.1 1525 g42), (r 5, ia T.2.1 100 te), (r 6, ia T.2.1 3 gs), (r 7, ia T.2.1 3 nb)]) (rest := []) (As := [iv (pH X)]) (st' := [iv (pH X)]) hM (ct_X5_acted M.2.1 T r sT lE aT fR wR g16 ps H nx X (pH X) hP16 (hp) (hX.1.1.1.2) (hH) (by omega) (hnx) (by omega)) gX5_setHeight_X5_acted rfl ⟨rfl, rfl⟩ hy_X5_acted rfl ⟨by decide, by decide⟩ [0, 2, 4] rfl rfl (fun _ _ => rfl) 0 5 rfl rfl rfl rfl rfl (Nat.le_of_ble_eq_true rfl) ⟨by decide, by decide⟩ (fun _ _ => rfl) dX5_setHeight_42 (fun w42 g42 hP42 => ?_)
    rw [show shR X ht = (pH X, seF (pX X, ht, pA X, pS X)) from if_neg (by omega)] at hF
    exact xr_iret (hF (fun k9 => match k9 with | 1 => w37 | 2 => g16 | 3 => tr | 4 => g42 | 6 => gs | _ => nb) ⟨hP37, hP42⟩) dX5_setHeight_45 rfl rfl
  · refine xr_ldc hM (-100001) (List.mem_of_getElem? (i := 1) rfl) (by decide) dX5_setHeight_12 ?_
    rw [show shR X ht = (-100001, X) from if_pos (by omega)] at hF
    exact xr_iret (hF (fun k9 => match k9 with | 1 => w | 2 => bf | 3 => tr | 4 => ps | 6 => gs | _ => nb) ⟨hr, RHc_err hp (show ¬ (0 : Int) ≤ -100001 by decide)⟩) dX5_setHeight_14 rfl (by rw [show kpZ ((-100001 : Int), X).1 sT = sT from if_neg (show ¬ (0 : Int) ≤ -100001 by decide)]; rfl)

theorem lp_setWidth_33 {T : TT} {M : MB} (r : Nat → Nat) (sT lE aT fR wR : Int) (bf tr ps te gs nb : AR) (X : WnS) (wi : Int) (hX : WW X) (hM : FM T M cX5_setWidth RX5 4 wsX5_setWidth rm_X5_setWidth) (hK : ∀ u : AR, RG u (gN (pX X)) (pA X) (pS X) (pH X) wi (fgA (pX X) (gN (pX X)).toNat) → VV T M 4 [(0, .ref (r 0)), (1, iv wi), (2, iv (gW (pX X))), (3, iv (((gN (pX X)).toNat : Nat) : Int))] [(r 0, ob 5 [.ref (r 1), .ref (r 2), .ref (r 3), .ref (r 4), iv sT, .ref (r 5), iv lE, .ref (r 6), iv aT, iv fR, iv wR, .ref (r 7)]), (r 1, ia T.2.1 305 u), (r 2, ia T.2.1 305 bf), (r 3, ia T.2.1 305 tr), (r 4, ia T.2.1 1525 ps), (r 5, ia T.2.1 100 te), (r 6, ia T.2.1 3 gs), (r 7, ia T.2.1 3 nb)] 0 0 60 []) : ∀ (f b : Nat) (w : AR), b + f = (gN (pX X)).toNat → RG w (gN (pX X)) (pA X) (pS X) (pH X) wi (fgA (pX X) b) → VV T M 4 [(0, .ref (r 0)), (1, iv wi), (2, iv (gW (pX X))), (3, iv (b : Int))] [(r 0, ob 5 [.ref (r 1), .ref (r 2), .ref (r 3), .ref (r 4), iv sT, .ref (r 5), iv lE, .ref (r 6), iv aT, iv fR, iv wR, .ref (r 7)]), (r 1, ia T.2.1 305 w), (r 2, ia T.2.1 305 bf), (r 3, ia T.2.1 305 tr), (r 4, ia T.2.1 1525 ps), (r 5, ia T.2.1 100 te), (r 6, ia T.2.1 3 gs), (r 7, ia T.2.1 3 nb)] 0 0 33 [] := by
  intro f
  induction f with
  | zero =>
    intro b w h1 hr
    have hn := hX.1.1.1
    have hfn := fgA_N (pX X) b
    refine xr_iload_n hM 3 dX5_setWidth_33 rfl rfl ?_
    refine xr_aload_n hM 0 dX5_setWidth_34 rfl rfl ?_
    refine xr_get (C := RX5) (TT0 := TX5) (N := 12) hM 5 0 0 (fun _ h => List.mem_cons_of_mem _ (List.mem_append_right _ h)) rfl rfl (by decide) (List.mem_of_getElem? (i := 2) rfl) rfl rfl dX5_setWidth_35 ?_
    refine xr_iconst hM dX5_setWidth_38 ?_
    refine xr_iald hM 1 0 rfl rfl (by omega) dX5_setWidth_39 ?_
    refine xr_topv (v' := gN (pX X)) (hr.1) ?_
    refine xr_icmp_ge hM 60 dX5_setWidth_40 (by decide) (by omega) (fun c40 => ?_) (fun c40 => by exfalso; omega)
    obtain rfl : b = (gN (pX X)).toNat := by omega
    exact hK w hr
  | succ f ih =>
    intro b w h1 hr
    have hn := hX.1.1.1
    have hfn := fgA_N (pX X) b
    refine xr_iload_n hM 3 dX5_setWidth_33 rfl rfl ?_
    refine xr_aload_n hM 0 dX5_setWidth_34 rfl rfl ?_
    refine xr_get (C := RX5) (TT0 := TX5) (N := 12) hM 5 0 0 (fun _ h => List.mem_cons_of_mem _ (List.mem_append_right _ h)) rfl rfl (by decide) (List.mem_of_getElem? (i := 2) rfl) rfl rfl dX5_setWidth_35 ?_
    refine xr_iconst hM dX5_setWidth_38 ?_
    refine xr_iald hM 1 0 rfl rfl (by omega) dX5_setWidth_39 ?_
    refine xr_topv (v' := gN (pX X)) (hr.1) ?_
    refine xr_icmp_ge hM 60 dX5_setWidth_40 (by decide) (by omega) (fun c40 => by exfalso; omega) (fun c40 => ?_)
    refine xr_aload_n hM 0 dX5_setWidth_43 rfl rfl ?_
    refine xr_get (C := RX5) (TT0 := TX5) (N := 12) hM 5 0 0 (fun _ h => List.mem_cons_of_mem _ (List.mem_append_right _ h)) rfl rfl (by decide) (List.mem_of_getElem? (i := 2) rfl) rfl rfl dX5_setWidth_44 ?_
    refine xr_iload_n hM 3 dX5_setWidth_47 rfl rfl ?_
    refine xr_iconst hM dX5_setWidth_48 ?_
    refine xr_callSr (rest := [.ref (r 1)]) (As := [iv (b : Int), iv 2]) (st' := [iv (5 + 3 * (b : Int) + 2), .ref (r 1)]) hM (ct_X5_l M.2.1 T (b : Int) 2) gX5_setWidth_X5_l rfl ⟨rfl, rfl⟩ hy_X5_l rfl ⟨by decide, by decide⟩ [] rfl rfl rfl rfl (Nat.le_of_ble_eq_true rfl) ⟨by decide, by decide⟩ dX5_setWidth_49 ?_
    refine xr_iconst hM dX5_setWidth_52 ?_
    refine xr_iast (ws' := [(r 0, ob 5 [.ref (r 1), .ref (r 2), .ref (r 3), .ref (r 4), iv sT, .ref (r 5), iv lE, .ref (r 6), iv aT, iv fR, iv wR, .ref (r 7)]), (r 1, ia T.2.1 305 (va_up w (rI (b : Int) 2) 0)), (r 2, ia T.2.1 305 bf), (r 3, ia T.2.1 305 tr), (r 4, ia T.2.1 1525 ps), (r 5, ia T.2.1 100 te), (r 6, ia T.2.1 3 gs), (r 7, ia T.2.1 3 nb)]) hM 1 (rI (b : Int) 2) rfl (by unfold rI; omega) (by omega) dX5_setWidth_53 rfl ?_
    have hN53 := fgF_N (fgA (pX X) b) (b : Int).toNat
    have hV53 := fgF_W (fgA (pX X) b) (b : Int).toNat
    have hr53 : RG (va_up w (rI (b : Int) 2) 0) (gN (pX X)) (pA X) (pS X) (pH X) wi (fgF (fgA (pX X) b) (b : Int).toNat) := hr.m0 (by omega)
    generalize va_up w (rI (b : Int) 2) 0 = w53 at hr53 ⊢
    refine xr_iinc (lv' := [(0, .ref (r 0)), (1, iv wi), (2, iv (gW (pX X))), (3, iv ((b : Int) + 1))]) hM 3 dX5_setWidth_54 rfl (by decide) rfl rfl ?_
    refine xr_goto hM 33 dX5_setWidth_57 (by decide) ?_
    exact ih (b + 1) _ (by omega) hr53

theorem ct_X5_setWidth (l : Launch) (T : TT) (r : Nat → Nat) (sT lE aT fR wR : Int) (w bf tr ps te gs nb : AR) (H : Nat → WnS) (nx : Int) (X : WnS) (wi : Int) (hr : Rep w X) (hX : WW X) (hp : RHc ps H sT nx) (hHW : ∀ k, WW (H k)) (hsz : 0 ≤ sT ∧ sT ≤ 5) (hnx : 0 ≤ nx ∧ nx < 5) (hwi : -2147483648 ≤ wi ∧ wi < 2147483648) : CT3 l yX5_setWidth wsX5_setWidth rm_X5_setWidth T [.ref (r 0), iv wi] ([(r 0, ob 5 [.ref (r 1), .ref (r 2), .ref (r 3), .ref (r 4), iv sT, .ref (r 5), iv lE, .ref (r 6), iv aT, iv fR, iv wR, .ref (r 7)]), (r 1, ia T.2.1 305 w), (r 2, ia T.2.1 305 bf), (r 3, ia T.2.1 305 tr), (r 4, ia T.2.1 1525 ps), (r 5, ia T.2.1 100 te), (r 6, ia T.2.1 3 gs), (r 7, ia T.2.1 3 nb)]) (some (iv ((swR X wi).1))) (fun v_ => Rep (v_ 1) (swR X wi).2 ∧ RHc (v_ 4) (kpH (swR X wi).1 H nx X) (kpZ (swR X wi).1 sT) (kpN (swR X wi).1 nx)) (fun v_ => [(r 0, ob 5 [.ref (r 1), .ref (r 2), .ref (r 3), .ref (r 4), iv (kpZ (swR X wi).1 sT), .ref (r 5), iv lE, .ref (r 6), iv aT, iv fR, iv wR, .ref (r 7)]), (r 1, ia T.2.1 305 (v_ 1)), (r 2, ia T.2.1 305 (v_ 2)), (r 3, ia T.2.1 305 (v_ 3)), (r 4, ia T.2.1 1525 (v_ 4)), (r 5, ia T.2.1 100 te), (r 6, ia T.2.1 3 (v_ 6)), (r 7, ia T.2.1 3 nb)]) := by
  refine CT3.Z (maxL := 4) (lv0 := [(0, .ref (r 0)), (1, iv wi)]) hp_X5_setWidth rfl (Nat.le_of_ble_eq_true rfl) rfl rfl (fun M hM hF => ?_)
  have hn := hX.1.1.1
  have hwd := hX.1.1.2.1
  have hHH := hX.1.2.1
  have hSb := hX.1.2.2.2.2
  have hSs := hX.2
  have hAn := hX.an
  have hA0 := hX.1.2.2.1
  have hH : ∀ k, gN (pX (H k)) ≤ 100 := fun k => (hHW k).1.1.1.2
  refine xr_iload_n hM 1 dX5_setWidth_0 rfl rfl ?_
  refine xr_iconst hM dX5_setWidth_1 ?_
  refine xr_bipush hM dX5_setWidth_2 (by decide) ?_
  refine xr_callSr (rest := []) (As := [iv wi, iv 5, iv 80]) (st' := [iv (bi (5 ≤ wi ∧ wi ≤ 80))]) hM (ct_X5_in M.2.1 T wi 5 80 (by omega)) gX5_setWidth_X5_in rfl ⟨rfl, rfl⟩ hy_X5_in rfl ⟨by decide, by decide⟩ [] rfl rfl rfl rfl (Nat.le_of_ble_eq_true rfl) ⟨by decide, by decide⟩ dX5_setWidth_4 ?_
  refine xr_ifb_ne hM 13 dX5_setWidth_7 (by decide) (fun c7 => ?_) (fun c7 => ?_)
  · refine xr_aload_n hM 0 dX5_setWidth_13 rfl rfl ?_
    refine xr_callV2 (ws' := fun w14 g14 => [(r 0, ob 5 [.ref (r 1), .ref (r 2), .ref (r 3), .ref (r 4), iv sT, .ref (r 5), iv lE, .ref (r 6), iv aT, iv fR, iv wR, .ref (r 7)]), (r 1, ia T.2.1 305 w), (r 2, ia T.2.1 305 g14), (r 3, ia T.2.1 305 tr), (r 4, ia T.2.1 1525 ps), (r 5, ia T.2.1 100 te), (r 6, ia T.2.1 3 gs), (r 7, ia T.2.1 3 nb)]) (rest := []) (As := []) (st' := []) hM (ct_X5_keeps M.2.1 T r sT lE aT fR wR w bf X hr hX.1.1) gX5_setWidth_X5_keeps rfl ⟨rfl, rfl⟩ hy_X5_keeps rfl ⟨by decide, by decide⟩ [0, 1, 2] rfl rfl (fun _ _ => rfl) 0 5 rfl rfl rfl rfl rfl (Nat.le_of_ble_eq_true rfl) ⟨by decide, by decide⟩ (fun _ _ => rfl) dX5_setWidth_14 (fun w14 g14 hP14 => ?_)
    refine xr_aload_n hM 0 dX5_setWidth_17 rfl rfl ?_
    refine xr_get (C := RX5) (TT0 := TX5) (N := 12) hM 5 0 0 (fun _ h => List.mem_cons_of_mem _ (List.mem_append_right _ h)) rfl rfl (by decide) (List.mem_of_getElem? (i := 2) rfl) rfl rfl dX5_setWidth_18 ?_
    refine xr_iconst hM dX5_setWidth_21 ?_
    refine xr_iald hM 1 4 rfl rfl (by omega) dX5_setWidth_22 ?_
    refine xr_topv (v' := gW (pX X)) (hr.2.2.2.2.1) ?_
    refine xr_istore_n (lv' := [(0, .ref (r 0)), (1, iv wi), (2, iv (gW (pX X)))]) hM dX5_setWidth_23 rfl (by decide) rfl rfl ?_
    refine xr_aload_n hM 0 dX5_setWidth_24 rfl rfl ?_
    refine xr_get (C := RX5) (TT0 := TX5) (N := 12) hM 5 0 0 (fun _ h => List.mem_cons_of_mem _ (List.mem_append_right _ h)) rfl rfl (by decide) (List.mem_of_getElem? (i := 2) rfl) rfl rfl dX5_setWidth_25 ?_
    refine xr_iconst hM dX5_setWidth_28 ?_
    refine xr_iload_n hM 1 dX5_setWidth_29 rfl rfl ?_
    refine xr_iast (ws' := [(r 0, ob 5 [.ref (r 1), .ref (r 2), .ref (r 3), .ref (r 4), iv sT, .ref (r 5), iv lE, .ref (r 6), iv aT, iv fR, iv wR, .ref (r 7)]), (r 1, ia T.2.1 305 (va_up w 4 wi)), (r 2, ia T.2.1 305 g14), (r 3, ia T.2.1 305 tr), (r 4, ia T.2.1 1525 ps), (r 5, ia T.2.1 100 te), (r 6, ia T.2.1 3 gs), (r 7, ia T.2.1 3 nb)]) hM 1 4 rfl rfl (by omega) dX5_setWidth_30 rfl ?_
    have hr30 : RG (va_up w 4 wi) (gN (pX X)) (pA X) (pS X) (pH X) wi (pX X) := hr.s4 wi
    generalize va_up w 4 wi = w30 at hr30 ⊢
    refine xr_iconst hM dX5_setWidth_31 ?_
    refine xr_istore_n (lv' := [(0, .ref (r 0)), (1, iv wi), (2, iv (gW (pX X))), (3, iv 0)]) hM dX5_setWidth_32 rfl (by decide) rfl rfl ?_
    refine lp_setWidth_33 r sT lE aT fR wR g14 tr ps te gs nb X wi hX hM (fun u hu => ?_) (gN (pX X)).toNat 0 w30 (by omega) hr30
    have hr9 : RG u (gN (faF (pX X) wi)) (pA X) (pS X) (pH X) (gW (faF (pX X) wi)) (faF (pX X) wi) := by rw [show gN (faF (pX X) wi) = gN (pX X) from fgA_N _ _]; exact hu
    have hPs : PW (faF (pX X) wi, pH X, pA X, pS X) := PW_sw hX (by omega)
    refine xr_aload_n hM 0 dX5_setWidth_60 rfl rfl ?_
    refine xr_get (C := RX5) (TT0 := TX5) (N := 12) hM 5 0 0 (fun _ h => List.mem_cons_of_mem _ (List.mem_append_right _ h)) rfl rfl (by decide) (List.mem_of_getElem? (i := 2) rfl) rfl rfl dX5_setWidth_61 ?_
    refine xr_callS2 (ws' := fun w64 g64 => [(r 0, ob 5 [.ref (r 1), .ref (r 2), .ref (r 3), .ref (r 4), iv sT, .ref (r 5), iv lE, .ref (r 6), iv aT, iv fR, iv wR, .ref (r 7)]), (r 1, ia T.2.1 305 w64), (r 2, ia T.2.1 305 g14), (r 3, ia T.2.1 305 tr), (r 4, ia T.2.1 1525 ps), (r 5, ia T.2.1 100 te), (r 6, ia T.2.1 3 gs), (r 7, ia T.2.1 3 nb)]) (rest := []) (As := [.ref (r 1)]) (st' := []) hM (ct_X5_settles M.2.1 T (r 1) u (faF (pX X) wi, pH X, pA X, pS X) hr9 hPs) gX5_setWidth_X5_settles rfl ⟨rfl, rfl⟩ hy_X5_settles rfl ⟨by decide, by decide⟩ [1] rfl rfl (fun _ _ => rfl) rfl rfl (Nat.le_of_ble_eq_true rfl) ⟨by decide, by decide⟩ (fun _ _ => rfl) dX5_setWidth_64 (fun w64 g64 hP64 => ?_)
    have hf64 := (WW_se hPs).2
    have hf64_1 := seF_W (faF (pX X) wi, pH X, pA X, pS X)
    have hf64_2 := seF_H (faF (pX X) wi, pH X, pA X, pS X)
    have hw64 := (WW_se hPs).1.1.1
    have hw64_1 := (WW_se hPs).1
    refine xr_aload_n hM 0 dX5_setWidth_67 rfl rfl ?_
    refine xr_iload_n hM 2 dX5_setWidth_68 rfl rfl ?_
    refine xr_callV2 (ws' := fun w69 g69 => [(r 0, ob 5 [.ref (r 1), .ref (r 2), .ref (r 3), .ref (r 4), iv (kpZ (gW (pX X)) sT), .ref (r 5), iv lE, .ref (r 6), iv aT, iv fR, iv wR, .ref (r 7)]), (r 1, ia T.2.1 305 w64), (r 2, ia T.2.1 305 g14), (r 3, ia T.2.1 305 tr), (r 4, ia T.2.1 1525 g69), (r 5, ia T.2.1 100 te), (r 6, ia T.2.1 3 gs), (r 7, ia T.2.1 3 nb)]) (rest := []) (As := [iv (gW (pX X))]) (st' := [iv (gW (pX X))]) hM (ct_X5_acted M.2.1 T r sT lE aT fR wR g14 ps H nx X (gW (pX X)) hP14 (hp) (hX.1.1.1.2) (hH) (by omega) (hnx) (by omega)) gX5_setWidth_X5_acted rfl ⟨rfl, rfl⟩ hy_X5_acted rfl ⟨by decide, by decide⟩ [0, 2, 4] rfl rfl (fun _ _ => rfl) 0 5 rfl rfl rfl rfl rfl (Nat.le_of_ble_eq_true rfl) ⟨by decide, by decide⟩ (fun _ _ => rfl) dX5_setWidth_69 (fun w69 g69 hP69 => ?_)
    rw [show swR X wi = (gW (pX X), seF (faF (pX X) wi, pH X, pA X, pS X)) from if_neg (by omega)] at hF
    exact xr_iret (hF (fun k9 => match k9 with | 1 => w64 | 2 => g14 | 3 => tr | 4 => g69 | 6 => gs | _ => nb) ⟨hP64, hP69⟩) dX5_setWidth_72 rfl rfl
  · refine xr_ldc hM (-100001) (List.mem_of_getElem? (i := 1) rfl) (by decide) dX5_setWidth_10 ?_
    rw [show swR X wi = (-100001, X) from if_pos (by omega)] at hF
    exact xr_iret (hF (fun k9 => match k9 with | 1 => w | 2 => bf | 3 => tr | 4 => ps | 6 => gs | _ => nb) ⟨hr, RHc_err hp (show ¬ (0 : Int) ≤ -100001 by decide)⟩) dX5_setWidth_12 rfl (by rw [show kpZ ((-100001 : Int), X).1 sT = sT from if_neg (show ¬ (0 : Int) ≤ -100001 by decide)]; rfl)

theorem ct_X5_undo (l : Launch) (T : TT) (r : Nat → Nat) (sT lE aT fR wR : Int) (w bf tr ps te gs nb : AR) (H : Nat → WnS) (nx : Int) (X : WnS)  (hr : Rep w X) (hX : WW X) (hp : RHc ps H sT nx) (hHW : ∀ k, WW (H k)) (hsz : 0 ≤ sT ∧ sT ≤ 5) (hnx : 0 ≤ nx ∧ nx < 5)  : CT3 l yX5_undo wsX5_undo rm_X5_undo T [.ref (r 0)] ([(r 0, ob 5 [.ref (r 1), .ref (r 2), .ref (r 3), .ref (r 4), iv sT, .ref (r 5), iv lE, .ref (r 6), iv aT, iv fR, iv wR, .ref (r 7)]), (r 1, ia T.2.1 305 w), (r 2, ia T.2.1 305 bf), (r 3, ia T.2.1 305 tr), (r 4, ia T.2.1 1525 ps), (r 5, ia T.2.1 100 te), (r 6, ia T.2.1 3 gs), (r 7, ia T.2.1 3 nb)]) (some (iv (if sT = 0 then -100002 else sT - 1))) (fun v_ => Rep (v_ 1) (if sT = 0 then X else H ((nx + 4) % 5).toNat) ∧ RHc (v_ 4) H (if sT = 0 then sT else sT - 1) (if sT = 0 then nx else (nx + 4) % 5)) (fun v_ => [(r 0, ob 5 [.ref (r 1), .ref (r 2), .ref (r 3), .ref (r 4), iv (if sT = 0 then sT else sT - 1), .ref (r 5), iv lE, .ref (r 6), iv aT, iv fR, iv wR, .ref (r 7)]), (r 1, ia T.2.1 305 (v_ 1)), (r 2, ia T.2.1 305 (v_ 2)), (r 3, ia T.2.1 305 (v_ 3)), (r 4, ia T.2.1 1525 (v_ 4)), (r 5, ia T.2.1 100 te), (r 6, ia T.2.1 3 (v_ 6)), (r 7, ia T.2.1 3 nb)]) := by
  refine CT3.Z (maxL := 1) (lv0 := [(0, .ref (r 0))]) hp_X5_undo rfl (Nat.le_of_ble_eq_true rfl) rfl rfl (fun M hM hF => ?_)
  have hn := hX.1.1.1
  have hwd := hX.1.1.2.1
  have hHH := hX.1.2.1
  have hSb := hX.1.2.2.2.2
  have hSs := hX.2
  have hAn := hX.an
  have hA0 := hX.1.2.2.1
  have hH : ∀ k, gN (pX (H k)) ≤ 100 := fun k => (hHW k).1.1.1.2
  refine xr_aload_n hM 0 dX5_undo_0 rfl rfl ?_
  refine xr_get (C := RX5) (TT0 := TX5) (N := 12) hM 5 0 4 (fun _ h => List.mem_cons_of_mem _ (List.mem_append_right _ h)) rfl rfl (by decide) (List.mem_of_getElem? (i := 1) rfl) rfl rfl dX5_undo_1 ?_
  refine xr_if_ne hM 10 dX5_undo_4 (by decide) (by omega) (fun c4 => ?_) (fun c4 => ?_)
  · refine xr_aload_n hM 0 dX5_undo_10 rfl rfl ?_
    refine xr_dup hM dX5_undo_11 rfl ?_
    refine xr_get (C := RX5) (TT0 := TX5) (N := 12) hM 5 0 4 (fun _ h => List.mem_cons_of_mem _ (List.mem_append_right _ h)) rfl rfl (by decide) (List.mem_of_getElem? (i := 1) rfl) rfl rfl dX5_undo_12 ?_
    refine xr_iconst hM dX5_undo_15 ?_
    refine xr_isub hM dX5_undo_16 ?_
    refine xr_put (ws' := [(r 0, ob 5 [.ref (r 1), .ref (r 2), .ref (r 3), .ref (r 4), iv (sT - 1), .ref (r 5), iv lE, .ref (r 6), iv aT, iv fR, iv wR, .ref (r 7)]), (r 1, ia T.2.1 305 w), (r 2, ia T.2.1 305 bf), (r 3, ia T.2.1 305 tr), (r 4, ia T.2.1 1525 ps), (r 5, ia T.2.1 100 te), (r 6, ia T.2.1 3 gs), (r 7, ia T.2.1 3 nb)]) (C := RX5) (TT0 := TX5) (N := 12) hM 5 0 4 (fun _ h => List.mem_cons_of_mem _ (List.mem_append_right _ h)) tyX5 tyX5_ok nmX5 rfl rfl (by decide) (List.mem_of_getElem? (i := 1) rfl) rfl rfl rfl (Nat.le_of_ble_eq_true rfl) rfl dX5_undo_17 ?_
    refine xr_aload_n hM 0 dX5_undo_20 rfl rfl ?_
    refine xr_get (C := RX5) (TT0 := TX5) (N := 12) hM 5 0 3 (fun _ h => List.mem_cons_of_mem _ (List.mem_append_right _ h)) rfl rfl (by decide) (List.mem_of_getElem? (i := 3) rfl) rfl rfl dX5_undo_21 ?_
    refine xr_sipush hM dX5_undo_24 (by decide) ?_
    refine xr_aload_n hM 0 dX5_undo_27 rfl rfl ?_
    refine xr_get (C := RX5) (TT0 := TX5) (N := 12) hM 5 0 4 (fun _ h => List.mem_cons_of_mem _ (List.mem_append_right _ h)) rfl rfl (by decide) (List.mem_of_getElem? (i := 1) rfl) rfl rfl dX5_undo_28 ?_
    refine xr_imul hM dX5_undo_31 ?_
    refine xr_aload_n hM 0 dX5_undo_32 rfl rfl ?_
    refine xr_get (C := RX5) (TT0 := TX5) (N := 12) hM 5 0 0 (fun _ h => List.mem_cons_of_mem _ (List.mem_append_right _ h)) rfl rfl (by decide) (List.mem_of_getElem? (i := 4) rfl) rfl rfl dX5_undo_33 ?_
    refine xr_iconst hM dX5_undo_36 ?_
    refine xr_callS (ws' := [(r 0, ob 5 [.ref (r 1), .ref (r 2), .ref (r 3), .ref (r 4), iv (sT - 1), .ref (r 5), iv lE, .ref (r 6), iv aT, iv fR, iv wR, .ref (r 7)]), (r 1, ia T.2.1 305 (va_cpy ps w (305 * (sT - 1)).toNat 0 305)), (r 2, ia T.2.1 305 bf), (r 3, ia T.2.1 305 tr), (r 4, ia T.2.1 1525 ps), (r 5, ia T.2.1 100 te), (r 6, ia T.2.1 3 gs), (r 7, ia T.2.1 3 nb)]) (rest := []) (As := [.ref (r 4), iv (305 * (sT - 1)), .ref (r 1), iv 0]) (st' := []) hM (ct_X5_copies M.2.1 T (r 4) 1525 ps (305 * (sT - 1)) (r 1) 305 w 0 (by omega)) gX5_undo_X5_copies rfl ⟨rfl, rfl⟩ hy_X5_copies rfl ⟨by decide, by decide⟩ [4, 1] rfl rfl rfl rfl rfl (Nat.le_of_ble_eq_true rfl) ⟨by decide, by decide⟩ rfl dX5_undo_37 ?_
    refine xr_aload_n hM 0 dX5_undo_40 rfl rfl ?_
    refine xr_get (C := RX5) (TT0 := TX5) (N := 12) hM 5 0 4 (fun _ h => List.mem_cons_of_mem _ (List.mem_append_right _ h)) rfl rfl (by decide) (List.mem_of_getElem? (i := 1) rfl) rfl rfl dX5_undo_41 ?_
    rw [if_neg c4, if_neg c4, if_neg c4, if_neg c4] at hF
    exact xr_iret (hF (fun k9 => match k9 with | 1 => va_cpy ps w (305 * (sT - 1)).toNat 0 305 | 2 => bf | 3 => tr | 4 => ps | 6 => gs | _ => nb) ⟨RHc_top hp hH (by omega) hnx, RHc_undo hp (by omega) hnx⟩) dX5_undo_44 rfl rfl
  · refine xr_ldc hM (-100002) (List.mem_of_getElem? (i := 2) rfl) (by decide) dX5_undo_7 ?_
    rw [if_pos c4, if_pos c4, if_pos c4, if_pos c4] at hF
    exact xr_iret (hF (fun k9 => match k9 with | 1 => w | 2 => bf | 3 => tr | 4 => ps | 6 => gs | _ => nb) ⟨hr, hp⟩) dX5_undo_9 rfl rfl

theorem ct_X5_append (l : Launch) (T : TT) (r : Nat → Nat) (sT lE aT fR wR : Int) (te : AR) (v : Int) (hlE : 0 ≤ lE ∧ lE ≤ 100) (hv : -2147483648 ≤ v ∧ v < 2147483648) : CT l yX5_append wsX5_append rm_X5_append T [.ref (r 0), iv v] ([(r 0, ob 5 [.ref (r 1), .ref (r 2), .ref (r 3), .ref (r 4), iv sT, .ref (r 5), iv lE, .ref (r 6), iv aT, iv fR, iv wR, .ref (r 7)]), (r 5, ia T.2.1 100 te)]) (some (iv (if ¬ (1 ≤ v ∧ v ≤ 255) then -100001 else if 100 ≤ lE then -100003 else lE + 1))) ([(r 0, ob 5 [.ref (r 1), .ref (r 2), .ref (r 3), .ref (r 4), iv sT, .ref (r 5), iv (if ¬ (1 ≤ v ∧ v ≤ 255) then lE else if 100 ≤ lE then lE else lE + 1), .ref (r 6), iv aT, iv fR, iv wR, .ref (r 7)]), (r 5, ia T.2.1 100 (if ¬ (1 ≤ v ∧ v ≤ 255) then te else if 100 ≤ lE then te else va_up te lE.toNat v))]) := by
  refine CT.Z (maxL := 2) (lv0 := [(0, .ref (r 0)), (1, iv v)]) hp_X5_append rfl (Nat.le_of_ble_eq_true rfl) rfl rfl (fun M hM hF => ?_)
  refine xr_iload_n hM 1 dX5_append_0 rfl rfl ?_
  refine xr_iconst hM dX5_append_1 ?_
  refine xr_sipush hM dX5_append_2 (by decide) ?_
  refine xr_callSr (rest := []) (As := [iv v, iv 1, iv 255]) (st' := [iv (bi (1 ≤ v ∧ v ≤ 255))]) hM (ct_X5_in M.2.1 T v 1 255 (by omega)) gX5_append_X5_in rfl ⟨rfl, rfl⟩ hy_X5_in rfl ⟨by decide, by decide⟩ [] rfl rfl rfl rfl (Nat.le_of_ble_eq_true rfl) ⟨by decide, by decide⟩ dX5_append_5 ?_
  refine xr_ifb_ne hM 14 dX5_append_8 (by decide) (fun c8 => ?_) (fun c8 => ?_)
  · refine xr_aload_n hM 0 dX5_append_14 rfl rfl ?_
    refine xr_get (C := RX5) (TT0 := TX5) (N := 12) hM 5 0 6 (fun _ h => List.mem_cons_of_mem _ (List.mem_append_right _ h)) rfl rfl (by decide) (List.mem_of_getElem? (i := 2) rfl) rfl rfl dX5_append_15 ?_
    refine xr_bipush hM dX5_append_18 (by decide) ?_
    refine xr_icmp_ne hM 26 dX5_append_20 (by decide) (by omega) (fun c20 => ?_) (fun c20 => ?_)
    · refine xr_aload_n hM 0 dX5_append_26 rfl rfl ?_
      refine xr_get (C := RX5) (TT0 := TX5) (N := 12) hM 5 0 5 (fun _ h => List.mem_cons_of_mem _ (List.mem_append_right _ h)) rfl rfl (by decide) (List.mem_of_getElem? (i := 4) rfl) rfl rfl dX5_append_27 ?_
      refine xr_aload_n hM 0 dX5_append_30 rfl rfl ?_
      refine xr_get (C := RX5) (TT0 := TX5) (N := 12) hM 5 0 6 (fun _ h => List.mem_cons_of_mem _ (List.mem_append_right _ h)) rfl rfl (by decide) (List.mem_of_getElem? (i := 2) rfl) rfl rfl dX5_append_31 ?_
      refine xr_iload_n hM 1 dX5_append_34 rfl rfl ?_
      refine xr_iast (ws' := [(r 0, ob 5 [.ref (r 1), .ref (r 2), .ref (r 3), .ref (r 4), iv sT, .ref (r 5), iv lE, .ref (r 6), iv aT, iv fR, iv wR, .ref (r 7)]), (r 5, ia T.2.1 100 (va_up te lE.toNat v))]) hM 1 lE.toNat rfl rfl (by omega) dX5_append_35 rfl ?_
      refine xr_aload_n hM 0 dX5_append_36 rfl rfl ?_
      refine xr_dup hM dX5_append_37 rfl ?_
      refine xr_get (C := RX5) (TT0 := TX5) (N := 12) hM 5 0 6 (fun _ h => List.mem_cons_of_mem _ (List.mem_append_right _ h)) rfl rfl (by decide) (List.mem_of_getElem? (i := 2) rfl) rfl rfl dX5_append_38 ?_
      refine xr_iconst hM dX5_append_41 ?_
      refine xr_iadd hM dX5_append_42 ?_
      refine xr_put (ws' := [(r 0, ob 5 [.ref (r 1), .ref (r 2), .ref (r 3), .ref (r 4), iv sT, .ref (r 5), iv (lE + 1), .ref (r 6), iv aT, iv fR, iv wR, .ref (r 7)]), (r 5, ia T.2.1 100 (va_up te lE.toNat v))]) (C := RX5) (TT0 := TX5) (N := 12) hM 5 0 6 (fun _ h => List.mem_cons_of_mem _ (List.mem_append_right _ h)) tyX5 tyX5_ok nmX5 rfl rfl (by decide) (List.mem_of_getElem? (i := 2) rfl) rfl rfl rfl (Nat.le_of_ble_eq_true rfl) rfl dX5_append_43 ?_
      refine xr_aload_n hM 0 dX5_append_46 rfl rfl ?_
      refine xr_get (C := RX5) (TT0 := TX5) (N := 12) hM 5 0 6 (fun _ h => List.mem_cons_of_mem _ (List.mem_append_right _ h)) rfl rfl (by decide) (List.mem_of_getElem? (i := 2) rfl) rfl rfl dX5_append_47 ?_
      rw [if_neg (by omega), if_neg (by omega), if_neg (by omega), if_neg (by omega), if_neg (by omega), if_neg (by omega)] at hF
      exact xr_iret hF dX5_append_50 rfl rfl
    · refine xr_ldc hM (-100003) (List.mem_of_getElem? (i := 3) rfl) (by decide) dX5_append_23 ?_
      rw [if_neg (by omega), if_pos (by omega), if_neg (by omega), if_pos (by omega), if_neg (by omega), if_pos (by omega)] at hF
      exact xr_iret hF dX5_append_25 rfl rfl
  · refine xr_ldc hM (-100001) (List.mem_of_getElem? (i := 1) rfl) (by decide) dX5_append_11 ?_
    rw [if_pos (by omega), if_pos (by omega), if_pos (by omega)] at hF
    exact xr_iret hF dX5_append_13 rfl rfl

theorem ct_X5_clearText (l : Launch) (T : TT) (r : Nat → Nat) (sT lE aT fR wR : Int) (te : AR) (hlE : 0 ≤ lE ∧ lE ≤ 100) : CT l yX5_clearText wsX5_clearText rm_X5_clearText T [.ref (r 0)] ([(r 0, ob 5 [.ref (r 1), .ref (r 2), .ref (r 3), .ref (r 4), iv sT, .ref (r 5), iv lE, .ref (r 6), iv aT, iv fR, iv wR, .ref (r 7)]), (r 5, ia T.2.1 100 te)]) (some (iv lE)) ([(r 0, ob 5 [.ref (r 1), .ref (r 2), .ref (r 3), .ref (r 4), iv sT, .ref (r 5), iv 0, .ref (r 6), iv aT, iv fR, iv wR, .ref (r 7)]), (r 5, ia T.2.1 100 te)]) := by
  refine CT.Z (maxL := 2) (lv0 := [(0, .ref (r 0))]) hp_X5_clearText rfl (Nat.le_of_ble_eq_true rfl) rfl rfl (fun M hM hF => ?_)
  refine xr_aload_n hM 0 dX5_clearText_0 rfl rfl ?_
  refine xr_get (C := RX5) (TT0 := TX5) (N := 12) hM 5 0 6 (fun _ h => List.mem_cons_of_mem _ (List.mem_append_right _ h)) rfl rfl (by decide) (List.mem_of_getElem? (i := 1) rfl) rfl rfl dX5_clearText_1 ?_
  refine xr_istore_n (lv' := [(0, .ref (r 0)), (1, iv lE)]) hM dX5_clearText_4 rfl (by decide) rfl rfl ?_
  refine xr_aload_n hM 0 dX5_clearText_5 rfl rfl ?_
  refine xr_iconst hM dX5_clearText_6 ?_
  refine xr_put (ws' := [(r 0, ob 5 [.ref (r 1), .ref (r 2), .ref (r 3), .ref (r 4), iv sT, .ref (r 5), iv 0, .ref (r 6), iv aT, iv fR, iv wR, .ref (r 7)]), (r 5, ia T.2.1 100 te)]) (C := RX5) (TT0 := TX5) (N := 12) hM 5 0 6 (fun _ h => List.mem_cons_of_mem _ (List.mem_append_right _ h)) tyX5 tyX5_ok nmX5 rfl rfl (by decide) (List.mem_of_getElem? (i := 1) rfl) rfl rfl rfl (Nat.le_of_ble_eq_true rfl) rfl dX5_clearText_7 ?_
  refine xr_iload_n hM 1 dX5_clearText_10 rfl rfl ?_
  exact xr_iret hF dX5_clearText_11 rfl rfl
