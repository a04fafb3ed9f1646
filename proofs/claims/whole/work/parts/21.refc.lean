theorem lp_X5_copies {T : TT} {M : MB} (ba na : Nat) (f : AR) (i : Int) (bb nb : Nat) (g : AR) (j : Int) (h : 0 ≤ i ∧ 0 ≤ j ∧ i + 305 ≤ (na : Int) ∧ j + 305 ≤ (nb : Int) ∧ na < 100000 ∧ nb < 100000) (hM : FM T M cX5_copies RX5 5 wsX5_copies rm_X5_copies) (hF : FinV T M cX5_copies 5 ([(ba, ia T.2.1 na f), (bb, ia T.2.1 nb (va_cpy f g i.toNat j.toNat 305))])) : ∀ (q k : Nat), k + q = 305 → VV T M 5 [(0, .ref ba), (1, iv i), (2, .ref bb), (3, iv j), (4, iv (k : Int))] [(ba, ia T.2.1 na f), (bb, ia T.2.1 nb (va_cpy f g i.toNat j.toNat k))] 0 0 3 [] := by
  intro q
  induction q with
  | zero =>
    intro k h1
    refine xr_iload hM 4 dX5_copies_3 rfl ?_
    refine xr_sipush hM dX5_copies_5 (by decide) ?_
    refine xr_icmp_ge hM 29 dX5_copies_8 (by decide) (by omega) (fun c8 => ?_) (fun c8 => by exfalso; omega)
    exact xr_vret hF dX5_copies_29 (by rw [show k = 305 by omega])
  | succ q ih =>
    intro k h1
    refine xr_iload hM 4 dX5_copies_3 rfl ?_
    refine xr_sipush hM dX5_copies_5 (by decide) ?_
    refine xr_icmp_ge hM 29 dX5_copies_8 (by decide) (by omega) (fun c8 => by exfalso; omega) (fun c8 => ?_)
    refine xr_aload_n hM 2 dX5_copies_11 rfl rfl ?_
    refine xr_iload_n hM 3 dX5_copies_12 rfl rfl ?_
    refine xr_iload hM 4 dX5_copies_13 rfl ?_
    refine xr_iadd hM dX5_copies_15 ?_
    refine xr_aload_n hM 0 dX5_copies_16 rfl rfl ?_
    refine xr_iload_n hM 1 dX5_copies_17 rfl rfl ?_
    refine xr_iload hM 4 dX5_copies_18 rfl ?_
    refine xr_iadd hM dX5_copies_20 ?_
    refine xr_iald hM 0 ((i + (k : Int)).toNat) rfl rfl (by omega) dX5_copies_21 ?_
    refine xr_iast (ws' := [(ba, ia T.2.1 na f), (bb, ia T.2.1 nb (va_up (va_cpy f g i.toNat j.toNat k) ((j + (k : Int)).toNat) (f ((i + (k : Int)).toNat))))]) hM 1 ((j + (k : Int)).toNat) rfl rfl (by omega) dX5_copies_22 rfl ?_
    refine xr_iinc (lv' := [(0, .ref ba), (1, iv i), (2, .ref bb), (3, iv j), (4, iv ((k : Int) + 1))]) hM 4 dX5_copies_23 rfl (by decide) rfl rfl ?_
    refine xr_goto hM 3 dX5_copies_26 (by decide) ?_
    refine xr_re (lv' := [(0, .ref ba), (1, iv i), (2, .ref bb), (3, iv j), (4, iv ((k + 1 : Nat) : Int))]) (ws' := [(ba, ia T.2.1 na f), (bb, ia T.2.1 nb (va_cpy f g i.toNat j.toNat (k + 1)))]) (st' := []) rfl (by rw [← cpy_step, show (j + (k : Int)).toNat = j.toNat + k by omega, show (i + (k : Int)).toNat = i.toNat + k by omega]) rfl ?_
    exact ih (k + 1) (by omega)

theorem ct_X5_copies (l : Launch) (T : TT) (ba na : Nat) (f : AR) (i : Int) (bb nb : Nat) (g : AR) (j : Int) (h : 0 ≤ i ∧ 0 ≤ j ∧ i + 305 ≤ (na : Int) ∧ j + 305 ≤ (nb : Int) ∧ na < 100000 ∧ nb < 100000) : CT l yX5_copies wsX5_copies rm_X5_copies T [.ref ba, iv i, .ref bb, iv j] ([(ba, ia T.2.1 na f), (bb, ia T.2.1 nb g)]) none ([(ba, ia T.2.1 na f), (bb, ia T.2.1 nb (va_cpy f g i.toNat j.toNat 305))]) := by
  refine CT.V (maxL := 5) (lv0 := [(0, .ref ba), (1, iv i), (2, .ref bb), (3, iv j)]) hp_X5_copies rfl (Nat.le_of_ble_eq_true rfl) rfl (fun M hM hF => ?_)
  refine xr_iconst hM dX5_copies_0 ?_
  refine xr_istore (lv' := [(0, .ref ba), (1, iv i), (2, .ref bb), (3, iv j), (4, iv 0)]) hM dX5_copies_1 (by decide) rfl rfl ?_
  refine xr_re (lv' := [(0, .ref ba), (1, iv i), (2, .ref bb), (3, iv j), (4, iv ((0 : Nat) : Int))]) (ws' := [(ba, ia T.2.1 na f), (bb, ia T.2.1 nb (va_cpy f g i.toNat j.toNat 0))]) (st' := []) rfl (by rw [cpy_0]) rfl ?_
  exact lp_X5_copies ba na f i bb nb g j h hM hF 305 0 (by omega)

theorem ct_X5_keeps (l : Launch) (T : TT) (r : Nat → Nat) (sT lE aT fR wR : Int) (w bf : AR) (X : WnS) (hr : Rep w X) (hx : WFL (pX X)) : CT2 l yX5_keeps wsX5_keeps rm_X5_keeps T [.ref (r 0)] ([(r 0, ob 5 [.ref (r 1), .ref (r 2), .ref (r 3), .ref (r 4), iv sT, .ref (r 5), iv lE, .ref (r 6), iv aT, iv fR, iv wR, .ref (r 7)]), (r 1, ia T.2.1 305 w), (r 2, ia T.2.1 305 bf)]) none (fun w_ g_ => Rep g_ X) (fun w_ g_ => [(r 0, ob 5 [.ref (r 1), .ref (r 2), .ref (r 3), .ref (r 4), iv sT, .ref (r 5), iv lE, .ref (r 6), iv aT, iv fR, iv wR, .ref (r 7)]), (r 1, ia T.2.1 305 w), (r 2, ia T.2.1 305 g_)]) := by
  refine CT2.V (maxL := 1) (lv0 := [(0, .ref (r 0))]) hp_X5_keeps rfl (Nat.le_of_ble_eq_true rfl) rfl (fun M hM hF => ?_)
  refine xr_aload_n hM 0 dX5_keeps_0 rfl rfl ?_
  refine xr_get (C := RX5) (TT0 := TX5) (N := 12) hM 5 0 0 (fun _ h => List.mem_cons_of_mem _ (List.mem_append_right _ h)) rfl rfl (by decide) (List.mem_of_getElem? (i := 1) rfl) rfl rfl dX5_keeps_1 ?_
  refine xr_iconst hM dX5_keeps_4 ?_
  refine xr_aload_n hM 0 dX5_keeps_5 rfl rfl ?_
  refine xr_get (C := RX5) (TT0 := TX5) (N := 12) hM 5 0 1 (fun _ h => List.mem_cons_of_mem _ (List.mem_append_right _ h)) rfl rfl (by decide) (List.mem_of_getElem? (i := 2) rfl) rfl rfl dX5_keeps_6 ?_
  refine xr_iconst hM dX5_keeps_9 ?_
  refine xr_callS (ws' := [(r 0, ob 5 [.ref (r 1), .ref (r 2), .ref (r 3), .ref (r 4), iv sT, .ref (r 5), iv lE, .ref (r 6), iv aT, iv fR, iv wR, .ref (r 7)]), (r 1, ia T.2.1 305 w), (r 2, ia T.2.1 305 (va_cpy w bf 0 0 305))]) (rest := []) (As := [.ref (r 1), iv 0, .ref (r 2), iv 0]) (st' := []) hM (ct_X5_copies M.2.1 T (r 1) 305 w 0 (r 2) 305 bf 0 (by omega)) gX5_keeps_X5_copies rfl ⟨rfl, rfl⟩ hy_X5_copies rfl ⟨by decide, by decide⟩ [1, 2] rfl rfl rfl rfl rfl (Nat.le_of_ble_eq_true rfl) ⟨by decide, by decide⟩ rfl dX5_keeps_10 ?_
  exact xr_vret (hF w _ (RG.cp hr (fun j hj => xi_cpy0 hj) hx.1.2)) dX5_keeps_13 rfl

theorem ct_X5_isLine (l : Launch) (T : TT) (r : Nat → Nat) (sT lE aT fR wR : Int) (w : AR) (X : WnS) (i : Int) (hr : Rep w X) (hx : WFL (pX X)) (hi : -2147483648 ≤ i ∧ i < 2147483648) : CT l yX5_isLine wsX5_isLine rm_X5_isLine T [.ref (r 0), iv i] ([(r 0, ob 5 [.ref (r 1), .ref (r 2), .ref (r 3), .ref (r 4), iv sT, .ref (r 5), iv lE, .ref (r 6), iv aT, iv fR, iv wR, .ref (r 7)]), (r 1, ia T.2.1 305 w)]) (some (iv (bi (0 ≤ i ∧ i ≤ gN (pX X) - 1)))) ([(r 0, ob 5 [.ref (r 1), .ref (r 2), .ref (r 3), .ref (r 4), iv sT, .ref (r 5), iv lE, .ref (r 6), iv aT, iv fR, iv wR, .ref (r 7)]), (r 1, ia T.2.1 305 w)]) := by
  refine CT.Z (maxL := 2) (lv0 := [(0, .ref (r 0)), (1, iv i)]) hp_X5_isLine rfl (Nat.le_of_ble_eq_true rfl) bi_n rfl (fun M hM hF => ?_)
  have hn := hx.1
  refine xr_iload_n hM 1 dX5_isLine_0 rfl rfl ?_
  refine xr_iconst hM dX5_isLine_1 ?_
  refine xr_aload_n hM 0 dX5_isLine_2 rfl rfl ?_
  refine xr_get (C := RX5) (TT0 := TX5) (N := 12) hM 5 0 0 (fun _ h => List.mem_cons_of_mem _ (List.mem_append_right _ h)) rfl rfl (by decide) (List.mem_of_getElem? (i := 1) rfl) rfl rfl dX5_isLine_3 ?_
  refine xr_iconst hM dX5_isLine_6 ?_
  refine xr_iald hM 1 0 rfl rfl (by omega) dX5_isLine_7 ?_
  refine xr_topv (v' := gN (pX X)) (hr.1) ?_
  refine xr_iconst hM dX5_isLine_8 ?_
  refine xr_isub hM dX5_isLine_9 ?_
  refine xr_callSr (rest := []) (As := [iv i, iv 0, iv ((gN (pX X)) - 1)]) (st' := [iv (bi (0 ≤ i ∧ i ≤ ((gN (pX X)) - 1)))]) hM (ct_X5_in M.2.1 T i 0 ((gN (pX X)) - 1) (by omega)) gX5_isLine_X5_in rfl ⟨rfl, rfl⟩ hy_X5_in rfl ⟨by decide, by decide⟩ [] rfl rfl rfl rfl (Nat.le_of_ble_eq_true rfl) ⟨by decide, by decide⟩ dX5_isLine_10 ?_
  exact xr_iret hF dX5_isLine_13 rfl rfl

theorem ct_X5_gone (l : Launch) (T : TT) (r : Nat → Nat) (sT lE aT fR wR : Int) (gs w : AR) (X : WnS) (i : Int) (hr : Rep w X) (hX : WW X) (hi : -2147483648 ≤ i ∧ i < 2147483648) : CT2 l yX5_gone wsX5_gone rm_X5_gone T [.ref (r 0), iv i] ([(r 0, ob 5 [.ref (r 1), .ref (r 2), .ref (r 3), .ref (r 4), iv sT, .ref (r 5), iv lE, .ref (r 6), iv aT, iv fR, iv wR, .ref (r 7)]), (r 6, ia T.2.1 3 gs), (r 1, ia T.2.1 305 w)]) (some (iv ((mlR X i).1))) (fun w_ g_ => Rep w_ (mlR X i).2) (fun w_ g_ => [(r 0, ob 5 [.ref (r 1), .ref (r 2), .ref (r 3), .ref (r 4), iv sT, .ref (r 5), iv lE, .ref (r 6), iv aT, iv fR, iv wR, .ref (r 7)]), (r 6, ia T.2.1 3 g_), (r 1, ia T.2.1 305 w_)]) := by
  refine CT2.Z (maxL := 2) (lv0 := [(0, .ref (r 0)), (1, iv i)]) hp_X5_gone rfl (Nat.le_of_ble_eq_true rfl) rfl rfl (fun M hM hF => ?_)
  have hn := hX.1.1.1
  have hwd := hX.1.1.2.1
  have hHH := hX.1.2.1
  have hSb := hX.1.2.2.2.2
  have hSs := hX.2
  have hAn := hX.an
  have hA0 := hX.1.2.2.1
  refine xr_aload_n hM 0 dX5_gone_0 rfl rfl ?_
  refine xr_iload_n hM 1 dX5_gone_1 rfl rfl ?_
  refine xr_callVr (rest := []) (As := [iv i]) (st' := [iv (bi (0 ≤ i ∧ i ≤ gN (pX X) - 1))]) hM (ct_X5_isLine M.2.1 T r sT lE aT fR wR w X i hr hX.1.1 (by omega)) gX5_gone_X5_isLine rfl ⟨rfl, rfl⟩ hy_X5_isLine rfl ⟨by decide, by decide⟩ [0, 2] rfl rfl 0 5 rfl rfl rfl rfl rfl (Nat.le_of_ble_eq_true rfl) ⟨by decide, by decide⟩ dX5_gone_2 ?_
  refine xr_ifb_ne hM 11 dX5_gone_5 (by decide) (fun c5 => ?_) (fun c5 => ?_)
  · refine xr_aload_n hM 0 dX5_gone_11 rfl rfl ?_
    refine xr_get (C := RX5) (TT0 := TX5) (N := 12) hM 5 0 0 (fun _ h => List.mem_cons_of_mem _ (List.mem_append_right _ h)) rfl rfl (by decide) (List.mem_of_getElem? (i := 2) rfl) rfl rfl dX5_gone_12 ?_
    refine xr_iconst hM dX5_gone_15 ?_
    refine xr_iload_n hM 1 dX5_gone_16 rfl rfl ?_
    refine xr_iast (ws' := [(r 0, ob 5 [.ref (r 1), .ref (r 2), .ref (r 3), .ref (r 4), iv sT, .ref (r 5), iv lE, .ref (r 6), iv aT, iv fR, iv wR, .ref (r 7)]), (r 6, ia T.2.1 3 gs), (r 1, ia T.2.1 305 (va_up w 1 i))]) hM 2 1 rfl rfl (by omega) dX5_gone_17 rfl ?_
    have hr17 : RG (va_up w 1 i) (gN (pX X)) i (pS X) (pH X) (gW (pX X)) (pX X) := hr.s1 i
    generalize va_up w 1 i = w17 at hr17 ⊢
    refine xr_aload_n hM 0 dX5_gone_18 rfl rfl ?_
    refine xr_get (C := RX5) (TT0 := TX5) (N := 12) hM 5 0 0 (fun _ h => List.mem_cons_of_mem _ (List.mem_append_right _ h)) rfl rfl (by decide) (List.mem_of_getElem? (i := 2) rfl) rfl rfl dX5_gone_19 ?_
    refine xr_iconst hM dX5_gone_22 ?_
    refine xr_iconst hM dX5_gone_23 ?_
    refine xr_iast (ws' := [(r 0, ob 5 [.ref (r 1), .ref (r 2), .ref (r 3), .ref (r 4), iv sT, .ref (r 5), iv lE, .ref (r 6), iv aT, iv fR, iv wR, .ref (r 7)]), (r 6, ia T.2.1 3 gs), (r 1, ia T.2.1 305 (va_up w17 2 0))]) hM 2 2 rfl rfl (by omega) dX5_gone_24 rfl ?_
    have hr24 : RG (va_up w17 2 0) (gN (pX X)) i 0 (pH X) (gW (pX X)) (pX X) := hr17.s2 0
    generalize va_up w17 2 0 = w24 at hr24 ⊢
    have hPs : PW (pX X, pH X, i, 0) := PW_ml hX (by omega)
    refine xr_aload_n hM 0 dX5_gone_25 rfl rfl ?_
    refine xr_get (C := RX5) (TT0 := TX5) (N := 12) hM 5 0 0 (fun _ h => List.mem_cons_of_mem _ (List.mem_append_right _ h)) rfl rfl (by decide) (List.mem_of_getElem? (i := 2) rfl) rfl rfl dX5_gone_26 ?_
    refine xr_callS2 (ws' := fun w29 g29 => [(r 0, ob 5 [.ref (r 1), .ref (r 2), .ref (r 3), .ref (r 4), iv sT, .ref (r 5), iv lE, .ref (r 6), iv aT, iv fR, iv wR, .ref (r 7)]), (r 6, ia T.2.1 3 gs), (r 1, ia T.2.1 305 w29)]) (rest := []) (As := [.ref (r 1)]) (st' := []) hM (ct_X5_settles M.2.1 T (r 1) w24 (pX X, pH X, i, 0) hr24 hPs) gX5_gone_X5_settles rfl ⟨rfl, rfl⟩ hy_X5_settles rfl ⟨by decide, by decide⟩ [2] rfl rfl (fun _ _ => rfl) rfl rfl (Nat.le_of_ble_eq_true rfl) ⟨by decide, by decide⟩ (fun _ _ => rfl) dX5_gone_29 (fun w29 g29 hP29 => ?_)
    have hf29 := (WW_se hPs).2
    have hf29_1 := seF_W (pX X, pH X, i, 0)
    have hf29_2 := seF_H (pX X, pH X, i, 0)
    have hw29 := (WW_se hPs).1.1.1
    have hw29_1 := (WW_se hPs).1
    refine xr_aload_n hM 0 dX5_gone_32 rfl rfl ?_
    refine xr_get (C := RX5) (TT0 := TX5) (N := 12) hM 5 0 0 (fun _ h => List.mem_cons_of_mem _ (List.mem_append_right _ h)) rfl rfl (by decide) (List.mem_of_getElem? (i := 2) rfl) rfl rfl dX5_gone_33 ?_
    refine xr_iconst hM dX5_gone_36 ?_
    refine xr_iald hM 2 1 rfl rfl (by omega) dX5_gone_37 ?_
    refine xr_topv (v' := pA (seF (pX X, pH X, i, 0))) (hP29.2.1) ?_
    exact xr_iret (hF w29 gs (by rw [mlR, if_neg (by omega)]; exact hP29)) dX5_gone_38 (by rw [mlR, if_neg (by omega)]) rfl
  · refine xr_ldc hM (-100001) (List.mem_of_getElem? (i := 1) rfl) (by decide) dX5_gone_8 ?_
    exact xr_iret (hF w gs (by rw [mlR, if_pos (by omega)]; exact hr)) dX5_gone_10 (by rw [mlR, if_pos (by omega)]) rfl

theorem ct_X5_scrolls (l : Launch) (T : TT) (bb : Nat) (w : AR) (X : WnS) (d : Int) (hr : Rep w X) (hX : WW X) (hn0 : ¬ gN (pX X) = 0) (hd : -9999 ≤ d ∧ d ≤ 9999) : CT2 l yX5_scrolls wsX5_scrolls rm_X5_scrolls T [.ref bb, iv d] ([(bb, ia T.2.1 305 w)]) none (fun w_ g_ => Rep w_ (seF (mbP X d))) (fun w_ g_ => [(bb, ia T.2.1 305 w_)]) := by
  refine CT2.V (maxL := 2) (lv0 := [(0, .ref bb), (1, iv d)]) hp_X5_scrolls rfl (Nat.le_of_ble_eq_true rfl) rfl (fun M hM hF => ?_)
  have hn := hX.1.1.1
  have hwd := hX.1.1.2.1
  have hHH := hX.1.2.1
  have hSb := hX.1.2.2.2.2
  have hSs := hX.2
  have hAn := hX.an
  have hA0 := hX.1.2.2.1
  refine xr_aload_n hM 0 dX5_scrolls_0 rfl rfl ?_
  refine xr_iconst hM dX5_scrolls_1 ?_
  refine xr_dup2 hM dX5_scrolls_2 rfl rfl ?_
  refine xr_iald hM 0 2 rfl rfl (by omega) dX5_scrolls_3 ?_
  refine xr_topv (v' := pS X) (hr.2.2.1) ?_
  refine xr_iload_n hM 1 dX5_scrolls_4 rfl rfl ?_
  refine xr_iadd hM dX5_scrolls_5 ?_
  refine xr_iast (ws' := [(bb, ia T.2.1 305 (va_up w 2 ((pS X) + d)))]) hM 0 2 rfl rfl (by omega) dX5_scrolls_6 rfl ?_
  have hr6 : RG (va_up w 2 ((pS X) + d)) (gN (pX X)) (pA X) ((pS X) + d) (pH X) (gW (pX X)) (pX X) := hr.s2 ((pS X) + d)
  generalize va_up w 2 ((pS X) + d) = w6 at hr6 ⊢
  have hA1 := hX.1.2.2.2.1 (by omega)
  have hDc : DI (gN (pX X)) (-600000) 400000 (pX X, pH X, pA X, pS X + d) := ⟨hX.1.1, rfl, hA1, by show -600000 ≤ pS X + d; omega, by show pS X + d ≤ 400000; omega⟩
  refine xr_aload_n hM 0 dX5_scrolls_7 rfl rfl ?_
  refine xr_callS2 (ws' := fun w8 g8 => [(bb, ia T.2.1 305 w8)]) (rest := []) (As := [.ref bb]) (st' := []) hM (ct_X5_goesUp M.2.1 T bb w6 (pX X, pH X, pA X, (pS X) + d) hr6 hDc) gX5_scrolls_X5_goesUp rfl ⟨rfl, rfl⟩ hy_X5_goesUp rfl ⟨by decide, by decide⟩ [0] rfl rfl (fun _ _ => rfl) rfl rfl (Nat.le_of_ble_eq_true rfl) ⟨by decide, by decide⟩ (fun _ _ => rfl) dX5_scrolls_8 (fun w8 g8 hP8 => ?_)
  have hPs : PW (clF (pX X, pH X, pA X, pS X + d)) := (PW_mb hX hd hn0).1
  refine xr_aload_n hM 0 dX5_scrolls_11 rfl rfl ?_
  refine xr_callS2 (ws' := fun w12 g12 => [(bb, ia T.2.1 305 w12)]) (rest := []) (As := [.ref bb]) (st' := []) hM (ct_X5_settles M.2.1 T bb w8 (clF (pX X, pH X, pA X, (pS X) + d)) hP8 hPs) gX5_scrolls_X5_settles rfl ⟨rfl, rfl⟩ hy_X5_settles rfl ⟨by decide, by decide⟩ [0] rfl rfl (fun _ _ => rfl) rfl rfl (Nat.le_of_ble_eq_true rfl) ⟨by decide, by decide⟩ (fun _ _ => rfl) dX5_scrolls_12 (fun w12 g12 hP12 => ?_)
  have hf12 := (WW_se hPs).2
  have hf12_1 := seF_W (clF (pX X, pH X, pA X, (pS X) + d))
  have hf12_2 := seF_H (clF (pX X, pH X, pA X, (pS X) + d))
  have hw12 := (WW_se hPs).1.1.1
  have hw12_1 := (WW_se hPs).1
  exact xr_vret (hF _ w hP12) dX5_scrolls_15 rfl

theorem ct_X5_scrolled (l : Launch) (T : TT) (r : Nat → Nat) (sT lE aT fR wR : Int) (gs w : AR) (X : WnS) (d : Int) (hr : Rep w X) (hX : WW X) (hd : -2147483648 ≤ d ∧ d < 2147483648) : CT2 l yX5_scrolled wsX5_scrolled rm_X5_scrolled T [.ref (r 0), iv d] ([(r 0, ob 5 [.ref (r 1), .ref (r 2), .ref (r 3), .ref (r 4), iv sT, .ref (r 5), iv lE, .ref (r 6), iv aT, iv fR, iv wR, .ref (r 7)]), (r 6, ia T.2.1 3 gs), (r 1, ia T.2.1 305 w)]) (some (iv ((mbR X d).1))) (fun w_ g_ => Rep w_ (mbR X d).2) (fun w_ g_ => [(r 0, ob 5 [.ref (r 1), .ref (r 2), .ref (r 3), .ref (r 4), iv sT, .ref (r 5), iv lE, .ref (r 6), iv aT, iv fR, iv wR, .ref (r 7)]), (r 6, ia T.2.1 3 g_), (r 1, ia T.2.1 305 w_)]) := by
  refine CT2.Z (maxL := 2) (lv0 := [(0, .ref (r 0)), (1, iv d)]) hp_X5_scrolled rfl (Nat.le_of_ble_eq_true rfl) rfl rfl (fun M hM hF => ?_)
  have hn := hX.1.1.1
  have hwd := hX.1.1.2.1
  have hHH := hX.1.2.1
  have hSb := hX.1.2.2.2.2
  have hSs := hX.2
  have hAn := hX.an
  have hA0 := hX.1.2.2.1
  refine xr_iload_n hM 1 dX5_scrolled_0 rfl rfl ?_
  refine xr_sipush hM dX5_scrolled_1 (by decide) ?_
  refine xr_sipush hM dX5_scrolled_4 (by decide) ?_
  refine xr_callSr (rest := []) (As := [iv d, iv (-9999), iv 9999]) (st' := [iv (bi ((-9999) ≤ d ∧ d ≤ 9999))]) hM (ct_X5_in M.2.1 T d (-9999) 9999 (by omega)) gX5_scrolled_X5_in rfl ⟨rfl, rfl⟩ hy_X5_in rfl ⟨by decide, by decide⟩ [] rfl rfl rfl rfl (Nat.le_of_ble_eq_true rfl) ⟨by decide, by decide⟩ dX5_scrolled_7 ?_
  refine xr_ifb_ne hM 16 dX5_scrolled_10 (by decide) (fun c10 => ?_) (fun c10 => ?_)
  · refine xr_aload_n hM 0 dX5_scrolled_16 rfl rfl ?_
    refine xr_get (C := RX5) (TT0 := TX5) (N := 12) hM 5 0 0 (fun _ h => List.mem_cons_of_mem _ (List.mem_append_right _ h)) rfl rfl (by decide) (List.mem_of_getElem? (i := 2) rfl) rfl rfl dX5_scrolled_17 ?_
    refine xr_iconst hM dX5_scrolled_20 ?_
    refine xr_iald hM 2 0 rfl rfl (by omega) dX5_scrolled_21 ?_
    refine xr_topv (v' := gN (pX X)) (hr.1) ?_
    refine xr_if_ne hM 28 dX5_scrolled_22 (by decide) (by omega) (fun c22 => ?_) (fun c22 => ?_)
    · refine xr_aload_n hM 0 dX5_scrolled_28 rfl rfl ?_
      refine xr_get (C := RX5) (TT0 := TX5) (N := 12) hM 5 0 0 (fun _ h => List.mem_cons_of_mem _ (List.mem_append_right _ h)) rfl rfl (by decide) (List.mem_of_getElem? (i := 2) rfl) rfl rfl dX5_scrolled_29 ?_
      refine xr_iload_n hM 1 dX5_scrolled_32 rfl rfl ?_
      refine xr_callS2 (ws' := fun w33 g33 => [(r 0, ob 5 [.ref (r 1), .ref (r 2), .ref (r 3), .ref (r 4), iv sT, .ref (r 5), iv lE, .ref (r 6), iv aT, iv fR, iv wR, .ref (r 7)]), (r 6, ia T.2.1 3 gs), (r 1, ia T.2.1 305 w33)]) (rest := []) (As := [.ref (r 1), iv d]) (st' := []) hM (ct_X5_scrolls M.2.1 T (r 1) w X d hr hX (by omega) (by omega)) gX5_scrolled_X5_scrolls rfl ⟨rfl, rfl⟩ hy_X5_scrolls rfl ⟨by decide, by decide⟩ [2] rfl rfl (fun _ _ => rfl) rfl rfl (Nat.le_of_ble_eq_true rfl) ⟨by decide, by decide⟩ (fun _ _ => rfl) dX5_scrolled_33 (fun w33 g33 hP33 => ?_)
      have hf33 := (WW_se (PW_mb hX (by omega) (by omega)).1).2.trans (PW_mb hX (by omega) (by omega)).2
      have hw33 := (WW_se (PW_mb hX (by omega) (by omega)).1).1.1.1
      have hw33_1 := (WW_se (PW_mb hX (by omega) (by omega)).1).1
      refine xr_aload_n hM 0 dX5_scrolled_36 rfl rfl ?_
      refine xr_get (C := RX5) (TT0 := TX5) (N := 12) hM 5 0 0 (fun _ h => List.mem_cons_of_mem _ (List.mem_append_right _ h)) rfl rfl (by decide) (List.mem_of_getElem? (i := 2) rfl) rfl rfl dX5_scrolled_37 ?_
      refine xr_iconst hM dX5_scrolled_40 ?_
      refine xr_iald hM 2 1 rfl rfl (by omega) dX5_scrolled_41 ?_
      refine xr_topv (v' := pA (seF (mbP X d))) (hP33.2.1) ?_
      exact xr_iret (hF w33 gs (by rw [mbR, if_neg (by omega), if_neg c22]; exact hP33)) dX5_scrolled_42 (by rw [mbR, if_neg (by omega), if_neg c22]) rfl
    · refine xr_ldc hM (-100002) (List.mem_of_getElem? (i := 3) rfl) (by decide) dX5_scrolled_25 ?_
      exact xr_iret (hF w gs (by rw [mbR, if_neg (by omega), if_pos c22]; exact hr)) dX5_scrolled_27 (by rw [mbR, if_neg (by omega), if_pos c22]) rfl
  · refine xr_ldc hM (-100001) (List.mem_of_getElem? (i := 1) rfl) (by decide) dX5_scrolled_13 ?_
    exact xr_iret (hF w gs (by rw [mbR, if_pos (by omega)]; exact hr)) dX5_scrolled_15 (by rw [mbR, if_pos (by omega)]) rfl

theorem ct_X5_jumps (l : Launch) (T : TT) (r : Nat → Nat) (sT lE aT fR wR : Int) (gs : AR) (bb : Nat) (w : AR) (X : WnS) (d : Int) (hr : Rep w X) (hx : WFL (pX X)) (hX : WW X) (hn0 : ¬ gN (pX X) = 0) (hd : 0 ≤ d ∧ d ≤ 1000) : CT2 l yX5_jumps wsX5_jumps rm_X5_jumps T [.ref (r 0), .ref bb, iv d] ([(r 0, ob 5 [.ref (r 1), .ref (r 2), .ref (r 3), .ref (r 4), iv sT, .ref (r 5), iv lE, .ref (r 6), iv aT, iv fR, iv wR, .ref (r 7)]), (r 6, ia T.2.1 3 gs), (bb, ia T.2.1 305 w)]) none (fun w_ g_ => Rep w_ (seF (msP X d))) (fun w_ g_ => [(r 0, ob 5 [.ref (r 1), .ref (r 2), .ref (r 3), .ref (r 4), iv sT, .ref (r 5), iv lE, .ref (r 6), iv aT, iv fR, iv wR, .ref (r 7)]), (r 6, ia T.2.1 3 g_), (bb, ia T.2.1 305 w_)]) := by
  refine CT2.V (maxL := 6) (lv0 := [(0, .ref (r 0)), (1, .ref bb), (2, iv d)]) hp_X5_jumps rfl (Nat.le_of_ble_eq_true rfl) rfl (fun M hM hF => ?_)
  have hn := hX.1.1.1
  have hwd := hX.1.1.2.1
  have hHH := hX.1.2.1
  have hSb := hX.1.2.2.2.2
  have hSs := hX.2
  have hAn := hX.an
  have hA0 := hX.1.2.2.1
  have hpl := plF_b hX.1 hd hn0
  have han := anF_b hX.1 hd hn0
  have htn := tpF_b hx (gN (pX X)).toNat
  refine xr_aload_n hM 0 dX5_jumps_0 rfl rfl ?_
  refine xr_aload_n hM 1 dX5_jumps_1 rfl rfl ?_
  refine xr_callV2 (ws' := fun w2 g2 => [(r 0, ob 5 [.ref (r 1), .ref (r 2), .ref (r 3), .ref (r 4), iv sT, .ref (r 5), iv lE, .ref (r 6), iv aT, iv fR, iv wR, .ref (r 7)]), (r 6, ia T.2.1 3 g2), (bb, ia T.2.1 305 w)]) (rest := []) (As := [.ref bb]) (st' := [iv (tpF (pX X) (gN (pX X)).toNat)]) hM (ct_X5_total M.2.1 T r sT lE aT fR wR gs bb w X hr hx) gX5_jumps_X5_total rfl ⟨rfl, rfl⟩ hy_X5_total rfl ⟨by decide, by decide⟩ [0, 1, 2] rfl rfl (fun _ _ => rfl) 0 5 rfl rfl rfl rfl rfl (Nat.le_of_ble_eq_true rfl) ⟨by decide, by decide⟩ (fun _ _ => rfl) dX5_jumps_2 (fun w2 g2 hP2 => ?_)
  have hf2 := tpF_b hx (gN (pX X)).toNat
  refine xr_aload_n hM 1 dX5_jumps_5 rfl rfl ?_
  refine xr_iconst hM dX5_jumps_6 ?_
  refine xr_iald hM 2 3 rfl rfl (by omega) dX5_jumps_7 ?_
  refine xr_topv (v' := pH X) (hr.2.2.2.1) ?_
  refine xr_isub hM dX5_jumps_8 ?_
  refine xr_istore_n (lv' := [(0, .ref (r 0)), (1, .ref bb), (2, iv d), (3, iv ((tpF (pX X) (gN (pX X)).toNat) - (pH X)))]) hM dX5_jumps_9 rfl (by decide) rfl rfl ?_
  refine xr_iload_n hM 3 dX5_jumps_10 rfl rfl ?_
  refine xr_if_ge hM 18 dX5_jumps_11 (by decide) (by omega) (fun c11 => ?_) (fun c11 => ?_)
  · refine xr_iload_n hM 3 dX5_jumps_18 rfl rfl ?_
    refine xr_iload_n hM 2 dX5_jumps_19 rfl rfl ?_
    refine xr_imul hM dX5_jumps_20 ?_
    refine xr_sipush hM dX5_jumps_21 (by decide) ?_
    have hm0 := Int.mul_nonneg (show 0 ≤ tpF (pX X) (gN (pX X)).toNat - pH X by omega) (show 0 ≤ d by omega)
    have hm1 := Int.mul_le_mul_of_nonneg_left (show d ≤ 1000 by omega) (show 0 ≤ tpF (pX X) (gN (pX X)).toNat - pH X by omega)
    refine xr_idiv hM dX5_jumps_24 (by omega) ?_
    refine xr_topv (v' := plF X d) (by have e : max 0 (tpF (pX X) (gN (pX X)).toNat - pH X) = tpF (pX X) (gN (pX X)).toNat - pH X := (by omega); unfold plF; rw [e]) ?_
    refine xr_istore (lv' := [(0, .ref (r 0)), (1, .ref bb), (2, iv d), (3, iv ((tpF (pX X) (gN (pX X)).toNat) - (pH X))), (4, iv (plF X d))]) hM dX5_jumps_25 (by decide) rfl rfl ?_
    refine xr_aload_n hM 0 dX5_jumps_27 rfl rfl ?_
    refine xr_aload_n hM 1 dX5_jumps_28 rfl rfl ?_
    refine xr_iload hM 4 dX5_jumps_29 rfl ?_
    refine xr_callV2 (ws' := fun w31 g31 => [(r 0, ob 5 [.ref (r 1), .ref (r 2), .ref (r 3), .ref (r 4), iv sT, .ref (r 5), iv lE, .ref (r 6), iv aT, iv fR, iv wR, .ref (r 7)]), (r 6, ia T.2.1 3 g31), (bb, ia T.2.1 305 w)]) (rest := []) (As := [.ref bb, iv (plF X d)]) (st' := [iv (laF (pX X) (plF X d) (gN (pX X)).toNat 0)]) hM (ct_X5_lineAt M.2.1 T r sT lE aT fR wR g2 bb w X (plF X d) hr hx (by omega)) gX5_jumps_X5_lineAt rfl ⟨rfl, rfl⟩ hy_X5_lineAt rfl ⟨by decide, by decide⟩ [0, 1, 2] rfl rfl (fun _ _ => rfl) 0 5 rfl rfl rfl rfl rfl (Nat.le_of_ble_eq_true rfl) ⟨by decide, by decide⟩ (fun _ _ => rfl) dX5_jumps_31 (fun w31 g31 hP31 => ?_)
    have hf31 := laF_v hx (plF X d)
    refine xr_topv (v' := anF X d) (han.2.2.symm) ?_
    refine xr_istore (lv' := [(0, .ref (r 0)), (1, .ref bb), (2, iv d), (3, iv ((tpF (pX X) (gN (pX X)).toNat) - (pH X))), (4, iv (plF X d)), (5, iv (anF X d))]) hM dX5_jumps_34 (by decide) rfl rfl ?_
    refine xr_aload_n hM 1 dX5_jumps_36 rfl rfl ?_
    refine xr_iconst hM dX5_jumps_37 ?_
    refine xr_iload hM 4 dX5_jumps_38 rfl ?_
    refine xr_aload_n hM 0 dX5_jumps_40 rfl rfl ?_
    refine xr_aload_n hM 1 dX5_jumps_41 rfl rfl ?_
    refine xr_iload hM 5 dX5_jumps_42 rfl ?_
    refine xr_callV2 (ws' := fun w44 g44 => [(r 0, ob 5 [.ref (r 1), .ref (r 2), .ref (r 3), .ref (r 4), iv sT, .ref (r 5), iv lE, .ref (r 6), iv aT, iv fR, iv wR, .ref (r 7)]), (r 6, ia T.2.1 3 g44), (bb, ia T.2.1 305 w)]) (rest := [iv (plF X d), iv 2, .ref bb]) (As := [.ref bb, iv (anF X d)]) (st' := [iv (tpF (pX X) (anF X d).toNat), iv (plF X d), iv 2, .ref bb]) hM (ct_X5_topOf M.2.1 T r sT lE aT fR wR g31 bb w X (anF X d) hr hx (by omega)) gX5_jumps_X5_topOf rfl ⟨rfl, rfl⟩ hy_X5_topOf rfl ⟨by decide, by decide⟩ [0, 1, 2] rfl rfl (fun _ _ => rfl) 0 5 rfl rfl rfl rfl rfl (Nat.le_of_ble_eq_true rfl) ⟨by decide, by decide⟩ (fun _ _ => rfl) dX5_jumps_44 (fun w44 g44 hP44 => ?_)
    have hf44 := tpF_b hx (anF X d).toNat
    refine xr_isub hM dX5_jumps_47 ?_
    refine xr_iast (ws' := [(r 0, ob 5 [.ref (r 1), .ref (r 2), .ref (r 3), .ref (r 4), iv sT, .ref (r 5), iv lE, .ref (r 6), iv aT, iv fR, iv wR, .ref (r 7)]), (r 6, ia T.2.1 3 g44), (bb, ia T.2.1 305 (va_up w 2 ((plF X d) - (tpF (pX X) (anF X d).toNat))))]) hM 2 2 rfl rfl (by omega) dX5_jumps_48 rfl ?_
    have hr48 : RG (va_up w 2 ((plF X d) - (tpF (pX X) (anF X d).toNat))) (gN (pX X)) (pA X) ((plF X d) - (tpF (pX X) (anF X d).toNat)) (pH X) (gW (pX X)) (pX X) := hr.s2 ((plF X d) - (tpF (pX X) (anF X d).toNat))
    generalize va_up w 2 ((plF X d) - (tpF (pX X) (anF X d).toNat)) = w48 at hr48 ⊢
    refine xr_aload_n hM 1 dX5_jumps_49 rfl rfl ?_
    refine xr_iconst hM dX5_jumps_50 ?_
    refine xr_iload hM 5 dX5_jumps_51 rfl ?_
    refine xr_iast (ws' := [(r 0, ob 5 [.ref (r 1), .ref (r 2), .ref (r 3), .ref (r 4), iv sT, .ref (r 5), iv lE, .ref (r 6), iv aT, iv fR, iv wR, .ref (r 7)]), (r 6, ia T.2.1 3 g44), (bb, ia T.2.1 305 (va_up w48 1 (anF X d)))]) hM 2 1 rfl rfl (by omega) dX5_jumps_53 rfl ?_
    have hr53 : RG (va_up w48 1 (anF X d)) (gN (pX X)) (anF X d) ((plF X d) - (tpF (pX X) (anF X d).toNat)) (pH X) (gW (pX X)) (pX X) := hr48.s1 (anF X d)
    generalize va_up w48 1 (anF X d) = w53 at hr53 ⊢
    have hPs : PW (pX X, pH X, anF X d, (plF X d) - (tpF (pX X) (anF X d).toNat)) := PW_ms hX hd hn0
    refine xr_aload_n hM 1 dX5_jumps_54 rfl rfl ?_
    refine xr_callS2 (ws' := fun w55 g55 => [(r 0, ob 5 [.ref (r 1), .ref (r 2), .ref (r 3), .ref (r 4), iv sT, .ref (r 5), iv lE, .ref (r 6), iv aT, iv fR, iv wR, .ref (r 7)]), (r 6, ia T.2.1 3 g44), (bb, ia T.2.1 305 w55)]) (rest := []) (As := [.ref bb]) (st' := []) hM (ct_X5_settles M.2.1 T bb w53 (pX X, pH X, anF X d, (plF X d) - (tpF (pX X) (anF X d).toNat)) hr53 hPs) gX5_jumps_X5_settles rfl ⟨rfl, rfl⟩ hy_X5_settles rfl ⟨by decide, by decide⟩ [2] rfl rfl (fun _ _ => rfl) rfl rfl (Nat.le_of_ble_eq_true rfl) ⟨by decide, by decide⟩ (fun _ _ => rfl) dX5_jumps_55 (fun w55 g55 hP55 => ?_)
    have hf55 := (WW_se hPs).2
    have hf55_1 := seF_W (pX X, pH X, anF X d, (plF X d) - (tpF (pX X) (anF X d).toNat))
    have hf55_2 := seF_H (pX X, pH X, anF X d, (plF X d) - (tpF (pX X) (anF X d).toNat))
    have hw55 := (WW_se hPs).1.1.1
    have hw55_1 := (WW_se hPs).1
    exact xr_vret (hF _ g44 hP55) dX5_jumps_58 rfl
  · refine xr_iconst hM dX5_jumps_14 ?_
    refine xr_goto hM 25 dX5_jumps_15 (by decide) ?_
    refine xr_topv (v' := plF X d) (by have e : max 0 (tpF (pX X) (gN (pX X)).toNat - pH X) = 0 := (by omega); unfold plF; rw [e]; omega) ?_
    refine xr_istore (lv' := [(0, .ref (r 0)), (1, .ref bb), (2, iv d), (3, iv ((tpF (pX X) (gN (pX X)).toNat) - (pH X))), (4, iv (plF X d))]) hM dX5_jumps_25 (by decide) rfl rfl ?_
    refine xr_aload_n hM 0 dX5_jumps_27 rfl rfl ?_
    refine xr_aload_n hM 1 dX5_jumps_28 rfl rfl ?_
    refine xr_iload hM 4 dX5_jumps_29 rfl ?_
    refine xr_callV2 (ws' := fun w31_1 g31_1 => [(r 0, ob 5 [.ref (r 1), .ref (r 2), .ref (r 3), .ref (r 4), iv sT, .ref (r 5), iv lE, .ref (r 6), iv aT, iv fR, iv wR, .ref (r 7)]), (r 6, ia T.2.1 3 g31_1), (bb, ia T.2.1 305 w)]) (rest := []) (As := [.ref bb, iv (plF X d)]) (st' := [iv (laF (pX X) (plF X d) (gN (pX X)).toNat 0)]) hM (ct_X5_lineAt M.2.1 T r sT lE aT fR wR g2 bb w X (plF X d) hr hx (by omega)) gX5_jumps_X5_lineAt rfl ⟨rfl, rfl⟩ hy_X5_lineAt rfl ⟨by decide, by decide⟩ [0, 1, 2] rfl rfl (fun _ _ => rfl) 0 5 rfl rfl rfl rfl rfl (Nat.le_of_ble_eq_true rfl) ⟨by decide, by decide⟩ (fun _ _ => rfl) dX5_jumps_31 (fun w31_1 g31_1 hP31_1 => ?_)
    have hf31_1 := laF_v hx (plF X d)
    refine xr_topv (v' := anF X d) (han.2.2.symm) ?_
    refine xr_istore (lv' := [(0, .ref (r 0)), (1, .ref bb), (2, iv d), (3, iv ((tpF (pX X) (gN (pX X)).toNat) - (pH X))), (4, iv (plF X d)), (5, iv (anF X d))]) hM dX5_jumps_34 (by decide) rfl rfl ?_
    refine xr_aload_n hM 1 dX5_jumps_36 rfl rfl ?_
    refine xr_iconst hM dX5_jumps_37 ?_
    refine xr_iload hM 4 dX5_jumps_38 rfl ?_
    refine xr_aload_n hM 0 dX5_jumps_40 rfl rfl ?_
    refine xr_aload_n hM 1 dX5_jumps_41 rfl rfl ?_
    refine xr_iload hM 5 dX5_jumps_42 rfl ?_
    refine xr_callV2 (ws' := fun w44_1 g44_1 => [(r 0, ob 5 [.ref (r 1), .ref (r 2), .ref (r 3), .ref (r 4), iv sT, .ref (r 5), iv lE, .ref (r 6), iv aT, iv fR, iv wR, .ref (r 7)]), (r 6, ia T.2.1 3 g44_1), (bb, ia T.2.1 305 w)]) (rest := [iv (plF X d), iv 2, .ref bb]) (As := [.ref bb, iv (anF X d)]) (st' := [iv (tpF (pX X) (anF X d).toNat), iv (plF X d), iv 2, .ref bb]) hM (ct_X5_topOf M.2.1 T r sT lE aT fR wR g31_1 bb w X (anF X d) hr hx (by omega)) gX5_jumps_X5_topOf rfl ⟨rfl, rfl⟩ hy_X5_topOf rfl ⟨by decide, by decide⟩ [0, 1, 2] rfl rfl (fun _ _ => rfl) 0 5 rfl rfl rfl rfl rfl (Nat.le_of_ble_eq_true rfl) ⟨by decide, by decide⟩ (fun _ _ => rfl) dX5_jumps_44 (fun w44_1 g44_1 hP44_1 => ?_)
    have hf44_1 := tpF_b hx (anF X d).toNat
    refine xr_isub hM dX5_jumps_47 ?_
    refine xr_iast (ws' := [(r 0, ob 5 [.ref (r 1), .ref (r 2), .ref (r 3), .ref (r 4), iv sT, .ref (r 5), iv lE, .ref (r 6), iv aT, iv fR, iv wR, .ref (r 7)]), (r 6, ia T.2.1 3 g44_1), (bb, ia T.2.1 305 (va_up w 2 ((plF X d) - (tpF (pX X) (anF X d).toNat))))]) hM 2 2 rfl rfl (by omega) dX5_jumps_48 rfl ?_
    have hr48_1 : RG (va_up w 2 ((plF X d) - (tpF (pX X) (anF X d).toNat))) (gN (pX X)) (pA X) ((plF X d) - (tpF (pX X) (anF X d).toNat)) (pH X) (gW (pX X)) (pX X) := hr.s2 ((plF X d) - (tpF (pX X) (anF X d).toNat))
    generalize va_up w 2 ((plF X d) - (tpF (pX X) (anF X d).toNat)) = w48_1 at hr48_1 ⊢
    refine xr_aload_n hM 1 dX5_jumps_49 rfl rfl ?_
    refine xr_iconst hM dX5_jumps_50 ?_
    refine xr_iload hM 5 dX5_jumps_51 rfl ?_
    refine xr_iast (ws' := [(r 0, ob 5 [.ref (r 1), .ref (r 2), .ref (r 3), .ref (r 4), iv sT, .ref (r 5), iv lE, .ref (r 6), iv aT, iv fR, iv wR, .ref (r 7)]), (r 6, ia T.2.1 3 g44_1), (bb, ia T.2.1 305 (va_up w48_1 1 (anF X d)))]) hM 2 1 rfl rfl (by omega) dX5_jumps_53 rfl ?_
    have hr53_1 : RG (va_up w48_1 1 (anF X d)) (gN (pX X)) (anF X d) ((plF X d) - (tpF (pX X) (anF X d).toNat)) (pH X) (gW (pX X)) (pX X) := hr48_1.s1 (anF X d)
    generalize va_up w48_1 1 (anF X d) = w53_1 at hr53_1 ⊢
    have hPs : PW (pX X, pH X, anF X d, (plF X d) - (tpF (pX X) (anF X d).toNat)) := PW_ms hX hd hn0
    refine xr_aload_n hM 1 dX5_jumps_54 rfl rfl ?_
    refine xr_callS2 (ws' := fun w55_1 g55_1 => [(r 0, ob 5 [.ref (r 1), .ref (r 2), .ref (r 3), .ref (r 4), iv sT, .ref (r 5), iv lE, .ref (r 6), iv aT, iv fR, iv wR, .ref (r 7)]), (r 6, ia T.2.1 3 g44_1), (bb, ia T.2.1 305 w55_1)]) (rest := []) (As := [.ref bb]) (st' := []) hM (ct_X5_settles M.2.1 T bb w53_1 (pX X, pH X, anF X d, (plF X d) - (tpF (pX X) (anF X d).toNat)) hr53_1 hPs) gX5_jumps_X5_settles rfl ⟨rfl, rfl⟩ hy_X5_settles rfl ⟨by decide, by decide⟩ [2] rfl rfl (fun _ _ => rfl) rfl rfl (Nat.le_of_ble_eq_true rfl) ⟨by decide, by decide⟩ (fun _ _ => rfl) dX5_jumps_55 (fun w55_1 g55_1 hP55_1 => ?_)
    have hf55_3 := (WW_se hPs).2
    have hf55_4 := seF_W (pX X, pH X, anF X d, (plF X d) - (tpF (pX X) (anF X d).toNat))
    have hf55_5 := seF_H (pX X, pH X, anF X d, (plF X d) - (tpF (pX X) (anF X d).toNat))
    have hw55_2 := (WW_se hPs).1.1.1
    have hw55_3 := (WW_se hPs).1
    exact xr_vret (hF _ g44_1 hP55_1) dX5_jumps_58 rfl

theorem ct_X5_jumped (l : Launch) (T : TT) (r : Nat → Nat) (sT lE aT fR wR : Int) (gs w : AR) (X : WnS) (d : Int) (hr : Rep w X) (hX : WW X) (hd : -2147483648 ≤ d ∧ d < 2147483648) : CT2 l yX5_jumped wsX5_jumped rm_X5_jumped T [.ref (r 0), iv d] ([(r 0, ob 5 [.ref (r 1), .ref (r 2), .ref (r 3), .ref (r 4), iv sT, .ref (r 5), iv lE, .ref (r 6), iv aT, iv fR, iv wR, .ref (r 7)]), (r 6, ia T.2.1 3 gs), (r 1, ia T.2.1 305 w)]) (some (iv ((msR X d).1))) (fun w_ g_ => Rep w_ (msR X d).2) (fun w_ g_ => [(r 0, ob 5 [.ref (r 1), .ref (r 2), .ref (r 3), .ref (r 4), iv sT, .ref (r 5), iv lE, .ref (r 6), iv aT, iv fR, iv wR, .ref (r 7)]), (r 6, ia T.2.1 3 g_), (r 1, ia T.2.1 305 w_)]) := by
  refine CT2.Z (maxL := 2) (lv0 := [(0, .ref (r 0)), (1, iv d)]) hp_X5_jumped rfl (Nat.le_of_ble_eq_true rfl) rfl rfl (fun M hM hF => ?_)
  have hn := hX.1.1.1
  have hwd := hX.1.1.2.1
  have hHH := hX.1.2.1
  have hSb := hX.1.2.2.2.2
  have hSs := hX.2
  have hAn := hX.an
  have hA0 := hX.1.2.2.1
  refine xr_iload_n hM 1 dX5_jumped_0 rfl rfl ?_
  refine xr_iconst hM dX5_jumped_1 ?_
  refine xr_sipush hM dX5_jumped_2 (by decide) ?_
  refine xr_callSr (rest := []) (As := [iv d, iv 0, iv 1000]) (st' := [iv (bi (0 ≤ d ∧ d ≤ 1000))]) hM (ct_X5_in M.2.1 T d 0 1000 (by omega)) gX5_jumped_X5_in rfl ⟨rfl, rfl⟩ hy_X5_in rfl ⟨by decide, by decide⟩ [] rfl rfl rfl rfl (Nat.le_of_ble_eq_true rfl) ⟨by decide, by decide⟩ dX5_jumped_5 ?_
  refine xr_ifb_ne hM 14 dX5_jumped_8 (by decide) (fun c8 => ?_) (fun c8 => ?_)
  · refine xr_aload_n hM 0 dX5_jumped_14 rfl rfl ?_
    refine xr_get (C := RX5) (TT0 := TX5) (N := 12) hM 5 0 0 (fun _ h => List.mem_cons_of_mem _ (List.mem_append_right _ h)) rfl rfl (by decide) (List.mem_of_getElem? (i := 2) rfl) rfl rfl dX5_jumped_15 ?_
    refine xr_iconst hM dX5_jumped_18 ?_
    refine xr_iald hM 2 0 rfl rfl (by omega) dX5_jumped_19 ?_
    refine xr_topv (v' := gN (pX X)) (hr.1) ?_
    refine xr_if_ne hM 26 dX5_jumped_20 (by decide) (by omega) (fun c20 => ?_) (fun c20 => ?_)
    · refine xr_aload_n hM 0 dX5_jumped_26 rfl rfl ?_
      refine xr_aload_n hM 0 dX5_jumped_27 rfl rfl ?_
      refine xr_get (C := RX5) (TT0 := TX5) (N := 12) hM 5 0 0 (fun _ h => List.mem_cons_of_mem _ (List.mem_append_right _ h)) rfl rfl (by decide) (List.mem_of_getElem? (i := 2) rfl) rfl rfl dX5_jumped_28 ?_
      refine xr_iload_n hM 1 dX5_jumped_31 rfl rfl ?_
      refine xr_callV2 (ws' := fun w32 g32 => [(r 0, ob 5 [.ref (r 1), .ref (r 2), .ref (r 3), .ref (r 4), iv sT, .ref (r 5), iv lE, .ref (r 6), iv aT, iv fR, iv wR, .ref (r 7)]), (r 6, ia T.2.1 3 g32), (r 1, ia T.2.1 305 w32)]) (rest := []) (As := [.ref (r 1), iv d]) (st' := []) hM (ct_X5_jumps M.2.1 T r sT lE aT fR wR gs (r 1) w X d hr hX.1.1 hX (by omega) (by omega)) gX5_jumped_X5_jumps rfl ⟨rfl, rfl⟩ hy_X5_jumps rfl ⟨by decide, by decide⟩ [0, 1, 2] rfl rfl (fun _ _ => rfl) 0 5 rfl rfl rfl rfl rfl (Nat.le_of_ble_eq_true rfl) ⟨by decide, by decide⟩ (fun _ _ => rfl) dX5_jumped_32 (fun w32 g32 hP32 => ?_)
      have hf32 := (WW_se (PW_ms hX (by omega) (by omega))).2
      have hw32 := (WW_se (PW_ms hX (by omega) (by omega))).1.1.1
      have hw32_1 := (WW_se (PW_ms hX (by omega) (by omega))).1
      refine xr_aload_n hM 0 dX5_jumped_35 rfl rfl ?_
      refine xr_get (C := RX5) (TT0 := TX5) (N := 12) hM 5 0 0 (fun _ h => List.mem_cons_of_mem _ (List.mem_append_right _ h)) rfl rfl (by decide) (List.mem_of_getElem? (i := 2) rfl) rfl rfl dX5_jumped_36 ?_
      refine xr_iconst hM dX5_jumped_39 ?_
      refine xr_iald hM 2 1 rfl rfl (by omega) dX5_jumped_40 ?_
      refine xr_topv (v' := pA (seF (msP X d))) (hP32.2.1) ?_
      exact xr_iret (hF w32 g32 (by rw [msR, if_neg (by omega), if_neg c20]; exact hP32)) dX5_jumped_41 (by rw [msR, if_neg (by omega), if_neg c20]) rfl
    · refine xr_ldc hM (-100002) (List.mem_of_getElem? (i := 3) rfl) (by decide) dX5_jumped_23 ?_
      exact xr_iret (hF w gs (by rw [msR, if_neg (by omega), if_pos c20]; exact hr)) dX5_jumped_25 (by rw [msR, if_neg (by omega), if_pos c20]) rfl
  · refine xr_ldc hM (-100001) (List.mem_of_getElem? (i := 1) rfl) (by decide) dX5_jumped_11 ?_
    exact xr_iret (hF w gs (by rw [msR, if_pos (by omega)]; exact hr)) dX5_jumped_13 (by rw [msR, if_pos (by omega)]) rfl

theorem lp_puts_65 {T : TT} {M : MB} (r : Nat → Nat) (sT lE aT fR wR : Int) (gs w : AR) (X : WnS) (i kd ln : Int) (hi : 0 ≤ i ∧ i ≤ gN (pX X)) (hn : gN (pX X) < 100) (hM : FM T M cX5_puts RX5 5 wsX5_puts rm_X5_puts) (hK : ∀ v : AR, (∀ j : Nat, v j = if 5 + 3 * i.toNat + 2 < j ∧ j ≤ 5 + 3 * (gN (pX X)).toNat + 2 then w (j - 3) else w j) → VV T M 5 [(0, .ref (r 0)), (1, iv i), (2, iv kd), (3, iv ln), (4, iv (5 + 3 * i - 1))] [(r 0, ob 5 [.ref (r 1), .ref (r 2), .ref (r 3), .ref (r 4), iv sT, .ref (r 5), iv lE, .ref (r 6), iv aT, iv fR, iv wR, .ref (r 7)]), (r 6, ia T.2.1 3 gs), (r 1, ia T.2.1 305 v)] 0 0 97 []) : ∀ (f : Nat) (k : Int) (v : AR), 5 + 3 * i - 1 ≤ k ∧ k ≤ 5 + 3 * gN (pX X) - 1 → k - (5 + 3 * i - 1) ≤ f → (∀ j : Nat, v j = if k + 3 < (j : Int) ∧ j ≤ 5 + 3 * (gN (pX X)).toNat + 2 then w (j - 3) else w j) → VV T M 5 [(0, .ref (r 0)), (1, iv i), (2, iv kd), (3, iv ln), (4, iv k)] [(r 0, ob 5 [.ref (r 1), .ref (r 2), .ref (r 3), .ref (r 4), iv sT, .ref (r 5), iv lE, .ref (r 6), iv aT, iv fR, iv wR, .ref (r 7)]), (r 6, ia T.2.1 3 gs), (r 1, ia T.2.1 305 v)] 0 0 65 [] := by
  intro f
  induction f with
  | zero =>
    intro k v h1 h2 hv
    refine xr_iload hM 4 dX5_puts_65 rfl ?_
    refine xr_iload_n hM 1 dX5_puts_67 rfl rfl ?_
    refine xr_iconst hM dX5_puts_68 ?_
    refine xr_callSr (rest := [iv k]) (As := [iv i, iv 0]) (st' := [iv (5 + 3 * i + 0), iv k]) hM (ct_X5_l M.2.1 T i 0) gX5_puts_X5_l rfl ⟨rfl, rfl⟩ hy_X5_l rfl ⟨by decide, by decide⟩ [] rfl rfl rfl rfl (Nat.le_of_ble_eq_true rfl) ⟨by decide, by decide⟩ dX5_puts_69 ?_
    refine xr_icmp_lt hM 97 dX5_puts_72 (by decide) (by omega) (fun c72 => ?_) (fun c72 => by exfalso; omega)
    obtain rfl : k = 5 + 3 * i - 1 := by omega
    refine hK v (fun j => ?_)
    rw [hv]
    by_cases e2 : 5 + 3 * i.toNat + 2 < j ∧ j ≤ 5 + 3 * (gN (pX X)).toNat + 2
    · rw [if_pos e2, if_pos (by omega)]
    · rw [if_neg e2, if_neg (by omega)]
  | succ f ih =>
    intro k v h1 h2 hv
    refine xr_iload hM 4 dX5_puts_65 rfl ?_
    refine xr_iload_n hM 1 dX5_puts_67 rfl rfl ?_
    refine xr_iconst hM dX5_puts_68 ?_
    refine xr_callSr (rest := [iv k]) (As := [iv i, iv 0]) (st' := [iv (5 + 3 * i + 0), iv k]) hM (ct_X5_l M.2.1 T i 0) gX5_puts_X5_l rfl ⟨rfl, rfl⟩ hy_X5_l rfl ⟨by decide, by decide⟩ [] rfl rfl rfl rfl (Nat.le_of_ble_eq_true rfl) ⟨by decide, by decide⟩ dX5_puts_69 ?_
    refine xr_icmp_lt hM 97 dX5_puts_72 (by decide) (by omega) (fun c72 => ?_) (fun c72 => ?_)
    · obtain rfl : k = 5 + 3 * i - 1 := by omega
      refine hK v (fun j => ?_)
      rw [hv]
      by_cases e2 : 5 + 3 * i.toNat + 2 < j ∧ j ≤ 5 + 3 * (gN (pX X)).toNat + 2
      · rw [if_pos e2, if_pos (by omega)]
      · rw [if_neg e2, if_neg (by omega)]
    · refine xr_aload_n hM 0 dX5_puts_75 rfl rfl ?_
      refine xr_get (C := RX5) (TT0 := TX5) (N := 12) hM 5 0 0 (fun _ h => List.mem_cons_of_mem _ (List.mem_append_right _ h)) rfl rfl (by decide) (List.mem_of_getElem? (i := 1) rfl) rfl rfl dX5_puts_76 ?_
      refine xr_iload hM 4 dX5_puts_79 rfl ?_
      refine xr_iconst hM dX5_puts_81 ?_
      refine xr_iadd hM dX5_puts_82 ?_
      refine xr_aload_n hM 0 dX5_puts_83 rfl rfl ?_
      refine xr_get (C := RX5) (TT0 := TX5) (N := 12) hM 5 0 0 (fun _ h => List.mem_cons_of_mem _ (List.mem_append_right _ h)) rfl rfl (by decide) (List.mem_of_getElem? (i := 1) rfl) rfl rfl dX5_puts_84 ?_
      refine xr_iload hM 4 dX5_puts_87 rfl ?_
      refine xr_iald hM 2 k.toNat rfl rfl (by omega) dX5_puts_89 ?_
      refine xr_iast (ws' := [(r 0, ob 5 [.ref (r 1), .ref (r 2), .ref (r 3), .ref (r 4), iv sT, .ref (r 5), iv lE, .ref (r 6), iv aT, iv fR, iv wR, .ref (r 7)]), (r 6, ia T.2.1 3 gs), (r 1, ia T.2.1 305 (va_up v ((k + 3).toNat) (v k.toNat)))]) hM 2 ((k + 3).toNat) rfl rfl (by omega) dX5_puts_90 rfl ?_
      refine xr_iinc (lv' := [(0, .ref (r 0)), (1, iv i), (2, iv kd), (3, iv ln), (4, iv (k + (-1)))]) hM 4 dX5_puts_91 rfl (by decide) rfl rfl ?_
      refine xr_goto hM 65 dX5_puts_94 (by decide) ?_
      refine ih (k - 1) _ (by omega) (by omega) ?_
      intro j
      unfold va_up
      by_cases e1 : j = (k + 3).toNat
      · rw [if_pos e1, hv, if_neg (by omega), if_pos (by omega)]
        congr 1
        omega
      · rw [if_neg e1, hv]
        by_cases e2 : k + 3 < (j : Int) ∧ j ≤ 5 + 3 * (gN (pX X)).toNat + 2
        · rw [if_pos e2, if_pos (by omega)]
        · rw [if_neg e2, if_neg (by omega)]

theorem ct_X5_puts (l : Launch) (T : TT) (r : Nat → Nat) (sT lE aT fR wR : Int) (gs w : AR) (X : WnS) (i kd ln : Int) (hr : Rep w X) (hX : WW X) (hi : -2147483648 ≤ i ∧ i < 2147483648) (hkd : -2147483648 ≤ kd ∧ kd < 2147483648) (hln : -2147483648 ≤ ln ∧ ln < 2147483648) : CT2 l yX5_puts wsX5_puts rm_X5_puts T [.ref (r 0), iv i, iv kd, iv ln] ([(r 0, ob 5 [.ref (r 1), .ref (r 2), .ref (r 3), .ref (r 4), iv sT, .ref (r 5), iv lE, .ref (r 6), iv aT, iv fR, iv wR, .ref (r 7)]), (r 6, ia T.2.1 3 gs), (r 1, ia T.2.1 305 w)]) (some (iv ((puR X i kd ln).1))) (fun w_ g_ => Rep w_ (puR X i kd ln).2) (fun w_ g_ => [(r 0, ob 5 [.ref (r 1), .ref (r 2), .ref (r 3), .ref (r 4), iv sT, .ref (r 5), iv lE, .ref (r 6), iv aT, iv fR, iv wR, .ref (r 7)]), (r 6, ia T.2.1 3 g_), (r 1, ia T.2.1 305 w_)]) := by
  refine CT2.Z (maxL := 5) (lv0 := [(0, .ref (r 0)), (1, iv i), (2, iv kd), (3, iv ln)]) hp_X5_puts rfl (Nat.le_of_ble_eq_true rfl) rfl rfl (fun M hM hF => ?_)
  have hn := hX.1.1.1
  have hwd := hX.1.1.2.1
  have hHH := hX.1.2.1
  have hSb := hX.1.2.2.2.2
  have hSs := hX.2
  have hAn := hX.an
  have hA0 := hX.1.2.2.1
  refine xr_iload_n hM 1 dX5_puts_0 rfl rfl ?_
  refine xr_iconst hM dX5_puts_1 ?_
  refine xr_aload_n hM 0 dX5_puts_2 rfl rfl ?_
  refine xr_get (C := RX5) (TT0 := TX5) (N := 12) hM 5 0 0 (fun _ h => List.mem_cons_of_mem _ (List.mem_append_right _ h)) rfl rfl (by decide) (List.mem_of_getElem? (i := 1) rfl) rfl rfl dX5_puts_3 ?_
  refine xr_iconst hM dX5_puts_6 ?_
  refine xr_iald hM 2 0 rfl rfl (by omega) dX5_puts_7 ?_
  refine xr_topv (v' := gN (pX X)) (hr.1) ?_
  refine xr_callSr (rest := []) (As := [iv i, iv 0, iv (gN (pX X))]) (st' := [iv (bi (0 ≤ i ∧ i ≤ (gN (pX X))))]) hM (ct_X5_in M.2.1 T i 0 (gN (pX X)) (by omega)) gX5_puts_X5_in rfl ⟨rfl, rfl⟩ hy_X5_in rfl ⟨by decide, by decide⟩ [] rfl rfl rfl rfl (Nat.le_of_ble_eq_true rfl) ⟨by decide, by decide⟩ dX5_puts_8 ?_
  refine xr_ifb_eq hM 34 dX5_puts_11 (by decide) (fun c11 => ?_) (fun c11 => ?_)
  · refine xr_ldc hM (-100001) (List.mem_of_getElem? (i := 2) rfl) (by decide) dX5_puts_34 ?_
    exact xr_iret (hF w gs (by rw [puR, if_pos (by omega)]; exact hr)) dX5_puts_36 (by rw [puR, if_pos (by omega)]) rfl
  · refine xr_iload_n hM 2 dX5_puts_14 rfl rfl ?_
    refine xr_iconst hM dX5_puts_15 ?_
    refine xr_iconst hM dX5_puts_16 ?_
    refine xr_callSr (rest := []) (As := [iv kd, iv 0, iv 2]) (st' := [iv (bi (0 ≤ kd ∧ kd ≤ 2))]) hM (ct_X5_in M.2.1 T kd 0 2 (by omega)) gX5_puts_X5_in rfl ⟨rfl, rfl⟩ hy_X5_in rfl ⟨by decide, by decide⟩ [] rfl rfl rfl rfl (Nat.le_of_ble_eq_true rfl) ⟨by decide, by decide⟩ dX5_puts_17 ?_
    refine xr_ifb_eq hM 34 dX5_puts_20 (by decide) (fun c20 => ?_) (fun c20 => ?_)
    · refine xr_ldc hM (-100001) (List.mem_of_getElem? (i := 2) rfl) (by decide) dX5_puts_34 ?_
      exact xr_iret (hF w gs (by rw [puR, if_pos (by omega)]; exact hr)) dX5_puts_36 (by rw [puR, if_pos (by omega)]) rfl
    · refine xr_iload_n hM 3 dX5_puts_23 rfl rfl ?_
      refine xr_iconst hM dX5_puts_24 ?_
      refine xr_sipush hM dX5_puts_25 (by decide) ?_
      refine xr_callSr (rest := []) (As := [iv ln, iv 0, iv 400]) (st' := [iv (bi (0 ≤ ln ∧ ln ≤ 400))]) hM (ct_X5_in M.2.1 T ln 0 400 (by omega)) gX5_puts_X5_in rfl ⟨rfl, rfl⟩ hy_X5_in rfl ⟨by decide, by decide⟩ [] rfl rfl rfl rfl (Nat.le_of_ble_eq_true rfl) ⟨by decide, by decide⟩ dX5_puts_28 ?_
      refine xr_ifb_ne hM 37 dX5_puts_31 (by decide) (fun c31 => ?_) (fun c31 => ?_)
      · refine xr_aload_n hM 0 dX5_puts_37 rfl rfl ?_
        refine xr_get (C := RX5) (TT0 := TX5) (N := 12) hM 5 0 0 (fun _ h => List.mem_cons_of_mem _ (List.mem_append_right _ h)) rfl rfl (by decide) (List.mem_of_getElem? (i := 1) rfl) rfl rfl dX5_puts_38 ?_
        refine xr_iconst hM dX5_puts_41 ?_
        refine xr_iald hM 2 0 rfl rfl (by omega) dX5_puts_42 ?_
        refine xr_topv (v' := gN (pX X)) (hr.1) ?_
        refine xr_bipush hM dX5_puts_43 (by decide) ?_
        refine xr_icmp_ne hM 51 dX5_puts_45 (by decide) (by omega) (fun c45 => ?_) (fun c45 => ?_)
        · refine xr_aload_n hM 0 dX5_puts_51 rfl rfl ?_
          refine xr_get (C := RX5) (TT0 := TX5) (N := 12) hM 5 0 0 (fun _ h => List.mem_cons_of_mem _ (List.mem_append_right _ h)) rfl rfl (by decide) (List.mem_of_getElem? (i := 1) rfl) rfl rfl dX5_puts_52 ?_
          refine xr_iconst hM dX5_puts_55 ?_
          refine xr_iald hM 2 0 rfl rfl (by omega) dX5_puts_56 ?_
          refine xr_topv (v' := gN (pX X)) (hr.1) ?_
          refine xr_iconst hM dX5_puts_57 ?_
          refine xr_callSr (rest := []) (As := [iv (gN (pX X)), iv 0]) (st' := [iv (5 + 3 * (gN (pX X)) + 0)]) hM (ct_X5_l M.2.1 T (gN (pX X)) 0) gX5_puts_X5_l rfl ⟨rfl, rfl⟩ hy_X5_l rfl ⟨by decide, by decide⟩ [] rfl rfl rfl rfl (Nat.le_of_ble_eq_true rfl) ⟨by decide, by decide⟩ dX5_puts_58 ?_
          refine xr_iconst hM dX5_puts_61 ?_
          refine xr_isub hM dX5_puts_62 ?_
          refine xr_topv (v' := 5 + 3 * gN (pX X) - 1) (by omega) ?_
          refine xr_istore (lv' := [(0, .ref (r 0)), (1, iv i), (2, iv kd), (3, iv ln), (4, iv (5 + 3 * gN (pX X) - 1))]) hM dX5_puts_63 (by decide) rfl rfl ?_
          refine lp_puts_65 r sT lE aT fR wR gs w X i kd ln (by omega) (by omega) hM (fun v hv => ?_) (3 * (gN (pX X) - i)).toNat (5 + 3 * gN (pX X) - 1) w (by omega) (by omega) (fun j => by rw [if_neg (by omega)])
          refine xr_aload_n hM 0 dX5_puts_97 rfl rfl ?_
          refine xr_get (C := RX5) (TT0 := TX5) (N := 12) hM 5 0 0 (fun _ h => List.mem_cons_of_mem _ (List.mem_append_right _ h)) rfl rfl (by decide) (List.mem_of_getElem? (i := 1) rfl) rfl rfl dX5_puts_98 ?_
          refine xr_iload_n hM 1 dX5_puts_101 rfl rfl ?_
          refine xr_iconst hM dX5_puts_102 ?_
          refine xr_callSr (rest := [.ref (r 1)]) (As := [iv i, iv 0]) (st' := [iv (5 + 3 * i + 0), .ref (r 1)]) hM (ct_X5_l M.2.1 T i 0) gX5_puts_X5_l rfl ⟨rfl, rfl⟩ hy_X5_l rfl ⟨by decide, by decide⟩ [] rfl rfl rfl rfl (Nat.le_of_ble_eq_true rfl) ⟨by decide, by decide⟩ dX5_puts_103 ?_
          refine xr_iload_n hM 2 dX5_puts_106 rfl rfl ?_
          refine xr_iast (ws' := [(r 0, ob 5 [.ref (r 1), .ref (r 2), .ref (r 3), .ref (r 4), iv sT, .ref (r 5), iv lE, .ref (r 6), iv aT, iv fR, iv wR, .ref (r 7)]), (r 6, ia T.2.1 3 gs), (r 1, ia T.2.1 305 (va_up v (rI i 0) kd))]) hM 2 (rI i 0) rfl (by unfold rI; omega) (by omega) dX5_puts_107 rfl ?_
          refine xr_aload_n hM 0 dX5_puts_108 rfl rfl ?_
          refine xr_get (C := RX5) (TT0 := TX5) (N := 12) hM 5 0 0 (fun _ h => List.mem_cons_of_mem _ (List.mem_append_right _ h)) rfl rfl (by decide) (List.mem_of_getElem? (i := 1) rfl) rfl rfl dX5_puts_109 ?_
          refine xr_iload_n hM 1 dX5_puts_112 rfl rfl ?_
          refine xr_iconst hM dX5_puts_113 ?_
          refine xr_callSr (rest := [.ref (r 1)]) (As := [iv i, iv 1]) (st' := [iv (5 + 3 * i + 1), .ref (r 1)]) hM (ct_X5_l M.2.1 T i 1) gX5_puts_X5_l rfl ⟨rfl, rfl⟩ hy_X5_l rfl ⟨by decide, by decide⟩ [] rfl rfl rfl rfl (Nat.le_of_ble_eq_true rfl) ⟨by decide, by decide⟩ dX5_puts_114 ?_
          refine xr_iload_n hM 3 dX5_puts_117 rfl rfl ?_
          refine xr_iast (ws' := [(r 0, ob 5 [.ref (r 1), .ref (r 2), .ref (r 3), .ref (r 4), iv sT, .ref (r 5), iv lE, .ref (r 6), iv aT, iv fR, iv wR, .ref (r 7)]), (r 6, ia T.2.1 3 gs), (r 1, ia T.2.1 305 (va_up (va_up v (rI i 0) kd) (rI i 1) ln))]) hM 2 (rI i 1) rfl (by unfold rI; omega) (by omega) dX5_puts_118 rfl ?_
          refine xr_aload_n hM 0 dX5_puts_119 rfl rfl ?_
          refine xr_get (C := RX5) (TT0 := TX5) (N := 12) hM 5 0 0 (fun _ h => List.mem_cons_of_mem _ (List.mem_append_right _ h)) rfl rfl (by decide) (List.mem_of_getElem? (i := 1) rfl) rfl rfl dX5_puts_120 ?_
          refine xr_iload_n hM 1 dX5_puts_123 rfl rfl ?_
          refine xr_iconst hM dX5_puts_124 ?_
          refine xr_callSr (rest := [.ref (r 1)]) (As := [iv i, iv 2]) (st' := [iv (5 + 3 * i + 2), .ref (r 1)]) hM (ct_X5_l M.2.1 T i 2) gX5_puts_X5_l rfl ⟨rfl, rfl⟩ hy_X5_l rfl ⟨by decide, by decide⟩ [] rfl rfl rfl rfl (Nat.le_of_ble_eq_true rfl) ⟨by decide, by decide⟩ dX5_puts_125 ?_
          refine xr_iconst hM dX5_puts_128 ?_
          refine xr_iast (ws' := [(r 0, ob 5 [.ref (r 1), .ref (r 2), .ref (r 3), .ref (r 4), iv sT, .ref (r 5), iv lE, .ref (r 6), iv aT, iv fR, iv wR, .ref (r 7)]), (r 6, ia T.2.1 3 gs), (r 1, ia T.2.1 305 (va_up (va_up (va_up v (rI i 0) kd) (rI i 1) ln) (rI i 2) 0))]) hM 2 (rI i 2) rfl (by unfold rI; omega) (by omega) dX5_puts_129 rfl ?_
          have hr9 : RG (va_up (va_up (va_up v (rI i 0) kd) (rI i 1) ln) (rI i 2) 0) (gN (pX X)) (pA X) (pS X) (pH X) (gW (pX X)) (inF (pX X) i kd ln) := RG.inn hr (by omega) hv
          generalize va_up (va_up (va_up v (rI i 0) kd) (rI i 1) ln) (rI i 2) 0 = w9 at hr9 ⊢
          have hin := inF_N (pX X) i kd ln
          refine xr_aload_n hM 0 dX5_puts_130 rfl rfl ?_
          refine xr_get (C := RX5) (TT0 := TX5) (N := 12) hM 5 0 0 (fun _ h => List.mem_cons_of_mem _ (List.mem_append_right _ h)) rfl rfl (by decide) (List.mem_of_getElem? (i := 1) rfl) rfl rfl dX5_puts_131 ?_
          refine xr_iconst hM dX5_puts_134 ?_
          refine xr_iald hM 2 0 rfl rfl (by omega) dX5_puts_135 ?_
          refine xr_topv (v' := gN (pX X)) (hr9.1) ?_
          refine xr_if_ne hM 156 dX5_puts_136 (by decide) (by omega) (fun c136 => ?_) (fun c136 => ?_)
          · refine xr_iload_n hM 1 dX5_puts_156 rfl rfl ?_
            refine xr_aload_n hM 0 dX5_puts_157 rfl rfl ?_
            refine xr_get (C := RX5) (TT0 := TX5) (N := 12) hM 5 0 0 (fun _ h => List.mem_cons_of_mem _ (List.mem_append_right _ h)) rfl rfl (by decide) (List.mem_of_getElem? (i := 1) rfl) rfl rfl dX5_puts_158 ?_
            refine xr_iconst hM dX5_puts_161 ?_
            refine xr_iald hM 2 1 rfl rfl (by omega) dX5_puts_162 ?_
            refine xr_topv (v' := pA X) (hr9.2.1) ?_
            refine xr_icmp_gt hM 176 dX5_puts_163 (by decide) (by omega) (fun c163 => ?_) (fun c163 => ?_)
            · refine xr_aload_n hM 0 dX5_puts_176 rfl rfl ?_
              refine xr_get (C := RX5) (TT0 := TX5) (N := 12) hM 5 0 0 (fun _ h => List.mem_cons_of_mem _ (List.mem_append_right _ h)) rfl rfl (by decide) (List.mem_of_getElem? (i := 1) rfl) rfl rfl dX5_puts_177 ?_
              refine xr_iconst hM dX5_puts_180 ?_
              refine xr_dup2 hM dX5_puts_181 rfl rfl ?_
              refine xr_iald hM 2 0 rfl rfl (by omega) dX5_puts_182 ?_
              refine xr_topv (v' := gN (pX X)) (hr9.1) ?_
              refine xr_iconst hM dX5_puts_183 ?_
              refine xr_iadd hM dX5_puts_184 ?_
              refine xr_iast (ws' := [(r 0, ob 5 [.ref (r 1), .ref (r 2), .ref (r 3), .ref (r 4), iv sT, .ref (r 5), iv lE, .ref (r 6), iv aT, iv fR, iv wR, .ref (r 7)]), (r 6, ia T.2.1 3 gs), (r 1, ia T.2.1 305 (va_up w9 0 ((gN (pX X)) + 1)))]) hM 2 0 rfl rfl (by omega) dX5_puts_185 rfl ?_
              have hr185 : RG (va_up w9 0 ((gN (pX X)) + 1)) ((gN (pX X)) + 1) (pA X) (pS X) (pH X) (gW (pX X)) (inF (pX X) i kd ln) := hr9.s0 ((gN (pX X)) + 1)
              generalize va_up w9 0 ((gN (pX X)) + 1) = w185 at hr185 ⊢
              have hPs : PW (inF (pX X) i kd ln, pH X, pA X, pS X) := by have q := PW_pu hX (i := i) (kd := kd) (ln := ln) (by omega) (by omega) (by omega) (by omega); rwa [if_neg (by omega)] at q
              refine xr_aload_n hM 0 dX5_puts_186 rfl rfl ?_
              refine xr_get (C := RX5) (TT0 := TX5) (N := 12) hM 5 0 0 (fun _ h => List.mem_cons_of_mem _ (List.mem_append_right _ h)) rfl rfl (by decide) (List.mem_of_getElem? (i := 1) rfl) rfl rfl dX5_puts_187 ?_
              refine xr_callS2 (ws' := fun w190 g190 => [(r 0, ob 5 [.ref (r 1), .ref (r 2), .ref (r 3), .ref (r 4), iv sT, .ref (r 5), iv lE, .ref (r 6), iv aT, iv fR, iv wR, .ref (r 7)]), (r 6, ia T.2.1 3 gs), (r 1, ia T.2.1 305 w190)]) (rest := []) (As := [.ref (r 1)]) (st' := []) hM (ct_X5_settles M.2.1 T (r 1) w185 (inF (pX X) i kd ln, pH X, pA X, pS X) hr185 hPs) gX5_puts_X5_settles rfl ⟨rfl, rfl⟩ hy_X5_settles rfl ⟨by decide, by decide⟩ [2] rfl rfl (fun _ _ => rfl) rfl rfl (Nat.le_of_ble_eq_true rfl) ⟨by decide, by decide⟩ (fun _ _ => rfl) dX5_puts_190 (fun w190 g190 hP190 => ?_)
              have hf190 := (WW_se hPs).2
              have hf190_1 := seF_W (inF (pX X) i kd ln, pH X, pA X, pS X)
              have hf190_2 := seF_H (inF (pX X) i kd ln, pH X, pA X, pS X)
              have hw190 := (WW_se hPs).1.1.1
              have hw190_1 := (WW_se hPs).1
              refine xr_aload_n hM 0 dX5_puts_193 rfl rfl ?_
              refine xr_aload_n hM 0 dX5_puts_194 rfl rfl ?_
              refine xr_get (C := RX5) (TT0 := TX5) (N := 12) hM 5 0 0 (fun _ h => List.mem_cons_of_mem _ (List.mem_append_right _ h)) rfl rfl (by decide) (List.mem_of_getElem? (i := 1) rfl) rfl rfl dX5_puts_195 ?_
              refine xr_callV2 (ws' := fun w198 g198 => [(r 0, ob 5 [.ref (r 1), .ref (r 2), .ref (r 3), .ref (r 4), iv sT, .ref (r 5), iv lE, .ref (r 6), iv aT, iv fR, iv wR, .ref (r 7)]), (r 6, ia T.2.1 3 g198), (r 1, ia T.2.1 305 w190)]) (rest := []) (As := [.ref (r 1)]) (st' := [iv (tpF (pX (seF (inF (pX X) i kd ln, pH X, pA X, pS X))) (gN (pX (seF (inF (pX X) i kd ln, pH X, pA X, pS X)))).toNat)]) hM (ct_X5_total M.2.1 T r sT lE aT fR wR gs (r 1) w190 (seF (inF (pX X) i kd ln, pH X, pA X, pS X)) hP190 hw190) gX5_puts_X5_total rfl ⟨rfl, rfl⟩ hy_X5_total rfl ⟨by decide, by decide⟩ [0, 1, 2] rfl rfl (fun _ _ => rfl) 0 5 rfl rfl rfl rfl rfl (Nat.le_of_ble_eq_true rfl) ⟨by decide, by decide⟩ (fun _ _ => rfl) dX5_puts_198 (fun w198 g198 hP198 => ?_)
              have hf198 := tpF_b hw190 (gN (pX (seF (inF (pX X) i kd ln, pH X, pA X, pS X)))).toNat
              exact xr_iret (hF w190 g198 (by rw [puR, if_neg (by omega), if_neg (by omega), if_neg (by omega)]; exact hP190)) dX5_puts_201 (by rw [puR, if_neg (by omega), if_neg (by omega), if_neg (by omega)] <;> rfl) rfl
            · refine xr_aload_n hM 0 dX5_puts_166 rfl rfl ?_
              refine xr_get (C := RX5) (TT0 := TX5) (N := 12) hM 5 0 0 (fun _ h => List.mem_cons_of_mem _ (List.mem_append_right _ h)) rfl rfl (by decide) (List.mem_of_getElem? (i := 1) rfl) rfl rfl dX5_puts_167 ?_
              refine xr_iconst hM dX5_puts_170 ?_
              refine xr_dup2 hM dX5_puts_171 rfl rfl ?_
              refine xr_iald hM 2 1 rfl rfl (by omega) dX5_puts_172 ?_
              refine xr_topv (v' := pA X) (hr9.2.1) ?_
              refine xr_iconst hM dX5_puts_173 ?_
              refine xr_iadd hM dX5_puts_174 ?_
              refine xr_iast (ws' := [(r 0, ob 5 [.ref (r 1), .ref (r 2), .ref (r 3), .ref (r 4), iv sT, .ref (r 5), iv lE, .ref (r 6), iv aT, iv fR, iv wR, .ref (r 7)]), (r 6, ia T.2.1 3 gs), (r 1, ia T.2.1 305 (va_up w9 1 ((pA X) + 1)))]) hM 2 1 rfl rfl (by omega) dX5_puts_175 rfl ?_
              have hr175 : RG (va_up w9 1 ((pA X) + 1)) (gN (pX X)) ((pA X) + 1) (pS X) (pH X) (gW (pX X)) (inF (pX X) i kd ln) := hr9.s1 ((pA X) + 1)
              generalize va_up w9 1 ((pA X) + 1) = w175 at hr175 ⊢
              refine xr_aload_n hM 0 dX5_puts_176 rfl rfl ?_
              refine xr_get (C := RX5) (TT0 := TX5) (N := 12) hM 5 0 0 (fun _ h => List.mem_cons_of_mem _ (List.mem_append_right _ h)) rfl rfl (by decide) (List.mem_of_getElem? (i := 1) rfl) rfl rfl dX5_puts_177 ?_
              refine xr_iconst hM dX5_puts_180 ?_
              refine xr_dup2 hM dX5_puts_181 rfl rfl ?_
              refine xr_iald hM 2 0 rfl rfl (by omega) dX5_puts_182 ?_
              refine xr_topv (v' := gN (pX X)) (hr175.1) ?_
              refine xr_iconst hM dX5_puts_183 ?_
              refine xr_iadd hM dX5_puts_184 ?_
              refine xr_iast (ws' := [(r 0, ob 5 [.ref (r 1), .ref (r 2), .ref (r 3), .ref (r 4), iv sT, .ref (r 5), iv lE, .ref (r 6), iv aT, iv fR, iv wR, .ref (r 7)]), (r 6, ia T.2.1 3 gs), (r 1, ia T.2.1 305 (va_up w175 0 ((gN (pX X)) + 1)))]) hM 2 0 rfl rfl (by omega) dX5_puts_185 rfl ?_
              have hr185_1 : RG (va_up w175 0 ((gN (pX X)) + 1)) ((gN (pX X)) + 1) ((pA X) + 1) (pS X) (pH X) (gW (pX X)) (inF (pX X) i kd ln) := hr175.s0 ((gN (pX X)) + 1)
              generalize va_up w175 0 ((gN (pX X)) + 1) = w185_1 at hr185_1 ⊢
              have hPs : PW (inF (pX X) i kd ln, pH X, (pA X) + 1, pS X) := by have q := PW_pu hX (i := i) (kd := kd) (ln := ln) (by omega) (by omega) (by omega) (by omega); rwa [if_pos (by omega)] at q
              refine xr_aload_n hM 0 dX5_puts_186 rfl rfl ?_
              refine xr_get (C := RX5) (TT0 := TX5) (N := 12) hM 5 0 0 (fun _ h => List.mem_cons_of_mem _ (List.mem_append_right _ h)) rfl rfl (by decide) (List.mem_of_getElem? (i := 1) rfl) rfl rfl dX5_puts_187 ?_
              refine xr_callS2 (ws' := fun w190_1 g190_1 => [(r 0, ob 5 [.ref (r 1), .ref (r 2), .ref (r 3), .ref (r 4), iv sT, .ref (r 5), iv lE, .ref (r 6), iv aT, iv fR, iv wR, .ref (r 7)]), (r 6, ia T.2.1 3 gs), (r 1, ia T.2.1 305 w190_1)]) (rest := []) (As := [.ref (r 1)]) (st' := []) hM (ct_X5_settles M.2.1 T (r 1) w185_1 (inF (pX X) i kd ln, pH X, (pA X) + 1, pS X) hr185_1 hPs) gX5_puts_X5_settles rfl ⟨rfl, rfl⟩ hy_X5_settles rfl ⟨by decide, by decide⟩ [2] rfl rfl (fun _ _ => rfl) rfl rfl (Nat.le_of_ble_eq_true rfl) ⟨by decide, by decide⟩ (fun _ _ => rfl) dX5_puts_190 (fun w190_1 g190_1 hP190_1 => ?_)
              have hf190_3 := (WW_se hPs).2
              have hf190_4 := seF_W (inF (pX X) i kd ln, pH X, (pA X) + 1, pS X)
              have hf190_5 := seF_H (inF (pX X) i kd ln, pH X, (pA X) + 1, pS X)
              have hw190_2 := (WW_se hPs).1.1.1
              have hw190_3 := (WW_se hPs).1
              refine xr_aload_n hM 0 dX5_puts_193 rfl rfl ?_
              refine xr_aload_n hM 0 dX5_puts_194 rfl rfl ?_
              refine xr_get (C := RX5) (TT0 := TX5) (N := 12) hM 5 0 0 (fun _ h => List.mem_cons_of_mem _ (List.mem_append_right _ h)) rfl rfl (by decide) (List.mem_of_getElem? (i := 1) rfl) rfl rfl dX5_puts_195 ?_
              refine xr_callV2 (ws' := fun w198_1 g198_1 => [(r 0, ob 5 [.ref (r 1), .ref (r 2), .ref (r 3), .ref (r 4), iv sT, .ref (r 5), iv lE, .ref (r 6), iv aT, iv fR, iv wR, .ref (r 7)]), (r 6, ia T.2.1 3 g198_1), (r 1, ia T.2.1 305 w190_1)]) (rest := []) (As := [.ref (r 1)]) (st' := [iv (tpF (pX (seF (inF (pX X) i kd ln, pH X, (pA X) + 1, pS X))) (gN (pX (seF (inF (pX X) i kd ln, pH X, (pA X) + 1, pS X)))).toNat)]) hM (ct_X5_total M.2.1 T r sT lE aT fR wR gs (r 1) w190_1 (seF (inF (pX X) i kd ln, pH X, (pA X) + 1, pS X)) hP190_1 hw190_2) gX5_puts_X5_total rfl ⟨rfl, rfl⟩ hy_X5_total rfl ⟨by decide, by decide⟩ [0, 1, 2] rfl rfl (fun _ _ => rfl) 0 5 rfl rfl rfl rfl rfl (Nat.le_of_ble_eq_true rfl) ⟨by decide, by decide⟩ (fun _ _ => rfl) dX5_puts_198 (fun w198_1 g198_1 hP198_1 => ?_)
              have hf198_1 := tpF_b hw190_2 (gN (pX (seF (inF (pX X) i kd ln, pH X, (pA X) + 1, pS X)))).toNat
              exact xr_iret (hF w190_1 g198_1 (by rw [puR, if_neg (by omega), if_neg (by omega), if_pos (by omega)]; exact hP190_1)) dX5_puts_201 (by rw [puR, if_neg (by omega), if_neg (by omega), if_pos (by omega)] <;> rfl) rfl
          · refine xr_aload_n hM 0 dX5_puts_139 rfl rfl ?_
            refine xr_get (C := RX5) (TT0 := TX5) (N := 12) hM 5 0 0 (fun _ h => List.mem_cons_of_mem _ (List.mem_append_right _ h)) rfl rfl (by decide) (List.mem_of_getElem? (i := 1) rfl) rfl rfl dX5_puts_140 ?_
            refine xr_iconst hM dX5_puts_143 ?_
            refine xr_iconst hM dX5_puts_144 ?_
            refine xr_iast (ws' := [(r 0, ob 5 [.ref (r 1), .ref (r 2), .ref (r 3), .ref (r 4), iv sT, .ref (r 5), iv lE, .ref (r 6), iv aT, iv fR, iv wR, .ref (r 7)]), (r 6, ia T.2.1 3 gs), (r 1, ia T.2.1 305 (va_up w9 1 0))]) hM 2 1 rfl rfl (by omega) dX5_puts_145 rfl ?_
            have hr145 : RG (va_up w9 1 0) (gN (pX X)) 0 (pS X) (pH X) (gW (pX X)) (inF (pX X) i kd ln) := hr9.s1 0
            generalize va_up w9 1 0 = w145 at hr145 ⊢
            refine xr_aload_n hM 0 dX5_puts_146 rfl rfl ?_
            refine xr_get (C := RX5) (TT0 := TX5) (N := 12) hM 5 0 0 (fun _ h => List.mem_cons_of_mem _ (List.mem_append_right _ h)) rfl rfl (by decide) (List.mem_of_getElem? (i := 1) rfl) rfl rfl dX5_puts_147 ?_
            refine xr_iconst hM dX5_puts_150 ?_
            refine xr_iconst hM dX5_puts_151 ?_
            refine xr_iast (ws' := [(r 0, ob 5 [.ref (r 1), .ref (r 2), .ref (r 3), .ref (r 4), iv sT, .ref (r 5), iv lE, .ref (r 6), iv aT, iv fR, iv wR, .ref (r 7)]), (r 6, ia T.2.1 3 gs), (r 1, ia T.2.1 305 (va_up w145 2 0))]) hM 2 2 rfl rfl (by omega) dX5_puts_152 rfl ?_
            have hr152 : RG (va_up w145 2 0) (gN (pX X)) 0 0 (pH X) (gW (pX X)) (inF (pX X) i kd ln) := hr145.s2 0
            generalize va_up w145 2 0 = w152 at hr152 ⊢
            refine xr_goto hM 176 dX5_puts_153 (by decide) ?_
            refine xr_aload_n hM 0 dX5_puts_176 rfl rfl ?_
            refine xr_get (C := RX5) (TT0 := TX5) (N := 12) hM 5 0 0 (fun _ h => List.mem_cons_of_mem _ (List.mem_append_right _ h)) rfl rfl (by decide) (List.mem_of_getElem? (i := 1) rfl) rfl rfl dX5_puts_177 ?_
            refine xr_iconst hM dX5_puts_180 ?_
            refine xr_dup2 hM dX5_puts_181 rfl rfl ?_
            refine xr_iald hM 2 0 rfl rfl (by omega) dX5_puts_182 ?_
            refine xr_topv (v' := gN (pX X)) (hr152.1) ?_
            refine xr_iconst hM dX5_puts_183 ?_
            refine xr_iadd hM dX5_puts_184 ?_
            refine xr_iast (ws' := [(r 0, ob 5 [.ref (r 1), .ref (r 2), .ref (r 3), .ref (r 4), iv sT, .ref (r 5), iv lE, .ref (r 6), iv aT, iv fR, iv wR, .ref (r 7)]), (r 6, ia T.2.1 3 gs), (r 1, ia T.2.1 305 (va_up w152 0 ((gN (pX X)) + 1)))]) hM 2 0 rfl rfl (by omega) dX5_puts_185 rfl ?_
            have hr185_2 : RG (va_up w152 0 ((gN (pX X)) + 1)) ((gN (pX X)) + 1) 0 0 (pH X) (gW (pX X)) (inF (pX X) i kd ln) := hr152.s0 ((gN (pX X)) + 1)
            generalize va_up w152 0 ((gN (pX X)) + 1) = w185_2 at hr185_2 ⊢
            have hPs : PW (inF (pX X) i kd ln, pH X, 0, 0) := by have q := PW_pu hX (i := i) (kd := kd) (ln := ln) (by omega) (by omega) (by omega) (by omega); rw [if_neg (by omega), (hA0 (by omega)).1, (hA0 (by omega)).2] at q; exact q
            refine xr_aload_n hM 0 dX5_puts_186 rfl rfl ?_
            refine xr_get (C := RX5) (TT0 := TX5) (N := 12) hM 5 0 0 (fun _ h => List.mem_cons_of_mem _ (List.mem_append_right _ h)) rfl rfl (by decide) (List.mem_of_getElem? (i := 1) rfl) rfl rfl dX5_puts_187 ?_
            refine xr_callS2 (ws' := fun w190_2 g190_2 => [(r 0, ob 5 [.ref (r 1), .ref (r 2), .ref (r 3), .ref (r 4), iv sT, .ref (r 5), iv lE, .ref (r 6), iv aT, iv fR, iv wR, .ref (r 7)]), (r 6, ia T.2.1 3 gs), (r 1, ia T.2.1 305 w190_2)]) (rest := []) (As := [.ref (r 1)]) (st' := []) hM (ct_X5_settles M.2.1 T (r 1) w185_2 (inF (pX X) i kd ln, pH X, 0, 0) hr185_2 hPs) gX5_puts_X5_settles rfl ⟨rfl, rfl⟩ hy_X5_settles rfl ⟨by decide, by decide⟩ [2] rfl rfl (fun _ _ => rfl) rfl rfl (Nat.le_of_ble_eq_true rfl) ⟨by decide, by decide⟩ (fun _ _ => rfl) dX5_puts_190 (fun w190_2 g190_2 hP190_2 => ?_)
            have hf190_6 := (WW_se hPs).2
            have hf190_7 := seF_W (inF (pX X) i kd ln, pH X, 0, 0)
            have hf190_8 := seF_H (inF (pX X) i kd ln, pH X, 0, 0)
            have hw190_4 := (WW_se hPs).1.1.1
            have hw190_5 := (WW_se hPs).1
            refine xr_aload_n hM 0 dX5_puts_193 rfl rfl ?_
            refine xr_aload_n hM 0 dX5_puts_194 rfl rfl ?_
            refine xr_get (C := RX5) (TT0 := TX5) (N := 12) hM 5 0 0 (fun _ h => List.mem_cons_of_mem _ (List.mem_append_right _ h)) rfl rfl (by decide) (List.mem_of_getElem? (i := 1) rfl) rfl rfl dX5_puts_195 ?_
            refine xr_callV2 (ws' := fun w198_2 g198_2 => [(r 0, ob 5 [.ref (r 1), .ref (r 2), .ref (r 3), .ref (r 4), iv sT, .ref (r 5), iv lE, .ref (r 6), iv aT, iv fR, iv wR, .ref (r 7)]), (r 6, ia T.2.1 3 g198_2), (r 1, ia T.2.1 305 w190_2)]) (rest := []) (As := [.ref (r 1)]) (st' := [iv (tpF (pX (seF (inF (pX X) i kd ln, pH X, 0, 0))) (gN (pX (seF (inF (pX X) i kd ln, pH X, 0, 0)))).toNat)]) hM (ct_X5_total M.2.1 T r sT lE aT fR wR gs (r 1) w190_2 (seF (inF (pX X) i kd ln, pH X, 0, 0)) hP190_2 hw190_4) gX5_puts_X5_total rfl ⟨rfl, rfl⟩ hy_X5_total rfl ⟨by decide, by decide⟩ [0, 1, 2] rfl rfl (fun _ _ => rfl) 0 5 rfl rfl rfl rfl rfl (Nat.le_of_ble_eq_true rfl) ⟨by decide, by decide⟩ (fun _ _ => rfl) dX5_puts_198 (fun w198_2 g198_2 hP198_2 => ?_)
            have hf198_2 := tpF_b hw190_4 (gN (pX (seF (inF (pX X) i kd ln, pH X, 0, 0)))).toNat
            exact xr_iret (hF w190_2 g198_2 (by rw [puR, if_neg (by omega), if_neg (by omega), if_neg (by omega), (hA0 (by omega)).1, (hA0 (by omega)).2]; exact hP190_2)) dX5_puts_201 (by rw [puR, if_neg (by omega), if_neg (by omega), if_neg (by omega), (hA0 (by omega)).1, (hA0 (by omega)).2] <;> rfl) rfl
        · refine xr_ldc hM (-100003) (List.mem_of_getElem? (i := 3) rfl) (by decide) dX5_puts_48 ?_
          exact xr_iret (hF w gs (by rw [puR, if_neg (by omega), if_pos (by omega)]; exact hr)) dX5_puts_50 (by rw [puR, if_neg (by omega), if_pos (by omega)]) rfl
      · refine xr_ldc hM (-100001) (List.mem_of_getElem? (i := 2) rfl) (by decide) dX5_puts_34 ?_
        exact xr_iret (hF w gs (by rw [puR, if_pos (by omega)]; exact hr)) dX5_puts_36 (by rw [puR, if_pos (by omega)]) rfl

theorem lp_cuts_27 {T : TT} {M : MB} (r : Nat → Nat) (sT lE aT fR wR : Int) (gs w : AR) (X : WnS) (u : AR) (i : Int) (hi : 0 ≤ i ∧ i < gN (pX X)) (hn : gN (pX X) ≤ 100) (hu : u 0 = gN (pX X) - 1) (hM : FM T M cX5_cuts RX5 3 wsX5_cuts rm_X5_cuts) (hK : ∀ v : AR, (∀ j : Nat, v j = if 5 + 3 * i.toNat ≤ j ∧ j < 5 + 3 * (gN (pX X) - 1).toNat then u (j + 3) else u j) → VV T M 3 [(0, .ref (r 0)), (1, iv i), (2, iv (5 + 3 * (gN (pX X) - 1)))] [(r 0, ob 5 [.ref (r 1), .ref (r 2), .ref (r 3), .ref (r 4), iv sT, .ref (r 5), iv lE, .ref (r 6), iv aT, iv fR, iv wR, .ref (r 7)]), (r 6, ia T.2.1 3 gs), (r 1, ia T.2.1 305 v)] 0 0 61 []) : ∀ (f : Nat) (k : Int) (v : AR), 5 + 3 * i ≤ k ∧ k ≤ 5 + 3 * (gN (pX X) - 1) → 5 + 3 * (gN (pX X) - 1) - k ≤ f → (∀ j : Nat, v j = if 5 + 3 * i.toNat ≤ j ∧ (j : Int) < k then u (j + 3) else u j) → VV T M 3 [(0, .ref (r 0)), (1, iv i), (2, iv k)] [(r 0, ob 5 [.ref (r 1), .ref (r 2), .ref (r 3), .ref (r 4), iv sT, .ref (r 5), iv lE, .ref (r 6), iv aT, iv fR, iv wR, .ref (r 7)]), (r 6, ia T.2.1 3 gs), (r 1, ia T.2.1 305 v)] 0 0 27 [] := by
  intro f
  induction f with
  | zero =>
    intro k v h1 h2 hv
    have hv0 : v 0 = gN (pX X) - 1 := by rw [hv, if_neg (by omega)]; exact hu
    refine xr_iload_n hM 2 dX5_cuts_27 rfl rfl ?_
    refine xr_aload_n hM 0 dX5_cuts_28 rfl rfl ?_
    refine xr_get (C := RX5) (TT0 := TX5) (N := 12) hM 5 0 0 (fun _ h => List.mem_cons_of_mem _ (List.mem_append_right _ h)) rfl rfl (by decide) (List.mem_of_getElem? (i := 2) rfl) rfl rfl dX5_cuts_29 ?_
    refine xr_iconst hM dX5_cuts_32 ?_
    refine xr_iald hM 2 0 rfl rfl (by omega) dX5_cuts_33 ?_
    refine xr_iconst hM dX5_cuts_34 ?_
    refine xr_callSr (rest := [iv k]) (As := [iv (v 0), iv 0]) (st' := [iv (5 + 3 * (v 0) + 0), iv k]) hM (ct_X5_l M.2.1 T (v 0) 0) gX5_cuts_X5_l rfl ⟨rfl, rfl⟩ hy_X5_l rfl ⟨by decide, by decide⟩ [] rfl rfl rfl rfl (Nat.le_of_ble_eq_true rfl) ⟨by decide, by decide⟩ dX5_cuts_35 ?_
    refine xr_icmp_ge hM 61 dX5_cuts_38 (by decide) (by omega) (fun c38 => ?_) (fun c38 => by exfalso; omega)
    obtain rfl : k = 5 + 3 * (gN (pX X) - 1) := by omega
    refine hK v (fun j => ?_)
    rw [hv]
    by_cases e2 : 5 + 3 * i.toNat ≤ j ∧ j < 5 + 3 * (gN (pX X) - 1).toNat
    · rw [if_pos (by omega), if_pos e2]
    · rw [if_neg (by omega), if_neg e2]
  | succ f ih =>
    intro k v h1 h2 hv
    have hv0 : v 0 = gN (pX X) - 1 := by rw [hv, if_neg (by omega)]; exact hu
    refine xr_iload_n hM 2 dX5_cuts_27 rfl rfl ?_
    refine xr_aload_n hM 0 dX5_cuts_28 rfl rfl ?_
    refine xr_get (C := RX5) (TT0 := TX5) (N := 12) hM 5 0 0 (fun _ h => List.mem_cons_of_mem _ (List.mem_append_right _ h)) rfl rfl (by decide) (List.mem_of_getElem? (i := 2) rfl) rfl rfl dX5_cuts_29 ?_
    refine xr_iconst hM dX5_cuts_32 ?_
    refine xr_iald hM 2 0 rfl rfl (by omega) dX5_cuts_33 ?_
    refine xr_iconst hM dX5_cuts_34 ?_
    refine xr_callSr (rest := [iv k]) (As := [iv (v 0), iv 0]) (st' := [iv (5 + 3 * (v 0) + 0), iv k]) hM (ct_X5_l M.2.1 T (v 0) 0) gX5_cuts_X5_l rfl ⟨rfl, rfl⟩ hy_X5_l rfl ⟨by decide, by decide⟩ [] rfl rfl rfl rfl (Nat.le_of_ble_eq_true rfl) ⟨by decide, by decide⟩ dX5_cuts_35 ?_
    refine xr_icmp_ge hM 61 dX5_cuts_38 (by decide) (by omega) (fun c38 => ?_) (fun c38 => ?_)
    · obtain rfl : k = 5 + 3 * (gN (pX X) - 1) := by omega
      refine hK v (fun j => ?_)
      rw [hv]
      by_cases e2 : 5 + 3 * i.toNat ≤ j ∧ j < 5 + 3 * (gN (pX X) - 1).toNat
      · rw [if_pos (by omega), if_pos e2]
      · rw [if_neg (by omega), if_neg e2]
    · refine xr_aload_n hM 0 dX5_cuts_41 rfl rfl ?_
      refine xr_get (C := RX5) (TT0 := TX5) (N := 12) hM 5 0 0 (fun _ h => List.mem_cons_of_mem _ (List.mem_append_right _ h)) rfl rfl (by decide) (List.mem_of_getElem? (i := 2) rfl) rfl rfl dX5_cuts_42 ?_
      refine xr_iload_n hM 2 dX5_cuts_45 rfl rfl ?_
      refine xr_aload_n hM 0 dX5_cuts_46 rfl rfl ?_
      refine xr_get (C := RX5) (TT0 := TX5) (N := 12) hM 5 0 0 (fun _ h => List.mem_cons_of_mem _ (List.mem_append_right _ h)) rfl rfl (by decide) (List.mem_of_getElem? (i := 2) rfl) rfl rfl dX5_cuts_47 ?_
      refine xr_iload_n hM 2 dX5_cuts_50 rfl rfl ?_
      refine xr_iconst hM dX5_cuts_51 ?_
      refine xr_iadd hM dX5_cuts_52 ?_
      refine xr_iald hM 2 ((k + 3).toNat) rfl rfl (by omega) dX5_cuts_53 ?_
      refine xr_iast (ws' := [(r 0, ob 5 [.ref (r 1), .ref (r 2), .ref (r 3), .ref (r 4), iv sT, .ref (r 5), iv lE, .ref (r 6), iv aT, iv fR, iv wR, .ref (r 7)]), (r 6, ia T.2.1 3 gs), (r 1, ia T.2.1 305 (va_up v k.toNat (v ((k + 3).toNat))))]) hM 2 k.toNat rfl rfl (by omega) dX5_cuts_54 rfl ?_
      refine xr_iinc (lv' := [(0, .ref (r 0)), (1, iv i), (2, iv (k + 1))]) hM 2 dX5_cuts_55 rfl (by decide) rfl rfl ?_
      refine xr_goto hM 27 dX5_cuts_58 (by decide) ?_
      refine ih (k + 1) _ (by omega) (by omega) ?_
      intro j
      unfold va_up
      by_cases e1 : j = k.toNat
      · rw [if_pos e1, hv, if_neg (by omega), if_pos (by omega)]
        congr 1
        omega
      · rw [if_neg e1, hv]
        by_cases e2 : 5 + 3 * i.toNat ≤ j ∧ (j : Int) < k
        · rw [if_pos e2, if_pos (by omega)]
        · rw [if_neg e2, if_neg (by omega)]

theorem ct_X5_cuts (l : Launch) (T : TT) (r : Nat → Nat) (sT lE aT fR wR : Int) (gs w : AR) (X : WnS) (i : Int) (hr : Rep w X) (hX : WW X) (hi : -2147483648 ≤ i ∧ i < 2147483648) : CT2 l yX5_cuts wsX5_cuts rm_X5_cuts T [.ref (r 0), iv i] ([(r 0, ob 5 [.ref (r 1), .ref (r 2), .ref (r 3), .ref (r 4), iv sT, .ref (r 5), iv lE, .ref (r 6), iv aT, iv fR, iv wR, .ref (r 7)]), (r 6, ia T.2.1 3 gs), (r 1, ia T.2.1 305 w)]) (some (iv ((cuR X i).1))) (fun w_ g_ => Rep w_ (cuR X i).2) (fun w_ g_ => [(r 0, ob 5 [.ref (r 1), .ref (r 2), .ref (r 3), .ref (r 4), iv sT, .ref (r 5), iv lE, .ref (r 6), iv aT, iv fR, iv wR, .ref (r 7)]), (r 6, ia T.2.1 3 g_), (r 1, ia T.2.1 305 w_)]) := by
  refine CT2.Z (maxL := 3) (lv0 := [(0, .ref (r 0)), (1, iv i)]) hp_X5_cuts rfl (Nat.le_of_ble_eq_true rfl) rfl rfl (fun M hM hF => ?_)
  have hn := hX.1.1.1
  have hwd := hX.1.1.2.1
  have hHH := hX.1.2.1
  have hSb := hX.1.2.2.2.2
  have hSs := hX.2
  have hAn := hX.an
  have hA0 := hX.1.2.2.1
  refine xr_aload_n hM 0 dX5_cuts_0 rfl rfl ?_
  refine xr_iload_n hM 1 dX5_cuts_1 rfl rfl ?_
  refine xr_callVr (rest := []) (As := [iv i]) (st' := [iv (bi (0 ≤ i ∧ i ≤ gN (pX X) - 1))]) hM (ct_X5_isLine M.2.1 T r sT lE aT fR wR w X i hr hX.1.1 (by omega)) gX5_cuts_X5_isLine rfl ⟨rfl, rfl⟩ hy_X5_isLine rfl ⟨by decide, by decide⟩ [0, 2] rfl rfl 0 5 rfl rfl rfl rfl rfl (Nat.le_of_ble_eq_true rfl) ⟨by decide, by decide⟩ dX5_cuts_2 ?_
  refine xr_ifb_ne hM 11 dX5_cuts_5 (by decide) (fun c5 => ?_) (fun c5 => ?_)
  · refine xr_aload_n hM 0 dX5_cuts_11 rfl rfl ?_
    refine xr_get (C := RX5) (TT0 := TX5) (N := 12) hM 5 0 0 (fun _ h => List.mem_cons_of_mem _ (List.mem_append_right _ h)) rfl rfl (by decide) (List.mem_of_getElem? (i := 2) rfl) rfl rfl dX5_cuts_12 ?_
    refine xr_iconst hM dX5_cuts_15 ?_
    refine xr_dup2 hM dX5_cuts_16 rfl rfl ?_
    refine xr_iald hM 2 0 rfl rfl (by omega) dX5_cuts_17 ?_
    refine xr_topv (v' := gN (pX X)) (hr.1) ?_
    refine xr_iconst hM dX5_cuts_18 ?_
    refine xr_isub hM dX5_cuts_19 ?_
    refine xr_iast (ws' := [(r 0, ob 5 [.ref (r 1), .ref (r 2), .ref (r 3), .ref (r 4), iv sT, .ref (r 5), iv lE, .ref (r 6), iv aT, iv fR, iv wR, .ref (r 7)]), (r 6, ia T.2.1 3 gs), (r 1, ia T.2.1 305 (va_up w 0 ((gN (pX X)) - 1)))]) hM 2 0 rfl rfl (by omega) dX5_cuts_20 rfl ?_
    have hr20 : RG (va_up w 0 ((gN (pX X)) - 1)) ((gN (pX X)) - 1) (pA X) (pS X) (pH X) (gW (pX X)) (pX X) := hr.s0 ((gN (pX X)) - 1)
    generalize va_up w 0 ((gN (pX X)) - 1) = w20 at hr20 ⊢
    refine xr_iload_n hM 1 dX5_cuts_21 rfl rfl ?_
    refine xr_iconst hM dX5_cuts_22 ?_
    refine xr_callSr (rest := []) (As := [iv i, iv 0]) (st' := [iv (5 + 3 * i + 0)]) hM (ct_X5_l M.2.1 T i 0) gX5_cuts_X5_l rfl ⟨rfl, rfl⟩ hy_X5_l rfl ⟨by decide, by decide⟩ [] rfl rfl rfl rfl (Nat.le_of_ble_eq_true rfl) ⟨by decide, by decide⟩ dX5_cuts_23 ?_
    refine xr_topv (v' := 5 + 3 * i) (by omega) ?_
    refine xr_istore_n (lv' := [(0, .ref (r 0)), (1, iv i), (2, iv (5 + 3 * i))]) hM dX5_cuts_26 rfl (by decide) rfl rfl ?_
    refine lp_cuts_27 r sT lE aT fR wR gs w X w20 i (by omega) (by omega) hr20.1 hM (fun v hv => ?_) (5 + 3 * (gN (pX X) - 1) - (5 + 3 * i)).toNat (5 + 3 * i) w20 (by omega) (by omega) (fun j => by rw [if_neg (by omega)])
    have hr9 : RG v (gN (pX X) - 1) (pA X) (pS X) (pH X) (gW (pX X)) (rmF (pX X) i) := RG.rm hr20 (by omega) hv
    rw [← rmF_N (pX X) i, ← rmF_W (pX X) i] at hr9
    have hrN := rmF_N (pX X) i
    refine xr_iload_n hM 1 dX5_cuts_61 rfl rfl ?_
    refine xr_aload_n hM 0 dX5_cuts_62 rfl rfl ?_
    refine xr_get (C := RX5) (TT0 := TX5) (N := 12) hM 5 0 0 (fun _ h => List.mem_cons_of_mem _ (List.mem_append_right _ h)) rfl rfl (by decide) (List.mem_of_getElem? (i := 2) rfl) rfl rfl dX5_cuts_63 ?_
    refine xr_iconst hM dX5_cuts_66 ?_
    refine xr_iald hM 2 1 rfl rfl (by omega) dX5_cuts_67 ?_
    refine xr_topv (v' := pA X) (hr9.2.1) ?_
    refine xr_icmp_ne hM 109 dX5_cuts_68 (by decide) (by omega) (fun c68 => ?_) (fun c68 => ?_)
    · refine xr_iload_n hM 1 dX5_cuts_109 rfl rfl ?_
      refine xr_aload_n hM 0 dX5_cuts_110 rfl rfl ?_
      refine xr_get (C := RX5) (TT0 := TX5) (N := 12) hM 5 0 0 (fun _ h => List.mem_cons_of_mem _ (List.mem_append_right _ h)) rfl rfl (by decide) (List.mem_of_getElem? (i := 2) rfl) rfl rfl dX5_cuts_111 ?_
      refine xr_iconst hM dX5_cuts_114 ?_
      refine xr_iald hM 2 1 rfl rfl (by omega) dX5_cuts_115 ?_
      refine xr_topv (v' := pA X) (hr9.2.1) ?_
      refine xr_icmp_ge hM 129 dX5_cuts_116 (by decide) (by omega) (fun c116 => ?_) (fun c116 => ?_)
      · have hPs : PW (rmF (pX X) i, pH X, pA X, pS X) := by have q := (PW_cu hX (i := i) (by omega)).1; unfold cuP at q; rwa [if_neg (by omega), if_neg (by omega)] at q
        refine xr_aload_n hM 0 dX5_cuts_129 rfl rfl ?_
        refine xr_get (C := RX5) (TT0 := TX5) (N := 12) hM 5 0 0 (fun _ h => List.mem_cons_of_mem _ (List.mem_append_right _ h)) rfl rfl (by decide) (List.mem_of_getElem? (i := 2) rfl) rfl rfl dX5_cuts_130 ?_
        refine xr_callS2 (ws' := fun w133 g133 => [(r 0, ob 5 [.ref (r 1), .ref (r 2), .ref (r 3), .ref (r 4), iv sT, .ref (r 5), iv lE, .ref (r 6), iv aT, iv fR, iv wR, .ref (r 7)]), (r 6, ia T.2.1 3 gs), (r 1, ia T.2.1 305 w133)]) (rest := []) (As := [.ref (r 1)]) (st' := []) hM (ct_X5_settles M.2.1 T (r 1) v (rmF (pX X) i, pH X, pA X, pS X) hr9 hPs) gX5_cuts_X5_settles rfl ⟨rfl, rfl⟩ hy_X5_settles rfl ⟨by decide, by decide⟩ [2] rfl rfl (fun _ _ => rfl) rfl rfl (Nat.le_of_ble_eq_true rfl) ⟨by decide, by decide⟩ (fun _ _ => rfl) dX5_cuts_133 (fun w133 g133 hP133 => ?_)
        have hf133 := (WW_se hPs).2
        have hf133_1 := seF_W (rmF (pX X) i, pH X, pA X, pS X)
        have hf133_2 := seF_H (rmF (pX X) i, pH X, pA X, pS X)
        have hw133 := (WW_se hPs).1.1.1
        have hw133_1 := (WW_se hPs).1
        refine xr_aload_n hM 0 dX5_cuts_136 rfl rfl ?_
        refine xr_get (C := RX5) (TT0 := TX5) (N := 12) hM 5 0 0 (fun _ h => List.mem_cons_of_mem _ (List.mem_append_right _ h)) rfl rfl (by decide) (List.mem_of_getElem? (i := 2) rfl) rfl rfl dX5_cuts_137 ?_
        refine xr_iconst hM dX5_cuts_140 ?_
        refine xr_iald hM 2 0 rfl rfl (by omega) dX5_cuts_141 ?_
        refine xr_topv (v' := gN (pX (seF (rmF (pX X) i, pH X, pA X, pS X)))) (hP133.1) ?_
        have hcu : cuR X i = _ := if_neg (by omega)
        rw [cuP, if_neg (by omega), if_neg (by omega)] at hcu
        exact xr_iret (hF w133 gs (by rw [hcu]; exact hP133)) dX5_cuts_142 (by rw [hcu]) rfl
      · refine xr_aload_n hM 0 dX5_cuts_119 rfl rfl ?_
        refine xr_get (C := RX5) (TT0 := TX5) (N := 12) hM 5 0 0 (fun _ h => List.mem_cons_of_mem _ (List.mem_append_right _ h)) rfl rfl (by decide) (List.mem_of_getElem? (i := 2) rfl) rfl rfl dX5_cuts_120 ?_
        refine xr_iconst hM dX5_cuts_123 ?_
        refine xr_dup2 hM dX5_cuts_124 rfl rfl ?_
        refine xr_iald hM 2 1 rfl rfl (by omega) dX5_cuts_125 ?_
        refine xr_topv (v' := pA X) (hr9.2.1) ?_
        refine xr_iconst hM dX5_cuts_126 ?_
        refine xr_isub hM dX5_cuts_127 ?_
        refine xr_iast (ws' := [(r 0, ob 5 [.ref (r 1), .ref (r 2), .ref (r 3), .ref (r 4), iv sT, .ref (r 5), iv lE, .ref (r 6), iv aT, iv fR, iv wR, .ref (r 7)]), (r 6, ia T.2.1 3 gs), (r 1, ia T.2.1 305 (va_up v 1 ((pA X) - 1)))]) hM 2 1 rfl rfl (by omega) dX5_cuts_128 rfl ?_
        have hr128 : RG (va_up v 1 ((pA X) - 1)) (gN (rmF (pX X) i)) ((pA X) - 1) (pS X) (pH X) (gW (rmF (pX X) i)) (rmF (pX X) i) := hr9.s1 ((pA X) - 1)
        generalize va_up v 1 ((pA X) - 1) = w128 at hr128 ⊢
        have hPs : PW (rmF (pX X) i, pH X, (pA X) - 1, pS X) := by have q := (PW_cu hX (i := i) (by omega)).1; unfold cuP at q; rwa [if_pos (by omega), if_neg (by omega)] at q
        refine xr_aload_n hM 0 dX5_cuts_129 rfl rfl ?_
        refine xr_get (C := RX5) (TT0 := TX5) (N := 12) hM 5 0 0 (fun _ h => List.mem_cons_of_mem _ (List.mem_append_right _ h)) rfl rfl (by decide) (List.mem_of_getElem? (i := 2) rfl) rfl rfl dX5_cuts_130 ?_
        refine xr_callS2 (ws' := fun w133_1 g133_1 => [(r 0, ob 5 [.ref (r 1), .ref (r 2), .ref (r 3), .ref (r 4), iv sT, .ref (r 5), iv lE, .ref (r 6), iv aT, iv fR, iv wR, .ref (r 7)]), (r 6, ia T.2.1 3 gs), (r 1, ia T.2.1 305 w133_1)]) (rest := []) (As := [.ref (r 1)]) (st' := []) hM (ct_X5_settles M.2.1 T (r 1) w128 (rmF (pX X) i, pH X, (pA X) - 1, pS X) hr128 hPs) gX5_cuts_X5_settles rfl ⟨rfl, rfl⟩ hy_X5_settles rfl ⟨by decide, by decide⟩ [2] rfl rfl (fun _ _ => rfl) rfl rfl (Nat.le_of_ble_eq_true rfl) ⟨by decide, by decide⟩ (fun _ _ => rfl) dX5_cuts_133 (fun w133_1 g133_1 hP133_1 => ?_)
        have hf133_3 := (WW_se hPs).2
        have hf133_4 := seF_W (rmF (pX X) i, pH X, (pA X) - 1, pS X)
        have hf133_5 := seF_H (rmF (pX X) i, pH X, (pA X) - 1, pS X)
        have hw133_2 := (WW_se hPs).1.1.1
        have hw133_3 := (WW_se hPs).1
        refine xr_aload_n hM 0 dX5_cuts_136 rfl rfl ?_
        refine xr_get (C := RX5) (TT0 := TX5) (N := 12) hM 5 0 0 (fun _ h => List.mem_cons_of_mem _ (List.mem_append_right _ h)) rfl rfl (by decide) (List.mem_of_getElem? (i := 2) rfl) rfl rfl dX5_cuts_137 ?_
        refine xr_iconst hM dX5_cuts_140 ?_
        refine xr_iald hM 2 0 rfl rfl (by omega) dX5_cuts_141 ?_
        refine xr_topv (v' := gN (pX (seF (rmF (pX X) i, pH X, (pA X) - 1, pS X)))) (hP133_1.1) ?_
        have hcu : cuR X i = _ := if_neg (by omega)
        rw [cuP, if_pos (by omega), if_neg (by omega)] at hcu
        exact xr_iret (hF w133_1 gs (by rw [hcu]; exact hP133_1)) dX5_cuts_142 (by rw [hcu]) rfl
    · refine xr_aload_n hM 0 dX5_cuts_71 rfl rfl ?_
      refine xr_get (C := RX5) (TT0 := TX5) (N := 12) hM 5 0 0 (fun _ h => List.mem_cons_of_mem _ (List.mem_append_right _ h)) rfl rfl (by decide) (List.mem_of_getElem? (i := 2) rfl) rfl rfl dX5_cuts_72 ?_
      refine xr_iconst hM dX5_cuts_75 ?_
      refine xr_iconst hM dX5_cuts_76 ?_
      refine xr_iast (ws' := [(r 0, ob 5 [.ref (r 1), .ref (r 2), .ref (r 3), .ref (r 4), iv sT, .ref (r 5), iv lE, .ref (r 6), iv aT, iv fR, iv wR, .ref (r 7)]), (r 6, ia T.2.1 3 gs), (r 1, ia T.2.1 305 (va_up v 2 0))]) hM 2 2 rfl rfl (by omega) dX5_cuts_77 rfl ?_
      have hr77 : RG (va_up v 2 0) (gN (rmF (pX X) i)) (pA X) 0 (pH X) (gW (rmF (pX X) i)) (rmF (pX X) i) := hr9.s2 0
      generalize va_up v 2 0 = w77 at hr77 ⊢
      refine xr_aload_n hM 0 dX5_cuts_78 rfl rfl ?_
      refine xr_get (C := RX5) (TT0 := TX5) (N := 12) hM 5 0 0 (fun _ h => List.mem_cons_of_mem _ (List.mem_append_right _ h)) rfl rfl (by decide) (List.mem_of_getElem? (i := 2) rfl) rfl rfl dX5_cuts_79 ?_
      refine xr_iconst hM dX5_cuts_82 ?_
      refine xr_dup2 hM dX5_cuts_83 rfl rfl ?_
      refine xr_iald hM 2 1 rfl rfl (by omega) dX5_cuts_84 ?_
      refine xr_topv (v' := pA X) (hr77.2.1) ?_
      refine xr_iload_n hM 1 dX5_cuts_85 rfl rfl ?_
      refine xr_aload_n hM 0 dX5_cuts_86 rfl rfl ?_
      refine xr_get (C := RX5) (TT0 := TX5) (N := 12) hM 5 0 0 (fun _ h => List.mem_cons_of_mem _ (List.mem_append_right _ h)) rfl rfl (by decide) (List.mem_of_getElem? (i := 2) rfl) rfl rfl dX5_cuts_87 ?_
      refine xr_iconst hM dX5_cuts_90 ?_
      refine xr_iald hM 2 0 rfl rfl (by omega) dX5_cuts_91 ?_
      refine xr_topv (v' := gN (rmF (pX X) i)) (hr77.1) ?_
      refine xr_icmp_ne hM 103 dX5_cuts_92 (by decide) (by omega) (fun c92 => ?_) (fun c92 => ?_)
      · refine xr_iconst hM dX5_cuts_103 ?_
        refine xr_isub hM dX5_cuts_104 ?_
        refine xr_iast (ws' := [(r 0, ob 5 [.ref (r 1), .ref (r 2), .ref (r 3), .ref (r 4), iv sT, .ref (r 5), iv lE, .ref (r 6), iv aT, iv fR, iv wR, .ref (r 7)]), (r 6, ia T.2.1 3 gs), (r 1, ia T.2.1 305 (va_up w77 1 ((pA X) - 0)))]) hM 2 1 rfl rfl (by omega) dX5_cuts_105 rfl ?_
        have hr105 : RG (va_up w77 1 ((pA X) - 0)) (gN (rmF (pX X) i)) ((pA X) - 0) 0 (pH X) (gW (rmF (pX X) i)) (rmF (pX X) i) := hr77.s1 ((pA X) - 0)
        generalize va_up w77 1 ((pA X) - 0) = w105 at hr105 ⊢
        refine xr_goto hM 129 dX5_cuts_106 (by decide) ?_
        have em0 : (pA X) - 0 = pA X := by omega
        rw [em0] at hr105
        have hPs : PW (rmF (pX X) i, pH X, pA X, 0) := by have q := (PW_cu hX (i := i) (by omega)).1; unfold cuP at q; rwa [if_neg (by omega), if_pos (by omega)] at q
        refine xr_aload_n hM 0 dX5_cuts_129 rfl rfl ?_
        refine xr_get (C := RX5) (TT0 := TX5) (N := 12) hM 5 0 0 (fun _ h => List.mem_cons_of_mem _ (List.mem_append_right _ h)) rfl rfl (by decide) (List.mem_of_getElem? (i := 2) rfl) rfl rfl dX5_cuts_130 ?_
        refine xr_callS2 (ws' := fun w133_2 g133_2 => [(r 0, ob 5 [.ref (r 1), .ref (r 2), .ref (r 3), .ref (r 4), iv sT, .ref (r 5), iv lE, .ref (r 6), iv aT, iv fR, iv wR, .ref (r 7)]), (r 6, ia T.2.1 3 gs), (r 1, ia T.2.1 305 w133_2)]) (rest := []) (As := [.ref (r 1)]) (st' := []) hM (ct_X5_settles M.2.1 T (r 1) w105 (rmF (pX X) i, pH X, pA X, 0) hr105 hPs) gX5_cuts_X5_settles rfl ⟨rfl, rfl⟩ hy_X5_settles rfl ⟨by decide, by decide⟩ [2] rfl rfl (fun _ _ => rfl) rfl rfl (Nat.le_of_ble_eq_true rfl) ⟨by decide, by decide⟩ (fun _ _ => rfl) dX5_cuts_133 (fun w133_2 g133_2 hP133_2 => ?_)
        have hf133_6 := (WW_se hPs).2
        have hf133_7 := seF_W (rmF (pX X) i, pH X, pA X, 0)
        have hf133_8 := seF_H (rmF (pX X) i, pH X, pA X, 0)
        have hw133_4 := (WW_se hPs).1.1.1
        have hw133_5 := (WW_se hPs).1
        refine xr_aload_n hM 0 dX5_cuts_136 rfl rfl ?_
        refine xr_get (C := RX5) (TT0 := TX5) (N := 12) hM 5 0 0 (fun _ h => List.mem_cons_of_mem _ (List.mem_append_right _ h)) rfl rfl (by decide) (List.mem_of_getElem? (i := 2) rfl) rfl rfl dX5_cuts_137 ?_
        refine xr_iconst hM dX5_cuts_140 ?_
        refine xr_iald hM 2 0 rfl rfl (by omega) dX5_cuts_141 ?_
        refine xr_topv (v' := gN (pX (seF (rmF (pX X) i, pH X, pA X, 0)))) (hP133_2.1) ?_
        have hcu : cuR X i = _ := if_neg (by omega)
        rw [cuP, if_neg (by omega), if_pos (by omega)] at hcu
        exact xr_iret (hF w133_2 gs (by rw [hcu]; exact hP133_2)) dX5_cuts_142 (by rw [hcu]) rfl
      · refine xr_iload_n hM 1 dX5_cuts_95 rfl rfl ?_
        refine xr_if_le hM 103 dX5_cuts_96 (by decide) (by omega) (fun c96 => ?_) (fun c96 => ?_)
        · refine xr_iconst hM dX5_cuts_103 ?_
          refine xr_isub hM dX5_cuts_104 ?_
          refine xr_iast (ws' := [(r 0, ob 5 [.ref (r 1), .ref (r 2), .ref (r 3), .ref (r 4), iv sT, .ref (r 5), iv lE, .ref (r 6), iv aT, iv fR, iv wR, .ref (r 7)]), (r 6, ia T.2.1 3 gs), (r 1, ia T.2.1 305 (va_up w77 1 ((pA X) - 0)))]) hM 2 1 rfl rfl (by omega) dX5_cuts_105 rfl ?_
          have hr105_1 : RG (va_up w77 1 ((pA X) - 0)) (gN (rmF (pX X) i)) ((pA X) - 0) 0 (pH X) (gW (rmF (pX X) i)) (rmF (pX X) i) := hr77.s1 ((pA X) - 0)
          generalize va_up w77 1 ((pA X) - 0) = w105_1 at hr105_1 ⊢
          refine xr_goto hM 129 dX5_cuts_106 (by decide) ?_
          have em0 : (pA X) - 0 = pA X := by omega
          rw [em0] at hr105_1
          have hPs : PW (rmF (pX X) i, pH X, pA X, 0) := by have q := (PW_cu hX (i := i) (by omega)).1; unfold cuP at q; rwa [if_neg (by omega), if_pos (by omega)] at q
          refine xr_aload_n hM 0 dX5_cuts_129 rfl rfl ?_
          refine xr_get (C := RX5) (TT0 := TX5) (N := 12) hM 5 0 0 (fun _ h => List.mem_cons_of_mem _ (List.mem_append_right _ h)) rfl rfl (by decide) (List.mem_of_getElem? (i := 2) rfl) rfl rfl dX5_cuts_130 ?_
          refine xr_callS2 (ws' := fun w133_3 g133_3 => [(r 0, ob 5 [.ref (r 1), .ref (r 2), .ref (r 3), .ref (r 4), iv sT, .ref (r 5), iv lE, .ref (r 6), iv aT, iv fR, iv wR, .ref (r 7)]), (r 6, ia T.2.1 3 gs), (r 1, ia T.2.1 305 w133_3)]) (rest := []) (As := [.ref (r 1)]) (st' := []) hM (ct_X5_settles M.2.1 T (r 1) w105_1 (rmF (pX X) i, pH X, pA X, 0) hr105_1 hPs) gX5_cuts_X5_settles rfl ⟨rfl, rfl⟩ hy_X5_settles rfl ⟨by decide, by decide⟩ [2] rfl rfl (fun _ _ => rfl) rfl rfl (Nat.le_of_ble_eq_true rfl) ⟨by decide, by decide⟩ (fun _ _ => rfl) dX5_cuts_133 (fun w133_3 g133_3 hP133_3 => ?_)
          have hf133_9 := (WW_se hPs).2
          have hf133_10 := seF_W (rmF (pX X) i, pH X, pA X, 0)
          have hf133_11 := seF_H (rmF (pX X) i, pH X, pA X, 0)
          have hw133_6 := (WW_se hPs).1.1.1
          have hw133_7 := (WW_se hPs).1
          refine xr_aload_n hM 0 dX5_cuts_136 rfl rfl ?_
          refine xr_get (C := RX5) (TT0 := TX5) (N := 12) hM 5 0 0 (fun _ h => List.mem_cons_of_mem _ (List.mem_append_right _ h)) rfl rfl (by decide) (List.mem_of_getElem? (i := 2) rfl) rfl rfl dX5_cuts_137 ?_
          refine xr_iconst hM dX5_cuts_140 ?_
          refine xr_iald hM 2 0 rfl rfl (by omega) dX5_cuts_141 ?_
          refine xr_topv (v' := gN (pX (seF (rmF (pX X) i, pH X, pA X, 0)))) (hP133_3.1) ?_
          have hcu : cuR X i = _ := if_neg (by omega)
          rw [cuP, if_neg (by omega), if_pos (by omega)] at hcu
          exact xr_iret (hF w133_3 gs (by rw [hcu]; exact hP133_3)) dX5_cuts_142 (by rw [hcu]) rfl
        · refine xr_iconst hM dX5_cuts_99 ?_
          refine xr_goto hM 104 dX5_cuts_100 (by decide) ?_
          refine xr_isub hM dX5_cuts_104 ?_
          refine xr_iast (ws' := [(r 0, ob 5 [.ref (r 1), .ref (r 2), .ref (r 3), .ref (r 4), iv sT, .ref (r 5), iv lE, .ref (r 6), iv aT, iv fR, iv wR, .ref (r 7)]), (r 6, ia T.2.1 3 gs), (r 1, ia T.2.1 305 (va_up w77 1 ((pA X) - 1)))]) hM 2 1 rfl rfl (by omega) dX5_cuts_105 rfl ?_
          have hr105_2 : RG (va_up w77 1 ((pA X) - 1)) (gN (rmF (pX X) i)) ((pA X) - 1) 0 (pH X) (gW (rmF (pX X) i)) (rmF (pX X) i) := hr77.s1 ((pA X) - 1)
          generalize va_up w77 1 ((pA X) - 1) = w105_2 at hr105_2 ⊢
          refine xr_goto hM 129 dX5_cuts_106 (by decide) ?_
          have hPs : PW (rmF (pX X) i, pH X, (pA X) - 1, 0) := by have q := (PW_cu hX (i := i) (by omega)).1; unfold cuP at q; rwa [if_pos (by omega), if_pos (by omega)] at q
          refine xr_aload_n hM 0 dX5_cuts_129 rfl rfl ?_
          refine xr_get (C := RX5) (TT0 := TX5) (N := 12) hM 5 0 0 (fun _ h => List.mem_cons_of_mem _ (List.mem_append_right _ h)) rfl rfl (by decide) (List.mem_of_getElem? (i := 2) rfl) rfl rfl dX5_cuts_130 ?_
          refine xr_callS2 (ws' := fun w133_4 g133_4 => [(r 0, ob 5 [.ref (r 1), .ref (r 2), .ref (r 3), .ref (r 4), iv sT, .ref (r 5), iv lE, .ref (r 6), iv aT, iv fR, iv wR, .ref (r 7)]), (r 6, ia T.2.1 3 gs), (r 1, ia T.2.1 305 w133_4)]) (rest := []) (As := [.ref (r 1)]) (st' := []) hM (ct_X5_settles M.2.1 T (r 1) w105_2 (rmF (pX X) i, pH X, (pA X) - 1, 0) hr105_2 hPs) gX5_cuts_X5_settles rfl ⟨rfl, rfl⟩ hy_X5_settles rfl ⟨by decide, by decide⟩ [2] rfl rfl (fun _ _ => rfl) rfl rfl (Nat.le_of_ble_eq_true rfl) ⟨by decide, by decide⟩ (fun _ _ => rfl) dX5_cuts_133 (fun w133_4 g133_4 hP133_4 => ?_)
          have hf133_12 := (WW_se hPs).2
          have hf133_13 := seF_W (rmF (pX X) i, pH X, (pA X) - 1, 0)
          have hf133_14 := seF_H (rmF (pX X) i, pH X, (pA X) - 1, 0)
          have hw133_8 := (WW_se hPs).1.1.1
          have hw133_9 := (WW_se hPs).1
          refine xr_aload_n hM 0 dX5_cuts_136 rfl rfl ?_
          refine xr_get (C := RX5) (TT0 := TX5) (N := 12) hM 5 0 0 (fun _ h => List.mem_cons_of_mem _ (List.mem_append_right _ h)) rfl rfl (by decide) (List.mem_of_getElem? (i := 2) rfl) rfl rfl dX5_cuts_137 ?_
          refine xr_iconst hM dX5_cuts_140 ?_
          refine xr_iald hM 2 0 rfl rfl (by omega) dX5_cuts_141 ?_
          refine xr_topv (v' := gN (pX (seF (rmF (pX X) i, pH X, (pA X) - 1, 0)))) (hP133_4.1) ?_
          have hcu : cuR X i = _ := if_neg (by omega)
          rw [cuP, if_pos (by omega), if_pos (by omega)] at hcu
          exact xr_iret (hF w133_4 gs (by rw [hcu]; exact hP133_4)) dX5_cuts_142 (by rw [hcu]) rfl
  · refine xr_ldc hM (-100001) (List.mem_of_getElem? (i := 1) rfl) (by decide) dX5_cuts_8 ?_
    exact xr_iret (hF w gs (by rw [cuR, if_pos (by omega)]; exact hr)) dX5_cuts_10 (by rw [cuR, if_pos (by omega)]) rfl
