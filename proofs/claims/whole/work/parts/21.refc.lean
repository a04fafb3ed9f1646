theorem lp_X5_copies {T : TT} {M : MB} (ba na : Nat) (f : AR) (i : Int) (bb nb : Nat) (g : AR) (j : Int) (h : 0 ≤ i ∧ 0 ≤ j ∧ i + 305 ≤ (na : Int) ∧ j + 305 ≤ (nb : Int) ∧ na < 100000 ∧ nb < 100000) (hM : FM T M cX5_copies RX5 5 wsX5_copies rm_X5_copies) (hF : FinV T M cX5_copies 5 ([(ba, ia T.2.1 na f), (bb, ia T.2.1 nb (va_cpy f g i.toNat j.toNat 305))])) : ∀ (q k : Nat), k + q = 305 → VV T M 5 [(0, .ref ba), (1, iv i), (2, .ref bb), (3, iv j), (4, iv (k : Int))] [(ba, ia T.2.1 na f), (bb, ia T.2.1 nb (va_cpy f g i.toNat j.toNat k))] 0 0 3 [] := by
  intro q
  induction q with
  | zero =>
    intro k h1
    refine xr_iload hM 4 dX5_copies_3 rfl ?_
    refine xr_sipush hM dX5_copies_5 (by decide) ?_
    refine xr_icmp_ge hM 29 dX5_copies_8 (by decide) (by omega) (fun c8 => ?_) (fun c8 => by exfalso; omega)
    exact xr_vret hF dX5_copies_29 (by rw [show k = 305 by omega])
  | succ q ih =>
    intro k h1
    refine xr_iload hM 4 dX5_copies_3 rfl ?_
    refine xr_sipush hM dX5_copies_5 (by decide) ?_
    refine xr_icmp_ge hM 29 dX5_copies_8 (by decide) (by omega) (fun c8 => by exfalso; omega) (fun c8 => ?_)
    refine xr_aload_n hM 2 dX5_copies_11 rfl rfl ?_
    refine xr_iload_n hM 3 dX5_copies_12 rfl rfl ?_
    refine xr_iload hM 4 dX5_copies_13 rfl ?_
    refine xr_iadd hM dX5_copies_15 ?_
    refine xr_aload_n hM 0 dX5_copies_16 rfl rfl ?_
    refine xr_iload_n hM 1 dX5_copies_17 rfl rfl ?_
    refine xr_iload hM 4 dX5_copies_18 rfl ?_
    refine xr_iadd hM dX5_copies_20 ?_
    refine xr_iald hM 0 ((i + (k : Int)).toNat) rfl rfl (by omega) dX5_copies_21 ?_
    refine xr_iast (ws' := [(ba, ia T.2.1 na f), (bb, ia T.2.1 nb (va_up (va_cpy f g i.toNat j.toNat k) ((j + (k : Int)).toNat) (f ((i + (k : Int)).toNat))))]) hM 1 ((j + (k : Int)).toNat) rfl rfl (by omega) dX5_copies_22 rfl ?_
    refine xr_iinc (lv' := [(0, .ref ba), (1, iv i), (2, .ref bb), (3, iv j), (4, iv ((k : Int) + 1))]) hM 4 dX5_copies_23 rfl (by decide) rfl rfl ?_
    refine xr_goto hM 3 dX5_copies_26 (by decide) ?_
    refine xr_re (lv' := [(0, .ref ba), (1, iv i), (2, .ref bb), (3, iv j), (4, iv ((k + 1 : Nat) : Int))]) (ws' := [(ba, ia T.2.1 na f), (bb, ia T.2.1 nb (va_cpy f g i.toNat j.toNat (k + 1)))]) (st' := []) rfl (by rw [← cpy_step, show (j + (k : Int)).toNat = j.toNat + k by omega, show (i + (k : Int)).toNat = i.toNat + k by omega]) rfl ?_
    exact ih (k + 1) (by omega)

theorem ct_X5_copies (l : Launch) (T : TT) (ba na : Nat) (f : AR) (i : Int) (bb nb : Nat) (g : AR) (j : Int) (h : 0 ≤ i ∧ 0 ≤ j ∧ i + 305 ≤ (na : Int) ∧ j + 305 ≤ (nb : Int) ∧ na < 100000 ∧ nb < 100000) : CT l yX5_copies wsX5_copies rm_X5_copies T [.ref ba, iv i, .ref bb, iv j] ([(ba, ia T.2.1 na f), (bb, ia T.2.1 nb g)]) none ([(ba, ia T.2.1 na f), (bb, ia T.2.1 nb (va_cpy f g i.toNat j.toNat 305))]) := by
  refine CT.V (maxL := 5) (lv0 := [(0, .ref ba), (1, iv i), (2, .ref bb), (3, iv j)]) hp_X5_copies rfl (Nat.le_of_ble_eq_true rfl) rfl (fun M hM hF => ?_)
  refine xr_iconst hM dX5_copies_0 ?_
  refine xr_istore (lv' := [(0, .ref ba), (1, iv i), (2, .ref bb), (3, iv j), (4, iv 0)]) hM dX5_copies_1 (by decide) rfl rfl ?_
  refine xr_re (lv' := [(0, .ref ba), (1, iv i), (2, .ref bb), (3, iv j), (4, iv ((0 : Nat) : Int))]) (ws' := [(ba, ia T.2.1 na f), (bb, ia T.2.1 nb (va_cpy f g i.toNat j.toNat 0))]) (st' := []) rfl (by rw [cpy_0]) rfl ?_
  exact lp_X5_copies ba na f i bb nb g j h hM hF 305 0 (by omega)

theorem ct_X5_keeps (l : Launch) (T : TT) (r : Nat → Nat) (sT lE aT fR wR : Int) (w bf : AR) (X : WnS) (hr : Rep w X) (hx : WFL (pX X)) : CT2 l yX5_keeps wsX5_keeps rm_X5_keeps T [.ref (r 0)] ([(r 0, ob 5 [.ref (r 1), .ref (r 2), .ref (r 3), .ref (r 4), iv sT, .ref (r 5), iv lE, .ref (r 6), iv aT, iv fR, iv wR, .ref (r 7)]), (r 1, ia T.2.1 305 w), (r 2, ia T.2.1 305 bf)]) none (fun w_ g_ => Rep g_ X) (fun w_ g_ => [(r 0, ob 5 [.ref (r 1), .ref (r 2), .ref (r 3), .ref (r 4), iv sT, .ref (r 5), iv lE, .ref (r 6), iv aT, iv fR, iv wR, .ref (r 7)]), (r 1, ia T.2.1 305 w), (r 2, ia T.2.1 305 g_)]) := by
  refine CT2.V (maxL := 1) (lv0 := [(0, .ref (r 0))]) hp_X5_keeps rfl (Nat.le_of_ble_eq_true rfl) rfl (fun M hM hF => ?_)
  refine xr_aload_n hM 0 dX5_keeps_0 rfl rfl ?_
  refine xr_get (C := RX5) (TT0 := TX5) (N := 12) hM 5 0 0 (fun _ h => List.mem_cons_of_mem _ (List.mem_append_right _ h)) rfl rfl (by decide) (List.mem_of_getElem? (i := 1) rfl) rfl rfl dX5_keeps_1 ?_
  refine xr_iconst hM dX5_keeps_4 ?_
  refine xr_aload_n hM 0 dX5_keeps_5 rfl rfl ?_
  refine xr_get (C := RX5) (TT0 := TX5) (N := 12) hM 5 0 1 (fun _ h => List.mem_cons_of_mem _ (List.mem_append_right _ h)) rfl rfl (by decide) (List.mem_of_getElem? (i := 2) rfl) rfl rfl dX5_keeps_6 ?_
  refine xr_iconst hM dX5_keeps_9 ?_
  refine xr_callS (ws' := [(r 0, ob 5 [.ref (r 1), .ref (r 2), .ref (r 3), .ref (r 4), iv sT, .ref (r 5), iv lE, .ref (r 6), iv aT, iv fR, iv wR, .ref (r 7)]), (r 1, ia T.2.1 305 w), (r 2, ia T.2.1 305 (va_cpy w bf 0 0 305))]) (rest := []) (As := [.ref (r 1), iv 0, .ref (r 2), iv 0]) (st' := []) hM (ct_X5_copies M.2.1 T (r 1) 305 w 0 (r 2) 305 bf 0 (by omega)) gX5_keeps_X5_copies rfl ⟨rfl, rfl⟩ hy_X5_copies rfl ⟨by decide, by decide⟩ [1, 2] rfl rfl rfl rfl rfl (Nat.le_of_ble_eq_true rfl) ⟨by decide, by decide⟩ rfl dX5_keeps_10 ?_
  exact xr_vret (hF w _ (RG.cp hr (fun j hj => xi_cpy0 hj) hx.1.2)) dX5_keeps_13 rfl

theorem ct_X5_isLine (l : Launch) (T : TT) (r : Nat → Nat) (sT lE aT fR wR : Int) (w : AR) (X : WnS) (i : Int) (hr : Rep w X) (hx : WFL (pX X)) (hi : -2147483648 ≤ i ∧ i < 2147483648) : CT l yX5_isLine wsX5_isLine rm_X5_isLine T [.ref (r 0), iv i] ([(r 0, ob 5 [.ref (r 1), .ref (r 2), .ref (r 3), .ref (r 4), iv sT, .ref (r 5), iv lE, .ref (r 6), iv aT, iv fR, iv wR, .ref (r 7)]), (r 1, ia T.2.1 305 w)]) (some (iv (bi (0 ≤ i ∧ i ≤ gN (pX X) - 1)))) ([(r 0, ob 5 [.ref (r 1), .ref (r 2), .ref (r 3), .ref (r 4), iv sT, .ref (r 5), iv lE, .ref (r 6), iv aT, iv fR, iv wR, .ref (r 7)]), (r 1, ia T.2.1 305 w)]) := by
  refine CT.Z (maxL := 2) (lv0 := [(0, .ref (r 0)), (1, iv i)]) hp_X5_isLine rfl (Nat.le_of_ble_eq_true rfl) bi_n rfl (fun M hM hF => ?_)
  have hn := hx.1
  refine xr_iload_n hM 1 dX5_isLine_0 rfl rfl ?_
  refine xr_iconst hM dX5_isLine_1 ?_
  refine xr_aload_n hM 0 dX5_isLine_2 rfl rfl ?_
  refine xr_get (C := RX5) (TT0 := TX5) (N := 12) hM 5 0 0 (fun _ h => List.mem_cons_of_mem _ (List.mem_append_right _ h)) rfl rfl (by decide) (List.mem_of_getElem? (i := 1) rfl) rfl rfl dX5_isLine_3 ?_
  refine xr_iconst hM dX5_isLine_6 ?_
  refine xr_iald hM 1 0 rfl rfl (by omega) dX5_isLine_7 ?_
  refine xr_topv (v' := gN (pX X)) (hr.1) ?_
  refine xr_iconst hM dX5_isLine_8 ?_
  refine xr_isub hM dX5_isLine_9 ?_
  refine xr_callSr (rest := []) (As := [iv i, iv 0, iv ((gN (pX X)) - 1)]) (st' := [iv (bi (0 ≤ i ∧ i ≤ ((gN (pX X)) - 1)))]) hM (ct_X5_in M.2.1 T i 0 ((gN (pX X)) - 1) (by omega)) gX5_isLine_X5_in rfl ⟨rfl, rfl⟩ hy_X5_in rfl ⟨by decide, by decide⟩ [] rfl rfl rfl rfl (Nat.le_of_ble_eq_true rfl) ⟨by decide, by decide⟩ dX5_isLine_10 ?_
  exact xr_iret hF dX5_isLine_13 rfl rfl

theorem ct_X5_gone (l : Launch) (T : TT) (r : Nat → Nat) (sT lE aT fR wR : Int) (gs w : AR) (X : WnS) (i : Int) (hr : Rep w X) (hX : WW X) (hi : -2147483648 ≤ i ∧ i < 2147483648) : CT2 l yX5_gone wsX5_gone rm_X5_gone T [.ref (r 0), iv i] ([(r 0, ob 5 [.ref (r 1), .ref (r 2), .ref (r 3), .ref (r 4), iv sT, .ref (r 5), iv lE, .ref (r 6), iv aT, iv fR, iv wR, .ref (r 7)]), (r 6, ia T.2.1 3 gs), (r 1, ia T.2.1 305 w)]) (some (iv ((mlR X i).1))) (fun w_ g_ => Rep w_ (mlR X i).2) (fun w_ g_ => [(r 0, ob 5 [.ref (r 1), .ref (r 2), .ref (r 3), .ref (r 4), iv sT, .ref (r 5), iv lE, .ref (r 6), iv aT, iv fR, iv wR, .ref (r 7)]), (r 6, ia T.2.1 3 g_), (r 1, ia T.2.1 305 w_)]) := by
  refine CT2.Z (maxL := 2) (lv0 := [(0, .ref (r 0)), (1, iv i)]) hp_X5_gone rfl (Nat.le_of_ble_eq_true rfl) rfl rfl (fun M hM hF => ?_)
  have hn := hX.1.1.1
  have hwd := hX.1.1.2.1
  have hHH := hX.1.2.1
  have hSb := hX.1.2.2.2.2
  have hSs := hX.2
  have hAn := hX.an
  have hA0 := hX.1.2.2.1
  refine xr_aload_n hM 0 dX5_gone_0 rfl rfl ?_
  refine xr_iload_n hM 1 dX5_gone_1 rfl rfl ?_
  refine xr_callVr (rest := []) (As := [iv i]) (st' := [iv (bi (0 ≤ i ∧ i ≤ gN (pX X) - 1))]) hM (ct_X5_isLine M.2.1 T r sT lE aT fR wR w X i hr hX.1.1 (by omega)) gX5_gone_X5_isLine rfl ⟨rfl, rfl⟩ hy_X5_isLine rfl ⟨by decide, by decide⟩ [0, 2] rfl rfl 0 5 rfl rfl rfl rfl rfl (Nat.le_of_ble_eq_true rfl) ⟨by decide, by decide⟩ dX5_gone_2 ?_
  refine xr_ifb_ne hM 11 dX5_gone_5 (by decide) (fun c5 => ?_) (fun c5 => ?_)
  · refine xr_aload_n hM 0 dX5_gone_11 rfl rfl ?_
    refine xr_get (C := RX5) (TT0 := TX5) (N := 12) hM 5 0 0 (fun _ h => List.mem_cons_of_mem _ (List.mem_append_right _ h)) rfl rfl (by decide) (List.mem_of_getElem? (i := 2) rfl) rfl rfl dX5_gone_12 ?_
    refine xr_iconst hM dX5_gone_15 ?_
    refine xr_iload_n hM 1 dX5_gone_16 rfl rfl ?_
    refine xr_iast (ws' := [(r 0, ob 5 [.ref (r 1), .ref (r 2), .ref (r 3), .ref (r 4), iv sT, .ref (r 5), iv lE, .ref (r 6), iv aT, iv fR, iv wR, .ref (r 7)]), (r 6, ia T.2.1 3 gs), (r 1, ia T.2.1 305 (va_up w 1 i))]) hM 2 1 rfl rfl (by omega) dX5_gone_17 rfl ?_
    have hr17 : RG (va_up w 1 i) (gN (pX X)) i (pS X) (pH X) (gW (pX X)) (pX X) := hr.s1 i
    generalize va_up w 1 i = w17 at hr17 ⊢
    refine xr_aload_n hM 0 dX5_gone_18 rfl rfl ?_
    refine xr_get (C := RX5) (TT0 := TX5) (N := 12) hM 5 0 0 (fun _ h => List.mem_cons_of_mem _ (List.mem_append_right _ h)) rfl rfl (by decide) (List.mem_of_getElem? (i := 2) rfl) rfl rfl dX5_gone_19 ?_
    refine xr_iconst hM dX5_gone_22 ?_
    refine xr_iconst hM dX5_gone_23 ?_
    refine xr_iast (ws' := [(r 0, ob 5 [.ref (r 1), .ref (r 2), .ref (r 3), .ref (r 4), iv sT, .ref (r 5), iv lE, .ref (r 6), iv aT, iv fR, iv wR, .ref (r 7)]), (r 6, ia T.2.1 3 gs), (r 1, ia T.2.1 305 (va_up w17 2 0))]) hM 2 2 rfl rfl (by omega) dX5_gone_24 rfl ?_
    have hr24 : RG (va_up w17 2 0) (gN (pX X)) i 0 (pH X) (gW (pX X)) (pX X) := hr17.s2 0
    generalize va_up w17 2 0 = w24 at hr24 ⊢
    have hPs : PW (pX X, pH X, i, 0) := PW_ml hX (by omega)
    refine xr_aload_n hM 0 dX5_gone_25 rfl rfl ?_
    refine xr_get (C := RX5) (TT0 := TX5) (N := 12) hM 5 0 0 (fun _ h => List.mem_cons_of_mem _ (List.mem_append_right _ h)) rfl rfl (by decide) (List.mem_of_getElem? (i := 2) rfl) rfl rfl dX5_gone_26 ?_
    refine xr_callS2 (ws' := fun w29 g29 => [(r 0, ob 5 [.ref (r 1), .ref (r 2), .ref (r 3), .ref (r 4), iv sT, .ref (r 5), iv lE, .ref (r 6), iv aT, iv fR, iv wR, .ref (r 7)]), (r 6, ia T.2.1 3 gs), (r 1, ia T.2.1 305 w29)]) (rest := []) (As := [.ref (r 1)]) (st' := []) hM (ct_X5_settles M.2.1 T (r 1) w24 (pX X, pH X, i, 0) hr24 hPs) gX5_gone_X5_settles rfl ⟨rfl, rfl⟩ hy_X5_settles rfl ⟨by decide, by decide⟩ [2] rfl rfl (fun _ _ => rfl) rfl rfl (Nat.le_of_ble_eq_true rfl) ⟨by decide, by decide⟩ (fun _ _ => rfl) dX5_gone_29 (fun w29 g29 hP29 => ?_)
    have hf29 := (WW_se hPs).2
    have hf29_1 := seF_W (pX X, pH X, i, 0)
    have hf29_2 := seF_H (pX X, pH X, i, 0)
    have hw29 := (WW_se hPs).1.1.1
    have hw29_1 := (WW_se hPs).1
    refine xr_aload_n hM 0 dX5_gone_32 rfl rfl ?_
    refine xr_get (C := RX5) (TT0 := TX5) (N := 12) hM 5 0 0 (fun _ h => List.mem_cons_of_mem _ (List.mem_append_right _ h)) rfl rfl (by decide) (List.mem_of_getElem? (i := 2) rfl) rfl rfl dX5_gone_33 ?_
    refine xr_iconst hM dX5_gone_36 ?_
    refine xr_iald hM 2 1 rfl rfl (by omega) dX5_gone_37 ?_
    refine xr_topv (v' := pA (seF (pX X, pH X, i, 0))) (hP29.2.1) ?_
    exact xr_iret (hF w29 gs (by rw [mlR, if_neg (by omega)]; exact hP29)) dX5_gone_38 (by rw [mlR, if_neg (by omega)]) rfl
  · refine xr_ldc hM (-100001) (List.mem_of_getElem? (i := 1) rfl) (by decide) dX5_gone_8 ?_
    exact xr_iret (hF w gs (by rw [mlR, if_pos (by omega)]; exact hr)) dX5_gone_10 (by rw [mlR, if_pos (by omega)]) rfl

theorem ct_X5_scrolls (l : Launch) (T : TT) (bb : Nat) (w : AR) (X : WnS) (d : Int) (hr : Rep w X) (hX : WW X) (hn0 : ¬ gN (pX X) = 0) (hd : -9999 ≤ d ∧ d ≤ 9999) : CT2 l yX5_scrolls wsX5_scrolls rm_X5_scrolls T [.ref bb, iv d] ([(bb, ia T.2.1 305 w)]) none (fun w_ g_ => Rep w_ (seF (mbP X d))) (fun w_ g_ => [(bb, ia T.2.1 305 w_)]) := by
  refine CT2.V (maxL := 2) (lv0 := [(0, .ref bb), (1, iv d)]) hp_X5_scrolls rfl (Nat.le_of_ble_eq_true rfl) rfl (fun M hM hF => ?_)
  have hn := hX.1.1.1
  have hwd := hX.1.1.2.1
  have hHH := hX.1.2.1
  have hSb := hX.1.2.2.2.2
  have hSs := hX.2
  have hAn := hX.an
  have hA0 := hX.1.2.2.1
  refine xr_aload_n hM 0 dX5_scrolls_0 rfl rfl ?_
  refine xr_iconst hM dX5_scrolls_1 ?_
  refine xr_dup2 hM dX5_scrolls_2 rfl rfl ?_
  refine xr_iald hM 0 2 rfl rfl (by omega) dX5_scrolls_3 ?_
  refine xr_topv (v' := pS X) (hr.2.2.1) ?_
  refine xr_iload_n hM 1 dX5_scrolls_4 rfl rfl ?_
  refine xr_iadd hM dX5_scrolls_5 ?_
  refine xr_iast (ws' := [(bb, ia T.2.1 305 (va_up w 2 ((pS X) + d)))]) hM 0 2 rfl rfl (by omega) dX5_scrolls_6 rfl ?_
  have hr6 : RG (va_up w 2 ((pS X) + d)) (gN (pX X)) (pA X) ((pS X) + d) (pH X) (gW (pX X)) (pX X) := hr.s2 ((pS X) + d)
  generalize va_up w 2 ((pS X) + d) = w6 at hr6 ⊢
  have hA1 := hX.1.2.2.2.1 (by omega)
  have hDc : DI (gN (pX X)) (-600000) 400000 (pX X, pH X, pA X, pS X + d) := ⟨hX.1.1, rfl, hA1, by show -600000 ≤ pS X + d; omega, by show pS X + d ≤ 400000; omega⟩
  refine xr_aload_n hM 0 dX5_scrolls_7 rfl rfl ?_
  refine xr_callS2 (ws' := fun w8 g8 => [(bb, ia T.2.1 305 w8)]) (rest := []) (As := [.ref bb]) (st' := []) hM (ct_X5_goesUp M.2.1 T bb w6 (pX X, pH X, pA X, (pS X) + d) hr6 hDc) gX5_scrolls_X5_goesUp rfl ⟨rfl, rfl⟩ hy_X5_goesUp rfl ⟨by decide, by decide⟩ [0] rfl rfl (fun _ _ => rfl) rfl rfl (Nat.le_of_ble_eq_true rfl) ⟨by decide, by decide⟩ (fun _ _ => rfl) dX5_scrolls_8 (fun w8 g8 hP8 => ?_)
  have hPs : PW (clF (pX X, pH X, pA X, pS X + d)) := (PW_mb hX hd hn0).1
  refine xr_aload_n hM 0 dX5_scrolls_11 rfl rfl ?_
  refine xr_callS2 (ws' := fun w12 g12 => [(bb, ia T.2.1 305 w12)]) (rest := []) (As := [.ref bb]) (st' := []) hM (ct_X5_settles M.2.1 T bb w8 (clF (pX X, pH X, pA X, (pS X) + d)) hP8 hPs) gX5_scrolls_X5_settles rfl ⟨rfl, rfl⟩ hy_X5_settles rfl ⟨by decide, by decide⟩ [0] rfl rfl (fun _ _ => rfl) rfl rfl (Nat.le_of_ble_eq_true rfl) ⟨by decide, by decide⟩ (fun _ _ => rfl) dX5_scrolls_12 (fun w12 g12 hP12 => ?_)
  have hf12 := (WW_se hPs).2
  have hf12_1 := seF_W (clF (pX X, pH X, pA X, (pS X) + d))
  have hf12_2 := seF_H (clF (pX X, pH X, pA X, (pS X) + d))
  have hw12 := (WW_se hPs).1.1.1
  have hw12_1 := (WW_se hPs).1
  exact xr_vret (hF _ w hP12) dX5_scrolls_15 rfl

theorem ct_X5_scrolled (l : Launch) (T : TT) (r : Nat → Nat) (sT lE aT fR wR : Int) (gs w : AR) (X : WnS) (d : Int) (hr : Rep w X) (hX : WW X) (hd : -2147483648 ≤ d ∧ d < 2147483648) : CT2 l yX5_scrolled wsX5_scrolled rm_X5_scrolled T [.ref (r 0), iv d] ([(r 0, ob 5 [.ref (r 1), .ref (r 2), .ref (r 3), .ref (r 4), iv sT, .ref (r 5), iv lE, .ref (r 6), iv aT, iv fR, iv wR, .ref (r 7)]), (r 6, ia T.2.1 3 gs), (r 1, ia T.2.1 305 w)]) (some (iv ((mbR X d).1))) (fun w_ g_ => Rep w_ (mbR X d).2) (fun w_ g_ => [(r 0, ob 5 [.ref (r 1), .ref (r 2), .ref (r 3), .ref (r 4), iv sT, .ref (r 5), iv lE, .ref (r 6), iv aT, iv fR, iv wR, .ref (r 7)]), (r 6, ia T.2.1 3 g_), (r 1, ia T.2.1 305 w_)]) := by
  refine CT2.Z (maxL := 2) (lv0 := [(0, .ref (r 0)), (1, iv d)]) hp_X5_scrolled rfl (Nat.le_of_ble_eq_true rfl) rfl rfl (fun M hM hF => ?_)
  have hn := hX.1.1.1
  have hwd := hX.1.1.2.1
  have hHH := hX.1.2.1
  have hSb := hX.1.2.2.2.2
  have hSs := hX.2
  have hAn := hX.an
  have hA0 := hX.1.2.2.1
  refine xr_iload_n hM 1 dX5_scrolled_0 rfl rfl ?_
  refine xr_sipush hM dX5_scrolled_1 (by decide) ?_
  refine xr_sipush hM dX5_scrolled_4 (by decide) ?_
  refine xr_callSr (rest := []) (As := [iv d, iv (-9999), iv 9999]) (st' := [iv (bi ((-9999) ≤ d ∧ d ≤ 9999))]) hM (ct_X5_in M.2.1 T d (-9999) 9999 (by omega)) gX5_scrolled_X5_in rfl ⟨rfl, rfl⟩ hy_X5_in rfl ⟨by decide, by decide⟩ [] rfl rfl rfl rfl (Nat.le_of_ble_eq_true rfl) ⟨by decide, by decide⟩ dX5_scrolled_7 ?_
  refine xr_ifb_ne hM 16 dX5_scrolled_10 (by decide) (fun c10 => ?_) (fun c10 => ?_)
  · refine xr_aload_n hM 0 dX5_scrolled_16 rfl rfl ?_
    refine xr_get (C := RX5) (TT0 := TX5) (N := 12) hM 5 0 0 (fun _ h => List.mem_cons_of_mem _ (List.mem_append_right _ h)) rfl rfl (by decide) (List.mem_of_getElem? (i := 2) rfl) rfl rfl dX5_scrolled_17 ?_
    refine xr_iconst hM dX5_scrolled_20 ?_
    refine xr_iald hM 2 0 rfl rfl (by omega) dX5_scrolled_21 ?_
    refine xr_topv (v' := gN (pX X)) (hr.1) ?_
    refine xr_if_ne hM 28 dX5_scrolled_22 (by decide) (by omega) (fun c22 => ?_) (fun c22 => ?_)
    · refine xr_aload_n hM 0 dX5_scrolled_28 rfl rfl ?_
      refine xr_get (C := RX5) (TT0 := TX5) (N := 12) hM 5 0 0 (fun _ h => List.mem_cons_of_mem _ (List.mem_append_right _ h)) rfl rfl (by decide) (List.mem_of_getElem? (i := 2) rfl) rfl rfl dX5_scrolled_29 ?_
      refine xr_iload_n hM 1 dX5_scrolled_32 rfl rfl ?_
      refine xr_callS2 (ws' := fun w33 g33 => [(r 0, ob 5 [.ref (r 1), .ref (r 2), .ref (r 3), .ref (r 4), iv sT, .ref (r 5), iv lE, .ref (r 6), iv aT, iv fR, iv wR, .ref (r 7)]), (r 6, ia T.2.1 3 gs), (r 1, ia T.2.1 305 w33)]) (rest := []) (As := [.ref (r 1), iv d]) (st' := []) hM (ct_X5_scrolls M.2.1 T (r 1) w X d hr hX (by omega) (by omega)) gX5_scrolled_X5_scrolls rfl ⟨rfl, rfl⟩ hy_X5_scrolls rfl ⟨by decide, by decide⟩ [2] rfl rfl (fun _ _ => rfl) rfl rfl (Nat.le_of_ble_eq_true rfl) ⟨by decide, by decide⟩ (fun _ _ => rfl) dX5_scrolled_33 (fun w33 g33 hP33 => ?_)
      have hf33 := (WW_se (PW_mb hX (by omega) (by omega)).1).2.trans (PW_mb hX (by omega) (by omega)).2
      have hw33 := (WW_se (PW_mb hX (by omega) (by omega)).1).1.1.1
      have hw33_1 := (WW_se (PW_mb hX (by omega) (by omega)).1).1
      refine xr_aload_n hM 0 dX5_scrolled_36 rfl rfl ?_
      refine xr_get (C := RX5) (TT0 := TX5) (N := 12) hM 5 0 0 (fun _ h => List.mem_cons_of_mem _ (List.mem_append_right _ h)) rfl rfl (by decide) (List.mem_of_getElem? (i := 2) rfl) rfl rfl dX5_scrolled_37 ?_
      refine xr_iconst hM dX5_scrolled_40 ?_
      refine xr_iald hM 2 1 rfl rfl (by omega) dX5_scrolled_41 ?_
      refine xr_topv (v' := pA (seF (mbP X d))) (hP33.2.1) ?_
      exact xr_iret (hF w33 gs (by rw [mbR, if_neg (by omega), if_neg c22]; exact hP33)) dX5_scrolled_42 (by rw [mbR, if_neg (by omega), if_neg c22]) rfl
    · refine xr_ldc hM (-100002) (List.mem_of_getElem? (i := 3) rfl) (by decide) dX5_scrolled_25 ?_
      exact xr_iret (hF w gs (by rw [mbR, if_neg (by omega), if_pos c22]; exact hr)) dX5_scrolled_27 (by rw [mbR, if_neg (by omega), if_pos c22]) rfl
  · refine xr_ldc hM (-100001) (List.mem_of_getElem? (i := 1) rfl) (by decide) dX5_scrolled_13 ?_
    exact xr_iret (hF w gs (by rw [mbR, if_pos (by omega)]; exact hr)) dX5_scrolled_15 (by rw [mbR, if_pos (by omega)]) rfl
