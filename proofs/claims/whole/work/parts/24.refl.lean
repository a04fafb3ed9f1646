theorem lp_X5_seenLines {T : TT} {M : MB} (r : Nat → Nat) (sT lE aT fR wR : Int) (w : AR) (X : WnS) (hr : Rep w X) (hX : WW X) (hM : FM T M cX5_seenLines RX5 3 wsX5_seenLines rm_X5_seenLines) (hF : ∀ w_ g_ : AR, True → FinI T M cX5_seenLines 3 (iv (snF (pX X) (tpF (pX X) (pA X).toNat + pS X) (pH X) (gN (pX X)).toNat)) ([(r 0, ob 5 [.ref (r 1), .ref (r 2), .ref (r 3), .ref (r 4), iv sT, .ref (r 5), iv lE, .ref (r 6), iv aT, iv fR, iv wR, .ref (r 7)]), (r 6, ia T.2.1 3 g_), (r 1, ia T.2.1 305 w)])) : ∀ (f b : Nat) (gs : AR), b + f = (gN (pX X)).toNat → VV T M 3 [(0, .ref (r 0)), (1, iv (snF (pX X) (tpF (pX X) (pA X).toNat + pS X) (pH X) b)), (2, iv (b : Int))] [(r 0, ob 5 [.ref (r 1), .ref (r 2), .ref (r 3), .ref (r 4), iv sT, .ref (r 5), iv lE, .ref (r 6), iv aT, iv fR, iv wR, .ref (r 7)]), (r 6, ia T.2.1 3 gs), (r 1, ia T.2.1 305 w)] 0 0 4 [] := by
  intro f
  induction f with
  | zero =>
    intro b gs h1
    have hn := hX.1.1.1
    have hwd := hX.1.1.2.1
    have hHH := hX.1.2.1
    have hSb := hX.1.2.2.2.2
    have hSs := hX.2
    have hAn := hX.an
    have hA0 := hX.1.2.2.1
    have hsb := snF_b (pX X) (tpF (pX X) (pA X).toNat + pS X) (pH X) b
    refine xr_iload_n hM 2 dX5_seenLines_4 rfl rfl ?_
    refine xr_aload_n hM 0 dX5_seenLines_5 rfl rfl ?_
    refine xr_get (C := RX5) (TT0 := TX5) (N := 12) hM 5 0 0 (fun _ h => List.mem_cons_of_mem _ (List.mem_append_right _ h)) rfl rfl (by decide) (List.mem_of_getElem? (i := 1) rfl) rfl rfl dX5_seenLines_6 ?_
    refine xr_iconst hM dX5_seenLines_9 ?_
    refine xr_iald hM 2 0 rfl rfl (by omega) dX5_seenLines_10 ?_
    refine xr_topv (v' := gN (pX X)) (hr.1) ?_
    refine xr_icmp_ge hM 40 dX5_seenLines_11 (by decide) (by omega) (fun c11 => ?_) (fun c11 => by exfalso; omega)
    refine xr_iload_n hM 1 dX5_seenLines_40 rfl rfl ?_
    exact xr_iret (hF w gs trivial) dX5_seenLines_41 (by rw [show b = (gN (pX X)).toNat by omega]) rfl
  | succ f ih =>
    intro b gs h1
    have hn := hX.1.1.1
    have hwd := hX.1.1.2.1
    have hHH := hX.1.2.1
    have hSb := hX.1.2.2.2.2
    have hSs := hX.2
    have hAn := hX.an
    have hA0 := hX.1.2.2.1
    have hsb := snF_b (pX X) (tpF (pX X) (pA X).toNat + pS X) (pH X) b
    refine xr_iload_n hM 2 dX5_seenLines_4 rfl rfl ?_
    refine xr_aload_n hM 0 dX5_seenLines_5 rfl rfl ?_
    refine xr_get (C := RX5) (TT0 := TX5) (N := 12) hM 5 0 0 (fun _ h => List.mem_cons_of_mem _ (List.mem_append_right _ h)) rfl rfl (by decide) (List.mem_of_getElem? (i := 1) rfl) rfl rfl dX5_seenLines_6 ?_
    refine xr_iconst hM dX5_seenLines_9 ?_
    refine xr_iald hM 2 0 rfl rfl (by omega) dX5_seenLines_10 ?_
    refine xr_topv (v' := gN (pX X)) (hr.1) ?_
    refine xr_icmp_ge hM 40 dX5_seenLines_11 (by decide) (by omega) (fun c11 => by exfalso; omega) (fun c11 => ?_)
    refine xr_iload_n hM 1 dX5_seenLines_14 rfl rfl ?_
    refine xr_aload_n hM 0 dX5_seenLines_15 rfl rfl ?_
    refine xr_aload_n hM 0 dX5_seenLines_16 rfl rfl ?_
    refine xr_get (C := RX5) (TT0 := TX5) (N := 12) hM 5 0 0 (fun _ h => List.mem_cons_of_mem _ (List.mem_append_right _ h)) rfl rfl (by decide) (List.mem_of_getElem? (i := 1) rfl) rfl rfl dX5_seenLines_17 ?_
    refine xr_iload_n hM 2 dX5_seenLines_20 rfl rfl ?_
    refine xr_callV2 (ws' := fun w21 g21 => [(r 0, ob 5 [.ref (r 1), .ref (r 2), .ref (r 3), .ref (r 4), iv sT, .ref (r 5), iv lE, .ref (r 6), iv aT, iv fR, iv wR, .ref (r 7)]), (r 6, ia T.2.1 3 g21), (r 1, ia T.2.1 305 w)]) (rest := [iv (snF (pX X) (tpF (pX X) (pA X).toNat + pS X) (pH X) b)]) (As := [.ref (r 1), iv (b : Int)]) (st' := [iv (bi (shP X (b : Int))), iv (snF (pX X) (tpF (pX X) (pA X).toNat + pS X) (pH X) b)]) hM (ct_X5_isSeen M.2.1 T r sT lE aT fR wR gs (r 1) w X (b : Int) hr hX.1.1 hX (by omega)) gX5_seenLines_X5_isSeen rfl ⟨rfl, rfl⟩ hy_X5_isSeen rfl ⟨by decide, by decide⟩ [0, 1, 2] rfl rfl (fun _ _ => rfl) 0 5 rfl rfl rfl rfl rfl (Nat.le_of_ble_eq_true rfl) ⟨by decide, by decide⟩ (fun _ _ => rfl) dX5_seenLines_21 (fun w21 g21 hP21 => ?_)
    refine xr_ifb_eq hM 31 dX5_seenLines_24 (by decide) (fun c24 => ?_) (fun c24 => ?_)
    · refine xr_iconst hM dX5_seenLines_31 ?_
      refine xr_iadd hM dX5_seenLines_32 ?_
      refine xr_istore_n (lv' := [(0, .ref (r 0)), (1, iv ((snF (pX X) (tpF (pX X) (pA X).toNat + pS X) (pH X) b) + 0)), (2, iv (b : Int))]) hM dX5_seenLines_33 rfl (by decide) rfl rfl ?_
      refine xr_iinc (lv' := [(0, .ref (r 0)), (1, iv ((snF (pX X) (tpF (pX X) (pA X).toNat + pS X) (pH X) b) + 0)), (2, iv ((b : Int) + 1))]) hM 2 dX5_seenLines_34 rfl (by decide) rfl rfl ?_
      refine xr_goto hM 4 dX5_seenLines_37 (by decide) ?_
      have hq : ¬ (tpF (pX X) b - (tpF (pX X) (pA X).toNat + pS X) < pH X ∧ 0 < tpF (pX X) b - (tpF (pX X) (pA X).toNat + pS X) + htF (pX X) b) := fun q9 => c24 ((shP_i hX (i := (b : Int)) (by omega)).mpr q9)
      refine xr_re (lv' := [(0, .ref (r 0)), (1, iv (snF (pX X) (tpF (pX X) (pA X).toNat + pS X) (pH X) (b + 1))), (2, iv ((b + 1 : Nat) : Int))]) (ws' := [(r 0, ob 5 [.ref (r 1), .ref (r 2), .ref (r 3), .ref (r 4), iv sT, .ref (r 5), iv lE, .ref (r 6), iv aT, iv fR, iv wR, .ref (r 7)]), (r 6, ia T.2.1 3 g21), (r 1, ia T.2.1 305 w)]) (st' := []) (by rw [show snF (pX X) (tpF (pX X) (pA X).toNat + pS X) (pH X) (b + 1) = snF (pX X) (tpF (pX X) (pA X).toNat + pS X) (pH X) b + _ from rfl, if_neg hq]; rfl) rfl rfl ?_
      exact ih (b + 1) g21 (by omega)
    · refine xr_iconst hM dX5_seenLines_27 ?_
      refine xr_goto hM 32 dX5_seenLines_28 (by decide) ?_
      refine xr_iadd hM dX5_seenLines_32 ?_
      refine xr_istore_n (lv' := [(0, .ref (r 0)), (1, iv ((snF (pX X) (tpF (pX X) (pA X).toNat + pS X) (pH X) b) + 1)), (2, iv (b : Int))]) hM dX5_seenLines_33 rfl (by decide) rfl rfl ?_
      refine xr_iinc (lv' := [(0, .ref (r 0)), (1, iv ((snF (pX X) (tpF (pX X) (pA X).toNat + pS X) (pH X) b) + 1)), (2, iv ((b : Int) + 1))]) hM 2 dX5_seenLines_34 rfl (by decide) rfl rfl ?_
      refine xr_goto hM 4 dX5_seenLines_37 (by decide) ?_
      have hq : tpF (pX X) b - (tpF (pX X) (pA X).toNat + pS X) < pH X ∧ 0 < tpF (pX X) b - (tpF (pX X) (pA X).toNat + pS X) + htF (pX X) b := (shP_i hX (i := (b : Int)) (by omega)).mp c24
      refine xr_re (lv' := [(0, .ref (r 0)), (1, iv (snF (pX X) (tpF (pX X) (pA X).toNat + pS X) (pH X) (b + 1))), (2, iv ((b + 1 : Nat) : Int))]) (ws' := [(r 0, ob 5 [.ref (r 1), .ref (r 2), .ref (r 3), .ref (r 4), iv sT, .ref (r 5), iv lE, .ref (r 6), iv aT, iv fR, iv wR, .ref (r 7)]), (r 6, ia T.2.1 3 g21), (r 1, ia T.2.1 305 w)]) (st' := []) (by rw [show snF (pX X) (tpF (pX X) (pA X).toNat + pS X) (pH X) (b + 1) = snF (pX X) (tpF (pX X) (pA X).toNat + pS X) (pH X) b + _ from rfl, if_pos hq]; rfl) rfl rfl ?_
      exact ih (b + 1) g21 (by omega)

theorem ct_X5_seenLines (l : Launch) (T : TT) (r : Nat → Nat) (sT lE aT fR wR : Int) (gs w : AR) (X : WnS)   (hr : Rep w X) (hX : WW X)   : CT2 l yX5_seenLines wsX5_seenLines rm_X5_seenLines T [.ref (r 0)] ([(r 0, ob 5 [.ref (r 1), .ref (r 2), .ref (r 3), .ref (r 4), iv sT, .ref (r 5), iv lE, .ref (r 6), iv aT, iv fR, iv wR, .ref (r 7)]), (r 6, ia T.2.1 3 gs), (r 1, ia T.2.1 305 w)]) (some (iv (snF (pX X) (tpF (pX X) (pA X).toNat + pS X) (pH X) (gN (pX X)).toNat))) (fun w_ g_ => True) (fun w_ g_ => [(r 0, ob 5 [.ref (r 1), .ref (r 2), .ref (r 3), .ref (r 4), iv sT, .ref (r 5), iv lE, .ref (r 6), iv aT, iv fR, iv wR, .ref (r 7)]), (r 6, ia T.2.1 3 g_), (r 1, ia T.2.1 305 w)]) := by
  refine CT2.Z (maxL := 3) (lv0 := [(0, .ref (r 0))]) hp_X5_seenLines rfl (Nat.le_of_ble_eq_true rfl) rfl rfl (fun M hM hF => ?_)
  have hn := hX.1.1.1
  have hwd := hX.1.1.2.1
  have hHH := hX.1.2.1
  have hSb := hX.1.2.2.2.2
  have hSs := hX.2
  have hAn := hX.an
  have hA0 := hX.1.2.2.1
  refine xr_iconst hM dX5_seenLines_0 ?_
  refine xr_istore_n (lv' := [(0, .ref (r 0)), (1, iv 0)]) hM dX5_seenLines_1 rfl (by decide) rfl rfl ?_
  refine xr_iconst hM dX5_seenLines_2 ?_
  refine xr_istore_n (lv' := [(0, .ref (r 0)), (1, iv 0), (2, iv 0)]) hM dX5_seenLines_3 rfl (by decide) rfl rfl ?_
  exact lp_X5_seenLines r sT lE aT fR wR w X hr hX hM hF (gN (pX X)).toNat 0 gs (by omega)

theorem ct_X5_count (l : Launch) (T : TT) (r : Nat → Nat) (sT lE aT fR wR : Int) (gs w : AR) (X : WnS)  (wh : Int) (hr : Rep w X) (hX : WW X) (hwh : -2147483648 ≤ wh ∧ wh < 2147483648)  : CT2 l yX5_count wsX5_count rm_X5_count T [.ref (r 0), iv wh] ([(r 0, ob 5 [.ref (r 1), .ref (r 2), .ref (r 3), .ref (r 4), iv sT, .ref (r 5), iv lE, .ref (r 6), iv aT, iv fR, iv wR, .ref (r 7)]), (r 6, ia T.2.1 3 gs), (r 1, ia T.2.1 305 w)]) (some (iv (coF X sT lE wh))) (fun w_ g_ => True) (fun w_ g_ => [(r 0, ob 5 [.ref (r 1), .ref (r 2), .ref (r 3), .ref (r 4), iv sT, .ref (r 5), iv lE, .ref (r 6), iv aT, iv fR, iv wR, .ref (r 7)]), (r 6, ia T.2.1 3 g_), (r 1, ia T.2.1 305 w)]) := by
  refine CT2.Z (maxL := 3) (lv0 := [(0, .ref (r 0)), (1, iv wh)]) hp_X5_count rfl (Nat.le_of_ble_eq_true rfl) rfl rfl (fun M hM hF => ?_)
  have hn := hX.1.1.1
  have hwd := hX.1.1.2.1
  have hHH := hX.1.2.1
  have hSb := hX.1.2.2.2.2
  have hSs := hX.2
  have hAn := hX.an
  have hA0 := hX.1.2.2.1
  refine xr_aload_n hM 0 dX5_count_0 rfl rfl ?_
  refine xr_get (C := RX5) (TT0 := TX5) (N := 12) hM 5 0 0 (fun _ h => List.mem_cons_of_mem _ (List.mem_append_right _ h)) rfl rfl (by decide) (List.mem_of_getElem? (i := 1) rfl) rfl rfl dX5_count_1 ?_
  refine xr_iconst hM dX5_count_4 ?_
  refine xr_iald hM 2 0 rfl rfl (by omega) dX5_count_5 ?_
  refine xr_topv (v' := gN (pX X)) (hr.1) ?_
  refine xr_if_ne hM 13 dX5_count_6 (by decide) (by omega) (fun c6 => ?_) (fun c6 => ?_)
  · refine xr_iconst hM dX5_count_13 ?_
    refine xr_istore_n (lv' := [(0, .ref (r 0)), (1, iv wh), (2, iv 0)]) hM dX5_count_14 rfl (by decide) rfl rfl ?_
    refine xr_aload_n hM 0 dX5_count_15 rfl rfl ?_
    refine xr_aload_n hM 0 dX5_count_16 rfl rfl ?_
    refine xr_get (C := RX5) (TT0 := TX5) (N := 12) hM 5 0 0 (fun _ h => List.mem_cons_of_mem _ (List.mem_append_right _ h)) rfl rfl (by decide) (List.mem_of_getElem? (i := 1) rfl) rfl rfl dX5_count_17 ?_
    refine xr_callV2 (ws' := fun w20 g20 => [(r 0, ob 5 [.ref (r 1), .ref (r 2), .ref (r 3), .ref (r 4), iv sT, .ref (r 5), iv lE, .ref (r 6), iv aT, iv fR, iv wR, .ref (r 7)]), (r 6, ia T.2.1 3 g20), (r 1, ia T.2.1 305 w)]) (rest := []) (As := [.ref (r 1)]) (st' := []) hM (ct_X5_laysGuesses M.2.1 T r sT lE aT fR wR gs (r 1) w X hr hX.1.1) gX5_count_X5_laysGuesses rfl ⟨rfl, rfl⟩ hy_X5_laysGuesses rfl ⟨by decide, by decide⟩ [0, 1, 2] rfl rfl (fun _ _ => rfl) 0 5 rfl rfl rfl rfl rfl (Nat.le_of_ble_eq_true rfl) ⟨by decide, by decide⟩ (fun _ _ => rfl) dX5_count_20 (fun w20 g20 hP20 => ?_)
    refine xr_iload_n hM 1 dX5_count_23 rfl rfl ?_
    by_cases c24_0 : wh = 0
    · refine xr_tableIn hM 96 dX5_count_24 c24_0 (by decide) (by decide) rfl (by decide) ?_
      refine xr_aload_n hM 0 dX5_count_96 rfl rfl ?_
      refine xr_get (C := RX5) (TT0 := TX5) (N := 12) hM 5 0 0 (fun _ h => List.mem_cons_of_mem _ (List.mem_append_right _ h)) rfl rfl (by decide) (List.mem_of_getElem? (i := 1) rfl) rfl rfl dX5_count_97 ?_
      refine xr_iconst hM dX5_count_100 ?_
      refine xr_iald hM 2 0 rfl rfl (by omega) dX5_count_101 ?_
      refine xr_topv (v' := gN (pX X)) (hr.1) ?_
      exact xr_iret (hF w g20 trivial) dX5_count_102 (by rw [c24_0] <;> rfl) rfl
    by_cases c24_1 : wh = 1
    · refine xr_tableIn hM 103 dX5_count_24 c24_1 (by decide) (by decide) rfl (by decide) ?_
      refine xr_aload_n hM 0 dX5_count_103 rfl rfl ?_
      refine xr_aload_n hM 0 dX5_count_104 rfl rfl ?_
      refine xr_get (C := RX5) (TT0 := TX5) (N := 12) hM 5 0 0 (fun _ h => List.mem_cons_of_mem _ (List.mem_append_right _ h)) rfl rfl (by decide) (List.mem_of_getElem? (i := 1) rfl) rfl rfl dX5_count_105 ?_
      refine xr_callVr (rest := []) (As := [.ref (r 1)]) (st' := [iv (gC (pX X) 0 + gC (pX X) 1 + gC (pX X) 2)]) hM (ct_X5_measured M.2.1 T r sT lE aT fR wR g20 (r 1) w X hr hX.1.1) gX5_count_X5_measured rfl ⟨rfl, rfl⟩ hy_X5_measured rfl ⟨by decide, by decide⟩ [0, 2] rfl rfl 0 5 rfl rfl rfl rfl rfl (Nat.le_of_ble_eq_true rfl) ⟨by decide, by decide⟩ dX5_count_108 ?_
      exact xr_iret (hF w g20 trivial) dX5_count_111 (by rw [c24_1] <;> rfl) rfl
    by_cases c24_2 : wh = 2
    · refine xr_tableIn hM 112 dX5_count_24 c24_2 (by decide) (by decide) rfl (by decide) ?_
      refine xr_iload_n hM 2 dX5_count_112 rfl rfl ?_
      refine xr_if_eq hM 121 dX5_count_113 (by decide) (by omega) (fun c113 => ?_) (fun c113 => by exfalso; omega)
      refine xr_aload_n hM 0 dX5_count_121 rfl rfl ?_
      refine xr_get (C := RX5) (TT0 := TX5) (N := 12) hM 5 0 0 (fun _ h => List.mem_cons_of_mem _ (List.mem_append_right _ h)) rfl rfl (by decide) (List.mem_of_getElem? (i := 1) rfl) rfl rfl dX5_count_122 ?_
      refine xr_iconst hM dX5_count_125 ?_
      refine xr_iald hM 2 1 rfl rfl (by omega) dX5_count_126 ?_
      refine xr_topv (v' := pA X) (hr.2.1) ?_
      exact xr_iret (hF w g20 trivial) dX5_count_127 (by rw [c24_2]; show _ = (if gN (pX X) = 0 then (-100009 : Int) else pA X); rw [if_neg c6]) rfl
    by_cases c24_3 : wh = 3
    · refine xr_tableIn hM 128 dX5_count_24 c24_3 (by decide) (by decide) rfl (by decide) ?_
      refine xr_iload_n hM 2 dX5_count_128 rfl rfl ?_
      refine xr_if_eq hM 137 dX5_count_129 (by decide) (by omega) (fun c129 => ?_) (fun c129 => by exfalso; omega)
      refine xr_aload_n hM 0 dX5_count_137 rfl rfl ?_
      refine xr_get (C := RX5) (TT0 := TX5) (N := 12) hM 5 0 0 (fun _ h => List.mem_cons_of_mem _ (List.mem_append_right _ h)) rfl rfl (by decide) (List.mem_of_getElem? (i := 1) rfl) rfl rfl dX5_count_138 ?_
      refine xr_iconst hM dX5_count_141 ?_
      refine xr_iald hM 2 2 rfl rfl (by omega) dX5_count_142 ?_
      refine xr_topv (v' := pS X) (hr.2.2.1) ?_
      exact xr_iret (hF w g20 trivial) dX5_count_143 (by rw [c24_3]; show _ = (if gN (pX X) = 0 then (-100009 : Int) else pS X); rw [if_neg c6]) rfl
    by_cases c24_4 : wh = 4
    · refine xr_tableIn hM 144 dX5_count_24 c24_4 (by decide) (by decide) rfl (by decide) ?_
      refine xr_aload_n hM 0 dX5_count_144 rfl rfl ?_
      refine xr_aload_n hM 0 dX5_count_145 rfl rfl ?_
      refine xr_get (C := RX5) (TT0 := TX5) (N := 12) hM 5 0 0 (fun _ h => List.mem_cons_of_mem _ (List.mem_append_right _ h)) rfl rfl (by decide) (List.mem_of_getElem? (i := 1) rfl) rfl rfl dX5_count_146 ?_
      refine xr_callV2 (ws' := fun w149 g149 => [(r 0, ob 5 [.ref (r 1), .ref (r 2), .ref (r 3), .ref (r 4), iv sT, .ref (r 5), iv lE, .ref (r 6), iv aT, iv fR, iv wR, .ref (r 7)]), (r 6, ia T.2.1 3 g149), (r 1, ia T.2.1 305 w)]) (rest := []) (As := [.ref (r 1)]) (st' := [iv (tpF (pX X) (gN (pX X)).toNat)]) hM (ct_X5_total M.2.1 T r sT lE aT fR wR g20 (r 1) w X hr hX.1.1) gX5_count_X5_total rfl ⟨rfl, rfl⟩ hy_X5_total rfl ⟨by decide, by decide⟩ [0, 1, 2] rfl rfl (fun _ _ => rfl) 0 5 rfl rfl rfl rfl rfl (Nat.le_of_ble_eq_true rfl) ⟨by decide, by decide⟩ (fun _ _ => rfl) dX5_count_149 (fun w149 g149 hP149 => ?_)
      have hf149 := tpF_b hX.1.1 (gN (pX X)).toNat
      exact xr_iret (hF w g149 trivial) dX5_count_152 (by rw [c24_4] <;> rfl) rfl
    by_cases c24_5 : wh = 5
    · refine xr_tableIn hM 153 dX5_count_24 c24_5 (by decide) (by decide) rfl (by decide) ?_
      refine xr_aload_n hM 0 dX5_count_153 rfl rfl ?_
      refine xr_aload_n hM 0 dX5_count_154 rfl rfl ?_
      refine xr_get (C := RX5) (TT0 := TX5) (N := 12) hM 5 0 0 (fun _ h => List.mem_cons_of_mem _ (List.mem_append_right _ h)) rfl rfl (by decide) (List.mem_of_getElem? (i := 1) rfl) rfl rfl dX5_count_155 ?_
      refine xr_callV2 (ws' := fun w158 g158 => [(r 0, ob 5 [.ref (r 1), .ref (r 2), .ref (r 3), .ref (r 4), iv sT, .ref (r 5), iv lE, .ref (r 6), iv aT, iv fR, iv wR, .ref (r 7)]), (r 6, ia T.2.1 3 g158), (r 1, ia T.2.1 305 w)]) (rest := []) (As := [.ref (r 1)]) (st' := [iv (tpF (pX X) (pA X).toNat + pS X)]) hM (ct_X5_windowOf M.2.1 T r sT lE aT fR wR g20 (r 1) w X hr hX.1.1 hX) gX5_count_X5_windowOf rfl ⟨rfl, rfl⟩ hy_X5_windowOf rfl ⟨by decide, by decide⟩ [0, 1, 2] rfl rfl (fun _ _ => rfl) 0 5 rfl rfl rfl rfl rfl (Nat.le_of_ble_eq_true rfl) ⟨by decide, by decide⟩ (fun _ _ => rfl) dX5_count_158 (fun w158 g158 hP158 => ?_)
      have hf158 := tpF_b hX.1.1 (pA X).toNat
      exact xr_iret (hF w g158 trivial) dX5_count_161 (by rw [c24_5] <;> rfl) rfl
    by_cases c24_6 : wh = 6
    · refine xr_tableIn hM 162 dX5_count_24 c24_6 (by decide) (by decide) rfl (by decide) ?_
      refine xr_aload_n hM 0 dX5_count_162 rfl rfl ?_
      refine xr_get (C := RX5) (TT0 := TX5) (N := 12) hM 5 0 0 (fun _ h => List.mem_cons_of_mem _ (List.mem_append_right _ h)) rfl rfl (by decide) (List.mem_of_getElem? (i := 1) rfl) rfl rfl dX5_count_163 ?_
      refine xr_iconst hM dX5_count_166 ?_
      refine xr_iald hM 2 3 rfl rfl (by omega) dX5_count_167 ?_
      refine xr_topv (v' := pH X) (hr.2.2.2.1) ?_
      exact xr_iret (hF w g20 trivial) dX5_count_168 (by rw [c24_6] <;> rfl) rfl
    by_cases c24_7 : wh = 7
    · refine xr_tableIn hM 169 dX5_count_24 c24_7 (by decide) (by decide) rfl (by decide) ?_
      refine xr_aload_n hM 0 dX5_count_169 rfl rfl ?_
      refine xr_get (C := RX5) (TT0 := TX5) (N := 12) hM 5 0 0 (fun _ h => List.mem_cons_of_mem _ (List.mem_append_right _ h)) rfl rfl (by decide) (List.mem_of_getElem? (i := 1) rfl) rfl rfl dX5_count_170 ?_
      refine xr_iconst hM dX5_count_173 ?_
      refine xr_iald hM 2 4 rfl rfl (by omega) dX5_count_174 ?_
      refine xr_topv (v' := gW (pX X)) (hr.2.2.2.2.1) ?_
      exact xr_iret (hF w g20 trivial) dX5_count_175 (by rw [c24_7] <;> rfl) rfl
    by_cases c24_8 : wh = 8
    · refine xr_tableIn hM 191 dX5_count_24 c24_8 (by decide) (by decide) rfl (by decide) ?_
      refine xr_iload_n hM 1 dX5_count_191 rfl rfl ?_
      refine xr_bipush hM dX5_count_192 (by decide) ?_
      refine xr_bipush hM dX5_count_194 (by decide) ?_
      refine xr_callSr (rest := []) (As := [iv wh, iv 8, iv 10]) (st' := [iv (bi (8 ≤ wh ∧ wh ≤ 10))]) hM (ct_X5_in M.2.1 T wh 8 10 (by omega)) gX5_count_X5_in rfl ⟨rfl, rfl⟩ hy_X5_in rfl ⟨by decide, by decide⟩ [] rfl rfl rfl rfl (Nat.le_of_ble_eq_true rfl) ⟨by decide, by decide⟩ dX5_count_196 ?_
      refine xr_ifb_eq hM 214 dX5_count_199 (by decide) (fun c199 => ?_) (fun c199 => ?_)
      · refine xr_ldc hM (-100001) (List.mem_of_getElem? (i := 6) rfl) (by decide) dX5_count_214 ?_
        exact xr_iret (hF w g20 trivial) dX5_count_216 (by unfold coF; (repeat rw [if_neg (by omega)])) rfl
      · refine xr_aload_n hM 0 dX5_count_202 rfl rfl ?_
        refine xr_get (C := RX5) (TT0 := TX5) (N := 12) hM 5 0 7 (fun _ h => List.mem_cons_of_mem _ (List.mem_append_right _ h)) rfl rfl (by decide) (List.mem_of_getElem? (i := 5) rfl) rfl rfl dX5_count_203 ?_
        refine xr_iload_n hM 1 dX5_count_206 rfl rfl ?_
        refine xr_bipush hM dX5_count_207 (by decide) ?_
        refine xr_isub hM dX5_count_209 ?_
        refine xr_iald hM 1 ((wh - 8).toNat) rfl rfl (by omega) dX5_count_210 ?_
        refine xr_goto hM 216 dX5_count_211 (by decide) ?_
        have hkk : wh = 8 ∨ wh = 9 ∨ wh = 10 := by omega
        exact xr_iret (hF w g20 trivial) dX5_count_216 (hkk.elim (fun e9 => by rw [e9]; exact hP20 0 (by decide)) (fun q9 => q9.elim (fun e9 => by rw [e9]; exact hP20 1 (by decide)) (fun e9 => by rw [e9]; exact hP20 2 (by decide)))) rfl
    by_cases c24_9 : wh = 9
    · refine xr_tableIn hM 191 dX5_count_24 c24_9 (by decide) (by decide) rfl (by decide) ?_
      refine xr_iload_n hM 1 dX5_count_191 rfl rfl ?_
      refine xr_bipush hM dX5_count_192 (by decide) ?_
      refine xr_bipush hM dX5_count_194 (by decide) ?_
      refine xr_callSr (rest := []) (As := [iv wh, iv 8, iv 10]) (st' := [iv (bi (8 ≤ wh ∧ wh ≤ 10))]) hM (ct_X5_in M.2.1 T wh 8 10 (by omega)) gX5_count_X5_in rfl ⟨rfl, rfl⟩ hy_X5_in rfl ⟨by decide, by decide⟩ [] rfl rfl rfl rfl (Nat.le_of_ble_eq_true rfl) ⟨by decide, by decide⟩ dX5_count_196 ?_
      refine xr_ifb_eq hM 214 dX5_count_199 (by decide) (fun c199_1 => ?_) (fun c199_1 => ?_)
      · refine xr_ldc hM (-100001) (List.mem_of_getElem? (i := 6) rfl) (by decide) dX5_count_214 ?_
        exact xr_iret (hF w g20 trivial) dX5_count_216 (by unfold coF; (repeat rw [if_neg (by omega)])) rfl
      · refine xr_aload_n hM 0 dX5_count_202 rfl rfl ?_
        refine xr_get (C := RX5) (TT0 := TX5) (N := 12) hM 5 0 7 (fun _ h => List.mem_cons_of_mem _ (List.mem_append_right _ h)) rfl rfl (by decide) (List.mem_of_getElem? (i := 5) rfl) rfl rfl dX5_count_203 ?_
        refine xr_iload_n hM 1 dX5_count_206 rfl rfl ?_
        refine xr_bipush hM dX5_count_207 (by decide) ?_
        refine xr_isub hM dX5_count_209 ?_
        refine xr_iald hM 1 ((wh - 8).toNat) rfl rfl (by omega) dX5_count_210 ?_
        refine xr_goto hM 216 dX5_count_211 (by decide) ?_
        have hkk : wh = 8 ∨ wh = 9 ∨ wh = 10 := by omega
        exact xr_iret (hF w g20 trivial) dX5_count_216 (hkk.elim (fun e9 => by rw [e9]; exact hP20 0 (by decide)) (fun q9 => q9.elim (fun e9 => by rw [e9]; exact hP20 1 (by decide)) (fun e9 => by rw [e9]; exact hP20 2 (by decide)))) rfl
    by_cases c24_10 : wh = 10
    · refine xr_tableIn hM 191 dX5_count_24 c24_10 (by decide) (by decide) rfl (by decide) ?_
      refine xr_iload_n hM 1 dX5_count_191 rfl rfl ?_
      refine xr_bipush hM dX5_count_192 (by decide) ?_
      refine xr_bipush hM dX5_count_194 (by decide) ?_
      refine xr_callSr (rest := []) (As := [iv wh, iv 8, iv 10]) (st' := [iv (bi (8 ≤ wh ∧ wh ≤ 10))]) hM (ct_X5_in M.2.1 T wh 8 10 (by omega)) gX5_count_X5_in rfl ⟨rfl, rfl⟩ hy_X5_in rfl ⟨by decide, by decide⟩ [] rfl rfl rfl rfl (Nat.le_of_ble_eq_true rfl) ⟨by decide, by decide⟩ dX5_count_196 ?_
      refine xr_ifb_eq hM 214 dX5_count_199 (by decide) (fun c199_2 => ?_) (fun c199_2 => ?_)
      · refine xr_ldc hM (-100001) (List.mem_of_getElem? (i := 6) rfl) (by decide) dX5_count_214 ?_
        exact xr_iret (hF w g20 trivial) dX5_count_216 (by unfold coF; (repeat rw [if_neg (by omega)])) rfl
      · refine xr_aload_n hM 0 dX5_count_202 rfl rfl ?_
        refine xr_get (C := RX5) (TT0 := TX5) (N := 12) hM 5 0 7 (fun _ h => List.mem_cons_of_mem _ (List.mem_append_right _ h)) rfl rfl (by decide) (List.mem_of_getElem? (i := 5) rfl) rfl rfl dX5_count_203 ?_
        refine xr_iload_n hM 1 dX5_count_206 rfl rfl ?_
        refine xr_bipush hM dX5_count_207 (by decide) ?_
        refine xr_isub hM dX5_count_209 ?_
        refine xr_iald hM 1 ((wh - 8).toNat) rfl rfl (by omega) dX5_count_210 ?_
        refine xr_goto hM 216 dX5_count_211 (by decide) ?_
        have hkk : wh = 8 ∨ wh = 9 ∨ wh = 10 := by omega
        exact xr_iret (hF w g20 trivial) dX5_count_216 (hkk.elim (fun e9 => by rw [e9]; exact hP20 0 (by decide)) (fun q9 => q9.elim (fun e9 => by rw [e9]; exact hP20 1 (by decide)) (fun e9 => by rw [e9]; exact hP20 2 (by decide)))) rfl
    by_cases c24_11 : wh = 11
    · refine xr_tableIn hM 176 dX5_count_24 c24_11 (by decide) (by decide) rfl (by decide) ?_
      refine xr_aload_n hM 0 dX5_count_176 rfl rfl ?_
      refine xr_callV2 (ws' := fun w177 g177 => [(r 0, ob 5 [.ref (r 1), .ref (r 2), .ref (r 3), .ref (r 4), iv sT, .ref (r 5), iv lE, .ref (r 6), iv aT, iv fR, iv wR, .ref (r 7)]), (r 6, ia T.2.1 3 g177), (r 1, ia T.2.1 305 w)]) (rest := []) (As := []) (st' := [iv (snF (pX X) (tpF (pX X) (pA X).toNat + pS X) (pH X) (gN (pX X)).toNat)]) hM (ct_X5_seenLines M.2.1 T r sT lE aT fR wR g20 w X hr hX) gX5_count_X5_seenLines rfl ⟨rfl, rfl⟩ hy_X5_seenLines rfl ⟨by decide, by decide⟩ [0, 1, 2] rfl rfl (fun _ _ => rfl) 0 5 rfl rfl rfl rfl rfl (Nat.le_of_ble_eq_true rfl) ⟨by decide, by decide⟩ (fun _ _ => rfl) dX5_count_177 (fun w177 g177 hP177 => ?_)
      have hf177 := snF_b (pX X) (tpF (pX X) (pA X).toNat + pS X) (pH X) (gN (pX X)).toNat
      exact xr_iret (hF w g177 trivial) dX5_count_180 (by rw [c24_11] <;> rfl) rfl
    by_cases c24_12 : wh = 12
    · refine xr_tableIn hM 181 dX5_count_24 c24_12 (by decide) (by decide) rfl (by decide) ?_
      refine xr_aload_n hM 0 dX5_count_181 rfl rfl ?_
      refine xr_get (C := RX5) (TT0 := TX5) (N := 12) hM 5 0 4 (fun _ h => List.mem_cons_of_mem _ (List.mem_append_right _ h)) rfl rfl (by decide) (List.mem_of_getElem? (i := 3) rfl) rfl rfl dX5_count_182 ?_
      exact xr_iret (hF w g20 trivial) dX5_count_185 (by rw [c24_12] <;> rfl) rfl
    by_cases c24_13 : wh = 13
    · refine xr_tableIn hM 186 dX5_count_24 c24_13 (by decide) (by decide) rfl (by decide) ?_
      refine xr_aload_n hM 0 dX5_count_186 rfl rfl ?_
      refine xr_get (C := RX5) (TT0 := TX5) (N := 12) hM 5 0 6 (fun _ h => List.mem_cons_of_mem _ (List.mem_append_right _ h)) rfl rfl (by decide) (List.mem_of_getElem? (i := 4) rfl) rfl rfl dX5_count_187 ?_
      exact xr_iret (hF w g20 trivial) dX5_count_190 (by rw [c24_13] <;> rfl) rfl
    refine xr_tableOut hM 191 dX5_count_24 (by omega) (by omega) (by decide) ?_
    refine xr_iload_n hM 1 dX5_count_191 rfl rfl ?_
    refine xr_bipush hM dX5_count_192 (by decide) ?_
    refine xr_bipush hM dX5_count_194 (by decide) ?_
    refine xr_callSr (rest := []) (As := [iv wh, iv 8, iv 10]) (st' := [iv (bi (8 ≤ wh ∧ wh ≤ 10))]) hM (ct_X5_in M.2.1 T wh 8 10 (by omega)) gX5_count_X5_in rfl ⟨rfl, rfl⟩ hy_X5_in rfl ⟨by decide, by decide⟩ [] rfl rfl rfl rfl (Nat.le_of_ble_eq_true rfl) ⟨by decide, by decide⟩ dX5_count_196 ?_
    refine xr_ifb_eq hM 214 dX5_count_199 (by decide) (fun c199_3 => ?_) (fun c199_3 => ?_)
    · refine xr_ldc hM (-100001) (List.mem_of_getElem? (i := 6) rfl) (by decide) dX5_count_214 ?_
      exact xr_iret (hF w g20 trivial) dX5_count_216 (by unfold coF; (repeat rw [if_neg (by omega)])) rfl
    · refine xr_aload_n hM 0 dX5_count_202 rfl rfl ?_
      refine xr_get (C := RX5) (TT0 := TX5) (N := 12) hM 5 0 7 (fun _ h => List.mem_cons_of_mem _ (List.mem_append_right _ h)) rfl rfl (by decide) (List.mem_of_getElem? (i := 5) rfl) rfl rfl dX5_count_203 ?_
      refine xr_iload_n hM 1 dX5_count_206 rfl rfl ?_
      refine xr_bipush hM dX5_count_207 (by decide) ?_
      refine xr_isub hM dX5_count_209 ?_
      refine xr_iald hM 1 ((wh - 8).toNat) rfl rfl (by omega) dX5_count_210 ?_
      refine xr_goto hM 216 dX5_count_211 (by decide) ?_
      have hkk : wh = 8 ∨ wh = 9 ∨ wh = 10 := by omega
      exact xr_iret (hF w g20 trivial) dX5_count_216 (hkk.elim (fun e9 => by rw [e9]; exact hP20 0 (by decide)) (fun q9 => q9.elim (fun e9 => by rw [e9]; exact hP20 1 (by decide)) (fun e9 => by rw [e9]; exact hP20 2 (by decide)))) rfl
  · refine xr_iconst hM dX5_count_9 ?_
    refine xr_goto hM 14 dX5_count_10 (by decide) ?_
    refine xr_istore_n (lv' := [(0, .ref (r 0)), (1, iv wh), (2, iv 1)]) hM dX5_count_14 rfl (by decide) rfl rfl ?_
    refine xr_aload_n hM 0 dX5_count_15 rfl rfl ?_
    refine xr_aload_n hM 0 dX5_count_16 rfl rfl ?_
    refine xr_get (C := RX5) (TT0 := TX5) (N := 12) hM 5 0 0 (fun _ h => List.mem_cons_of_mem _ (List.mem_append_right _ h)) rfl rfl (by decide) (List.mem_of_getElem? (i := 1) rfl) rfl rfl dX5_count_17 ?_
    refine xr_callV2 (ws' := fun w20_1 g20_1 => [(r 0, ob 5 [.ref (r 1), .ref (r 2), .ref (r 3), .ref (r 4), iv sT, .ref (r 5), iv lE, .ref (r 6), iv aT, iv fR, iv wR, .ref (r 7)]), (r 6, ia T.2.1 3 g20_1), (r 1, ia T.2.1 305 w)]) (rest := []) (As := [.ref (r 1)]) (st' := []) hM (ct_X5_laysGuesses M.2.1 T r sT lE aT fR wR gs (r 1) w X hr hX.1.1) gX5_count_X5_laysGuesses rfl ⟨rfl, rfl⟩ hy_X5_laysGuesses rfl ⟨by decide, by decide⟩ [0, 1, 2] rfl rfl (fun _ _ => rfl) 0 5 rfl rfl rfl rfl rfl (Nat.le_of_ble_eq_true rfl) ⟨by decide, by decide⟩ (fun _ _ => rfl) dX5_count_20 (fun w20_1 g20_1 hP20_1 => ?_)
    refine xr_iload_n hM 1 dX5_count_23 rfl rfl ?_
    by_cases c24_1_0 : wh = 0
    · refine xr_tableIn hM 96 dX5_count_24 c24_1_0 (by decide) (by decide) rfl (by decide) ?_
      refine xr_aload_n hM 0 dX5_count_96 rfl rfl ?_
      refine xr_get (C := RX5) (TT0 := TX5) (N := 12) hM 5 0 0 (fun _ h => List.mem_cons_of_mem _ (List.mem_append_right _ h)) rfl rfl (by decide) (List.mem_of_getElem? (i := 1) rfl) rfl rfl dX5_count_97 ?_
      refine xr_iconst hM dX5_count_100 ?_
      refine xr_iald hM 2 0 rfl rfl (by omega) dX5_count_101 ?_
      refine xr_topv (v' := gN (pX X)) (hr.1) ?_
      exact xr_iret (hF w g20_1 trivial) dX5_count_102 (by rw [c24_1_0] <;> rfl) rfl
    by_cases c24_1_1 : wh = 1
    · refine xr_tableIn hM 103 dX5_count_24 c24_1_1 (by decide) (by decide) rfl (by decide) ?_
      refine xr_aload_n hM 0 dX5_count_103 rfl rfl ?_
      refine xr_aload_n hM 0 dX5_count_104 rfl rfl ?_
      refine xr_get (C := RX5) (TT0 := TX5) (N := 12) hM 5 0 0 (fun _ h => List.mem_cons_of_mem _ (List.mem_append_right _ h)) rfl rfl (by decide) (List.mem_of_getElem? (i := 1) rfl) rfl rfl dX5_count_105 ?_
      refine xr_callVr (rest := []) (As := [.ref (r 1)]) (st' := [iv (gC (pX X) 0 + gC (pX X) 1 + gC (pX X) 2)]) hM (ct_X5_measured M.2.1 T r sT lE aT fR wR g20_1 (r 1) w X hr hX.1.1) gX5_count_X5_measured rfl ⟨rfl, rfl⟩ hy_X5_measured rfl ⟨by decide, by decide⟩ [0, 2] rfl rfl 0 5 rfl rfl rfl rfl rfl (Nat.le_of_ble_eq_true rfl) ⟨by decide, by decide⟩ dX5_count_108 ?_
      exact xr_iret (hF w g20_1 trivial) dX5_count_111 (by rw [c24_1_1] <;> rfl) rfl
    by_cases c24_1_2 : wh = 2
    · refine xr_tableIn hM 112 dX5_count_24 c24_1_2 (by decide) (by decide) rfl (by decide) ?_
      refine xr_iload_n hM 2 dX5_count_112 rfl rfl ?_
      refine xr_if_eq hM 121 dX5_count_113 (by decide) (by omega) (fun c113_1 => by exfalso; omega) (fun c113_1 => ?_)
      refine xr_ldc hM (-100009) (List.mem_of_getElem? (i := 2) rfl) (by decide) dX5_count_116 ?_
      refine xr_goto hM 127 dX5_count_118 (by decide) ?_
      exact xr_iret (hF w g20_1 trivial) dX5_count_127 (by rw [c24_1_2]; show _ = (if gN (pX X) = 0 then (-100009 : Int) else pA X); rw [if_pos c6]) rfl
    by_cases c24_1_3 : wh = 3
    · refine xr_tableIn hM 128 dX5_count_24 c24_1_3 (by decide) (by decide) rfl (by decide) ?_
      refine xr_iload_n hM 2 dX5_count_128 rfl rfl ?_
      refine xr_if_eq hM 137 dX5_count_129 (by decide) (by omega) (fun c129_1 => by exfalso; omega) (fun c129_1 => ?_)
      refine xr_ldc hM (-100009) (List.mem_of_getElem? (i := 2) rfl) (by decide) dX5_count_132 ?_
      refine xr_goto hM 143 dX5_count_134 (by decide) ?_
      exact xr_iret (hF w g20_1 trivial) dX5_count_143 (by rw [c24_1_3]; show _ = (if gN (pX X) = 0 then (-100009 : Int) else pS X); rw [if_pos c6]) rfl
    by_cases c24_1_4 : wh = 4
    · refine xr_tableIn hM 144 dX5_count_24 c24_1_4 (by decide) (by decide) rfl (by decide) ?_
      refine xr_aload_n hM 0 dX5_count_144 rfl rfl ?_
      refine xr_aload_n hM 0 dX5_count_145 rfl rfl ?_
      refine xr_get (C := RX5) (TT0 := TX5) (N := 12) hM 5 0 0 (fun _ h => List.mem_cons_of_mem _ (List.mem_append_right _ h)) rfl rfl (by decide) (List.mem_of_getElem? (i := 1) rfl) rfl rfl dX5_count_146 ?_
      refine xr_callV2 (ws' := fun w149_1 g149_1 => [(r 0, ob 5 [.ref (r 1), .ref (r 2), .ref (r 3), .ref (r 4), iv sT, .ref (r 5), iv lE, .ref (r 6), iv aT, iv fR, iv wR, .ref (r 7)]), (r 6, ia T.2.1 3 g149_1), (r 1, ia T.2.1 305 w)]) (rest := []) (As := [.ref (r 1)]) (st' := [iv (tpF (pX X) (gN (pX X)).toNat)]) hM (ct_X5_total M.2.1 T r sT lE aT fR wR g20_1 (r 1) w X hr hX.1.1) gX5_count_X5_total rfl ⟨rfl, rfl⟩ hy_X5_total rfl ⟨by decide, by decide⟩ [0, 1, 2] rfl rfl (fun _ _ => rfl) 0 5 rfl rfl rfl rfl rfl (Nat.le_of_ble_eq_true rfl) ⟨by decide, by decide⟩ (fun _ _ => rfl) dX5_count_149 (fun w149_1 g149_1 hP149_1 => ?_)
      have hf149_1 := tpF_b hX.1.1 (gN (pX X)).toNat
      exact xr_iret (hF w g149_1 trivial) dX5_count_152 (by rw [c24_1_4] <;> rfl) rfl
    by_cases c24_1_5 : wh = 5
    · refine xr_tableIn hM 153 dX5_count_24 c24_1_5 (by decide) (by decide) rfl (by decide) ?_
      refine xr_aload_n hM 0 dX5_count_153 rfl rfl ?_
      refine xr_aload_n hM 0 dX5_count_154 rfl rfl ?_
      refine xr_get (C := RX5) (TT0 := TX5) (N := 12) hM 5 0 0 (fun _ h => List.mem_cons_of_mem _ (List.mem_append_right _ h)) rfl rfl (by decide) (List.mem_of_getElem? (i := 1) rfl) rfl rfl dX5_count_155 ?_
      refine xr_callV2 (ws' := fun w158_1 g158_1 => [(r 0, ob 5 [.ref (r 1), .ref (r 2), .ref (r 3), .ref (r 4), iv sT, .ref (r 5), iv lE, .ref (r 6), iv aT, iv fR, iv wR, .ref (r 7)]), (r 6, ia T.2.1 3 g158_1), (r 1, ia T.2.1 305 w)]) (rest := []) (As := [.ref (r 1)]) (st' := [iv (tpF (pX X) (pA X).toNat + pS X)]) hM (ct_X5_windowOf M.2.1 T r sT lE aT fR wR g20_1 (r 1) w X hr hX.1.1 hX) gX5_count_X5_windowOf rfl ⟨rfl, rfl⟩ hy_X5_windowOf rfl ⟨by decide, by decide⟩ [0, 1, 2] rfl rfl (fun _ _ => rfl) 0 5 rfl rfl rfl rfl rfl (Nat.le_of_ble_eq_true rfl) ⟨by decide, by decide⟩ (fun _ _ => rfl) dX5_count_158 (fun w158_1 g158_1 hP158_1 => ?_)
      have hf158_1 := tpF_b hX.1.1 (pA X).toNat
      exact xr_iret (hF w g158_1 trivial) dX5_count_161 (by rw [c24_1_5] <;> rfl) rfl
    by_cases c24_1_6 : wh = 6
    · refine xr_tableIn hM 162 dX5_count_24 c24_1_6 (by decide) (by decide) rfl (by decide) ?_
      refine xr_aload_n hM 0 dX5_count_162 rfl rfl ?_
      refine xr_get (C := RX5) (TT0 := TX5) (N := 12) hM 5 0 0 (fun _ h => List.mem_cons_of_mem _ (List.mem_append_right _ h)) rfl rfl (by decide) (List.mem_of_getElem? (i := 1) rfl) rfl rfl dX5_count_163 ?_
      refine xr_iconst hM dX5_count_166 ?_
      refine xr_iald hM 2 3 rfl rfl (by omega) dX5_count_167 ?_
      refine xr_topv (v' := pH X) (hr.2.2.2.1) ?_
      exact xr_iret (hF w g20_1 trivial) dX5_count_168 (by rw [c24_1_6] <;> rfl) rfl
    by_cases c24_1_7 : wh = 7
    · refine xr_tableIn hM 169 dX5_count_24 c24_1_7 (by decide) (by decide) rfl (by decide) ?_
      refine xr_aload_n hM 0 dX5_count_169 rfl rfl ?_
      refine xr_get (C := RX5) (TT0 := TX5) (N := 12) hM 5 0 0 (fun _ h => List.mem_cons_of_mem _ (List.mem_append_right _ h)) rfl rfl (by decide) (List.mem_of_getElem? (i := 1) rfl) rfl rfl dX5_count_170 ?_
      refine xr_iconst hM dX5_count_173 ?_
      refine xr_iald hM 2 4 rfl rfl (by omega) dX5_count_174 ?_
      refine xr_topv (v' := gW (pX X)) (hr.2.2.2.2.1) ?_
      exact xr_iret (hF w g20_1 trivial) dX5_count_175 (by rw [c24_1_7] <;> rfl) rfl
    by_cases c24_1_8 : wh = 8
    · refine xr_tableIn hM 191 dX5_count_24 c24_1_8 (by decide) (by decide) rfl (by decide) ?_
      refine xr_iload_n hM 1 dX5_count_191 rfl rfl ?_
      refine xr_bipush hM dX5_count_192 (by decide) ?_
      refine xr_bipush hM dX5_count_194 (by decide) ?_
      refine xr_callSr (rest := []) (As := [iv wh, iv 8, iv 10]) (st' := [iv (bi (8 ≤ wh ∧ wh ≤ 10))]) hM (ct_X5_in M.2.1 T wh 8 10 (by omega)) gX5_count_X5_in rfl ⟨rfl, rfl⟩ hy_X5_in rfl ⟨by decide, by decide⟩ [] rfl rfl rfl rfl (Nat.le_of_ble_eq_true rfl) ⟨by decide, by decide⟩ dX5_count_196 ?_
      refine xr_ifb_eq hM 214 dX5_count_199 (by decide) (fun c199_4 => ?_) (fun c199_4 => ?_)
      · refine xr_ldc hM (-100001) (List.mem_of_getElem? (i := 6) rfl) (by decide) dX5_count_214 ?_
        exact xr_iret (hF w g20_1 trivial) dX5_count_216 (by unfold coF; (repeat rw [if_neg (by omega)])) rfl
      · refine xr_aload_n hM 0 dX5_count_202 rfl rfl ?_
        refine xr_get (C := RX5) (TT0 := TX5) (N := 12) hM 5 0 7 (fun _ h => List.mem_cons_of_mem _ (List.mem_append_right _ h)) rfl rfl (by decide) (List.mem_of_getElem? (i := 5) rfl) rfl rfl dX5_count_203 ?_
        refine xr_iload_n hM 1 dX5_count_206 rfl rfl ?_
        refine xr_bipush hM dX5_count_207 (by decide) ?_
        refine xr_isub hM dX5_count_209 ?_
        refine xr_iald hM 1 ((wh - 8).toNat) rfl rfl (by omega) dX5_count_210 ?_
        refine xr_goto hM 216 dX5_count_211 (by decide) ?_
        have hkk : wh = 8 ∨ wh = 9 ∨ wh = 10 := by omega
        exact xr_iret (hF w g20_1 trivial) dX5_count_216 (hkk.elim (fun e9 => by rw [e9]; exact hP20_1 0 (by decide)) (fun q9 => q9.elim (fun e9 => by rw [e9]; exact hP20_1 1 (by decide)) (fun e9 => by rw [e9]; exact hP20_1 2 (by decide)))) rfl
    by_cases c24_1_9 : wh = 9
    · refine xr_tableIn hM 191 dX5_count_24 c24_1_9 (by decide) (by decide) rfl (by decide) ?_
      refine xr_iload_n hM 1 dX5_count_191 rfl rfl ?_
      refine xr_bipush hM dX5_count_192 (by decide) ?_
      refine xr_bipush hM dX5_count_194 (by decide) ?_
      refine xr_callSr (rest := []) (As := [iv wh, iv 8, iv 10]) (st' := [iv (bi (8 ≤ wh ∧ wh ≤ 10))]) hM (ct_X5_in M.2.1 T wh 8 10 (by omega)) gX5_count_X5_in rfl ⟨rfl, rfl⟩ hy_X5_in rfl ⟨by decide, by decide⟩ [] rfl rfl rfl rfl (Nat.le_of_ble_eq_true rfl) ⟨by decide, by decide⟩ dX5_count_196 ?_
      refine xr_ifb_eq hM 214 dX5_count_199 (by decide) (fun c199_5 => ?_) (fun c199_5 => ?_)
      · refine xr_ldc hM (-100001) (List.mem_of_getElem? (i := 6) rfl) (by decide) dX5_count_214 ?_
        exact xr_iret (hF w g20_1 trivial) dX5_count_216 (by unfold coF; (repeat rw [if_neg (by omega)])) rfl
      · refine xr_aload_n hM 0 dX5_count_202 rfl rfl ?_
        refine xr_get (C := RX5) (TT0 := TX5) (N := 12) hM 5 0 7 (fun _ h => List.mem_cons_of_mem _ (List.mem_append_right _ h)) rfl rfl (by decide) (List.mem_of_getElem? (i := 5) rfl) rfl rfl dX5_count_203 ?_
        refine xr_iload_n hM 1 dX5_count_206 rfl rfl ?_
        refine xr_bipush hM dX5_count_207 (by decide) ?_
        refine xr_isub hM dX5_count_209 ?_
        refine xr_iald hM 1 ((wh - 8).toNat) rfl rfl (by omega) dX5_count_210 ?_
        refine xr_goto hM 216 dX5_count_211 (by decide) ?_
        have hkk : wh = 8 ∨ wh = 9 ∨ wh = 10 := by omega
        exact xr_iret (hF w g20_1 trivial) dX5_count_216 (hkk.elim (fun e9 => by rw [e9]; exact hP20_1 0 (by decide)) (fun q9 => q9.elim (fun e9 => by rw [e9]; exact hP20_1 1 (by decide)) (fun e9 => by rw [e9]; exact hP20_1 2 (by decide)))) rfl
    by_cases c24_1_10 : wh = 10
    · refine xr_tableIn hM 191 dX5_count_24 c24_1_10 (by decide) (by decide) rfl (by decide) ?_
      refine xr_iload_n hM 1 dX5_count_191 rfl rfl ?_
      refine xr_bipush hM dX5_count_192 (by decide) ?_
      refine xr_bipush hM dX5_count_194 (by decide) ?_
      refine xr_callSr (rest := []) (As := [iv wh, iv 8, iv 10]) (st' := [iv (bi (8 ≤ wh ∧ wh ≤ 10))]) hM (ct_X5_in M.2.1 T wh 8 10 (by omega)) gX5_count_X5_in rfl ⟨rfl, rfl⟩ hy_X5_in rfl ⟨by decide, by decide⟩ [] rfl rfl rfl rfl (Nat.le_of_ble_eq_true rfl) ⟨by decide, by decide⟩ dX5_count_196 ?_
      refine xr_ifb_eq hM 214 dX5_count_199 (by decide) (fun c199_6 => ?_) (fun c199_6 => ?_)
      · refine xr_ldc hM (-100001) (List.mem_of_getElem? (i := 6) rfl) (by decide) dX5_count_214 ?_
        exact xr_iret (hF w g20_1 trivial) dX5_count_216 (by unfold coF; (repeat rw [if_neg (by omega)])) rfl
      · refine xr_aload_n hM 0 dX5_count_202 rfl rfl ?_
        refine xr_get (C := RX5) (TT0 := TX5) (N := 12) hM 5 0 7 (fun _ h => List.mem_cons_of_mem _ (List.mem_append_right _ h)) rfl rfl (by decide) (List.mem_of_getElem? (i := 5) rfl) rfl rfl dX5_count_203 ?_
        refine xr_iload_n hM 1 dX5_count_206 rfl rfl ?_
        refine xr_bipush hM dX5_count_207 (by decide) ?_
        refine xr_isub hM dX5_count_209 ?_
        refine xr_iald hM 1 ((wh - 8).toNat) rfl rfl (by omega) dX5_count_210 ?_
        refine xr_goto hM 216 dX5_count_211 (by decide) ?_
        have hkk : wh = 8 ∨ wh = 9 ∨ wh = 10 := by omega
        exact xr_iret (hF w g20_1 trivial) dX5_count_216 (hkk.elim (fun e9 => by rw [e9]; exact hP20_1 0 (by decide)) (fun q9 => q9.elim (fun e9 => by rw [e9]; exact hP20_1 1 (by decide)) (fun e9 => by rw [e9]; exact hP20_1 2 (by decide)))) rfl
    by_cases c24_1_11 : wh = 11
    · refine xr_tableIn hM 176 dX5_count_24 c24_1_11 (by decide) (by decide) rfl (by decide) ?_
      refine xr_aload_n hM 0 dX5_count_176 rfl rfl ?_
      refine xr_callV2 (ws' := fun w177_1 g177_1 => [(r 0, ob 5 [.ref (r 1), .ref (r 2), .ref (r 3), .ref (r 4), iv sT, .ref (r 5), iv lE, .ref (r 6), iv aT, iv fR, iv wR, .ref (r 7)]), (r 6, ia T.2.1 3 g177_1), (r 1, ia T.2.1 305 w)]) (rest := []) (As := []) (st' := [iv (snF (pX X) (tpF (pX X) (pA X).toNat + pS X) (pH X) (gN (pX X)).toNat)]) hM (ct_X5_seenLines M.2.1 T r sT lE aT fR wR g20_1 w X hr hX) gX5_count_X5_seenLines rfl ⟨rfl, rfl⟩ hy_X5_seenLines rfl ⟨by decide, by decide⟩ [0, 1, 2] rfl rfl (fun _ _ => rfl) 0 5 rfl rfl rfl rfl rfl (Nat.le_of_ble_eq_true rfl) ⟨by decide, by decide⟩ (fun _ _ => rfl) dX5_count_177 (fun w177_1 g177_1 hP177_1 => ?_)
      have hf177_1 := snF_b (pX X) (tpF (pX X) (pA X).toNat + pS X) (pH X) (gN (pX X)).toNat
      exact xr_iret (hF w g177_1 trivial) dX5_count_180 (by rw [c24_1_11] <;> rfl) rfl
    by_cases c24_1_12 : wh = 12
    · refine xr_tableIn hM 181 dX5_count_24 c24_1_12 (by decide) (by decide) rfl (by decide) ?_
      refine xr_aload_n hM 0 dX5_count_181 rfl rfl ?_
      refine xr_get (C := RX5) (TT0 := TX5) (N := 12) hM 5 0 4 (fun _ h => List.mem_cons_of_mem _ (List.mem_append_right _ h)) rfl rfl (by decide) (List.mem_of_getElem? (i := 3) rfl) rfl rfl dX5_count_182 ?_
      exact xr_iret (hF w g20_1 trivial) dX5_count_185 (by rw [c24_1_12] <;> rfl) rfl
    by_cases c24_1_13 : wh = 13
    · refine xr_tableIn hM 186 dX5_count_24 c24_1_13 (by decide) (by decide) rfl (by decide) ?_
      refine xr_aload_n hM 0 dX5_count_186 rfl rfl ?_
      refine xr_get (C := RX5) (TT0 := TX5) (N := 12) hM 5 0 6 (fun _ h => List.mem_cons_of_mem _ (List.mem_append_right _ h)) rfl rfl (by decide) (List.mem_of_getElem? (i := 4) rfl) rfl rfl dX5_count_187 ?_
      exact xr_iret (hF w g20_1 trivial) dX5_count_190 (by rw [c24_1_13] <;> rfl) rfl
    refine xr_tableOut hM 191 dX5_count_24 (by omega) (by omega) (by decide) ?_
    refine xr_iload_n hM 1 dX5_count_191 rfl rfl ?_
    refine xr_bipush hM dX5_count_192 (by decide) ?_
    refine xr_bipush hM dX5_count_194 (by decide) ?_
    refine xr_callSr (rest := []) (As := [iv wh, iv 8, iv 10]) (st' := [iv (bi (8 ≤ wh ∧ wh ≤ 10))]) hM (ct_X5_in M.2.1 T wh 8 10 (by omega)) gX5_count_X5_in rfl ⟨rfl, rfl⟩ hy_X5_in rfl ⟨by decide, by decide⟩ [] rfl rfl rfl rfl (Nat.le_of_ble_eq_true rfl) ⟨by decide, by decide⟩ dX5_count_196 ?_
    refine xr_ifb_eq hM 214 dX5_count_199 (by decide) (fun c199_7 => ?_) (fun c199_7 => ?_)
    · refine xr_ldc hM (-100001) (List.mem_of_getElem? (i := 6) rfl) (by decide) dX5_count_214 ?_
      exact xr_iret (hF w g20_1 trivial) dX5_count_216 (by unfold coF; (repeat rw [if_neg (by omega)])) rfl
    · refine xr_aload_n hM 0 dX5_count_202 rfl rfl ?_
      refine xr_get (C := RX5) (TT0 := TX5) (N := 12) hM 5 0 7 (fun _ h => List.mem_cons_of_mem _ (List.mem_append_right _ h)) rfl rfl (by decide) (List.mem_of_getElem? (i := 5) rfl) rfl rfl dX5_count_203 ?_
      refine xr_iload_n hM 1 dX5_count_206 rfl rfl ?_
      refine xr_bipush hM dX5_count_207 (by decide) ?_
      refine xr_isub hM dX5_count_209 ?_
      refine xr_iald hM 1 ((wh - 8).toNat) rfl rfl (by omega) dX5_count_210 ?_
      refine xr_goto hM 216 dX5_count_211 (by decide) ?_
      have hkk : wh = 8 ∨ wh = 9 ∨ wh = 10 := by omega
      exact xr_iret (hF w g20_1 trivial) dX5_count_216 (hkk.elim (fun e9 => by rw [e9]; exact hP20_1 0 (by decide)) (fun q9 => q9.elim (fun e9 => by rw [e9]; exact hP20_1 1 (by decide)) (fun e9 => by rw [e9]; exact hP20_1 2 (by decide)))) rfl

theorem ct_X5_line (l : Launch) (T : TT) (r : Nat → Nat) (sT lE aT fR wR : Int) (gs w : AR) (X : WnS)  (i wh : Int) (hr : Rep w X) (hX : WW X) (hi : -2147483648 ≤ i ∧ i < 2147483648) (hwh : -2147483648 ≤ wh ∧ wh < 2147483648)  : CT2 l yX5_line wsX5_line rm_X5_line T [.ref (r 0), iv i, iv wh] ([(r 0, ob 5 [.ref (r 1), .ref (r 2), .ref (r 3), .ref (r 4), iv sT, .ref (r 5), iv lE, .ref (r 6), iv aT, iv fR, iv wR, .ref (r 7)]), (r 6, ia T.2.1 3 gs), (r 1, ia T.2.1 305 w)]) (some (iv (liF X i wh))) (fun w_ g_ => True) (fun w_ g_ => [(r 0, ob 5 [.ref (r 1), .ref (r 2), .ref (r 3), .ref (r 4), iv sT, .ref (r 5), iv lE, .ref (r 6), iv aT, iv fR, iv wR, .ref (r 7)]), (r 6, ia T.2.1 3 g_), (r 1, ia T.2.1 305 w)]) := by
  refine CT2.Z (maxL := 3) (lv0 := [(0, .ref (r 0)), (1, iv i), (2, iv wh)]) hp_X5_line rfl (Nat.le_of_ble_eq_true rfl) rfl rfl (fun M hM hF => ?_)
  have hn := hX.1.1.1
  have hwd := hX.1.1.2.1
  have hHH := hX.1.2.1
  have hSb := hX.1.2.2.2.2
  have hSs := hX.2
  have hAn := hX.an
  have hA0 := hX.1.2.2.1
  have htt := tpF_b hX.1.1 i.toNat
  refine xr_aload_n hM 0 dX5_line_0 rfl rfl ?_
  refine xr_iload_n hM 1 dX5_line_1 rfl rfl ?_
  refine xr_callVr (rest := []) (As := [iv i]) (st' := [iv (bi (0 ≤ i ∧ i ≤ gN (pX X) - 1))]) hM (ct_X5_isLine M.2.1 T r sT lE aT fR wR w X i hr hX.1.1 (by omega)) gX5_line_X5_isLine rfl ⟨rfl, rfl⟩ hy_X5_isLine rfl ⟨by decide, by decide⟩ [0, 2] rfl rfl 0 5 rfl rfl rfl rfl rfl (Nat.le_of_ble_eq_true rfl) ⟨by decide, by decide⟩ dX5_line_2 ?_
  refine xr_ifb_ne hM 11 dX5_line_5 (by decide) (fun c5 => ?_) (fun c5 => ?_)
  · refine xr_aload_n hM 0 dX5_line_11 rfl rfl ?_
    refine xr_aload_n hM 0 dX5_line_12 rfl rfl ?_
    refine xr_get (C := RX5) (TT0 := TX5) (N := 12) hM 5 0 0 (fun _ h => List.mem_cons_of_mem _ (List.mem_append_right _ h)) rfl rfl (by decide) (List.mem_of_getElem? (i := 2) rfl) rfl rfl dX5_line_13 ?_
    refine xr_callV2 (ws' := fun w16 g16 => [(r 0, ob 5 [.ref (r 1), .ref (r 2), .ref (r 3), .ref (r 4), iv sT, .ref (r 5), iv lE, .ref (r 6), iv aT, iv fR, iv wR, .ref (r 7)]), (r 6, ia T.2.1 3 g16), (r 1, ia T.2.1 305 w)]) (rest := []) (As := [.ref (r 1)]) (st' := []) hM (ct_X5_laysGuesses M.2.1 T r sT lE aT fR wR gs (r 1) w X hr hX.1.1) gX5_line_X5_laysGuesses rfl ⟨rfl, rfl⟩ hy_X5_laysGuesses rfl ⟨by decide, by decide⟩ [0, 1, 2] rfl rfl (fun _ _ => rfl) 0 5 rfl rfl rfl rfl rfl (Nat.le_of_ble_eq_true rfl) ⟨by decide, by decide⟩ (fun _ _ => rfl) dX5_line_16 (fun w16 g16 hP16 => ?_)
    refine xr_iload_n hM 2 dX5_line_19 rfl rfl ?_
    by_cases c20_0 : wh = 0
    · refine xr_tableIn hM 64 dX5_line_20 c20_0 (by decide) (by decide) rfl (by decide) ?_
      refine xr_aload_n hM 0 dX5_line_64 rfl rfl ?_
      refine xr_get (C := RX5) (TT0 := TX5) (N := 12) hM 5 0 0 (fun _ h => List.mem_cons_of_mem _ (List.mem_append_right _ h)) rfl rfl (by decide) (List.mem_of_getElem? (i := 2) rfl) rfl rfl dX5_line_65 ?_
      refine xr_iload_n hM 1 dX5_line_68 rfl rfl ?_
      refine xr_iconst hM dX5_line_69 ?_
      refine xr_callSr (rest := [.ref (r 1)]) (As := [iv i, iv 0]) (st' := [iv (5 + 3 * i + 0), .ref (r 1)]) hM (ct_X5_l M.2.1 T i 0) gX5_line_X5_l rfl ⟨rfl, rfl⟩ hy_X5_l rfl ⟨by decide, by decide⟩ [] rfl rfl rfl rfl (Nat.le_of_ble_eq_true rfl) ⟨by decide, by decide⟩ dX5_line_70 ?_
      refine xr_iald hM 2 (rI i 0) rfl (by unfold rI; omega) (by omega) dX5_line_73 ?_
      refine xr_topv (v' := gK (pX X) i.toNat) (hr.k (by omega)) ?_
      exact xr_iret (hF w g16 trivial) dX5_line_74 (by rw [liF, if_neg (by omega), c20_0] <;> rfl) rfl
    by_cases c20_1 : wh = 1
    · refine xr_tableIn hM 75 dX5_line_20 c20_1 (by decide) (by decide) rfl (by decide) ?_
      refine xr_aload_n hM 0 dX5_line_75 rfl rfl ?_
      refine xr_get (C := RX5) (TT0 := TX5) (N := 12) hM 5 0 0 (fun _ h => List.mem_cons_of_mem _ (List.mem_append_right _ h)) rfl rfl (by decide) (List.mem_of_getElem? (i := 2) rfl) rfl rfl dX5_line_76 ?_
      refine xr_iload_n hM 1 dX5_line_79 rfl rfl ?_
      refine xr_iconst hM dX5_line_80 ?_
      refine xr_callSr (rest := [.ref (r 1)]) (As := [iv i, iv 1]) (st' := [iv (5 + 3 * i + 1), .ref (r 1)]) hM (ct_X5_l M.2.1 T i 1) gX5_line_X5_l rfl ⟨rfl, rfl⟩ hy_X5_l rfl ⟨by decide, by decide⟩ [] rfl rfl rfl rfl (Nat.le_of_ble_eq_true rfl) ⟨by decide, by decide⟩ dX5_line_81 ?_
      refine xr_iald hM 2 (rI i 1) rfl (by unfold rI; omega) (by omega) dX5_line_84 ?_
      refine xr_topv (v' := gL (pX X) i.toNat) (hr.l (by omega)) ?_
      exact xr_iret (hF w g16 trivial) dX5_line_85 (by rw [liF, if_neg (by omega), c20_1] <;> rfl) rfl
    by_cases c20_2 : wh = 2
    · refine xr_tableIn hM 86 dX5_line_20 c20_2 (by decide) (by decide) rfl (by decide) ?_
      refine xr_aload_n hM 0 dX5_line_86 rfl rfl ?_
      refine xr_aload_n hM 0 dX5_line_87 rfl rfl ?_
      refine xr_get (C := RX5) (TT0 := TX5) (N := 12) hM 5 0 0 (fun _ h => List.mem_cons_of_mem _ (List.mem_append_right _ h)) rfl rfl (by decide) (List.mem_of_getElem? (i := 2) rfl) rfl rfl dX5_line_88 ?_
      refine xr_iload_n hM 1 dX5_line_91 rfl rfl ?_
      have hg := hP16
      refine xr_callVr (rest := []) (As := [.ref (r 1), iv i]) (st' := [iv (htF (pX X) i.toNat)]) hM (ct_X5_heightOf M.2.1 T r sT lE aT fR wR g16 (r 1) w X i hr hX.1.1 (hg) (by omega)) gX5_line_X5_heightOf rfl ⟨rfl, rfl⟩ hy_X5_heightOf rfl ⟨by decide, by decide⟩ [0, 1, 2] rfl rfl 0 5 rfl rfl rfl rfl rfl (Nat.le_of_ble_eq_true rfl) ⟨by decide, by decide⟩ dX5_line_92 ?_
      have hf92 := htF_b hX.1.1 i.toNat
      exact xr_iret (hF w g16 trivial) dX5_line_95 (by rw [liF, if_neg (by omega), c20_2] <;> rfl) rfl
    by_cases c20_3 : wh = 3
    · refine xr_tableIn hM 96 dX5_line_20 c20_3 (by decide) (by decide) rfl (by decide) ?_
      refine xr_aload_n hM 0 dX5_line_96 rfl rfl ?_
      refine xr_get (C := RX5) (TT0 := TX5) (N := 12) hM 5 0 0 (fun _ h => List.mem_cons_of_mem _ (List.mem_append_right _ h)) rfl rfl (by decide) (List.mem_of_getElem? (i := 2) rfl) rfl rfl dX5_line_97 ?_
      refine xr_iload_n hM 1 dX5_line_100 rfl rfl ?_
      refine xr_iconst hM dX5_line_101 ?_
      refine xr_callSr (rest := [.ref (r 1)]) (As := [iv i, iv 2]) (st' := [iv (5 + 3 * i + 2), .ref (r 1)]) hM (ct_X5_l M.2.1 T i 2) gX5_line_X5_l rfl ⟨rfl, rfl⟩ hy_X5_l rfl ⟨by decide, by decide⟩ [] rfl rfl rfl rfl (Nat.le_of_ble_eq_true rfl) ⟨by decide, by decide⟩ dX5_line_102 ?_
      refine xr_iald hM 2 (rI i 2) rfl (by unfold rI; omega) (by omega) dX5_line_105 ?_
      refine xr_topv (v' := gM (pX X) i.toNat) (hr.m (by omega)) ?_
      exact xr_iret (hF w g16 trivial) dX5_line_106 (by rw [liF, if_neg (by omega), c20_3] <;> rfl) rfl
    by_cases c20_4 : wh = 4
    · refine xr_tableIn hM 107 dX5_line_20 c20_4 (by decide) (by decide) rfl (by decide) ?_
      refine xr_aload_n hM 0 dX5_line_107 rfl rfl ?_
      refine xr_aload_n hM 0 dX5_line_108 rfl rfl ?_
      refine xr_get (C := RX5) (TT0 := TX5) (N := 12) hM 5 0 0 (fun _ h => List.mem_cons_of_mem _ (List.mem_append_right _ h)) rfl rfl (by decide) (List.mem_of_getElem? (i := 2) rfl) rfl rfl dX5_line_109 ?_
      refine xr_iload_n hM 1 dX5_line_112 rfl rfl ?_
      refine xr_callV2 (ws' := fun w113 g113 => [(r 0, ob 5 [.ref (r 1), .ref (r 2), .ref (r 3), .ref (r 4), iv sT, .ref (r 5), iv lE, .ref (r 6), iv aT, iv fR, iv wR, .ref (r 7)]), (r 6, ia T.2.1 3 g113), (r 1, ia T.2.1 305 w)]) (rest := []) (As := [.ref (r 1), iv i]) (st' := [iv (tpF (pX X) i.toNat)]) hM (ct_X5_topOf M.2.1 T r sT lE aT fR wR g16 (r 1) w X i hr hX.1.1 (by omega)) gX5_line_X5_topOf rfl ⟨rfl, rfl⟩ hy_X5_topOf rfl ⟨by decide, by decide⟩ [0, 1, 2] rfl rfl (fun _ _ => rfl) 0 5 rfl rfl rfl rfl rfl (Nat.le_of_ble_eq_true rfl) ⟨by decide, by decide⟩ (fun _ _ => rfl) dX5_line_113 (fun w113 g113 hP113 => ?_)
      have hf113 := tpF_b hX.1.1 i.toNat
      exact xr_iret (hF w g113 trivial) dX5_line_116 (by rw [liF, if_neg (by omega), c20_4] <;> rfl) rfl
    by_cases c20_5 : wh = 5
    · refine xr_tableIn hM 117 dX5_line_20 c20_5 (by decide) (by decide) rfl (by decide) ?_
      refine xr_aload_n hM 0 dX5_line_117 rfl rfl ?_
      refine xr_get (C := RX5) (TT0 := TX5) (N := 12) hM 5 0 0 (fun _ h => List.mem_cons_of_mem _ (List.mem_append_right _ h)) rfl rfl (by decide) (List.mem_of_getElem? (i := 2) rfl) rfl rfl dX5_line_118 ?_
      refine xr_iload_n hM 1 dX5_line_121 rfl rfl ?_
      refine xr_callSr (rest := []) (As := [.ref (r 1), iv i]) (st' := [iv (tH (gW (pX X)) (gK (pX X) i.toNat) (gL (pX X) i.toNat))]) hM (ct_X5_trueOf M.2.1 T (r 1) w X i hr hX.1.1 (by (try simp only [pX_t, pH_t, pA_t, pS_t]); omega)) gX5_line_X5_trueOf rfl ⟨rfl, rfl⟩ hy_X5_trueOf rfl ⟨by decide, by decide⟩ [2] rfl rfl rfl rfl (Nat.le_of_ble_eq_true rfl) ⟨by decide, by decide⟩ dX5_line_122 ?_
      have hf122 := (tH_b ⟨(hX.1.1.2.2.1 i.toNat).2.1, hX.1.1.2.1⟩ : 6 ≤ tH (gW (pX X)) (gK (pX X) i.toNat) (gL (pX X) i.toNat) ∧ tH (gW (pX X)) (gK (pX X) i.toNat) (gL (pX X) i.toNat) ≤ 1450)
      exact xr_iret (hF w g16 trivial) dX5_line_125 (by rw [liF, if_neg (by omega), c20_5] <;> rfl) rfl
    by_cases c20_6 : wh = 6
    · refine xr_tableIn hM 126 dX5_line_20 c20_6 (by decide) (by decide) rfl (by decide) ?_
      refine xr_aload_n hM 0 dX5_line_126 rfl rfl ?_
      refine xr_aload_n hM 0 dX5_line_127 rfl rfl ?_
      refine xr_get (C := RX5) (TT0 := TX5) (N := 12) hM 5 0 0 (fun _ h => List.mem_cons_of_mem _ (List.mem_append_right _ h)) rfl rfl (by decide) (List.mem_of_getElem? (i := 2) rfl) rfl rfl dX5_line_128 ?_
      refine xr_iload_n hM 1 dX5_line_131 rfl rfl ?_
      refine xr_callV2 (ws' := fun w132 g132 => [(r 0, ob 5 [.ref (r 1), .ref (r 2), .ref (r 3), .ref (r 4), iv sT, .ref (r 5), iv lE, .ref (r 6), iv aT, iv fR, iv wR, .ref (r 7)]), (r 6, ia T.2.1 3 g132), (r 1, ia T.2.1 305 w)]) (rest := []) (As := [.ref (r 1), iv i]) (st' := [iv (tpF (pX X) i.toNat)]) hM (ct_X5_topOf M.2.1 T r sT lE aT fR wR g16 (r 1) w X i hr hX.1.1 (by omega)) gX5_line_X5_topOf rfl ⟨rfl, rfl⟩ hy_X5_topOf rfl ⟨by decide, by decide⟩ [0, 1, 2] rfl rfl (fun _ _ => rfl) 0 5 rfl rfl rfl rfl rfl (Nat.le_of_ble_eq_true rfl) ⟨by decide, by decide⟩ (fun _ _ => rfl) dX5_line_132 (fun w132 g132 hP132 => ?_)
      have hf132 := tpF_b hX.1.1 i.toNat
      refine xr_aload_n hM 0 dX5_line_135 rfl rfl ?_
      refine xr_aload_n hM 0 dX5_line_136 rfl rfl ?_
      refine xr_get (C := RX5) (TT0 := TX5) (N := 12) hM 5 0 0 (fun _ h => List.mem_cons_of_mem _ (List.mem_append_right _ h)) rfl rfl (by decide) (List.mem_of_getElem? (i := 2) rfl) rfl rfl dX5_line_137 ?_
      refine xr_callV2 (ws' := fun w140 g140 => [(r 0, ob 5 [.ref (r 1), .ref (r 2), .ref (r 3), .ref (r 4), iv sT, .ref (r 5), iv lE, .ref (r 6), iv aT, iv fR, iv wR, .ref (r 7)]), (r 6, ia T.2.1 3 g140), (r 1, ia T.2.1 305 w)]) (rest := [iv (tpF (pX X) i.toNat)]) (As := [.ref (r 1)]) (st' := [iv (tpF (pX X) (pA X).toNat + pS X), iv (tpF (pX X) i.toNat)]) hM (ct_X5_windowOf M.2.1 T r sT lE aT fR wR g132 (r 1) w X hr hX.1.1 hX) gX5_line_X5_windowOf rfl ⟨rfl, rfl⟩ hy_X5_windowOf rfl ⟨by decide, by decide⟩ [0, 1, 2] rfl rfl (fun _ _ => rfl) 0 5 rfl rfl rfl rfl rfl (Nat.le_of_ble_eq_true rfl) ⟨by decide, by decide⟩ (fun _ _ => rfl) dX5_line_140 (fun w140 g140 hP140 => ?_)
      have hf140 := tpF_b hX.1.1 (pA X).toNat
      refine xr_isub hM dX5_line_143 ?_
      exact xr_iret (hF w g140 trivial) dX5_line_144 (by rw [liF, if_neg (by omega), c20_6] <;> rfl) rfl
    refine xr_tableOut hM 145 dX5_line_20 (by omega) (by omega) (by decide) ?_
    refine xr_ldc hM (-100001) (List.mem_of_getElem? (i := 1) rfl) (by decide) dX5_line_145 ?_
    exact xr_iret (hF w g16 trivial) dX5_line_147 (by unfold liF; (repeat rw [if_neg (by omega)])) rfl
  · refine xr_ldc hM (-100001) (List.mem_of_getElem? (i := 1) rfl) (by decide) dX5_line_8 ?_
    exact xr_iret (hF w gs trivial) dX5_line_10 (by rw [liF, if_pos (by omega)]) rfl

theorem ct_X5_seen (l : Launch) (T : TT) (r : Nat → Nat) (sT lE aT fR wR : Int) (gs w : AR) (X : WnS)  (y : Int) (hr : Rep w X) (hX : WW X) (hy : -2147483648 ≤ y ∧ y < 2147483648)  : CT2 l yX5_seen wsX5_seen rm_X5_seen T [.ref (r 0), iv y] ([(r 0, ob 5 [.ref (r 1), .ref (r 2), .ref (r 3), .ref (r 4), iv sT, .ref (r 5), iv lE, .ref (r 6), iv aT, iv fR, iv wR, .ref (r 7)]), (r 6, ia T.2.1 3 gs), (r 1, ia T.2.1 305 w)]) (some (iv (seenF X y))) (fun w_ g_ => True) (fun w_ g_ => [(r 0, ob 5 [.ref (r 1), .ref (r 2), .ref (r 3), .ref (r 4), iv sT, .ref (r 5), iv lE, .ref (r 6), iv aT, iv fR, iv wR, .ref (r 7)]), (r 6, ia T.2.1 3 g_), (r 1, ia T.2.1 305 w)]) := by
  refine CT2.Z (maxL := 2) (lv0 := [(0, .ref (r 0)), (1, iv y)]) hp_X5_seen rfl (Nat.le_of_ble_eq_true rfl) rfl rfl (fun M hM hF => ?_)
  have hn := hX.1.1.1
  have hwd := hX.1.1.2.1
  have hHH := hX.1.2.1
  have hSb := hX.1.2.2.2.2
  have hSs := hX.2
  have hAn := hX.an
  have hA0 := hX.1.2.2.1
  have hta := tpF_b hX.1.1 (pA X).toNat
  refine xr_iload_n hM 1 dX5_seen_0 rfl rfl ?_
  refine xr_iconst hM dX5_seen_1 ?_
  refine xr_aload_n hM 0 dX5_seen_2 rfl rfl ?_
  refine xr_get (C := RX5) (TT0 := TX5) (N := 12) hM 5 0 0 (fun _ h => List.mem_cons_of_mem _ (List.mem_append_right _ h)) rfl rfl (by decide) (List.mem_of_getElem? (i := 1) rfl) rfl rfl dX5_seen_3 ?_
  refine xr_iconst hM dX5_seen_6 ?_
  refine xr_iald hM 2 3 rfl rfl (by omega) dX5_seen_7 ?_
  refine xr_topv (v' := pH X) (hr.2.2.2.1) ?_
  refine xr_iconst hM dX5_seen_8 ?_
  refine xr_isub hM dX5_seen_9 ?_
  refine xr_callSr (rest := []) (As := [iv y, iv 0, iv ((pH X) - 1)]) (st' := [iv (bi (0 ≤ y ∧ y ≤ ((pH X) - 1)))]) hM (ct_X5_in M.2.1 T y 0 ((pH X) - 1) (by omega)) gX5_seen_X5_in rfl ⟨rfl, rfl⟩ hy_X5_in rfl ⟨by decide, by decide⟩ [] rfl rfl rfl rfl (Nat.le_of_ble_eq_true rfl) ⟨by decide, by decide⟩ dX5_seen_10 ?_
  refine xr_ifb_eq hM 37 dX5_seen_13 (by decide) (fun c13 => ?_) (fun c13 => ?_)
  · refine xr_ldc hM (-100001) (List.mem_of_getElem? (i := 2) rfl) (by decide) dX5_seen_37 ?_
    exact xr_iret (hF w gs trivial) dX5_seen_39 (by rw [seenF, if_pos (by omega)]) rfl
  · refine xr_aload_n hM 0 dX5_seen_16 rfl rfl ?_
    refine xr_aload_n hM 0 dX5_seen_17 rfl rfl ?_
    refine xr_get (C := RX5) (TT0 := TX5) (N := 12) hM 5 0 0 (fun _ h => List.mem_cons_of_mem _ (List.mem_append_right _ h)) rfl rfl (by decide) (List.mem_of_getElem? (i := 1) rfl) rfl rfl dX5_seen_18 ?_
    refine xr_aload_n hM 0 dX5_seen_21 rfl rfl ?_
    refine xr_aload_n hM 0 dX5_seen_22 rfl rfl ?_
    refine xr_get (C := RX5) (TT0 := TX5) (N := 12) hM 5 0 0 (fun _ h => List.mem_cons_of_mem _ (List.mem_append_right _ h)) rfl rfl (by decide) (List.mem_of_getElem? (i := 1) rfl) rfl rfl dX5_seen_23 ?_
    refine xr_callV2 (ws' := fun w26 g26 => [(r 0, ob 5 [.ref (r 1), .ref (r 2), .ref (r 3), .ref (r 4), iv sT, .ref (r 5), iv lE, .ref (r 6), iv aT, iv fR, iv wR, .ref (r 7)]), (r 6, ia T.2.1 3 g26), (r 1, ia T.2.1 305 w)]) (rest := [.ref (r 1), .ref (r 0)]) (As := [.ref (r 1)]) (st' := [iv (tpF (pX X) (pA X).toNat + pS X), .ref (r 1), .ref (r 0)]) hM (ct_X5_windowOf M.2.1 T r sT lE aT fR wR gs (r 1) w X hr hX.1.1 hX) gX5_seen_X5_windowOf rfl ⟨rfl, rfl⟩ hy_X5_windowOf rfl ⟨by decide, by decide⟩ [0, 1, 2] rfl rfl (fun _ _ => rfl) 0 5 rfl rfl rfl rfl rfl (Nat.le_of_ble_eq_true rfl) ⟨by decide, by decide⟩ (fun _ _ => rfl) dX5_seen_26 (fun w26 g26 hP26 => ?_)
    have hf26 := tpF_b hX.1.1 (pA X).toNat
    refine xr_iload_n hM 1 dX5_seen_29 rfl rfl ?_
    refine xr_iadd hM dX5_seen_30 ?_
    refine xr_callV2 (ws' := fun w31 g31 => [(r 0, ob 5 [.ref (r 1), .ref (r 2), .ref (r 3), .ref (r 4), iv sT, .ref (r 5), iv lE, .ref (r 6), iv aT, iv fR, iv wR, .ref (r 7)]), (r 6, ia T.2.1 3 g31), (r 1, ia T.2.1 305 w)]) (rest := []) (As := [.ref (r 1), iv ((tpF (pX X) (pA X).toNat + pS X) + y)]) (st' := [iv (laF (pX X) ((tpF (pX X) (pA X).toNat + pS X) + y) (gN (pX X)).toNat 0)]) hM (ct_X5_lineAt M.2.1 T r sT lE aT fR wR g26 (r 1) w X ((tpF (pX X) (pA X).toNat + pS X) + y) hr hX.1.1 (by omega)) gX5_seen_X5_lineAt rfl ⟨rfl, rfl⟩ hy_X5_lineAt rfl ⟨by decide, by decide⟩ [0, 1, 2] rfl rfl (fun _ _ => rfl) 0 5 rfl rfl rfl rfl rfl (Nat.le_of_ble_eq_true rfl) ⟨by decide, by decide⟩ (fun _ _ => rfl) dX5_seen_31 (fun w31 g31 hP31 => ?_)
    have hf31 := laF_v hX.1.1 ((tpF (pX X) (pA X).toNat + pS X) + y)
    refine xr_goto hM 39 dX5_seen_34 (by decide) ?_
    exact xr_iret (hF w g31 trivial) dX5_seen_39 (by rw [seenF, if_neg (by omega)]) rfl

theorem ct_X5_at (l : Launch) (T : TT) (r : Nat → Nat) (sT lE aT fR wR : Int) (gs w : AR) (X : WnS)  (y : Int) (hr : Rep w X) (hX : WW X) (hy : -2147483648 ≤ y ∧ y < 2147483648)  : CT2 l yX5_at wsX5_at rm_X5_at T [.ref (r 0), iv y] ([(r 0, ob 5 [.ref (r 1), .ref (r 2), .ref (r 3), .ref (r 4), iv sT, .ref (r 5), iv lE, .ref (r 6), iv aT, iv fR, iv wR, .ref (r 7)]), (r 6, ia T.2.1 3 gs), (r 1, ia T.2.1 305 w)]) (some (iv (atF X y))) (fun w_ g_ => True) (fun w_ g_ => [(r 0, ob 5 [.ref (r 1), .ref (r 2), .ref (r 3), .ref (r 4), iv sT, .ref (r 5), iv lE, .ref (r 6), iv aT, iv fR, iv wR, .ref (r 7)]), (r 6, ia T.2.1 3 g_), (r 1, ia T.2.1 305 w)]) := by
  refine CT2.Z (maxL := 2) (lv0 := [(0, .ref (r 0)), (1, iv y)]) hp_X5_at rfl (Nat.le_of_ble_eq_true rfl) rfl rfl (fun M hM hF => ?_)
  have hn := hX.1.1.1
  have hwd := hX.1.1.2.1
  have hHH := hX.1.2.1
  have hSb := hX.1.2.2.2.2
  have hSs := hX.2
  have hAn := hX.an
  have hA0 := hX.1.2.2.1
  refine xr_iload_n hM 1 dX5_at_0 rfl rfl ?_
  refine xr_if_ge hM 9 dX5_at_1 (by decide) (by omega) (fun c1 => ?_) (fun c1 => ?_)
  · refine xr_aload_n hM 0 dX5_at_9 rfl rfl ?_
    refine xr_aload_n hM 0 dX5_at_10 rfl rfl ?_
    refine xr_get (C := RX5) (TT0 := TX5) (N := 12) hM 5 0 0 (fun _ h => List.mem_cons_of_mem _ (List.mem_append_right _ h)) rfl rfl (by decide) (List.mem_of_getElem? (i := 2) rfl) rfl rfl dX5_at_11 ?_
    refine xr_iload_n hM 1 dX5_at_14 rfl rfl ?_
    refine xr_callV2 (ws' := fun w15 g15 => [(r 0, ob 5 [.ref (r 1), .ref (r 2), .ref (r 3), .ref (r 4), iv sT, .ref (r 5), iv lE, .ref (r 6), iv aT, iv fR, iv wR, .ref (r 7)]), (r 6, ia T.2.1 3 g15), (r 1, ia T.2.1 305 w)]) (rest := []) (As := [.ref (r 1), iv y]) (st' := [iv (laF (pX X) y (gN (pX X)).toNat 0)]) hM (ct_X5_lineAt M.2.1 T r sT lE aT fR wR gs (r 1) w X y hr hX.1.1 (by omega)) gX5_at_X5_lineAt rfl ⟨rfl, rfl⟩ hy_X5_lineAt rfl ⟨by decide, by decide⟩ [0, 1, 2] rfl rfl (fun _ _ => rfl) 0 5 rfl rfl rfl rfl rfl (Nat.le_of_ble_eq_true rfl) ⟨by decide, by decide⟩ (fun _ _ => rfl) dX5_at_15 (fun w15 g15 hP15 => ?_)
    have hf15 := laF_v hX.1.1 y
    exact xr_iret (hF w g15 trivial) dX5_at_18 (by rw [atF, if_neg (by omega)]) rfl
  · refine xr_ldc hM (-100001) (List.mem_of_getElem? (i := 1) rfl) (by decide) dX5_at_4 ?_
    refine xr_goto hM 18 dX5_at_6 (by decide) ?_
    exact xr_iret (hF w gs trivial) dX5_at_18 (by rw [atF, if_pos (by omega)]) rfl

theorem ct_X5_share (l : Launch) (T : TT) (r : Nat → Nat) (sT lE aT fR wR : Int) (gs w : AR) (X : WnS)   (hr : Rep w X) (hX : WW X)   : CT2 l yX5_share wsX5_share rm_X5_share T [.ref (r 0)] ([(r 0, ob 5 [.ref (r 1), .ref (r 2), .ref (r 3), .ref (r 4), iv sT, .ref (r 5), iv lE, .ref (r 6), iv aT, iv fR, iv wR, .ref (r 7)]), (r 6, ia T.2.1 3 gs), (r 1, ia T.2.1 305 w)]) (some (iv (shaF X))) (fun w_ g_ => True) (fun w_ g_ => [(r 0, ob 5 [.ref (r 1), .ref (r 2), .ref (r 3), .ref (r 4), iv sT, .ref (r 5), iv lE, .ref (r 6), iv aT, iv fR, iv wR, .ref (r 7)]), (r 6, ia T.2.1 3 g_), (r 1, ia T.2.1 305 w)]) := by
  refine CT2.Z (maxL := 2) (lv0 := [(0, .ref (r 0))]) hp_X5_share rfl (Nat.le_of_ble_eq_true rfl) rfl rfl (fun M hM hF => ?_)
  have hn := hX.1.1.1
  have hwd := hX.1.1.2.1
  have hHH := hX.1.2.1
  have hSb := hX.1.2.2.2.2
  have hSs := hX.2
  have hAn := hX.an
  have hA0 := hX.1.2.2.1
  have hta := tpF_b hX.1.1 (pA X).toNat
  have htn := tpF_b hX.1.1 (gN (pX X)).toNat
  refine xr_aload_n hM 0 dX5_share_0 rfl rfl ?_
  refine xr_aload_n hM 0 dX5_share_1 rfl rfl ?_
  refine xr_get (C := RX5) (TT0 := TX5) (N := 12) hM 5 0 0 (fun _ h => List.mem_cons_of_mem _ (List.mem_append_right _ h)) rfl rfl (by decide) (List.mem_of_getElem? (i := 1) rfl) rfl rfl dX5_share_2 ?_
  refine xr_callV2 (ws' := fun w5 g5 => [(r 0, ob 5 [.ref (r 1), .ref (r 2), .ref (r 3), .ref (r 4), iv sT, .ref (r 5), iv lE, .ref (r 6), iv aT, iv fR, iv wR, .ref (r 7)]), (r 6, ia T.2.1 3 g5), (r 1, ia T.2.1 305 w)]) (rest := []) (As := [.ref (r 1)]) (st' := [iv (tpF (pX X) (gN (pX X)).toNat)]) hM (ct_X5_total M.2.1 T r sT lE aT fR wR gs (r 1) w X hr hX.1.1) gX5_share_X5_total rfl ⟨rfl, rfl⟩ hy_X5_total rfl ⟨by decide, by decide⟩ [0, 1, 2] rfl rfl (fun _ _ => rfl) 0 5 rfl rfl rfl rfl rfl (Nat.le_of_ble_eq_true rfl) ⟨by decide, by decide⟩ (fun _ _ => rfl) dX5_share_5 (fun w5 g5 hP5 => ?_)
  have hf5 := tpF_b hX.1.1 (gN (pX X)).toNat
  refine xr_aload_n hM 0 dX5_share_8 rfl rfl ?_
  refine xr_get (C := RX5) (TT0 := TX5) (N := 12) hM 5 0 0 (fun _ h => List.mem_cons_of_mem _ (List.mem_append_right _ h)) rfl rfl (by decide) (List.mem_of_getElem? (i := 1) rfl) rfl rfl dX5_share_9 ?_
  refine xr_iconst hM dX5_share_12 ?_
  refine xr_iald hM 2 3 rfl rfl (by omega) dX5_share_13 ?_
  refine xr_topv (v' := pH X) (hr.2.2.2.1) ?_
  refine xr_isub hM dX5_share_14 ?_
  refine xr_istore_n (lv' := [(0, .ref (r 0)), (1, iv ((tpF (pX X) (gN (pX X)).toNat) - (pH X)))]) hM dX5_share_15 rfl (by decide) rfl rfl ?_
  refine xr_iload_n hM 1 dX5_share_16 rfl rfl ?_
  refine xr_if_gt hM 24 dX5_share_17 (by decide) (by omega) (fun c17 => ?_) (fun c17 => ?_)
  · refine xr_aload_n hM 0 dX5_share_24 rfl rfl ?_
    refine xr_aload_n hM 0 dX5_share_25 rfl rfl ?_
    refine xr_get (C := RX5) (TT0 := TX5) (N := 12) hM 5 0 0 (fun _ h => List.mem_cons_of_mem _ (List.mem_append_right _ h)) rfl rfl (by decide) (List.mem_of_getElem? (i := 1) rfl) rfl rfl dX5_share_26 ?_
    refine xr_callV2 (ws' := fun w29 g29 => [(r 0, ob 5 [.ref (r 1), .ref (r 2), .ref (r 3), .ref (r 4), iv sT, .ref (r 5), iv lE, .ref (r 6), iv aT, iv fR, iv wR, .ref (r 7)]), (r 6, ia T.2.1 3 g29), (r 1, ia T.2.1 305 w)]) (rest := []) (As := [.ref (r 1)]) (st' := [iv (tpF (pX X) (pA X).toNat + pS X)]) hM (ct_X5_windowOf M.2.1 T r sT lE aT fR wR g5 (r 1) w X hr hX.1.1 hX) gX5_share_X5_windowOf rfl ⟨rfl, rfl⟩ hy_X5_windowOf rfl ⟨by decide, by decide⟩ [0, 1, 2] rfl rfl (fun _ _ => rfl) 0 5 rfl rfl rfl rfl rfl (Nat.le_of_ble_eq_true rfl) ⟨by decide, by decide⟩ (fun _ _ => rfl) dX5_share_29 (fun w29 g29 hP29 => ?_)
    have hf29 := tpF_b hX.1.1 (pA X).toNat
    refine xr_sipush hM dX5_share_32 (by decide) ?_
    refine xr_imul hM dX5_share_35 ?_
    refine xr_iload_n hM 1 dX5_share_36 rfl rfl ?_
    refine xr_idiv hM dX5_share_37 (by omega) ?_
    exact xr_iret (hF w g29 trivial) dX5_share_38 (by rw [shaF, if_neg (by omega)]) rfl
  · refine xr_iconst hM dX5_share_20 ?_
    refine xr_goto hM 38 dX5_share_21 (by decide) ?_
    exact xr_iret (hF w g5 trivial) dX5_share_38 (by rw [shaF, if_pos (by omega)]) rfl

theorem lp_X5_trueSum {T : TT} {M : MB} (r : Nat → Nat) (sT lE aT fR wR : Int) (gs w : AR) (X : WnS) (i j : Int) (hr : Rep w X) (hX : WW X) (hi : 0 ≤ i ∧ i < gN (pX X)) (hj : 0 ≤ j ∧ j < gN (pX X)) (hij : i ≤ j) (hM : FM T M cX5_trueSum RX5 5 wsX5_trueSum rm_X5_trueSum) (hF : FinI T M cX5_trueSum 5 (iv (tsF X i j)) ([(r 0, ob 5 [.ref (r 1), .ref (r 2), .ref (r 3), .ref (r 4), iv sT, .ref (r 5), iv lE, .ref (r 6), iv aT, iv fR, iv wR, .ref (r 7)]), (r 6, ia T.2.1 3 gs), (r 1, ia T.2.1 305 w)])) : ∀ (f k : Nat), i + (k : Int) + (f : Int) = j + 1 → VV T M 5 [(0, .ref (r 0)), (1, iv i), (2, iv j), (3, iv (tsS (pX X) i.toNat k)), (4, iv (i + (k : Int)))] [(r 0, ob 5 [.ref (r 1), .ref (r 2), .ref (r 3), .ref (r 4), iv sT, .ref (r 5), iv lE, .ref (r 6), iv aT, iv fR, iv wR, .ref (r 7)]), (r 6, ia T.2.1 3 gs), (r 1, ia T.2.1 305 w)] 0 0 29 [] := by
  intro f
  induction f with
  | zero =>
    intro k h1
    have hn := hX.1.1.1
    have hwd := hX.1.1.2.1
    have hHH := hX.1.2.1
    have hSb := hX.1.2.2.2.2
    have hSs := hX.2
    have hAn := hX.an
    have hA0 := hX.1.2.2.1
    have htk := tsS_b hX.1.1 i.toNat k
    refine xr_iload hM 4 dX5_trueSum_29 rfl ?_
    refine xr_iload_n hM 2 dX5_trueSum_31 rfl rfl ?_
    refine xr_icmp_gt hM 53 dX5_trueSum_32 (by decide) (by omega) (fun c32 => ?_) (fun c32 => by exfalso; omega)
    refine xr_iload_n hM 3 dX5_trueSum_53 rfl rfl ?_
    exact xr_iret hF dX5_trueSum_54 (by rw [tsF, if_neg (by omega)]; exact congrArg (tsS (pX X) i.toNat) (by omega)) rfl
  | succ f ih =>
    intro k h1
    have hn := hX.1.1.1
    have hwd := hX.1.1.2.1
    have hHH := hX.1.2.1
    have hSb := hX.1.2.2.2.2
    have hSs := hX.2
    have hAn := hX.an
    have hA0 := hX.1.2.2.1
    have htk := tsS_b hX.1.1 i.toNat k
    refine xr_iload hM 4 dX5_trueSum_29 rfl ?_
    refine xr_iload_n hM 2 dX5_trueSum_31 rfl rfl ?_
    refine xr_icmp_gt hM 53 dX5_trueSum_32 (by decide) (by omega) (fun c32 => by exfalso; omega) (fun c32 => ?_)
    refine xr_iload_n hM 3 dX5_trueSum_35 rfl rfl ?_
    refine xr_aload_n hM 0 dX5_trueSum_36 rfl rfl ?_
    refine xr_get (C := RX5) (TT0 := TX5) (N := 12) hM 5 0 0 (fun _ h => List.mem_cons_of_mem _ (List.mem_append_right _ h)) rfl rfl (by decide) (List.mem_of_getElem? (i := 2) rfl) rfl rfl dX5_trueSum_37 ?_
    refine xr_iload hM 4 dX5_trueSum_40 rfl ?_
    refine xr_callSr (rest := [iv (tsS (pX X) i.toNat k)]) (As := [.ref (r 1), iv (i + (k : Int))]) (st' := [iv (tH (gW (pX X)) (gK (pX X) (i + (k : Int)).toNat) (gL (pX X) (i + (k : Int)).toNat)), iv (tsS (pX X) i.toNat k)]) hM (ct_X5_trueOf M.2.1 T (r 1) w X (i + (k : Int)) hr hX.1.1 (by (try simp only [pX_t, pH_t, pA_t, pS_t]); omega)) gX5_trueSum_X5_trueOf rfl ⟨rfl, rfl⟩ hy_X5_trueOf rfl ⟨by decide, by decide⟩ [2] rfl rfl rfl rfl (Nat.le_of_ble_eq_true rfl) ⟨by decide, by decide⟩ dX5_trueSum_42 ?_
    have hf42 := (tH_b ⟨(hX.1.1.2.2.1 (i + (k : Int)).toNat).2.1, hX.1.1.2.1⟩ : 6 ≤ tH (gW (pX X)) (gK (pX X) (i + (k : Int)).toNat) (gL (pX X) (i + (k : Int)).toNat) ∧ tH (gW (pX X)) (gK (pX X) (i + (k : Int)).toNat) (gL (pX X) (i + (k : Int)).toNat) ≤ 1450)
    refine xr_iadd hM dX5_trueSum_45 ?_
    refine xr_istore_n (lv' := [(0, .ref (r 0)), (1, iv i), (2, iv j), (3, iv ((tsS (pX X) i.toNat k) + (tH (gW (pX X)) (gK (pX X) (i + (k : Int)).toNat) (gL (pX X) (i + (k : Int)).toNat)))), (4, iv (i + (k : Int)))]) hM dX5_trueSum_46 rfl (by decide) rfl rfl ?_
    refine xr_iinc (lv' := [(0, .ref (r 0)), (1, iv i), (2, iv j), (3, iv ((tsS (pX X) i.toNat k) + (tH (gW (pX X)) (gK (pX X) (i + (k : Int)).toNat) (gL (pX X) (i + (k : Int)).toNat)))), (4, iv ((i + (k : Int)) + 1))]) hM 4 dX5_trueSum_47 rfl (by decide) rfl rfl ?_
    refine xr_goto hM 29 dX5_trueSum_50 (by decide) ?_
    refine xr_re (lv' := [(0, .ref (r 0)), (1, iv i), (2, iv j), (3, iv (tsS (pX X) i.toNat (k + 1))), (4, iv (i + ((k + 1 : Nat) : Int)))]) (ws' := [(r 0, ob 5 [.ref (r 1), .ref (r 2), .ref (r 3), .ref (r 4), iv sT, .ref (r 5), iv lE, .ref (r 6), iv aT, iv fR, iv wR, .ref (r 7)]), (r 6, ia T.2.1 3 gs), (r 1, ia T.2.1 305 w)]) (st' := []) (by rw [show (i + (k : Int)).toNat = i.toNat + k by omega, Int.natCast_add, ← Int.add_assoc]; rfl) rfl rfl ?_
    exact ih (k + 1) (by omega)

theorem ct_X5_trueSum (l : Launch) (T : TT) (r : Nat → Nat) (sT lE aT fR wR : Int) (gs w : AR) (X : WnS)  (i j : Int) (hr : Rep w X) (hX : WW X) (hi : -2147483648 ≤ i ∧ i < 2147483648) (hj : -2147483648 ≤ j ∧ j < 2147483648)  : CT2 l yX5_trueSum wsX5_trueSum rm_X5_trueSum T [.ref (r 0), iv i, iv j] ([(r 0, ob 5 [.ref (r 1), .ref (r 2), .ref (r 3), .ref (r 4), iv sT, .ref (r 5), iv lE, .ref (r 6), iv aT, iv fR, iv wR, .ref (r 7)]), (r 6, ia T.2.1 3 gs), (r 1, ia T.2.1 305 w)]) (some (iv (tsF X i j))) (fun w_ g_ => True) (fun w_ g_ => [(r 0, ob 5 [.ref (r 1), .ref (r 2), .ref (r 3), .ref (r 4), iv sT, .ref (r 5), iv lE, .ref (r 6), iv aT, iv fR, iv wR, .ref (r 7)]), (r 6, ia T.2.1 3 g_), (r 1, ia T.2.1 305 w)]) := by
  refine CT2.Z (maxL := 5) (lv0 := [(0, .ref (r 0)), (1, iv i), (2, iv j)]) hp_X5_trueSum rfl (Nat.le_of_ble_eq_true rfl) rfl rfl (fun M hM hF => ?_)
  have hn := hX.1.1.1
  have hwd := hX.1.1.2.1
  have hHH := hX.1.2.1
  have hSb := hX.1.2.2.2.2
  have hSs := hX.2
  have hAn := hX.an
  have hA0 := hX.1.2.2.1
  refine xr_aload_n hM 0 dX5_trueSum_0 rfl rfl ?_
  refine xr_iload_n hM 1 dX5_trueSum_1 rfl rfl ?_
  refine xr_callVr (rest := []) (As := [iv i]) (st' := [iv (bi (0 ≤ i ∧ i ≤ gN (pX X) - 1))]) hM (ct_X5_isLine M.2.1 T r sT lE aT fR wR w X i hr hX.1.1 (by omega)) gX5_trueSum_X5_isLine rfl ⟨rfl, rfl⟩ hy_X5_isLine rfl ⟨by decide, by decide⟩ [0, 2] rfl rfl 0 5 rfl rfl rfl rfl rfl (Nat.le_of_ble_eq_true rfl) ⟨by decide, by decide⟩ dX5_trueSum_2 ?_
  refine xr_ifb_eq hM 21 dX5_trueSum_5 (by decide) (fun c5 => ?_) (fun c5 => ?_)
  · refine xr_ldc hM (-100001) (List.mem_of_getElem? (i := 1) rfl) (by decide) dX5_trueSum_21 ?_
    exact xr_iret (hF w gs trivial) dX5_trueSum_23 (by rw [tsF, if_pos (by omega)]) rfl
  · refine xr_aload_n hM 0 dX5_trueSum_8 rfl rfl ?_
    refine xr_iload_n hM 2 dX5_trueSum_9 rfl rfl ?_
    refine xr_callVr (rest := []) (As := [iv j]) (st' := [iv (bi (0 ≤ j ∧ j ≤ gN (pX X) - 1))]) hM (ct_X5_isLine M.2.1 T r sT lE aT fR wR w X j hr hX.1.1 (by omega)) gX5_trueSum_X5_isLine rfl ⟨rfl, rfl⟩ hy_X5_isLine rfl ⟨by decide, by decide⟩ [0, 2] rfl rfl 0 5 rfl rfl rfl rfl rfl (Nat.le_of_ble_eq_true rfl) ⟨by decide, by decide⟩ dX5_trueSum_10 ?_
    refine xr_ifb_eq hM 21 dX5_trueSum_13 (by decide) (fun c13 => ?_) (fun c13 => ?_)
    · refine xr_ldc hM (-100001) (List.mem_of_getElem? (i := 1) rfl) (by decide) dX5_trueSum_21 ?_
      exact xr_iret (hF w gs trivial) dX5_trueSum_23 (by rw [tsF, if_pos (by omega)]) rfl
    · refine xr_iload_n hM 2 dX5_trueSum_16 rfl rfl ?_
      refine xr_iload_n hM 1 dX5_trueSum_17 rfl rfl ?_
      refine xr_icmp_ge hM 24 dX5_trueSum_18 (by decide) (by omega) (fun c18 => ?_) (fun c18 => ?_)
      · refine xr_iconst hM dX5_trueSum_24 ?_
        refine xr_istore_n (lv' := [(0, .ref (r 0)), (1, iv i), (2, iv j), (3, iv 0)]) hM dX5_trueSum_25 rfl (by decide) rfl rfl ?_
        refine xr_iload_n hM 1 dX5_trueSum_26 rfl rfl ?_
        refine xr_istore (lv' := [(0, .ref (r 0)), (1, iv i), (2, iv j), (3, iv 0), (4, iv i)]) hM dX5_trueSum_27 (by decide) rfl rfl ?_
        refine xr_re (lv' := [(0, .ref (r 0)), (1, iv i), (2, iv j), (3, iv (tsS (pX X) i.toNat 0)), (4, iv (i + ((0 : Nat) : Int)))]) (ws' := [(r 0, ob 5 [.ref (r 1), .ref (r 2), .ref (r 3), .ref (r 4), iv sT, .ref (r 5), iv lE, .ref (r 6), iv aT, iv fR, iv wR, .ref (r 7)]), (r 6, ia T.2.1 3 gs), (r 1, ia T.2.1 305 w)]) (st' := []) (by rw [show i + ((0 : Nat) : Int) = i by omega]; rfl) rfl rfl ?_
        exact lp_X5_trueSum r sT lE aT fR wR gs w X i j hr hX (by omega) (by omega) (by omega) hM (hF w gs trivial) (j - i + 1).toNat 0 (by omega)
      · refine xr_ldc hM (-100001) (List.mem_of_getElem? (i := 1) rfl) (by decide) dX5_trueSum_21 ?_
        exact xr_iret (hF w gs trivial) dX5_trueSum_23 (by rw [tsF, if_pos (by omega)]) rfl

theorem lp_X5_scrollsTo {T : TT} {M : MB} (r : Nat → Nat) (sT lE aT fR wR : Int) (w : AR) (X : WnS) (i d : Int) (R : Int × WnS) (hr : Rep w X) (hX : WW X) (hi : 0 ≤ i ∧ i < gN (pX X)) (hd : d ≠ 0 ∧ -9999 ≤ d ∧ d ≤ 9999) (hM : FM T M cX5_scrollsTo RX5 4 wsX5_scrollsTo rm_X5_scrollsTo) (hF : ∀ w_ g_ : AR, True → FinI T M cX5_scrollsTo 4 (iv R.1) ([(r 0, ob 5 [.ref (r 1), .ref (r 2), .ref (r 3), .ref (r 4), iv sT, .ref (r 5), iv lE, .ref (r 6), iv aT, iv fR, iv wR, .ref (r 7)]), (r 6, ia T.2.1 3 g_), (r 1, ia T.2.1 305 w), (r 3, ia T.2.1 305 w_)])) : ∀ (f : Nat) (q : Int) (Z : WnS) (gs tr : AR), Rep tr Z → WW Z → gN (pX Z) = gN (pX X) → 0 ≤ q → q + f = 101 → scL i d f q Z = R → VV T M 4 [(0, .ref (r 0)), (1, iv i), (2, iv d), (3, iv q)] [(r 0, ob 5 [.ref (r 1), .ref (r 2), .ref (r 3), .ref (r 4), iv sT, .ref (r 5), iv lE, .ref (r 6), iv aT, iv fR, iv wR, .ref (r 7)]), (r 6, ia T.2.1 3 gs), (r 1, ia T.2.1 305 w), (r 3, ia T.2.1 305 tr)] 0 0 43 [] := by
  intro f
  induction f with
  | zero =>
    intro q Z gs tr hz hZ hZN h0 h1 hR
    have hn := hX.1.1.1
    have hwd := hX.1.1.2.1
    have hHH := hX.1.2.1
    have hSb := hX.1.2.2.2.2
    have hSs := hX.2
    have hAn := hX.an
    have hA0 := hX.1.2.2.1
    refine xr_iload_n hM 3 dX5_scrollsTo_43 rfl rfl ?_
    refine xr_bipush hM dX5_scrollsTo_44 (by decide) ?_
    refine xr_icmp_ge hM 77 dX5_scrollsTo_46 (by decide) (by omega) (fun c46 => ?_) (fun c46 => by exfalso; omega)
    refine xr_ldc hM (-100009) (List.mem_of_getElem? (i := 4) rfl) (by decide) dX5_scrollsTo_77 ?_
    exact xr_iret (hF tr gs trivial) dX5_scrollsTo_79 (by rw [← hR, scL]) rfl
  | succ f ih =>
    intro q Z gs tr hz hZ hZN h0 h1 hR
    have hn := hX.1.1.1
    have hwd := hX.1.1.2.1
    have hHH := hX.1.2.1
    have hSb := hX.1.2.2.2.2
    have hSs := hX.2
    have hAn := hX.an
    have hA0 := hX.1.2.2.1
    refine xr_iload_n hM 3 dX5_scrollsTo_43 rfl rfl ?_
    refine xr_bipush hM dX5_scrollsTo_44 (by decide) ?_
    refine xr_icmp_ge hM 77 dX5_scrollsTo_46 (by decide) (by omega) (fun c46 => by exfalso; omega) (fun c46 => ?_)
    refine xr_aload_n hM 0 dX5_scrollsTo_49 rfl rfl ?_
    refine xr_aload_n hM 0 dX5_scrollsTo_50 rfl rfl ?_
    refine xr_get (C := RX5) (TT0 := TX5) (N := 12) hM 5 0 2 (fun _ h => List.mem_cons_of_mem _ (List.mem_append_right _ h)) rfl rfl (by decide) (List.mem_of_getElem? (i := 3) rfl) rfl rfl dX5_scrollsTo_51 ?_
    refine xr_iload_n hM 1 dX5_scrollsTo_54 rfl rfl ?_
    refine xr_callV2 (ws' := fun w55 g55 => [(r 0, ob 5 [.ref (r 1), .ref (r 2), .ref (r 3), .ref (r 4), iv sT, .ref (r 5), iv lE, .ref (r 6), iv aT, iv fR, iv wR, .ref (r 7)]), (r 6, ia T.2.1 3 g55), (r 1, ia T.2.1 305 w), (r 3, ia T.2.1 305 tr)]) (rest := []) (As := [.ref (r 3), iv i]) (st' := [iv (bi (shP Z i))]) hM (ct_X5_isSeen M.2.1 T r sT lE aT fR wR gs (r 3) tr Z i hz hZ.1.1 hZ (by omega)) gX5_scrollsTo_X5_isSeen rfl ⟨rfl, rfl⟩ hy_X5_isSeen rfl ⟨by decide, by decide⟩ [0, 1, 3] rfl rfl (fun _ _ => rfl) 0 5 rfl rfl rfl rfl rfl (Nat.le_of_ble_eq_true rfl) ⟨by decide, by decide⟩ (fun _ _ => rfl) dX5_scrollsTo_55 (fun w55 g55 hP55 => ?_)
    refine xr_ifb_eq hM 63 dX5_scrollsTo_58 (by decide) (fun c58 => ?_) (fun c58 => ?_)
    · refine xr_aload_n hM 0 dX5_scrollsTo_63 rfl rfl ?_
      refine xr_get (C := RX5) (TT0 := TX5) (N := 12) hM 5 0 2 (fun _ h => List.mem_cons_of_mem _ (List.mem_append_right _ h)) rfl rfl (by decide) (List.mem_of_getElem? (i := 3) rfl) rfl rfl dX5_scrollsTo_64 ?_
      refine xr_iload_n hM 2 dX5_scrollsTo_67 rfl rfl ?_
      refine xr_callS2 (ws' := fun w68 g68 => [(r 0, ob 5 [.ref (r 1), .ref (r 2), .ref (r 3), .ref (r 4), iv sT, .ref (r 5), iv lE, .ref (r 6), iv aT, iv fR, iv wR, .ref (r 7)]), (r 6, ia T.2.1 3 g55), (r 1, ia T.2.1 305 w), (r 3, ia T.2.1 305 w68)]) (rest := []) (As := [.ref (r 3), iv d]) (st' := []) hM (ct_X5_scrolls M.2.1 T (r 3) tr Z d hz hZ (by omega) (by omega)) gX5_scrollsTo_X5_scrolls rfl ⟨rfl, rfl⟩ hy_X5_scrolls rfl ⟨by decide, by decide⟩ [3] rfl rfl (fun _ _ => rfl) rfl rfl (Nat.le_of_ble_eq_true rfl) ⟨by decide, by decide⟩ (fun _ _ => rfl) dX5_scrollsTo_68 (fun w68 g68 hP68 => ?_)
      have hf68 := (WW_se (PW_mb (d := d) hZ (by omega) (by omega)).1).2.trans (PW_mb (d := d) hZ (by omega) (by omega)).2
      have hw68 := (WW_se (PW_mb (d := d) hZ (by omega) (by omega)).1).1.1.1
      have hw68_1 := (WW_se (PW_mb (d := d) hZ (by omega) (by omega)).1).1
      refine xr_iinc (lv' := [(0, .ref (r 0)), (1, iv i), (2, iv d), (3, iv (q + 1))]) hM 3 dX5_scrollsTo_71 rfl (by decide) rfl rfl ?_
      refine xr_goto hM 43 dX5_scrollsTo_74 (by decide) ?_
      have em : (mbR Z d).2 = seF (mbP Z d) := by rw [mbR, if_neg (by omega), if_neg (by omega)]
      exact ih (q + 1) (mbR Z d).2 g55 w68 (by rw [em]; exact hP68) (WW_mb hZ d) ((mbR_N hZ d).trans hZN) (by omega) (by omega) (by rw [← hR, scL, if_neg c58])
    · refine xr_iload_n hM 3 dX5_scrollsTo_61 rfl rfl ?_
      exact xr_iret (hF tr g55 trivial) dX5_scrollsTo_62 (by rw [← hR, scL, if_pos c58]) rfl

theorem ct_X5_scrollsTo (l : Launch) (T : TT) (r : Nat → Nat) (sT lE aT fR wR : Int) (gs w : AR) (X : WnS) (tr : AR) (i d : Int) (hr : Rep w X) (hX : WW X) (hi : -2147483648 ≤ i ∧ i < 2147483648) (hd : -2147483648 ≤ d ∧ d < 2147483648)  : CT2 l yX5_scrollsTo wsX5_scrollsTo rm_X5_scrollsTo T [.ref (r 0), iv i, iv d] ([(r 0, ob 5 [.ref (r 1), .ref (r 2), .ref (r 3), .ref (r 4), iv sT, .ref (r 5), iv lE, .ref (r 6), iv aT, iv fR, iv wR, .ref (r 7)]), (r 6, ia T.2.1 3 gs), (r 1, ia T.2.1 305 w), (r 3, ia T.2.1 305 tr)]) (some (iv ((scR X X i d).1))) (fun w_ g_ => True) (fun w_ g_ => [(r 0, ob 5 [.ref (r 1), .ref (r 2), .ref (r 3), .ref (r 4), iv sT, .ref (r 5), iv lE, .ref (r 6), iv aT, iv fR, iv wR, .ref (r 7)]), (r 6, ia T.2.1 3 g_), (r 1, ia T.2.1 305 w), (r 3, ia T.2.1 305 w_)]) := by
  refine CT2.Z (maxL := 4) (lv0 := [(0, .ref (r 0)), (1, iv i), (2, iv d)]) hp_X5_scrollsTo rfl (Nat.le_of_ble_eq_true rfl) rfl rfl (fun M hM hF => ?_)
  have hn := hX.1.1.1
  have hwd := hX.1.1.2.1
  have hHH := hX.1.2.1
  have hSb := hX.1.2.2.2.2
  have hSs := hX.2
  have hAn := hX.an
  have hA0 := hX.1.2.2.1
  refine xr_aload_n hM 0 dX5_scrollsTo_0 rfl rfl ?_
  refine xr_iload_n hM 1 dX5_scrollsTo_1 rfl rfl ?_
  refine xr_callVr (rest := []) (As := [iv i]) (st' := [iv (bi (0 ≤ i ∧ i ≤ gN (pX X) - 1))]) hM (ct_X5_isLine M.2.1 T r sT lE aT fR wR w X i hr hX.1.1 (by omega)) gX5_scrollsTo_X5_isLine rfl ⟨rfl, rfl⟩ hy_X5_isLine rfl ⟨by decide, by decide⟩ [0, 2] rfl rfl 0 5 rfl rfl rfl rfl rfl (Nat.le_of_ble_eq_true rfl) ⟨by decide, by decide⟩ dX5_scrollsTo_2 ?_
  refine xr_ifb_eq hM 25 dX5_scrollsTo_5 (by decide) (fun c5 => ?_) (fun c5 => ?_)
  · refine xr_ldc hM (-100001) (List.mem_of_getElem? (i := 1) rfl) (by decide) dX5_scrollsTo_25 ?_
    exact xr_iret (hF tr gs trivial) dX5_scrollsTo_27 (by rw [scR, if_pos (by omega)]) rfl
  · refine xr_iload_n hM 2 dX5_scrollsTo_8 rfl rfl ?_
    refine xr_sipush hM dX5_scrollsTo_9 (by decide) ?_
    refine xr_sipush hM dX5_scrollsTo_12 (by decide) ?_
    refine xr_callSr (rest := []) (As := [iv d, iv (-9999), iv 9999]) (st' := [iv (bi ((-9999) ≤ d ∧ d ≤ 9999))]) hM (ct_X5_in M.2.1 T d (-9999) 9999 (by omega)) gX5_scrollsTo_X5_in rfl ⟨rfl, rfl⟩ hy_X5_in rfl ⟨by decide, by decide⟩ [] rfl rfl rfl rfl (Nat.le_of_ble_eq_true rfl) ⟨by decide, by decide⟩ dX5_scrollsTo_15 ?_
    refine xr_ifb_eq hM 25 dX5_scrollsTo_18 (by decide) (fun c18 => ?_) (fun c18 => ?_)
    · refine xr_ldc hM (-100001) (List.mem_of_getElem? (i := 1) rfl) (by decide) dX5_scrollsTo_25 ?_
      exact xr_iret (hF tr gs trivial) dX5_scrollsTo_27 (by rw [scR, if_pos (by omega)]) rfl
    · refine xr_iload_n hM 2 dX5_scrollsTo_21 rfl rfl ?_
      refine xr_if_ne hM 28 dX5_scrollsTo_22 (by decide) (by omega) (fun c22 => ?_) (fun c22 => ?_)
      · refine xr_aload_n hM 0 dX5_scrollsTo_28 rfl rfl ?_
        refine xr_get (C := RX5) (TT0 := TX5) (N := 12) hM 5 0 0 (fun _ h => List.mem_cons_of_mem _ (List.mem_append_right _ h)) rfl rfl (by decide) (List.mem_of_getElem? (i := 2) rfl) rfl rfl dX5_scrollsTo_29 ?_
        refine xr_iconst hM dX5_scrollsTo_32 ?_
        refine xr_aload_n hM 0 dX5_scrollsTo_33 rfl rfl ?_
        refine xr_get (C := RX5) (TT0 := TX5) (N := 12) hM 5 0 2 (fun _ h => List.mem_cons_of_mem _ (List.mem_append_right _ h)) rfl rfl (by decide) (List.mem_of_getElem? (i := 3) rfl) rfl rfl dX5_scrollsTo_34 ?_
        refine xr_iconst hM dX5_scrollsTo_37 ?_
        refine xr_callS (ws' := [(r 0, ob 5 [.ref (r 1), .ref (r 2), .ref (r 3), .ref (r 4), iv sT, .ref (r 5), iv lE, .ref (r 6), iv aT, iv fR, iv wR, .ref (r 7)]), (r 6, ia T.2.1 3 gs), (r 1, ia T.2.1 305 w), (r 3, ia T.2.1 305 (va_cpy w tr 0 0 305))]) (rest := []) (As := [.ref (r 1), iv 0, .ref (r 3), iv 0]) (st' := []) hM (ct_X5_copies M.2.1 T (r 1) 305 w 0 (r 3) 305 tr 0 (by omega)) gX5_scrollsTo_X5_copies rfl ⟨rfl, rfl⟩ hy_X5_copies rfl ⟨by decide, by decide⟩ [2, 3] rfl rfl rfl rfl rfl (Nat.le_of_ble_eq_true rfl) ⟨by decide, by decide⟩ rfl dX5_scrollsTo_38 ?_
        refine xr_iconst hM dX5_scrollsTo_41 ?_
        refine xr_istore_n (lv' := [(0, .ref (r 0)), (1, iv i), (2, iv d), (3, iv 0)]) hM dX5_scrollsTo_42 rfl (by decide) rfl rfl ?_
        have eS : scR X X i d = scL i d 101 0 X := if_neg (fun q9 => q9 (by omega))
        rw [eS] at hF
        exact lp_X5_scrollsTo r sT lE aT fR wR w X i d _ hr hX (by omega) (by omega) hM hF 101 0 X gs (va_cpy w tr 0 0 305) (RG.cp hr (fun j hj => xi_cpy0 hj) hX.1.1.1.2) hX rfl (by decide) (by decide) rfl
      · refine xr_ldc hM (-100001) (List.mem_of_getElem? (i := 1) rfl) (by decide) dX5_scrollsTo_25 ?_
        exact xr_iret (hF tr gs trivial) dX5_scrollsTo_27 (by rw [scR, if_pos (by omega)]) rfl

theorem ct_X5_measuredBy (l : Launch) (T : TT) (r : Nat → Nat) (sT lE aT fR wR : Int) (gs w : AR) (X : WnS) (tr : AR) (v : Int) (hr : Rep w X) (hX : WW X) (hv : -2147483648 ≤ v ∧ v < 2147483648)  : CT2 l yX5_measuredBy wsX5_measuredBy rm_X5_measuredBy T [.ref (r 0), iv v] ([(r 0, ob 5 [.ref (r 1), .ref (r 2), .ref (r 3), .ref (r 4), iv sT, .ref (r 5), iv lE, .ref (r 6), iv aT, iv fR, iv wR, .ref (r 7)]), (r 6, ia T.2.1 3 gs), (r 1, ia T.2.1 305 w), (r 3, ia T.2.1 305 tr)]) (some (iv (if ¬ (0 ≤ v ∧ v ≤ 1000) then -100001 else gC (pX (msR X v).2) 0 + gC (pX (msR X v).2) 1 + gC (pX (msR X v).2) 2 - (gC (pX X) 0 + gC (pX X) 1 + gC (pX X) 2)))) (fun w_ g_ => True) (fun w_ g_ => [(r 0, ob 5 [.ref (r 1), .ref (r 2), .ref (r 3), .ref (r 4), iv sT, .ref (r 5), iv lE, .ref (r 6), iv aT, iv fR, iv wR, .ref (r 7)]), (r 6, ia T.2.1 3 g_), (r 1, ia T.2.1 305 w), (r 3, ia T.2.1 305 w_)]) := by
  refine CT2.Z (maxL := 2) (lv0 := [(0, .ref (r 0)), (1, iv v)]) hp_X5_measuredBy rfl (Nat.le_of_ble_eq_true rfl) rfl rfl (fun M hM hF => ?_)
  have hn := hX.1.1.1
  have hwd := hX.1.1.2.1
  have hHH := hX.1.2.1
  have hSb := hX.1.2.2.2.2
  have hSs := hX.2
  have hAn := hX.an
  have hA0 := hX.1.2.2.1
  refine xr_iload_n hM 1 dX5_measuredBy_0 rfl rfl ?_
  refine xr_iconst hM dX5_measuredBy_1 ?_
  refine xr_sipush hM dX5_measuredBy_2 (by decide) ?_
  refine xr_callSr (rest := []) (As := [iv v, iv 0, iv 1000]) (st' := [iv (bi (0 ≤ v ∧ v ≤ 1000))]) hM (ct_X5_in M.2.1 T v 0 1000 (by omega)) gX5_measuredBy_X5_in rfl ⟨rfl, rfl⟩ hy_X5_in rfl ⟨by decide, by decide⟩ [] rfl rfl rfl rfl (Nat.le_of_ble_eq_true rfl) ⟨by decide, by decide⟩ dX5_measuredBy_5 ?_
  refine xr_ifb_ne hM 14 dX5_measuredBy_8 (by decide) (fun c8 => ?_) (fun c8 => ?_)
  · refine xr_aload_n hM 0 dX5_measuredBy_14 rfl rfl ?_
    refine xr_get (C := RX5) (TT0 := TX5) (N := 12) hM 5 0 0 (fun _ h => List.mem_cons_of_mem _ (List.mem_append_right _ h)) rfl rfl (by decide) (List.mem_of_getElem? (i := 2) rfl) rfl rfl dX5_measuredBy_15 ?_
    refine xr_iconst hM dX5_measuredBy_18 ?_
    refine xr_iald hM 2 0 rfl rfl (by omega) dX5_measuredBy_19 ?_
    refine xr_topv (v' := gN (pX X)) (hr.1) ?_
    refine xr_if_ne hM 25 dX5_measuredBy_20 (by decide) (by omega) (fun c20 => ?_) (fun c20 => ?_)
    · refine xr_aload_n hM 0 dX5_measuredBy_25 rfl rfl ?_
      refine xr_get (C := RX5) (TT0 := TX5) (N := 12) hM 5 0 0 (fun _ h => List.mem_cons_of_mem _ (List.mem_append_right _ h)) rfl rfl (by decide) (List.mem_of_getElem? (i := 2) rfl) rfl rfl dX5_measuredBy_26 ?_
      refine xr_iconst hM dX5_measuredBy_29 ?_
      refine xr_aload_n hM 0 dX5_measuredBy_30 rfl rfl ?_
      refine xr_get (C := RX5) (TT0 := TX5) (N := 12) hM 5 0 2 (fun _ h => List.mem_cons_of_mem _ (List.mem_append_right _ h)) rfl rfl (by decide) (List.mem_of_getElem? (i := 3) rfl) rfl rfl dX5_measuredBy_31 ?_
      refine xr_iconst hM dX5_measuredBy_34 ?_
      refine xr_callS (ws' := [(r 0, ob 5 [.ref (r 1), .ref (r 2), .ref (r 3), .ref (r 4), iv sT, .ref (r 5), iv lE, .ref (r 6), iv aT, iv fR, iv wR, .ref (r 7)]), (r 6, ia T.2.1 3 gs), (r 1, ia T.2.1 305 w), (r 3, ia T.2.1 305 (va_cpy w tr 0 0 305))]) (rest := []) (As := [.ref (r 1), iv 0, .ref (r 3), iv 0]) (st' := []) hM (ct_X5_copies M.2.1 T (r 1) 305 w 0 (r 3) 305 tr 0 (by omega)) gX5_measuredBy_X5_copies rfl ⟨rfl, rfl⟩ hy_X5_copies rfl ⟨by decide, by decide⟩ [2, 3] rfl rfl rfl rfl rfl (Nat.le_of_ble_eq_true rfl) ⟨by decide, by decide⟩ rfl dX5_measuredBy_35 ?_
      refine xr_aload_n hM 0 dX5_measuredBy_38 rfl rfl ?_
      refine xr_aload_n hM 0 dX5_measuredBy_39 rfl rfl ?_
      refine xr_get (C := RX5) (TT0 := TX5) (N := 12) hM 5 0 2 (fun _ h => List.mem_cons_of_mem _ (List.mem_append_right _ h)) rfl rfl (by decide) (List.mem_of_getElem? (i := 3) rfl) rfl rfl dX5_measuredBy_40 ?_
      refine xr_iload_n hM 1 dX5_measuredBy_43 rfl rfl ?_
      have hr9 : Rep (va_cpy w tr 0 0 305) X := RG.cp hr (fun j hj => xi_cpy0 hj) hX.1.1.1.2
      generalize (va_cpy w tr 0 0 305) = w9 at hr9 ⊢
      refine xr_callV2 (ws' := fun w44 g44 => [(r 0, ob 5 [.ref (r 1), .ref (r 2), .ref (r 3), .ref (r 4), iv sT, .ref (r 5), iv lE, .ref (r 6), iv aT, iv fR, iv wR, .ref (r 7)]), (r 6, ia T.2.1 3 g44), (r 1, ia T.2.1 305 w), (r 3, ia T.2.1 305 w44)]) (rest := []) (As := [.ref (r 3), iv v]) (st' := []) hM (ct_X5_jumps M.2.1 T r sT lE aT fR wR gs (r 3) w9 X v hr9 hX.1.1 hX (by omega) (by omega)) gX5_measuredBy_X5_jumps rfl ⟨rfl, rfl⟩ hy_X5_jumps rfl ⟨by decide, by decide⟩ [0, 1, 3] rfl rfl (fun _ _ => rfl) 0 5 rfl rfl rfl rfl rfl (Nat.le_of_ble_eq_true rfl) ⟨by decide, by decide⟩ (fun _ _ => rfl) dX5_measuredBy_44 (fun w44 g44 hP44 => ?_)
      have hf44 := (WW_se (PW_ms hX (by omega) (by omega))).2
      have hw44 := (WW_se (PW_ms hX (by omega) (by omega))).1.1.1
      have hw44_1 := (WW_se (PW_ms hX (by omega) (by omega))).1
      refine xr_aload_n hM 0 dX5_measuredBy_47 rfl rfl ?_
      refine xr_aload_n hM 0 dX5_measuredBy_48 rfl rfl ?_
      refine xr_get (C := RX5) (TT0 := TX5) (N := 12) hM 5 0 2 (fun _ h => List.mem_cons_of_mem _ (List.mem_append_right _ h)) rfl rfl (by decide) (List.mem_of_getElem? (i := 3) rfl) rfl rfl dX5_measuredBy_49 ?_
      refine xr_callVr (rest := []) (As := [.ref (r 3)]) (st' := [iv (gC (pX (seF (msP X v))) 0 + gC (pX (seF (msP X v))) 1 + gC (pX (seF (msP X v))) 2)]) hM (ct_X5_measured M.2.1 T r sT lE aT fR wR g44 (r 3) w44 (seF (msP X v)) hP44 hw44) gX5_measuredBy_X5_measured rfl ⟨rfl, rfl⟩ hy_X5_measured rfl ⟨by decide, by decide⟩ [0, 3] rfl rfl 0 5 rfl rfl rfl rfl rfl (Nat.le_of_ble_eq_true rfl) ⟨by decide, by decide⟩ dX5_measuredBy_52 ?_
      refine xr_aload_n hM 0 dX5_measuredBy_55 rfl rfl ?_
      refine xr_aload_n hM 0 dX5_measuredBy_56 rfl rfl ?_
      refine xr_get (C := RX5) (TT0 := TX5) (N := 12) hM 5 0 0 (fun _ h => List.mem_cons_of_mem _ (List.mem_append_right _ h)) rfl rfl (by decide) (List.mem_of_getElem? (i := 2) rfl) rfl rfl dX5_measuredBy_57 ?_
      refine xr_callVr (rest := [iv (gC (pX (seF (msP X v))) 0 + gC (pX (seF (msP X v))) 1 + gC (pX (seF (msP X v))) 2)]) (As := [.ref (r 1)]) (st' := [iv (gC (pX X) 0 + gC (pX X) 1 + gC (pX X) 2), iv (gC (pX (seF (msP X v))) 0 + gC (pX (seF (msP X v))) 1 + gC (pX (seF (msP X v))) 2)]) hM (ct_X5_measured M.2.1 T r sT lE aT fR wR g44 (r 1) w X hr hX.1.1) gX5_measuredBy_X5_measured rfl ⟨rfl, rfl⟩ hy_X5_measured rfl ⟨by decide, by decide⟩ [0, 2] rfl rfl 0 5 rfl rfl rfl rfl rfl (Nat.le_of_ble_eq_true rfl) ⟨by decide, by decide⟩ dX5_measuredBy_60 ?_
      refine xr_isub hM dX5_measuredBy_63 ?_
      have em : (msR X v).2 = seF (msP X v) := by rw [msR, if_neg (by omega), if_neg (by omega)]
      exact xr_iret (hF w44 g44 trivial) dX5_measuredBy_64 (by rw [if_neg (by omega), em]) rfl
    · refine xr_iconst hM dX5_measuredBy_23 ?_
      have em : (msR X v).2 = X := by rw [msR, if_neg (by omega), if_pos (by omega)]
      exact xr_iret (hF tr gs trivial) dX5_measuredBy_24 (by rw [if_neg (by omega), em, Int.sub_self]) rfl
  · refine xr_ldc hM (-100001) (List.mem_of_getElem? (i := 1) rfl) (by decide) dX5_measuredBy_11 ?_
    exact xr_iret (hF tr gs trivial) dX5_measuredBy_13 (by rw [if_pos (by omega)]) rfl
