theorem lp_acted_23 {T : TT} {M : MB} (r : Nat → Nat) (sT lE aT fR wR : Int) (bf ps : AR) (v : Int) (hM : FM T M cX5_acted RX5 3 wsX5_acted rm_X5_acted) (hK : ∀ u : AR, (∀ j : Nat, u j = if j < 1220 then ps (j + 305) else ps j) → VV T M 3 [(0, .ref (r 0)), (1, iv v), (2, iv 1220)] [(r 0, ob 5 [.ref (r 1), .ref (r 2), .ref (r 3), .ref (r 4), iv sT, .ref (r 5), iv lE, .ref (r 6), iv aT, iv fR, iv wR, .ref (r 7)]), (r 2, ia T.2.1 305 bf), (r 4, ia T.2.1 1525 u)] 0 0 52 []) : ∀ (f k : Nat) (u : AR), k + f = 1220 → (∀ j : Nat, u j = if j < k then ps (j + 305) else ps j) → VV T M 3 [(0, .ref (r 0)), (1, iv v), (2, iv (k : Int))] [(r 0, ob 5 [.ref (r 1), .ref (r 2), .ref (r 3), .ref (r 4), iv sT, .ref (r 5), iv lE, .ref (r 6), iv aT, iv fR, iv wR, .ref (r 7)]), (r 2, ia T.2.1 305 bf), (r 4, ia T.2.1 1525 u)] 0 0 23 [] := by
  intro f
  induction f with
  | zero =>
    intro k u h1 hu
    refine xr_iload_n hM 2 dX5_acted_23 rfl rfl ?_
    refine xr_sipush hM dX5_acted_24 (by decide) ?_
    refine xr_icmp_ge hM 52 dX5_acted_27 (by decide) (by omega) (fun c27 => ?_) (fun c27 => by exfalso; omega)
    obtain rfl : k = 1220 := by omega
    exact hK u hu
  | succ f ih =>
    intro k u h1 hu
    refine xr_iload_n hM 2 dX5_acted_23 rfl rfl ?_
    refine xr_sipush hM dX5_acted_24 (by decide) ?_
    refine xr_icmp_ge hM 52 dX5_acted_27 (by decide) (by omega) (fun c27 => by exfalso; omega) (fun c27 => ?_)
    refine xr_aload_n hM 0 dX5_acted_30 rfl rfl ?_
    refine xr_get (C := RX5) (TT0 := TX5) (N := 12) hM 5 0 3 (fun _ h => List.mem_cons_of_mem _ (List.mem_append_right _ h)) rfl rfl (by decide) (List.mem_of_getElem? (i := 4) rfl) rfl rfl dX5_acted_31 ?_
    refine xr_iload_n hM 2 dX5_acted_34 rfl rfl ?_
    refine xr_aload_n hM 0 dX5_acted_35 rfl rfl ?_
    refine xr_get (C := RX5) (TT0 := TX5) (N := 12) hM 5 0 3 (fun _ h => List.mem_cons_of_mem _ (List.mem_append_right _ h)) rfl rfl (by decide) (List.mem_of_getElem? (i := 4) rfl) rfl rfl dX5_acted_36 ?_
    refine xr_iload_n hM 2 dX5_acted_39 rfl rfl ?_
    refine xr_sipush hM dX5_acted_40 (by decide) ?_
    refine xr_iadd hM dX5_acted_43 ?_
    refine xr_iald hM 2 (((k : Int) + 305).toNat) rfl rfl (by omega) dX5_acted_44 ?_
    refine xr_iast (ws' := [(r 0, ob 5 [.ref (r 1), .ref (r 2), .ref (r 3), .ref (r 4), iv sT, .ref (r 5), iv lE, .ref (r 6), iv aT, iv fR, iv wR, .ref (r 7)]), (r 2, ia T.2.1 305 bf), (r 4, ia T.2.1 1525 (va_up u ((k : Int).toNat) (u (((k : Int) + 305).toNat))))]) hM 2 ((k : Int).toNat) rfl rfl (by omega) dX5_acted_45 rfl ?_
    refine xr_iinc (lv' := [(0, .ref (r 0)), (1, iv v), (2, iv ((k : Int) + 1))]) hM 2 dX5_acted_46 rfl (by decide) rfl rfl ?_
    refine xr_goto hM 23 dX5_acted_49 (by decide) ?_
    refine ih (k + 1) _ (by omega) ?_
    intro j
    show (if j = k then u (k + 305) else u j) = _
    by_cases e1 : j = k
    · subst e1
      rw [if_pos rfl, if_pos (by omega), hu, if_neg (by omega)]
    · rw [if_neg e1, hu]
      by_cases e2 : j < k
      · rw [if_pos e2, if_pos (by omega)]
      · rw [if_neg e2, if_neg (by omega)]

theorem ct_X5_acted (l : Launch) (T : TT) (r : Nat → Nat) (sT lE aT fR wR : Int) (bf ps : AR) (H : Nat → WnS) (nx : Int) (X : WnS) (v : Int) (hr : Rep bf X) (hp : RHc ps H sT nx) (hn : gN (pX X) ≤ 100) (hH : ∀ k, gN (pX (H k)) ≤ 100) (hsz : 0 ≤ sT ∧ sT ≤ 5) (hnx : 0 ≤ nx ∧ nx < 5) (hv : (-100003 ≤ v ∧ v ≤ -100001) ∨ (0 ≤ v ∧ v < 1000000)) : CT2 l yX5_acted wsX5_acted rm_X5_acted T [.ref (r 0), iv v] ([(r 0, ob 5 [.ref (r 1), .ref (r 2), .ref (r 3), .ref (r 4), iv sT, .ref (r 5), iv lE, .ref (r 6), iv aT, iv fR, iv wR, .ref (r 7)]), (r 2, ia T.2.1 305 bf), (r 4, ia T.2.1 1525 ps)]) (some (iv v)) (fun w_ g_ => RHc g_ (kpH v H nx X) (kpZ v sT) (kpN v nx)) (fun w_ g_ => [(r 0, ob 5 [.ref (r 1), .ref (r 2), .ref (r 3), .ref (r 4), iv (kpZ v sT), .ref (r 5), iv lE, .ref (r 6), iv aT, iv fR, iv wR, .ref (r 7)]), (r 2, ia T.2.1 305 bf), (r 4, ia T.2.1 1525 g_)]) := by
  refine CT2.Z (maxL := 3) (lv0 := [(0, .ref (r 0)), (1, iv v)]) hp_X5_acted rfl (Nat.le_of_ble_eq_true rfl) rfl rfl (fun M hM hF => ?_)
  refine xr_iload_n hM 1 dX5_acted_0 rfl rfl ?_
  refine xr_ldc hM (-100003) (List.mem_of_getElem? (i := 1) rfl) (by decide) dX5_acted_1 ?_
  refine xr_ldc hM (-100001) (List.mem_of_getElem? (i := 2) rfl) (by decide) dX5_acted_3 ?_
  refine xr_callSr (rest := []) (As := [iv v, iv (-100003), iv (-100001)]) (st' := [iv (bi ((-100003) ≤ v ∧ v ≤ (-100001)))]) hM (ct_X5_in M.2.1 T v (-100003) (-100001) (by omega)) gX5_acted_X5_in rfl ⟨rfl, rfl⟩ hy_X5_in rfl ⟨by decide, by decide⟩ [] rfl rfl rfl rfl (Nat.le_of_ble_eq_true rfl) ⟨by decide, by decide⟩ dX5_acted_5 ?_
  refine xr_ifb_eq hM 13 dX5_acted_8 (by decide) (fun c8 => ?_) (fun c8 => ?_)
  · refine xr_aload_n hM 0 dX5_acted_13 rfl rfl ?_
    refine xr_get (C := RX5) (TT0 := TX5) (N := 12) hM 5 0 4 (fun _ h => List.mem_cons_of_mem _ (List.mem_append_right _ h)) rfl rfl (by decide) (List.mem_of_getElem? (i := 3) rfl) rfl rfl dX5_acted_14 ?_
    refine xr_iconst hM dX5_acted_17 ?_
    refine xr_icmp_ne hM 62 dX5_acted_18 (by decide) (by omega) (fun c18 => ?_) (fun c18 => ?_)
    · refine xr_aload_n hM 0 dX5_acted_62 rfl rfl ?_
      refine xr_get (C := RX5) (TT0 := TX5) (N := 12) hM 5 0 1 (fun _ h => List.mem_cons_of_mem _ (List.mem_append_right _ h)) rfl rfl (by decide) (List.mem_of_getElem? (i := 5) rfl) rfl rfl dX5_acted_63 ?_
      refine xr_iconst hM dX5_acted_66 ?_
      refine xr_aload_n hM 0 dX5_acted_67 rfl rfl ?_
      refine xr_get (C := RX5) (TT0 := TX5) (N := 12) hM 5 0 3 (fun _ h => List.mem_cons_of_mem _ (List.mem_append_right _ h)) rfl rfl (by decide) (List.mem_of_getElem? (i := 4) rfl) rfl rfl dX5_acted_68 ?_
      refine xr_sipush hM dX5_acted_71 (by decide) ?_
      refine xr_aload_n hM 0 dX5_acted_74 rfl rfl ?_
      refine xr_get (C := RX5) (TT0 := TX5) (N := 12) hM 5 0 4 (fun _ h => List.mem_cons_of_mem _ (List.mem_append_right _ h)) rfl rfl (by decide) (List.mem_of_getElem? (i := 3) rfl) rfl rfl dX5_acted_75 ?_
      refine xr_imul hM dX5_acted_78 ?_
      refine xr_callS (ws' := [(r 0, ob 5 [.ref (r 1), .ref (r 2), .ref (r 3), .ref (r 4), iv sT, .ref (r 5), iv lE, .ref (r 6), iv aT, iv fR, iv wR, .ref (r 7)]), (r 2, ia T.2.1 305 bf), (r 4, ia T.2.1 1525 (va_cpy bf ps 0 (305 * sT).toNat 305))]) (rest := []) (As := [.ref (r 2), iv 0, .ref (r 4), iv (305 * sT)]) (st' := []) hM (ct_X5_copies M.2.1 T (r 2) 305 bf 0 (r 4) 1525 ps (305 * sT) (by omega)) gX5_acted_X5_copies rfl ⟨rfl, rfl⟩ hy_X5_copies rfl ⟨by decide, by decide⟩ [1, 2] rfl rfl rfl rfl rfl (Nat.le_of_ble_eq_true rfl) ⟨by decide, by decide⟩ rfl dX5_acted_79 ?_
      refine xr_aload_n hM 0 dX5_acted_82 rfl rfl ?_
      refine xr_dup hM dX5_acted_83 rfl ?_
      refine xr_get (C := RX5) (TT0 := TX5) (N := 12) hM 5 0 4 (fun _ h => List.mem_cons_of_mem _ (List.mem_append_right _ h)) rfl rfl (by decide) (List.mem_of_getElem? (i := 3) rfl) rfl rfl dX5_acted_84 ?_
      refine xr_iconst hM dX5_acted_87 ?_
      refine xr_iadd hM dX5_acted_88 ?_
      refine xr_put (ws' := [(r 0, ob 5 [.ref (r 1), .ref (r 2), .ref (r 3), .ref (r 4), iv (sT + 1), .ref (r 5), iv lE, .ref (r 6), iv aT, iv fR, iv wR, .ref (r 7)]), (r 2, ia T.2.1 305 bf), (r 4, ia T.2.1 1525 (va_cpy bf ps 0 (305 * sT).toNat 305))]) (C := RX5) (TT0 := TX5) (N := 12) hM 5 0 4 (fun _ h => List.mem_cons_of_mem _ (List.mem_append_right _ h)) tyX5 tyX5_ok nmX5 rfl rfl (by decide) (List.mem_of_getElem? (i := 3) rfl) rfl rfl rfl (Nat.le_of_ble_eq_true rfl) rfl dX5_acted_89 ?_
      refine xr_iload_n hM 1 dX5_acted_92 rfl rfl ?_
      have hv0 : 0 ≤ v := by omega
      have hq := RHc_push hp hr hn hH (by omega) hnx
      exact xr_iret (hF bf (va_cpy bf ps 0 (305 * sT).toNat 305) (by rw [kpH, kpZ, kpN, if_pos hv0, if_pos hv0, if_pos hv0, show min (sT + 1) 5 = sT + 1 by omega]; exact hq)) dX5_acted_93 rfl (by rw [kpZ, if_pos hv0, show min (sT + 1) 5 = sT + 1 by omega])
    · refine xr_iconst hM dX5_acted_21 ?_
      refine xr_istore_n (lv' := [(0, .ref (r 0)), (1, iv v), (2, iv 0)]) hM dX5_acted_22 rfl (by decide) rfl rfl ?_
      refine lp_acted_23 r sT lE aT fR wR bf ps v hM (fun u hu => ?_) 1220 0 ps rfl (fun j => by rw [if_neg (by omega)])
      refine xr_aload_n hM 0 dX5_acted_52 rfl rfl ?_
      refine xr_dup hM dX5_acted_53 rfl ?_
      refine xr_get (C := RX5) (TT0 := TX5) (N := 12) hM 5 0 4 (fun _ h => List.mem_cons_of_mem _ (List.mem_append_right _ h)) rfl rfl (by decide) (List.mem_of_getElem? (i := 3) rfl) rfl rfl dX5_acted_54 ?_
      refine xr_iconst hM dX5_acted_57 ?_
      refine xr_isub hM dX5_acted_58 ?_
      refine xr_put (ws' := [(r 0, ob 5 [.ref (r 1), .ref (r 2), .ref (r 3), .ref (r 4), iv (sT - 1), .ref (r 5), iv lE, .ref (r 6), iv aT, iv fR, iv wR, .ref (r 7)]), (r 2, ia T.2.1 305 bf), (r 4, ia T.2.1 1525 u)]) (C := RX5) (TT0 := TX5) (N := 12) hM 5 0 4 (fun _ h => List.mem_cons_of_mem _ (List.mem_append_right _ h)) tyX5 tyX5_ok nmX5 rfl rfl (by decide) (List.mem_of_getElem? (i := 3) rfl) rfl rfl rfl (Nat.le_of_ble_eq_true rfl) rfl dX5_acted_59 ?_
      refine xr_aload_n hM 0 dX5_acted_62 rfl rfl ?_
      refine xr_get (C := RX5) (TT0 := TX5) (N := 12) hM 5 0 1 (fun _ h => List.mem_cons_of_mem _ (List.mem_append_right _ h)) rfl rfl (by decide) (List.mem_of_getElem? (i := 5) rfl) rfl rfl dX5_acted_63 ?_
      refine xr_iconst hM dX5_acted_66 ?_
      refine xr_aload_n hM 0 dX5_acted_67 rfl rfl ?_
      refine xr_get (C := RX5) (TT0 := TX5) (N := 12) hM 5 0 3 (fun _ h => List.mem_cons_of_mem _ (List.mem_append_right _ h)) rfl rfl (by decide) (List.mem_of_getElem? (i := 4) rfl) rfl rfl dX5_acted_68 ?_
      refine xr_sipush hM dX5_acted_71 (by decide) ?_
      refine xr_aload_n hM 0 dX5_acted_74 rfl rfl ?_
      refine xr_get (C := RX5) (TT0 := TX5) (N := 12) hM 5 0 4 (fun _ h => List.mem_cons_of_mem _ (List.mem_append_right _ h)) rfl rfl (by decide) (List.mem_of_getElem? (i := 3) rfl) rfl rfl dX5_acted_75 ?_
      refine xr_imul hM dX5_acted_78 ?_
      refine xr_callS (ws' := [(r 0, ob 5 [.ref (r 1), .ref (r 2), .ref (r 3), .ref (r 4), iv (sT - 1), .ref (r 5), iv lE, .ref (r 6), iv aT, iv fR, iv wR, .ref (r 7)]), (r 2, ia T.2.1 305 bf), (r 4, ia T.2.1 1525 (va_cpy bf u 0 (305 * (sT - 1)).toNat 305))]) (rest := []) (As := [.ref (r 2), iv 0, .ref (r 4), iv (305 * (sT - 1))]) (st' := []) hM (ct_X5_copies M.2.1 T (r 2) 305 bf 0 (r 4) 1525 u (305 * (sT - 1)) (by omega)) gX5_acted_X5_copies rfl ⟨rfl, rfl⟩ hy_X5_copies rfl ⟨by decide, by decide⟩ [1, 2] rfl rfl rfl rfl rfl (Nat.le_of_ble_eq_true rfl) ⟨by decide, by decide⟩ rfl dX5_acted_79 ?_
      refine xr_aload_n hM 0 dX5_acted_82 rfl rfl ?_
      refine xr_dup hM dX5_acted_83 rfl ?_
      refine xr_get (C := RX5) (TT0 := TX5) (N := 12) hM 5 0 4 (fun _ h => List.mem_cons_of_mem _ (List.mem_append_right _ h)) rfl rfl (by decide) (List.mem_of_getElem? (i := 3) rfl) rfl rfl dX5_acted_84 ?_
      refine xr_iconst hM dX5_acted_87 ?_
      refine xr_iadd hM dX5_acted_88 ?_
      refine xr_put (ws' := [(r 0, ob 5 [.ref (r 1), .ref (r 2), .ref (r 3), .ref (r 4), iv ((sT - 1) + 1), .ref (r 5), iv lE, .ref (r 6), iv aT, iv fR, iv wR, .ref (r 7)]), (r 2, ia T.2.1 305 bf), (r 4, ia T.2.1 1525 (va_cpy bf u 0 (305 * (sT - 1)).toNat 305))]) (C := RX5) (TT0 := TX5) (N := 12) hM 5 0 4 (fun _ h => List.mem_cons_of_mem _ (List.mem_append_right _ h)) tyX5 tyX5_ok nmX5 rfl rfl (by decide) (List.mem_of_getElem? (i := 3) rfl) rfl rfl rfl (Nat.le_of_ble_eq_true rfl) rfl dX5_acted_89 ?_
      refine xr_iload_n hM 1 dX5_acted_92 rfl rfl ?_
      obtain rfl : sT = 5 := c18
      have hv0 : 0 ≤ v := by omega
      have hq := RHc_push (RHc_shift hp hH hnx hu) hr hn hH (by decide) hnx
      exact xr_iret (hF bf (va_cpy bf u 0 (305 * ((5 : Int) - 1)).toNat 305) (by rw [kpH, kpZ, kpN, if_pos hv0, if_pos hv0, if_pos hv0]; exact hq)) dX5_acted_93 rfl (by rw [kpZ, if_pos hv0]; rfl)
  · refine xr_iload_n hM 1 dX5_acted_11 rfl rfl ?_
    exact xr_iret (hF bf _ (RHc_err hp (by omega))) dX5_acted_12 rfl (by rw [kpZ, if_neg (by omega)])

theorem ct_X5_put (l : Launch) (T : TT) (r : Nat → Nat) (sT lE aT fR wR : Int) (w bf tr ps te gs nb : AR) (H : Nat → WnS) (nx : Int) (X : WnS) (i kd ln : Int) (hr : Rep w X) (hX : WW X) (hp : RHc ps H sT nx) (hHW : ∀ k, WW (H k)) (hsz : 0 ≤ sT ∧ sT ≤ 5) (hnx : 0 ≤ nx ∧ nx < 5) (hi : -2147483648 ≤ i ∧ i < 2147483648) (hkd : -2147483648 ≤ kd ∧ kd < 2147483648) (hln : -2147483648 ≤ ln ∧ ln < 2147483648) : CT3 l yX5_put wsX5_put rm_X5_put T [.ref (r 0), iv i, iv kd, iv ln] ([(r 0, ob 5 [.ref (r 1), .ref (r 2), .ref (r 3), .ref (r 4), iv sT, .ref (r 5), iv lE, .ref (r 6), iv aT, iv fR, iv wR, .ref (r 7)]), (r 1, ia T.2.1 305 w), (r 2, ia T.2.1 305 bf), (r 3, ia T.2.1 305 tr), (r 4, ia T.2.1 1525 ps), (r 5, ia T.2.1 100 te), (r 6, ia T.2.1 3 gs), (r 7, ia T.2.1 3 nb)]) (some (iv ((puR X i kd ln).1))) (fun v_ => Rep (v_ 1) (puR X i kd ln).2 ∧ RHc (v_ 4) (kpH (puR X i kd ln).1 H nx X) (kpZ (puR X i kd ln).1 sT) (kpN (puR X i kd ln).1 nx)) (fun v_ => [(r 0, ob 5 [.ref (r 1), .ref (r 2), .ref (r 3), .ref (r 4), iv (kpZ (puR X i kd ln).1 sT), .ref (r 5), iv lE, .ref (r 6), iv aT, iv fR, iv wR, .ref (r 7)]), (r 1, ia T.2.1 305 (v_ 1)), (r 2, ia T.2.1 305 (v_ 2)), (r 3, ia T.2.1 305 (v_ 3)), (r 4, ia T.2.1 1525 (v_ 4)), (r 5, ia T.2.1 100 te), (r 6, ia T.2.1 3 (v_ 6)), (r 7, ia T.2.1 3 nb)]) := by
  refine CT3.Z (maxL := 4) (lv0 := [(0, .ref (r 0)), (1, iv i), (2, iv kd), (3, iv ln)]) hp_X5_put rfl (Nat.le_of_ble_eq_true rfl) rfl rfl (fun M hM hF => ?_)
  have hn := hX.1.1.1
  have hwd := hX.1.1.2.1
  have hHH := hX.1.2.1
  have hSb := hX.1.2.2.2.2
  have hSs := hX.2
  have hAn := hX.an
  have hA0 := hX.1.2.2.1
  have hH : ∀ k, gN (pX (H k)) ≤ 100 := fun k => (hHW k).1.1.1.2
  refine xr_aload_n hM 0 dX5_put_0 rfl rfl ?_
  refine xr_callV2 (ws' := fun w1 g1 => [(r 0, ob 5 [.ref (r 1), .ref (r 2), .ref (r 3), .ref (r 4), iv sT, .ref (r 5), iv lE, .ref (r 6), iv aT, iv fR, iv wR, .ref (r 7)]), (r 1, ia T.2.1 305 w), (r 2, ia T.2.1 305 g1), (r 3, ia T.2.1 305 tr), (r 4, ia T.2.1 1525 ps), (r 5, ia T.2.1 100 te), (r 6, ia T.2.1 3 gs), (r 7, ia T.2.1 3 nb)]) (rest := []) (As := []) (st' := []) hM (ct_X5_keeps M.2.1 T r sT lE aT fR wR w bf X hr hX.1.1) gX5_put_X5_keeps rfl ⟨rfl, rfl⟩ hy_X5_keeps rfl ⟨by decide, by decide⟩ [0, 1, 2] rfl rfl (fun _ _ => rfl) 0 5 rfl rfl rfl rfl rfl (Nat.le_of_ble_eq_true rfl) ⟨by decide, by decide⟩ (fun _ _ => rfl) dX5_put_1 (fun w1 g1 hP1 => ?_)
  refine xr_aload_n hM 0 dX5_put_4 rfl rfl ?_
  refine xr_aload_n hM 0 dX5_put_5 rfl rfl ?_
  refine xr_iload_n hM 1 dX5_put_6 rfl rfl ?_
  refine xr_iload_n hM 2 dX5_put_7 rfl rfl ?_
  refine xr_iload_n hM 3 dX5_put_8 rfl rfl ?_
  refine xr_callV2 (ws' := fun w9 g9 => [(r 0, ob 5 [.ref (r 1), .ref (r 2), .ref (r 3), .ref (r 4), iv sT, .ref (r 5), iv lE, .ref (r 6), iv aT, iv fR, iv wR, .ref (r 7)]), (r 1, ia T.2.1 305 w9), (r 2, ia T.2.1 305 g1), (r 3, ia T.2.1 305 tr), (r 4, ia T.2.1 1525 ps), (r 5, ia T.2.1 100 te), (r 6, ia T.2.1 3 g9), (r 7, ia T.2.1 3 nb)]) (rest := [.ref (r 0)]) (As := [iv i, iv kd, iv ln]) (st' := [iv ((puR X i kd ln).1), .ref (r 0)]) hM (ct_X5_puts M.2.1 T r sT lE aT fR wR gs w X i kd ln hr hX (by omega) (by omega) (by omega)) gX5_put_X5_puts rfl ⟨rfl, rfl⟩ hy_X5_puts rfl ⟨by decide, by decide⟩ [0, 6, 1] rfl rfl (fun _ _ => rfl) 0 5 rfl rfl rfl rfl rfl (Nat.le_of_ble_eq_true rfl) ⟨by decide, by decide⟩ (fun _ _ => rfl) dX5_put_9 (fun w9 g9 hP9 => ?_)
  have hf9 := puR_v hX i kd ln
  have hw9 := WW_pu hX i kd ln
  have hvv : (-100003 ≤ (puR X i kd ln).1 ∧ (puR X i kd ln).1 ≤ -100001) ∨ (0 ≤ (puR X i kd ln).1 ∧ (puR X i kd ln).1 < 1000000) := puR_w hX i kd ln
  refine xr_callV2 (ws' := fun w12 g12 => [(r 0, ob 5 [.ref (r 1), .ref (r 2), .ref (r 3), .ref (r 4), iv (kpZ ((puR X i kd ln).1) sT), .ref (r 5), iv lE, .ref (r 6), iv aT, iv fR, iv wR, .ref (r 7)]), (r 1, ia T.2.1 305 w9), (r 2, ia T.2.1 305 g1), (r 3, ia T.2.1 305 tr), (r 4, ia T.2.1 1525 g12), (r 5, ia T.2.1 100 te), (r 6, ia T.2.1 3 g9), (r 7, ia T.2.1 3 nb)]) (rest := []) (As := [iv ((puR X i kd ln).1)]) (st' := [iv ((puR X i kd ln).1)]) hM (ct_X5_acted M.2.1 T r sT lE aT fR wR g1 ps H nx X ((puR X i kd ln).1) hP1 (hp) (hX.1.1.1.2) (hH) (by omega) (hnx) (by omega)) gX5_put_X5_acted rfl ⟨rfl, rfl⟩ hy_X5_acted rfl ⟨by decide, by decide⟩ [0, 2, 4] rfl rfl (fun _ _ => rfl) 0 5 rfl rfl rfl rfl rfl (Nat.le_of_ble_eq_true rfl) ⟨by decide, by decide⟩ (fun _ _ => rfl) dX5_put_12 (fun w12 g12 hP12 => ?_)
  exact xr_iret (hF (fun k9 => match k9 with | 1 => w9 | 2 => g1 | 3 => tr | 4 => g12 | 6 => g9 | _ => nb) ⟨hP9, hP12⟩) dX5_put_15 rfl rfl

theorem ct_X5_cut (l : Launch) (T : TT) (r : Nat → Nat) (sT lE aT fR wR : Int) (w bf tr ps te gs nb : AR) (H : Nat → WnS) (nx : Int) (X : WnS) (i : Int) (hr : Rep w X) (hX : WW X) (hp : RHc ps H sT nx) (hHW : ∀ k, WW (H k)) (hsz : 0 ≤ sT ∧ sT ≤ 5) (hnx : 0 ≤ nx ∧ nx < 5) (hi : -2147483648 ≤ i ∧ i < 2147483648) : CT3 l yX5_cut wsX5_cut rm_X5_cut T [.ref (r 0), iv i] ([(r 0, ob 5 [.ref (r 1), .ref (r 2), .ref (r 3), .ref (r 4), iv sT, .ref (r 5), iv lE, .ref (r 6), iv aT, iv fR, iv wR, .ref (r 7)]), (r 1, ia T.2.1 305 w), (r 2, ia T.2.1 305 bf), (r 3, ia T.2.1 305 tr), (r 4, ia T.2.1 1525 ps), (r 5, ia T.2.1 100 te), (r 6, ia T.2.1 3 gs), (r 7, ia T.2.1 3 nb)]) (some (iv ((cuR X i).1))) (fun v_ => Rep (v_ 1) (cuR X i).2 ∧ RHc (v_ 4) (kpH (cuR X i).1 H nx X) (kpZ (cuR X i).1 sT) (kpN (cuR X i).1 nx)) (fun v_ => [(r 0, ob 5 [.ref (r 1), .ref (r 2), .ref (r 3), .ref (r 4), iv (kpZ (cuR X i).1 sT), .ref (r 5), iv lE, .ref (r 6), iv aT, iv fR, iv wR, .ref (r 7)]), (r 1, ia T.2.1 305 (v_ 1)), (r 2, ia T.2.1 305 (v_ 2)), (r 3, ia T.2.1 305 (v_ 3)), (r 4, ia T.2.1 1525 (v_ 4)), (r 5, ia T.2.1 100 te), (r 6, ia T.2.1 3 (v_ 6)), (r 7, ia T.2.1 3 nb)]) := by
  refine CT3.Z (maxL := 2) (lv0 := [(0, .ref (r 0)), (1, iv i)]) hp_X5_cut rfl (Nat.le_of_ble_eq_true rfl) rfl rfl (fun M hM hF => ?_)
  have hn := hX.1.1.1
  have hwd := hX.1.1.2.1
  have hHH := hX.1.2.1
  have hSb := hX.1.2.2.2.2
  have hSs := hX.2
  have hAn := hX.an
  have hA0 := hX.1.2.2.1
  have hH : ∀ k, gN (pX (H k)) ≤ 100 := fun k => (hHW k).1.1.1.2
  refine xr_aload_n hM 0 dX5_cut_0 rfl rfl ?_
  refine xr_callV2 (ws' := fun w1 g1 => [(r 0, ob 5 [.ref (r 1), .ref (r 2), .ref (r 3), .ref (r 4), iv sT, .ref (r 5), iv lE, .ref (r 6), iv aT, iv fR, iv wR, .ref (r 7)]), (r 1, ia T.2.1 305 w), (r 2, ia T.2.1 305 g1), (r 3, ia T.2.1 305 tr), (r 4, ia T.2.1 1525 ps), (r 5, ia T.2.1 100 te), (r 6, ia T.2.1 3 gs), (r 7, ia T.2.1 3 nb)]) (rest := []) (As := []) (st' := []) hM (ct_X5_keeps M.2.1 T r sT lE aT fR wR w bf X hr hX.1.1) gX5_cut_X5_keeps rfl ⟨rfl, rfl⟩ hy_X5_keeps rfl ⟨by decide, by decide⟩ [0, 1, 2] rfl rfl (fun _ _ => rfl) 0 5 rfl rfl rfl rfl rfl (Nat.le_of_ble_eq_true rfl) ⟨by decide, by decide⟩ (fun _ _ => rfl) dX5_cut_1 (fun w1 g1 hP1 => ?_)
  refine xr_aload_n hM 0 dX5_cut_4 rfl rfl ?_
  refine xr_aload_n hM 0 dX5_cut_5 rfl rfl ?_
  refine xr_iload_n hM 1 dX5_cut_6 rfl rfl ?_
  refine xr_callV2 (ws' := fun w7 g7 => [(r 0, ob 5 [.ref (r 1), .ref (r 2), .ref (r 3), .ref (r 4), iv sT, .ref (r 5), iv lE, .ref (r 6), iv aT, iv fR, iv wR, .ref (r 7)]), (r 1, ia T.2.1 305 w7), (r 2, ia T.2.1 305 g1), (r 3, ia T.2.1 305 tr), (r 4, ia T.2.1 1525 ps), (r 5, ia T.2.1 100 te), (r 6, ia T.2.1 3 g7), (r 7, ia T.2.1 3 nb)]) (rest := [.ref (r 0)]) (As := [iv i]) (st' := [iv ((cuR X i).1), .ref (r 0)]) hM (ct_X5_cuts M.2.1 T r sT lE aT fR wR gs w X i hr hX (by omega)) gX5_cut_X5_cuts rfl ⟨rfl, rfl⟩ hy_X5_cuts rfl ⟨by decide, by decide⟩ [0, 6, 1] rfl rfl (fun _ _ => rfl) 0 5 rfl rfl rfl rfl rfl (Nat.le_of_ble_eq_true rfl) ⟨by decide, by decide⟩ (fun _ _ => rfl) dX5_cut_7 (fun w7 g7 hP7 => ?_)
  have hf7 := cuR_v hX i
  have hw7 := WW_cu hX i
  have hvv : (-100003 ≤ (cuR X i).1 ∧ (cuR X i).1 ≤ -100001) ∨ (0 ≤ (cuR X i).1 ∧ (cuR X i).1 < 1000000) := cuR_w hX i
  refine xr_callV2 (ws' := fun w10 g10 => [(r 0, ob 5 [.ref (r 1), .ref (r 2), .ref (r 3), .ref (r 4), iv (kpZ ((cuR X i).1) sT), .ref (r 5), iv lE, .ref (r 6), iv aT, iv fR, iv wR, .ref (r 7)]), (r 1, ia T.2.1 305 w7), (r 2, ia T.2.1 305 g1), (r 3, ia T.2.1 305 tr), (r 4, ia T.2.1 1525 g10), (r 5, ia T.2.1 100 te), (r 6, ia T.2.1 3 g7), (r 7, ia T.2.1 3 nb)]) (rest := []) (As := [iv ((cuR X i).1)]) (st' := [iv ((cuR X i).1)]) hM (ct_X5_acted M.2.1 T r sT lE aT fR wR g1 ps H nx X ((cuR X i).1) hP1 (hp) (hX.1.1.1.2) (hH) (by omega) (hnx) (by omega)) gX5_cut_X5_acted rfl ⟨rfl, rfl⟩ hy_X5_acted rfl ⟨by decide, by decide⟩ [0, 2, 4] rfl rfl (fun _ _ => rfl) 0 5 rfl rfl rfl rfl rfl (Nat.le_of_ble_eq_true rfl) ⟨by decide, by decide⟩ (fun _ _ => rfl) dX5_cut_10 (fun w10 g10 hP10 => ?_)
  exact xr_iret (hF (fun k9 => match k9 with | 1 => w7 | 2 => g1 | 3 => tr | 4 => g10 | 6 => g7 | _ => nb) ⟨hP7, hP10⟩) dX5_cut_13 rfl rfl

theorem ct_X5_scroll (l : Launch) (T : TT) (r : Nat → Nat) (sT lE aT fR wR : Int) (w bf tr ps te gs nb : AR) (H : Nat → WnS) (nx : Int) (X : WnS) (d : Int) (hr : Rep w X) (hX : WW X) (hp : RHc ps H sT nx) (hHW : ∀ k, WW (H k)) (hsz : 0 ≤ sT ∧ sT ≤ 5) (hnx : 0 ≤ nx ∧ nx < 5) (hd : -2147483648 ≤ d ∧ d < 2147483648) : CT3 l yX5_scroll wsX5_scroll rm_X5_scroll T [.ref (r 0), iv d] ([(r 0, ob 5 [.ref (r 1), .ref (r 2), .ref (r 3), .ref (r 4), iv sT, .ref (r 5), iv lE, .ref (r 6), iv aT, iv fR, iv wR, .ref (r 7)]), (r 1, ia T.2.1 305 w), (r 2, ia T.2.1 305 bf), (r 3, ia T.2.1 305 tr), (r 4, ia T.2.1 1525 ps), (r 5, ia T.2.1 100 te), (r 6, ia T.2.1 3 gs), (r 7, ia T.2.1 3 nb)]) (some (iv ((mbR X d).1))) (fun v_ => Rep (v_ 1) (mbR X d).2 ∧ RHc (v_ 4) (kpH (mbR X d).1 H nx X) (kpZ (mbR X d).1 sT) (kpN (mbR X d).1 nx)) (fun v_ => [(r 0, ob 5 [.ref (r 1), .ref (r 2), .ref (r 3), .ref (r 4), iv (kpZ (mbR X d).1 sT), .ref (r 5), iv lE, .ref (r 6), iv aT, iv fR, iv wR, .ref (r 7)]), (r 1, ia T.2.1 305 (v_ 1)), (r 2, ia T.2.1 305 (v_ 2)), (r 3, ia T.2.1 305 (v_ 3)), (r 4, ia T.2.1 1525 (v_ 4)), (r 5, ia T.2.1 100 te), (r 6, ia T.2.1 3 (v_ 6)), (r 7, ia T.2.1 3 nb)]) := by
  refine CT3.Z (maxL := 2) (lv0 := [(0, .ref (r 0)), (1, iv d)]) hp_X5_scroll rfl (Nat.le_of_ble_eq_true rfl) rfl rfl (fun M hM hF => ?_)
  have hn := hX.1.1.1
  have hwd := hX.1.1.2.1
  have hHH := hX.1.2.1
  have hSb := hX.1.2.2.2.2
  have hSs := hX.2
  have hAn := hX.an
  have hA0 := hX.1.2.2.1
  have hH : ∀ k, gN (pX (H k)) ≤ 100 := fun k => (hHW k).1.1.1.2
  refine xr_aload_n hM 0 dX5_scroll_0 rfl rfl ?_
  refine xr_callV2 (ws' := fun w1 g1 => [(r 0, ob 5 [.ref (r 1), .ref (r 2), .ref (r 3), .ref (r 4), iv sT, .ref (r 5), iv lE, .ref (r 6), iv aT, iv fR, iv wR, .ref (r 7)]), (r 1, ia T.2.1 305 w), (r 2, ia T.2.1 305 g1), (r 3, ia T.2.1 305 tr), (r 4, ia T.2.1 1525 ps), (r 5, ia T.2.1 100 te), (r 6, ia T.2.1 3 gs), (r 7, ia T.2.1 3 nb)]) (rest := []) (As := []) (st' := []) hM (ct_X5_keeps M.2.1 T r sT lE aT fR wR w bf X hr hX.1.1) gX5_scroll_X5_keeps rfl ⟨rfl, rfl⟩ hy_X5_keeps rfl ⟨by decide, by decide⟩ [0, 1, 2] rfl rfl (fun _ _ => rfl) 0 5 rfl rfl rfl rfl rfl (Nat.le_of_ble_eq_true rfl) ⟨by decide, by decide⟩ (fun _ _ => rfl) dX5_scroll_1 (fun w1 g1 hP1 => ?_)
  refine xr_aload_n hM 0 dX5_scroll_4 rfl rfl ?_
  refine xr_aload_n hM 0 dX5_scroll_5 rfl rfl ?_
  refine xr_iload_n hM 1 dX5_scroll_6 rfl rfl ?_
  refine xr_callV2 (ws' := fun w7 g7 => [(r 0, ob 5 [.ref (r 1), .ref (r 2), .ref (r 3), .ref (r 4), iv sT, .ref (r 5), iv lE, .ref (r 6), iv aT, iv fR, iv wR, .ref (r 7)]), (r 1, ia T.2.1 305 w7), (r 2, ia T.2.1 305 g1), (r 3, ia T.2.1 305 tr), (r 4, ia T.2.1 1525 ps), (r 5, ia T.2.1 100 te), (r 6, ia T.2.1 3 g7), (r 7, ia T.2.1 3 nb)]) (rest := [.ref (r 0)]) (As := [iv d]) (st' := [iv ((mbR X d).1), .ref (r 0)]) hM (ct_X5_scrolled M.2.1 T r sT lE aT fR wR gs w X d hr hX (by omega)) gX5_scroll_X5_scrolled rfl ⟨rfl, rfl⟩ hy_X5_scrolled rfl ⟨by decide, by decide⟩ [0, 6, 1] rfl rfl (fun _ _ => rfl) 0 5 rfl rfl rfl rfl rfl (Nat.le_of_ble_eq_true rfl) ⟨by decide, by decide⟩ (fun _ _ => rfl) dX5_scroll_7 (fun w7 g7 hP7 => ?_)
  have hf7 := mbR_v hX d
  have hw7 := WW_mb hX d
  have hvv : (-100003 ≤ (mbR X d).1 ∧ (mbR X d).1 ≤ -100001) ∨ (0 ≤ (mbR X d).1 ∧ (mbR X d).1 < 1000000) := mbR_w hX d
  refine xr_callV2 (ws' := fun w10 g10 => [(r 0, ob 5 [.ref (r 1), .ref (r 2), .ref (r 3), .ref (r 4), iv (kpZ ((mbR X d).1) sT), .ref (r 5), iv lE, .ref (r 6), iv aT, iv fR, iv wR, .ref (r 7)]), (r 1, ia T.2.1 305 w7), (r 2, ia T.2.1 305 g1), (r 3, ia T.2.1 305 tr), (r 4, ia T.2.1 1525 g10), (r 5, ia T.2.1 100 te), (r 6, ia T.2.1 3 g7), (r 7, ia T.2.1 3 nb)]) (rest := []) (As := [iv ((mbR X d).1)]) (st' := [iv ((mbR X d).1)]) hM (ct_X5_acted M.2.1 T r sT lE aT fR wR g1 ps H nx X ((mbR X d).1) hP1 (hp) (hX.1.1.1.2) (hH) (by omega) (hnx) (by omega)) gX5_scroll_X5_acted rfl ⟨rfl, rfl⟩ hy_X5_acted rfl ⟨by decide, by decide⟩ [0, 2, 4] rfl rfl (fun _ _ => rfl) 0 5 rfl rfl rfl rfl rfl (Nat.le_of_ble_eq_true rfl) ⟨by decide, by decide⟩ (fun _ _ => rfl) dX5_scroll_10 (fun w10 g10 hP10 => ?_)
  exact xr_iret (hF (fun k9 => match k9 with | 1 => w7 | 2 => g1 | 3 => tr | 4 => g10 | 6 => g7 | _ => nb) ⟨hP7, hP10⟩) dX5_scroll_13 rfl rfl

theorem ct_X5_jump (l : Launch) (T : TT) (r : Nat → Nat) (sT lE aT fR wR : Int) (w bf tr ps te gs nb : AR) (H : Nat → WnS) (nx : Int) (X : WnS) (d : Int) (hr : Rep w X) (hX : WW X) (hp : RHc ps H sT nx) (hHW : ∀ k, WW (H k)) (hsz : 0 ≤ sT ∧ sT ≤ 5) (hnx : 0 ≤ nx ∧ nx < 5) (hd : -2147483648 ≤ d ∧ d < 2147483648) : CT3 l yX5_jump wsX5_jump rm_X5_jump T [.ref (r 0), iv d] ([(r 0, ob 5 [.ref (r 1), .ref (r 2), .ref (r 3), .ref (r 4), iv sT, .ref (r 5), iv lE, .ref (r 6), iv aT, iv fR, iv wR, .ref (r 7)]), (r 1, ia T.2.1 305 w), (r 2, ia T.2.1 305 bf), (r 3, ia T.2.1 305 tr), (r 4, ia T.2.1 1525 ps), (r 5, ia T.2.1 100 te), (r 6, ia T.2.1 3 gs), (r 7, ia T.2.1 3 nb)]) (some (iv ((msR X d).1))) (fun v_ => Rep (v_ 1) (msR X d).2 ∧ RHc (v_ 4) (kpH (msR X d).1 H nx X) (kpZ (msR X d).1 sT) (kpN (msR X d).1 nx)) (fun v_ => [(r 0, ob 5 [.ref (r 1), .ref (r 2), .ref (r 3), .ref (r 4), iv (kpZ (msR X d).1 sT), .ref (r 5), iv lE, .ref (r 6), iv aT, iv fR, iv wR, .ref (r 7)]), (r 1, ia T.2.1 305 (v_ 1)), (r 2, ia T.2.1 305 (v_ 2)), (r 3, ia T.2.1 305 (v_ 3)), (r 4, ia T.2.1 1525 (v_ 4)), (r 5, ia T.2.1 100 te), (r 6, ia T.2.1 3 (v_ 6)), (r 7, ia T.2.1 3 nb)]) := by
  refine CT3.Z (maxL := 2) (lv0 := [(0, .ref (r 0)), (1, iv d)]) hp_X5_jump rfl (Nat.le_of_ble_eq_true rfl) rfl rfl (fun M hM hF => ?_)
  have hn := hX.1.1.1
  have hwd := hX.1.1.2.1
  have hHH := hX.1.2.1
  have hSb := hX.1.2.2.2.2
  have hSs := hX.2
  have hAn := hX.an
  have hA0 := hX.1.2.2.1
  have hH : ∀ k, gN (pX (H k)) ≤ 100 := fun k => (hHW k).1.1.1.2
  refine xr_aload_n hM 0 dX5_jump_0 rfl rfl ?_
  refine xr_callV2 (ws' := fun w1 g1 => [(r 0, ob 5 [.ref (r 1), .ref (r 2), .ref (r 3), .ref (r 4), iv sT, .ref (r 5), iv lE, .ref (r 6), iv aT, iv fR, iv wR, .ref (r 7)]), (r 1, ia T.2.1 305 w), (r 2, ia T.2.1 305 g1), (r 3, ia T.2.1 305 tr), (r 4, ia T.2.1 1525 ps), (r 5, ia T.2.1 100 te), (r 6, ia T.2.1 3 gs), (r 7, ia T.2.1 3 nb)]) (rest := []) (As := []) (st' := []) hM (ct_X5_keeps M.2.1 T r sT lE aT fR wR w bf X hr hX.1.1) gX5_jump_X5_keeps rfl ⟨rfl, rfl⟩ hy_X5_keeps rfl ⟨by decide, by decide⟩ [0, 1, 2] rfl rfl (fun _ _ => rfl) 0 5 rfl rfl rfl rfl rfl (Nat.le_of_ble_eq_true rfl) ⟨by decide, by decide⟩ (fun _ _ => rfl) dX5_jump_1 (fun w1 g1 hP1 => ?_)
  refine xr_aload_n hM 0 dX5_jump_4 rfl rfl ?_
  refine xr_aload_n hM 0 dX5_jump_5 rfl rfl ?_
  refine xr_iload_n hM 1 dX5_jump_6 rfl rfl ?_
  refine xr_callV2 (ws' := fun w7 g7 => [(r 0, ob 5 [.ref (r 1), .ref (r 2), .ref (r 3), .ref (r 4), iv sT, .ref (r 5), iv lE, .ref (r 6), iv aT, iv fR, iv wR, .ref (r 7)]), (r 1, ia T.2.1 305 w7), (r 2, ia T.2.1 305 g1), (r 3, ia T.2.1 305 tr), (r 4, ia T.2.1 1525 ps), (r 5, ia T.2.1 100 te), (r 6, ia T.2.1 3 g7), (r 7, ia T.2.1 3 nb)]) (rest := [.ref (r 0)]) (As := [iv d]) (st' := [iv ((msR X d).1), .ref (r 0)]) hM (ct_X5_jumped M.2.1 T r sT lE aT fR wR gs w X d hr hX (by omega)) gX5_jump_X5_jumped rfl ⟨rfl, rfl⟩ hy_X5_jumped rfl ⟨by decide, by decide⟩ [0, 6, 1] rfl rfl (fun _ _ => rfl) 0 5 rfl rfl rfl rfl rfl (Nat.le_of_ble_eq_true rfl) ⟨by decide, by decide⟩ (fun _ _ => rfl) dX5_jump_7 (fun w7 g7 hP7 => ?_)
  have hf7 := msR_v hX d
  have hw7 := WW_ms hX d
  have hvv : (-100003 ≤ (msR X d).1 ∧ (msR X d).1 ≤ -100001) ∨ (0 ≤ (msR X d).1 ∧ (msR X d).1 < 1000000) := msR_w hX d
  refine xr_callV2 (ws' := fun w10 g10 => [(r 0, ob 5 [.ref (r 1), .ref (r 2), .ref (r 3), .ref (r 4), iv (kpZ ((msR X d).1) sT), .ref (r 5), iv lE, .ref (r 6), iv aT, iv fR, iv wR, .ref (r 7)]), (r 1, ia T.2.1 305 w7), (r 2, ia T.2.1 305 g1), (r 3, ia T.2.1 305 tr), (r 4, ia T.2.1 1525 g10), (r 5, ia T.2.1 100 te), (r 6, ia T.2.1 3 g7), (r 7, ia T.2.1 3 nb)]) (rest := []) (As := [iv ((msR X d).1)]) (st' := [iv ((msR X d).1)]) hM (ct_X5_acted M.2.1 T r sT lE aT fR wR g1 ps H nx X ((msR X d).1) hP1 (hp) (hX.1.1.1.2) (hH) (by omega) (hnx) (by omega)) gX5_jump_X5_acted rfl ⟨rfl, rfl⟩ hy_X5_acted rfl ⟨by decide, by decide⟩ [0, 2, 4] rfl rfl (fun _ _ => rfl) 0 5 rfl rfl rfl rfl rfl (Nat.le_of_ble_eq_true rfl) ⟨by decide, by decide⟩ (fun _ _ => rfl) dX5_jump_10 (fun w10 g10 hP10 => ?_)
  exact xr_iret (hF (fun k9 => match k9 with | 1 => w7 | 2 => g1 | 3 => tr | 4 => g10 | 6 => g7 | _ => nb) ⟨hP7, hP10⟩) dX5_jump_13 rfl rfl

theorem ct_X5_goTo (l : Launch) (T : TT) (r : Nat → Nat) (sT lE aT fR wR : Int) (w bf tr ps te gs nb : AR) (H : Nat → WnS) (nx : Int) (X : WnS) (i : Int) (hr : Rep w X) (hX : WW X) (hp : RHc ps H sT nx) (hHW : ∀ k, WW (H k)) (hsz : 0 ≤ sT ∧ sT ≤ 5) (hnx : 0 ≤ nx ∧ nx < 5) (hi : -2147483648 ≤ i ∧ i < 2147483648) : CT3 l yX5_goTo wsX5_goTo rm_X5_goTo T [.ref (r 0), iv i] ([(r 0, ob 5 [.ref (r 1), .ref (r 2), .ref (r 3), .ref (r 4), iv sT, .ref (r 5), iv lE, .ref (r 6), iv aT, iv fR, iv wR, .ref (r 7)]), (r 1, ia T.2.1 305 w), (r 2, ia T.2.1 305 bf), (r 3, ia T.2.1 305 tr), (r 4, ia T.2.1 1525 ps), (r 5, ia T.2.1 100 te), (r 6, ia T.2.1 3 gs), (r 7, ia T.2.1 3 nb)]) (some (iv ((mlR X i).1))) (fun v_ => Rep (v_ 1) (mlR X i).2 ∧ RHc (v_ 4) (kpH (mlR X i).1 H nx X) (kpZ (mlR X i).1 sT) (kpN (mlR X i).1 nx)) (fun v_ => [(r 0, ob 5 [.ref (r 1), .ref (r 2), .ref (r 3), .ref (r 4), iv (kpZ (mlR X i).1 sT), .ref (r 5), iv lE, .ref (r 6), iv aT, iv fR, iv wR, .ref (r 7)]), (r 1, ia T.2.1 305 (v_ 1)), (r 2, ia T.2.1 305 (v_ 2)), (r 3, ia T.2.1 305 (v_ 3)), (r 4, ia T.2.1 1525 (v_ 4)), (r 5, ia T.2.1 100 te), (r 6, ia T.2.1 3 (v_ 6)), (r 7, ia T.2.1 3 nb)]) := by
  refine CT3.Z (maxL := 2) (lv0 := [(0, .ref (r 0)), (1, iv i)]) hp_X5_goTo rfl (Nat.le_of_ble_eq_true rfl) rfl rfl (fun M hM hF => ?_)
  have hn := hX.1.1.1
  have hwd := hX.1.1.2.1
  have hHH := hX.1.2.1
  have hSb := hX.1.2.2.2.2
  have hSs := hX.2
  have hAn := hX.an
  have hA0 := hX.1.2.2.1
  have hH : ∀ k, gN (pX (H k)) ≤ 100 := fun k => (hHW k).1.1.1.2
  refine xr_aload_n hM 0 dX5_goTo_0 rfl rfl ?_
  refine xr_callV2 (ws' := fun w1 g1 => [(r 0, ob 5 [.ref (r 1), .ref (r 2), .ref (r 3), .ref (r 4), iv sT, .ref (r 5), iv lE, .ref (r 6), iv aT, iv fR, iv wR, .ref (r 7)]), (r 1, ia T.2.1 305 w), (r 2, ia T.2.1 305 g1), (r 3, ia T.2.1 305 tr), (r 4, ia T.2.1 1525 ps), (r 5, ia T.2.1 100 te), (r 6, ia T.2.1 3 gs), (r 7, ia T.2.1 3 nb)]) (rest := []) (As := []) (st' := []) hM (ct_X5_keeps M.2.1 T r sT lE aT fR wR w bf X hr hX.1.1) gX5_goTo_X5_keeps rfl ⟨rfl, rfl⟩ hy_X5_keeps rfl ⟨by decide, by decide⟩ [0, 1, 2] rfl rfl (fun _ _ => rfl) 0 5 rfl rfl rfl rfl rfl (Nat.le_of_ble_eq_true rfl) ⟨by decide, by decide⟩ (fun _ _ => rfl) dX5_goTo_1 (fun w1 g1 hP1 => ?_)
  refine xr_aload_n hM 0 dX5_goTo_4 rfl rfl ?_
  refine xr_aload_n hM 0 dX5_goTo_5 rfl rfl ?_
  refine xr_iload_n hM 1 dX5_goTo_6 rfl rfl ?_
  refine xr_callV2 (ws' := fun w7 g7 => [(r 0, ob 5 [.ref (r 1), .ref (r 2), .ref (r 3), .ref (r 4), iv sT, .ref (r 5), iv lE, .ref (r 6), iv aT, iv fR, iv wR, .ref (r 7)]), (r 1, ia T.2.1 305 w7), (r 2, ia T.2.1 305 g1), (r 3, ia T.2.1 305 tr), (r 4, ia T.2.1 1525 ps), (r 5, ia T.2.1 100 te), (r 6, ia T.2.1 3 g7), (r 7, ia T.2.1 3 nb)]) (rest := [.ref (r 0)]) (As := [iv i]) (st' := [iv ((mlR X i).1), .ref (r 0)]) hM (ct_X5_gone M.2.1 T r sT lE aT fR wR gs w X i hr hX (by omega)) gX5_goTo_X5_gone rfl ⟨rfl, rfl⟩ hy_X5_gone rfl ⟨by decide, by decide⟩ [0, 6, 1] rfl rfl (fun _ _ => rfl) 0 5 rfl rfl rfl rfl rfl (Nat.le_of_ble_eq_true rfl) ⟨by decide, by decide⟩ (fun _ _ => rfl) dX5_goTo_7 (fun w7 g7 hP7 => ?_)
  have hf7 := mlR_v hX i
  have hw7 := WW_ml hX i
  have hvv : (-100003 ≤ (mlR X i).1 ∧ (mlR X i).1 ≤ -100001) ∨ (0 ≤ (mlR X i).1 ∧ (mlR X i).1 < 1000000) := mlR_w hX i
  refine xr_callV2 (ws' := fun w10 g10 => [(r 0, ob 5 [.ref (r 1), .ref (r 2), .ref (r 3), .ref (r 4), iv (kpZ ((mlR X i).1) sT), .ref (r 5), iv lE, .ref (r 6), iv aT, iv fR, iv wR, .ref (r 7)]), (r 1, ia T.2.1 305 w7), (r 2, ia T.2.1 305 g1), (r 3, ia T.2.1 305 tr), (r 4, ia T.2.1 1525 g10), (r 5, ia T.2.1 100 te), (r 6, ia T.2.1 3 g7), (r 7, ia T.2.1 3 nb)]) (rest := []) (As := [iv ((mlR X i).1)]) (st' := [iv ((mlR X i).1)]) hM (ct_X5_acted M.2.1 T r sT lE aT fR wR g1 ps H nx X ((mlR X i).1) hP1 (hp) (hX.1.1.1.2) (hH) (by omega) (hnx) (by omega)) gX5_goTo_X5_acted rfl ⟨rfl, rfl⟩ hy_X5_acted rfl ⟨by decide, by decide⟩ [0, 2, 4] rfl rfl (fun _ _ => rfl) 0 5 rfl rfl rfl rfl rfl (Nat.le_of_ble_eq_true rfl) ⟨by decide, by decide⟩ (fun _ _ => rfl) dX5_goTo_10 (fun w10 g10 hP10 => ?_)
  exact xr_iret (hF (fun k9 => match k9 with | 1 => w7 | 2 => g1 | 3 => tr | 4 => g10 | 6 => g7 | _ => nb) ⟨hP7, hP10⟩) dX5_goTo_13 rfl rfl
