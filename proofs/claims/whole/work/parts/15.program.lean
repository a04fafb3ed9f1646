theorem ct_X2_signAt (l : Launch) (T : TT) (g : Nat → Nat) (tx nm : Nat → Int) (L s e p : Int) (i : Int) (ht : TXI tx L) (hi : -2147483648 ≤ i ∧ i < 2147483648) : CT l yX2_signAt wsX2_signAt rm_X2_signAt T [.ref (g 0), iv i] (prgE T g tx nm L s e p) (some (iv (sgF tx L i))) (prgE T g tx nm L s e p) := by
  refine CT.Z (maxL := 2) (lv0 := [(0, .ref (g 0)), (1, iv i)]) hp_X2_signAt rfl (Nat.le_of_ble_eq_true rfl) (xi_nch (by have := sgF_b ht i; omega)) rfl (fun M hM hF => ?_)
  have hL := ht.1
  refine xr_iload_n hM 1 dX2_signAt_0 rfl rfl ?_
  refine xr_if_lt hM 27 dX2_signAt_1 (by decide) (by omega) (fun c1 => ?_) (fun c1 => ?_)
  · refine xr_iconst hM dX2_signAt_27 ?_
    exact xr_iret hF dX2_signAt_28 (by rw [sgF, if_neg (by omega)]) rfl
  · refine xr_iload_n hM 1 dX2_signAt_4 rfl rfl ?_
    refine xr_aload_n hM 0 dX2_signAt_5 rfl rfl ?_
    refine xr_get (C := RX2) (TT0 := TX2) (N := 6) hM 2 0 2 (fun _ h => List.mem_cons_of_mem _ (List.mem_append_right _ h)) rfl rfl (by decide) (List.mem_of_getElem? (i := 1) rfl) rfl rfl dX2_signAt_6 ?_
    refine xr_icmp_ge hM 27 dX2_signAt_9 (by decide) (by omega) (fun c9 => ?_) (fun c9 => ?_)
    · refine xr_iconst hM dX2_signAt_27 ?_
      exact xr_iret hF dX2_signAt_28 (by rw [sgF, if_neg (by omega)]) rfl
    · refine xr_iload_n hM 1 dX2_signAt_12 rfl rfl ?_
      refine xr_bipush hM dX2_signAt_13 (by decide) ?_
      refine xr_icmp_ge hM 27 dX2_signAt_15 (by decide) (by omega) (fun c15 => by exfalso; omega) (fun c15 => ?_)
      refine xr_aload_n hM 0 dX2_signAt_18 rfl rfl ?_
      refine xr_get (C := RX2) (TT0 := TX2) (N := 6) hM 2 0 0 (fun _ h => List.mem_cons_of_mem _ (List.mem_append_right _ h)) rfl rfl (by decide) (List.mem_of_getElem? (i := 2) rfl) rfl rfl dX2_signAt_19 ?_
      refine xr_iload_n hM 1 dX2_signAt_22 rfl rfl ?_
      refine xr_cald hM 1 i.toNat rfl rfl (by omega) dX2_signAt_23 ?_
      refine xr_goto hM 28 dX2_signAt_24 (by decide) ?_
      exact xr_iret hF dX2_signAt_28 (by rw [sgF, if_pos (by omega)]) rfl

theorem ct_X2_isLetter (l : Launch) (T : TT) (v : Int) (hv : -2147483648 ≤ v ∧ v < 2147483648) : CT l yX2_isLetter wsX2_isLetter rm_X2_isLetter T [iv v] ([]) (some (iv (bi (97 ≤ v ∧ v ≤ 122)))) ([]) := by
  refine CT.Z (maxL := 1) (lv0 := [(0, iv v)]) hp_X2_isLetter rfl (Nat.le_of_ble_eq_true rfl) bi_n rfl (fun M hM hF => ?_)
  refine xr_iload_n hM 0 dX2_isLetter_0 rfl rfl ?_
  refine xr_bipush hM dX2_isLetter_1 (by decide) ?_
  refine xr_icmp_lt hM 16 dX2_isLetter_3 (by decide) (by omega) (fun c3 => ?_) (fun c3 => ?_)
  · refine xr_iconst hM dX2_isLetter_16 ?_
    exact xr_iret hF dX2_isLetter_17 (bi_f (by omega)).symm rfl
  · refine xr_iload_n hM 0 dX2_isLetter_6 rfl rfl ?_
    refine xr_bipush hM dX2_isLetter_7 (by decide) ?_
    refine xr_icmp_gt hM 16 dX2_isLetter_9 (by decide) (by omega) (fun c9 => ?_) (fun c9 => ?_)
    · refine xr_iconst hM dX2_isLetter_16 ?_
      exact xr_iret hF dX2_isLetter_17 (bi_f (by omega)).symm rfl
    · refine xr_iconst hM dX2_isLetter_12 ?_
      refine xr_goto hM 17 dX2_isLetter_13 (by decide) ?_
      exact xr_iret hF dX2_isLetter_17 (bi_t (by omega)).symm rfl

theorem ct_X2_isDigit (l : Launch) (T : TT) (v : Int) (hv : -2147483648 ≤ v ∧ v < 2147483648) : CT l yX2_isDigit wsX2_isDigit rm_X2_isDigit T [iv v] ([]) (some (iv (bi (48 ≤ v ∧ v ≤ 57)))) ([]) := by
  refine CT.Z (maxL := 1) (lv0 := [(0, iv v)]) hp_X2_isDigit rfl (Nat.le_of_ble_eq_true rfl) bi_n rfl (fun M hM hF => ?_)
  refine xr_iload_n hM 0 dX2_isDigit_0 rfl rfl ?_
  refine xr_bipush hM dX2_isDigit_1 (by decide) ?_
  refine xr_icmp_lt hM 16 dX2_isDigit_3 (by decide) (by omega) (fun c3 => ?_) (fun c3 => ?_)
  · refine xr_iconst hM dX2_isDigit_16 ?_
    exact xr_iret hF dX2_isDigit_17 (bi_f (by omega)).symm rfl
  · refine xr_iload_n hM 0 dX2_isDigit_6 rfl rfl ?_
    refine xr_bipush hM dX2_isDigit_7 (by decide) ?_
    refine xr_icmp_gt hM 16 dX2_isDigit_9 (by decide) (by omega) (fun c9 => ?_) (fun c9 => ?_)
    · refine xr_iconst hM dX2_isDigit_16 ?_
      exact xr_iret hF dX2_isDigit_17 (bi_f (by omega)).symm rfl
    · refine xr_iconst hM dX2_isDigit_12 ?_
      refine xr_goto hM 17 dX2_isDigit_13 (by decide) ?_
      exact xr_iret hF dX2_isDigit_17 (bi_t (by omega)).symm rfl

theorem ct_X2_add (l : Launch) (T : TT) (g : Nat → Nat) (tx nm : Nat → Int) (L s e p : Int) (v : Int) (ht : TXI tx L) (hv : 0 ≤ v ∧ v ≤ 255) : CT l yX2_add wsX2_add rm_X2_add T [.ref (g 0), iv v] (prgE T g tx nm L s e p) (some (iv (if 100 ≤ L then -100003 else L + 1))) (prgE T g (if 100 ≤ L then tx else va_up tx L.toNat v) nm (if 100 ≤ L then L else L + 1) s e p) := by
  refine CT.Z (maxL := 2) (lv0 := [(0, .ref (g 0)), (1, iv v)]) hp_X2_add rfl (Nat.le_of_ble_eq_true rfl) rfl rfl (fun M hM hF => ?_)
  have hL := ht.1
  refine xr_aload_n hM 0 dX2_add_0 rfl rfl ?_
  refine xr_get (C := RX2) (TT0 := TX2) (N := 6) hM 2 0 2 (fun _ h => List.mem_cons_of_mem _ (List.mem_append_right _ h)) rfl rfl (by decide) (List.mem_of_getElem? (i := 1) rfl) rfl rfl dX2_add_1 ?_
  refine xr_bipush hM dX2_add_4 (by decide) ?_
  refine xr_icmp_lt hM 12 dX2_add_6 (by decide) (by omega) (fun c6 => ?_) (fun c6 => ?_)
  · refine xr_aload_n hM 0 dX2_add_12 rfl rfl ?_
    refine xr_get (C := RX2) (TT0 := TX2) (N := 6) hM 2 0 0 (fun _ h => List.mem_cons_of_mem _ (List.mem_append_right _ h)) rfl rfl (by decide) (List.mem_of_getElem? (i := 3) rfl) rfl rfl dX2_add_13 ?_
    refine xr_aload_n hM 0 dX2_add_16 rfl rfl ?_
    refine xr_get (C := RX2) (TT0 := TX2) (N := 6) hM 2 0 2 (fun _ h => List.mem_cons_of_mem _ (List.mem_append_right _ h)) rfl rfl (by decide) (List.mem_of_getElem? (i := 1) rfl) rfl rfl dX2_add_17 ?_
    refine xr_iload_n hM 1 dX2_add_20 rfl rfl ?_
    refine xr_cast (ws' := [(g 0, ob 2 [.ref (g 1), .ref (g 2), iv L, iv s, iv e, iv p]), (g 1, ia T.2.2.2.1 100 (va_up tx L.toNat v)), (g 2, ia T.2.1 3 nm)]) hM 1 L.toNat rfl rfl (by omega) (by omega) dX2_add_21 rfl ?_
    refine xr_aload_n hM 0 dX2_add_22 rfl rfl ?_
    refine xr_dup hM dX2_add_23 rfl ?_
    refine xr_get (C := RX2) (TT0 := TX2) (N := 6) hM 2 0 2 (fun _ h => List.mem_cons_of_mem _ (List.mem_append_right _ h)) rfl rfl (by decide) (List.mem_of_getElem? (i := 1) rfl) rfl rfl dX2_add_24 ?_
    refine xr_iconst hM dX2_add_27 ?_
    refine xr_iadd hM dX2_add_28 ?_
    refine xr_put (ws' := [(g 0, ob 2 [.ref (g 1), .ref (g 2), iv (L + 1), iv s, iv e, iv p]), (g 1, ia T.2.2.2.1 100 (va_up tx L.toNat v)), (g 2, ia T.2.1 3 nm)]) (C := RX2) (TT0 := TX2) (N := 6) hM 2 0 2 (fun _ h => List.mem_cons_of_mem _ (List.mem_append_right _ h)) tyX2 tyX2_ok nmX2 rfl rfl (by decide) (List.mem_of_getElem? (i := 1) rfl) rfl rfl rfl (Nat.le_of_ble_eq_true rfl) rfl dX2_add_29 ?_
    refine xr_aload_n hM 0 dX2_add_32 rfl rfl ?_
    refine xr_get (C := RX2) (TT0 := TX2) (N := 6) hM 2 0 2 (fun _ h => List.mem_cons_of_mem _ (List.mem_append_right _ h)) rfl rfl (by decide) (List.mem_of_getElem? (i := 1) rfl) rfl rfl dX2_add_33 ?_
    exact xr_iret hF dX2_add_36 (by rw [if_neg (by omega)]) (by rw [if_neg (by omega), if_neg (by omega)] <;> rfl)
  · refine xr_ldc hM (-100003) (List.mem_of_getElem? (i := 2) rfl) (by decide) dX2_add_9 ?_
    exact xr_iret hF dX2_add_11 (by rw [if_pos (by omega)]) (by rw [if_pos (by omega), if_pos (by omega)] <;> rfl)

theorem ct_X2_clear (l : Launch) (T : TT) (g : Nat → Nat) (tx nm : Nat → Int) (L s e p : Int) : CT l yX2_clear wsX2_clear rm_X2_clear T [.ref (g 0)] (prgE T g tx nm L s e p) (some (iv L)) (prgE T g tx nm 0 s e p) := by
  refine CT.Z (maxL := 2) (lv0 := [(0, .ref (g 0))]) hp_X2_clear rfl (Nat.le_of_ble_eq_true rfl) rfl rfl (fun M hM hF => ?_)
  refine xr_aload_n hM 0 dX2_clear_0 rfl rfl ?_
  refine xr_get (C := RX2) (TT0 := TX2) (N := 6) hM 2 0 2 (fun _ h => List.mem_cons_of_mem _ (List.mem_append_right _ h)) rfl rfl (by decide) (List.mem_of_getElem? (i := 1) rfl) rfl rfl dX2_clear_1 ?_
  refine xr_istore_n (lv' := [(0, .ref (g 0)), (1, iv L)]) hM dX2_clear_4 rfl (by decide) rfl rfl ?_
  refine xr_aload_n hM 0 dX2_clear_5 rfl rfl ?_
  refine xr_iconst hM dX2_clear_6 ?_
  refine xr_put (ws' := [(g 0, ob 2 [.ref (g 1), .ref (g 2), iv 0, iv s, iv e, iv p]), (g 1, ia T.2.2.2.1 100 tx), (g 2, ia T.2.1 3 nm)]) (C := RX2) (TT0 := TX2) (N := 6) hM 2 0 2 (fun _ h => List.mem_cons_of_mem _ (List.mem_append_right _ h)) tyX2 tyX2_ok nmX2 rfl rfl (by decide) (List.mem_of_getElem? (i := 1) rfl) rfl rfl rfl (Nat.le_of_ble_eq_true rfl) rfl dX2_clear_7 ?_
  refine xr_iload_n hM 1 dX2_clear_10 rfl rfl ?_
  exact xr_iret hF dX2_clear_11 rfl rfl

theorem ct_X2_rewind (l : Launch) (T : TT) (g : Nat → Nat) (tx nm : Nat → Int) (L s e p : Int) : CT l yX2_rewind wsX2_rewind rm_X2_rewind T [.ref (g 0)] (prgE T g tx nm L s e p) none (prgE T g tx nm L 0 0 0) := by
  refine CT.V (maxL := 1) (lv0 := [(0, .ref (g 0))]) hp_X2_rewind rfl (Nat.le_of_ble_eq_true rfl) rfl (fun M hM hF => ?_)
  refine xr_aload_n hM 0 dX2_rewind_0 rfl rfl ?_
  refine xr_iconst hM dX2_rewind_1 ?_
  refine xr_put (ws' := [(g 0, ob 2 [.ref (g 1), .ref (g 2), iv L, iv 0, iv e, iv p]), (g 1, ia T.2.2.2.1 100 tx), (g 2, ia T.2.1 3 nm)]) (C := RX2) (TT0 := TX2) (N := 6) hM 2 0 3 (fun _ h => List.mem_cons_of_mem _ (List.mem_append_right _ h)) tyX2 tyX2_ok nmX2 rfl rfl (by decide) (List.mem_of_getElem? (i := 1) rfl) rfl rfl rfl (Nat.le_of_ble_eq_true rfl) rfl dX2_rewind_2 ?_
  refine xr_aload_n hM 0 dX2_rewind_5 rfl rfl ?_
  refine xr_iconst hM dX2_rewind_6 ?_
  refine xr_put (ws' := [(g 0, ob 2 [.ref (g 1), .ref (g 2), iv L, iv 0, iv 0, iv p]), (g 1, ia T.2.2.2.1 100 tx), (g 2, ia T.2.1 3 nm)]) (C := RX2) (TT0 := TX2) (N := 6) hM 2 0 4 (fun _ h => List.mem_cons_of_mem _ (List.mem_append_right _ h)) tyX2 tyX2_ok nmX2 rfl rfl (by decide) (List.mem_of_getElem? (i := 2) rfl) rfl rfl rfl (Nat.le_of_ble_eq_true rfl) rfl dX2_rewind_7 ?_
  refine xr_aload_n hM 0 dX2_rewind_10 rfl rfl ?_
  refine xr_iconst hM dX2_rewind_11 ?_
  refine xr_put (ws' := [(g 0, ob 2 [.ref (g 1), .ref (g 2), iv L, iv 0, iv 0, iv 0]), (g 1, ia T.2.2.2.1 100 tx), (g 2, ia T.2.1 3 nm)]) (C := RX2) (TT0 := TX2) (N := 6) hM 2 0 5 (fun _ h => List.mem_cons_of_mem _ (List.mem_append_right _ h)) tyX2 tyX2_ok nmX2 rfl rfl (by decide) (List.mem_of_getElem? (i := 3) rfl) rfl rfl rfl (Nat.le_of_ble_eq_true rfl) rfl dX2_rewind_12 ?_
  exact xr_vret hF dX2_rewind_15 rfl

theorem ct_X2_number (l : Launch) (T : TT) (g : Nat → Nat) (tx nm : Nat → Int) (L s e p : Int) (i : Int) (hi : 0 ≤ i ∧ i < 3) : CT l yX2_number wsX2_number rm_X2_number T [.ref (g 0), iv i] (prgE T g tx nm L s e p) (some (iv (nm i.toNat))) (prgE T g tx nm L s e p) := by
  refine CT.Z (maxL := 2) (lv0 := [(0, .ref (g 0)), (1, iv i)]) hp_X2_number rfl (Nat.le_of_ble_eq_true rfl) rfl rfl (fun M hM hF => ?_)
  refine xr_iload_n hM 1 dX2_number_0 rfl rfl ?_
  refine xr_if_lt hM 18 dX2_number_1 (by decide) (by omega) (fun c1 => by exfalso; omega) (fun c1 => ?_)
  refine xr_iload_n hM 1 dX2_number_4 rfl rfl ?_
  refine xr_iconst hM dX2_number_5 ?_
  refine xr_icmp_ge hM 18 dX2_number_6 (by decide) (by omega) (fun c6 => by exfalso; omega) (fun c6 => ?_)
  refine xr_aload_n hM 0 dX2_number_9 rfl rfl ?_
  refine xr_get (C := RX2) (TT0 := TX2) (N := 6) hM 2 0 1 (fun _ h => List.mem_cons_of_mem _ (List.mem_append_right _ h)) rfl rfl (by decide) (List.mem_of_getElem? (i := 1) rfl) rfl rfl dX2_number_10 ?_
  refine xr_iload_n hM 1 dX2_number_13 rfl rfl ?_
  refine xr_iald hM 2 i.toNat rfl rfl (by omega) dX2_number_14 ?_
  refine xr_goto hM 19 dX2_number_15 (by decide) ?_
  exact xr_iret hF dX2_number_19 rfl rfl

theorem lp_readToken_8 {T : TT} {M : MB} (g : Nat → Nat) (tx nm : Nat → Int) (L s e p : Int) (R : Int) (ht : TXI tx L)  (hM : FM T M cX2_readToken RX2 1 wsX2_readToken rm_X2_readToken) (hK : VV T M 1 [(0, .ref (g 0))] [(g 0, ob 2 [.ref (g 1), .ref (g 2), iv L, iv R, iv e, iv p]), (g 1, ia T.2.2.2.1 100 tx), (g 2, ia T.2.1 3 nm)] 0 0 45 []) : ∀ (f : Nat) (q : Int), (0 ≤ q ∧ q ≤ L) → (L - q).toNat ≤ f → itL (spC tx L) incI f q = R → VV T M 1 [(0, .ref (g 0))] (prgE T g tx nm L q e p) 0 0 8 [] := by
  intro f
  induction f with
  | zero =>
    intro q h1 h2 hR
    have hL := ht.1
    have hz : q = L := by omega
    refine xr_aload_n hM 0 dX2_readToken_8 rfl rfl ?_
    refine xr_get (C := RX2) (TT0 := TX2) (N := 6) hM 2 0 3 (fun _ h => List.mem_cons_of_mem _ (List.mem_append_right _ h)) rfl rfl (by decide) (List.mem_of_getElem? (i := 2) rfl) rfl rfl dX2_readToken_9 ?_
    refine xr_aload_n hM 0 dX2_readToken_12 rfl rfl ?_
    refine xr_get (C := RX2) (TT0 := TX2) (N := 6) hM 2 0 2 (fun _ h => List.mem_cons_of_mem _ (List.mem_append_right _ h)) rfl rfl (by decide) (List.mem_of_getElem? (i := 3) rfl) rfl rfl dX2_readToken_13 ?_
    refine xr_icmp_ge hM 45 dX2_readToken_16 (by decide) (by omega) (fun c16 => ?_) (fun c16 => by exfalso; omega)
    obtain rfl := itL_f hR (fun q9 => by have q2 := of_decide_eq_true q9; omega)
    exact hK
  | succ f ih =>
    intro q h1 h2 hR
    have hL := ht.1
    refine xr_aload_n hM 0 dX2_readToken_8 rfl rfl ?_
    refine xr_get (C := RX2) (TT0 := TX2) (N := 6) hM 2 0 3 (fun _ h => List.mem_cons_of_mem _ (List.mem_append_right _ h)) rfl rfl (by decide) (List.mem_of_getElem? (i := 2) rfl) rfl rfl dX2_readToken_9 ?_
    refine xr_aload_n hM 0 dX2_readToken_12 rfl rfl ?_
    refine xr_get (C := RX2) (TT0 := TX2) (N := 6) hM 2 0 2 (fun _ h => List.mem_cons_of_mem _ (List.mem_append_right _ h)) rfl rfl (by decide) (List.mem_of_getElem? (i := 3) rfl) rfl rfl dX2_readToken_13 ?_
    refine xr_icmp_ge hM 45 dX2_readToken_16 (by decide) (by omega) (fun c16 => ?_) (fun c16 => ?_)
    · obtain rfl := itL_f hR (fun q9 => by have q2 := of_decide_eq_true q9; omega)
      exact hK
    · refine xr_aload_n hM 0 dX2_readToken_19 rfl rfl ?_
      refine xr_aload_n hM 0 dX2_readToken_20 rfl rfl ?_
      refine xr_get (C := RX2) (TT0 := TX2) (N := 6) hM 2 0 3 (fun _ h => List.mem_cons_of_mem _ (List.mem_append_right _ h)) rfl rfl (by decide) (List.mem_of_getElem? (i := 2) rfl) rfl rfl dX2_readToken_21 ?_
      refine xr_callVr (rest := []) (As := [iv q]) (st' := [iv (sgF tx L q)]) hM (ct_X2_signAt M.2.1 T g tx nm L q e p q (ht) (by omega)) gX2_readToken_X2_signAt rfl ⟨rfl, rfl⟩ hy_X2_signAt rfl ⟨by decide, by decide⟩ [0, 1, 2] rfl rfl 0 2 rfl rfl rfl rfl rfl (Nat.le_of_ble_eq_true rfl) ⟨by decide, by decide⟩ dX2_readToken_24 ?_
      have hf24 := sgF_b (ht) q
      refine xr_bipush hM dX2_readToken_27 (by decide) ?_
      refine xr_icmp_ne hM 45 dX2_readToken_29 (by decide) (by omega) (fun c29 => ?_) (fun c29 => ?_)
      · obtain rfl := itL_f hR (fun q9 => by have q2 := of_decide_eq_true q9; omega)
        exact hK
      · refine xr_aload_n hM 0 dX2_readToken_32 rfl rfl ?_
        refine xr_dup hM dX2_readToken_33 rfl ?_
        refine xr_get (C := RX2) (TT0 := TX2) (N := 6) hM 2 0 3 (fun _ h => List.mem_cons_of_mem _ (List.mem_append_right _ h)) rfl rfl (by decide) (List.mem_of_getElem? (i := 2) rfl) rfl rfl dX2_readToken_34 ?_
        refine xr_iconst hM dX2_readToken_37 ?_
        refine xr_iadd hM dX2_readToken_38 ?_
        refine xr_put (ws' := [(g 0, ob 2 [.ref (g 1), .ref (g 2), iv L, iv (q + 1), iv e, iv p]), (g 1, ia T.2.2.2.1 100 tx), (g 2, ia T.2.1 3 nm)]) (C := RX2) (TT0 := TX2) (N := 6) hM 2 0 3 (fun _ h => List.mem_cons_of_mem _ (List.mem_append_right _ h)) tyX2 tyX2_ok nmX2 rfl rfl (by decide) (List.mem_of_getElem? (i := 2) rfl) rfl rfl rfl (Nat.le_of_ble_eq_true rfl) rfl dX2_readToken_39 ?_
        refine xr_goto hM 8 dX2_readToken_42 (by decide) ?_
        have hcd : spC tx L q = true := decide_eq_true (by omega)
        exact ih (q + 1) (by omega) (by omega) (itL_t hR hcd)

theorem lp_readToken_76 {T : TT} {M : MB} (g : Nat → Nat) (tx nm : Nat → Int) (L s e p : Int) (R : Int) (ht : TXI tx L)  (hM : FM T M cX2_readToken RX2 1 wsX2_readToken rm_X2_readToken) (hF : FinV T M cX2_readToken 1 (prgE T g tx nm L s R p)) : ∀ (f : Nat) (q : Int), (0 ≤ q ∧ q ≤ L) → (L - q).toNat ≤ f → itL (lrC tx L) incI f q = R → VV T M 1 [(0, .ref (g 0))] (prgE T g tx nm L s q p) 0 0 76 [] := by
  intro f
  induction f with
  | zero =>
    intro q h1 h2 hR
    have hL := ht.1
    have hz : q = L := by omega
    refine xr_aload_n hM 0 dX2_readToken_76 rfl rfl ?_
    refine xr_get (C := RX2) (TT0 := TX2) (N := 6) hM 2 0 4 (fun _ h => List.mem_cons_of_mem _ (List.mem_append_right _ h)) rfl rfl (by decide) (List.mem_of_getElem? (i := 1) rfl) rfl rfl dX2_readToken_77 ?_
    refine xr_aload_n hM 0 dX2_readToken_80 rfl rfl ?_
    refine xr_get (C := RX2) (TT0 := TX2) (N := 6) hM 2 0 2 (fun _ h => List.mem_cons_of_mem _ (List.mem_append_right _ h)) rfl rfl (by decide) (List.mem_of_getElem? (i := 3) rfl) rfl rfl dX2_readToken_81 ?_
    refine xr_icmp_ge hM 166 dX2_readToken_84 (by decide) (by omega) (fun c84 => ?_) (fun c84 => by exfalso; omega)
    obtain rfl := itL_f hR (fun q9 => by have q2 := of_decide_eq_true q9; omega)
    exact xr_vret hF dX2_readToken_166 rfl
  | succ f ih =>
    intro q h1 h2 hR
    have hL := ht.1
    refine xr_aload_n hM 0 dX2_readToken_76 rfl rfl ?_
    refine xr_get (C := RX2) (TT0 := TX2) (N := 6) hM 2 0 4 (fun _ h => List.mem_cons_of_mem _ (List.mem_append_right _ h)) rfl rfl (by decide) (List.mem_of_getElem? (i := 1) rfl) rfl rfl dX2_readToken_77 ?_
    refine xr_aload_n hM 0 dX2_readToken_80 rfl rfl ?_
    refine xr_get (C := RX2) (TT0 := TX2) (N := 6) hM 2 0 2 (fun _ h => List.mem_cons_of_mem _ (List.mem_append_right _ h)) rfl rfl (by decide) (List.mem_of_getElem? (i := 3) rfl) rfl rfl dX2_readToken_81 ?_
    refine xr_icmp_ge hM 166 dX2_readToken_84 (by decide) (by omega) (fun c84 => ?_) (fun c84 => ?_)
    · obtain rfl := itL_f hR (fun q9 => by have q2 := of_decide_eq_true q9; omega)
      exact xr_vret hF dX2_readToken_166 rfl
    · refine xr_aload_n hM 0 dX2_readToken_87 rfl rfl ?_
      refine xr_aload_n hM 0 dX2_readToken_88 rfl rfl ?_
      refine xr_get (C := RX2) (TT0 := TX2) (N := 6) hM 2 0 4 (fun _ h => List.mem_cons_of_mem _ (List.mem_append_right _ h)) rfl rfl (by decide) (List.mem_of_getElem? (i := 1) rfl) rfl rfl dX2_readToken_89 ?_
      refine xr_callVr (rest := []) (As := [iv q]) (st' := [iv (sgF tx L q)]) hM (ct_X2_signAt M.2.1 T g tx nm L s q p q (ht) (by omega)) gX2_readToken_X2_signAt rfl ⟨rfl, rfl⟩ hy_X2_signAt rfl ⟨by decide, by decide⟩ [0, 1, 2] rfl rfl 0 2 rfl rfl rfl rfl rfl (Nat.le_of_ble_eq_true rfl) ⟨by decide, by decide⟩ dX2_readToken_92 ?_
      have hf92 := sgF_b (ht) q
      refine xr_callSr (rest := []) (As := [iv (sgF tx L q)]) (st' := [iv (bi (97 ≤ (sgF tx L q) ∧ (sgF tx L q) ≤ 122))]) hM (ct_X2_isLetter M.2.1 T (sgF tx L q) (by omega)) gX2_readToken_X2_isLetter rfl ⟨rfl, rfl⟩ hy_X2_isLetter rfl ⟨by decide, by decide⟩ [] rfl rfl rfl rfl (Nat.le_of_ble_eq_true rfl) ⟨by decide, by decide⟩ dX2_readToken_95 ?_
      refine xr_ifb_eq hM 166 dX2_readToken_98 (by decide) (fun c98 => ?_) (fun c98 => ?_)
      · obtain rfl := itL_f hR (fun q9 => by have q2 := of_decide_eq_true q9; omega)
        exact xr_vret hF dX2_readToken_166 rfl
      · refine xr_aload_n hM 0 dX2_readToken_101 rfl rfl ?_
        refine xr_dup hM dX2_readToken_102 rfl ?_
        refine xr_get (C := RX2) (TT0 := TX2) (N := 6) hM 2 0 4 (fun _ h => List.mem_cons_of_mem _ (List.mem_append_right _ h)) rfl rfl (by decide) (List.mem_of_getElem? (i := 1) rfl) rfl rfl dX2_readToken_103 ?_
        refine xr_iconst hM dX2_readToken_106 ?_
        refine xr_iadd hM dX2_readToken_107 ?_
        refine xr_put (ws' := [(g 0, ob 2 [.ref (g 1), .ref (g 2), iv L, iv s, iv (q + 1), iv p]), (g 1, ia T.2.2.2.1 100 tx), (g 2, ia T.2.1 3 nm)]) (C := RX2) (TT0 := TX2) (N := 6) hM 2 0 4 (fun _ h => List.mem_cons_of_mem _ (List.mem_append_right _ h)) tyX2 tyX2_ok nmX2 rfl rfl (by decide) (List.mem_of_getElem? (i := 1) rfl) rfl rfl rfl (Nat.le_of_ble_eq_true rfl) rfl dX2_readToken_108 ?_
        refine xr_goto hM 76 dX2_readToken_111 (by decide) ?_
        have hcd : lrC tx L q = true := decide_eq_true (by omega)
        exact ih (q + 1) (by omega) (by omega) (itL_t hR hcd)

theorem lp_readToken_128 {T : TT} {M : MB} (g : Nat → Nat) (tx nm : Nat → Int) (L s e p : Int) (R : Int) (ht : TXI tx L)  (hM : FM T M cX2_readToken RX2 1 wsX2_readToken rm_X2_readToken) (hF : FinV T M cX2_readToken 1 (prgE T g tx nm L s R p)) : ∀ (f : Nat) (q : Int), (0 ≤ q ∧ q ≤ L) → (L - q).toNat ≤ f → itL (drC tx L) incI f q = R → VV T M 1 [(0, .ref (g 0))] (prgE T g tx nm L s q p) 0 0 128 [] := by
  intro f
  induction f with
  | zero =>
    intro q h1 h2 hR
    have hL := ht.1
    have hz : q = L := by omega
    refine xr_aload_n hM 0 dX2_readToken_128 rfl rfl ?_
    refine xr_get (C := RX2) (TT0 := TX2) (N := 6) hM 2 0 4 (fun _ h => List.mem_cons_of_mem _ (List.mem_append_right _ h)) rfl rfl (by decide) (List.mem_of_getElem? (i := 1) rfl) rfl rfl dX2_readToken_129 ?_
    refine xr_aload_n hM 0 dX2_readToken_132 rfl rfl ?_
    refine xr_get (C := RX2) (TT0 := TX2) (N := 6) hM 2 0 2 (fun _ h => List.mem_cons_of_mem _ (List.mem_append_right _ h)) rfl rfl (by decide) (List.mem_of_getElem? (i := 3) rfl) rfl rfl dX2_readToken_133 ?_
    refine xr_icmp_ge hM 166 dX2_readToken_136 (by decide) (by omega) (fun c136 => ?_) (fun c136 => by exfalso; omega)
    obtain rfl := itL_f hR (fun q9 => by have q2 := of_decide_eq_true q9; omega)
    exact xr_vret hF dX2_readToken_166 rfl
  | succ f ih =>
    intro q h1 h2 hR
    have hL := ht.1
    refine xr_aload_n hM 0 dX2_readToken_128 rfl rfl ?_
    refine xr_get (C := RX2) (TT0 := TX2) (N := 6) hM 2 0 4 (fun _ h => List.mem_cons_of_mem _ (List.mem_append_right _ h)) rfl rfl (by decide) (List.mem_of_getElem? (i := 1) rfl) rfl rfl dX2_readToken_129 ?_
    refine xr_aload_n hM 0 dX2_readToken_132 rfl rfl ?_
    refine xr_get (C := RX2) (TT0 := TX2) (N := 6) hM 2 0 2 (fun _ h => List.mem_cons_of_mem _ (List.mem_append_right _ h)) rfl rfl (by decide) (List.mem_of_getElem? (i := 3) rfl) rfl rfl dX2_readToken_133 ?_
    refine xr_icmp_ge hM 166 dX2_readToken_136 (by decide) (by omega) (fun c136 => ?_) (fun c136 => ?_)
    · obtain rfl := itL_f hR (fun q9 => by have q2 := of_decide_eq_true q9; omega)
      exact xr_vret hF dX2_readToken_166 rfl
    · refine xr_aload_n hM 0 dX2_readToken_139 rfl rfl ?_
      refine xr_aload_n hM 0 dX2_readToken_140 rfl rfl ?_
      refine xr_get (C := RX2) (TT0 := TX2) (N := 6) hM 2 0 4 (fun _ h => List.mem_cons_of_mem _ (List.mem_append_right _ h)) rfl rfl (by decide) (List.mem_of_getElem? (i := 1) rfl) rfl rfl dX2_readToken_141 ?_
      refine xr_callVr (rest := []) (As := [iv q]) (st' := [iv (sgF tx L q)]) hM (ct_X2_signAt M.2.1 T g tx nm L s q p q (ht) (by omega)) gX2_readToken_X2_signAt rfl ⟨rfl, rfl⟩ hy_X2_signAt rfl ⟨by decide, by decide⟩ [0, 1, 2] rfl rfl 0 2 rfl rfl rfl rfl rfl (Nat.le_of_ble_eq_true rfl) ⟨by decide, by decide⟩ dX2_readToken_144 ?_
      have hf144 := sgF_b (ht) q
      refine xr_callSr (rest := []) (As := [iv (sgF tx L q)]) (st' := [iv (bi (48 ≤ (sgF tx L q) ∧ (sgF tx L q) ≤ 57))]) hM (ct_X2_isDigit M.2.1 T (sgF tx L q) (by omega)) gX2_readToken_X2_isDigit rfl ⟨rfl, rfl⟩ hy_X2_isDigit rfl ⟨by decide, by decide⟩ [] rfl rfl rfl rfl (Nat.le_of_ble_eq_true rfl) ⟨by decide, by decide⟩ dX2_readToken_147 ?_
      refine xr_ifb_eq hM 166 dX2_readToken_150 (by decide) (fun c150 => ?_) (fun c150 => ?_)
      · obtain rfl := itL_f hR (fun q9 => by have q2 := of_decide_eq_true q9; omega)
        exact xr_vret hF dX2_readToken_166 rfl
      · refine xr_aload_n hM 0 dX2_readToken_153 rfl rfl ?_
        refine xr_dup hM dX2_readToken_154 rfl ?_
        refine xr_get (C := RX2) (TT0 := TX2) (N := 6) hM 2 0 4 (fun _ h => List.mem_cons_of_mem _ (List.mem_append_right _ h)) rfl rfl (by decide) (List.mem_of_getElem? (i := 1) rfl) rfl rfl dX2_readToken_155 ?_
        refine xr_iconst hM dX2_readToken_158 ?_
        refine xr_iadd hM dX2_readToken_159 ?_
        refine xr_put (ws' := [(g 0, ob 2 [.ref (g 1), .ref (g 2), iv L, iv s, iv (q + 1), iv p]), (g 1, ia T.2.2.2.1 100 tx), (g 2, ia T.2.1 3 nm)]) (C := RX2) (TT0 := TX2) (N := 6) hM 2 0 4 (fun _ h => List.mem_cons_of_mem _ (List.mem_append_right _ h)) tyX2 tyX2_ok nmX2 rfl rfl (by decide) (List.mem_of_getElem? (i := 1) rfl) rfl rfl rfl (Nat.le_of_ble_eq_true rfl) rfl dX2_readToken_160 ?_
        refine xr_goto hM 128 dX2_readToken_163 (by decide) ?_
        have hcd : drC tx L q = true := decide_eq_true (by omega)
        exact ih (q + 1) (by omega) (by omega) (itL_t hR hcd)

theorem ct_readToken_45 {T : TT} {M : MB} (g : Nat → Nat) (tx nm : Nat → Int) (L S e p : Int) (ht : TXI tx L) (hS : 0 ≤ S ∧ S ≤ L) (hM : FM T M cX2_readToken RX2 1 wsX2_readToken rm_X2_readToken) (hF : FinV T M cX2_readToken 1 (prgE T g tx nm L S (teF tx L S) p)) : VV T M 1 [(0, .ref (g 0))] [(g 0, ob 2 [.ref (g 1), .ref (g 2), iv L, iv S, iv e, iv p]), (g 1, ia T.2.2.2.1 100 tx), (g 2, ia T.2.1 3 nm)] 0 0 45 [] := by
  have hL := ht.1
  refine xr_aload_n hM 0 dX2_readToken_45 rfl rfl ?_
  refine xr_aload_n hM 0 dX2_readToken_46 rfl rfl ?_
  refine xr_get (C := RX2) (TT0 := TX2) (N := 6) hM 2 0 3 (fun _ h => List.mem_cons_of_mem _ (List.mem_append_right _ h)) rfl rfl (by decide) (List.mem_of_getElem? (i := 2) rfl) rfl rfl dX2_readToken_47 ?_
  refine xr_iconst hM dX2_readToken_50 ?_
  refine xr_iadd hM dX2_readToken_51 ?_
  refine xr_aload_n hM 0 dX2_readToken_52 rfl rfl ?_
  refine xr_get (C := RX2) (TT0 := TX2) (N := 6) hM 2 0 2 (fun _ h => List.mem_cons_of_mem _ (List.mem_append_right _ h)) rfl rfl (by decide) (List.mem_of_getElem? (i := 3) rfl) rfl rfl dX2_readToken_53 ?_
  refine xr_mmin hM (List.mem_of_getElem? (i := 4) rfl) (List.mem_of_getElem? (i := 5) rfl) (List.mem_of_getElem? (i := 6) rfl) (List.mem_of_getElem? (i := 7) rfl) (by omega) (by decide) (Nat.le_of_ble_eq_true rfl) (by decide) (by decide) dX2_readToken_56 ?_
  refine xr_put (ws' := [(g 0, ob 2 [.ref (g 1), .ref (g 2), iv L, iv S, iv (min (S + 1) L), iv p]), (g 1, ia T.2.2.2.1 100 tx), (g 2, ia T.2.1 3 nm)]) (C := RX2) (TT0 := TX2) (N := 6) hM 2 0 4 (fun _ h => List.mem_cons_of_mem _ (List.mem_append_right _ h)) tyX2 tyX2_ok nmX2 rfl rfl (by decide) (List.mem_of_getElem? (i := 1) rfl) rfl rfl rfl (Nat.le_of_ble_eq_true rfl) rfl dX2_readToken_59 ?_
  refine xr_aload_n hM 0 dX2_readToken_62 rfl rfl ?_
  refine xr_aload_n hM 0 dX2_readToken_63 rfl rfl ?_
  refine xr_get (C := RX2) (TT0 := TX2) (N := 6) hM 2 0 3 (fun _ h => List.mem_cons_of_mem _ (List.mem_append_right _ h)) rfl rfl (by decide) (List.mem_of_getElem? (i := 2) rfl) rfl rfl dX2_readToken_64 ?_
  refine xr_callVr (rest := []) (As := [iv S]) (st' := [iv (sgF tx L S)]) hM (ct_X2_signAt M.2.1 T g tx nm L S (min (S + 1) L) p S (ht) (by omega)) gX2_readToken_X2_signAt rfl ⟨rfl, rfl⟩ hy_X2_signAt rfl ⟨by decide, by decide⟩ [0, 1, 2] rfl rfl 0 2 rfl rfl rfl rfl rfl (Nat.le_of_ble_eq_true rfl) ⟨by decide, by decide⟩ dX2_readToken_67 ?_
  have hf67 := sgF_b (ht) S
  refine xr_callSr (rest := []) (As := [iv (sgF tx L S)]) (st' := [iv (bi (97 ≤ (sgF tx L S) ∧ (sgF tx L S) ≤ 122))]) hM (ct_X2_isLetter M.2.1 T (sgF tx L S) (by omega)) gX2_readToken_X2_isLetter rfl ⟨rfl, rfl⟩ hy_X2_isLetter rfl ⟨by decide, by decide⟩ [] rfl rfl rfl rfl (Nat.le_of_ble_eq_true rfl) ⟨by decide, by decide⟩ dX2_readToken_70 ?_
  refine xr_ifb_eq hM 114 dX2_readToken_73 (by decide) (fun c73 => ?_) (fun c73 => ?_)
  · refine xr_aload_n hM 0 dX2_readToken_114 rfl rfl ?_
    refine xr_aload_n hM 0 dX2_readToken_115 rfl rfl ?_
    refine xr_get (C := RX2) (TT0 := TX2) (N := 6) hM 2 0 3 (fun _ h => List.mem_cons_of_mem _ (List.mem_append_right _ h)) rfl rfl (by decide) (List.mem_of_getElem? (i := 2) rfl) rfl rfl dX2_readToken_116 ?_
    refine xr_callVr (rest := []) (As := [iv S]) (st' := [iv (sgF tx L S)]) hM (ct_X2_signAt M.2.1 T g tx nm L S (min (S + 1) L) p S (ht) (by omega)) gX2_readToken_X2_signAt rfl ⟨rfl, rfl⟩ hy_X2_signAt rfl ⟨by decide, by decide⟩ [0, 1, 2] rfl rfl 0 2 rfl rfl rfl rfl rfl (Nat.le_of_ble_eq_true rfl) ⟨by decide, by decide⟩ dX2_readToken_119 ?_
    have hf119 := sgF_b (ht) S
    refine xr_callSr (rest := []) (As := [iv (sgF tx L S)]) (st' := [iv (bi (48 ≤ (sgF tx L S) ∧ (sgF tx L S) ≤ 57))]) hM (ct_X2_isDigit M.2.1 T (sgF tx L S) (by omega)) gX2_readToken_X2_isDigit rfl ⟨rfl, rfl⟩ hy_X2_isDigit rfl ⟨by decide, by decide⟩ [] rfl rfl rfl rfl (Nat.le_of_ble_eq_true rfl) ⟨by decide, by decide⟩ dX2_readToken_122 ?_
    refine xr_ifb_eq hM 166 dX2_readToken_125 (by decide) (fun c125 => ?_) (fun c125 => ?_)
    · exact xr_vret hF dX2_readToken_166 (by rw [teF, if_neg c73, if_neg c125] <;> rfl)
    · exact lp_readToken_128 g tx nm L S e p _ ht hM (by rw [teF, if_neg c73, if_pos c125] at hF; exact hF) _ _ (by omega) (Nat.le_refl _) rfl
  · exact lp_readToken_76 g tx nm L S e p _ ht hM (by rw [teF, if_pos c73] at hF; exact hF) _ _ (by omega) (Nat.le_refl _) rfl

theorem ct_X2_readToken (l : Launch) (T : TT) (g : Nat → Nat) (tx nm : Nat → Int) (L s e p : Int) (ht : TXI tx L) (he : 0 ≤ e ∧ e ≤ L) : CT l yX2_readToken wsX2_readToken rm_X2_readToken T [.ref (g 0)] (prgE T g tx nm L s e p) none (prgE T g tx nm L (skF tx L e) (teF tx L (skF tx L e)) p) := by
  refine CT.V (maxL := 1) (lv0 := [(0, .ref (g 0))]) hp_X2_readToken rfl (Nat.le_of_ble_eq_true rfl) rfl (fun M hM hF => ?_)
  refine xr_aload_n hM 0 dX2_readToken_0 rfl rfl ?_
  refine xr_aload_n hM 0 dX2_readToken_1 rfl rfl ?_
  refine xr_get (C := RX2) (TT0 := TX2) (N := 6) hM 2 0 4 (fun _ h => List.mem_cons_of_mem _ (List.mem_append_right _ h)) rfl rfl (by decide) (List.mem_of_getElem? (i := 1) rfl) rfl rfl dX2_readToken_2 ?_
  refine xr_put (ws' := [(g 0, ob 2 [.ref (g 1), .ref (g 2), iv L, iv e, iv e, iv p]), (g 1, ia T.2.2.2.1 100 tx), (g 2, ia T.2.1 3 nm)]) (C := RX2) (TT0 := TX2) (N := 6) hM 2 0 3 (fun _ h => List.mem_cons_of_mem _ (List.mem_append_right _ h)) tyX2 tyX2_ok nmX2 rfl rfl (by decide) (List.mem_of_getElem? (i := 2) rfl) rfl rfl rfl (Nat.le_of_ble_eq_true rfl) rfl dX2_readToken_5 ?_
  exact lp_readToken_8 g tx nm L e e p (skF tx L e) ht hM (ct_readToken_45 g tx nm L (skF tx L e) e p ht (by have := skF_b (tx := tx) he.2; omega) hM hF) _ e he (Nat.le_refl _) rfl

theorem lp_X2_numberOfToken {T : TT} {M : MB} (g : Nat → Nat) (tx nm : Nat → Int) (L s e p : Int) (r d : Int) (ht : TXI tx L) (hse : 0 ≤ s ∧ s ≤ e ∧ e ≤ L) (hM : FM T M cX2_numberOfToken RX2 4 wsX2_numberOfToken rm_X2_numberOfToken) (hF : FinI T M cX2_numberOfToken 4 (iv r) (prgE T g tx nm L s e p)) : ∀ (f : Nat) (i acc : Int), (s ≤ i ∧ i + f = e) → nvF tx L f i acc = r → VV T M 4 [(0, .ref (g 0)), (1, iv d), (2, iv acc), (3, iv i)] (prgE T g tx nm L s e p) 0 0 47 [] := by
  intro f
  induction f with
  | zero =>
    intro i acc h1 hR
    have hL := ht.1
    refine xr_iload_n hM 3 dX2_numberOfToken_47 rfl rfl ?_
    refine xr_aload_n hM 0 dX2_numberOfToken_48 rfl rfl ?_
    refine xr_get (C := RX2) (TT0 := TX2) (N := 6) hM 2 0 4 (fun _ h => List.mem_cons_of_mem _ (List.mem_append_right _ h)) rfl rfl (by decide) (List.mem_of_getElem? (i := 1) rfl) rfl rfl dX2_numberOfToken_49 ?_
    refine xr_icmp_ge hM 88 dX2_numberOfToken_52 (by decide) (by omega) (fun c52 => ?_) (fun c52 => by exfalso; omega)
    refine xr_iload_n hM 2 dX2_numberOfToken_88 rfl rfl ?_
    exact xr_iret hF dX2_numberOfToken_89 hR rfl
  | succ f ih =>
    intro i acc h1 hR
    have hL := ht.1
    refine xr_iload_n hM 3 dX2_numberOfToken_47 rfl rfl ?_
    refine xr_aload_n hM 0 dX2_numberOfToken_48 rfl rfl ?_
    refine xr_get (C := RX2) (TT0 := TX2) (N := 6) hM 2 0 4 (fun _ h => List.mem_cons_of_mem _ (List.mem_append_right _ h)) rfl rfl (by decide) (List.mem_of_getElem? (i := 1) rfl) rfl rfl dX2_numberOfToken_49 ?_
    refine xr_icmp_ge hM 88 dX2_numberOfToken_52 (by decide) (by omega) (fun c52 => by exfalso; omega) (fun c52 => ?_)
    refine xr_aload_n hM 0 dX2_numberOfToken_55 rfl rfl ?_
    refine xr_iload_n hM 3 dX2_numberOfToken_56 rfl rfl ?_
    refine xr_callVr (rest := []) (As := [iv i]) (st' := [iv (sgF tx L i)]) hM (ct_X2_signAt M.2.1 T g tx nm L s e p i (ht) (by omega)) gX2_numberOfToken_X2_signAt rfl ⟨rfl, rfl⟩ hy_X2_signAt rfl ⟨by decide, by decide⟩ [0, 1, 2] rfl rfl 0 2 rfl rfl rfl rfl rfl (Nat.le_of_ble_eq_true rfl) ⟨by decide, by decide⟩ dX2_numberOfToken_57 ?_
    have hf57 := sgF_b (ht) i
    refine xr_callSr (rest := []) (As := [iv (sgF tx L i)]) (st' := [iv (bi (48 ≤ (sgF tx L i) ∧ (sgF tx L i) ≤ 57))]) hM (ct_X2_isDigit M.2.1 T (sgF tx L i) (by omega)) gX2_numberOfToken_X2_isDigit rfl ⟨rfl, rfl⟩ hy_X2_isDigit rfl ⟨by decide, by decide⟩ [] rfl rfl rfl rfl (Nat.le_of_ble_eq_true rfl) ⟨by decide, by decide⟩ dX2_numberOfToken_60 ?_
    refine xr_ifb_ne hM 68 dX2_numberOfToken_63 (by decide) (fun c63 => ?_) (fun c63 => ?_)
    · refine xr_bipush hM dX2_numberOfToken_68 (by decide) ?_
      refine xr_iload_n hM 2 dX2_numberOfToken_70 rfl rfl ?_
      refine xr_imul hM dX2_numberOfToken_71 ?_
      refine xr_aload_n hM 0 dX2_numberOfToken_72 rfl rfl ?_
      refine xr_iload_n hM 3 dX2_numberOfToken_73 rfl rfl ?_
      refine xr_callVr (rest := [iv (10 * acc)]) (As := [iv i]) (st' := [iv (sgF tx L i), iv (10 * acc)]) hM (ct_X2_signAt M.2.1 T g tx nm L s e p i (ht) (by omega)) gX2_numberOfToken_X2_signAt rfl ⟨rfl, rfl⟩ hy_X2_signAt rfl ⟨by decide, by decide⟩ [0, 1, 2] rfl rfl 0 2 rfl rfl rfl rfl rfl (Nat.le_of_ble_eq_true rfl) ⟨by decide, by decide⟩ dX2_numberOfToken_74 ?_
      have hf74 := sgF_b (ht) i
      refine xr_iadd hM dX2_numberOfToken_77 ?_
      refine xr_bipush hM dX2_numberOfToken_78 (by decide) ?_
      refine xr_isub hM dX2_numberOfToken_80 ?_
      refine xr_istore_n (lv' := [(0, .ref (g 0)), (1, iv d), (2, iv (((10 * acc) + (sgF tx L i)) - 48)), (3, iv i)]) hM dX2_numberOfToken_81 rfl (by decide) rfl rfl ?_
      refine xr_iinc (lv' := [(0, .ref (g 0)), (1, iv d), (2, iv (((10 * acc) + (sgF tx L i)) - 48)), (3, iv (i + 1))]) hM 3 dX2_numberOfToken_82 rfl (by decide) rfl rfl ?_
      refine xr_goto hM 47 dX2_numberOfToken_85 (by decide) ?_
      exact ih (i + 1) _ (by omega) (by rw [← hR, nvF, if_pos c63])
    · refine xr_iconst hM dX2_numberOfToken_66 ?_
      exact xr_iret hF dX2_numberOfToken_67 (by rw [← hR, nvF, if_neg c63]) rfl

theorem ct_X2_numberOfToken (l : Launch) (T : TT) (g : Nat → Nat) (tx nm : Nat → Int) (L s e p : Int) (ht : TXI tx L) (hse : 0 ≤ s ∧ s ≤ e ∧ e ≤ L) : CT l yX2_numberOfToken wsX2_numberOfToken rm_X2_numberOfToken T [.ref (g 0)] (prgE T g tx nm L s e p) (some (iv (nuF tx L s e))) (prgE T g tx nm L s e p) := by
  refine CT.Z (maxL := 4) (lv0 := [(0, .ref (g 0))]) hp_X2_numberOfToken rfl (Nat.le_of_ble_eq_true rfl) rfl rfl (fun M hM hF => ?_)
  have hL := ht.1
  refine xr_aload_n hM 0 dX2_numberOfToken_0 rfl rfl ?_
  refine xr_get (C := RX2) (TT0 := TX2) (N := 6) hM 2 0 4 (fun _ h => List.mem_cons_of_mem _ (List.mem_append_right _ h)) rfl rfl (by decide) (List.mem_of_getElem? (i := 1) rfl) rfl rfl dX2_numberOfToken_1 ?_
  refine xr_aload_n hM 0 dX2_numberOfToken_4 rfl rfl ?_
  refine xr_get (C := RX2) (TT0 := TX2) (N := 6) hM 2 0 3 (fun _ h => List.mem_cons_of_mem _ (List.mem_append_right _ h)) rfl rfl (by decide) (List.mem_of_getElem? (i := 2) rfl) rfl rfl dX2_numberOfToken_5 ?_
  refine xr_isub hM dX2_numberOfToken_8 ?_
  refine xr_istore_n (lv' := [(0, .ref (g 0)), (1, iv (e - s))]) hM dX2_numberOfToken_9 rfl (by decide) rfl rfl ?_
  refine xr_iload_n hM 1 dX2_numberOfToken_10 rfl rfl ?_
  refine xr_iconst hM dX2_numberOfToken_11 ?_
  refine xr_icmp_lt hM 38 dX2_numberOfToken_12 (by decide) (by omega) (fun c12 => ?_) (fun c12 => ?_)
  · refine xr_iconst hM dX2_numberOfToken_38 ?_
    exact xr_iret hF dX2_numberOfToken_39 (by rw [nuF, if_pos (by omega)]) rfl
  · refine xr_iload_n hM 1 dX2_numberOfToken_15 rfl rfl ?_
    refine xr_iconst hM dX2_numberOfToken_16 ?_
    refine xr_icmp_gt hM 38 dX2_numberOfToken_17 (by decide) (by omega) (fun c17 => ?_) (fun c17 => ?_)
    · refine xr_iconst hM dX2_numberOfToken_38 ?_
      exact xr_iret hF dX2_numberOfToken_39 (by rw [nuF, if_pos (by omega)]) rfl
    · refine xr_iload_n hM 1 dX2_numberOfToken_20 rfl rfl ?_
      refine xr_iconst hM dX2_numberOfToken_21 ?_
      refine xr_icmp_le hM 40 dX2_numberOfToken_22 (by decide) (by omega) (fun c22 => ?_) (fun c22 => ?_)
      · refine xr_iconst hM dX2_numberOfToken_40 ?_
        refine xr_istore_n (lv' := [(0, .ref (g 0)), (1, iv (e - s)), (2, iv 0)]) hM dX2_numberOfToken_41 rfl (by decide) rfl rfl ?_
        refine xr_aload_n hM 0 dX2_numberOfToken_42 rfl rfl ?_
        refine xr_get (C := RX2) (TT0 := TX2) (N := 6) hM 2 0 3 (fun _ h => List.mem_cons_of_mem _ (List.mem_append_right _ h)) rfl rfl (by decide) (List.mem_of_getElem? (i := 2) rfl) rfl rfl dX2_numberOfToken_43 ?_
        refine xr_istore_n (lv' := [(0, .ref (g 0)), (1, iv (e - s)), (2, iv 0), (3, iv s)]) hM dX2_numberOfToken_46 rfl (by decide) rfl rfl ?_
        exact lp_X2_numberOfToken g tx nm L s e p (nuF tx L s e) (e - s) ht hse hM hF (e - s).toNat s 0 (by omega) (by rw [nuF, if_neg (by omega)])
      · refine xr_aload_n hM 0 dX2_numberOfToken_25 rfl rfl ?_
        refine xr_aload_n hM 0 dX2_numberOfToken_26 rfl rfl ?_
        refine xr_get (C := RX2) (TT0 := TX2) (N := 6) hM 2 0 3 (fun _ h => List.mem_cons_of_mem _ (List.mem_append_right _ h)) rfl rfl (by decide) (List.mem_of_getElem? (i := 2) rfl) rfl rfl dX2_numberOfToken_27 ?_
        refine xr_callVr (rest := []) (As := [iv s]) (st' := [iv (sgF tx L s)]) hM (ct_X2_signAt M.2.1 T g tx nm L s e p s (ht) (by omega)) gX2_numberOfToken_X2_signAt rfl ⟨rfl, rfl⟩ hy_X2_signAt rfl ⟨by decide, by decide⟩ [0, 1, 2] rfl rfl 0 2 rfl rfl rfl rfl rfl (Nat.le_of_ble_eq_true rfl) ⟨by decide, by decide⟩ dX2_numberOfToken_30 ?_
        have hf30 := sgF_b (ht) s
        refine xr_bipush hM dX2_numberOfToken_33 (by decide) ?_
        refine xr_icmp_ne hM 40 dX2_numberOfToken_35 (by decide) (by omega) (fun c35 => ?_) (fun c35 => ?_)
        · refine xr_iconst hM dX2_numberOfToken_40 ?_
          refine xr_istore_n (lv' := [(0, .ref (g 0)), (1, iv (e - s)), (2, iv 0)]) hM dX2_numberOfToken_41 rfl (by decide) rfl rfl ?_
          refine xr_aload_n hM 0 dX2_numberOfToken_42 rfl rfl ?_
          refine xr_get (C := RX2) (TT0 := TX2) (N := 6) hM 2 0 3 (fun _ h => List.mem_cons_of_mem _ (List.mem_append_right _ h)) rfl rfl (by decide) (List.mem_of_getElem? (i := 2) rfl) rfl rfl dX2_numberOfToken_43 ?_
          refine xr_istore_n (lv' := [(0, .ref (g 0)), (1, iv (e - s)), (2, iv 0), (3, iv s)]) hM dX2_numberOfToken_46 rfl (by decide) rfl rfl ?_
          exact lp_X2_numberOfToken g tx nm L s e p (nuF tx L s e) (e - s) ht hse hM hF (e - s).toNat s 0 (by omega) (by rw [nuF, if_neg (by omega)])
        · refine xr_iconst hM dX2_numberOfToken_38 ?_
          exact xr_iret hF dX2_numberOfToken_39 (by rw [nuF, if_pos (by omega)]) rfl

theorem ct_X2_wordOf_0 (l : Launch) (T : TT) : CT l yX2_wordOf wsX2_wordOf rm_X2_wordOf T [iv 0] [] (some (.ref (T.2.2.2.2.2.1 0))) [] := by
  refine CT.A (maxL := 1) (lv0 := [(0, iv 0)]) hp_X2_wordOf rfl (Nat.le_of_ble_eq_true rfl) rfl (fun M hM hF => ?_)
  refine xr_iload_n hM 0 dX2_wordOf_0 rfl rfl ?_
  refine xr_tableIn hM 36 dX2_wordOf_1 rfl (by decide) (by decide) rfl (by decide) ?_
  refine xr_ldcS hM 0 (by decide) rfl dX2_wordOf_36 ?_
  exact xr_aret hF dX2_wordOf_38 rfl rfl

theorem ct_X2_wordOf_1 (l : Launch) (T : TT) : CT l yX2_wordOf wsX2_wordOf rm_X2_wordOf T [iv 1] [] (some (.ref (T.2.2.2.2.2.1 1))) [] := by
  refine CT.A (maxL := 1) (lv0 := [(0, iv 1)]) hp_X2_wordOf rfl (Nat.le_of_ble_eq_true rfl) rfl (fun M hM hF => ?_)
  refine xr_iload_n hM 0 dX2_wordOf_0 rfl rfl ?_
  refine xr_tableIn hM 39 dX2_wordOf_1 rfl (by decide) (by decide) rfl (by decide) ?_
  refine xr_ldcS hM 1 (by decide) rfl dX2_wordOf_39 ?_
  exact xr_aret hF dX2_wordOf_41 rfl rfl

theorem ct_X2_wordOf_2 (l : Launch) (T : TT) : CT l yX2_wordOf wsX2_wordOf rm_X2_wordOf T [iv 2] [] (some (.ref (T.2.2.2.2.2.1 2))) [] := by
  refine CT.A (maxL := 1) (lv0 := [(0, iv 2)]) hp_X2_wordOf rfl (Nat.le_of_ble_eq_true rfl) rfl (fun M hM hF => ?_)
  refine xr_iload_n hM 0 dX2_wordOf_0 rfl rfl ?_
  refine xr_tableIn hM 42 dX2_wordOf_1 rfl (by decide) (by decide) rfl (by decide) ?_
  refine xr_ldcS hM 2 (by decide) rfl dX2_wordOf_42 ?_
  exact xr_aret hF dX2_wordOf_44 rfl rfl

theorem ct_X2_wordOf_3 (l : Launch) (T : TT) : CT l yX2_wordOf wsX2_wordOf rm_X2_wordOf T [iv 3] [] (some (.ref (T.2.2.2.2.2.1 3))) [] := by
  refine CT.A (maxL := 1) (lv0 := [(0, iv 3)]) hp_X2_wordOf rfl (Nat.le_of_ble_eq_true rfl) rfl (fun M hM hF => ?_)
  refine xr_iload_n hM 0 dX2_wordOf_0 rfl rfl ?_
  refine xr_tableIn hM 45 dX2_wordOf_1 rfl (by decide) (by decide) rfl (by decide) ?_
  refine xr_ldcS hM 3 (by decide) rfl dX2_wordOf_45 ?_
  exact xr_aret hF dX2_wordOf_47 rfl rfl

theorem ct_X2_wordOf_4 (l : Launch) (T : TT) : CT l yX2_wordOf wsX2_wordOf rm_X2_wordOf T [iv 4] [] (some (.ref (T.2.2.2.2.2.1 4))) [] := by
  refine CT.A (maxL := 1) (lv0 := [(0, iv 4)]) hp_X2_wordOf rfl (Nat.le_of_ble_eq_true rfl) rfl (fun M hM hF => ?_)
  refine xr_iload_n hM 0 dX2_wordOf_0 rfl rfl ?_
  refine xr_tableIn hM 48 dX2_wordOf_1 rfl (by decide) (by decide) rfl (by decide) ?_
  refine xr_ldcS hM 4 (by decide) rfl dX2_wordOf_48 ?_
  exact xr_aret hF dX2_wordOf_50 rfl rfl

theorem ct_X2_wordOf_5 (l : Launch) (T : TT) : CT l yX2_wordOf wsX2_wordOf rm_X2_wordOf T [iv 5] [] (some (.ref (T.2.2.2.2.2.1 5))) [] := by
  refine CT.A (maxL := 1) (lv0 := [(0, iv 5)]) hp_X2_wordOf rfl (Nat.le_of_ble_eq_true rfl) rfl (fun M hM hF => ?_)
  refine xr_iload_n hM 0 dX2_wordOf_0 rfl rfl ?_
  refine xr_tableOut hM 51 dX2_wordOf_1 (by decide) (by decide) (by decide) ?_
  refine xr_ldcS hM 5 (by decide) rfl dX2_wordOf_51 ?_
  exact xr_aret hF dX2_wordOf_53 rfl rfl

theorem lp_X2_tokenIs {T : TT} {M : MB} (g : Nat → Nat) (tx nm : Nat → Int) (L s e p : Int) (i : Nat) (ht : TXI tx L) (hse : 0 ≤ s ∧ s ≤ e ∧ e ≤ L) (hi : i < 6) (hes : e - s = (xlen.getD i 0 : Nat)) (hM : FM T M cX2_tokenIs RX2 3 wsX2_tokenIs rm_X2_tokenIs) (hF : FinI T M cX2_tokenIs 3 (iv (bi (tkP tx L s e i))) (prgE T g tx nm L s e p)) : ∀ (f j : Nat), j + f = xlen.getD i 0 → (∀ q, q < j → sgF tx L (s + (q : Int)) = xw i q) → VV T M 3 [(0, .ref (g 0)), (1, .ref (T.2.2.2.2.2.1 i)), (2, iv (j : Int))] (prgE T g tx nm L s e p) 0 0 20 [] := by
  intro f
  induction f with
  | zero =>
    intro j h1 hq
    have hL := ht.1
    have hxl := xlen_b i hi
    refine xr_iload_n hM 2 dX2_tokenIs_20 rfl rfl ?_
    refine xr_aload_n hM 1 dX2_tokenIs_21 rfl rfl ?_
    refine xr_callT (rest := [iv (j : Int)]) (As := []) (st' := [iv (xlen.getD i 0 : Nat), iv (j : Int)]) hM i hi (ct_J0_length_8abf5 M.2.1 T i hi) gX2_tokenIs_J0_length_8abf5 rfl ⟨rfl, rfl⟩ hy_J0_length_8abf5 rfl ⟨by decide, by decide⟩ rfl rfl (Nat.le_of_ble_eq_true rfl) ⟨by decide, by decide⟩ dX2_tokenIs_22 ?_
    refine xr_icmp_ge hM 54 dX2_tokenIs_25 (by decide) (by omega) (fun c25 => ?_) (fun c25 => by exfalso; omega)
    refine xr_iconst hM dX2_tokenIs_54 ?_
    exact xr_iret hF dX2_tokenIs_55 (bi_t ⟨hes, fun q hq9 => hq q (by omega)⟩).symm rfl
  | succ f ih =>
    intro j h1 hq
    have hL := ht.1
    have hxl := xlen_b i hi
    have hwj := (xw_ok i hi j (by omega)).2
    refine xr_iload_n hM 2 dX2_tokenIs_20 rfl rfl ?_
    refine xr_aload_n hM 1 dX2_tokenIs_21 rfl rfl ?_
    refine xr_callT (rest := [iv (j : Int)]) (As := []) (st' := [iv (xlen.getD i 0 : Nat), iv (j : Int)]) hM i hi (ct_J0_length_8abf5 M.2.1 T i hi) gX2_tokenIs_J0_length_8abf5 rfl ⟨rfl, rfl⟩ hy_J0_length_8abf5 rfl ⟨by decide, by decide⟩ rfl rfl (Nat.le_of_ble_eq_true rfl) ⟨by decide, by decide⟩ dX2_tokenIs_22 ?_
    refine xr_icmp_ge hM 54 dX2_tokenIs_25 (by decide) (by omega) (fun c25 => by exfalso; omega) (fun c25 => ?_)
    refine xr_aload_n hM 1 dX2_tokenIs_28 rfl rfl ?_
    refine xr_iload_n hM 2 dX2_tokenIs_29 rfl rfl ?_
    refine xr_callT (rest := []) (As := [iv (j : Int)]) (st' := [iv (xw i j)]) hM i hi (ct_J0_charAt_5068e M.2.1 T i j hi (by omega) (by omega)) gX2_tokenIs_J0_charAt_5068e rfl ⟨rfl, rfl⟩ hy_J0_charAt_5068e rfl ⟨by decide, by decide⟩ rfl rfl (Nat.le_of_ble_eq_true rfl) ⟨by decide, by decide⟩ dX2_tokenIs_30 ?_
    refine xr_aload_n hM 0 dX2_tokenIs_33 rfl rfl ?_
    refine xr_aload_n hM 0 dX2_tokenIs_34 rfl rfl ?_
    refine xr_get (C := RX2) (TT0 := TX2) (N := 6) hM 2 0 3 (fun _ h => List.mem_cons_of_mem _ (List.mem_append_right _ h)) rfl rfl (by decide) (List.mem_of_getElem? (i := 2) rfl) rfl rfl dX2_tokenIs_35 ?_
    refine xr_iload_n hM 2 dX2_tokenIs_38 rfl rfl ?_
    refine xr_iadd hM dX2_tokenIs_39 ?_
    refine xr_callVr (rest := [iv (xw i j)]) (As := [iv (s + (j : Int))]) (st' := [iv (sgF tx L (s + (j : Int))), iv (xw i j)]) hM (ct_X2_signAt M.2.1 T g tx nm L s e p (s + (j : Int)) (ht) (by omega)) gX2_tokenIs_X2_signAt rfl ⟨rfl, rfl⟩ hy_X2_signAt rfl ⟨by decide, by decide⟩ [0, 1, 2] rfl rfl 0 2 rfl rfl rfl rfl rfl (Nat.le_of_ble_eq_true rfl) ⟨by decide, by decide⟩ dX2_tokenIs_40 ?_
    have hf40 := sgF_b (ht) (s + (j : Int))
    refine xr_icmp_eq hM 48 dX2_tokenIs_43 (by decide) (by omega) (fun c43 => ?_) (fun c43 => ?_)
    · refine xr_iinc (lv' := [(0, .ref (g 0)), (1, .ref (T.2.2.2.2.2.1 i)), (2, iv ((j : Int) + 1))]) hM 2 dX2_tokenIs_48 rfl (by decide) rfl rfl ?_
      refine xr_goto hM 20 dX2_tokenIs_51 (by decide) ?_
      exact ih (j + 1) (by omega) (fun q hqj => (Nat.lt_or_ge q j).elim (fun h9 => hq q h9) (fun h9 => (Nat.le_antisymm h9 (Nat.le_of_lt_succ hqj)) ▸ c43.symm))
    · refine xr_iconst hM dX2_tokenIs_46 ?_
      exact xr_iret hF dX2_tokenIs_47 (bi_f (fun q9 => c43 ((q9.2 j (by omega)).symm))).symm rfl

theorem ct_X2_tokenIs (l : Launch) (T : TT) (g : Nat → Nat) (tx nm : Nat → Int) (L s e p : Int) (i : Nat) (ht : TXI tx L) (hse : 0 ≤ s ∧ s ≤ e ∧ e ≤ L) (hi : i < 6) : CT l yX2_tokenIs wsX2_tokenIs rm_X2_tokenIs T [.ref (g 0), .ref (T.2.2.2.2.2.1 i)] (prgE T g tx nm L s e p) (some (iv (bi (tkP tx L s e i)))) (prgE T g tx nm L s e p) := by
  refine CT.Z (maxL := 3) (lv0 := [(0, .ref (g 0)), (1, .ref (T.2.2.2.2.2.1 i))]) hp_X2_tokenIs rfl (Nat.le_of_ble_eq_true rfl) bi_n rfl (fun M hM hF => ?_)
  have hL := ht.1
  have hxl := xlen_b i hi
  refine xr_aload_n hM 1 dX2_tokenIs_0 rfl rfl ?_
  refine xr_callT (rest := []) (As := []) (st' := [iv (xlen.getD i 0 : Nat)]) hM i hi (ct_J0_length_8abf5 M.2.1 T i hi) gX2_tokenIs_J0_length_8abf5 rfl ⟨rfl, rfl⟩ hy_J0_length_8abf5 rfl ⟨by decide, by decide⟩ rfl rfl (Nat.le_of_ble_eq_true rfl) ⟨by decide, by decide⟩ dX2_tokenIs_1 ?_
  refine xr_aload_n hM 0 dX2_tokenIs_4 rfl rfl ?_
  refine xr_get (C := RX2) (TT0 := TX2) (N := 6) hM 2 0 4 (fun _ h => List.mem_cons_of_mem _ (List.mem_append_right _ h)) rfl rfl (by decide) (List.mem_of_getElem? (i := 1) rfl) rfl rfl dX2_tokenIs_5 ?_
  refine xr_aload_n hM 0 dX2_tokenIs_8 rfl rfl ?_
  refine xr_get (C := RX2) (TT0 := TX2) (N := 6) hM 2 0 3 (fun _ h => List.mem_cons_of_mem _ (List.mem_append_right _ h)) rfl rfl (by decide) (List.mem_of_getElem? (i := 2) rfl) rfl rfl dX2_tokenIs_9 ?_
  refine xr_isub hM dX2_tokenIs_12 ?_
  refine xr_icmp_eq hM 18 dX2_tokenIs_13 (by decide) (by omega) (fun c13 => ?_) (fun c13 => ?_)
  · refine xr_iconst hM dX2_tokenIs_18 ?_
    refine xr_istore_n (lv' := [(0, .ref (g 0)), (1, .ref (T.2.2.2.2.2.1 i)), (2, iv 0)]) hM dX2_tokenIs_19 rfl (by decide) rfl rfl ?_
    exact lp_X2_tokenIs g tx nm L s e p i ht hse hi (by omega) hM hF (xlen.getD i 0) 0 (by omega) (fun q hq => absurd hq (Nat.not_lt_zero q))
  · refine xr_iconst hM dX2_tokenIs_16 ?_
    exact xr_iret hF dX2_tokenIs_17 (bi_f (fun q9 => by have := q9.1; omega)).symm rfl

theorem ct_X2_commandOfToken (l : Launch) (T : TT) (g : Nat → Nat) (tx nm : Nat → Int) (L s e p : Int) (ht : TXI tx L) (hse : 0 ≤ s ∧ s ≤ e ∧ e ≤ L) : CT l yX2_commandOfToken wsX2_commandOfToken rm_X2_commandOfToken T [.ref (g 0)] (prgE T g tx nm L s e p) (some (iv (cmF tx L s e))) (prgE T g tx nm L s e p) := by
  refine CT.Z (maxL := 2) (lv0 := [(0, .ref (g 0))]) hp_X2_commandOfToken rfl (Nat.le_of_ble_eq_true rfl) rfl rfl (fun M hM hF => ?_)
  refine xr_iconst hM dX2_commandOfToken_0 ?_
  refine xr_istore_n (lv' := [(0, .ref (g 0)), (1, iv 0)]) hM dX2_commandOfToken_1 rfl (by decide) rfl rfl ?_
  refine xr_iload_n hM 1 dX2_commandOfToken_2 rfl rfl ?_
  refine xr_bipush hM dX2_commandOfToken_3 (by decide) ?_
  refine xr_icmp_ge hM 27 dX2_commandOfToken_5 (by decide) (by omega) (fun c5 => by exfalso; omega) (fun c5 => ?_)
  refine xr_aload_n hM 0 dX2_commandOfToken_8 rfl rfl ?_
  refine xr_iload_n hM 1 dX2_commandOfToken_9 rfl rfl ?_
  refine xr_callSr (rest := [.ref (g 0)]) (As := [iv 0]) (st' := [.ref (T.2.2.2.2.2.1 0), .ref (g 0)]) hM (ct_X2_wordOf_0 M.2.1 T ) gX2_commandOfToken_X2_wordOf rfl ⟨rfl, rfl⟩ hy_X2_wordOf rfl ⟨by decide, by decide⟩ [] rfl rfl rfl rfl (Nat.le_of_ble_eq_true rfl) ⟨by decide, by decide⟩ dX2_commandOfToken_10 ?_
  refine xr_callVr (rest := []) (As := [.ref (T.2.2.2.2.2.1 0)]) (st' := [iv (bi (tkP tx L s e 0))]) hM (ct_X2_tokenIs M.2.1 T g tx nm L s e p 0 (ht) (by omega) (by decide)) gX2_commandOfToken_X2_tokenIs rfl ⟨rfl, rfl⟩ hy_X2_tokenIs rfl ⟨by decide, by decide⟩ [0, 1, 2] rfl rfl 0 2 rfl rfl rfl rfl rfl (Nat.le_of_ble_eq_true rfl) ⟨by decide, by decide⟩ dX2_commandOfToken_13 ?_
  refine xr_ifb_eq hM 21 dX2_commandOfToken_16 (by decide) (fun c16 => ?_) (fun c16 => ?_)
  · refine xr_iinc (lv' := [(0, .ref (g 0)), (1, iv 1)]) hM 1 dX2_commandOfToken_21 rfl (by decide) rfl rfl ?_
    refine xr_goto hM 2 dX2_commandOfToken_24 (by decide) ?_
    refine xr_iload_n hM 1 dX2_commandOfToken_2 rfl rfl ?_
    refine xr_bipush hM dX2_commandOfToken_3 (by decide) ?_
    refine xr_icmp_ge hM 27 dX2_commandOfToken_5 (by decide) (by omega) (fun c5_1 => by exfalso; omega) (fun c5_1 => ?_)
    refine xr_aload_n hM 0 dX2_commandOfToken_8 rfl rfl ?_
    refine xr_iload_n hM 1 dX2_commandOfToken_9 rfl rfl ?_
    refine xr_callSr (rest := [.ref (g 0)]) (As := [iv 1]) (st' := [.ref (T.2.2.2.2.2.1 1), .ref (g 0)]) hM (ct_X2_wordOf_1 M.2.1 T ) gX2_commandOfToken_X2_wordOf rfl ⟨rfl, rfl⟩ hy_X2_wordOf rfl ⟨by decide, by decide⟩ [] rfl rfl rfl rfl (Nat.le_of_ble_eq_true rfl) ⟨by decide, by decide⟩ dX2_commandOfToken_10 ?_
    refine xr_callVr (rest := []) (As := [.ref (T.2.2.2.2.2.1 1)]) (st' := [iv (bi (tkP tx L s e 1))]) hM (ct_X2_tokenIs M.2.1 T g tx nm L s e p 1 (ht) (by omega) (by decide)) gX2_commandOfToken_X2_tokenIs rfl ⟨rfl, rfl⟩ hy_X2_tokenIs rfl ⟨by decide, by decide⟩ [0, 1, 2] rfl rfl 0 2 rfl rfl rfl rfl rfl (Nat.le_of_ble_eq_true rfl) ⟨by decide, by decide⟩ dX2_commandOfToken_13 ?_
    refine xr_ifb_eq hM 21 dX2_commandOfToken_16 (by decide) (fun c16_1 => ?_) (fun c16_1 => ?_)
    · refine xr_iinc (lv' := [(0, .ref (g 0)), (1, iv 2)]) hM 1 dX2_commandOfToken_21 rfl (by decide) rfl rfl ?_
      refine xr_goto hM 2 dX2_commandOfToken_24 (by decide) ?_
      refine xr_iload_n hM 1 dX2_commandOfToken_2 rfl rfl ?_
      refine xr_bipush hM dX2_commandOfToken_3 (by decide) ?_
      refine xr_icmp_ge hM 27 dX2_commandOfToken_5 (by decide) (by omega) (fun c5_2 => by exfalso; omega) (fun c5_2 => ?_)
      refine xr_aload_n hM 0 dX2_commandOfToken_8 rfl rfl ?_
      refine xr_iload_n hM 1 dX2_commandOfToken_9 rfl rfl ?_
      refine xr_callSr (rest := [.ref (g 0)]) (As := [iv 2]) (st' := [.ref (T.2.2.2.2.2.1 2), .ref (g 0)]) hM (ct_X2_wordOf_2 M.2.1 T ) gX2_commandOfToken_X2_wordOf rfl ⟨rfl, rfl⟩ hy_X2_wordOf rfl ⟨by decide, by decide⟩ [] rfl rfl rfl rfl (Nat.le_of_ble_eq_true rfl) ⟨by decide, by decide⟩ dX2_commandOfToken_10 ?_
      refine xr_callVr (rest := []) (As := [.ref (T.2.2.2.2.2.1 2)]) (st' := [iv (bi (tkP tx L s e 2))]) hM (ct_X2_tokenIs M.2.1 T g tx nm L s e p 2 (ht) (by omega) (by decide)) gX2_commandOfToken_X2_tokenIs rfl ⟨rfl, rfl⟩ hy_X2_tokenIs rfl ⟨by decide, by decide⟩ [0, 1, 2] rfl rfl 0 2 rfl rfl rfl rfl rfl (Nat.le_of_ble_eq_true rfl) ⟨by decide, by decide⟩ dX2_commandOfToken_13 ?_
      refine xr_ifb_eq hM 21 dX2_commandOfToken_16 (by decide) (fun c16_2 => ?_) (fun c16_2 => ?_)
      · refine xr_iinc (lv' := [(0, .ref (g 0)), (1, iv 3)]) hM 1 dX2_commandOfToken_21 rfl (by decide) rfl rfl ?_
        refine xr_goto hM 2 dX2_commandOfToken_24 (by decide) ?_
        refine xr_iload_n hM 1 dX2_commandOfToken_2 rfl rfl ?_
        refine xr_bipush hM dX2_commandOfToken_3 (by decide) ?_
        refine xr_icmp_ge hM 27 dX2_commandOfToken_5 (by decide) (by omega) (fun c5_3 => by exfalso; omega) (fun c5_3 => ?_)
        refine xr_aload_n hM 0 dX2_commandOfToken_8 rfl rfl ?_
        refine xr_iload_n hM 1 dX2_commandOfToken_9 rfl rfl ?_
        refine xr_callSr (rest := [.ref (g 0)]) (As := [iv 3]) (st' := [.ref (T.2.2.2.2.2.1 3), .ref (g 0)]) hM (ct_X2_wordOf_3 M.2.1 T ) gX2_commandOfToken_X2_wordOf rfl ⟨rfl, rfl⟩ hy_X2_wordOf rfl ⟨by decide, by decide⟩ [] rfl rfl rfl rfl (Nat.le_of_ble_eq_true rfl) ⟨by decide, by decide⟩ dX2_commandOfToken_10 ?_
        refine xr_callVr (rest := []) (As := [.ref (T.2.2.2.2.2.1 3)]) (st' := [iv (bi (tkP tx L s e 3))]) hM (ct_X2_tokenIs M.2.1 T g tx nm L s e p 3 (ht) (by omega) (by decide)) gX2_commandOfToken_X2_tokenIs rfl ⟨rfl, rfl⟩ hy_X2_tokenIs rfl ⟨by decide, by decide⟩ [0, 1, 2] rfl rfl 0 2 rfl rfl rfl rfl rfl (Nat.le_of_ble_eq_true rfl) ⟨by decide, by decide⟩ dX2_commandOfToken_13 ?_
        refine xr_ifb_eq hM 21 dX2_commandOfToken_16 (by decide) (fun c16_3 => ?_) (fun c16_3 => ?_)
        · refine xr_iinc (lv' := [(0, .ref (g 0)), (1, iv 4)]) hM 1 dX2_commandOfToken_21 rfl (by decide) rfl rfl ?_
          refine xr_goto hM 2 dX2_commandOfToken_24 (by decide) ?_
          refine xr_iload_n hM 1 dX2_commandOfToken_2 rfl rfl ?_
          refine xr_bipush hM dX2_commandOfToken_3 (by decide) ?_
          refine xr_icmp_ge hM 27 dX2_commandOfToken_5 (by decide) (by omega) (fun c5_4 => by exfalso; omega) (fun c5_4 => ?_)
          refine xr_aload_n hM 0 dX2_commandOfToken_8 rfl rfl ?_
          refine xr_iload_n hM 1 dX2_commandOfToken_9 rfl rfl ?_
          refine xr_callSr (rest := [.ref (g 0)]) (As := [iv 4]) (st' := [.ref (T.2.2.2.2.2.1 4), .ref (g 0)]) hM (ct_X2_wordOf_4 M.2.1 T ) gX2_commandOfToken_X2_wordOf rfl ⟨rfl, rfl⟩ hy_X2_wordOf rfl ⟨by decide, by decide⟩ [] rfl rfl rfl rfl (Nat.le_of_ble_eq_true rfl) ⟨by decide, by decide⟩ dX2_commandOfToken_10 ?_
          refine xr_callVr (rest := []) (As := [.ref (T.2.2.2.2.2.1 4)]) (st' := [iv (bi (tkP tx L s e 4))]) hM (ct_X2_tokenIs M.2.1 T g tx nm L s e p 4 (ht) (by omega) (by decide)) gX2_commandOfToken_X2_tokenIs rfl ⟨rfl, rfl⟩ hy_X2_tokenIs rfl ⟨by decide, by decide⟩ [0, 1, 2] rfl rfl 0 2 rfl rfl rfl rfl rfl (Nat.le_of_ble_eq_true rfl) ⟨by decide, by decide⟩ dX2_commandOfToken_13 ?_
          refine xr_ifb_eq hM 21 dX2_commandOfToken_16 (by decide) (fun c16_4 => ?_) (fun c16_4 => ?_)
          · refine xr_iinc (lv' := [(0, .ref (g 0)), (1, iv 5)]) hM 1 dX2_commandOfToken_21 rfl (by decide) rfl rfl ?_
            refine xr_goto hM 2 dX2_commandOfToken_24 (by decide) ?_
            refine xr_iload_n hM 1 dX2_commandOfToken_2 rfl rfl ?_
            refine xr_bipush hM dX2_commandOfToken_3 (by decide) ?_
            refine xr_icmp_ge hM 27 dX2_commandOfToken_5 (by decide) (by omega) (fun c5_5 => by exfalso; omega) (fun c5_5 => ?_)
            refine xr_aload_n hM 0 dX2_commandOfToken_8 rfl rfl ?_
            refine xr_iload_n hM 1 dX2_commandOfToken_9 rfl rfl ?_
            refine xr_callSr (rest := [.ref (g 0)]) (As := [iv 5]) (st' := [.ref (T.2.2.2.2.2.1 5), .ref (g 0)]) hM (ct_X2_wordOf_5 M.2.1 T ) gX2_commandOfToken_X2_wordOf rfl ⟨rfl, rfl⟩ hy_X2_wordOf rfl ⟨by decide, by decide⟩ [] rfl rfl rfl rfl (Nat.le_of_ble_eq_true rfl) ⟨by decide, by decide⟩ dX2_commandOfToken_10 ?_
            refine xr_callVr (rest := []) (As := [.ref (T.2.2.2.2.2.1 5)]) (st' := [iv (bi (tkP tx L s e 5))]) hM (ct_X2_tokenIs M.2.1 T g tx nm L s e p 5 (ht) (by omega) (by decide)) gX2_commandOfToken_X2_tokenIs rfl ⟨rfl, rfl⟩ hy_X2_tokenIs rfl ⟨by decide, by decide⟩ [0, 1, 2] rfl rfl 0 2 rfl rfl rfl rfl rfl (Nat.le_of_ble_eq_true rfl) ⟨by decide, by decide⟩ dX2_commandOfToken_13 ?_
            refine xr_ifb_eq hM 21 dX2_commandOfToken_16 (by decide) (fun c16_5 => ?_) (fun c16_5 => ?_)
            · refine xr_iinc (lv' := [(0, .ref (g 0)), (1, iv 6)]) hM 1 dX2_commandOfToken_21 rfl (by decide) rfl rfl ?_
              refine xr_goto hM 2 dX2_commandOfToken_24 (by decide) ?_
              refine xr_iload_n hM 1 dX2_commandOfToken_2 rfl rfl ?_
              refine xr_bipush hM dX2_commandOfToken_3 (by decide) ?_
              refine xr_icmp_ge hM 27 dX2_commandOfToken_5 (by decide) (by omega) (fun c5_6 => ?_) (fun c5_6 => by exfalso; omega)
              refine xr_bipush hM dX2_commandOfToken_27 (by decide) ?_
              exact xr_iret hF dX2_commandOfToken_29 (by rw [cmF, if_neg c16, if_neg c16_1, if_neg c16_2, if_neg c16_3, if_neg c16_4, if_neg c16_5]) rfl
            · refine xr_iload_n hM 1 dX2_commandOfToken_19 rfl rfl ?_
              exact xr_iret hF dX2_commandOfToken_20 (by rw [cmF, if_neg c16, if_neg c16_1, if_neg c16_2, if_neg c16_3, if_neg c16_4, if_pos c16_5]) rfl
          · refine xr_iload_n hM 1 dX2_commandOfToken_19 rfl rfl ?_
            exact xr_iret hF dX2_commandOfToken_20 (by rw [cmF, if_neg c16, if_neg c16_1, if_neg c16_2, if_neg c16_3, if_pos c16_4]) rfl
        · refine xr_iload_n hM 1 dX2_commandOfToken_19 rfl rfl ?_
          exact xr_iret hF dX2_commandOfToken_20 (by rw [cmF, if_neg c16, if_neg c16_1, if_neg c16_2, if_pos c16_3]) rfl
      · refine xr_iload_n hM 1 dX2_commandOfToken_19 rfl rfl ?_
        exact xr_iret hF dX2_commandOfToken_20 (by rw [cmF, if_neg c16, if_neg c16_1, if_pos c16_2]) rfl
    · refine xr_iload_n hM 1 dX2_commandOfToken_19 rfl rfl ?_
      exact xr_iret hF dX2_commandOfToken_20 (by rw [cmF, if_neg c16, if_pos c16_1]) rfl
  · refine xr_iload_n hM 1 dX2_commandOfToken_19 rfl rfl ?_
    exact xr_iret hF dX2_commandOfToken_20 (by rw [cmF, if_pos c16]) rfl

theorem lp_readCommand_42 {T : TT} {M : MB} (g : Nat → Nat) (tx : Nat → Int) (L due : Int) (R : RQ) (ht : TXI tx L) (hdue : due = 1 ∨ due = 3) (hM : FM T M cX2_readCommand RX2 4 wsX2_readCommand rm_X2_readCommand) (hK : VV T M 4 [(0, .ref (g 0)), (1, iv R.2.2.2.2.2), (2, iv due), (3, iv R.2.2.2.2.1)] [(g 0, ob 2 [.ref (g 1), .ref (g 2), iv L, iv R.2.1, iv R.2.2.1, iv R.2.2.2.1]), (g 1, ia T.2.2.2.1 100 tx), (g 2, ia T.2.1 3 R.1)] 0 0 91 []) : ∀ (f : Nat) (Q : RQ), ((0 ≤ Q.2.1 ∧ Q.2.1 ≤ Q.2.2.1 ∧ Q.2.2.1 ≤ L) ∧ (0 ≤ Q.2.2.2.2.1 ∧ Q.2.2.2.2.1 ≤ 3) ∧ -2 ≤ Q.2.2.2.2.2 ∧ Q.2.2.2.2.2 ≤ 5) → due - Q.2.2.2.2.1 ≤ f → itL (rcC due) (rcS tx L) f Q = R → VV T M 4 [(0, .ref (g 0)), (1, iv Q.2.2.2.2.2), (2, iv due), (3, iv Q.2.2.2.2.1)] (prgE T g tx Q.1 L Q.2.1 Q.2.2.1 Q.2.2.2.1) 0 0 42 [] := by
  intro f
  induction f with
  | zero =>
    intro Q hI hm hR
    have hL := ht.1
    refine xr_iload_n hM 3 dX2_readCommand_42 rfl rfl ?_
    refine xr_iload_n hM 2 dX2_readCommand_43 rfl rfl ?_
    refine xr_icmp_ge hM 91 dX2_readCommand_44 (by decide) (by omega) (fun c44 => ?_) (fun c44 => by exfalso; omega)
    obtain rfl := itL_f hR (fun q9 => by have q2 := of_decide_eq_true q9; omega)
    exact hK
  | succ f ih =>
    intro Q hI hm hR
    have hL := ht.1
    refine xr_iload_n hM 3 dX2_readCommand_42 rfl rfl ?_
    refine xr_iload_n hM 2 dX2_readCommand_43 rfl rfl ?_
    refine xr_icmp_ge hM 91 dX2_readCommand_44 (by decide) (by omega) (fun c44 => ?_) (fun c44 => ?_)
    · obtain rfl := itL_f hR (fun q9 => by have q2 := of_decide_eq_true q9; omega)
      exact hK
    · refine xr_iload_n hM 1 dX2_readCommand_47 rfl rfl ?_
      refine xr_if_lt hM 91 dX2_readCommand_48 (by decide) (by omega) (fun c48 => ?_) (fun c48 => ?_)
      · obtain rfl := itL_f hR (fun q9 => by have q2 := of_decide_eq_true q9; omega)
        exact hK
      · refine xr_aload_n hM 0 dX2_readCommand_51 rfl rfl ?_
        refine xr_callV (ws' := [(g 0, ob 2 [.ref (g 1), .ref (g 2), iv L, iv (skF tx L Q.2.2.1), iv (teF tx L (skF tx L Q.2.2.1)), iv Q.2.2.2.1]), (g 1, ia T.2.2.2.1 100 tx), (g 2, ia T.2.1 3 Q.1)]) (rest := []) (As := []) (st' := []) hM (ct_X2_readToken M.2.1 T g tx Q.1 L Q.2.1 Q.2.2.1 Q.2.2.2.1 (ht) (by omega)) gX2_readCommand_X2_readToken rfl ⟨rfl, rfl⟩ hy_X2_readToken rfl ⟨by decide, by decide⟩ [0, 1, 2] rfl rfl rfl 0 2 rfl rfl rfl rfl rfl (Nat.le_of_ble_eq_true rfl) ⟨by decide, by decide⟩ rfl dX2_readCommand_52 ?_
        have hf52 := skF_b (tx := tx) (by omega : Q.2.2.1 ≤ L)
        have hf52_1 := teF_b (tx := tx) (skF_b (tx := tx) (by omega : Q.2.2.1 ≤ L)).2
        refine xr_aload_n hM 0 dX2_readCommand_55 rfl rfl ?_
        refine xr_get (C := RX2) (TT0 := TX2) (N := 6) hM 2 0 1 (fun _ h => List.mem_cons_of_mem _ (List.mem_append_right _ h)) rfl rfl (by decide) (List.mem_of_getElem? (i := 4) rfl) rfl rfl dX2_readCommand_56 ?_
        refine xr_iload_n hM 3 dX2_readCommand_59 rfl rfl ?_
        refine xr_aload_n hM 0 dX2_readCommand_60 rfl rfl ?_
        refine xr_callVr (rest := [iv Q.2.2.2.2.1, .ref (g 2)]) (As := []) (st' := [iv (nuF tx L (skF tx L Q.2.2.1) (teF tx L (skF tx L Q.2.2.1))), iv Q.2.2.2.2.1, .ref (g 2)]) hM (ct_X2_numberOfToken M.2.1 T g tx Q.1 L (skF tx L Q.2.2.1) (teF tx L (skF tx L Q.2.2.1)) Q.2.2.2.1 (ht) (by omega)) gX2_readCommand_X2_numberOfToken rfl ⟨rfl, rfl⟩ hy_X2_numberOfToken rfl ⟨by decide, by decide⟩ [0, 1, 2] rfl rfl 0 2 rfl rfl rfl rfl rfl (Nat.le_of_ble_eq_true rfl) ⟨by decide, by decide⟩ dX2_readCommand_61 ?_
        have hf61 := nuF_b tx L (skF tx L Q.2.2.1) (teF tx L (skF tx L Q.2.2.1))
        refine xr_iast (ws' := [(g 0, ob 2 [.ref (g 1), .ref (g 2), iv L, iv (skF tx L Q.2.2.1), iv (teF tx L (skF tx L Q.2.2.1)), iv Q.2.2.2.1]), (g 1, ia T.2.2.2.1 100 tx), (g 2, ia T.2.1 3 (va_up Q.1 Q.2.2.2.2.1.toNat (nuF tx L (skF tx L Q.2.2.1) (teF tx L (skF tx L Q.2.2.1)))))]) hM 2 Q.2.2.2.2.1.toNat rfl rfl (by omega) dX2_readCommand_64 rfl ?_
        refine xr_aload_n hM 0 dX2_readCommand_65 rfl rfl ?_
        refine xr_get (C := RX2) (TT0 := TX2) (N := 6) hM 2 0 1 (fun _ h => List.mem_cons_of_mem _ (List.mem_append_right _ h)) rfl rfl (by decide) (List.mem_of_getElem? (i := 4) rfl) rfl rfl dX2_readCommand_66 ?_
        refine xr_iload_n hM 3 dX2_readCommand_69 rfl rfl ?_
        refine xr_iald hM 2 Q.2.2.2.2.1.toNat rfl rfl (by omega) dX2_readCommand_70 ?_
        have hnb := nuF_b tx L (skF tx L Q.2.2.1) (teF tx L (skF tx L Q.2.2.1))
        have hup : va_up Q.1 Q.2.2.2.2.1.toNat (nuF tx L (skF tx L Q.2.2.1) (teF tx L (skF tx L Q.2.2.1))) Q.2.2.2.2.1.toNat = nuF tx L (skF tx L Q.2.2.1) (teF tx L (skF tx L Q.2.2.1)) := up_at
        refine xr_if_ge hM 85 dX2_readCommand_71 (by decide) (by omega) (fun c71 => ?_) (fun c71 => ?_)
        · refine xr_iinc (lv' := [(0, .ref (g 0)), (1, iv Q.2.2.2.2.2), (2, iv due), (3, iv (Q.2.2.2.2.1 + 1))]) hM 3 dX2_readCommand_85 rfl (by decide) rfl rfl ?_
          refine xr_goto hM 42 dX2_readCommand_88 (by decide) ?_
          have hcd : rcC due Q = true := decide_eq_true (by omega)
          have hst := itL_t hR hcd
          have eS : rcS tx L Q = (va_up Q.1 Q.2.2.2.2.1.toNat (nuF tx L (skF tx L Q.2.2.1) (teF tx L (skF tx L Q.2.2.1))), skF tx L Q.2.2.1, teF tx L (skF tx L Q.2.2.1), Q.2.2.2.1, Q.2.2.2.2.1 + 1, Q.2.2.2.2.2) := by unfold rcS; rw [if_neg (by omega), if_neg (by omega)]
          rw [eS] at hst
          refine ih _ ?_ ?_ hst
          · exact ⟨⟨by dsimp only; omega, by dsimp only; omega, by dsimp only; omega⟩, ⟨by dsimp only; omega, by dsimp only; omega⟩, by dsimp only; omega, by dsimp only; omega⟩
          · dsimp only; omega
        · refine xr_aload_n hM 0 dX2_readCommand_74 rfl rfl ?_
          refine xr_aload_n hM 0 dX2_readCommand_75 rfl rfl ?_
          refine xr_get (C := RX2) (TT0 := TX2) (N := 6) hM 2 0 3 (fun _ h => List.mem_cons_of_mem _ (List.mem_append_right _ h)) rfl rfl (by decide) (List.mem_of_getElem? (i := 1) rfl) rfl rfl dX2_readCommand_76 ?_
          refine xr_put (ws' := [(g 0, ob 2 [.ref (g 1), .ref (g 2), iv L, iv (skF tx L Q.2.2.1), iv (teF tx L (skF tx L Q.2.2.1)), iv (skF tx L Q.2.2.1)]), (g 1, ia T.2.2.2.1 100 tx), (g 2, ia T.2.1 3 (va_up Q.1 Q.2.2.2.2.1.toNat (nuF tx L (skF tx L Q.2.2.1) (teF tx L (skF tx L Q.2.2.1)))))]) (C := RX2) (TT0 := TX2) (N := 6) hM 2 0 5 (fun _ h => List.mem_cons_of_mem _ (List.mem_append_right _ h)) tyX2 tyX2_ok nmX2 rfl rfl (by decide) (List.mem_of_getElem? (i := 3) rfl) rfl rfl rfl (Nat.le_of_ble_eq_true rfl) rfl dX2_readCommand_79 ?_
          refine xr_bipush hM dX2_readCommand_82 (by decide) ?_
          refine xr_istore_n (lv' := [(0, .ref (g 0)), (1, iv (-2)), (2, iv due), (3, iv Q.2.2.2.2.1)]) hM dX2_readCommand_84 rfl (by decide) rfl rfl ?_
          refine xr_iinc (lv' := [(0, .ref (g 0)), (1, iv (-2)), (2, iv due), (3, iv (Q.2.2.2.2.1 + 1))]) hM 3 dX2_readCommand_85 rfl (by decide) rfl rfl ?_
          refine xr_goto hM 42 dX2_readCommand_88 (by decide) ?_
          have hcd : rcC due Q = true := decide_eq_true (by omega)
          have hst := itL_t hR hcd
          have eS : rcS tx L Q = (va_up Q.1 Q.2.2.2.2.1.toNat (nuF tx L (skF tx L Q.2.2.1) (teF tx L (skF tx L Q.2.2.1))), skF tx L Q.2.2.1, teF tx L (skF tx L Q.2.2.1), skF tx L Q.2.2.1, Q.2.2.2.2.1 + 1, -2) := by unfold rcS; rw [if_pos (by omega), if_pos (by omega)]
          rw [eS] at hst
          refine ih _ ?_ ?_ hst
          · exact ⟨⟨by dsimp only; omega, by dsimp only; omega, by dsimp only; omega⟩, ⟨by dsimp only; omega, by dsimp only; omega⟩, by dsimp only; omega, by dsimp only; omega⟩
          · dsimp only; omega

theorem ct_readCommand_91 {T : TT} {M : MB} (g : Nat → Nat) (tx : Nat → Int) (L due : Int) (R : RQ) (ht : TXI tx L) (hI : ((0 ≤ R.2.1 ∧ R.2.1 ≤ R.2.2.1 ∧ R.2.2.1 ≤ L) ∧ (0 ≤ R.2.2.2.2.1 ∧ R.2.2.2.2.1 ≤ 3) ∧ -2 ≤ R.2.2.2.2.2 ∧ R.2.2.2.2.2 ≤ 5)) (hM : FM T M cX2_readCommand RX2 4 wsX2_readCommand rm_X2_readCommand) (hF : FinI T M cX2_readCommand 4 (iv (rcE tx L R).2.2.2.2.2) (prgE T g tx (rcE tx L R).1 L (rcE tx L R).2.1 (rcE tx L R).2.2.1 (rcE tx L R).2.2.2.1)) : VV T M 4 [(0, .ref (g 0)), (1, iv R.2.2.2.2.2), (2, iv due), (3, iv R.2.2.2.2.1)] [(g 0, ob 2 [.ref (g 1), .ref (g 2), iv L, iv R.2.1, iv R.2.2.1, iv R.2.2.2.1]), (g 1, ia T.2.2.2.1 100 tx), (g 2, ia T.2.1 3 R.1)] 0 0 91 [] := by
  have hL := ht.1
  refine xr_iload_n hM 1 dX2_readCommand_91 rfl rfl ?_
  refine xr_if_lt hM 123 dX2_readCommand_92 (by decide) (by omega) (fun c92 => ?_) (fun c92 => ?_)
  · refine xr_iload_n hM 1 dX2_readCommand_123 rfl rfl ?_
    exact xr_iret hF dX2_readCommand_124 (by rw [rcE, if_pos (by omega)] <;> rfl) (by rw [rcE, if_pos (by omega)] <;> rfl)
  · refine xr_aload_n hM 0 dX2_readCommand_95 rfl rfl ?_
    refine xr_callV (ws' := [(g 0, ob 2 [.ref (g 1), .ref (g 2), iv L, iv (skF tx L R.2.2.1), iv (teF tx L (skF tx L R.2.2.1)), iv R.2.2.2.1]), (g 1, ia T.2.2.2.1 100 tx), (g 2, ia T.2.1 3 R.1)]) (rest := []) (As := []) (st' := []) hM (ct_X2_readToken M.2.1 T g tx R.1 L R.2.1 R.2.2.1 R.2.2.2.1 (ht) (by omega)) gX2_readCommand_X2_readToken rfl ⟨rfl, rfl⟩ hy_X2_readToken rfl ⟨by decide, by decide⟩ [0, 1, 2] rfl rfl rfl 0 2 rfl rfl rfl rfl rfl (Nat.le_of_ble_eq_true rfl) ⟨by decide, by decide⟩ rfl dX2_readCommand_96 ?_
    have hf96 := skF_b (tx := tx) (by omega : R.2.2.1 ≤ L)
    have hf96_1 := teF_b (tx := tx) (skF_b (tx := tx) (by omega : R.2.2.1 ≤ L)).2
    refine xr_aload_n hM 0 dX2_readCommand_99 rfl rfl ?_
    refine xr_aload_n hM 0 dX2_readCommand_100 rfl rfl ?_
    refine xr_get (C := RX2) (TT0 := TX2) (N := 6) hM 2 0 3 (fun _ h => List.mem_cons_of_mem _ (List.mem_append_right _ h)) rfl rfl (by decide) (List.mem_of_getElem? (i := 1) rfl) rfl rfl dX2_readCommand_101 ?_
    refine xr_callVr (rest := []) (As := [iv (skF tx L R.2.2.1)]) (st' := [iv (sgF tx L (skF tx L R.2.2.1))]) hM (ct_X2_signAt M.2.1 T g tx R.1 L (skF tx L R.2.2.1) (teF tx L (skF tx L R.2.2.1)) R.2.2.2.1 (skF tx L R.2.2.1) (ht) (by omega)) gX2_readCommand_X2_signAt rfl ⟨rfl, rfl⟩ hy_X2_signAt rfl ⟨by decide, by decide⟩ [0, 1, 2] rfl rfl 0 2 rfl rfl rfl rfl rfl (Nat.le_of_ble_eq_true rfl) ⟨by decide, by decide⟩ dX2_readCommand_104 ?_
    have hf104 := sgF_b (ht) (skF tx L R.2.2.1)
    refine xr_bipush hM dX2_readCommand_107 (by decide) ?_
    refine xr_icmp_eq hM 123 dX2_readCommand_109 (by decide) (by omega) (fun c109 => ?_) (fun c109 => ?_)
    · refine xr_iload_n hM 1 dX2_readCommand_123 rfl rfl ?_
      exact xr_iret hF dX2_readCommand_124 (by rw [rcE, if_neg (by omega), if_pos c109, if_pos c109] <;> rfl) (by rw [rcE, if_neg (by omega), if_pos c109, if_pos c109] <;> rfl)
    · refine xr_aload_n hM 0 dX2_readCommand_112 rfl rfl ?_
      refine xr_aload_n hM 0 dX2_readCommand_113 rfl rfl ?_
      refine xr_get (C := RX2) (TT0 := TX2) (N := 6) hM 2 0 3 (fun _ h => List.mem_cons_of_mem _ (List.mem_append_right _ h)) rfl rfl (by decide) (List.mem_of_getElem? (i := 1) rfl) rfl rfl dX2_readCommand_114 ?_
      refine xr_put (ws' := [(g 0, ob 2 [.ref (g 1), .ref (g 2), iv L, iv (skF tx L R.2.2.1), iv (teF tx L (skF tx L R.2.2.1)), iv (skF tx L R.2.2.1)]), (g 1, ia T.2.2.2.1 100 tx), (g 2, ia T.2.1 3 R.1)]) (C := RX2) (TT0 := TX2) (N := 6) hM 2 0 5 (fun _ h => List.mem_cons_of_mem _ (List.mem_append_right _ h)) tyX2 tyX2_ok nmX2 rfl rfl (by decide) (List.mem_of_getElem? (i := 3) rfl) rfl rfl rfl (Nat.le_of_ble_eq_true rfl) rfl dX2_readCommand_117 ?_
      refine xr_bipush hM dX2_readCommand_120 (by decide) ?_
      refine xr_istore_n (lv' := [(0, .ref (g 0)), (1, iv (-2)), (2, iv due), (3, iv R.2.2.2.2.1)]) hM dX2_readCommand_122 rfl (by decide) rfl rfl ?_
      refine xr_iload_n hM 1 dX2_readCommand_123 rfl rfl ?_
      exact xr_iret hF dX2_readCommand_124 (by rw [rcE, if_neg (by omega), if_neg c109, if_neg c109] <;> rfl) (by rw [rcE, if_neg (by omega), if_neg c109, if_neg c109] <;> rfl)

theorem rcS_I {tx : Nat → Int} {L due : Int} (ht : TXI tx L) (hdue : due = 1 ∨ due = 3) (Q : RQ) (hI : ((0 ≤ Q.2.1 ∧ Q.2.1 ≤ Q.2.2.1 ∧ Q.2.2.1 ≤ L) ∧ (0 ≤ Q.2.2.2.2.1 ∧ Q.2.2.2.2.1 ≤ 3) ∧ -2 ≤ Q.2.2.2.2.2 ∧ Q.2.2.2.2.2 ≤ 5)) (hc : rcC due Q = true) : ((0 ≤ (rcS tx L Q).2.1 ∧ (rcS tx L Q).2.1 ≤ (rcS tx L Q).2.2.1 ∧ (rcS tx L Q).2.2.1 ≤ L) ∧ (0 ≤ (rcS tx L Q).2.2.2.2.1 ∧ (rcS tx L Q).2.2.2.2.1 ≤ 3) ∧ -2 ≤ (rcS tx L Q).2.2.2.2.2 ∧ (rcS tx L Q).2.2.2.2.2 ≤ 5) := by
  have h1 := skF_b (tx := tx) hI.1.2.2
  have h2 := teF_b (tx := tx) h1.2
  have h3 := nuF_b tx L (skF tx L Q.2.2.1) (teF tx L (skF tx L Q.2.2.1))
  have h4 := of_decide_eq_true hc
  unfold rcS
  dsimp only
  refine ⟨by omega, by omega, ?_, ?_⟩ <;> split <;> omega
theorem rcL_I {tx : Nat → Int} {L due : Int} (ht : TXI tx L) (hdue : due = 1 ∨ due = 3) (f : Nat) (Q : RQ) (hI : ((0 ≤ Q.2.1 ∧ Q.2.1 ≤ Q.2.2.1 ∧ Q.2.2.1 ≤ L) ∧ (0 ≤ Q.2.2.2.2.1 ∧ Q.2.2.2.2.1 ≤ 3) ∧ -2 ≤ Q.2.2.2.2.2 ∧ Q.2.2.2.2.2 ≤ 5)) : ((0 ≤ (itL (rcC due) (rcS tx L) f Q).2.1 ∧ (itL (rcC due) (rcS tx L) f Q).2.1 ≤ (itL (rcC due) (rcS tx L) f Q).2.2.1 ∧ (itL (rcC due) (rcS tx L) f Q).2.2.1 ≤ L) ∧ (0 ≤ (itL (rcC due) (rcS tx L) f Q).2.2.2.2.1 ∧ (itL (rcC due) (rcS tx L) f Q).2.2.2.2.1 ≤ 3) ∧ -2 ≤ (itL (rcC due) (rcS tx L) f Q).2.2.2.2.2 ∧ (itL (rcC due) (rcS tx L) f Q).2.2.2.2.2 ≤ 5) :=
  itL_inv (fun Q : RQ => ((0 ≤ Q.2.1 ∧ Q.2.1 ≤ Q.2.2.1 ∧ Q.2.2.1 ≤ L) ∧ (0 ≤ Q.2.2.2.2.1 ∧ Q.2.2.2.2.1 ≤ 3) ∧ -2 ≤ Q.2.2.2.2.2 ∧ Q.2.2.2.2.2 ≤ 5)) (fun Q h hc => rcS_I ht hdue Q h hc) f Q hI

theorem ct_X2_readCommand (l : Launch) (T : TT) (g : Nat → Nat) (tx nm : Nat → Int) (L s e p : Int) (ht : TXI tx L) (he : 0 ≤ e ∧ e ≤ L) : CT l yX2_readCommand wsX2_readCommand rm_X2_readCommand T [.ref (g 0)] (prgE T g tx nm L s e p) (some (iv ((rcF tx nm L e p).2.2.2.2.2))) (prgE T g tx ((rcF tx nm L e p).1) L ((rcF tx nm L e p).2.1) ((rcF tx nm L e p).2.2.1) ((rcF tx nm L e p).2.2.2.1)) := by
  refine CT.Z (maxL := 4) (lv0 := [(0, .ref (g 0))]) hp_X2_readCommand rfl (Nat.le_of_ble_eq_true rfl) rfl rfl (fun M hM hF => ?_)
  have hL := ht.1
  refine xr_aload_n hM 0 dX2_readCommand_0 rfl rfl ?_
  refine xr_callV (ws' := [(g 0, ob 2 [.ref (g 1), .ref (g 2), iv L, iv (skF tx L e), iv (teF tx L (skF tx L e)), iv p]), (g 1, ia T.2.2.2.1 100 tx), (g 2, ia T.2.1 3 nm)]) (rest := []) (As := []) (st' := []) hM (ct_X2_readToken M.2.1 T g tx nm L s e p (ht) (by omega)) gX2_readCommand_X2_readToken rfl ⟨rfl, rfl⟩ hy_X2_readToken rfl ⟨by decide, by decide⟩ [0, 1, 2] rfl rfl rfl 0 2 rfl rfl rfl rfl rfl (Nat.le_of_ble_eq_true rfl) ⟨by decide, by decide⟩ rfl dX2_readCommand_1 ?_
  have hf1 := skF_b (tx := tx) (by omega : e ≤ L)
  have hf1_1 := teF_b (tx := tx) (skF_b (tx := tx) (by omega : e ≤ L)).2
  refine xr_aload_n hM 0 dX2_readCommand_4 rfl rfl ?_
  refine xr_get (C := RX2) (TT0 := TX2) (N := 6) hM 2 0 3 (fun _ h => List.mem_cons_of_mem _ (List.mem_append_right _ h)) rfl rfl (by decide) (List.mem_of_getElem? (i := 1) rfl) rfl rfl dX2_readCommand_5 ?_
  refine xr_aload_n hM 0 dX2_readCommand_8 rfl rfl ?_
  refine xr_get (C := RX2) (TT0 := TX2) (N := 6) hM 2 0 2 (fun _ h => List.mem_cons_of_mem _ (List.mem_append_right _ h)) rfl rfl (by decide) (List.mem_of_getElem? (i := 2) rfl) rfl rfl dX2_readCommand_9 ?_
  refine xr_icmp_lt hM 17 dX2_readCommand_12 (by decide) (by omega) (fun c12 => ?_) (fun c12 => ?_)
  · refine xr_aload_n hM 0 dX2_readCommand_17 rfl rfl ?_
    refine xr_aload_n hM 0 dX2_readCommand_18 rfl rfl ?_
    refine xr_get (C := RX2) (TT0 := TX2) (N := 6) hM 2 0 3 (fun _ h => List.mem_cons_of_mem _ (List.mem_append_right _ h)) rfl rfl (by decide) (List.mem_of_getElem? (i := 1) rfl) rfl rfl dX2_readCommand_19 ?_
    refine xr_put (ws' := [(g 0, ob 2 [.ref (g 1), .ref (g 2), iv L, iv (skF tx L e), iv (teF tx L (skF tx L e)), iv (skF tx L e)]), (g 1, ia T.2.2.2.1 100 tx), (g 2, ia T.2.1 3 nm)]) (C := RX2) (TT0 := TX2) (N := 6) hM 2 0 5 (fun _ h => List.mem_cons_of_mem _ (List.mem_append_right _ h)) tyX2 tyX2_ok nmX2 rfl rfl (by decide) (List.mem_of_getElem? (i := 3) rfl) rfl rfl rfl (Nat.le_of_ble_eq_true rfl) rfl dX2_readCommand_22 ?_
    refine xr_aload_n hM 0 dX2_readCommand_25 rfl rfl ?_
    refine xr_callVr (rest := []) (As := []) (st' := [iv (cmF tx L (skF tx L e) (teF tx L (skF tx L e)))]) hM (ct_X2_commandOfToken M.2.1 T g tx nm L (skF tx L e) (teF tx L (skF tx L e)) (skF tx L e) (ht) (by omega)) gX2_readCommand_X2_commandOfToken rfl ⟨rfl, rfl⟩ hy_X2_commandOfToken rfl ⟨by decide, by decide⟩ [0, 1, 2] rfl rfl 0 2 rfl rfl rfl rfl rfl (Nat.le_of_ble_eq_true rfl) ⟨by decide, by decide⟩ dX2_readCommand_26 ?_
    have hf26 := cmF_b tx L (skF tx L e) (teF tx L (skF tx L e))
    refine xr_istore_n (lv' := [(0, .ref (g 0)), (1, iv (cmF tx L (skF tx L e) (teF tx L (skF tx L e))))]) hM dX2_readCommand_29 rfl (by decide) rfl rfl ?_
    refine xr_iload_n hM 1 dX2_readCommand_30 rfl rfl ?_
    refine xr_if_ne hM 38 dX2_readCommand_31 (by decide) (by omega) (fun c31 => ?_) (fun c31 => ?_)
    · refine xr_iconst hM dX2_readCommand_38 ?_
      refine xr_istore_n (lv' := [(0, .ref (g 0)), (1, iv (cmF tx L (skF tx L e) (teF tx L (skF tx L e)))), (2, iv 1)]) hM dX2_readCommand_39 rfl (by decide) rfl rfl ?_
      refine xr_iconst hM dX2_readCommand_40 ?_
      refine xr_istore_n (lv' := [(0, .ref (g 0)), (1, iv (cmF tx L (skF tx L e) (teF tx L (skF tx L e)))), (2, iv 1), (3, iv 0)]) hM dX2_readCommand_41 rfl (by decide) rfl rfl ?_
      have hS := skF_b (tx := tx) he.2
      have hT := teF_b (tx := tx) hS.2
      have hcb := cmF_b tx L (skF tx L e) (teF tx L (skF tx L e))
      have eF : rcF tx nm L e p = rcE tx L (itL (rcC 1) (rcS tx L) 3 (rc0 tx nm L e)) := by rw [rcF, if_neg (by omega), if_neg (by omega)]
      rw [eF] at hF
      have h0 : ((0 ≤ (rc0 tx nm L e).2.1 ∧ (rc0 tx nm L e).2.1 ≤ (rc0 tx nm L e).2.2.1 ∧ (rc0 tx nm L e).2.2.1 ≤ L) ∧ (0 ≤ (rc0 tx nm L e).2.2.2.2.1 ∧ (rc0 tx nm L e).2.2.2.2.1 ≤ 3) ∧ -2 ≤ (rc0 tx nm L e).2.2.2.2.2 ∧ (rc0 tx nm L e).2.2.2.2.2 ≤ 5) := by unfold rc0; dsimp only; omega
      exact lp_readCommand_42 g tx L 1 _ ht (by omega) hM (ct_readCommand_91 g tx L 1 _ ht (rcL_I ht (by omega) 3 _ h0) hM hF) 3 (rc0 tx nm L e) h0 (by show (1:Int) - 0 ≤ 3; omega) rfl
    · refine xr_iconst hM dX2_readCommand_34 ?_
      refine xr_goto hM 39 dX2_readCommand_35 (by decide) ?_
      refine xr_istore_n (lv' := [(0, .ref (g 0)), (1, iv (cmF tx L (skF tx L e) (teF tx L (skF tx L e)))), (2, iv 3)]) hM dX2_readCommand_39 rfl (by decide) rfl rfl ?_
      refine xr_iconst hM dX2_readCommand_40 ?_
      refine xr_istore_n (lv' := [(0, .ref (g 0)), (1, iv (cmF tx L (skF tx L e) (teF tx L (skF tx L e)))), (2, iv 3), (3, iv 0)]) hM dX2_readCommand_41 rfl (by decide) rfl rfl ?_
      have hS := skF_b (tx := tx) he.2
      have hT := teF_b (tx := tx) hS.2
      have hcb := cmF_b tx L (skF tx L e) (teF tx L (skF tx L e))
      have eF : rcF tx nm L e p = rcE tx L (itL (rcC 3) (rcS tx L) 3 (rc0 tx nm L e)) := by rw [rcF, if_neg (by omega), if_pos (by omega)]
      rw [eF] at hF
      have h0 : ((0 ≤ (rc0 tx nm L e).2.1 ∧ (rc0 tx nm L e).2.1 ≤ (rc0 tx nm L e).2.2.1 ∧ (rc0 tx nm L e).2.2.1 ≤ L) ∧ (0 ≤ (rc0 tx nm L e).2.2.2.2.1 ∧ (rc0 tx nm L e).2.2.2.2.1 ≤ 3) ∧ -2 ≤ (rc0 tx nm L e).2.2.2.2.2 ∧ (rc0 tx nm L e).2.2.2.2.2 ≤ 5) := by unfold rc0; dsimp only; omega
      exact lp_readCommand_42 g tx L 3 _ ht (by omega) hM (ct_readCommand_91 g tx L 3 _ ht (rcL_I ht (by omega) 3 _ h0) hM hF) 3 (rc0 tx nm L e) h0 (by show (3:Int) - 0 ≤ 3; omega) rfl
  · refine xr_iconst hM dX2_readCommand_15 ?_
    exact xr_iret hF dX2_readCommand_16 (by rw [rcF, if_pos (by omega)]) (by rw [rcF, if_pos (by omega)] <;> rfl)
