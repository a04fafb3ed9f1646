theorem ct_X5_next (l : Launch) (T : TT) (r : Nat → Nat) (sT lE aT fR wR : Int) (te tx : AR) (hte : TE te tx lE) (ht : TXI tx lE) (ha : 0 ≤ aT ∧ aT ≤ lE) : CT l yX5_next wsX5_next rm_X5_next T [.ref (r 0)] ([(r 0, ob 5 [.ref (r 1), .ref (r 2), .ref (r 3), .ref (r 4), iv sT, .ref (r 5), iv lE, .ref (r 6), iv aT, iv fR, iv wR, .ref (r 7)]), (r 5, ia T.2.1 100 te)]) (some (iv (nxF tx lE aT))) ([(r 0, ob 5 [.ref (r 1), .ref (r 2), .ref (r 3), .ref (r 4), iv sT, .ref (r 5), iv lE, .ref (r 6), iv aT, iv fR, iv wR, .ref (r 7)]), (r 5, ia T.2.1 100 te)]) := by
  refine CT.Z (maxL := 1) (lv0 := [(0, .ref (r 0))]) hp_X5_next rfl (Nat.le_of_ble_eq_true rfl) rfl rfl (fun M hM hF => ?_)
  have hL := ht.1
  refine xr_aload_n hM 0 dX5_next_0 rfl rfl ?_
  refine xr_get (C := RX5) (TT0 := TX5) (N := 12) hM 5 0 8 (fun _ h => List.mem_cons_of_mem _ (List.mem_append_right _ h)) rfl rfl (by decide) (List.mem_of_getElem? (i := 1) rfl) rfl rfl dX5_next_1 ?_
  refine xr_aload_n hM 0 dX5_next_4 rfl rfl ?_
  refine xr_get (C := RX5) (TT0 := TX5) (N := 12) hM 5 0 6 (fun _ h => List.mem_cons_of_mem _ (List.mem_append_right _ h)) rfl rfl (by decide) (List.mem_of_getElem? (i := 2) rfl) rfl rfl dX5_next_5 ?_
  refine xr_icmp_ge hM 23 dX5_next_8 (by decide) (by omega) (fun c8 => ?_) (fun c8 => ?_)
  · refine xr_iconst hM dX5_next_23 ?_
    exact xr_iret hF dX5_next_24 (by rw [nxF, if_neg (by omega)]) rfl
  · refine xr_aload_n hM 0 dX5_next_11 rfl rfl ?_
    refine xr_get (C := RX5) (TT0 := TX5) (N := 12) hM 5 0 5 (fun _ h => List.mem_cons_of_mem _ (List.mem_append_right _ h)) rfl rfl (by decide) (List.mem_of_getElem? (i := 3) rfl) rfl rfl dX5_next_12 ?_
    refine xr_aload_n hM 0 dX5_next_15 rfl rfl ?_
    refine xr_get (C := RX5) (TT0 := TX5) (N := 12) hM 5 0 8 (fun _ h => List.mem_cons_of_mem _ (List.mem_append_right _ h)) rfl rfl (by decide) (List.mem_of_getElem? (i := 1) rfl) rfl rfl dX5_next_16 ?_
    refine xr_iald hM 1 aT.toNat rfl rfl (by omega) dX5_next_19 ?_
    refine xr_goto hM 24 dX5_next_20 (by decide) ?_
    exact xr_iret hF dX5_next_24 (by rw [nxF, if_pos (by omega)]; exact hte _ (by omega)) rfl

theorem lp_X5_begins {T : TT} {M : MB} (r : Nat → Nat) (sT lE fR wR : Int) (te tx : AR) (hte : TE te tx lE) (ht : TXI tx lE) (R : Int) (hM : FM T M cX5_begins RX5 1 wsX5_begins rm_X5_begins) (hF : FinV T M cX5_begins 1 ([(r 0, ob 5 [.ref (r 1), .ref (r 2), .ref (r 3), .ref (r 4), iv sT, .ref (r 5), iv lE, .ref (r 6), iv R, iv R, iv wR, .ref (r 7)]), (r 5, ia T.2.1 100 te)])) : ∀ (f : Nat) (q : Int), 0 ≤ q → q ≤ lE → (lE - q).toNat ≤ f → itL (spC tx lE) incI f q = R → VV T M 1 [(0, .ref (r 0))] [(r 0, ob 5 [.ref (r 1), .ref (r 2), .ref (r 3), .ref (r 4), iv sT, .ref (r 5), iv lE, .ref (r 6), iv q, iv fR, iv wR, .ref (r 7)]), (r 5, ia T.2.1 100 te)] 0 0 0 [] := by
  intro f
  induction f with
  | zero =>
    intro q h0 h1 hm hR
    have hL := ht.1
    have hz : nxF tx lE q = -1 := if_neg (by omega)
    refine xr_aload_n hM 0 dX5_begins_0 rfl rfl ?_
    refine xr_callV (ws' := [(r 0, ob 5 [.ref (r 1), .ref (r 2), .ref (r 3), .ref (r 4), iv sT, .ref (r 5), iv lE, .ref (r 6), iv q, iv fR, iv wR, .ref (r 7)]), (r 5, ia T.2.1 100 te)]) (rest := []) (As := []) (st' := [iv (nxF tx lE q)]) hM (ct_X5_next M.2.1 T r sT lE q fR wR te tx (hte) (ht) (by omega)) gX5_begins_X5_next rfl ⟨rfl, rfl⟩ hy_X5_next rfl ⟨by decide, by decide⟩ [0, 1] rfl rfl rfl 0 5 rfl rfl rfl rfl rfl (Nat.le_of_ble_eq_true rfl) ⟨by decide, by decide⟩ rfl dX5_begins_1 ?_
    have hf1 := nxF_b (ht) q
    refine xr_bipush hM dX5_begins_4 (by decide) ?_
    refine xr_icmp_ne hM 22 dX5_begins_6 (by decide) (by omega) (fun c6 => ?_) (fun c6 => by exfalso; omega)
    refine xr_aload_n hM 0 dX5_begins_22 rfl rfl ?_
    refine xr_aload_n hM 0 dX5_begins_23 rfl rfl ?_
    refine xr_get (C := RX5) (TT0 := TX5) (N := 12) hM 5 0 8 (fun _ h => List.mem_cons_of_mem _ (List.mem_append_right _ h)) rfl rfl (by decide) (List.mem_of_getElem? (i := 1) rfl) rfl rfl dX5_begins_24 ?_
    refine xr_put (ws' := [(r 0, ob 5 [.ref (r 1), .ref (r 2), .ref (r 3), .ref (r 4), iv sT, .ref (r 5), iv lE, .ref (r 6), iv q, iv q, iv wR, .ref (r 7)]), (r 5, ia T.2.1 100 te)]) (C := RX5) (TT0 := TX5) (N := 12) hM 5 0 9 (fun _ h => List.mem_cons_of_mem _ (List.mem_append_right _ h)) tyX5 tyX5_ok nmX5 rfl rfl (by decide) (List.mem_of_getElem? (i := 2) rfl) rfl rfl rfl (Nat.le_of_ble_eq_true rfl) rfl dX5_begins_27 ?_
    obtain rfl := itL_f hR (fun q9 => by have q2 := (nxF_sp (by omega)).mp q9; omega)
    exact xr_vret hF dX5_begins_30 rfl
  | succ f ih =>
    intro q h0 h1 hm hR
    have hL := ht.1
    refine xr_aload_n hM 0 dX5_begins_0 rfl rfl ?_
    refine xr_callV (ws' := [(r 0, ob 5 [.ref (r 1), .ref (r 2), .ref (r 3), .ref (r 4), iv sT, .ref (r 5), iv lE, .ref (r 6), iv q, iv fR, iv wR, .ref (r 7)]), (r 5, ia T.2.1 100 te)]) (rest := []) (As := []) (st' := [iv (nxF tx lE q)]) hM (ct_X5_next M.2.1 T r sT lE q fR wR te tx (hte) (ht) (by omega)) gX5_begins_X5_next rfl ⟨rfl, rfl⟩ hy_X5_next rfl ⟨by decide, by decide⟩ [0, 1] rfl rfl rfl 0 5 rfl rfl rfl rfl rfl (Nat.le_of_ble_eq_true rfl) ⟨by decide, by decide⟩ rfl dX5_begins_1 ?_
    have hf1 := nxF_b (ht) q
    refine xr_bipush hM dX5_begins_4 (by decide) ?_
    refine xr_icmp_ne hM 22 dX5_begins_6 (by decide) (by omega) (fun c6 => ?_) (fun c6 => ?_)
    · refine xr_aload_n hM 0 dX5_begins_22 rfl rfl ?_
      refine xr_aload_n hM 0 dX5_begins_23 rfl rfl ?_
      refine xr_get (C := RX5) (TT0 := TX5) (N := 12) hM 5 0 8 (fun _ h => List.mem_cons_of_mem _ (List.mem_append_right _ h)) rfl rfl (by decide) (List.mem_of_getElem? (i := 1) rfl) rfl rfl dX5_begins_24 ?_
      refine xr_put (ws' := [(r 0, ob 5 [.ref (r 1), .ref (r 2), .ref (r 3), .ref (r 4), iv sT, .ref (r 5), iv lE, .ref (r 6), iv q, iv q, iv wR, .ref (r 7)]), (r 5, ia T.2.1 100 te)]) (C := RX5) (TT0 := TX5) (N := 12) hM 5 0 9 (fun _ h => List.mem_cons_of_mem _ (List.mem_append_right _ h)) tyX5 tyX5_ok nmX5 rfl rfl (by decide) (List.mem_of_getElem? (i := 2) rfl) rfl rfl rfl (Nat.le_of_ble_eq_true rfl) rfl dX5_begins_27 ?_
      obtain rfl := itL_f hR (fun q9 => by have q2 := (nxF_sp (by omega)).mp q9; omega)
      exact xr_vret hF dX5_begins_30 rfl
    · refine xr_aload_n hM 0 dX5_begins_9 rfl rfl ?_
      refine xr_dup hM dX5_begins_10 rfl ?_
      refine xr_get (C := RX5) (TT0 := TX5) (N := 12) hM 5 0 8 (fun _ h => List.mem_cons_of_mem _ (List.mem_append_right _ h)) rfl rfl (by decide) (List.mem_of_getElem? (i := 1) rfl) rfl rfl dX5_begins_11 ?_
      refine xr_iconst hM dX5_begins_14 ?_
      refine xr_iadd hM dX5_begins_15 ?_
      refine xr_put (ws' := [(r 0, ob 5 [.ref (r 1), .ref (r 2), .ref (r 3), .ref (r 4), iv sT, .ref (r 5), iv lE, .ref (r 6), iv (q + 1), iv fR, iv wR, .ref (r 7)]), (r 5, ia T.2.1 100 te)]) (C := RX5) (TT0 := TX5) (N := 12) hM 5 0 8 (fun _ h => List.mem_cons_of_mem _ (List.mem_append_right _ h)) tyX5 tyX5_ok nmX5 rfl rfl (by decide) (List.mem_of_getElem? (i := 1) rfl) rfl rfl rfl (Nat.le_of_ble_eq_true rfl) rfl dX5_begins_16 ?_
      refine xr_goto hM 0 dX5_begins_19 (by decide) ?_
      have hcd : spC tx lE q = true := (nxF_sp h0).mpr (by omega)
      have hq2 := (of_decide_eq_true hcd).1
      exact ih (q + 1) (by omega) (by omega) (by omega) (itL_t hR hcd)

theorem ct_X5_begins (l : Launch) (T : TT) (r : Nat → Nat) (sT lE aT fR wR : Int) (te tx : AR) (hte : TE te tx lE) (ht : TXI tx lE) (ha : 0 ≤ aT ∧ aT ≤ lE) : CT l yX5_begins wsX5_begins rm_X5_begins T [.ref (r 0)] ([(r 0, ob 5 [.ref (r 1), .ref (r 2), .ref (r 3), .ref (r 4), iv sT, .ref (r 5), iv lE, .ref (r 6), iv aT, iv fR, iv wR, .ref (r 7)]), (r 5, ia T.2.1 100 te)]) none ([(r 0, ob 5 [.ref (r 1), .ref (r 2), .ref (r 3), .ref (r 4), iv sT, .ref (r 5), iv lE, .ref (r 6), iv (skF tx lE aT), iv (skF tx lE aT), iv wR, .ref (r 7)]), (r 5, ia T.2.1 100 te)]) := by
  refine CT.V (maxL := 1) (lv0 := [(0, .ref (r 0))]) hp_X5_begins rfl (Nat.le_of_ble_eq_true rfl) rfl (fun M hM hF => ?_)
  exact lp_X5_begins r sT lE fR wR te tx hte ht _ hM hF (lE - aT).toNat aT ha.1 ha.2 (Nat.le_refl _) rfl

theorem lp_X5_word {T : TT} {M : MB} (r : Nat → Nat) (sT lE wR : Int) (te tx : AR) (s : Int) (hte : TE te tx lE) (ht : TXI tx lE) (hs : 0 ≤ s ∧ s ≤ lE) (R : Int) (hM : FM T M cX5_word RX5 2 wsX5_word rm_X5_word) (hF : FinI T M cX5_word 2 (iv (if R - s < 6 then wvF tx lE s (R - s).toNat else 0)) ([(r 0, ob 5 [.ref (r 1), .ref (r 2), .ref (r 3), .ref (r 4), iv sT, .ref (r 5), iv lE, .ref (r 6), iv R, iv s, iv wR, .ref (r 7)]), (r 5, ia T.2.1 100 te)])) : ∀ (f k : Nat), s + (k : Int) ≤ lE → (lE - (s + (k : Int))).toNat ≤ f → (∀ j : Nat, j < k → 97 ≤ nxF tx lE (s + j) ∧ nxF tx lE (s + j) ≤ 122) → itL (lrC tx lE) incI f (s + (k : Int)) = R → VV T M 2 [(0, .ref (r 0)), (1, iv (wvF tx lE s k))] [(r 0, ob 5 [.ref (r 1), .ref (r 2), .ref (r 3), .ref (r 4), iv sT, .ref (r 5), iv lE, .ref (r 6), iv (s + (k : Int)), iv s, iv wR, .ref (r 7)]), (r 5, ia T.2.1 100 te)] 0 0 6 [] := by
  intro f
  induction f with
  | zero =>
    intro k h0 hm hl hR
    have hL := ht.1
    have hwv := wvF_b (tx := tx) (L := lE) (s := s) k hl
    have hz : nxF tx lE (s + k) = -1 := if_neg (by omega)
    refine xr_aload_n hM 0 dX5_word_6 rfl rfl ?_
    refine xr_callV (ws' := [(r 0, ob 5 [.ref (r 1), .ref (r 2), .ref (r 3), .ref (r 4), iv sT, .ref (r 5), iv lE, .ref (r 6), iv (s + (k : Int)), iv s, iv wR, .ref (r 7)]), (r 5, ia T.2.1 100 te)]) (rest := []) (As := []) (st' := [iv (nxF tx lE (s + (k : Int)))]) hM (ct_X5_next M.2.1 T r sT lE (s + (k : Int)) s wR te tx (hte) (ht) (by omega)) gX5_word_X5_next rfl ⟨rfl, rfl⟩ hy_X5_next rfl ⟨by decide, by decide⟩ [0, 1] rfl rfl rfl 0 5 rfl rfl rfl rfl rfl (Nat.le_of_ble_eq_true rfl) ⟨by decide, by decide⟩ rfl dX5_word_7 ?_
    have hf7 := nxF_b (ht) (s + (k : Int))
    refine xr_bipush hM dX5_word_10 (by decide) ?_
    refine xr_bipush hM dX5_word_12 (by decide) ?_
    refine xr_callSr (rest := []) (As := [iv (nxF tx lE (s + (k : Int))), iv 97, iv 122]) (st' := [iv (bi (97 ≤ (nxF tx lE (s + (k : Int))) ∧ (nxF tx lE (s + (k : Int))) ≤ 122))]) hM (ct_X5_in M.2.1 T (nxF tx lE (s + (k : Int))) 97 122 (by omega)) gX5_word_X5_in rfl ⟨rfl, rfl⟩ hy_X5_in rfl ⟨by decide, by decide⟩ [] rfl rfl rfl rfl (Nat.le_of_ble_eq_true rfl) ⟨by decide, by decide⟩ dX5_word_14 ?_
    refine xr_ifb_eq hM 63 dX5_word_17 (by decide) (fun c17 => ?_) (fun c17 => by exfalso; omega)
    refine xr_aload_n hM 0 dX5_word_63 rfl rfl ?_
    refine xr_get (C := RX5) (TT0 := TX5) (N := 12) hM 5 0 8 (fun _ h => List.mem_cons_of_mem _ (List.mem_append_right _ h)) rfl rfl (by decide) (List.mem_of_getElem? (i := 1) rfl) rfl rfl dX5_word_64 ?_
    refine xr_aload_n hM 0 dX5_word_67 rfl rfl ?_
    refine xr_get (C := RX5) (TT0 := TX5) (N := 12) hM 5 0 9 (fun _ h => List.mem_cons_of_mem _ (List.mem_append_right _ h)) rfl rfl (by decide) (List.mem_of_getElem? (i := 2) rfl) rfl rfl dX5_word_68 ?_
    refine xr_isub hM dX5_word_71 ?_
    refine xr_bipush hM dX5_word_72 (by decide) ?_
    refine xr_icmp_ge hM 81 dX5_word_74 (by decide) (by omega) (fun c74 => ?_) (fun c74 => ?_)
    · refine xr_iconst hM dX5_word_81 ?_
      obtain rfl : s + (k : Int) = R := hR
      exact xr_iret hF dX5_word_82 (by rw [if_neg (by omega)]) rfl
    · refine xr_iload_n hM 1 dX5_word_77 rfl rfl ?_
      refine xr_goto hM 82 dX5_word_78 (by decide) ?_
      obtain rfl : s + (k : Int) = R := hR
      exact xr_iret hF dX5_word_82 (by rw [if_pos (by omega), show (s + (k : Int) - s).toNat = k by omega]) rfl
  | succ f ih =>
    intro k h0 hm hl hR
    have hL := ht.1
    have hwv := wvF_b (tx := tx) (L := lE) (s := s) k hl
    refine xr_aload_n hM 0 dX5_word_6 rfl rfl ?_
    refine xr_callV (ws' := [(r 0, ob 5 [.ref (r 1), .ref (r 2), .ref (r 3), .ref (r 4), iv sT, .ref (r 5), iv lE, .ref (r 6), iv (s + (k : Int)), iv s, iv wR, .ref (r 7)]), (r 5, ia T.2.1 100 te)]) (rest := []) (As := []) (st' := [iv (nxF tx lE (s + (k : Int)))]) hM (ct_X5_next M.2.1 T r sT lE (s + (k : Int)) s wR te tx (hte) (ht) (by omega)) gX5_word_X5_next rfl ⟨rfl, rfl⟩ hy_X5_next rfl ⟨by decide, by decide⟩ [0, 1] rfl rfl rfl 0 5 rfl rfl rfl rfl rfl (Nat.le_of_ble_eq_true rfl) ⟨by decide, by decide⟩ rfl dX5_word_7 ?_
    have hf7 := nxF_b (ht) (s + (k : Int))
    refine xr_bipush hM dX5_word_10 (by decide) ?_
    refine xr_bipush hM dX5_word_12 (by decide) ?_
    refine xr_callSr (rest := []) (As := [iv (nxF tx lE (s + (k : Int))), iv 97, iv 122]) (st' := [iv (bi (97 ≤ (nxF tx lE (s + (k : Int))) ∧ (nxF tx lE (s + (k : Int))) ≤ 122))]) hM (ct_X5_in M.2.1 T (nxF tx lE (s + (k : Int))) 97 122 (by omega)) gX5_word_X5_in rfl ⟨rfl, rfl⟩ hy_X5_in rfl ⟨by decide, by decide⟩ [] rfl rfl rfl rfl (Nat.le_of_ble_eq_true rfl) ⟨by decide, by decide⟩ dX5_word_14 ?_
    refine xr_ifb_eq hM 63 dX5_word_17 (by decide) (fun c17 => ?_) (fun c17 => ?_)
    · refine xr_aload_n hM 0 dX5_word_63 rfl rfl ?_
      refine xr_get (C := RX5) (TT0 := TX5) (N := 12) hM 5 0 8 (fun _ h => List.mem_cons_of_mem _ (List.mem_append_right _ h)) rfl rfl (by decide) (List.mem_of_getElem? (i := 1) rfl) rfl rfl dX5_word_64 ?_
      refine xr_aload_n hM 0 dX5_word_67 rfl rfl ?_
      refine xr_get (C := RX5) (TT0 := TX5) (N := 12) hM 5 0 9 (fun _ h => List.mem_cons_of_mem _ (List.mem_append_right _ h)) rfl rfl (by decide) (List.mem_of_getElem? (i := 2) rfl) rfl rfl dX5_word_68 ?_
      refine xr_isub hM dX5_word_71 ?_
      refine xr_bipush hM dX5_word_72 (by decide) ?_
      refine xr_icmp_ge hM 81 dX5_word_74 (by decide) (by omega) (fun c74 => ?_) (fun c74 => ?_)
      · refine xr_iconst hM dX5_word_81 ?_
        obtain rfl := itL_f hR (fun q9 => by have q2 := (nxF_lr (by omega)).mp q9; omega)
        exact xr_iret hF dX5_word_82 (by rw [if_neg (by omega)]) rfl
      · refine xr_iload_n hM 1 dX5_word_77 rfl rfl ?_
        refine xr_goto hM 82 dX5_word_78 (by decide) ?_
        obtain rfl := itL_f hR (fun q9 => by have q2 := (nxF_lr (by omega)).mp q9; omega)
        exact xr_iret hF dX5_word_82 (by rw [if_pos (by omega), show (s + (k : Int) - s).toNat = k by omega]) rfl
    · refine xr_aload_n hM 0 dX5_word_20 rfl rfl ?_
      refine xr_get (C := RX5) (TT0 := TX5) (N := 12) hM 5 0 8 (fun _ h => List.mem_cons_of_mem _ (List.mem_append_right _ h)) rfl rfl (by decide) (List.mem_of_getElem? (i := 1) rfl) rfl rfl dX5_word_21 ?_
      refine xr_aload_n hM 0 dX5_word_24 rfl rfl ?_
      refine xr_get (C := RX5) (TT0 := TX5) (N := 12) hM 5 0 9 (fun _ h => List.mem_cons_of_mem _ (List.mem_append_right _ h)) rfl rfl (by decide) (List.mem_of_getElem? (i := 2) rfl) rfl rfl dX5_word_25 ?_
      refine xr_isub hM dX5_word_28 ?_
      refine xr_iconst hM dX5_word_29 ?_
      refine xr_icmp_ge hM 48 dX5_word_30 (by decide) (by omega) (fun c30 => ?_) (fun c30 => ?_)
      · refine xr_iconst hM dX5_word_48 ?_
        refine xr_istore_n (lv' := [(0, .ref (r 0)), (1, iv 0)]) hM dX5_word_49 rfl (by decide) rfl rfl ?_
        refine xr_aload_n hM 0 dX5_word_50 rfl rfl ?_
        refine xr_dup hM dX5_word_51 rfl ?_
        refine xr_get (C := RX5) (TT0 := TX5) (N := 12) hM 5 0 8 (fun _ h => List.mem_cons_of_mem _ (List.mem_append_right _ h)) rfl rfl (by decide) (List.mem_of_getElem? (i := 1) rfl) rfl rfl dX5_word_52 ?_
        refine xr_iconst hM dX5_word_55 ?_
        refine xr_iadd hM dX5_word_56 ?_
        refine xr_put (ws' := [(r 0, ob 5 [.ref (r 1), .ref (r 2), .ref (r 3), .ref (r 4), iv sT, .ref (r 5), iv lE, .ref (r 6), iv ((s + (k : Int)) + 1), iv s, iv wR, .ref (r 7)]), (r 5, ia T.2.1 100 te)]) (C := RX5) (TT0 := TX5) (N := 12) hM 5 0 8 (fun _ h => List.mem_cons_of_mem _ (List.mem_append_right _ h)) tyX5 tyX5_ok nmX5 rfl rfl (by decide) (List.mem_of_getElem? (i := 1) rfl) rfl rfl rfl (Nat.le_of_ble_eq_true rfl) rfl dX5_word_57 ?_
        refine xr_goto hM 6 dX5_word_60 (by decide) ?_
        have hlt : 97 ≤ nxF tx lE (s + k) ∧ nxF tx lE (s + k) ≤ 122 := by omega
        have hcd : lrC tx lE (s + k) = true := (nxF_lr (by omega)).mpr hlt
        have hq2 := (of_decide_eq_true hcd).1
        refine xr_re (lv' := [(0, .ref (r 0)), (1, iv (wvF tx lE s (k + 1)))]) (ws' := [(r 0, ob 5 [.ref (r 1), .ref (r 2), .ref (r 3), .ref (r 4), iv sT, .ref (r 5), iv lE, .ref (r 6), iv (s + ((k + 1 : Nat) : Int)), iv s, iv wR, .ref (r 7)]), (r 5, ia T.2.1 100 te)]) (st' := []) (by rw [wvF, if_neg (by omega)] <;> rfl) (by rw [show s + ((k + 1 : Nat) : Int) = s + (k : Int) + 1 by omega]) rfl ?_
        refine ih (k + 1) (by omega) (by omega) (fun j hj => ?_) (by rw [show s + ((k + 1 : Nat) : Int) = incI (s + (k : Int)) by unfold incI; omega]; exact itL_t hR hcd)
        by_cases e9 : j < k
        · exact hl j e9
        · obtain rfl : j = k := by omega
          exact hlt
      · refine xr_bipush hM dX5_word_33 (by decide) ?_
        refine xr_iload_n hM 1 dX5_word_35 rfl rfl ?_
        refine xr_imul hM dX5_word_36 ?_
        refine xr_aload_n hM 0 dX5_word_37 rfl rfl ?_
        refine xr_callV (ws' := [(r 0, ob 5 [.ref (r 1), .ref (r 2), .ref (r 3), .ref (r 4), iv sT, .ref (r 5), iv lE, .ref (r 6), iv (s + (k : Int)), iv s, iv wR, .ref (r 7)]), (r 5, ia T.2.1 100 te)]) (rest := [iv (32 * (wvF tx lE s k))]) (As := []) (st' := [iv (nxF tx lE (s + (k : Int))), iv (32 * (wvF tx lE s k))]) hM (ct_X5_next M.2.1 T r sT lE (s + (k : Int)) s wR te tx (hte) (ht) (by omega)) gX5_word_X5_next rfl ⟨rfl, rfl⟩ hy_X5_next rfl ⟨by decide, by decide⟩ [0, 1] rfl rfl rfl 0 5 rfl rfl rfl rfl rfl (Nat.le_of_ble_eq_true rfl) ⟨by decide, by decide⟩ rfl dX5_word_38 ?_
        have hf38 := nxF_b (ht) (s + (k : Int))
        refine xr_iadd hM dX5_word_41 ?_
        refine xr_bipush hM dX5_word_42 (by decide) ?_
        refine xr_isub hM dX5_word_44 ?_
        refine xr_goto hM 49 dX5_word_45 (by decide) ?_
        refine xr_istore_n (lv' := [(0, .ref (r 0)), (1, iv (((32 * (wvF tx lE s k)) + (nxF tx lE (s + (k : Int)))) - 96))]) hM dX5_word_49 rfl (by decide) rfl rfl ?_
        refine xr_aload_n hM 0 dX5_word_50 rfl rfl ?_
        refine xr_dup hM dX5_word_51 rfl ?_
        refine xr_get (C := RX5) (TT0 := TX5) (N := 12) hM 5 0 8 (fun _ h => List.mem_cons_of_mem _ (List.mem_append_right _ h)) rfl rfl (by decide) (List.mem_of_getElem? (i := 1) rfl) rfl rfl dX5_word_52 ?_
        refine xr_iconst hM dX5_word_55 ?_
        refine xr_iadd hM dX5_word_56 ?_
        refine xr_put (ws' := [(r 0, ob 5 [.ref (r 1), .ref (r 2), .ref (r 3), .ref (r 4), iv sT, .ref (r 5), iv lE, .ref (r 6), iv ((s + (k : Int)) + 1), iv s, iv wR, .ref (r 7)]), (r 5, ia T.2.1 100 te)]) (C := RX5) (TT0 := TX5) (N := 12) hM 5 0 8 (fun _ h => List.mem_cons_of_mem _ (List.mem_append_right _ h)) tyX5 tyX5_ok nmX5 rfl rfl (by decide) (List.mem_of_getElem? (i := 1) rfl) rfl rfl rfl (Nat.le_of_ble_eq_true rfl) rfl dX5_word_57 ?_
        refine xr_goto hM 6 dX5_word_60 (by decide) ?_
        have hlt : 97 ≤ nxF tx lE (s + k) ∧ nxF tx lE (s + k) ≤ 122 := by omega
        have hcd : lrC tx lE (s + k) = true := (nxF_lr (by omega)).mpr hlt
        have hq2 := (of_decide_eq_true hcd).1
        refine xr_re (lv' := [(0, .ref (r 0)), (1, iv (wvF tx lE s (k + 1)))]) (ws' := [(r 0, ob 5 [.ref (r 1), .ref (r 2), .ref (r 3), .ref (r 4), iv sT, .ref (r 5), iv lE, .ref (r 6), iv (s + ((k + 1 : Nat) : Int)), iv s, iv wR, .ref (r 7)]), (r 5, ia T.2.1 100 te)]) (st' := []) (by rw [wvF, if_pos (by omega)] <;> rfl) (by rw [show s + ((k + 1 : Nat) : Int) = s + (k : Int) + 1 by omega]) rfl ?_
        refine ih (k + 1) (by omega) (by omega) (fun j hj => ?_) (by rw [show s + ((k + 1 : Nat) : Int) = incI (s + (k : Int)) by unfold incI; omega]; exact itL_t hR hcd)
        by_cases e9 : j < k
        · exact hl j e9
        · obtain rfl : j = k := by omega
          exact hlt

theorem ct_X5_word (l : Launch) (T : TT) (r : Nat → Nat) (sT lE aT fR wR : Int) (te tx : AR) (hte : TE te tx lE) (ht : TXI tx lE) (ha : 0 ≤ aT ∧ aT ≤ lE) : CT l yX5_word wsX5_word rm_X5_word T [.ref (r 0)] ([(r 0, ob 5 [.ref (r 1), .ref (r 2), .ref (r 3), .ref (r 4), iv sT, .ref (r 5), iv lE, .ref (r 6), iv aT, iv fR, iv wR, .ref (r 7)]), (r 5, ia T.2.1 100 te)]) (some (iv (wdF tx lE (skF tx lE aT)))) ([(r 0, ob 5 [.ref (r 1), .ref (r 2), .ref (r 3), .ref (r 4), iv sT, .ref (r 5), iv lE, .ref (r 6), iv (lrR tx lE (skF tx lE aT)), iv (skF tx lE aT), iv wR, .ref (r 7)]), (r 5, ia T.2.1 100 te)]) := by
  refine CT.Z (maxL := 2) (lv0 := [(0, .ref (r 0))]) hp_X5_word rfl (Nat.le_of_ble_eq_true rfl) rfl rfl (fun M hM hF => ?_)
  have hL := ht.1
  refine xr_aload_n hM 0 dX5_word_0 rfl rfl ?_
  refine xr_callV (ws' := [(r 0, ob 5 [.ref (r 1), .ref (r 2), .ref (r 3), .ref (r 4), iv sT, .ref (r 5), iv lE, .ref (r 6), iv (skF tx lE aT), iv (skF tx lE aT), iv wR, .ref (r 7)]), (r 5, ia T.2.1 100 te)]) (rest := []) (As := []) (st' := []) hM (ct_X5_begins M.2.1 T r sT lE aT fR wR te tx (hte) (ht) (by omega)) gX5_word_X5_begins rfl ⟨rfl, rfl⟩ hy_X5_begins rfl ⟨by decide, by decide⟩ [0, 1] rfl rfl rfl 0 5 rfl rfl rfl rfl rfl (Nat.le_of_ble_eq_true rfl) ⟨by decide, by decide⟩ rfl dX5_word_1 ?_
  have hf1 := skF_b (tx := tx) (L := lE) (e := aT) (by omega)
  refine xr_iconst hM dX5_word_4 ?_
  refine xr_istore_n (lv' := [(0, .ref (r 0)), (1, iv 0)]) hM dX5_word_5 rfl (by decide) rfl rfl ?_
  refine xr_re (lv' := [(0, .ref (r 0)), (1, iv (wvF tx lE (skF tx lE aT) 0))]) (ws' := [(r 0, ob 5 [.ref (r 1), .ref (r 2), .ref (r 3), .ref (r 4), iv sT, .ref (r 5), iv lE, .ref (r 6), iv ((skF tx lE aT) + ((0 : Nat) : Int)), iv (skF tx lE aT), iv wR, .ref (r 7)]), (r 5, ia T.2.1 100 te)]) (st' := []) rfl (by rw [show (skF tx lE aT) + ((0 : Nat) : Int) = skF tx lE aT by omega]) rfl ?_
  exact lp_X5_word r sT lE wR te tx (skF tx lE aT) hte ht (by omega) _ hM hF (lE - skF tx lE aT).toNat 0 (by omega) (by omega) (fun j hj => absurd hj (Nat.not_lt_zero j)) (by rw [show (skF tx lE aT) + ((0 : Nat) : Int) = skF tx lE aT by omega]; rfl)

theorem lp_X5_number {T : TT} {M : MB} (r : Nat → Nat) (sT lE wR : Int) (te tx : AR) (s : Int) (hte : TE te tx lE) (ht : TXI tx lE) (hs : 0 ≤ s ∧ s ≤ lE) (R : Int) (hM : FM T M cX5_number RX5 3 wsX5_number rm_X5_number) (hF : FinI T M cX5_number 3 (iv (dvF tx lE s (R - s).toNat)) ([(r 0, ob 5 [.ref (r 1), .ref (r 2), .ref (r 3), .ref (r 4), iv sT, .ref (r 5), iv lE, .ref (r 6), iv R, iv s, iv (if ¬ (1 ≤ R - s ∧ R - s ≤ 4) ∨ (1 < R - s ∧ nxF tx lE s = 48) then 1 else 0), .ref (r 7)]), (r 5, ia T.2.1 100 te)])) : ∀ (f k : Nat), s + (k : Int) ≤ lE → (lE - (s + (k : Int))).toNat ≤ f → (∀ j : Nat, j < k → 48 ≤ nxF tx lE (s + j) ∧ nxF tx lE (s + j) ≤ 57) → itL (drC tx lE) incI f (s + (k : Int)) = R → VV T M 3 [(0, .ref (r 0)), (1, iv (dvF tx lE s k))] [(r 0, ob 5 [.ref (r 1), .ref (r 2), .ref (r 3), .ref (r 4), iv sT, .ref (r 5), iv lE, .ref (r 6), iv (s + (k : Int)), iv s, iv wR, .ref (r 7)]), (r 5, ia T.2.1 100 te)] 0 0 6 [] := by
  intro f
  induction f with
  | zero =>
    intro k h0 hm hl hR
    have hL := ht.1
    have hwv := dvF_b (tx := tx) (L := lE) (s := s) k hl
    have hz : nxF tx lE (s + k) = -1 := if_neg (by omega)
    refine xr_aload_n hM 0 dX5_number_6 rfl rfl ?_
    refine xr_callV (ws' := [(r 0, ob 5 [.ref (r 1), .ref (r 2), .ref (r 3), .ref (r 4), iv sT, .ref (r 5), iv lE, .ref (r 6), iv (s + (k : Int)), iv s, iv wR, .ref (r 7)]), (r 5, ia T.2.1 100 te)]) (rest := []) (As := []) (st' := [iv (nxF tx lE (s + (k : Int)))]) hM (ct_X5_next M.2.1 T r sT lE (s + (k : Int)) s wR te tx (hte) (ht) (by omega)) gX5_number_X5_next rfl ⟨rfl, rfl⟩ hy_X5_next rfl ⟨by decide, by decide⟩ [0, 1] rfl rfl rfl 0 5 rfl rfl rfl rfl rfl (Nat.le_of_ble_eq_true rfl) ⟨by decide, by decide⟩ rfl dX5_number_7 ?_
    have hf7 := nxF_b (ht) (s + (k : Int))
    refine xr_bipush hM dX5_number_10 (by decide) ?_
    refine xr_bipush hM dX5_number_12 (by decide) ?_
    refine xr_callSr (rest := []) (As := [iv (nxF tx lE (s + (k : Int))), iv 48, iv 57]) (st' := [iv (bi (48 ≤ (nxF tx lE (s + (k : Int))) ∧ (nxF tx lE (s + (k : Int))) ≤ 57))]) hM (ct_X5_in M.2.1 T (nxF tx lE (s + (k : Int))) 48 57 (by omega)) gX5_number_X5_in rfl ⟨rfl, rfl⟩ hy_X5_in rfl ⟨by decide, by decide⟩ [] rfl rfl rfl rfl (Nat.le_of_ble_eq_true rfl) ⟨by decide, by decide⟩ dX5_number_14 ?_
    refine xr_ifb_eq hM 63 dX5_number_17 (by decide) (fun c17 => ?_) (fun c17 => by exfalso; omega)
    refine xr_aload_n hM 0 dX5_number_63 rfl rfl ?_
    refine xr_get (C := RX5) (TT0 := TX5) (N := 12) hM 5 0 8 (fun _ h => List.mem_cons_of_mem _ (List.mem_append_right _ h)) rfl rfl (by decide) (List.mem_of_getElem? (i := 1) rfl) rfl rfl dX5_number_64 ?_
    refine xr_aload_n hM 0 dX5_number_67 rfl rfl ?_
    refine xr_get (C := RX5) (TT0 := TX5) (N := 12) hM 5 0 9 (fun _ h => List.mem_cons_of_mem _ (List.mem_append_right _ h)) rfl rfl (by decide) (List.mem_of_getElem? (i := 2) rfl) rfl rfl dX5_number_68 ?_
    refine xr_isub hM dX5_number_71 ?_
    refine xr_istore_n (lv' := [(0, .ref (r 0)), (1, iv (dvF tx lE s k)), (2, iv ((s + (k : Int)) - s))]) hM dX5_number_72 rfl (by decide) rfl rfl ?_
    refine xr_aload_n hM 0 dX5_number_73 rfl rfl ?_
    refine xr_iload_n hM 2 dX5_number_74 rfl rfl ?_
    refine xr_iconst hM dX5_number_75 ?_
    refine xr_iconst hM dX5_number_76 ?_
    refine xr_callSr (rest := [.ref (r 0)]) (As := [iv ((s + (k : Int)) - s), iv 1, iv 4]) (st' := [iv (bi (1 ≤ ((s + (k : Int)) - s) ∧ ((s + (k : Int)) - s) ≤ 4)), .ref (r 0)]) hM (ct_X5_in M.2.1 T ((s + (k : Int)) - s) 1 4 (by omega)) gX5_number_X5_in rfl ⟨rfl, rfl⟩ hy_X5_in rfl ⟨by decide, by decide⟩ [] rfl rfl rfl rfl (Nat.le_of_ble_eq_true rfl) ⟨by decide, by decide⟩ dX5_number_77 ?_
    refine xr_ifb_eq hM 102 dX5_number_80 (by decide) (fun c80 => ?_) (fun c80 => ?_)
    · refine xr_iconst hM dX5_number_102 ?_
      refine xr_goto hM 107 dX5_number_103 (by decide) ?_
      refine xr_putz (ws' := [(r 0, ob 5 [.ref (r 1), .ref (r 2), .ref (r 3), .ref (r 4), iv sT, .ref (r 5), iv lE, .ref (r 6), iv (s + (k : Int)), iv s, iv 1, .ref (r 7)]), (r 5, ia T.2.1 100 te)]) (C := RX5) (TT0 := TX5) (N := 12) hM 5 0 10 (fun _ h => List.mem_cons_of_mem _ (List.mem_append_right _ h)) tyX5 tyX5_ok nmX5 (by omega) rfl rfl (by decide) (List.mem_of_getElem? (i := 4) rfl) rfl rfl rfl (Nat.le_of_ble_eq_true rfl) rfl dX5_number_107 ?_
      refine xr_iload_n hM 1 dX5_number_110 rfl rfl ?_
      obtain rfl : s + (k : Int) = R := hR
      exact xr_iret hF dX5_number_111 (by rw [show (s + (k : Int) - s).toNat = k by omega]) (by rw [if_pos (by omega)])
    · refine xr_iload_n hM 2 dX5_number_83 rfl rfl ?_
      refine xr_iconst hM dX5_number_84 ?_
      refine xr_icmp_le hM 106 dX5_number_85 (by decide) (by omega) (fun c85 => ?_) (fun c85 => ?_)
      · refine xr_iconst hM dX5_number_106 ?_
        refine xr_putz (ws' := [(r 0, ob 5 [.ref (r 1), .ref (r 2), .ref (r 3), .ref (r 4), iv sT, .ref (r 5), iv lE, .ref (r 6), iv (s + (k : Int)), iv s, iv 0, .ref (r 7)]), (r 5, ia T.2.1 100 te)]) (C := RX5) (TT0 := TX5) (N := 12) hM 5 0 10 (fun _ h => List.mem_cons_of_mem _ (List.mem_append_right _ h)) tyX5 tyX5_ok nmX5 (by omega) rfl rfl (by decide) (List.mem_of_getElem? (i := 4) rfl) rfl rfl rfl (Nat.le_of_ble_eq_true rfl) rfl dX5_number_107 ?_
        refine xr_iload_n hM 1 dX5_number_110 rfl rfl ?_
        obtain rfl : s + (k : Int) = R := hR
        exact xr_iret hF dX5_number_111 (by rw [show (s + (k : Int) - s).toNat = k by omega]) (by rw [if_neg (by omega)])
      · refine xr_aload_n hM 0 dX5_number_88 rfl rfl ?_
        refine xr_get (C := RX5) (TT0 := TX5) (N := 12) hM 5 0 5 (fun _ h => List.mem_cons_of_mem _ (List.mem_append_right _ h)) rfl rfl (by decide) (List.mem_of_getElem? (i := 3) rfl) rfl rfl dX5_number_89 ?_
        refine xr_aload_n hM 0 dX5_number_92 rfl rfl ?_
        refine xr_get (C := RX5) (TT0 := TX5) (N := 12) hM 5 0 9 (fun _ h => List.mem_cons_of_mem _ (List.mem_append_right _ h)) rfl rfl (by decide) (List.mem_of_getElem? (i := 2) rfl) rfl rfl dX5_number_93 ?_
        refine xr_iald hM 1 s.toNat rfl rfl (by omega) dX5_number_96 ?_
        have e9 : te s.toNat = nxF tx lE s := by rw [nxF, if_pos (by omega)]; exact hte _ (by omega)
        have e8 := nxF_b ht s
        refine xr_bipush hM dX5_number_97 (by decide) ?_
        refine xr_icmp_ne hM 106 dX5_number_99 (by decide) (by omega) (fun c99 => ?_) (fun c99 => ?_)
        · refine xr_iconst hM dX5_number_106 ?_
          refine xr_putz (ws' := [(r 0, ob 5 [.ref (r 1), .ref (r 2), .ref (r 3), .ref (r 4), iv sT, .ref (r 5), iv lE, .ref (r 6), iv (s + (k : Int)), iv s, iv 0, .ref (r 7)]), (r 5, ia T.2.1 100 te)]) (C := RX5) (TT0 := TX5) (N := 12) hM 5 0 10 (fun _ h => List.mem_cons_of_mem _ (List.mem_append_right _ h)) tyX5 tyX5_ok nmX5 (by omega) rfl rfl (by decide) (List.mem_of_getElem? (i := 4) rfl) rfl rfl rfl (Nat.le_of_ble_eq_true rfl) rfl dX5_number_107 ?_
          refine xr_iload_n hM 1 dX5_number_110 rfl rfl ?_
          obtain rfl : s + (k : Int) = R := hR
          exact xr_iret hF dX5_number_111 (by rw [show (s + (k : Int) - s).toNat = k by omega]) (by rw [if_neg (by omega)])
        · refine xr_iconst hM dX5_number_102 ?_
          refine xr_goto hM 107 dX5_number_103 (by decide) ?_
          refine xr_putz (ws' := [(r 0, ob 5 [.ref (r 1), .ref (r 2), .ref (r 3), .ref (r 4), iv sT, .ref (r 5), iv lE, .ref (r 6), iv (s + (k : Int)), iv s, iv 1, .ref (r 7)]), (r 5, ia T.2.1 100 te)]) (C := RX5) (TT0 := TX5) (N := 12) hM 5 0 10 (fun _ h => List.mem_cons_of_mem _ (List.mem_append_right _ h)) tyX5 tyX5_ok nmX5 (by omega) rfl rfl (by decide) (List.mem_of_getElem? (i := 4) rfl) rfl rfl rfl (Nat.le_of_ble_eq_true rfl) rfl dX5_number_107 ?_
          refine xr_iload_n hM 1 dX5_number_110 rfl rfl ?_
          obtain rfl : s + (k : Int) = R := hR
          exact xr_iret hF dX5_number_111 (by rw [show (s + (k : Int) - s).toNat = k by omega]) (by rw [if_pos (by omega)])
  | succ f ih =>
    intro k h0 hm hl hR
    have hL := ht.1
    have hwv := dvF_b (tx := tx) (L := lE) (s := s) k hl
    refine xr_aload_n hM 0 dX5_number_6 rfl rfl ?_
    refine xr_callV (ws' := [(r 0, ob 5 [.ref (r 1), .ref (r 2), .ref (r 3), .ref (r 4), iv sT, .ref (r 5), iv lE, .ref (r 6), iv (s + (k : Int)), iv s, iv wR, .ref (r 7)]), (r 5, ia T.2.1 100 te)]) (rest := []) (As := []) (st' := [iv (nxF tx lE (s + (k : Int)))]) hM (ct_X5_next M.2.1 T r sT lE (s + (k : Int)) s wR te tx (hte) (ht) (by omega)) gX5_number_X5_next rfl ⟨rfl, rfl⟩ hy_X5_next rfl ⟨by decide, by decide⟩ [0, 1] rfl rfl rfl 0 5 rfl rfl rfl rfl rfl (Nat.le_of_ble_eq_true rfl) ⟨by decide, by decide⟩ rfl dX5_number_7 ?_
    have hf7 := nxF_b (ht) (s + (k : Int))
    refine xr_bipush hM dX5_number_10 (by decide) ?_
    refine xr_bipush hM dX5_number_12 (by decide) ?_
    refine xr_callSr (rest := []) (As := [iv (nxF tx lE (s + (k : Int))), iv 48, iv 57]) (st' := [iv (bi (48 ≤ (nxF tx lE (s + (k : Int))) ∧ (nxF tx lE (s + (k : Int))) ≤ 57))]) hM (ct_X5_in M.2.1 T (nxF tx lE (s + (k : Int))) 48 57 (by omega)) gX5_number_X5_in rfl ⟨rfl, rfl⟩ hy_X5_in rfl ⟨by decide, by decide⟩ [] rfl rfl rfl rfl (Nat.le_of_ble_eq_true rfl) ⟨by decide, by decide⟩ dX5_number_14 ?_
    refine xr_ifb_eq hM 63 dX5_number_17 (by decide) (fun c17 => ?_) (fun c17 => ?_)
    · refine xr_aload_n hM 0 dX5_number_63 rfl rfl ?_
      refine xr_get (C := RX5) (TT0 := TX5) (N := 12) hM 5 0 8 (fun _ h => List.mem_cons_of_mem _ (List.mem_append_right _ h)) rfl rfl (by decide) (List.mem_of_getElem? (i := 1) rfl) rfl rfl dX5_number_64 ?_
      refine xr_aload_n hM 0 dX5_number_67 rfl rfl ?_
      refine xr_get (C := RX5) (TT0 := TX5) (N := 12) hM 5 0 9 (fun _ h => List.mem_cons_of_mem _ (List.mem_append_right _ h)) rfl rfl (by decide) (List.mem_of_getElem? (i := 2) rfl) rfl rfl dX5_number_68 ?_
      refine xr_isub hM dX5_number_71 ?_
      refine xr_istore_n (lv' := [(0, .ref (r 0)), (1, iv (dvF tx lE s k)), (2, iv ((s + (k : Int)) - s))]) hM dX5_number_72 rfl (by decide) rfl rfl ?_
      refine xr_aload_n hM 0 dX5_number_73 rfl rfl ?_
      refine xr_iload_n hM 2 dX5_number_74 rfl rfl ?_
      refine xr_iconst hM dX5_number_75 ?_
      refine xr_iconst hM dX5_number_76 ?_
      refine xr_callSr (rest := [.ref (r 0)]) (As := [iv ((s + (k : Int)) - s), iv 1, iv 4]) (st' := [iv (bi (1 ≤ ((s + (k : Int)) - s) ∧ ((s + (k : Int)) - s) ≤ 4)), .ref (r 0)]) hM (ct_X5_in M.2.1 T ((s + (k : Int)) - s) 1 4 (by omega)) gX5_number_X5_in rfl ⟨rfl, rfl⟩ hy_X5_in rfl ⟨by decide, by decide⟩ [] rfl rfl rfl rfl (Nat.le_of_ble_eq_true rfl) ⟨by decide, by decide⟩ dX5_number_77 ?_
      refine xr_ifb_eq hM 102 dX5_number_80 (by decide) (fun c80 => ?_) (fun c80 => ?_)
      · refine xr_iconst hM dX5_number_102 ?_
        refine xr_goto hM 107 dX5_number_103 (by decide) ?_
        refine xr_putz (ws' := [(r 0, ob 5 [.ref (r 1), .ref (r 2), .ref (r 3), .ref (r 4), iv sT, .ref (r 5), iv lE, .ref (r 6), iv (s + (k : Int)), iv s, iv 1, .ref (r 7)]), (r 5, ia T.2.1 100 te)]) (C := RX5) (TT0 := TX5) (N := 12) hM 5 0 10 (fun _ h => List.mem_cons_of_mem _ (List.mem_append_right _ h)) tyX5 tyX5_ok nmX5 (by omega) rfl rfl (by decide) (List.mem_of_getElem? (i := 4) rfl) rfl rfl rfl (Nat.le_of_ble_eq_true rfl) rfl dX5_number_107 ?_
        refine xr_iload_n hM 1 dX5_number_110 rfl rfl ?_
        obtain rfl := itL_f hR (fun q9 => by have q2 := (nxF_dr (by omega)).mp q9; omega)
        exact xr_iret hF dX5_number_111 (by rw [show (s + (k : Int) - s).toNat = k by omega]) (by rw [if_pos (by omega)])
      · refine xr_iload_n hM 2 dX5_number_83 rfl rfl ?_
        refine xr_iconst hM dX5_number_84 ?_
        refine xr_icmp_le hM 106 dX5_number_85 (by decide) (by omega) (fun c85 => ?_) (fun c85 => ?_)
        · refine xr_iconst hM dX5_number_106 ?_
          refine xr_putz (ws' := [(r 0, ob 5 [.ref (r 1), .ref (r 2), .ref (r 3), .ref (r 4), iv sT, .ref (r 5), iv lE, .ref (r 6), iv (s + (k : Int)), iv s, iv 0, .ref (r 7)]), (r 5, ia T.2.1 100 te)]) (C := RX5) (TT0 := TX5) (N := 12) hM 5 0 10 (fun _ h => List.mem_cons_of_mem _ (List.mem_append_right _ h)) tyX5 tyX5_ok nmX5 (by omega) rfl rfl (by decide) (List.mem_of_getElem? (i := 4) rfl) rfl rfl rfl (Nat.le_of_ble_eq_true rfl) rfl dX5_number_107 ?_
          refine xr_iload_n hM 1 dX5_number_110 rfl rfl ?_
          obtain rfl := itL_f hR (fun q9 => by have q2 := (nxF_dr (by omega)).mp q9; omega)
          exact xr_iret hF dX5_number_111 (by rw [show (s + (k : Int) - s).toNat = k by omega]) (by rw [if_neg (by omega)])
        · refine xr_aload_n hM 0 dX5_number_88 rfl rfl ?_
          refine xr_get (C := RX5) (TT0 := TX5) (N := 12) hM 5 0 5 (fun _ h => List.mem_cons_of_mem _ (List.mem_append_right _ h)) rfl rfl (by decide) (List.mem_of_getElem? (i := 3) rfl) rfl rfl dX5_number_89 ?_
          refine xr_aload_n hM 0 dX5_number_92 rfl rfl ?_
          refine xr_get (C := RX5) (TT0 := TX5) (N := 12) hM 5 0 9 (fun _ h => List.mem_cons_of_mem _ (List.mem_append_right _ h)) rfl rfl (by decide) (List.mem_of_getElem? (i := 2) rfl) rfl rfl dX5_number_93 ?_
          refine xr_iald hM 1 s.toNat rfl rfl (by omega) dX5_number_96 ?_
          have e9 : te s.toNat = nxF tx lE s := by rw [nxF, if_pos (by omega)]; exact hte _ (by omega)
          have e8 := nxF_b ht s
          refine xr_bipush hM dX5_number_97 (by decide) ?_
          refine xr_icmp_ne hM 106 dX5_number_99 (by decide) (by omega) (fun c99 => ?_) (fun c99 => ?_)
          · refine xr_iconst hM dX5_number_106 ?_
            refine xr_putz (ws' := [(r 0, ob 5 [.ref (r 1), .ref (r 2), .ref (r 3), .ref (r 4), iv sT, .ref (r 5), iv lE, .ref (r 6), iv (s + (k : Int)), iv s, iv 0, .ref (r 7)]), (r 5, ia T.2.1 100 te)]) (C := RX5) (TT0 := TX5) (N := 12) hM 5 0 10 (fun _ h => List.mem_cons_of_mem _ (List.mem_append_right _ h)) tyX5 tyX5_ok nmX5 (by omega) rfl rfl (by decide) (List.mem_of_getElem? (i := 4) rfl) rfl rfl rfl (Nat.le_of_ble_eq_true rfl) rfl dX5_number_107 ?_
            refine xr_iload_n hM 1 dX5_number_110 rfl rfl ?_
            obtain rfl := itL_f hR (fun q9 => by have q2 := (nxF_dr (by omega)).mp q9; omega)
            exact xr_iret hF dX5_number_111 (by rw [show (s + (k : Int) - s).toNat = k by omega]) (by rw [if_neg (by omega)])
          · refine xr_iconst hM dX5_number_102 ?_
            refine xr_goto hM 107 dX5_number_103 (by decide) ?_
            refine xr_putz (ws' := [(r 0, ob 5 [.ref (r 1), .ref (r 2), .ref (r 3), .ref (r 4), iv sT, .ref (r 5), iv lE, .ref (r 6), iv (s + (k : Int)), iv s, iv 1, .ref (r 7)]), (r 5, ia T.2.1 100 te)]) (C := RX5) (TT0 := TX5) (N := 12) hM 5 0 10 (fun _ h => List.mem_cons_of_mem _ (List.mem_append_right _ h)) tyX5 tyX5_ok nmX5 (by omega) rfl rfl (by decide) (List.mem_of_getElem? (i := 4) rfl) rfl rfl rfl (Nat.le_of_ble_eq_true rfl) rfl dX5_number_107 ?_
            refine xr_iload_n hM 1 dX5_number_110 rfl rfl ?_
            obtain rfl := itL_f hR (fun q9 => by have q2 := (nxF_dr (by omega)).mp q9; omega)
            exact xr_iret hF dX5_number_111 (by rw [show (s + (k : Int) - s).toNat = k by omega]) (by rw [if_pos (by omega)])
    · refine xr_aload_n hM 0 dX5_number_20 rfl rfl ?_
      refine xr_get (C := RX5) (TT0 := TX5) (N := 12) hM 5 0 8 (fun _ h => List.mem_cons_of_mem _ (List.mem_append_right _ h)) rfl rfl (by decide) (List.mem_of_getElem? (i := 1) rfl) rfl rfl dX5_number_21 ?_
      refine xr_aload_n hM 0 dX5_number_24 rfl rfl ?_
      refine xr_get (C := RX5) (TT0 := TX5) (N := 12) hM 5 0 9 (fun _ h => List.mem_cons_of_mem _ (List.mem_append_right _ h)) rfl rfl (by decide) (List.mem_of_getElem? (i := 2) rfl) rfl rfl dX5_number_25 ?_
      refine xr_isub hM dX5_number_28 ?_
      refine xr_iconst hM dX5_number_29 ?_
      refine xr_icmp_ge hM 48 dX5_number_30 (by decide) (by omega) (fun c30 => ?_) (fun c30 => ?_)
      · refine xr_iload_n hM 1 dX5_number_48 rfl rfl ?_
        refine xr_istore_n (lv' := [(0, .ref (r 0)), (1, iv (dvF tx lE s k))]) hM dX5_number_49 rfl (by decide) rfl rfl ?_
        refine xr_aload_n hM 0 dX5_number_50 rfl rfl ?_
        refine xr_dup hM dX5_number_51 rfl ?_
        refine xr_get (C := RX5) (TT0 := TX5) (N := 12) hM 5 0 8 (fun _ h => List.mem_cons_of_mem _ (List.mem_append_right _ h)) rfl rfl (by decide) (List.mem_of_getElem? (i := 1) rfl) rfl rfl dX5_number_52 ?_
        refine xr_iconst hM dX5_number_55 ?_
        refine xr_iadd hM dX5_number_56 ?_
        refine xr_put (ws' := [(r 0, ob 5 [.ref (r 1), .ref (r 2), .ref (r 3), .ref (r 4), iv sT, .ref (r 5), iv lE, .ref (r 6), iv ((s + (k : Int)) + 1), iv s, iv wR, .ref (r 7)]), (r 5, ia T.2.1 100 te)]) (C := RX5) (TT0 := TX5) (N := 12) hM 5 0 8 (fun _ h => List.mem_cons_of_mem _ (List.mem_append_right _ h)) tyX5 tyX5_ok nmX5 rfl rfl (by decide) (List.mem_of_getElem? (i := 1) rfl) rfl rfl rfl (Nat.le_of_ble_eq_true rfl) rfl dX5_number_57 ?_
        refine xr_goto hM 6 dX5_number_60 (by decide) ?_
        have hlt : 48 ≤ nxF tx lE (s + k) ∧ nxF tx lE (s + k) ≤ 57 := by omega
        have hcd : drC tx lE (s + k) = true := (nxF_dr (by omega)).mpr hlt
        have hq2 := (of_decide_eq_true hcd).1
        refine xr_re (lv' := [(0, .ref (r 0)), (1, iv (dvF tx lE s (k + 1)))]) (ws' := [(r 0, ob 5 [.ref (r 1), .ref (r 2), .ref (r 3), .ref (r 4), iv sT, .ref (r 5), iv lE, .ref (r 6), iv (s + ((k + 1 : Nat) : Int)), iv s, iv wR, .ref (r 7)]), (r 5, ia T.2.1 100 te)]) (st' := []) (by rw [dvF, if_neg (by omega)] <;> rfl) (by rw [show s + ((k + 1 : Nat) : Int) = s + (k : Int) + 1 by omega]) rfl ?_
        refine ih (k + 1) (by omega) (by omega) (fun j hj => ?_) (by rw [show s + ((k + 1 : Nat) : Int) = incI (s + (k : Int)) by unfold incI; omega]; exact itL_t hR hcd)
        by_cases e9 : j < k
        · exact hl j e9
        · obtain rfl : j = k := by omega
          exact hlt
      · refine xr_bipush hM dX5_number_33 (by decide) ?_
        refine xr_iload_n hM 1 dX5_number_35 rfl rfl ?_
        refine xr_imul hM dX5_number_36 ?_
        refine xr_aload_n hM 0 dX5_number_37 rfl rfl ?_
        refine xr_callV (ws' := [(r 0, ob 5 [.ref (r 1), .ref (r 2), .ref (r 3), .ref (r 4), iv sT, .ref (r 5), iv lE, .ref (r 6), iv (s + (k : Int)), iv s, iv wR, .ref (r 7)]), (r 5, ia T.2.1 100 te)]) (rest := [iv (10 * (dvF tx lE s k))]) (As := []) (st' := [iv (nxF tx lE (s + (k : Int))), iv (10 * (dvF tx lE s k))]) hM (ct_X5_next M.2.1 T r sT lE (s + (k : Int)) s wR te tx (hte) (ht) (by omega)) gX5_number_X5_next rfl ⟨rfl, rfl⟩ hy_X5_next rfl ⟨by decide, by decide⟩ [0, 1] rfl rfl rfl 0 5 rfl rfl rfl rfl rfl (Nat.le_of_ble_eq_true rfl) ⟨by decide, by decide⟩ rfl dX5_number_38 ?_
        have hf38 := nxF_b (ht) (s + (k : Int))
        refine xr_iadd hM dX5_number_41 ?_
        refine xr_bipush hM dX5_number_42 (by decide) ?_
        refine xr_isub hM dX5_number_44 ?_
        refine xr_goto hM 49 dX5_number_45 (by decide) ?_
        refine xr_istore_n (lv' := [(0, .ref (r 0)), (1, iv (((10 * (dvF tx lE s k)) + (nxF tx lE (s + (k : Int)))) - 48))]) hM dX5_number_49 rfl (by decide) rfl rfl ?_
        refine xr_aload_n hM 0 dX5_number_50 rfl rfl ?_
        refine xr_dup hM dX5_number_51 rfl ?_
        refine xr_get (C := RX5) (TT0 := TX5) (N := 12) hM 5 0 8 (fun _ h => List.mem_cons_of_mem _ (List.mem_append_right _ h)) rfl rfl (by decide) (List.mem_of_getElem? (i := 1) rfl) rfl rfl dX5_number_52 ?_
        refine xr_iconst hM dX5_number_55 ?_
        refine xr_iadd hM dX5_number_56 ?_
        refine xr_put (ws' := [(r 0, ob 5 [.ref (r 1), .ref (r 2), .ref (r 3), .ref (r 4), iv sT, .ref (r 5), iv lE, .ref (r 6), iv ((s + (k : Int)) + 1), iv s, iv wR, .ref (r 7)]), (r 5, ia T.2.1 100 te)]) (C := RX5) (TT0 := TX5) (N := 12) hM 5 0 8 (fun _ h => List.mem_cons_of_mem _ (List.mem_append_right _ h)) tyX5 tyX5_ok nmX5 rfl rfl (by decide) (List.mem_of_getElem? (i := 1) rfl) rfl rfl rfl (Nat.le_of_ble_eq_true rfl) rfl dX5_number_57 ?_
        refine xr_goto hM 6 dX5_number_60 (by decide) ?_
        have hlt : 48 ≤ nxF tx lE (s + k) ∧ nxF tx lE (s + k) ≤ 57 := by omega
        have hcd : drC tx lE (s + k) = true := (nxF_dr (by omega)).mpr hlt
        have hq2 := (of_decide_eq_true hcd).1
        refine xr_re (lv' := [(0, .ref (r 0)), (1, iv (dvF tx lE s (k + 1)))]) (ws' := [(r 0, ob 5 [.ref (r 1), .ref (r 2), .ref (r 3), .ref (r 4), iv sT, .ref (r 5), iv lE, .ref (r 6), iv (s + ((k + 1 : Nat) : Int)), iv s, iv wR, .ref (r 7)]), (r 5, ia T.2.1 100 te)]) (st' := []) (by rw [dvF, if_pos (by omega)] <;> rfl) (by rw [show s + ((k + 1 : Nat) : Int) = s + (k : Int) + 1 by omega]) rfl ?_
        refine ih (k + 1) (by omega) (by omega) (fun j hj => ?_) (by rw [show s + ((k + 1 : Nat) : Int) = incI (s + (k : Int)) by unfold incI; omega]; exact itL_t hR hcd)
        by_cases e9 : j < k
        · exact hl j e9
        · obtain rfl : j = k := by omega
          exact hlt

theorem ct_X5_number (l : Launch) (T : TT) (r : Nat → Nat) (sT lE aT fR wR : Int) (te tx : AR) (hte : TE te tx lE) (ht : TXI tx lE) (ha : 0 ≤ aT ∧ aT ≤ lE) : CT l yX5_number wsX5_number rm_X5_number T [.ref (r 0)] ([(r 0, ob 5 [.ref (r 1), .ref (r 2), .ref (r 3), .ref (r 4), iv sT, .ref (r 5), iv lE, .ref (r 6), iv aT, iv fR, iv wR, .ref (r 7)]), (r 5, ia T.2.1 100 te)]) (some (iv (ndF tx lE (skF tx lE aT)))) ([(r 0, ob 5 [.ref (r 1), .ref (r 2), .ref (r 3), .ref (r 4), iv sT, .ref (r 5), iv lE, .ref (r 6), iv (drR tx lE (skF tx lE aT)), iv (skF tx lE aT), iv (nwF tx lE (skF tx lE aT)), .ref (r 7)]), (r 5, ia T.2.1 100 te)]) := by
  refine CT.Z (maxL := 3) (lv0 := [(0, .ref (r 0))]) hp_X5_number rfl (Nat.le_of_ble_eq_true rfl) rfl rfl (fun M hM hF => ?_)
  have hL := ht.1
  refine xr_aload_n hM 0 dX5_number_0 rfl rfl ?_
  refine xr_callV (ws' := [(r 0, ob 5 [.ref (r 1), .ref (r 2), .ref (r 3), .ref (r 4), iv sT, .ref (r 5), iv lE, .ref (r 6), iv (skF tx lE aT), iv (skF tx lE aT), iv wR, .ref (r 7)]), (r 5, ia T.2.1 100 te)]) (rest := []) (As := []) (st' := []) hM (ct_X5_begins M.2.1 T r sT lE aT fR wR te tx (hte) (ht) (by omega)) gX5_number_X5_begins rfl ⟨rfl, rfl⟩ hy_X5_begins rfl ⟨by decide, by decide⟩ [0, 1] rfl rfl rfl 0 5 rfl rfl rfl rfl rfl (Nat.le_of_ble_eq_true rfl) ⟨by decide, by decide⟩ rfl dX5_number_1 ?_
  have hf1 := skF_b (tx := tx) (L := lE) (e := aT) (by omega)
  refine xr_iconst hM dX5_number_4 ?_
  refine xr_istore_n (lv' := [(0, .ref (r 0)), (1, iv 0)]) hM dX5_number_5 rfl (by decide) rfl rfl ?_
  refine xr_re (lv' := [(0, .ref (r 0)), (1, iv (dvF tx lE (skF tx lE aT) 0))]) (ws' := [(r 0, ob 5 [.ref (r 1), .ref (r 2), .ref (r 3), .ref (r 4), iv sT, .ref (r 5), iv lE, .ref (r 6), iv ((skF tx lE aT) + ((0 : Nat) : Int)), iv (skF tx lE aT), iv wR, .ref (r 7)]), (r 5, ia T.2.1 100 te)]) (st' := []) rfl (by rw [show (skF tx lE aT) + ((0 : Nat) : Int) = skF tx lE aT by omega]) rfl ?_
  exact lp_X5_number r sT lE wR te tx (skF tx lE aT) hte ht (by omega) _ hM hF (lE - skF tx lE aT).toNat 0 (by omega) (by omega) (fun j hj => absurd hj (Nat.not_lt_zero j)) (by rw [show (skF tx lE aT) + ((0 : Nat) : Int) = skF tx lE aT by omega]; rfl)

theorem ct_X5_numbersOf (l : Launch) (T : TT) (v : Int) (hv : -2147483648 ≤ v ∧ v < 2147483648) : CT l yX5_numbersOf wsX5_numbersOf rm_X5_numbersOf T [iv v] ([]) (some (iv (if v = 17076 then 3 else if v = 3764 ∨ v = 147182 ∨ v = 688 ∨ v = 20186693 ∨ v = 655 then 1 else 0))) ([]) := by
  refine CT.Z (maxL := 1) (lv0 := [(0, iv v)]) hp_X5_numbersOf rfl (Nat.le_of_ble_eq_true rfl) rfl rfl (fun M hM hF => ?_)
  refine xr_iload_n hM 0 dX5_numbersOf_0 rfl rfl ?_
  by_cases c1_655 : v = 655
  · refine xr_lookupK hM 70 dX5_numbersOf_1 (by decide) c1_655 (by decide) rfl (by decide) ?_
    refine xr_iconst hM dX5_numbersOf_70 ?_
    exact xr_iret hF dX5_numbersOf_71 (by rw [if_neg (by omega), if_pos (by omega)]) rfl
  by_cases c1_688 : v = 688
  · refine xr_lookupK hM 66 dX5_numbersOf_1 (by decide) c1_688 (by decide) rfl (by decide) ?_
    refine xr_iconst hM dX5_numbersOf_66 ?_
    exact xr_iret hF dX5_numbersOf_67 (by rw [if_neg (by omega), if_pos (by omega)]) rfl
  by_cases c1_3764 : v = 3764
  · refine xr_lookupK hM 62 dX5_numbersOf_1 (by decide) c1_3764 (by decide) rfl (by decide) ?_
    refine xr_iconst hM dX5_numbersOf_62 ?_
    exact xr_iret hF dX5_numbersOf_63 (by rw [if_neg (by omega), if_pos (by omega)]) rfl
  by_cases c1_17076 : v = 17076
  · refine xr_lookupK hM 60 dX5_numbersOf_1 (by decide) c1_17076 (by decide) rfl (by decide) ?_
    refine xr_iconst hM dX5_numbersOf_60 ?_
    exact xr_iret hF dX5_numbersOf_61 (by rw [if_pos (by omega)]) rfl
  by_cases c1_147182 : v = 147182
  · refine xr_lookupK hM 64 dX5_numbersOf_1 (by decide) c1_147182 (by decide) rfl (by decide) ?_
    refine xr_iconst hM dX5_numbersOf_64 ?_
    exact xr_iret hF dX5_numbersOf_65 (by rw [if_neg (by omega), if_pos (by omega)]) rfl
  by_cases c1_20186693 : v = 20186693
  · refine xr_lookupK hM 68 dX5_numbersOf_1 (by decide) c1_20186693 (by decide) rfl (by decide) ?_
    refine xr_iconst hM dX5_numbersOf_68 ?_
    exact xr_iret hF dX5_numbersOf_69 (by rw [if_neg (by omega), if_pos (by omega)]) rfl
  refine xr_lookup hM 72 dX5_numbersOf_1 (by decide) (by omega) (xl_def6 (by omega) (by omega) (by omega) (by omega) (by omega) (by omega)) (by decide) ?_
  refine xr_iconst hM dX5_numbersOf_72 ?_
  exact xr_iret hF dX5_numbersOf_73 (by rw [if_neg (by omega), if_neg (by omega)]) rfl
