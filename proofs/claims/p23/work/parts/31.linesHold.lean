theorem lp_L_linesHold {T : TT} {M : MB} (x n d h g : Nat → Nat) (b : Nat → Nat → Nat) (st : Nat → Option Nat) (X Y : WnS) (H : Nat → WnS) (sz nx : Int) (tx nm : Nat → Int) (L s e p : Int) (hX : WW X) (hH : ∀ k, WW (H k)) (hst : HST b st) (hsz : 0 ≤ sz ∧ sz ≤ 5) (hnx : 0 ≤ nx ∧ nx < 5) (ht : TXI tx L) (hS : SE X) (hM : FM T M cL_linesHold RL 16 wsL_linesHold rm_L_linesHold) (hF : FinI T M cL_linesHold 16 (iv 1) (List.flatten [[(x 0, ob 4 [.ref (n 6), .ref (d 6), .ref (h 0), .ref (g 0)])], [(n 6, ob 3 [.ref (n 0), iv (pH X), iv (pA X), iv (pS X)])], linE T n (pX X), [(d 6, ob 3 [.ref (d 0), iv (pH Y), iv (pA Y), iv (pS Y)])], linE T d (pX Y), hisE T h b st sz nx H, prgE T g tx nm L s e p])) : ∀ (f k : Nat), k + f = (gN (pX X)).toNat → VV T M 16 [(0, .ref (x 0)), (1, iv (gN (pX X))), (2, iv (tpF (pX X) k)), (3, iv (sumM (pX X) k)), (4, iv (snF (pX X) (tpF (pX X) (pA X).toNat + pS X) (pH X) k)), (5, iv (tpF (pX X) (pA X).toNat + pS X)), (6, iv (pH X)), (7, iv 1), (8, iv (k : Int))] (List.flatten [[(x 0, ob 4 [.ref (n 6), .ref (d 6), .ref (h 0), .ref (g 0)])], [(n 6, ob 3 [.ref (n 0), iv (pH X), iv (pA X), iv (pS X)])], linE T n (pX X), [(d 6, ob 3 [.ref (d 0), iv (pH Y), iv (pA Y), iv (pS Y)])], linE T d (pX Y), hisE T h b st sz nx H, prgE T g tx nm L s e p]) 0 0 34 [] := by
  intro f
  induction f with
  | zero =>
    intro k h1
    have hn0 := hX.1.1.1
    have hwd := hX.1.1.2.1
    have hHH := hX.1.2.1
    have hAn := hX.an
    have hSb := hX.1.2.2.2.2
    have hSs := hX.2
    have hta := tpF_b hX.1.1 (pA X).toNat
    have htn := tpF_b hX.1.1 (gN (pX X)).toNat
    have hka := tpF_b hX.1.1 k
    have hsm := sumM_b hX.1.1 k
    have hsn := snF_b (pX X) (tpF (pX X) (pA X).toNat + pS X) (pH X) k
    have hkn : k = (gN (pX X)).toNat := by omega
    have e1 : tpF (pX X) k = tpF (pX X) (gN (pX X)).toNat := congrArg (tpF (pX X)) hkn
    have e2 : sumM (pX X) k = gC (pX X) 0 + gC (pX X) 1 + gC (pX X) 2 := by rw [hkn]; exact sumM_g hX.1.1
    have e3 : snF (pX X) (tpF (pX X) (pA X).toNat + pS X) (pH X) k = snF (pX X) (tpF (pX X) (pA X).toNat + pS X) (pH X) (gN (pX X)).toNat := congrArg (snF (pX X) (tpF (pX X) (pA X).toNat + pS X) (pH X)) hkn
    have e4 : atF X (tpF (pX X) k) = -100009 := by rw [e1]; exact at_no hX.1.1
    refine xr_iload hM 8 dL_linesHold_34 rfl ?_
    refine xr_iload_n hM 1 dL_linesHold_36 rfl rfl ?_
    refine xr_icmp_ge hM 328 dL_linesHold_37 (by decide) (by omega) (fun c37 => ?_) (fun c37 => by exfalso; omega)
    refine xr_iload hM 7 dL_linesHold_328 rfl ?_
    refine xr_if_eq hM 376 dL_linesHold_330 (by decide) (by omega) (fun c330 => by exfalso; omega) (fun c330 => ?_)
    refine xr_aload_n hM 0 dL_linesHold_333 rfl rfl ?_
    refine xr_iconst hM dL_linesHold_334 ?_
    refine xr_callVG (sg := [[(x 0, ob 4 [.ref (n 6), .ref (d 6), .ref (h 0), .ref (g 0)])], [(n 6, ob 3 [.ref (n 0), iv (pH X), iv (pA X), iv (pS X)])], linE T n (pX X), [(d 6, ob 3 [.ref (d 0), iv (pH Y), iv (pA Y), iv (pS Y)])], linE T d (pX Y), hisE T h b st sz nx H, prgE T g tx nm L s e p]) (sg' := [[(x 0, ob 4 [.ref (n 6), .ref (d 6), .ref (h 0), .ref (g 0)])], [(n 6, ob 3 [.ref (n 0), iv (pH X), iv (pA X), iv (pS X)])], linE T n (pX X), [(d 6, ob 3 [.ref (d 0), iv (pH Y), iv (pA Y), iv (pS Y)])], linE T d (pX Y), hisE T h b st sz nx H, prgE T g tx nm L s e p]) (cs := [[(x 0, ob 4 [.ref (n 6), .ref (d 6), .ref (h 0), .ref (g 0)])], [(n 6, ob 3 [.ref (n 0), iv (pH X), iv (pA X), iv (pS X)])], linE T n (pX X), [(d 6, ob 3 [.ref (d 0), iv (pH Y), iv (pA Y), iv (pS Y)])], linE T d (pX Y), hisE T h b st sz nx H, prgE T g tx nm L s e p]) (cs' := [[(x 0, ob 4 [.ref (n 6), .ref (d 6), .ref (h 0), .ref (g 0)])], [(n 6, ob 3 [.ref (n 0), iv (pH X), iv (pA X), iv (pS X)])], linE T n (pX X), [(d 6, ob 3 [.ref (d 0), iv (pH Y), iv (pA Y), iv (pS Y)])], linE T d (pX Y), hisE T h b st sz nx H, prgE T g tx nm L s e p]) (rest := []) (As := [iv 4]) (st' := [iv (tpF (pX X) (gN (pX X)).toNat)]) hM (ct_count_4 M.2.1 T x n d h g b st X Y H sz nx tx nm L s e p (hX) (hH) (hst) (hsz) (hnx) (ht)) rfl rfl gL_linesHold_X4_count rfl ⟨rfl, rfl⟩ hy_X4_count rfl ⟨by decide, by decide⟩ [0, 1, 2, 3, 4, 5, 6] rfl rfl rfl 0 4 rfl rfl rfl rfl rfl (Nat.le_of_ble_eq_true rfl) ⟨by decide, by decide⟩ rfl dL_linesHold_335 ?_
    have hf335 := tpF_b (hX).1.1 (gN (pX X)).toNat
    have hf335_1 := (hX).1.1.1
    refine xr_iload_n hM 2 dL_linesHold_338 rfl rfl ?_
    refine xr_icmp_ne hM 376 dL_linesHold_339 (by decide) (by omega) (fun c339 => by exfalso; omega) (fun c339 => ?_)
    refine xr_aload_n hM 0 dL_linesHold_342 rfl rfl ?_
    refine xr_iconst hM dL_linesHold_343 ?_
    refine xr_callVG (sg := [[(x 0, ob 4 [.ref (n 6), .ref (d 6), .ref (h 0), .ref (g 0)])], [(n 6, ob 3 [.ref (n 0), iv (pH X), iv (pA X), iv (pS X)])], linE T n (pX X), [(d 6, ob 3 [.ref (d 0), iv (pH Y), iv (pA Y), iv (pS Y)])], linE T d (pX Y), hisE T h b st sz nx H, prgE T g tx nm L s e p]) (sg' := [[(x 0, ob 4 [.ref (n 6), .ref (d 6), .ref (h 0), .ref (g 0)])], [(n 6, ob 3 [.ref (n 0), iv (pH X), iv (pA X), iv (pS X)])], linE T n (pX X), [(d 6, ob 3 [.ref (d 0), iv (pH Y), iv (pA Y), iv (pS Y)])], linE T d (pX Y), hisE T h b st sz nx H, prgE T g tx nm L s e p]) (cs := [[(x 0, ob 4 [.ref (n 6), .ref (d 6), .ref (h 0), .ref (g 0)])], [(n 6, ob 3 [.ref (n 0), iv (pH X), iv (pA X), iv (pS X)])], linE T n (pX X), [(d 6, ob 3 [.ref (d 0), iv (pH Y), iv (pA Y), iv (pS Y)])], linE T d (pX Y), hisE T h b st sz nx H, prgE T g tx nm L s e p]) (cs' := [[(x 0, ob 4 [.ref (n 6), .ref (d 6), .ref (h 0), .ref (g 0)])], [(n 6, ob 3 [.ref (n 0), iv (pH X), iv (pA X), iv (pS X)])], linE T n (pX X), [(d 6, ob 3 [.ref (d 0), iv (pH Y), iv (pA Y), iv (pS Y)])], linE T d (pX Y), hisE T h b st sz nx H, prgE T g tx nm L s e p]) (rest := []) (As := [iv 1]) (st' := [iv (gC (pX X) 0 + gC (pX X) 1 + gC (pX X) 2)]) hM (ct_count_1 M.2.1 T x n d h g b st X Y H sz nx tx nm L s e p (hX) (hH) (hst) (hsz) (hnx) (ht)) rfl rfl gL_linesHold_X4_count rfl ⟨rfl, rfl⟩ hy_X4_count rfl ⟨by decide, by decide⟩ [0, 1, 2, 3, 4, 5, 6] rfl rfl rfl 0 4 rfl rfl rfl rfl rfl (Nat.le_of_ble_eq_true rfl) ⟨by decide, by decide⟩ rfl dL_linesHold_344 ?_
    have hf344 := sumM_g (hX).1.1
    have hf344_1 := sumM_b (hX).1.1 (gN (pX X)).toNat
    refine xr_iload_n hM 3 dL_linesHold_347 rfl rfl ?_
    refine xr_icmp_ne hM 376 dL_linesHold_348 (by decide) (by omega) (fun c348 => by exfalso; omega) (fun c348 => ?_)
    refine xr_aload_n hM 0 dL_linesHold_351 rfl rfl ?_
    refine xr_bipush hM dL_linesHold_352 (by decide) ?_
    refine xr_callVG (sg := [[(x 0, ob 4 [.ref (n 6), .ref (d 6), .ref (h 0), .ref (g 0)])], [(n 6, ob 3 [.ref (n 0), iv (pH X), iv (pA X), iv (pS X)])], linE T n (pX X), [(d 6, ob 3 [.ref (d 0), iv (pH Y), iv (pA Y), iv (pS Y)])], linE T d (pX Y), hisE T h b st sz nx H, prgE T g tx nm L s e p]) (sg' := [[(x 0, ob 4 [.ref (n 6), .ref (d 6), .ref (h 0), .ref (g 0)])], [(n 6, ob 3 [.ref (n 0), iv (pH X), iv (pA X), iv (pS X)])], linE T n (pX X), [(d 6, ob 3 [.ref (d 0), iv (pH Y), iv (pA Y), iv (pS Y)])], linE T d (pX Y), hisE T h b st sz nx H, prgE T g tx nm L s e p]) (cs := [[(x 0, ob 4 [.ref (n 6), .ref (d 6), .ref (h 0), .ref (g 0)])], [(n 6, ob 3 [.ref (n 0), iv (pH X), iv (pA X), iv (pS X)])], linE T n (pX X), [(d 6, ob 3 [.ref (d 0), iv (pH Y), iv (pA Y), iv (pS Y)])], linE T d (pX Y), hisE T h b st sz nx H, prgE T g tx nm L s e p]) (cs' := [[(x 0, ob 4 [.ref (n 6), .ref (d 6), .ref (h 0), .ref (g 0)])], [(n 6, ob 3 [.ref (n 0), iv (pH X), iv (pA X), iv (pS X)])], linE T n (pX X), [(d 6, ob 3 [.ref (d 0), iv (pH Y), iv (pA Y), iv (pS Y)])], linE T d (pX Y), hisE T h b st sz nx H, prgE T g tx nm L s e p]) (rest := []) (As := [iv 11]) (st' := [iv (snF (pX X) (tpF (pX X) (pA X).toNat + pS X) (pH X) (gN (pX X)).toNat)]) hM (ct_count_11 M.2.1 T x n d h g b st X Y H sz nx tx nm L s e p (hX) (hH) (hst) (hsz) (hnx) (ht)) rfl rfl gL_linesHold_X4_count rfl ⟨rfl, rfl⟩ hy_X4_count rfl ⟨by decide, by decide⟩ [0, 1, 2, 3, 4, 5, 6] rfl rfl rfl 0 4 rfl rfl rfl rfl rfl (Nat.le_of_ble_eq_true rfl) ⟨by decide, by decide⟩ rfl dL_linesHold_354 ?_
    have hf354 := snF_b (pX X) (tpF (pX X) (pA X).toNat + pS X) (pH X) (gN (pX X)).toNat
    have hf354_1 := (hX).1.1.1
    refine xr_iload hM 4 dL_linesHold_357 rfl ?_
    refine xr_icmp_ne hM 376 dL_linesHold_359 (by decide) (by omega) (fun c359 => by exfalso; omega) (fun c359 => ?_)
    refine xr_aload_n hM 0 dL_linesHold_362 rfl rfl ?_
    refine xr_iload_n hM 2 dL_linesHold_363 rfl rfl ?_
    refine xr_callVG (sg := [[(x 0, ob 4 [.ref (n 6), .ref (d 6), .ref (h 0), .ref (g 0)])], [(n 6, ob 3 [.ref (n 0), iv (pH X), iv (pA X), iv (pS X)])], linE T n (pX X), [(d 6, ob 3 [.ref (d 0), iv (pH Y), iv (pA Y), iv (pS Y)])], linE T d (pX Y), hisE T h b st sz nx H, prgE T g tx nm L s e p]) (sg' := [[(x 0, ob 4 [.ref (n 6), .ref (d 6), .ref (h 0), .ref (g 0)])], [(n 6, ob 3 [.ref (n 0), iv (pH X), iv (pA X), iv (pS X)])], linE T n (pX X), [(d 6, ob 3 [.ref (d 0), iv (pH Y), iv (pA Y), iv (pS Y)])], linE T d (pX Y), hisE T h b st sz nx H, prgE T g tx nm L s e p]) (cs := [[(x 0, ob 4 [.ref (n 6), .ref (d 6), .ref (h 0), .ref (g 0)])], [(n 6, ob 3 [.ref (n 0), iv (pH X), iv (pA X), iv (pS X)])], linE T n (pX X), [(d 6, ob 3 [.ref (d 0), iv (pH Y), iv (pA Y), iv (pS Y)])], linE T d (pX Y), hisE T h b st sz nx H, prgE T g tx nm L s e p]) (cs' := [[(x 0, ob 4 [.ref (n 6), .ref (d 6), .ref (h 0), .ref (g 0)])], [(n 6, ob 3 [.ref (n 0), iv (pH X), iv (pA X), iv (pS X)])], linE T n (pX X), [(d 6, ob 3 [.ref (d 0), iv (pH Y), iv (pA Y), iv (pS Y)])], linE T d (pX Y), hisE T h b st sz nx H, prgE T g tx nm L s e p]) (rest := []) (As := [iv (tpF (pX X) k)]) (st' := [iv (atF X (tpF (pX X) k))]) hM (ct_X4_at M.2.1 T x n d h g b st X Y H sz nx tx nm L s e p (tpF (pX X) k) (hX) (hH) (hst) (hsz) (hnx) (ht) (by omega)) rfl rfl gL_linesHold_X4_at rfl ⟨rfl, rfl⟩ hy_X4_at rfl ⟨by decide, by decide⟩ [0, 1, 2, 3, 4, 5, 6] rfl rfl rfl 0 4 rfl rfl rfl rfl rfl (Nat.le_of_ble_eq_true rfl) ⟨by decide, by decide⟩ rfl dL_linesHold_364 ?_
    have hf364 := at_bd (hX) (tpF (pX X) k)
    refine xr_ldc hM (-100009) (List.mem_of_getElem? (i := 1) rfl) (by decide) dL_linesHold_367 ?_
    refine xr_icmp_ne hM 376 dL_linesHold_369 (by decide) (by omega) (fun c369 => by exfalso; omega) (fun c369 => ?_)
    refine xr_iconst hM dL_linesHold_372 ?_
    refine xr_goto hM 377 dL_linesHold_373 (by decide) ?_
    exact xr_iret hF dL_linesHold_377 rfl rfl
  | succ f ih =>
    intro k h1
    have hn0 := hX.1.1.1
    have hwd := hX.1.1.2.1
    have hHH := hX.1.2.1
    have hAn := hX.an
    have hSb := hX.1.2.2.2.2
    have hSs := hX.2
    have hta := tpF_b hX.1.1 (pA X).toNat
    have htn := tpF_b hX.1.1 (gN (pX X)).toNat
    have hka := tpF_b hX.1.1 k
    have hsm := sumM_b hX.1.1 k
    have hsn := snF_b (pX X) (tpF (pX X) (pA X).toNat + pS X) (pH X) k
    have hk3 := hX.1.1.2.2.1 k
    have hhk := htF_b hX.1.1 k
    have hth : 6 ≤ tH (gW (pX X)) (gK (pX X) k) (gL (pX X) k) ∧ tH (gW (pX X)) (gK (pX X) k) (gL (pX X) k) ≤ 1450 := tH_b ⟨hk3.2.1, hwd⟩
    have hrw : 1 ≤ rowsF (gW (pX X)) (gL (pX X) k) ∧ rowsF (gW (pX X)) (gL (pX X) k) ≤ 80 := rowsF_b ⟨hk3.2.1, hwd⟩
    have ha1 := at_top hX.1.1 (k := k) (by omega)
    have ha2 := at_end hX.1.1 (k := k) (by omega)
    have hin : ¬ (tpF (pX X) k - (tpF (pX X) (pA X).toNat + pS X) < pH X ∧ 0 < tpF (pX X) k - (tpF (pX X) (pA X).toNat + pS X) + htF (pX X) k) ∨ gM (pX X) k = 1 := by
      by_cases q : tpF (pX X) k - (tpF (pX X) (pA X).toNat + pS X) < pH X ∧ 0 < tpF (pX X) k - (tpF (pX X) (pA X).toNat + pS X) + htF (pX X) k
      · exact Or.inr ((hS.2 (by omega)).2.2.1 k (by omega) q.1 q.2)
      · exact Or.inl q
    refine xr_iload hM 8 dL_linesHold_34 rfl ?_
    refine xr_iload_n hM 1 dL_linesHold_36 rfl rfl ?_
    refine xr_icmp_ge hM 328 dL_linesHold_37 (by decide) (by omega) (fun c37 => by exfalso; omega) (fun c37 => ?_)
    refine xr_iload hM 7 dL_linesHold_40 rfl ?_
    refine xr_if_eq hM 328 dL_linesHold_42 (by decide) (by omega) (fun c42 => by exfalso; omega) (fun c42 => ?_)
    refine xr_aload_n hM 0 dL_linesHold_45 rfl rfl ?_
    refine xr_iload hM 8 dL_linesHold_46 rfl ?_
    refine xr_iconst hM dL_linesHold_48 ?_
    refine xr_callVG (sg := [[(x 0, ob 4 [.ref (n 6), .ref (d 6), .ref (h 0), .ref (g 0)])], [(n 6, ob 3 [.ref (n 0), iv (pH X), iv (pA X), iv (pS X)])], linE T n (pX X), [(d 6, ob 3 [.ref (d 0), iv (pH Y), iv (pA Y), iv (pS Y)])], linE T d (pX Y), hisE T h b st sz nx H, prgE T g tx nm L s e p]) (sg' := [[(x 0, ob 4 [.ref (n 6), .ref (d 6), .ref (h 0), .ref (g 0)])], [(n 6, ob 3 [.ref (n 0), iv (pH X), iv (pA X), iv (pS X)])], linE T n (pX X), [(d 6, ob 3 [.ref (d 0), iv (pH Y), iv (pA Y), iv (pS Y)])], linE T d (pX Y), hisE T h b st sz nx H, prgE T g tx nm L s e p]) (cs := [[(x 0, ob 4 [.ref (n 6), .ref (d 6), .ref (h 0), .ref (g 0)])], [(n 6, ob 3 [.ref (n 0), iv (pH X), iv (pA X), iv (pS X)])], linE T n (pX X), [(d 6, ob 3 [.ref (d 0), iv (pH Y), iv (pA Y), iv (pS Y)])], linE T d (pX Y), hisE T h b st sz nx H, prgE T g tx nm L s e p]) (cs' := [[(x 0, ob 4 [.ref (n 6), .ref (d 6), .ref (h 0), .ref (g 0)])], [(n 6, ob 3 [.ref (n 0), iv (pH X), iv (pA X), iv (pS X)])], linE T n (pX X), [(d 6, ob 3 [.ref (d 0), iv (pH Y), iv (pA Y), iv (pS Y)])], linE T d (pX Y), hisE T h b st sz nx H, prgE T g tx nm L s e p]) (rest := []) (As := [iv (k : Int), iv 0]) (st' := [iv (gK (pX X) k)]) hM (ct_line_0 M.2.1 T x n d h g b st X Y H sz nx tx nm L s e p (k : Int) (hX) (hH) (hst) (hsz) (hnx) (ht) (by omega)) rfl rfl gL_linesHold_X4_line rfl ⟨rfl, rfl⟩ hy_X4_line rfl ⟨by decide, by decide⟩ [0, 1, 2, 3, 4, 5, 6] rfl rfl rfl 0 4 rfl rfl rfl rfl rfl (Nat.le_of_ble_eq_true rfl) ⟨by decide, by decide⟩ rfl dL_linesHold_49 ?_
    have hf49 := (hX).1.1.2.2.1 k
    refine xr_istore (lv' := [(0, .ref (x 0)), (1, iv (gN (pX X))), (2, iv (tpF (pX X) k)), (3, iv (sumM (pX X) k)), (4, iv (snF (pX X) (tpF (pX X) (pA X).toNat + pS X) (pH X) k)), (5, iv (tpF (pX X) (pA X).toNat + pS X)), (6, iv (pH X)), (7, iv 1), (8, iv (k : Int)), (9, iv (gK (pX X) k))]) hM dL_linesHold_52 (by decide) rfl rfl ?_
    refine xr_aload_n hM 0 dL_linesHold_54 rfl rfl ?_
    refine xr_iload hM 8 dL_linesHold_55 rfl ?_
    refine xr_iconst hM dL_linesHold_57 ?_
    refine xr_callVG (sg := [[(x 0, ob 4 [.ref (n 6), .ref (d 6), .ref (h 0), .ref (g 0)])], [(n 6, ob 3 [.ref (n 0), iv (pH X), iv (pA X), iv (pS X)])], linE T n (pX X), [(d 6, ob 3 [.ref (d 0), iv (pH Y), iv (pA Y), iv (pS Y)])], linE T d (pX Y), hisE T h b st sz nx H, prgE T g tx nm L s e p]) (sg' := [[(x 0, ob 4 [.ref (n 6), .ref (d 6), .ref (h 0), .ref (g 0)])], [(n 6, ob 3 [.ref (n 0), iv (pH X), iv (pA X), iv (pS X)])], linE T n (pX X), [(d 6, ob 3 [.ref (d 0), iv (pH Y), iv (pA Y), iv (pS Y)])], linE T d (pX Y), hisE T h b st sz nx H, prgE T g tx nm L s e p]) (cs := [[(x 0, ob 4 [.ref (n 6), .ref (d 6), .ref (h 0), .ref (g 0)])], [(n 6, ob 3 [.ref (n 0), iv (pH X), iv (pA X), iv (pS X)])], linE T n (pX X), [(d 6, ob 3 [.ref (d 0), iv (pH Y), iv (pA Y), iv (pS Y)])], linE T d (pX Y), hisE T h b st sz nx H, prgE T g tx nm L s e p]) (cs' := [[(x 0, ob 4 [.ref (n 6), .ref (d 6), .ref (h 0), .ref (g 0)])], [(n 6, ob 3 [.ref (n 0), iv (pH X), iv (pA X), iv (pS X)])], linE T n (pX X), [(d 6, ob 3 [.ref (d 0), iv (pH Y), iv (pA Y), iv (pS Y)])], linE T d (pX Y), hisE T h b st sz nx H, prgE T g tx nm L s e p]) (rest := []) (As := [iv (k : Int), iv 1]) (st' := [iv (gL (pX X) k)]) hM (ct_line_1 M.2.1 T x n d h g b st X Y H sz nx tx nm L s e p (k : Int) (hX) (hH) (hst) (hsz) (hnx) (ht) (by omega)) rfl rfl gL_linesHold_X4_line rfl ⟨rfl, rfl⟩ hy_X4_line rfl ⟨by decide, by decide⟩ [0, 1, 2, 3, 4, 5, 6] rfl rfl rfl 0 4 rfl rfl rfl rfl rfl (Nat.le_of_ble_eq_true rfl) ⟨by decide, by decide⟩ rfl dL_linesHold_58 ?_
    have hf58 := (hX).1.1.2.2.1 k
    refine xr_istore (lv' := [(0, .ref (x 0)), (1, iv (gN (pX X))), (2, iv (tpF (pX X) k)), (3, iv (sumM (pX X) k)), (4, iv (snF (pX X) (tpF (pX X) (pA X).toNat + pS X) (pH X) k)), (5, iv (tpF (pX X) (pA X).toNat + pS X)), (6, iv (pH X)), (7, iv 1), (8, iv (k : Int)), (9, iv (gK (pX X) k)), (10, iv (gL (pX X) k))]) hM dL_linesHold_61 (by decide) rfl rfl ?_
    refine xr_iload hM 10 dL_linesHold_63 rfl ?_
    have jK : VV T M 16 [(0, .ref (x 0)), (1, iv (gN (pX X))), (2, iv (tpF (pX X) k)), (3, iv (sumM (pX X) k)), (4, iv (snF (pX X) (tpF (pX X) (pA X).toNat + pS X) (pH X) k)), (5, iv (tpF (pX X) (pA X).toNat + pS X)), (6, iv (pH X)), (7, iv 1), (8, iv (k : Int)), (9, iv (gK (pX X) k)), (10, iv (gL (pX X) k))] (List.flatten [[(x 0, ob 4 [.ref (n 6), .ref (d 6), .ref (h 0), .ref (g 0)])], [(n 6, ob 3 [.ref (n 0), iv (pH X), iv (pA X), iv (pS X)])], linE T n (pX X), [(d 6, ob 3 [.ref (d 0), iv (pH Y), iv (pA Y), iv (pS Y)])], linE T d (pX Y), hisE T h b st sz nx H, prgE T g tx nm L s e p]) 0 0 90 [iv (rowsF (gW (pX X)) (gL (pX X) k))] := by
      refine xr_istore (lv' := [(0, .ref (x 0)), (1, iv (gN (pX X))), (2, iv (tpF (pX X) k)), (3, iv (sumM (pX X) k)), (4, iv (snF (pX X) (tpF (pX X) (pA X).toNat + pS X) (pH X) k)), (5, iv (tpF (pX X) (pA X).toNat + pS X)), (6, iv (pH X)), (7, iv 1), (8, iv (k : Int)), (9, iv (gK (pX X) k)), (10, iv (gL (pX X) k)), (11, iv (rowsF (gW (pX X)) (gL (pX X) k)))]) hM dL_linesHold_90 (by decide) rfl rfl ?_
      refine xr_aload_n hM 0 dL_linesHold_92 rfl rfl ?_
      refine xr_iload hM 8 dL_linesHold_93 rfl ?_
      refine xr_iconst hM dL_linesHold_95 ?_
      refine xr_callVG (sg := [[(x 0, ob 4 [.ref (n 6), .ref (d 6), .ref (h 0), .ref (g 0)])], [(n 6, ob 3 [.ref (n 0), iv (pH X), iv (pA X), iv (pS X)])], linE T n (pX X), [(d 6, ob 3 [.ref (d 0), iv (pH Y), iv (pA Y), iv (pS Y)])], linE T d (pX Y), hisE T h b st sz nx H, prgE T g tx nm L s e p]) (sg' := [[(x 0, ob 4 [.ref (n 6), .ref (d 6), .ref (h 0), .ref (g 0)])], [(n 6, ob 3 [.ref (n 0), iv (pH X), iv (pA X), iv (pS X)])], linE T n (pX X), [(d 6, ob 3 [.ref (d 0), iv (pH Y), iv (pA Y), iv (pS Y)])], linE T d (pX Y), hisE T h b st sz nx H, prgE T g tx nm L s e p]) (cs := [[(x 0, ob 4 [.ref (n 6), .ref (d 6), .ref (h 0), .ref (g 0)])], [(n 6, ob 3 [.ref (n 0), iv (pH X), iv (pA X), iv (pS X)])], linE T n (pX X), [(d 6, ob 3 [.ref (d 0), iv (pH Y), iv (pA Y), iv (pS Y)])], linE T d (pX Y), hisE T h b st sz nx H, prgE T g tx nm L s e p]) (cs' := [[(x 0, ob 4 [.ref (n 6), .ref (d 6), .ref (h 0), .ref (g 0)])], [(n 6, ob 3 [.ref (n 0), iv (pH X), iv (pA X), iv (pS X)])], linE T n (pX X), [(d 6, ob 3 [.ref (d 0), iv (pH Y), iv (pA Y), iv (pS Y)])], linE T d (pX Y), hisE T h b st sz nx H, prgE T g tx nm L s e p]) (rest := []) (As := [iv (k : Int), iv 2]) (st' := [iv (htF (pX X) k)]) hM (ct_line_2 M.2.1 T x n d h g b st X Y H sz nx tx nm L s e p (k : Int) (hX) (hH) (hst) (hsz) (hnx) (ht) (by omega)) rfl rfl gL_linesHold_X4_line rfl ⟨rfl, rfl⟩ hy_X4_line rfl ⟨by decide, by decide⟩ [0, 1, 2, 3, 4, 5, 6] rfl rfl rfl 0 4 rfl rfl rfl rfl rfl (Nat.le_of_ble_eq_true rfl) ⟨by decide, by decide⟩ rfl dL_linesHold_96 ?_
      have hf96 := htF_b (hX).1.1 k
      refine xr_istore (lv' := [(0, .ref (x 0)), (1, iv (gN (pX X))), (2, iv (tpF (pX X) k)), (3, iv (sumM (pX X) k)), (4, iv (snF (pX X) (tpF (pX X) (pA X).toNat + pS X) (pH X) k)), (5, iv (tpF (pX X) (pA X).toNat + pS X)), (6, iv (pH X)), (7, iv 1), (8, iv (k : Int)), (9, iv (gK (pX X) k)), (10, iv (gL (pX X) k)), (11, iv (rowsF (gW (pX X)) (gL (pX X) k))), (12, iv (htF (pX X) k))]) hM dL_linesHold_99 (by decide) rfl rfl ?_
      refine xr_aload_n hM 0 dL_linesHold_101 rfl rfl ?_
      refine xr_iload hM 8 dL_linesHold_102 rfl ?_
      refine xr_iconst hM dL_linesHold_104 ?_
      refine xr_callVG (sg := [[(x 0, ob 4 [.ref (n 6), .ref (d 6), .ref (h 0), .ref (g 0)])], [(n 6, ob 3 [.ref (n 0), iv (pH X), iv (pA X), iv (pS X)])], linE T n (pX X), [(d 6, ob 3 [.ref (d 0), iv (pH Y), iv (pA Y), iv (pS Y)])], linE T d (pX Y), hisE T h b st sz nx H, prgE T g tx nm L s e p]) (sg' := [[(x 0, ob 4 [.ref (n 6), .ref (d 6), .ref (h 0), .ref (g 0)])], [(n 6, ob 3 [.ref (n 0), iv (pH X), iv (pA X), iv (pS X)])], linE T n (pX X), [(d 6, ob 3 [.ref (d 0), iv (pH Y), iv (pA Y), iv (pS Y)])], linE T d (pX Y), hisE T h b st sz nx H, prgE T g tx nm L s e p]) (cs := [[(x 0, ob 4 [.ref (n 6), .ref (d 6), .ref (h 0), .ref (g 0)])], [(n 6, ob 3 [.ref (n 0), iv (pH X), iv (pA X), iv (pS X)])], linE T n (pX X), [(d 6, ob 3 [.ref (d 0), iv (pH Y), iv (pA Y), iv (pS Y)])], linE T d (pX Y), hisE T h b st sz nx H, prgE T g tx nm L s e p]) (cs' := [[(x 0, ob 4 [.ref (n 6), .ref (d 6), .ref (h 0), .ref (g 0)])], [(n 6, ob 3 [.ref (n 0), iv (pH X), iv (pA X), iv (pS X)])], linE T n (pX X), [(d 6, ob 3 [.ref (d 0), iv (pH Y), iv (pA Y), iv (pS Y)])], linE T d (pX Y), hisE T h b st sz nx H, prgE T g tx nm L s e p]) (rest := []) (As := [iv (k : Int), iv 3]) (st' := [iv (gM (pX X) k)]) hM (ct_line_3 M.2.1 T x n d h g b st X Y H sz nx tx nm L s e p (k : Int) (hX) (hH) (hst) (hsz) (hnx) (ht) (by omega)) rfl rfl gL_linesHold_X4_line rfl ⟨rfl, rfl⟩ hy_X4_line rfl ⟨by decide, by decide⟩ [0, 1, 2, 3, 4, 5, 6] rfl rfl rfl 0 4 rfl rfl rfl rfl rfl (Nat.le_of_ble_eq_true rfl) ⟨by decide, by decide⟩ rfl dL_linesHold_105 ?_
      have hf105 := (hX).1.1.2.2.1 k
      refine xr_iconst hM dL_linesHold_108 ?_
      have jK_1 : VV T M 16 [(0, .ref (x 0)), (1, iv (gN (pX X))), (2, iv (tpF (pX X) k)), (3, iv (sumM (pX X) k)), (4, iv (snF (pX X) (tpF (pX X) (pA X).toNat + pS X) (pH X) k)), (5, iv (tpF (pX X) (pA X).toNat + pS X)), (6, iv (pH X)), (7, iv 1), (8, iv (k : Int)), (9, iv (gK (pX X) k)), (10, iv (gL (pX X) k)), (11, iv (rowsF (gW (pX X)) (gL (pX X) k))), (12, iv (htF (pX X) k))] (List.flatten [[(x 0, ob 4 [.ref (n 6), .ref (d 6), .ref (h 0), .ref (g 0)])], [(n 6, ob 3 [.ref (n 0), iv (pH X), iv (pA X), iv (pS X)])], linE T n (pX X), [(d 6, ob 3 [.ref (d 0), iv (pH Y), iv (pA Y), iv (pS Y)])], linE T d (pX Y), hisE T h b st sz nx H, prgE T g tx nm L s e p]) 0 0 117 [iv (gM (pX X) k)] := by
        refine xr_istore (lv' := [(0, .ref (x 0)), (1, iv (gN (pX X))), (2, iv (tpF (pX X) k)), (3, iv (sumM (pX X) k)), (4, iv (snF (pX X) (tpF (pX X) (pA X).toNat + pS X) (pH X) k)), (5, iv (tpF (pX X) (pA X).toNat + pS X)), (6, iv (pH X)), (7, iv 1), (8, iv (k : Int)), (9, iv (gK (pX X) k)), (10, iv (gL (pX X) k)), (11, iv (rowsF (gW (pX X)) (gL (pX X) k))), (12, iv (htF (pX X) k)), (13, iv (gM (pX X) k))]) hM dL_linesHold_117 (by decide) rfl rfl ?_
        refine xr_aload_n hM 0 dL_linesHold_119 rfl rfl ?_
        refine xr_iload hM 8 dL_linesHold_120 rfl ?_
        refine xr_bipush hM dL_linesHold_122 (by decide) ?_
        refine xr_callVG (sg := [[(x 0, ob 4 [.ref (n 6), .ref (d 6), .ref (h 0), .ref (g 0)])], [(n 6, ob 3 [.ref (n 0), iv (pH X), iv (pA X), iv (pS X)])], linE T n (pX X), [(d 6, ob 3 [.ref (d 0), iv (pH Y), iv (pA Y), iv (pS Y)])], linE T d (pX Y), hisE T h b st sz nx H, prgE T g tx nm L s e p]) (sg' := [[(x 0, ob 4 [.ref (n 6), .ref (d 6), .ref (h 0), .ref (g 0)])], [(n 6, ob 3 [.ref (n 0), iv (pH X), iv (pA X), iv (pS X)])], linE T n (pX X), [(d 6, ob 3 [.ref (d 0), iv (pH Y), iv (pA Y), iv (pS Y)])], linE T d (pX Y), hisE T h b st sz nx H, prgE T g tx nm L s e p]) (cs := [[(x 0, ob 4 [.ref (n 6), .ref (d 6), .ref (h 0), .ref (g 0)])], [(n 6, ob 3 [.ref (n 0), iv (pH X), iv (pA X), iv (pS X)])], linE T n (pX X), [(d 6, ob 3 [.ref (d 0), iv (pH Y), iv (pA Y), iv (pS Y)])], linE T d (pX Y), hisE T h b st sz nx H, prgE T g tx nm L s e p]) (cs' := [[(x 0, ob 4 [.ref (n 6), .ref (d 6), .ref (h 0), .ref (g 0)])], [(n 6, ob 3 [.ref (n 0), iv (pH X), iv (pA X), iv (pS X)])], linE T n (pX X), [(d 6, ob 3 [.ref (d 0), iv (pH Y), iv (pA Y), iv (pS Y)])], linE T d (pX Y), hisE T h b st sz nx H, prgE T g tx nm L s e p]) (rest := []) (As := [iv (k : Int), iv 6]) (st' := [iv (tpF (pX X) k - (tpF (pX X) (pA X).toNat + pS X))]) hM (ct_line_6 M.2.1 T x n d h g b st X Y H sz nx tx nm L s e p (k : Int) (hX) (hH) (hst) (hsz) (hnx) (ht) (by omega)) rfl rfl gL_linesHold_X4_line rfl ⟨rfl, rfl⟩ hy_X4_line rfl ⟨by decide, by decide⟩ [0, 1, 2, 3, 4, 5, 6] rfl rfl rfl 0 4 rfl rfl rfl rfl rfl (Nat.le_of_ble_eq_true rfl) ⟨by decide, by decide⟩ rfl dL_linesHold_124 ?_
        have hf124 := tpF_b (hX).1.1 k
        have hf124_1 := tpF_b (hX).1.1 (pA X).toNat
        have hf124_2 := (hX).an
        have hf124_3 := (hX).1.1.1
        have hf124_4 := (hX).1.2.2.2.2
        have hf124_5 := (hX).2
        refine xr_istore (lv' := [(0, .ref (x 0)), (1, iv (gN (pX X))), (2, iv (tpF (pX X) k)), (3, iv (sumM (pX X) k)), (4, iv (snF (pX X) (tpF (pX X) (pA X).toNat + pS X) (pH X) k)), (5, iv (tpF (pX X) (pA X).toNat + pS X)), (6, iv (pH X)), (7, iv 1), (8, iv (k : Int)), (9, iv (gK (pX X) k)), (10, iv (gL (pX X) k)), (11, iv (rowsF (gW (pX X)) (gL (pX X) k))), (12, iv (htF (pX X) k)), (13, iv (gM (pX X) k)), (14, iv (tpF (pX X) k - (tpF (pX X) (pA X).toNat + pS X)))]) hM dL_linesHold_127 (by decide) rfl rfl ?_
        refine xr_iload hM 14 dL_linesHold_129 rfl ?_
        refine xr_iload hM 6 dL_linesHold_131 rfl ?_
        have jK_2 : VV T M 16 [(0, .ref (x 0)), (1, iv (gN (pX X))), (2, iv (tpF (pX X) k)), (3, iv (sumM (pX X) k)), (4, iv (snF (pX X) (tpF (pX X) (pA X).toNat + pS X) (pH X) k)), (5, iv (tpF (pX X) (pA X).toNat + pS X)), (6, iv (pH X)), (7, iv 1), (8, iv (k : Int)), (9, iv (gK (pX X) k)), (10, iv (gL (pX X) k)), (11, iv (rowsF (gW (pX X)) (gL (pX X) k))), (12, iv (htF (pX X) k)), (13, iv (gM (pX X) k)), (14, iv (tpF (pX X) k - (tpF (pX X) (pA X).toNat + pS X)))] (List.flatten [[(x 0, ob 4 [.ref (n 6), .ref (d 6), .ref (h 0), .ref (g 0)])], [(n 6, ob 3 [.ref (n 0), iv (pH X), iv (pA X), iv (pS X)])], linE T n (pX X), [(d 6, ob 3 [.ref (d 0), iv (pH Y), iv (pA Y), iv (pS Y)])], linE T d (pX Y), hisE T h b st sz nx H, prgE T g tx nm L s e p]) 0 0 149 [iv (bi (tpF (pX X) k - (tpF (pX X) (pA X).toNat + pS X) < pH X ∧ 0 < tpF (pX X) k - (tpF (pX X) (pA X).toNat + pS X) + htF (pX X) k))] := by
          refine xr_istore (lv' := [(0, .ref (x 0)), (1, iv (gN (pX X))), (2, iv (tpF (pX X) k)), (3, iv (sumM (pX X) k)), (4, iv (snF (pX X) (tpF (pX X) (pA X).toNat + pS X) (pH X) k)), (5, iv (tpF (pX X) (pA X).toNat + pS X)), (6, iv (pH X)), (7, iv 1), (8, iv (k : Int)), (9, iv (gK (pX X) k)), (10, iv (gL (pX X) k)), (11, iv (rowsF (gW (pX X)) (gL (pX X) k))), (12, iv (htF (pX X) k)), (13, iv (gM (pX X) k)), (14, iv (tpF (pX X) k - (tpF (pX X) (pA X).toNat + pS X))), (15, iv (bi (tpF (pX X) k - (tpF (pX X) (pA X).toNat + pS X) < pH X ∧ 0 < tpF (pX X) k - (tpF (pX X) (pA X).toNat + pS X) + htF (pX X) k)))]) hM dL_linesHold_149 (by decide) rfl rfl ?_
          refine xr_aload_n hM 0 dL_linesHold_151 rfl rfl ?_
          refine xr_iload hM 8 dL_linesHold_152 rfl ?_
          refine xr_iconst hM dL_linesHold_154 ?_
          refine xr_callVG (sg := [[(x 0, ob 4 [.ref (n 6), .ref (d 6), .ref (h 0), .ref (g 0)])], [(n 6, ob 3 [.ref (n 0), iv (pH X), iv (pA X), iv (pS X)])], linE T n (pX X), [(d 6, ob 3 [.ref (d 0), iv (pH Y), iv (pA Y), iv (pS Y)])], linE T d (pX Y), hisE T h b st sz nx H, prgE T g tx nm L s e p]) (sg' := [[(x 0, ob 4 [.ref (n 6), .ref (d 6), .ref (h 0), .ref (g 0)])], [(n 6, ob 3 [.ref (n 0), iv (pH X), iv (pA X), iv (pS X)])], linE T n (pX X), [(d 6, ob 3 [.ref (d 0), iv (pH Y), iv (pA Y), iv (pS Y)])], linE T d (pX Y), hisE T h b st sz nx H, prgE T g tx nm L s e p]) (cs := [[(x 0, ob 4 [.ref (n 6), .ref (d 6), .ref (h 0), .ref (g 0)])], [(n 6, ob 3 [.ref (n 0), iv (pH X), iv (pA X), iv (pS X)])], linE T n (pX X), [(d 6, ob 3 [.ref (d 0), iv (pH Y), iv (pA Y), iv (pS Y)])], linE T d (pX Y), hisE T h b st sz nx H, prgE T g tx nm L s e p]) (cs' := [[(x 0, ob 4 [.ref (n 6), .ref (d 6), .ref (h 0), .ref (g 0)])], [(n 6, ob 3 [.ref (n 0), iv (pH X), iv (pA X), iv (pS X)])], linE T n (pX X), [(d 6, ob 3 [.ref (d 0), iv (pH Y), iv (pA Y), iv (pS Y)])], linE T d (pX Y), hisE T h b st sz nx H, prgE T g tx nm L s e p]) (rest := []) (As := [iv (k : Int), iv 5]) (st' := [iv (tH (gW (pX X)) (gK (pX X) k) (gL (pX X) k))]) hM (ct_line_5 M.2.1 T x n d h g b st X Y H sz nx tx nm L s e p (k : Int) (hX) (hH) (hst) (hsz) (hnx) (ht) (by omega)) rfl rfl gL_linesHold_X4_line rfl ⟨rfl, rfl⟩ hy_X4_line rfl ⟨by decide, by decide⟩ [0, 1, 2, 3, 4, 5, 6] rfl rfl rfl 0 4 rfl rfl rfl rfl rfl (Nat.le_of_ble_eq_true rfl) ⟨by decide, by decide⟩ rfl dL_linesHold_155 ?_
          have hf155 := tH_b (kind := gK (pX X) k) ⟨((hX).1.1.2.2.1 k).2.1, (hX).1.1.2.1⟩
          refine xr_iload hM 9 dL_linesHold_158 rfl ?_
          have jK_3 : VV T M 16 [(0, .ref (x 0)), (1, iv (gN (pX X))), (2, iv (tpF (pX X) k)), (3, iv (sumM (pX X) k)), (4, iv (snF (pX X) (tpF (pX X) (pA X).toNat + pS X) (pH X) k)), (5, iv (tpF (pX X) (pA X).toNat + pS X)), (6, iv (pH X)), (7, iv 1), (8, iv (k : Int)), (9, iv (gK (pX X) k)), (10, iv (gL (pX X) k)), (11, iv (rowsF (gW (pX X)) (gL (pX X) k))), (12, iv (htF (pX X) k)), (13, iv (gM (pX X) k)), (14, iv (tpF (pX X) k - (tpF (pX X) (pA X).toNat + pS X))), (15, iv (bi (tpF (pX X) k - (tpF (pX X) (pA X).toNat + pS X) < pH X ∧ 0 < tpF (pX X) k - (tpF (pX X) (pA X).toNat + pS X) + htF (pX X) k)))] (List.flatten [[(x 0, ob 4 [.ref (n 6), .ref (d 6), .ref (h 0), .ref (g 0)])], [(n 6, ob 3 [.ref (n 0), iv (pH X), iv (pA X), iv (pS X)])], linE T n (pX X), [(d 6, ob 3 [.ref (d 0), iv (pH Y), iv (pA Y), iv (pS Y)])], linE T d (pX Y), hisE T h b st sz nx H, prgE T g tx nm L s e p]) 0 0 195 [iv (tH (gW (pX X)) (gK (pX X) k) (gL (pX X) k)), iv (tH (gW (pX X)) (gK (pX X) k) (gL (pX X) k))] := by
            refine xr_icmp_ne hM 286 dL_linesHold_195 (by decide) (by omega) (fun c195 => by exfalso; omega) (fun c195 => ?_)
            refine xr_iload hM 12 dL_linesHold_198 rfl ?_
            refine xr_iload hM 13 dL_linesHold_200 rfl ?_
            have jK_4 : VV T M 16 [(0, .ref (x 0)), (1, iv (gN (pX X))), (2, iv (tpF (pX X) k)), (3, iv (sumM (pX X) k)), (4, iv (snF (pX X) (tpF (pX X) (pA X).toNat + pS X) (pH X) k)), (5, iv (tpF (pX X) (pA X).toNat + pS X)), (6, iv (pH X)), (7, iv 1), (8, iv (k : Int)), (9, iv (gK (pX X) k)), (10, iv (gL (pX X) k)), (11, iv (rowsF (gW (pX X)) (gL (pX X) k))), (12, iv (htF (pX X) k)), (13, iv (gM (pX X) k)), (14, iv (tpF (pX X) k - (tpF (pX X) (pA X).toNat + pS X))), (15, iv (bi (tpF (pX X) k - (tpF (pX X) (pA X).toNat + pS X) < pH X ∧ 0 < tpF (pX X) k - (tpF (pX X) (pA X).toNat + pS X) + htF (pX X) k)))] (List.flatten [[(x 0, ob 4 [.ref (n 6), .ref (d 6), .ref (h 0), .ref (g 0)])], [(n 6, ob 3 [.ref (n 0), iv (pH X), iv (pA X), iv (pS X)])], linE T n (pX X), [(d 6, ob 3 [.ref (d 0), iv (pH Y), iv (pA Y), iv (pS Y)])], linE T d (pX Y), hisE T h b st sz nx H, prgE T g tx nm L s e p]) 0 0 224 [iv (htF (pX X) k), iv (htF (pX X) k)] := by
              refine xr_icmp_ne hM 286 dL_linesHold_224 (by decide) (by omega) (fun c224 => by exfalso; omega) (fun c224 => ?_)
              refine xr_aload_n hM 0 dL_linesHold_227 rfl rfl ?_
              refine xr_iload hM 8 dL_linesHold_228 rfl ?_
              refine xr_iconst hM dL_linesHold_230 ?_
              refine xr_callVG (sg := [[(x 0, ob 4 [.ref (n 6), .ref (d 6), .ref (h 0), .ref (g 0)])], [(n 6, ob 3 [.ref (n 0), iv (pH X), iv (pA X), iv (pS X)])], linE T n (pX X), [(d 6, ob 3 [.ref (d 0), iv (pH Y), iv (pA Y), iv (pS Y)])], linE T d (pX Y), hisE T h b st sz nx H, prgE T g tx nm L s e p]) (sg' := [[(x 0, ob 4 [.ref (n 6), .ref (d 6), .ref (h 0), .ref (g 0)])], [(n 6, ob 3 [.ref (n 0), iv (pH X), iv (pA X), iv (pS X)])], linE T n (pX X), [(d 6, ob 3 [.ref (d 0), iv (pH Y), iv (pA Y), iv (pS Y)])], linE T d (pX Y), hisE T h b st sz nx H, prgE T g tx nm L s e p]) (cs := [[(x 0, ob 4 [.ref (n 6), .ref (d 6), .ref (h 0), .ref (g 0)])], [(n 6, ob 3 [.ref (n 0), iv (pH X), iv (pA X), iv (pS X)])], linE T n (pX X), [(d 6, ob 3 [.ref (d 0), iv (pH Y), iv (pA Y), iv (pS Y)])], linE T d (pX Y), hisE T h b st sz nx H, prgE T g tx nm L s e p]) (cs' := [[(x 0, ob 4 [.ref (n 6), .ref (d 6), .ref (h 0), .ref (g 0)])], [(n 6, ob 3 [.ref (n 0), iv (pH X), iv (pA X), iv (pS X)])], linE T n (pX X), [(d 6, ob 3 [.ref (d 0), iv (pH Y), iv (pA Y), iv (pS Y)])], linE T d (pX Y), hisE T h b st sz nx H, prgE T g tx nm L s e p]) (rest := []) (As := [iv (k : Int), iv 4]) (st' := [iv (tpF (pX X) k)]) hM (ct_line_4 M.2.1 T x n d h g b st X Y H sz nx tx nm L s e p (k : Int) (hX) (hH) (hst) (hsz) (hnx) (ht) (by omega)) rfl rfl gL_linesHold_X4_line rfl ⟨rfl, rfl⟩ hy_X4_line rfl ⟨by decide, by decide⟩ [0, 1, 2, 3, 4, 5, 6] rfl rfl rfl 0 4 rfl rfl rfl rfl rfl (Nat.le_of_ble_eq_true rfl) ⟨by decide, by decide⟩ rfl dL_linesHold_231 ?_
              have hf231 := tpF_b (hX).1.1 k
              refine xr_iload_n hM 2 dL_linesHold_234 rfl rfl ?_
              refine xr_icmp_ne hM 286 dL_linesHold_235 (by decide) (by omega) (fun c235 => by exfalso; omega) (fun c235 => ?_)
              refine xr_iload hM 14 dL_linesHold_238 rfl ?_
              refine xr_iload_n hM 2 dL_linesHold_240 rfl rfl ?_
              refine xr_iload hM 5 dL_linesHold_241 rfl ?_
              refine xr_isub hM dL_linesHold_243 ?_
              refine xr_icmp_ne hM 286 dL_linesHold_244 (by decide) (by omega) (fun c244 => by exfalso; omega) (fun c244 => ?_)
              refine xr_iload hM 13 dL_linesHold_247 rfl ?_
              have jK_5 : VV T M 16 [(0, .ref (x 0)), (1, iv (gN (pX X))), (2, iv (tpF (pX X) k)), (3, iv (sumM (pX X) k)), (4, iv (snF (pX X) (tpF (pX X) (pA X).toNat + pS X) (pH X) k)), (5, iv (tpF (pX X) (pA X).toNat + pS X)), (6, iv (pH X)), (7, iv 1), (8, iv (k : Int)), (9, iv (gK (pX X) k)), (10, iv (gL (pX X) k)), (11, iv (rowsF (gW (pX X)) (gL (pX X) k))), (12, iv (htF (pX X) k)), (13, iv (gM (pX X) k)), (14, iv (tpF (pX X) k - (tpF (pX X) (pA X).toNat + pS X))), (15, iv (bi (tpF (pX X) k - (tpF (pX X) (pA X).toNat + pS X) < pH X ∧ 0 < tpF (pX X) k - (tpF (pX X) (pA X).toNat + pS X) + htF (pX X) k)))] (List.flatten [[(x 0, ob 4 [.ref (n 6), .ref (d 6), .ref (h 0), .ref (g 0)])], [(n 6, ob 3 [.ref (n 0), iv (pH X), iv (pA X), iv (pS X)])], linE T n (pX X), [(d 6, ob 3 [.ref (d 0), iv (pH Y), iv (pA Y), iv (pS Y)])], linE T d (pX Y), hisE T h b st sz nx H, prgE T g tx nm L s e p]) 0 0 257 [] := by
                refine xr_aload_n hM 0 dL_linesHold_257 rfl rfl ?_
                refine xr_iload_n hM 2 dL_linesHold_258 rfl rfl ?_
                refine xr_callVG (sg := [[(x 0, ob 4 [.ref (n 6), .ref (d 6), .ref (h 0), .ref (g 0)])], [(n 6, ob 3 [.ref (n 0), iv (pH X), iv (pA X), iv (pS X)])], linE T n (pX X), [(d 6, ob 3 [.ref (d 0), iv (pH Y), iv (pA Y), iv (pS Y)])], linE T d (pX Y), hisE T h b st sz nx H, prgE T g tx nm L s e p]) (sg' := [[(x 0, ob 4 [.ref (n 6), .ref (d 6), .ref (h 0), .ref (g 0)])], [(n 6, ob 3 [.ref (n 0), iv (pH X), iv (pA X), iv (pS X)])], linE T n (pX X), [(d 6, ob 3 [.ref (d 0), iv (pH Y), iv (pA Y), iv (pS Y)])], linE T d (pX Y), hisE T h b st sz nx H, prgE T g tx nm L s e p]) (cs := [[(x 0, ob 4 [.ref (n 6), .ref (d 6), .ref (h 0), .ref (g 0)])], [(n 6, ob 3 [.ref (n 0), iv (pH X), iv (pA X), iv (pS X)])], linE T n (pX X), [(d 6, ob 3 [.ref (d 0), iv (pH Y), iv (pA Y), iv (pS Y)])], linE T d (pX Y), hisE T h b st sz nx H, prgE T g tx nm L s e p]) (cs' := [[(x 0, ob 4 [.ref (n 6), .ref (d 6), .ref (h 0), .ref (g 0)])], [(n 6, ob 3 [.ref (n 0), iv (pH X), iv (pA X), iv (pS X)])], linE T n (pX X), [(d 6, ob 3 [.ref (d 0), iv (pH Y), iv (pA Y), iv (pS Y)])], linE T d (pX Y), hisE T h b st sz nx H, prgE T g tx nm L s e p]) (rest := []) (As := [iv (tpF (pX X) k)]) (st' := [iv (atF X (tpF (pX X) k))]) hM (ct_X4_at M.2.1 T x n d h g b st X Y H sz nx tx nm L s e p (tpF (pX X) k) (hX) (hH) (hst) (hsz) (hnx) (ht) (by omega)) rfl rfl gL_linesHold_X4_at rfl ⟨rfl, rfl⟩ hy_X4_at rfl ⟨by decide, by decide⟩ [0, 1, 2, 3, 4, 5, 6] rfl rfl rfl 0 4 rfl rfl rfl rfl rfl (Nat.le_of_ble_eq_true rfl) ⟨by decide, by decide⟩ rfl dL_linesHold_259 ?_
                have hf259 := at_bd (hX) (tpF (pX X) k)
                refine xr_iload hM 8 dL_linesHold_262 rfl ?_
                refine xr_icmp_ne hM 286 dL_linesHold_264 (by decide) (by omega) (fun c264 => by exfalso; omega) (fun c264 => ?_)
                refine xr_aload_n hM 0 dL_linesHold_267 rfl rfl ?_
                refine xr_iload_n hM 2 dL_linesHold_268 rfl rfl ?_
                refine xr_iload hM 12 dL_linesHold_269 rfl ?_
                refine xr_iadd hM dL_linesHold_271 ?_
                refine xr_iconst hM dL_linesHold_272 ?_
                refine xr_isub hM dL_linesHold_273 ?_
                refine xr_callVG (sg := [[(x 0, ob 4 [.ref (n 6), .ref (d 6), .ref (h 0), .ref (g 0)])], [(n 6, ob 3 [.ref (n 0), iv (pH X), iv (pA X), iv (pS X)])], linE T n (pX X), [(d 6, ob 3 [.ref (d 0), iv (pH Y), iv (pA Y), iv (pS Y)])], linE T d (pX Y), hisE T h b st sz nx H, prgE T g tx nm L s e p]) (sg' := [[(x 0, ob 4 [.ref (n 6), .ref (d 6), .ref (h 0), .ref (g 0)])], [(n 6, ob 3 [.ref (n 0), iv (pH X), iv (pA X), iv (pS X)])], linE T n (pX X), [(d 6, ob 3 [.ref (d 0), iv (pH Y), iv (pA Y), iv (pS Y)])], linE T d (pX Y), hisE T h b st sz nx H, prgE T g tx nm L s e p]) (cs := [[(x 0, ob 4 [.ref (n 6), .ref (d 6), .ref (h 0), .ref (g 0)])], [(n 6, ob 3 [.ref (n 0), iv (pH X), iv (pA X), iv (pS X)])], linE T n (pX X), [(d 6, ob 3 [.ref (d 0), iv (pH Y), iv (pA Y), iv (pS Y)])], linE T d (pX Y), hisE T h b st sz nx H, prgE T g tx nm L s e p]) (cs' := [[(x 0, ob 4 [.ref (n 6), .ref (d 6), .ref (h 0), .ref (g 0)])], [(n 6, ob 3 [.ref (n 0), iv (pH X), iv (pA X), iv (pS X)])], linE T n (pX X), [(d 6, ob 3 [.ref (d 0), iv (pH Y), iv (pA Y), iv (pS Y)])], linE T d (pX Y), hisE T h b st sz nx H, prgE T g tx nm L s e p]) (rest := []) (As := [iv (((tpF (pX X) k) + (htF (pX X) k)) - 1)]) (st' := [iv (atF X (((tpF (pX X) k) + (htF (pX X) k)) - 1))]) hM (ct_X4_at M.2.1 T x n d h g b st X Y H sz nx tx nm L s e p (((tpF (pX X) k) + (htF (pX X) k)) - 1) (hX) (hH) (hst) (hsz) (hnx) (ht) (by omega)) rfl rfl gL_linesHold_X4_at rfl ⟨rfl, rfl⟩ hy_X4_at rfl ⟨by decide, by decide⟩ [0, 1, 2, 3, 4, 5, 6] rfl rfl rfl 0 4 rfl rfl rfl rfl rfl (Nat.le_of_ble_eq_true rfl) ⟨by decide, by decide⟩ rfl dL_linesHold_274 ?_
                have hf274 := at_bd (hX) (((tpF (pX X) k) + (htF (pX X) k)) - 1)
                refine xr_iload hM 8 dL_linesHold_277 rfl ?_
                refine xr_icmp_ne hM 286 dL_linesHold_279 (by decide) (by omega) (fun c279 => by exfalso; omega) (fun c279 => ?_)
                refine xr_iconst hM dL_linesHold_282 ?_
                refine xr_goto hM 287 dL_linesHold_283 (by decide) ?_
                refine xr_istore (lv' := [(0, .ref (x 0)), (1, iv (gN (pX X))), (2, iv (tpF (pX X) k)), (3, iv (sumM (pX X) k)), (4, iv (snF (pX X) (tpF (pX X) (pA X).toNat + pS X) (pH X) k)), (5, iv (tpF (pX X) (pA X).toNat + pS X)), (6, iv (pH X)), (7, iv 1), (8, iv (k : Int)), (9, iv (gK (pX X) k)), (10, iv (gL (pX X) k)), (11, iv (rowsF (gW (pX X)) (gL (pX X) k))), (12, iv (htF (pX X) k)), (13, iv (gM (pX X) k)), (14, iv (tpF (pX X) k - (tpF (pX X) (pA X).toNat + pS X))), (15, iv (bi (tpF (pX X) k - (tpF (pX X) (pA X).toNat + pS X) < pH X ∧ 0 < tpF (pX X) k - (tpF (pX X) (pA X).toNat + pS X) + htF (pX X) k)))]) hM dL_linesHold_287 (by decide) rfl rfl ?_
                refine xr_iload_n hM 3 dL_linesHold_289 rfl rfl ?_
                refine xr_iload hM 13 dL_linesHold_290 rfl ?_
                have jK_6 : VV T M 16 [(0, .ref (x 0)), (1, iv (gN (pX X))), (2, iv (tpF (pX X) k)), (3, iv (sumM (pX X) k)), (4, iv (snF (pX X) (tpF (pX X) (pA X).toNat + pS X) (pH X) k)), (5, iv (tpF (pX X) (pA X).toNat + pS X)), (6, iv (pH X)), (7, iv 1), (8, iv (k : Int)), (9, iv (gK (pX X) k)), (10, iv (gL (pX X) k)), (11, iv (rowsF (gW (pX X)) (gL (pX X) k))), (12, iv (htF (pX X) k)), (13, iv (gM (pX X) k)), (14, iv (tpF (pX X) k - (tpF (pX X) (pA X).toNat + pS X))), (15, iv (bi (tpF (pX X) k - (tpF (pX X) (pA X).toNat + pS X) < pH X ∧ 0 < tpF (pX X) k - (tpF (pX X) (pA X).toNat + pS X) + htF (pX X) k)))] (List.flatten [[(x 0, ob 4 [.ref (n 6), .ref (d 6), .ref (h 0), .ref (g 0)])], [(n 6, ob 3 [.ref (n 0), iv (pH X), iv (pA X), iv (pS X)])], linE T n (pX X), [(d 6, ob 3 [.ref (d 0), iv (pH Y), iv (pA Y), iv (pS Y)])], linE T d (pX Y), hisE T h b st sz nx H, prgE T g tx nm L s e p]) 0 0 300 [iv (gM (pX X) k), iv (sumM (pX X) k)] := by
                  refine xr_iadd hM dL_linesHold_300 ?_
                  refine xr_istore_n (lv' := [(0, .ref (x 0)), (1, iv (gN (pX X))), (2, iv (tpF (pX X) k)), (3, iv ((sumM (pX X) k) + (gM (pX X) k))), (4, iv (snF (pX X) (tpF (pX X) (pA X).toNat + pS X) (pH X) k)), (5, iv (tpF (pX X) (pA X).toNat + pS X)), (6, iv (pH X)), (7, iv 1), (8, iv (k : Int)), (9, iv (gK (pX X) k)), (10, iv (gL (pX X) k)), (11, iv (rowsF (gW (pX X)) (gL (pX X) k))), (12, iv (htF (pX X) k)), (13, iv (gM (pX X) k)), (14, iv (tpF (pX X) k - (tpF (pX X) (pA X).toNat + pS X))), (15, iv (bi (tpF (pX X) k - (tpF (pX X) (pA X).toNat + pS X) < pH X ∧ 0 < tpF (pX X) k - (tpF (pX X) (pA X).toNat + pS X) + htF (pX X) k)))]) hM dL_linesHold_301 rfl (by decide) rfl rfl ?_
                  refine xr_iload hM 4 dL_linesHold_302 rfl ?_
                  refine xr_iload hM 15 dL_linesHold_304 rfl ?_
                  have jK_7 : VV T M 16 [(0, .ref (x 0)), (1, iv (gN (pX X))), (2, iv (tpF (pX X) k)), (3, iv ((sumM (pX X) k) + (gM (pX X) k))), (4, iv (snF (pX X) (tpF (pX X) (pA X).toNat + pS X) (pH X) k)), (5, iv (tpF (pX X) (pA X).toNat + pS X)), (6, iv (pH X)), (7, iv 1), (8, iv (k : Int)), (9, iv (gK (pX X) k)), (10, iv (gL (pX X) k)), (11, iv (rowsF (gW (pX X)) (gL (pX X) k))), (12, iv (htF (pX X) k)), (13, iv (gM (pX X) k)), (14, iv (tpF (pX X) k - (tpF (pX X) (pA X).toNat + pS X))), (15, iv (bi (tpF (pX X) k - (tpF (pX X) (pA X).toNat + pS X) < pH X ∧ 0 < tpF (pX X) k - (tpF (pX X) (pA X).toNat + pS X) + htF (pX X) k)))] (List.flatten [[(x 0, ob 4 [.ref (n 6), .ref (d 6), .ref (h 0), .ref (g 0)])], [(n 6, ob 3 [.ref (n 0), iv (pH X), iv (pA X), iv (pS X)])], linE T n (pX X), [(d 6, ob 3 [.ref (d 0), iv (pH Y), iv (pA Y), iv (pS Y)])], linE T d (pX Y), hisE T h b st sz nx H, prgE T g tx nm L s e p]) 0 0 314 [iv (if tpF (pX X) k - (tpF (pX X) (pA X).toNat + pS X) < pH X ∧ 0 < tpF (pX X) k - (tpF (pX X) (pA X).toNat + pS X) + htF (pX X) k then 1 else 0), iv (snF (pX X) (tpF (pX X) (pA X).toNat + pS X) (pH X) k)] := by
                    refine xr_iadd hM dL_linesHold_314 ?_
                    refine xr_istore (lv' := [(0, .ref (x 0)), (1, iv (gN (pX X))), (2, iv (tpF (pX X) k)), (3, iv ((sumM (pX X) k) + (gM (pX X) k))), (4, iv ((snF (pX X) (tpF (pX X) (pA X).toNat + pS X) (pH X) k) + (if tpF (pX X) k - (tpF (pX X) (pA X).toNat + pS X) < pH X ∧ 0 < tpF (pX X) k - (tpF (pX X) (pA X).toNat + pS X) + htF (pX X) k then 1 else 0))), (5, iv (tpF (pX X) (pA X).toNat + pS X)), (6, iv (pH X)), (7, iv 1), (8, iv (k : Int)), (9, iv (gK (pX X) k)), (10, iv (gL (pX X) k)), (11, iv (rowsF (gW (pX X)) (gL (pX X) k))), (12, iv (htF (pX X) k)), (13, iv (gM (pX X) k)), (14, iv (tpF (pX X) k - (tpF (pX X) (pA X).toNat + pS X))), (15, iv (bi (tpF (pX X) k - (tpF (pX X) (pA X).toNat + pS X) < pH X ∧ 0 < tpF (pX X) k - (tpF (pX X) (pA X).toNat + pS X) + htF (pX X) k)))]) hM dL_linesHold_315 (by decide) rfl rfl ?_
                    refine xr_iload_n hM 2 dL_linesHold_317 rfl rfl ?_
                    refine xr_iload hM 12 dL_linesHold_318 rfl ?_
                    refine xr_iadd hM dL_linesHold_320 ?_
                    refine xr_istore_n (lv' := [(0, .ref (x 0)), (1, iv (gN (pX X))), (2, iv ((tpF (pX X) k) + (htF (pX X) k))), (3, iv ((sumM (pX X) k) + (gM (pX X) k))), (4, iv ((snF (pX X) (tpF (pX X) (pA X).toNat + pS X) (pH X) k) + (if tpF (pX X) k - (tpF (pX X) (pA X).toNat + pS X) < pH X ∧ 0 < tpF (pX X) k - (tpF (pX X) (pA X).toNat + pS X) + htF (pX X) k then 1 else 0))), (5, iv (tpF (pX X) (pA X).toNat + pS X)), (6, iv (pH X)), (7, iv 1), (8, iv (k : Int)), (9, iv (gK (pX X) k)), (10, iv (gL (pX X) k)), (11, iv (rowsF (gW (pX X)) (gL (pX X) k))), (12, iv (htF (pX X) k)), (13, iv (gM (pX X) k)), (14, iv (tpF (pX X) k - (tpF (pX X) (pA X).toNat + pS X))), (15, iv (bi (tpF (pX X) k - (tpF (pX X) (pA X).toNat + pS X) < pH X ∧ 0 < tpF (pX X) k - (tpF (pX X) (pA X).toNat + pS X) + htF (pX X) k)))]) hM dL_linesHold_321 rfl (by decide) rfl rfl ?_
                    refine xr_iinc (lv' := [(0, .ref (x 0)), (1, iv (gN (pX X))), (2, iv ((tpF (pX X) k) + (htF (pX X) k))), (3, iv ((sumM (pX X) k) + (gM (pX X) k))), (4, iv ((snF (pX X) (tpF (pX X) (pA X).toNat + pS X) (pH X) k) + (if tpF (pX X) k - (tpF (pX X) (pA X).toNat + pS X) < pH X ∧ 0 < tpF (pX X) k - (tpF (pX X) (pA X).toNat + pS X) + htF (pX X) k then 1 else 0))), (5, iv (tpF (pX X) (pA X).toNat + pS X)), (6, iv (pH X)), (7, iv 1), (8, iv ((k : Int) + 1)), (9, iv (gK (pX X) k)), (10, iv (gL (pX X) k)), (11, iv (rowsF (gW (pX X)) (gL (pX X) k))), (12, iv (htF (pX X) k)), (13, iv (gM (pX X) k)), (14, iv (tpF (pX X) k - (tpF (pX X) (pA X).toNat + pS X))), (15, iv (bi (tpF (pX X) k - (tpF (pX X) (pA X).toNat + pS X) < pH X ∧ 0 < tpF (pX X) k - (tpF (pX X) (pA X).toNat + pS X) + htF (pX X) k)))]) hM 8 dL_linesHold_322 rfl (by decide) rfl rfl ?_
                    refine xr_goto hM 34 dL_linesHold_325 (by decide) ?_
                    refine xr_pick [0, 1, 2, 3, 4, 5, 6, 7, 8] rfl ?_
                    exact ih (k + 1) (by omega)
                  refine xr_ifb_eq hM 313 dL_linesHold_306 (by decide) (fun c306 => ?_) (fun c306 => ?_)
                  · refine xr_iconst hM dL_linesHold_313 ?_
                    refine xr_topv (v' := if tpF (pX X) k - (tpF (pX X) (pA X).toNat + pS X) < pH X ∧ 0 < tpF (pX X) k - (tpF (pX X) (pA X).toNat + pS X) + htF (pX X) k then 1 else 0) ((if_neg c306).symm) ?_
                    exact jK_7
                  · refine xr_iconst hM dL_linesHold_309 ?_
                    refine xr_goto hM 314 dL_linesHold_310 (by decide) ?_
                    refine xr_topv (v' := if tpF (pX X) k - (tpF (pX X) (pA X).toNat + pS X) < pH X ∧ 0 < tpF (pX X) k - (tpF (pX X) (pA X).toNat + pS X) + htF (pX X) k then 1 else 0) ((if_pos c306).symm) ?_
                    exact jK_7
                refine xr_if_eq hM 299 dL_linesHold_292 (by decide) (by omega) (fun c292 => ?_) (fun c292 => ?_)
                · refine xr_iconst hM dL_linesHold_299 ?_
                  refine xr_topv (v' := gM (pX X) k) (by omega) ?_
                  exact jK_6
                · refine xr_iconst hM dL_linesHold_295 ?_
                  refine xr_goto hM 300 dL_linesHold_296 (by decide) ?_
                  refine xr_topv (v' := gM (pX X) k) (by omega) ?_
                  exact jK_6
              refine xr_if_ne hM 257 dL_linesHold_249 (by decide) (by omega) (fun c249 => ?_) (fun c249 => ?_)
              · exact jK_5
              · refine xr_iload hM 15 dL_linesHold_252 rfl ?_
                refine xr_ifb_ne hM 286 dL_linesHold_254 (by decide) (fun c254 => by exfalso; omega) (fun c254 => ?_)
                exact jK_5
            refine xr_if_eq hM 215 dL_linesHold_202 (by decide) (by omega) (fun c202 => ?_) (fun c202 => ?_)
            · refine xr_aload_n hM 0 dL_linesHold_215 rfl rfl ?_
              refine xr_bipush hM dL_linesHold_216 (by decide) ?_
              refine xr_iload hM 9 dL_linesHold_218 rfl ?_
              refine xr_iadd hM dL_linesHold_220 ?_
              refine xr_callVG (sg := [[(x 0, ob 4 [.ref (n 6), .ref (d 6), .ref (h 0), .ref (g 0)])], [(n 6, ob 3 [.ref (n 0), iv (pH X), iv (pA X), iv (pS X)])], linE T n (pX X), [(d 6, ob 3 [.ref (d 0), iv (pH Y), iv (pA Y), iv (pS Y)])], linE T d (pX Y), hisE T h b st sz nx H, prgE T g tx nm L s e p]) (sg' := [[(x 0, ob 4 [.ref (n 6), .ref (d 6), .ref (h 0), .ref (g 0)])], [(n 6, ob 3 [.ref (n 0), iv (pH X), iv (pA X), iv (pS X)])], linE T n (pX X), [(d 6, ob 3 [.ref (d 0), iv (pH Y), iv (pA Y), iv (pS Y)])], linE T d (pX Y), hisE T h b st sz nx H, prgE T g tx nm L s e p]) (cs := [[(x 0, ob 4 [.ref (n 6), .ref (d 6), .ref (h 0), .ref (g 0)])], [(n 6, ob 3 [.ref (n 0), iv (pH X), iv (pA X), iv (pS X)])], linE T n (pX X), [(d 6, ob 3 [.ref (d 0), iv (pH Y), iv (pA Y), iv (pS Y)])], linE T d (pX Y), hisE T h b st sz nx H, prgE T g tx nm L s e p]) (cs' := [[(x 0, ob 4 [.ref (n 6), .ref (d 6), .ref (h 0), .ref (g 0)])], [(n 6, ob 3 [.ref (n 0), iv (pH X), iv (pA X), iv (pS X)])], linE T n (pX X), [(d 6, ob 3 [.ref (d 0), iv (pH Y), iv (pA Y), iv (pS Y)])], linE T d (pX Y), hisE T h b st sz nx H, prgE T g tx nm L s e p]) (rest := [iv (htF (pX X) k)]) (As := [iv (8 + (gK (pX X) k))]) (st' := [iv (gsF (pX X) (gK (pX X) k)), iv (htF (pX X) k)]) hM (ct_count_g M.2.1 T x n d h g b st X Y H sz nx tx nm L s e p (gK (pX X) k) (hX) (hH) (hst) (hsz) (hnx) (ht) (by omega)) rfl rfl gL_linesHold_X4_count rfl ⟨rfl, rfl⟩ hy_X4_count rfl ⟨by decide, by decide⟩ [0, 1, 2, 3, 4, 5, 6] rfl rfl rfl 0 4 rfl rfl rfl rfl rfl (Nat.le_of_ble_eq_true rfl) ⟨by decide, by decide⟩ rfl dL_linesHold_221 ?_
              have hf221 := gsF_b (hX).1.1 (show 0 ≤ (gK (pX X) k) ∧ (gK (pX X) k) ≤ 2 by omega)
              refine xr_topv (v' := htF (pX X) k) ((htF_g (by omega)).symm) ?_
              exact jK_4
            · refine xr_aload_n hM 0 dL_linesHold_205 rfl rfl ?_
              refine xr_iload hM 8 dL_linesHold_206 rfl ?_
              refine xr_iconst hM dL_linesHold_208 ?_
              refine xr_callVG (sg := [[(x 0, ob 4 [.ref (n 6), .ref (d 6), .ref (h 0), .ref (g 0)])], [(n 6, ob 3 [.ref (n 0), iv (pH X), iv (pA X), iv (pS X)])], linE T n (pX X), [(d 6, ob 3 [.ref (d 0), iv (pH Y), iv (pA Y), iv (pS Y)])], linE T d (pX Y), hisE T h b st sz nx H, prgE T g tx nm L s e p]) (sg' := [[(x 0, ob 4 [.ref (n 6), .ref (d 6), .ref (h 0), .ref (g 0)])], [(n 6, ob 3 [.ref (n 0), iv (pH X), iv (pA X), iv (pS X)])], linE T n (pX X), [(d 6, ob 3 [.ref (d 0), iv (pH Y), iv (pA Y), iv (pS Y)])], linE T d (pX Y), hisE T h b st sz nx H, prgE T g tx nm L s e p]) (cs := [[(x 0, ob 4 [.ref (n 6), .ref (d 6), .ref (h 0), .ref (g 0)])], [(n 6, ob 3 [.ref (n 0), iv (pH X), iv (pA X), iv (pS X)])], linE T n (pX X), [(d 6, ob 3 [.ref (d 0), iv (pH Y), iv (pA Y), iv (pS Y)])], linE T d (pX Y), hisE T h b st sz nx H, prgE T g tx nm L s e p]) (cs' := [[(x 0, ob 4 [.ref (n 6), .ref (d 6), .ref (h 0), .ref (g 0)])], [(n 6, ob 3 [.ref (n 0), iv (pH X), iv (pA X), iv (pS X)])], linE T n (pX X), [(d 6, ob 3 [.ref (d 0), iv (pH Y), iv (pA Y), iv (pS Y)])], linE T d (pX Y), hisE T h b st sz nx H, prgE T g tx nm L s e p]) (rest := [iv (htF (pX X) k)]) (As := [iv (k : Int), iv 5]) (st' := [iv (tH (gW (pX X)) (gK (pX X) k) (gL (pX X) k)), iv (htF (pX X) k)]) hM (ct_line_5 M.2.1 T x n d h g b st X Y H sz nx tx nm L s e p (k : Int) (hX) (hH) (hst) (hsz) (hnx) (ht) (by omega)) rfl rfl gL_linesHold_X4_line rfl ⟨rfl, rfl⟩ hy_X4_line rfl ⟨by decide, by decide⟩ [0, 1, 2, 3, 4, 5, 6] rfl rfl rfl 0 4 rfl rfl rfl rfl rfl (Nat.le_of_ble_eq_true rfl) ⟨by decide, by decide⟩ rfl dL_linesHold_209 ?_
              have hf209 := tH_b (kind := gK (pX X) k) ⟨((hX).1.1.2.2.1 k).2.1, (hX).1.1.2.1⟩
              refine xr_goto hM 224 dL_linesHold_212 (by decide) ?_
              refine xr_topv (v' := htF (pX X) k) ((htF_m (by omega)).symm) ?_
              exact jK_4
          refine xr_if_ne hM 173 dL_linesHold_160 (by decide) (by omega) (fun c160 => ?_) (fun c160 => ?_)
          · refine xr_iload hM 9 dL_linesHold_173 rfl ?_
            refine xr_iconst hM dL_linesHold_175 ?_
            refine xr_icmp_ne hM 190 dL_linesHold_176 (by decide) (by omega) (fun c176 => ?_) (fun c176 => ?_)
            · refine xr_iload hM 10 dL_linesHold_190 rfl ?_
              refine xr_bipush hM dL_linesHold_192 (by decide) ?_
              refine xr_iadd hM dL_linesHold_194 ?_
              refine xr_topv (v' := tH (gW (pX X)) (gK (pX X) k) (gL (pX X) k)) (by unfold tH; rw [if_neg (by omega), if_neg (by omega)]) ?_
              exact jK_3
            · refine xr_bipush hM dL_linesHold_179 (by decide) ?_
              refine xr_iload hM 11 dL_linesHold_181 rfl ?_
              refine xr_imul hM dL_linesHold_183 ?_
              refine xr_bipush hM dL_linesHold_184 (by decide) ?_
              refine xr_iadd hM dL_linesHold_186 ?_
              refine xr_goto hM 195 dL_linesHold_187 (by decide) ?_
              refine xr_topv (v' := tH (gW (pX X)) (gK (pX X) k) (gL (pX X) k)) (by unfold tH; rw [if_neg (by omega), if_pos (by omega)]) ?_
              exact jK_3
          · refine xr_bipush hM dL_linesHold_163 (by decide) ?_
            refine xr_iload hM 11 dL_linesHold_165 rfl ?_
            refine xr_imul hM dL_linesHold_167 ?_
            refine xr_iconst hM dL_linesHold_168 ?_
            refine xr_iadd hM dL_linesHold_169 ?_
            refine xr_goto hM 195 dL_linesHold_170 (by decide) ?_
            refine xr_topv (v' := tH (gW (pX X)) (gK (pX X) k) (gL (pX X) k)) (by unfold tH; rw [if_pos (by omega)]) ?_
            exact jK_3
        refine xr_icmp_ge hM 148 dL_linesHold_133 (by decide) (by omega) (fun c133 => ?_) (fun c133 => ?_)
        · refine xr_iconst hM dL_linesHold_148 ?_
          refine xr_topv (v' := bi (tpF (pX X) k - (tpF (pX X) (pA X).toNat + pS X) < pH X ∧ 0 < tpF (pX X) k - (tpF (pX X) (pA X).toNat + pS X) + htF (pX X) k)) ((bi_f (by omega)).symm) ?_
          exact jK_2
        · refine xr_iload hM 14 dL_linesHold_136 rfl ?_
          refine xr_iload hM 12 dL_linesHold_138 rfl ?_
          refine xr_iadd hM dL_linesHold_140 ?_
          refine xr_if_le hM 148 dL_linesHold_141 (by decide) (by omega) (fun c141 => ?_) (fun c141 => ?_)
          · refine xr_iconst hM dL_linesHold_148 ?_
            refine xr_topv (v' := bi (tpF (pX X) k - (tpF (pX X) (pA X).toNat + pS X) < pH X ∧ 0 < tpF (pX X) k - (tpF (pX X) (pA X).toNat + pS X) + htF (pX X) k)) ((bi_f (by omega)).symm) ?_
            exact jK_2
          · refine xr_iconst hM dL_linesHold_144 ?_
            refine xr_goto hM 149 dL_linesHold_145 (by decide) ?_
            refine xr_topv (v' := bi (tpF (pX X) k - (tpF (pX X) (pA X).toNat + pS X) < pH X ∧ 0 < tpF (pX X) k - (tpF (pX X) (pA X).toNat + pS X) + htF (pX X) k)) ((bi_t (by omega)).symm) ?_
            exact jK_2
      refine xr_icmp_ne hM 116 dL_linesHold_109 (by decide) (by omega) (fun c109 => ?_) (fun c109 => ?_)
      · refine xr_iconst hM dL_linesHold_116 ?_
        refine xr_topv (v' := gM (pX X) k) (by omega) ?_
        exact jK_1
      · refine xr_iconst hM dL_linesHold_112 ?_
        refine xr_goto hM 117 dL_linesHold_113 (by decide) ?_
        refine xr_topv (v' := gM (pX X) k) (by omega) ?_
        exact jK_1
    refine xr_if_ne hM 72 dL_linesHold_65 (by decide) (by omega) (fun c65 => ?_) (fun c65 => ?_)
    · refine xr_iload hM 10 dL_linesHold_72 rfl ?_
      refine xr_aload_n hM 0 dL_linesHold_74 rfl rfl ?_
      refine xr_bipush hM dL_linesHold_75 (by decide) ?_
      refine xr_callVG (sg := [[(x 0, ob 4 [.ref (n 6), .ref (d 6), .ref (h 0), .ref (g 0)])], [(n 6, ob 3 [.ref (n 0), iv (pH X), iv (pA X), iv (pS X)])], linE T n (pX X), [(d 6, ob 3 [.ref (d 0), iv (pH Y), iv (pA Y), iv (pS Y)])], linE T d (pX Y), hisE T h b st sz nx H, prgE T g tx nm L s e p]) (sg' := [[(x 0, ob 4 [.ref (n 6), .ref (d 6), .ref (h 0), .ref (g 0)])], [(n 6, ob 3 [.ref (n 0), iv (pH X), iv (pA X), iv (pS X)])], linE T n (pX X), [(d 6, ob 3 [.ref (d 0), iv (pH Y), iv (pA Y), iv (pS Y)])], linE T d (pX Y), hisE T h b st sz nx H, prgE T g tx nm L s e p]) (cs := [[(x 0, ob 4 [.ref (n 6), .ref (d 6), .ref (h 0), .ref (g 0)])], [(n 6, ob 3 [.ref (n 0), iv (pH X), iv (pA X), iv (pS X)])], linE T n (pX X), [(d 6, ob 3 [.ref (d 0), iv (pH Y), iv (pA Y), iv (pS Y)])], linE T d (pX Y), hisE T h b st sz nx H, prgE T g tx nm L s e p]) (cs' := [[(x 0, ob 4 [.ref (n 6), .ref (d 6), .ref (h 0), .ref (g 0)])], [(n 6, ob 3 [.ref (n 0), iv (pH X), iv (pA X), iv (pS X)])], linE T n (pX X), [(d 6, ob 3 [.ref (d 0), iv (pH Y), iv (pA Y), iv (pS Y)])], linE T d (pX Y), hisE T h b st sz nx H, prgE T g tx nm L s e p]) (rest := [iv (gL (pX X) k)]) (As := [iv 7]) (st' := [iv (gW (pX X)), iv (gL (pX X) k)]) hM (ct_count_7 M.2.1 T x n d h g b st X Y H sz nx tx nm L s e p (hX) (hH) (hst) (hsz) (hnx) (ht)) rfl rfl gL_linesHold_X4_count rfl ⟨rfl, rfl⟩ hy_X4_count rfl ⟨by decide, by decide⟩ [0, 1, 2, 3, 4, 5, 6] rfl rfl rfl 0 4 rfl rfl rfl rfl rfl (Nat.le_of_ble_eq_true rfl) ⟨by decide, by decide⟩ rfl dL_linesHold_77 ?_
      have hf77 := (hX).1.1.2.1
      refine xr_iadd hM dL_linesHold_80 ?_
      refine xr_iconst hM dL_linesHold_81 ?_
      refine xr_isub hM dL_linesHold_82 ?_
      refine xr_aload_n hM 0 dL_linesHold_83 rfl rfl ?_
      refine xr_bipush hM dL_linesHold_84 (by decide) ?_
      refine xr_callVG (sg := [[(x 0, ob 4 [.ref (n 6), .ref (d 6), .ref (h 0), .ref (g 0)])], [(n 6, ob 3 [.ref (n 0), iv (pH X), iv (pA X), iv (pS X)])], linE T n (pX X), [(d 6, ob 3 [.ref (d 0), iv (pH Y), iv (pA Y), iv (pS Y)])], linE T d (pX Y), hisE T h b st sz nx H, prgE T g tx nm L s e p]) (sg' := [[(x 0, ob 4 [.ref (n 6), .ref (d 6), .ref (h 0), .ref (g 0)])], [(n 6, ob 3 [.ref (n 0), iv (pH X), iv (pA X), iv (pS X)])], linE T n (pX X), [(d 6, ob 3 [.ref (d 0), iv (pH Y), iv (pA Y), iv (pS Y)])], linE T d (pX Y), hisE T h b st sz nx H, prgE T g tx nm L s e p]) (cs := [[(x 0, ob 4 [.ref (n 6), .ref (d 6), .ref (h 0), .ref (g 0)])], [(n 6, ob 3 [.ref (n 0), iv (pH X), iv (pA X), iv (pS X)])], linE T n (pX X), [(d 6, ob 3 [.ref (d 0), iv (pH Y), iv (pA Y), iv (pS Y)])], linE T d (pX Y), hisE T h b st sz nx H, prgE T g tx nm L s e p]) (cs' := [[(x 0, ob 4 [.ref (n 6), .ref (d 6), .ref (h 0), .ref (g 0)])], [(n 6, ob 3 [.ref (n 0), iv (pH X), iv (pA X), iv (pS X)])], linE T n (pX X), [(d 6, ob 3 [.ref (d 0), iv (pH Y), iv (pA Y), iv (pS Y)])], linE T d (pX Y), hisE T h b st sz nx H, prgE T g tx nm L s e p]) (rest := [iv (((gL (pX X) k) + (gW (pX X))) - 1)]) (As := [iv 7]) (st' := [iv (gW (pX X)), iv (((gL (pX X) k) + (gW (pX X))) - 1)]) hM (ct_count_7 M.2.1 T x n d h g b st X Y H sz nx tx nm L s e p (hX) (hH) (hst) (hsz) (hnx) (ht)) rfl rfl gL_linesHold_X4_count rfl ⟨rfl, rfl⟩ hy_X4_count rfl ⟨by decide, by decide⟩ [0, 1, 2, 3, 4, 5, 6] rfl rfl rfl 0 4 rfl rfl rfl rfl rfl (Nat.le_of_ble_eq_true rfl) ⟨by decide, by decide⟩ rfl dL_linesHold_86 ?_
      have hf86 := (hX).1.1.2.1
      refine xr_idiv hM dL_linesHold_89 (by omega) ?_
      refine xr_topv (v' := rowsF (gW (pX X)) (gL (pX X) k)) (by unfold rowsF; rw [if_pos (by omega)]) ?_
      exact jK
    · refine xr_iconst hM dL_linesHold_68 ?_
      refine xr_goto hM 90 dL_linesHold_69 (by decide) ?_
      refine xr_topv (v' := rowsF (gW (pX X)) (gL (pX X) k)) (by unfold rowsF; rw [if_neg (by omega)]) ?_
      exact jK

theorem ct_L_linesHold (l : Launch) (T : TT) (x n d h g : Nat → Nat) (b : Nat → Nat → Nat) (st : Nat → Option Nat) (X Y : WnS) (H : Nat → WnS) (sz nx : Int) (tx nm : Nat → Int) (L s e p : Int)  (hX : WW X) (hH : ∀ k, WW (H k)) (hst : HST b st) (hsz : 0 ≤ sz ∧ sz ≤ 5) (hnx : 0 ≤ nx ∧ nx < 5) (ht : TXI tx L) (hS : SE X) : CT l yL_linesHold wsL_linesHold rm_L_linesHold T [.ref (x 0)] (List.flatten [[(x 0, ob 4 [.ref (n 6), .ref (d 6), .ref (h 0), .ref (g 0)])], [(n 6, ob 3 [.ref (n 0), iv (pH X), iv (pA X), iv (pS X)])], linE T n (pX X), [(d 6, ob 3 [.ref (d 0), iv (pH Y), iv (pA Y), iv (pS Y)])], linE T d (pX Y), hisE T h b st sz nx H, prgE T g tx nm L s e p]) (some (iv 1)) (List.flatten [[(x 0, ob 4 [.ref (n 6), .ref (d 6), .ref (h 0), .ref (g 0)])], [(n 6, ob 3 [.ref (n 0), iv (pH X), iv (pA X), iv (pS X)])], linE T n (pX X), [(d 6, ob 3 [.ref (d 0), iv (pH Y), iv (pA Y), iv (pS Y)])], linE T d (pX Y), hisE T h b st sz nx H, prgE T g tx nm L s e p]) := by
  refine CT.Z (maxL := 16) (lv0 := [(0, .ref (x 0))]) hp_L_linesHold rfl (Nat.le_of_ble_eq_true rfl) rfl rfl (fun M hM hF => ?_)
  have hn0 := hX.1.1.1
  have hwd := hX.1.1.2.1
  have hHH := hX.1.2.1
  have hAn := hX.an
  have hSb := hX.1.2.2.2.2
  have hSs := hX.2
  have hta := tpF_b hX.1.1 (pA X).toNat
  have htn := tpF_b hX.1.1 (gN (pX X)).toNat
  refine xr_aload_n hM 0 dL_linesHold_0 rfl rfl ?_
  refine xr_iconst hM dL_linesHold_1 ?_
  refine xr_callVG (sg := [[(x 0, ob 4 [.ref (n 6), .ref (d 6), .ref (h 0), .ref (g 0)])], [(n 6, ob 3 [.ref (n 0), iv (pH X), iv (pA X), iv (pS X)])], linE T n (pX X), [(d 6, ob 3 [.ref (d 0), iv (pH Y), iv (pA Y), iv (pS Y)])], linE T d (pX Y), hisE T h b st sz nx H, prgE T g tx nm L s e p]) (sg' := [[(x 0, ob 4 [.ref (n 6), .ref (d 6), .ref (h 0), .ref (g 0)])], [(n 6, ob 3 [.ref (n 0), iv (pH X), iv (pA X), iv (pS X)])], linE T n (pX X), [(d 6, ob 3 [.ref (d 0), iv (pH Y), iv (pA Y), iv (pS Y)])], linE T d (pX Y), hisE T h b st sz nx H, prgE T g tx nm L s e p]) (cs := [[(x 0, ob 4 [.ref (n 6), .ref (d 6), .ref (h 0), .ref (g 0)])], [(n 6, ob 3 [.ref (n 0), iv (pH X), iv (pA X), iv (pS X)])], linE T n (pX X), [(d 6, ob 3 [.ref (d 0), iv (pH Y), iv (pA Y), iv (pS Y)])], linE T d (pX Y), hisE T h b st sz nx H, prgE T g tx nm L s e p]) (cs' := [[(x 0, ob 4 [.ref (n 6), .ref (d 6), .ref (h 0), .ref (g 0)])], [(n 6, ob 3 [.ref (n 0), iv (pH X), iv (pA X), iv (pS X)])], linE T n (pX X), [(d 6, ob 3 [.ref (d 0), iv (pH Y), iv (pA Y), iv (pS Y)])], linE T d (pX Y), hisE T h b st sz nx H, prgE T g tx nm L s e p]) (rest := []) (As := [iv 0]) (st' := [iv (gN (pX X))]) hM (ct_count_0 M.2.1 T x n d h g b st X Y H sz nx tx nm L s e p (hX) (hH) (hst) (hsz) (hnx) (ht)) rfl rfl gL_linesHold_X4_count rfl ⟨rfl, rfl⟩ hy_X4_count rfl ⟨by decide, by decide⟩ [0, 1, 2, 3, 4, 5, 6] rfl rfl rfl 0 4 rfl rfl rfl rfl rfl (Nat.le_of_ble_eq_true rfl) ⟨by decide, by decide⟩ rfl dL_linesHold_2 ?_
  have hf2 := (hX).1.1.1
  refine xr_istore_n (lv' := [(0, .ref (x 0)), (1, iv (gN (pX X)))]) hM dL_linesHold_5 rfl (by decide) rfl rfl ?_
  refine xr_iconst hM dL_linesHold_6 ?_
  refine xr_istore_n (lv' := [(0, .ref (x 0)), (1, iv (gN (pX X))), (2, iv 0)]) hM dL_linesHold_7 rfl (by decide) rfl rfl ?_
  refine xr_iconst hM dL_linesHold_8 ?_
  refine xr_istore_n (lv' := [(0, .ref (x 0)), (1, iv (gN (pX X))), (2, iv 0), (3, iv 0)]) hM dL_linesHold_9 rfl (by decide) rfl rfl ?_
  refine xr_iconst hM dL_linesHold_10 ?_
  refine xr_istore (lv' := [(0, .ref (x 0)), (1, iv (gN (pX X))), (2, iv 0), (3, iv 0), (4, iv 0)]) hM dL_linesHold_11 (by decide) rfl rfl ?_
  refine xr_aload_n hM 0 dL_linesHold_13 rfl rfl ?_
  refine xr_iconst hM dL_linesHold_14 ?_
  refine xr_callVG (sg := [[(x 0, ob 4 [.ref (n 6), .ref (d 6), .ref (h 0), .ref (g 0)])], [(n 6, ob 3 [.ref (n 0), iv (pH X), iv (pA X), iv (pS X)])], linE T n (pX X), [(d 6, ob 3 [.ref (d 0), iv (pH Y), iv (pA Y), iv (pS Y)])], linE T d (pX Y), hisE T h b st sz nx H, prgE T g tx nm L s e p]) (sg' := [[(x 0, ob 4 [.ref (n 6), .ref (d 6), .ref (h 0), .ref (g 0)])], [(n 6, ob 3 [.ref (n 0), iv (pH X), iv (pA X), iv (pS X)])], linE T n (pX X), [(d 6, ob 3 [.ref (d 0), iv (pH Y), iv (pA Y), iv (pS Y)])], linE T d (pX Y), hisE T h b st sz nx H, prgE T g tx nm L s e p]) (cs := [[(x 0, ob 4 [.ref (n 6), .ref (d 6), .ref (h 0), .ref (g 0)])], [(n 6, ob 3 [.ref (n 0), iv (pH X), iv (pA X), iv (pS X)])], linE T n (pX X), [(d 6, ob 3 [.ref (d 0), iv (pH Y), iv (pA Y), iv (pS Y)])], linE T d (pX Y), hisE T h b st sz nx H, prgE T g tx nm L s e p]) (cs' := [[(x 0, ob 4 [.ref (n 6), .ref (d 6), .ref (h 0), .ref (g 0)])], [(n 6, ob 3 [.ref (n 0), iv (pH X), iv (pA X), iv (pS X)])], linE T n (pX X), [(d 6, ob 3 [.ref (d 0), iv (pH Y), iv (pA Y), iv (pS Y)])], linE T d (pX Y), hisE T h b st sz nx H, prgE T g tx nm L s e p]) (rest := []) (As := [iv 5]) (st' := [iv (tpF (pX X) (pA X).toNat + pS X)]) hM (ct_count_5 M.2.1 T x n d h g b st X Y H sz nx tx nm L s e p (hX) (hH) (hst) (hsz) (hnx) (ht)) rfl rfl gL_linesHold_X4_count rfl ⟨rfl, rfl⟩ hy_X4_count rfl ⟨by decide, by decide⟩ [0, 1, 2, 3, 4, 5, 6] rfl rfl rfl 0 4 rfl rfl rfl rfl rfl (Nat.le_of_ble_eq_true rfl) ⟨by decide, by decide⟩ rfl dL_linesHold_15 ?_
  have hf15 := tpF_b (hX).1.1 (pA X).toNat
  have hf15_1 := (hX).an
  have hf15_2 := (hX).1.1.1
  have hf15_3 := (hX).1.2.2.2.2
  have hf15_4 := (hX).2
  refine xr_istore (lv' := [(0, .ref (x 0)), (1, iv (gN (pX X))), (2, iv 0), (3, iv 0), (4, iv 0), (5, iv (tpF (pX X) (pA X).toNat + pS X))]) hM dL_linesHold_18 (by decide) rfl rfl ?_
  refine xr_aload_n hM 0 dL_linesHold_20 rfl rfl ?_
  refine xr_bipush hM dL_linesHold_21 (by decide) ?_
  refine xr_callVG (sg := [[(x 0, ob 4 [.ref (n 6), .ref (d 6), .ref (h 0), .ref (g 0)])], [(n 6, ob 3 [.ref (n 0), iv (pH X), iv (pA X), iv (pS X)])], linE T n (pX X), [(d 6, ob 3 [.ref (d 0), iv (pH Y), iv (pA Y), iv (pS Y)])], linE T d (pX Y), hisE T h b st sz nx H, prgE T g tx nm L s e p]) (sg' := [[(x 0, ob 4 [.ref (n 6), .ref (d 6), .ref (h 0), .ref (g 0)])], [(n 6, ob 3 [.ref (n 0), iv (pH X), iv (pA X), iv (pS X)])], linE T n (pX X), [(d 6, ob 3 [.ref (d 0), iv (pH Y), iv (pA Y), iv (pS Y)])], linE T d (pX Y), hisE T h b st sz nx H, prgE T g tx nm L s e p]) (cs := [[(x 0, ob 4 [.ref (n 6), .ref (d 6), .ref (h 0), .ref (g 0)])], [(n 6, ob 3 [.ref (n 0), iv (pH X), iv (pA X), iv (pS X)])], linE T n (pX X), [(d 6, ob 3 [.ref (d 0), iv (pH Y), iv (pA Y), iv (pS Y)])], linE T d (pX Y), hisE T h b st sz nx H, prgE T g tx nm L s e p]) (cs' := [[(x 0, ob 4 [.ref (n 6), .ref (d 6), .ref (h 0), .ref (g 0)])], [(n 6, ob 3 [.ref (n 0), iv (pH X), iv (pA X), iv (pS X)])], linE T n (pX X), [(d 6, ob 3 [.ref (d 0), iv (pH Y), iv (pA Y), iv (pS Y)])], linE T d (pX Y), hisE T h b st sz nx H, prgE T g tx nm L s e p]) (rest := []) (As := [iv 6]) (st' := [iv (pH X)]) hM (ct_count_6 M.2.1 T x n d h g b st X Y H sz nx tx nm L s e p (hX) (hH) (hst) (hsz) (hnx) (ht)) rfl rfl gL_linesHold_X4_count rfl ⟨rfl, rfl⟩ hy_X4_count rfl ⟨by decide, by decide⟩ [0, 1, 2, 3, 4, 5, 6] rfl rfl rfl 0 4 rfl rfl rfl rfl rfl (Nat.le_of_ble_eq_true rfl) ⟨by decide, by decide⟩ rfl dL_linesHold_23 ?_
  have hf23 := (hX).1.2.1
  refine xr_istore (lv' := [(0, .ref (x 0)), (1, iv (gN (pX X))), (2, iv 0), (3, iv 0), (4, iv 0), (5, iv (tpF (pX X) (pA X).toNat + pS X)), (6, iv (pH X))]) hM dL_linesHold_26 (by decide) rfl rfl ?_
  refine xr_iconst hM dL_linesHold_28 ?_
  refine xr_istore (lv' := [(0, .ref (x 0)), (1, iv (gN (pX X))), (2, iv 0), (3, iv 0), (4, iv 0), (5, iv (tpF (pX X) (pA X).toNat + pS X)), (6, iv (pH X)), (7, iv 1)]) hM dL_linesHold_29 (by decide) rfl rfl ?_
  refine xr_iconst hM dL_linesHold_31 ?_
  refine xr_istore (lv' := [(0, .ref (x 0)), (1, iv (gN (pX X))), (2, iv 0), (3, iv 0), (4, iv 0), (5, iv (tpF (pX X) (pA X).toNat + pS X)), (6, iv (pH X)), (7, iv 1), (8, iv 0)]) hM dL_linesHold_32 (by decide) rfl rfl ?_
  refine xr_re (lv' := [(0, .ref (x 0)), (1, iv (gN (pX X))), (2, iv (tpF (pX X) 0)), (3, iv (sumM (pX X) 0)), (4, iv (snF (pX X) (tpF (pX X) (pA X).toNat + pS X) (pH X) 0)), (5, iv (tpF (pX X) (pA X).toNat + pS X)), (6, iv (pH X)), (7, iv 1), (8, iv ((0 : Nat) : Int))]) (ws' := List.flatten [[(x 0, ob 4 [.ref (n 6), .ref (d 6), .ref (h 0), .ref (g 0)])], [(n 6, ob 3 [.ref (n 0), iv (pH X), iv (pA X), iv (pS X)])], linE T n (pX X), [(d 6, ob 3 [.ref (d 0), iv (pH Y), iv (pA Y), iv (pS Y)])], linE T d (pX Y), hisE T h b st sz nx H, prgE T g tx nm L s e p]) (st' := []) rfl rfl rfl ?_
  exact lp_L_linesHold x n d h g b st X Y H sz nx tx nm L s e p hX hH hst hsz hnx ht hS hM hF (gN (pX X)).toNat 0 (by omega)

