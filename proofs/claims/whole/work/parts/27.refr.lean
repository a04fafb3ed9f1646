theorem lp_run_15 {T : TT} {M : MB} (r : Nat → Nat) (sT lE : Int) (bf tr ps te tx : AR) (H : Nat → WnS) (nx : Int) (X : WnS) (hrX : Rep bf X) (hX : WW X) (hp : RHc ps H sT nx) (hHW : ∀ k, WW (H k)) (hsz : 0 ≤ sT ∧ sT ≤ 5) (hnx : 0 ≤ nx ∧ nx < 5) (hte : TE te tx lE) (ht : TXI tx lE) (R : Int × WnS × (Nat → Int) × Int × Int × Int) (hM : FM T M cX5_run RX5 3 wsX5_run rm_X5_run) (hF : ∀ v_ : Nat → AR, Rep (v_ 1) (kpX (R).1 X (R).2.1) ∧ RHc (v_ 4) (kpH (R).1 H nx X) (kpZ (R).1 sT) (kpN (R).1 nx) ∧ NB3 (v_ 7) → FinI T M cX5_run 3 (iv R.1) ([(r 0, ob 5 [.ref (r 1), .ref (r 2), .ref (r 3), .ref (r 4), iv (kpZ (R).1 sT), .ref (r 5), iv (if 0 ≤ (R).1 then 0 else lE), .ref (r 6), iv (v_ 8 0), iv (v_ 8 1), iv (v_ 8 2), .ref (r 7)]), (r 1, ia T.2.1 305 (v_ 1)), (r 2, ia T.2.1 305 (v_ 2)), (r 3, ia T.2.1 305 (v_ 3)), (r 4, ia T.2.1 1525 (v_ 4)), (r 5, ia T.2.1 100 te), (r 6, ia T.2.1 3 (v_ 6)), (r 7, ia T.2.1 3 (v_ 7))])) : ∀ (f : Nat) (Q : WnS) (w gs nb nm : AR) (e p i fR wR : Int), WW Q → Rep w Q → NB3 nb → (0 ≤ e ∧ e ≤ lE) → (0 ≤ p ∧ p ≤ 100) → (0 ≤ i ∧ i ≤ e ∧ i + f = 101) → ruL tx lE f Q (rcF tx nm lE e p).1 (rcF tx nm lE e p).2.1 (rcF tx nm lE e p).2.2.1 (rcF tx nm lE e p).2.2.2.1 i (rcF tx nm lE e p).2.2.2.2.2 = R → VV T M 3 [(0, .ref (r 0)), (1, iv i)] [(r 0, ob 5 [.ref (r 1), .ref (r 2), .ref (r 3), .ref (r 4), iv sT, .ref (r 5), iv lE, .ref (r 6), iv (skF tx lE e), iv fR, iv wR, .ref (r 7)]), (r 1, ia T.2.1 305 w), (r 2, ia T.2.1 305 bf), (r 3, ia T.2.1 305 tr), (r 4, ia T.2.1 1525 ps), (r 5, ia T.2.1 100 te), (r 6, ia T.2.1 3 gs), (r 7, ia T.2.1 3 nb)] 0 0 15 [] := by
  intro f
  induction f with
  | zero =>
    intro Q w gs nb nm e p i fR wR hQ hr hnb he hpp hi hR
    exfalso
    have := ht.1
    omega
  | succ f ih =>
    intro Q w gs nb nm e p i fR wR hQ hr hnb he hpp hi hR
    have hsk := skF_idem (tx := tx) (L := lE) (e := e)
    have hH : ∀ k, gN (pX (H k)) ≤ 100 := fun k => (hHW k).1.1.1.2
    have hL := ht.1
    have hs0 := skF_b (tx := tx) (L := lE) (e := e) he.2
    have hPP := rcF_P (nm := nm) (p := p) ht he hpp
    have hI := rcF_I (nm := nm) (p := p) ht he
    have hs0a : 0 ≤ skF tx lE e := by omega
    refine xr_aload_n hM 0 dX5_run_15 rfl rfl ?_
    refine xr_get (C := RX5) (TT0 := TX5) (N := 12) hM 5 0 8 (fun _ h => List.mem_cons_of_mem _ (List.mem_append_right _ h)) rfl rfl (by decide) (List.mem_of_getElem? (i := 1) rfl) rfl rfl dX5_run_16 ?_
    refine xr_aload_n hM 0 dX5_run_19 rfl rfl ?_
    refine xr_get (C := RX5) (TT0 := TX5) (N := 12) hM 5 0 6 (fun _ h => List.mem_cons_of_mem _ (List.mem_append_right _ h)) rfl rfl (by decide) (List.mem_of_getElem? (i := 2) rfl) rfl rfl dX5_run_20 ?_
    refine xr_icmp_ge hM 64 dX5_run_23 (by decide) (by omega) (fun c23 => ?_) (fun c23 => ?_)
    · refine xr_aload_n hM 0 dX5_run_64 rfl rfl ?_
      refine xr_iconst hM dX5_run_65 ?_
      refine xr_put (ws' := [(r 0, ob 5 [.ref (r 1), .ref (r 2), .ref (r 3), .ref (r 4), iv sT, .ref (r 5), iv 0, .ref (r 6), iv (skF tx lE e), iv fR, iv wR, .ref (r 7)]), (r 1, ia T.2.1 305 w), (r 2, ia T.2.1 305 bf), (r 3, ia T.2.1 305 tr), (r 4, ia T.2.1 1525 ps), (r 5, ia T.2.1 100 te), (r 6, ia T.2.1 3 gs), (r 7, ia T.2.1 3 nb)]) (C := RX5) (TT0 := TX5) (N := 12) hM 5 0 6 (fun _ h => List.mem_cons_of_mem _ (List.mem_append_right _ h)) tyX5 tyX5_ok nmX5 rfl rfl (by decide) (List.mem_of_getElem? (i := 2) rfl) rfl rfl rfl (Nat.le_of_ble_eq_true rfl) rfl dX5_run_66 ?_
      refine xr_aload_n hM 0 dX5_run_69 rfl rfl ?_
      refine xr_iload_n hM 1 dX5_run_70 rfl rfl ?_
      refine xr_callV2 (ws' := fun w71 g71 => [(r 0, ob 5 [.ref (r 1), .ref (r 2), .ref (r 3), .ref (r 4), iv (kpZ i sT), .ref (r 5), iv 0, .ref (r 6), iv (skF tx lE e), iv fR, iv wR, .ref (r 7)]), (r 1, ia T.2.1 305 w), (r 2, ia T.2.1 305 bf), (r 3, ia T.2.1 305 tr), (r 4, ia T.2.1 1525 g71), (r 5, ia T.2.1 100 te), (r 6, ia T.2.1 3 gs), (r 7, ia T.2.1 3 nb)]) (rest := []) (As := [iv i]) (st' := [iv i]) hM (ct_X5_acted M.2.1 T r sT 0 (skF tx lE e) fR wR bf ps H nx X i hrX (hp) (hX.1.1.1.2) (hH) (by omega) (hnx) (by omega)) gX5_run_X5_acted rfl ⟨rfl, rfl⟩ hy_X5_acted rfl ⟨by decide, by decide⟩ [0, 2, 4] rfl rfl (fun _ _ => rfl) 0 5 rfl rfl rfl rfl rfl (Nat.le_of_ble_eq_true rfl) ⟨by decide, by decide⟩ (fun _ _ => rfl) dX5_run_71 (fun w71 g71 hP71 => ?_)
      have hc1 : (rcF tx nm lE e p).2.2.2.2.2 = -1 := by rw [show rcF tx nm lE e p = _ from if_pos (by omega)]
      rw [ruL, if_neg (by omega), if_neg (by omega)] at hR
      subst hR
      exact xr_iret (hF (fun k9 => match k9 with | 1 => w | 2 => bf | 3 => tr | 4 => g71 | 6 => gs | 7 => nb | _ => (fun j9 => match j9 with | 0 => skF tx lE e | 1 => fR | _ => wR)) ⟨by show Rep w (kpX i X Q); rw [kpX, if_pos (by omega)]; exact hr, hP71, hnb⟩) dX5_run_74 rfl (by dsimp only; rw [if_pos (show (0 : Int) ≤ i by omega)] <;> rfl)
    · refine xr_aload_n hM 0 dX5_run_26 rfl rfl ?_
      refine xr_callV3 (ws' := fun v27 => [(r 0, ob 5 [.ref (r 1), .ref (r 2), .ref (r 3), .ref (r 4), iv sT, .ref (r 5), iv lE, .ref (r 6), iv (v27 8 0), iv (v27 8 1), iv (v27 8 2), .ref (r 7)]), (r 1, ia T.2.1 305 (v27 1)), (r 2, ia T.2.1 305 bf), (r 3, ia T.2.1 305 tr), (r 4, ia T.2.1 1525 ps), (r 5, ia T.2.1 100 te), (r 6, ia T.2.1 3 (v27 6)), (r 7, ia T.2.1 3 (v27 7))]) (rest := []) (As := []) (st' := [iv (frR Q (skF tx lE (skF tx lE e)) (rcF tx nm lE (skF tx lE e) p))]) hM (ct_X5_fails M.2.1 T r sT lE gs w te tx nb Q nm (skF tx lE e) fR wR p hr hQ (hnb) (hte) (ht) (by omega) (by omega) (by omega)) gX5_run_X5_fails rfl ⟨rfl, rfl⟩ hy_X5_fails rfl ⟨by decide, by decide⟩ [0, 6, 1, 5, 7] rfl rfl (fun _ => rfl) 0 5 rfl rfl rfl rfl rfl (Nat.le_of_ble_eq_true rfl) ⟨by decide, by decide⟩ (fun _ => rfl) dX5_run_27 (fun v27 hP27 => ?_)
      rw [skF_idem, rcF_sk] at hP27
      refine xr_topv (v' := frR Q (skF tx lE e) (rcF tx nm lE e p)) (by rw [skF_idem, rcF_sk]) ?_
      have hfb := frR_b Q (s0 := skF tx lE e) (E := rcF tx nm lE e p) (by omega) hPP
      have hz := rcF_z (nm := nm) (p := p) he (by omega)
      refine xr_istore_n (lv' := [(0, .ref (r 0)), (1, iv i), (2, iv (frR Q (skF tx lE e) (rcF tx nm lE e p)))]) hM dX5_run_30 rfl (by decide) rfl rfl ?_
      refine xr_iload_n hM 2 dX5_run_31 rfl rfl ?_
      refine xr_if_lt hM 54 dX5_run_32 (by decide) (by omega) (fun c32 => ?_) (fun c32 => ?_)
      · refine xr_iinc (lv' := [(0, .ref (r 0)), (1, iv (i + 1)), (2, iv (frR Q (skF tx lE e) (rcF tx nm lE e p)))]) hM 1 dX5_run_54 rfl (by decide) rfl rfl ?_
        have hg := hP27.2 (by omega)
        have hh := frR_1 (hP27.2 (by omega) |> fun _ => (show frR Q (skF tx lE e) (rcF tx nm lE e p) = -1 by omega)) hs0a hPP.1
        rw [hg.2]
        refine xr_aload_n hM 0 dX5_run_57 rfl rfl ?_
        refine xr_callV (ws' := [(r 0, ob 5 [.ref (r 1), .ref (r 2), .ref (r 3), .ref (r 4), iv sT, .ref (r 5), iv lE, .ref (r 6), iv (skF tx lE ((rcF tx nm lE e p).2.2.1)), iv (skF tx lE ((rcF tx nm lE e p).2.2.1)), iv (v27 8 2), .ref (r 7)]), (r 1, ia T.2.1 305 (v27 1)), (r 2, ia T.2.1 305 bf), (r 3, ia T.2.1 305 tr), (r 4, ia T.2.1 1525 ps), (r 5, ia T.2.1 100 te), (r 6, ia T.2.1 3 (v27 6)), (r 7, ia T.2.1 3 (v27 7))]) (rest := []) (As := []) (st' := []) hM (ct_X5_begins M.2.1 T r sT lE ((rcF tx nm lE e p).2.2.1) (v27 8 1) (v27 8 2) te tx (hte) (ht) (by omega)) gX5_run_X5_begins rfl ⟨rfl, rfl⟩ hy_X5_begins rfl ⟨by decide, by decide⟩ [0, 5] rfl rfl rfl 0 5 rfl rfl rfl rfl rfl (Nat.le_of_ble_eq_true rfl) ⟨by decide, by decide⟩ rfl dX5_run_58 ?_
        have hf58 := skF_b (tx := tx) (L := lE) (e := ((rcF tx nm lE e p).2.2.1)) (by omega)
        refine xr_goto hM 15 dX5_run_61 (by decide) ?_
        refine xr_pick [0, 1] (lv' := [(0, .ref (r 0)), (1, iv (i + 1))]) rfl ?_
        exact ih (pfR Q (rcF tx nm lE e p).1 (rcF tx nm lE e p).2.2.2.2.2).2 (v27 1) (v27 6) (v27 7) (rcF tx nm lE e p).1 (rcF tx nm lE e p).2.2.1 (rcF tx nm lE e p).2.2.2.1 (i + 1) _ _ (WW_pf hQ _ _) hg.1 hP27.1 hI.1 hPP (by omega) (by rw [← hR, ruL, if_pos (by omega), if_neg hh.2])
      · refine xr_aload_n hM 0 dX5_run_35 rfl rfl ?_
        refine xr_get (C := RX5) (TT0 := TX5) (N := 12) hM 5 0 1 (fun _ h => List.mem_cons_of_mem _ (List.mem_append_right _ h)) rfl rfl (by decide) (List.mem_of_getElem? (i := 3) rfl) rfl rfl dX5_run_36 ?_
        refine xr_iconst hM dX5_run_39 ?_
        refine xr_aload_n hM 0 dX5_run_40 rfl rfl ?_
        refine xr_get (C := RX5) (TT0 := TX5) (N := 12) hM 5 0 0 (fun _ h => List.mem_cons_of_mem _ (List.mem_append_right _ h)) rfl rfl (by decide) (List.mem_of_getElem? (i := 4) rfl) rfl rfl dX5_run_41 ?_
        refine xr_iconst hM dX5_run_44 ?_
        refine xr_callS (ws' := [(r 0, ob 5 [.ref (r 1), .ref (r 2), .ref (r 3), .ref (r 4), iv sT, .ref (r 5), iv lE, .ref (r 6), iv (v27 8 0), iv (v27 8 1), iv (v27 8 2), .ref (r 7)]), (r 1, ia T.2.1 305 (va_cpy bf (v27 1) 0 0 305)), (r 2, ia T.2.1 305 bf), (r 3, ia T.2.1 305 tr), (r 4, ia T.2.1 1525 ps), (r 5, ia T.2.1 100 te), (r 6, ia T.2.1 3 (v27 6)), (r 7, ia T.2.1 3 (v27 7))]) (rest := []) (As := [.ref (r 2), iv 0, .ref (r 1), iv 0]) (st' := []) hM (ct_X5_copies M.2.1 T (r 2) 305 bf 0 (r 1) 305 (v27 1) 0 (by omega)) gX5_run_X5_copies rfl ⟨rfl, rfl⟩ hy_X5_copies rfl ⟨by decide, by decide⟩ [2, 1] rfl rfl rfl rfl rfl (Nat.le_of_ble_eq_true rfl) ⟨by decide, by decide⟩ rfl dX5_run_45 ?_
        refine xr_sipush hM dX5_run_48 (by decide) ?_
        refine xr_iload_n hM 2 dX5_run_51 rfl rfl ?_
        refine xr_isub hM dX5_run_52 ?_
        have key : R.1 = -1000 - frR Q (skF tx lE e) (rcF tx nm lE e p) := by
          rcases frR_2 c32 with q | q
          · rw [← hR, ruL, if_neg (by omega), if_pos (by omega), q.2]
          · rw [← hR, ruL, if_pos (by omega), if_pos q.2.1, q.2.2, hz.2.2 q.1]
        exact xr_iret (hF (fun k9 => match k9 with | 1 => va_cpy bf (v27 1) 0 0 305 | 2 => bf | 3 => tr | 4 => ps | 6 => v27 6 | 7 => v27 7 | _ => (fun j9 => match j9 with | 0 => v27 8 0 | 1 => v27 8 1 | _ => v27 8 2)) ⟨by rw [kpX, if_neg (by omega)]; exact RG.cp hrX (fun j hj => xi_cpy0 hj) hX.1.1.1.2, RHc_err hp (by omega), hP27.1⟩) dX5_run_53 key.symm (by rw [kpZ, if_neg (by omega), if_neg (by omega)] <;> rfl)

theorem ct_X5_run (l : Launch) (T : TT) (r : Nat → Nat) (sT lE aT fR wR : Int) (w bf tr ps te gs nb : AR) (H : Nat → WnS) (nx : Int) (X : WnS) (tx nm : AR) (hr : Rep w X) (hX : WW X) (hp : RHc ps H sT nx) (hHW : ∀ k, WW (H k)) (hsz : 0 ≤ sT ∧ sT ≤ 5) (hnx : 0 ≤ nx ∧ nx < 5) (hnb : NB3 nb) (hte : TE te tx lE) (ht : TXI tx lE) : CT3 l yX5_run wsX5_run rm_X5_run T [.ref (r 0)] ([(r 0, ob 5 [.ref (r 1), .ref (r 2), .ref (r 3), .ref (r 4), iv sT, .ref (r 5), iv lE, .ref (r 6), iv aT, iv fR, iv wR, .ref (r 7)]), (r 1, ia T.2.1 305 w), (r 2, ia T.2.1 305 bf), (r 3, ia T.2.1 305 tr), (r 4, ia T.2.1 1525 ps), (r 5, ia T.2.1 100 te), (r 6, ia T.2.1 3 gs), (r 7, ia T.2.1 3 nb)]) (some (iv ((ruR X tx nm lE).1))) (fun v_ => Rep (v_ 1) (kpX (ruR X tx nm lE).1 X (ruR X tx nm lE).2.1) ∧ RHc (v_ 4) (kpH (ruR X tx nm lE).1 H nx X) (kpZ (ruR X tx nm lE).1 sT) (kpN (ruR X tx nm lE).1 nx) ∧ NB3 (v_ 7)) (fun v_ => [(r 0, ob 5 [.ref (r 1), .ref (r 2), .ref (r 3), .ref (r 4), iv (kpZ (ruR X tx nm lE).1 sT), .ref (r 5), iv (if 0 ≤ (ruR X tx nm lE).1 then 0 else lE), .ref (r 6), iv (v_ 8 0), iv (v_ 8 1), iv (v_ 8 2), .ref (r 7)]), (r 1, ia T.2.1 305 (v_ 1)), (r 2, ia T.2.1 305 (v_ 2)), (r 3, ia T.2.1 305 (v_ 3)), (r 4, ia T.2.1 1525 (v_ 4)), (r 5, ia T.2.1 100 te), (r 6, ia T.2.1 3 (v_ 6)), (r 7, ia T.2.1 3 (v_ 7))]) := by
  refine CT3.Z (maxL := 3) (lv0 := [(0, .ref (r 0))]) hp_X5_run rfl (Nat.le_of_ble_eq_true rfl) rfl rfl (fun M hM hF => ?_)
  have hL := ht.1
  refine xr_aload_n hM 0 dX5_run_0 rfl rfl ?_
  refine xr_callV2 (ws' := fun w1 g1 => [(r 0, ob 5 [.ref (r 1), .ref (r 2), .ref (r 3), .ref (r 4), iv sT, .ref (r 5), iv lE, .ref (r 6), iv aT, iv fR, iv wR, .ref (r 7)]), (r 1, ia T.2.1 305 w), (r 2, ia T.2.1 305 g1), (r 3, ia T.2.1 305 tr), (r 4, ia T.2.1 1525 ps), (r 5, ia T.2.1 100 te), (r 6, ia T.2.1 3 gs), (r 7, ia T.2.1 3 nb)]) (rest := []) (As := []) (st' := []) hM (ct_X5_keeps M.2.1 T r sT lE aT fR wR w bf X hr hX.1.1) gX5_run_X5_keeps rfl ⟨rfl, rfl⟩ hy_X5_keeps rfl ⟨by decide, by decide⟩ [0, 1, 2] rfl rfl (fun _ _ => rfl) 0 5 rfl rfl rfl rfl rfl (Nat.le_of_ble_eq_true rfl) ⟨by decide, by decide⟩ (fun _ _ => rfl) dX5_run_1 (fun w1 g1 hP1 => ?_)
  refine xr_aload_n hM 0 dX5_run_4 rfl rfl ?_
  refine xr_iconst hM dX5_run_5 ?_
  refine xr_put (ws' := [(r 0, ob 5 [.ref (r 1), .ref (r 2), .ref (r 3), .ref (r 4), iv sT, .ref (r 5), iv lE, .ref (r 6), iv 0, iv fR, iv wR, .ref (r 7)]), (r 1, ia T.2.1 305 w), (r 2, ia T.2.1 305 g1), (r 3, ia T.2.1 305 tr), (r 4, ia T.2.1 1525 ps), (r 5, ia T.2.1 100 te), (r 6, ia T.2.1 3 gs), (r 7, ia T.2.1 3 nb)]) (C := RX5) (TT0 := TX5) (N := 12) hM 5 0 8 (fun _ h => List.mem_cons_of_mem _ (List.mem_append_right _ h)) tyX5 tyX5_ok nmX5 rfl rfl (by decide) (List.mem_of_getElem? (i := 1) rfl) rfl rfl rfl (Nat.le_of_ble_eq_true rfl) rfl dX5_run_6 ?_
  refine xr_iconst hM dX5_run_9 ?_
  refine xr_istore_n (lv' := [(0, .ref (r 0)), (1, iv 0)]) hM dX5_run_10 rfl (by decide) rfl rfl ?_
  refine xr_aload_n hM 0 dX5_run_11 rfl rfl ?_
  refine xr_callV (ws' := [(r 0, ob 5 [.ref (r 1), .ref (r 2), .ref (r 3), .ref (r 4), iv sT, .ref (r 5), iv lE, .ref (r 6), iv (skF tx lE 0), iv (skF tx lE 0), iv wR, .ref (r 7)]), (r 1, ia T.2.1 305 w), (r 2, ia T.2.1 305 g1), (r 3, ia T.2.1 305 tr), (r 4, ia T.2.1 1525 ps), (r 5, ia T.2.1 100 te), (r 6, ia T.2.1 3 gs), (r 7, ia T.2.1 3 nb)]) (rest := []) (As := []) (st' := []) hM (ct_X5_begins M.2.1 T r sT lE 0 fR wR te tx (hte) (ht) (by omega)) gX5_run_X5_begins rfl ⟨rfl, rfl⟩ hy_X5_begins rfl ⟨by decide, by decide⟩ [0, 5] rfl rfl rfl 0 5 rfl rfl rfl rfl rfl (Nat.le_of_ble_eq_true rfl) ⟨by decide, by decide⟩ rfl dX5_run_12 ?_
  have hf12 := skF_b (tx := tx) (L := lE) (e := 0) (by omega)
  exact lp_run_15 r sT lE g1 tr ps te tx H nx X hP1 hX hp hHW hsz hnx hte ht _ hM hF 101 X w gs nb nm 0 0 0 _ _ hX hr hnb (by omega) (by decide) (by decide) rfl
