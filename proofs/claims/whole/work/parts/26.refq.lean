theorem ct_X5_does (l : Launch) (T : TT) (r : Nat → Nat) (sT lE aT fR wR : Int) (gs w nb : AR) (X : WnS) (v : Int) (hr : Rep w X) (hX : WW X) (hnb : NB3 nb) (hv : -2147483648 ≤ v ∧ v < 2147483648) : CT2 l yX5_does wsX5_does rm_X5_does T [.ref (r 0), iv v] ([(r 0, ob 5 [.ref (r 1), .ref (r 2), .ref (r 3), .ref (r 4), iv sT, .ref (r 5), iv lE, .ref (r 6), iv aT, iv fR, iv wR, .ref (r 7)]), (r 6, ia T.2.1 3 gs), (r 1, ia T.2.1 305 w), (r 7, ia T.2.1 3 nb)]) (some (iv ((dwF X nb v).1))) (fun w_ g_ => Rep w_ (dwF X nb v).2) (fun w_ g_ => [(r 0, ob 5 [.ref (r 1), .ref (r 2), .ref (r 3), .ref (r 4), iv sT, .ref (r 5), iv lE, .ref (r 6), iv aT, iv fR, iv wR, .ref (r 7)]), (r 6, ia T.2.1 3 g_), (r 1, ia T.2.1 305 w_), (r 7, ia T.2.1 3 nb)]) := by
  refine CT2.Z (maxL := 2) (lv0 := [(0, .ref (r 0)), (1, iv v)]) hp_X5_does rfl (Nat.le_of_ble_eq_true rfl) rfl rfl (fun M hM hF => ?_)
  have hn := hX.1.1.1
  have hwd := hX.1.1.2.1
  have hHH := hX.1.2.1
  have hSb := hX.1.2.2.2.2
  have hSs := hX.2
  have hAn := hX.an
  have hA0 := hX.1.2.2.1
  have hn0 := hnb 0 (by decide)
  have hn1 := hnb 1 (by decide)
  have hn2 := hnb 2 (by decide)
  refine xr_iload_n hM 1 dX5_does_0 rfl rfl ?_
  by_cases c1_688 : v = 688
  · refine xr_lookupK hM 97 dX5_does_1 (by decide) c1_688 (by decide) rfl (by decide) ?_
    refine xr_aload_n hM 0 dX5_does_97 rfl rfl ?_
    refine xr_aload_n hM 0 dX5_does_98 rfl rfl ?_
    refine xr_get (C := RX5) (TT0 := TX5) (N := 12) hM 5 0 11 (fun _ h => List.mem_cons_of_mem _ (List.mem_append_right _ h)) rfl rfl (by decide) (List.mem_of_getElem? (i := 1) rfl) rfl rfl dX5_does_99 ?_
    refine xr_iconst hM dX5_does_102 ?_
    refine xr_iald hM 3 0 rfl rfl (by omega) dX5_does_103 ?_
    refine xr_ineg hM dX5_does_104 ?_
    refine xr_callV2 (ws' := fun w105 g105 => [(r 0, ob 5 [.ref (r 1), .ref (r 2), .ref (r 3), .ref (r 4), iv sT, .ref (r 5), iv lE, .ref (r 6), iv aT, iv fR, iv wR, .ref (r 7)]), (r 6, ia T.2.1 3 g105), (r 1, ia T.2.1 305 w105), (r 7, ia T.2.1 3 nb)]) (rest := []) (As := [iv (-(nb 0))]) (st' := [iv ((mbR X (-(nb 0))).1)]) hM (ct_X5_scrolled M.2.1 T r sT lE aT fR wR gs w X (-(nb 0)) hr hX (by omega)) gX5_does_X5_scrolled rfl ⟨rfl, rfl⟩ hy_X5_scrolled rfl ⟨by decide, by decide⟩ [0, 1, 2] rfl rfl (fun _ _ => rfl) 0 5 rfl rfl rfl rfl rfl (Nat.le_of_ble_eq_true rfl) ⟨by decide, by decide⟩ (fun _ _ => rfl) dX5_does_105 (fun w105 g105 hP105 => ?_)
    have hf105 := mbR_v hX (-(nb 0))
    have hw105 := WW_mb hX (-(nb 0))
    have ed : dwF X nb v = mbR X (-(nb 0)) := by rw [c1_688]; rfl
    rw [ed] at hF
    exact xr_iret (hF w105 g105 hP105) dX5_does_108 rfl rfl
  by_cases c1_3764 : v = 3764
  · refine xr_lookupK hM 75 dX5_does_1 (by decide) c1_3764 (by decide) rfl (by decide) ?_
    refine xr_aload_n hM 0 dX5_does_75 rfl rfl ?_
    refine xr_aload_n hM 0 dX5_does_76 rfl rfl ?_
    refine xr_get (C := RX5) (TT0 := TX5) (N := 12) hM 5 0 11 (fun _ h => List.mem_cons_of_mem _ (List.mem_append_right _ h)) rfl rfl (by decide) (List.mem_of_getElem? (i := 1) rfl) rfl rfl dX5_does_77 ?_
    refine xr_iconst hM dX5_does_80 ?_
    refine xr_iald hM 3 0 rfl rfl (by omega) dX5_does_81 ?_
    refine xr_callV2 (ws' := fun w82 g82 => [(r 0, ob 5 [.ref (r 1), .ref (r 2), .ref (r 3), .ref (r 4), iv sT, .ref (r 5), iv lE, .ref (r 6), iv aT, iv fR, iv wR, .ref (r 7)]), (r 6, ia T.2.1 3 g82), (r 1, ia T.2.1 305 w82), (r 7, ia T.2.1 3 nb)]) (rest := []) (As := [iv (nb 0)]) (st' := [iv ((cuR X (nb 0)).1)]) hM (ct_X5_cuts M.2.1 T r sT lE aT fR wR gs w X (nb 0) hr hX (by omega)) gX5_does_X5_cuts rfl ⟨rfl, rfl⟩ hy_X5_cuts rfl ⟨by decide, by decide⟩ [0, 1, 2] rfl rfl (fun _ _ => rfl) 0 5 rfl rfl rfl rfl rfl (Nat.le_of_ble_eq_true rfl) ⟨by decide, by decide⟩ (fun _ _ => rfl) dX5_does_82 (fun w82 g82 hP82 => ?_)
    have hf82 := cuR_v hX (nb 0)
    have hw82 := WW_cu hX (nb 0)
    have ed : dwF X nb v = cuR X (nb 0) := by rw [c1_3764]; rfl
    rw [ed] at hF
    exact xr_iret (hF w82 g82 hP82) dX5_does_85 rfl rfl
  by_cases c1_17076 : v = 17076
  · refine xr_lookupK hM 52 dX5_does_1 (by decide) c1_17076 (by decide) rfl (by decide) ?_
    refine xr_aload_n hM 0 dX5_does_52 rfl rfl ?_
    refine xr_aload_n hM 0 dX5_does_53 rfl rfl ?_
    refine xr_get (C := RX5) (TT0 := TX5) (N := 12) hM 5 0 11 (fun _ h => List.mem_cons_of_mem _ (List.mem_append_right _ h)) rfl rfl (by decide) (List.mem_of_getElem? (i := 1) rfl) rfl rfl dX5_does_54 ?_
    refine xr_iconst hM dX5_does_57 ?_
    refine xr_iald hM 3 0 rfl rfl (by omega) dX5_does_58 ?_
    refine xr_aload_n hM 0 dX5_does_59 rfl rfl ?_
    refine xr_get (C := RX5) (TT0 := TX5) (N := 12) hM 5 0 11 (fun _ h => List.mem_cons_of_mem _ (List.mem_append_right _ h)) rfl rfl (by decide) (List.mem_of_getElem? (i := 1) rfl) rfl rfl dX5_does_60 ?_
    refine xr_iconst hM dX5_does_63 ?_
    refine xr_iald hM 3 1 rfl rfl (by omega) dX5_does_64 ?_
    refine xr_aload_n hM 0 dX5_does_65 rfl rfl ?_
    refine xr_get (C := RX5) (TT0 := TX5) (N := 12) hM 5 0 11 (fun _ h => List.mem_cons_of_mem _ (List.mem_append_right _ h)) rfl rfl (by decide) (List.mem_of_getElem? (i := 1) rfl) rfl rfl dX5_does_66 ?_
    refine xr_iconst hM dX5_does_69 ?_
    refine xr_iald hM 3 2 rfl rfl (by omega) dX5_does_70 ?_
    refine xr_callV2 (ws' := fun w71 g71 => [(r 0, ob 5 [.ref (r 1), .ref (r 2), .ref (r 3), .ref (r 4), iv sT, .ref (r 5), iv lE, .ref (r 6), iv aT, iv fR, iv wR, .ref (r 7)]), (r 6, ia T.2.1 3 g71), (r 1, ia T.2.1 305 w71), (r 7, ia T.2.1 3 nb)]) (rest := []) (As := [iv (nb 0), iv (nb 1), iv (nb 2)]) (st' := [iv ((puR X (nb 0) (nb 1) (nb 2)).1)]) hM (ct_X5_puts M.2.1 T r sT lE aT fR wR gs w X (nb 0) (nb 1) (nb 2) hr hX (by omega) (by omega) (by omega)) gX5_does_X5_puts rfl ⟨rfl, rfl⟩ hy_X5_puts rfl ⟨by decide, by decide⟩ [0, 1, 2] rfl rfl (fun _ _ => rfl) 0 5 rfl rfl rfl rfl rfl (Nat.le_of_ble_eq_true rfl) ⟨by decide, by decide⟩ (fun _ _ => rfl) dX5_does_71 (fun w71 g71 hP71 => ?_)
    have hf71 := puR_v hX (nb 0) (nb 1) (nb 2)
    have hw71 := WW_pu hX (nb 0) (nb 1) (nb 2)
    have ed : dwF X nb v = puR X (nb 0) (nb 1) (nb 2) := by rw [c1_17076]; rfl
    rw [ed] at hF
    exact xr_iret (hF w71 g71 hP71) dX5_does_74 rfl rfl
  by_cases c1_147182 : v = 147182
  · refine xr_lookupK hM 86 dX5_does_1 (by decide) c1_147182 (by decide) rfl (by decide) ?_
    refine xr_aload_n hM 0 dX5_does_86 rfl rfl ?_
    refine xr_aload_n hM 0 dX5_does_87 rfl rfl ?_
    refine xr_get (C := RX5) (TT0 := TX5) (N := 12) hM 5 0 11 (fun _ h => List.mem_cons_of_mem _ (List.mem_append_right _ h)) rfl rfl (by decide) (List.mem_of_getElem? (i := 1) rfl) rfl rfl dX5_does_88 ?_
    refine xr_iconst hM dX5_does_91 ?_
    refine xr_iald hM 3 0 rfl rfl (by omega) dX5_does_92 ?_
    refine xr_callV2 (ws' := fun w93 g93 => [(r 0, ob 5 [.ref (r 1), .ref (r 2), .ref (r 3), .ref (r 4), iv sT, .ref (r 5), iv lE, .ref (r 6), iv aT, iv fR, iv wR, .ref (r 7)]), (r 6, ia T.2.1 3 g93), (r 1, ia T.2.1 305 w93), (r 7, ia T.2.1 3 nb)]) (rest := []) (As := [iv (nb 0)]) (st' := [iv ((mbR X (nb 0)).1)]) hM (ct_X5_scrolled M.2.1 T r sT lE aT fR wR gs w X (nb 0) hr hX (by omega)) gX5_does_X5_scrolled rfl ⟨rfl, rfl⟩ hy_X5_scrolled rfl ⟨by decide, by decide⟩ [0, 1, 2] rfl rfl (fun _ _ => rfl) 0 5 rfl rfl rfl rfl rfl (Nat.le_of_ble_eq_true rfl) ⟨by decide, by decide⟩ (fun _ _ => rfl) dX5_does_93 (fun w93 g93 hP93 => ?_)
    have hf93 := mbR_v hX (nb 0)
    have hw93 := WW_mb hX (nb 0)
    have ed : dwF X nb v = mbR X (nb 0) := by rw [c1_147182]; rfl
    rw [ed] at hF
    exact xr_iret (hF w93 g93 hP93) dX5_does_96 rfl rfl
  by_cases c1_20186693 : v = 20186693
  · refine xr_lookupK hM 109 dX5_does_1 (by decide) c1_20186693 (by decide) rfl (by decide) ?_
    refine xr_aload_n hM 0 dX5_does_109 rfl rfl ?_
    refine xr_aload_n hM 0 dX5_does_110 rfl rfl ?_
    refine xr_get (C := RX5) (TT0 := TX5) (N := 12) hM 5 0 11 (fun _ h => List.mem_cons_of_mem _ (List.mem_append_right _ h)) rfl rfl (by decide) (List.mem_of_getElem? (i := 1) rfl) rfl rfl dX5_does_111 ?_
    refine xr_iconst hM dX5_does_114 ?_
    refine xr_iald hM 3 0 rfl rfl (by omega) dX5_does_115 ?_
    refine xr_callV2 (ws' := fun w116 g116 => [(r 0, ob 5 [.ref (r 1), .ref (r 2), .ref (r 3), .ref (r 4), iv sT, .ref (r 5), iv lE, .ref (r 6), iv aT, iv fR, iv wR, .ref (r 7)]), (r 6, ia T.2.1 3 g116), (r 1, ia T.2.1 305 w116), (r 7, ia T.2.1 3 nb)]) (rest := []) (As := [iv (nb 0)]) (st' := [iv ((msR X (nb 0)).1)]) hM (ct_X5_jumped M.2.1 T r sT lE aT fR wR gs w X (nb 0) hr hX (by omega)) gX5_does_X5_jumped rfl ⟨rfl, rfl⟩ hy_X5_jumped rfl ⟨by decide, by decide⟩ [0, 1, 2] rfl rfl (fun _ _ => rfl) 0 5 rfl rfl rfl rfl rfl (Nat.le_of_ble_eq_true rfl) ⟨by decide, by decide⟩ (fun _ _ => rfl) dX5_does_116 (fun w116 g116 hP116 => ?_)
    have hf116 := msR_v hX (nb 0)
    have hw116 := WW_ms hX (nb 0)
    have ed : dwF X nb v = msR X (nb 0) := by rw [c1_20186693]; rfl
    rw [ed] at hF
    exact xr_iret (hF w116 g116 hP116) dX5_does_119 rfl rfl
  refine xr_lookup hM 120 dX5_does_1 (by decide) (by omega) (xl_def5 (by omega) (by omega) (by omega) (by omega) (by omega)) (by decide) ?_
  refine xr_aload_n hM 0 dX5_does_120 rfl rfl ?_
  refine xr_aload_n hM 0 dX5_does_121 rfl rfl ?_
  refine xr_get (C := RX5) (TT0 := TX5) (N := 12) hM 5 0 11 (fun _ h => List.mem_cons_of_mem _ (List.mem_append_right _ h)) rfl rfl (by decide) (List.mem_of_getElem? (i := 1) rfl) rfl rfl dX5_does_122 ?_
  refine xr_iconst hM dX5_does_125 ?_
  refine xr_iald hM 3 0 rfl rfl (by omega) dX5_does_126 ?_
  refine xr_callV2 (ws' := fun w127 g127 => [(r 0, ob 5 [.ref (r 1), .ref (r 2), .ref (r 3), .ref (r 4), iv sT, .ref (r 5), iv lE, .ref (r 6), iv aT, iv fR, iv wR, .ref (r 7)]), (r 6, ia T.2.1 3 g127), (r 1, ia T.2.1 305 w127), (r 7, ia T.2.1 3 nb)]) (rest := []) (As := [iv (nb 0)]) (st' := [iv ((mlR X (nb 0)).1)]) hM (ct_X5_gone M.2.1 T r sT lE aT fR wR gs w X (nb 0) hr hX (by omega)) gX5_does_X5_gone rfl ⟨rfl, rfl⟩ hy_X5_gone rfl ⟨by decide, by decide⟩ [0, 1, 2] rfl rfl (fun _ _ => rfl) 0 5 rfl rfl rfl rfl rfl (Nat.le_of_ble_eq_true rfl) ⟨by decide, by decide⟩ (fun _ _ => rfl) dX5_does_127 (fun w127 g127 hP127 => ?_)
  have hf127 := mlR_v hX (nb 0)
  have hw127 := WW_ml hX (nb 0)
  have ed : dwF X nb v = mlR X (nb 0) := by unfold dwF; (repeat rw [if_neg (by omega)])
  rw [ed] at hF
  exact xr_iret (hF w127 g127 hP127) dX5_does_130 rfl rfl

theorem fx_bad {T : TT} {M : MB} (r : Nat → Nat) (sT lE : Int) (gs w te tx : AR) (wd pl due : Int) (nb : AR) (aT fR k : Int) (hk : -1000 ≤ k ∧ k ≤ 1000) (hdue : 0 ≤ due ∧ due ≤ 3) (hM : FM T M cX5_fails RX5 5 wsX5_fails rm_X5_fails) (hK : VV T M 5 [(0, .ref (r 0)), (1, iv wd), (2, iv pl), (3, iv due)] [(r 0, ob 5 [.ref (r 1), .ref (r 2), .ref (r 3), .ref (r 4), iv sT, .ref (r 5), iv lE, .ref (r 6), iv aT, iv fR, iv 1, .ref (r 7)]), (r 6, ia T.2.1 3 gs), (r 1, ia T.2.1 305 w), (r 5, ia T.2.1 100 te), (r 7, ia T.2.1 3 nb)] 0 0 61 []) : VV T M 5 [(0, .ref (r 0)), (1, iv wd), (2, iv pl), (3, iv due), (4, iv k)] [(r 0, ob 5 [.ref (r 1), .ref (r 2), .ref (r 3), .ref (r 4), iv sT, .ref (r 5), iv lE, .ref (r 6), iv aT, iv fR, iv 1, .ref (r 7)]), (r 6, ia T.2.1 3 gs), (r 1, ia T.2.1 305 w), (r 5, ia T.2.1 100 te), (r 7, ia T.2.1 3 nb)] 0 0 31 [] := by
  refine xr_iload hM 4 dX5_fails_31 rfl ?_
  refine xr_iload_n hM 3 dX5_fails_33 rfl rfl ?_
  refine xr_icmp_ge hM 61 dX5_fails_34 (by decide) (by omega) (fun c34 => ?_) (fun c34 => ?_)
  · refine xr_pick [0, 1, 2, 3] (lv' := [(0, .ref (r 0)), (1, iv wd), (2, iv pl), (3, iv due)]) rfl ?_
    exact hK
  · refine xr_aload_n hM 0 dX5_fails_37 rfl rfl ?_
    refine xr_get (C := RX5) (TT0 := TX5) (N := 12) hM 5 0 10 (fun _ h => List.mem_cons_of_mem _ (List.mem_append_right _ h)) rfl rfl (by decide) (List.mem_of_getElem? (i := 2) rfl) rfl rfl dX5_fails_38 ?_
    refine xr_if_ne hM 61 dX5_fails_41 (by decide) (by omega) (fun c41 => ?_) (fun c41 => by exfalso; omega)
    refine xr_pick [0, 1, 2, 3] (lv' := [(0, .ref (r 0)), (1, iv wd), (2, iv pl), (3, iv due)]) rfl ?_
    exact hK

theorem lp_fails_31 {T : TT} {M : MB} (r : Nat → Nat) (sT lE : Int) (gs w te tx : AR) (wd pl due : Int) (c0 : Int) (hc0 : 0 ≤ c0) (hdue : 0 ≤ due ∧ due ≤ 3) (hte : TE te tx lE) (ht : TXI tx lE) (R : RQ) (hM : FM T M cX5_fails RX5 5 wsX5_fails rm_X5_fails) (hKok : ∀ (nb : AR) (fR : Int), NB3 nb → R.2.2.2.2.2 = c0 → (0 ≤ R.2.2.1 ∧ R.2.2.1 ≤ lE) → (∀ j : Nat, (j : Int) < due → nb j = R.1 j) → VV T M 5 [(0, .ref (r 0)), (1, iv wd), (2, iv pl), (3, iv due)] [(r 0, ob 5 [.ref (r 1), .ref (r 2), .ref (r 3), .ref (r 4), iv sT, .ref (r 5), iv lE, .ref (r 6), iv R.2.2.1, iv fR, iv 0, .ref (r 7)]), (r 6, ia T.2.1 3 gs), (r 1, ia T.2.1 305 w), (r 5, ia T.2.1 100 te), (r 7, ia T.2.1 3 nb)] 0 0 61 []) (hKbad : ∀ (nb : AR) (aT fR : Int), NB3 nb → R.2.2.2.2.2 = -2 → fR = R.2.2.2.1 → VV T M 5 [(0, .ref (r 0)), (1, iv wd), (2, iv pl), (3, iv due)] [(r 0, ob 5 [.ref (r 1), .ref (r 2), .ref (r 3), .ref (r 4), iv sT, .ref (r 5), iv lE, .ref (r 6), iv aT, iv fR, iv 1, .ref (r 7)]), (r 6, ia T.2.1 3 gs), (r 1, ia T.2.1 305 w), (r 5, ia T.2.1 100 te), (r 7, ia T.2.1 3 nb)] 0 0 61 []) : ∀ (f : Nat) (Q : RQ) (nb : AR) (fR : Int), (0 ≤ Q.2.2.1 ∧ Q.2.2.1 ≤ lE) → (0 ≤ Q.2.2.2.2.1 ∧ Q.2.2.2.2.1 ≤ due ∧ due ≤ Q.2.2.2.2.1 + f) → Q.2.2.2.2.2 = c0 → NB3 nb → (∀ j : Nat, (j : Int) < Q.2.2.2.2.1 → nb j = Q.1 j) → itL (rcC due) (rcS tx lE) f Q = R → VV T M 5 [(0, .ref (r 0)), (1, iv wd), (2, iv pl), (3, iv due), (4, iv Q.2.2.2.2.1)] [(r 0, ob 5 [.ref (r 1), .ref (r 2), .ref (r 3), .ref (r 4), iv sT, .ref (r 5), iv lE, .ref (r 6), iv Q.2.2.1, iv fR, iv 0, .ref (r 7)]), (r 6, ia T.2.1 3 gs), (r 1, ia T.2.1 305 w), (r 5, ia T.2.1 100 te), (r 7, ia T.2.1 3 nb)] 0 0 31 [] := by
  intro f
  induction f with
  | zero =>
    intro Q nb fR hQe hQk hQc hnb hag hR
    have hL := ht.1
    refine xr_iload hM 4 dX5_fails_31 rfl ?_
    refine xr_iload_n hM 3 dX5_fails_33 rfl rfl ?_
    refine xr_icmp_ge hM 61 dX5_fails_34 (by decide) (by omega) (fun c34 => ?_) (fun c34 => by exfalso; omega)
    obtain rfl := itL_f hR (fun q9 => by have q2 := of_decide_eq_true q9; omega)
    refine xr_pick [0, 1, 2, 3] (lv' := [(0, .ref (r 0)), (1, iv wd), (2, iv pl), (3, iv due)]) rfl ?_
    exact hKok nb fR hnb hQc hQe (fun j hj => hag j (by omega))
  | succ f ih =>
    intro Q nb fR hQe hQk hQc hnb hag hR
    have hL := ht.1
    refine xr_iload hM 4 dX5_fails_31 rfl ?_
    refine xr_iload_n hM 3 dX5_fails_33 rfl rfl ?_
    refine xr_icmp_ge hM 61 dX5_fails_34 (by decide) (by omega) (fun c34 => ?_) (fun c34 => ?_)
    · obtain rfl := itL_f hR (fun q9 => by have q2 := of_decide_eq_true q9; omega)
      refine xr_pick [0, 1, 2, 3] (lv' := [(0, .ref (r 0)), (1, iv wd), (2, iv pl), (3, iv due)]) rfl ?_
      exact hKok nb fR hnb hQc hQe (fun j hj => hag j (by omega))
    · refine xr_aload_n hM 0 dX5_fails_37 rfl rfl ?_
      refine xr_get (C := RX5) (TT0 := TX5) (N := 12) hM 5 0 10 (fun _ h => List.mem_cons_of_mem _ (List.mem_append_right _ h)) rfl rfl (by decide) (List.mem_of_getElem? (i := 2) rfl) rfl rfl dX5_fails_38 ?_
      refine xr_if_ne hM 61 dX5_fails_41 (by decide) (by omega) (fun c41 => by exfalso; omega) (fun c41 => ?_)
      refine xr_aload_n hM 0 dX5_fails_44 rfl rfl ?_
      refine xr_get (C := RX5) (TT0 := TX5) (N := 12) hM 5 0 11 (fun _ h => List.mem_cons_of_mem _ (List.mem_append_right _ h)) rfl rfl (by decide) (List.mem_of_getElem? (i := 3) rfl) rfl rfl dX5_fails_45 ?_
      refine xr_iload hM 4 dX5_fails_48 rfl ?_
      refine xr_aload_n hM 0 dX5_fails_50 rfl rfl ?_
      refine xr_callV (ws' := [(r 0, ob 5 [.ref (r 1), .ref (r 2), .ref (r 3), .ref (r 4), iv sT, .ref (r 5), iv lE, .ref (r 6), iv (drR tx lE (skF tx lE Q.2.2.1)), iv (skF tx lE Q.2.2.1), iv (nwF tx lE (skF tx lE Q.2.2.1)), .ref (r 7)]), (r 6, ia T.2.1 3 gs), (r 1, ia T.2.1 305 w), (r 5, ia T.2.1 100 te), (r 7, ia T.2.1 3 nb)]) (rest := [iv Q.2.2.2.2.1, .ref (r 7)]) (As := []) (st' := [iv (ndF tx lE (skF tx lE Q.2.2.1)), iv Q.2.2.2.2.1, .ref (r 7)]) hM (ct_X5_number M.2.1 T r sT lE Q.2.2.1 fR 0 te tx (hte) (ht) (by omega)) gX5_fails_X5_number rfl ⟨rfl, rfl⟩ hy_X5_number rfl ⟨by decide, by decide⟩ [0, 3] rfl rfl rfl 0 5 rfl rfl rfl rfl rfl (Nat.le_of_ble_eq_true rfl) ⟨by decide, by decide⟩ rfl dX5_fails_51 ?_
      have hf51 := skF_b (tx := tx) (L := lE) (e := Q.2.2.1) (by omega)
      have hf51_1 := drR_b (tx := tx) (L := lE) (s := skF tx lE Q.2.2.1) (by omega)
      have hf51_2 := ndF_b (tx := tx) (L := lE) (s := skF tx lE Q.2.2.1) (by omega)
      have hf51_3 := nwF_b tx lE (skF tx lE Q.2.2.1)
      refine xr_iast (ws' := [(r 0, ob 5 [.ref (r 1), .ref (r 2), .ref (r 3), .ref (r 4), iv sT, .ref (r 5), iv lE, .ref (r 6), iv (drR tx lE (skF tx lE Q.2.2.1)), iv (skF tx lE Q.2.2.1), iv (nwF tx lE (skF tx lE Q.2.2.1)), .ref (r 7)]), (r 6, ia T.2.1 3 gs), (r 1, ia T.2.1 305 w), (r 5, ia T.2.1 100 te), (r 7, ia T.2.1 3 (va_up nb Q.2.2.2.2.1.toNat (ndF tx lE (skF tx lE Q.2.2.1))))]) hM 4 Q.2.2.2.2.1.toNat rfl rfl (by omega) dX5_fails_54 rfl ?_
      refine xr_iinc (lv' := [(0, .ref (r 0)), (1, iv wd), (2, iv pl), (3, iv due), (4, iv (Q.2.2.2.2.1 + 1))]) hM 4 dX5_fails_55 rfl (by decide) rfl rfl ?_
      refine xr_goto hM 31 dX5_fails_58 (by decide) ?_
      have hc : rcC due Q = true := decide_eq_true ⟨by omega, by omega⟩
      have hR2 := itL_t hR hc
      rcases nwF_b tx lE (skF tx lE Q.2.2.1) with hw | hw
      · have hu := nu_ok (tx := tx) (L := lE) (s := skF tx lE Q.2.2.1) (by omega) hw
        rw [hw, ← hu.2]
        refine ih (rcS tx lE Q) (va_up nb Q.2.2.2.2.1.toNat (ndF tx lE (skF tx lE Q.2.2.1))) (skF tx lE Q.2.2.1) ?_ ?_ ?_ ?_ ?_ hR2
        · have := teF_b (tx := tx) (L := lE) (s := skF tx lE Q.2.2.1) (by omega); show 0 ≤ teF tx lE (skF tx lE Q.2.2.1) ∧ teF tx lE (skF tx lE Q.2.2.1) ≤ lE; omega
        · show 0 ≤ Q.2.2.2.2.1 + 1 ∧ Q.2.2.2.2.1 + 1 ≤ due ∧ due ≤ Q.2.2.2.2.1 + 1 + f; omega
        · show (if nuF tx lE (skF tx lE Q.2.2.1) (teF tx lE (skF tx lE Q.2.2.1)) < 0 then _ else Q.2.2.2.2.2) = c0; rw [if_neg (by omega)]; exact hQc
        · exact NB3_up hnb (by omega)
        · intro j hj
          have hj : (j : Int) < Q.2.2.2.2.1 + 1 := hj
          show va_up nb Q.2.2.2.2.1.toNat _ j = va_up Q.1 Q.2.2.2.2.1.toNat _ j
          rw [hu.1]
          unfold va_up
          by_cases e1 : j = Q.2.2.2.2.1.toNat
          · rw [if_pos e1, if_pos e1]
          · rw [if_neg e1, if_neg e1]; exact hag j (by omega)
      · have hu := nu_bad (tx := tx) (L := lE) (s := skF tx lE Q.2.2.1) (by omega) hw
        rw [hw]
        have hR3 := itL_f hR2 (fun q9 => by
          have q2 : _ ∧ 0 ≤ (if nuF tx lE (skF tx lE Q.2.2.1) (teF tx lE (skF tx lE Q.2.2.1)) < 0 then (-2 : Int) else Q.2.2.2.2.2) := of_decide_eq_true q9
          rw [if_pos (by omega)] at q2
          omega)
        refine fx_bad r sT lE gs w te tx wd pl due _ _ _ _ (by omega) (by omega) hM (hKbad _ _ _ (NB3_up hnb (by omega)) ?_ ?_)
        · rw [← hR3]; show (if nuF tx lE (skF tx lE Q.2.2.1) (teF tx lE (skF tx lE Q.2.2.1)) < 0 then (-2 : Int) else Q.2.2.2.2.2) = -2; rw [if_pos (by omega)]
        · rw [← hR3]; show _ = (if nuF tx lE (skF tx lE Q.2.2.1) (teF tx lE (skF tx lE Q.2.2.1)) < 0 then skF tx lE Q.2.2.1 else Q.2.2.2.1); rw [if_pos (by omega)]

theorem fx_61bad {T : TT} {M : MB} (r : Nat → Nat) (sT lE : Int) (gs w te tx : AR) (wd pl due : Int) (X : WnS) (E : RQ) (nb : AR) (aT fR : Int) (hnb : NB3 nb) (hp : 0 ≤ fR) (hv : frR X pl E = fR) (hM : FM T M cX5_fails RX5 5 wsX5_fails rm_X5_fails) (hF : ∀ v_ : Nat → AR, frP X pl (E) v_ → FinI T M cX5_fails 5 (iv (frR X pl (E))) ([(r 0, ob 5 [.ref (r 1), .ref (r 2), .ref (r 3), .ref (r 4), iv sT, .ref (r 5), iv lE, .ref (r 6), iv (v_ 8 0), iv (v_ 8 1), iv (v_ 8 2), .ref (r 7)]), (r 6, ia T.2.1 3 (v_ 6)), (r 1, ia T.2.1 305 (v_ 1)), (r 5, ia T.2.1 100 te), (r 7, ia T.2.1 3 (v_ 7))])) : VV T M 5 [(0, .ref (r 0)), (1, iv wd), (2, iv pl), (3, iv due)] [(r 0, ob 5 [.ref (r 1), .ref (r 2), .ref (r 3), .ref (r 4), iv sT, .ref (r 5), iv lE, .ref (r 6), iv aT, iv fR, iv 1, .ref (r 7)]), (r 6, ia T.2.1 3 gs), (r 1, ia T.2.1 305 w), (r 5, ia T.2.1 100 te), (r 7, ia T.2.1 3 nb)] 0 0 61 [] := by
  refine xr_aload_n hM 0 dX5_fails_61 rfl rfl ?_
  refine xr_get (C := RX5) (TT0 := TX5) (N := 12) hM 5 0 10 (fun _ h => List.mem_cons_of_mem _ (List.mem_append_right _ h)) rfl rfl (by decide) (List.mem_of_getElem? (i := 2) rfl) rfl rfl dX5_fails_62 ?_
  refine xr_if_ne hM 100 dX5_fails_65 (by decide) (by omega) (fun c65 => ?_) (fun c65 => by exfalso; omega)
  refine xr_aload_n hM 0 dX5_fails_100 rfl rfl ?_
  refine xr_get (C := RX5) (TT0 := TX5) (N := 12) hM 5 0 10 (fun _ h => List.mem_cons_of_mem _ (List.mem_append_right _ h)) rfl rfl (by decide) (List.mem_of_getElem? (i := 2) rfl) rfl rfl dX5_fails_101 ?_
  refine xr_if_eq hM 112 dX5_fails_104 (by decide) (by omega) (fun c104 => by exfalso; omega) (fun c104 => ?_)
  refine xr_aload_n hM 0 dX5_fails_107 rfl rfl ?_
  refine xr_get (C := RX5) (TT0 := TX5) (N := 12) hM 5 0 9 (fun _ h => List.mem_cons_of_mem _ (List.mem_append_right _ h)) rfl rfl (by decide) (List.mem_of_getElem? (i := 1) rfl) rfl rfl dX5_fails_108 ?_
  exact xr_iret (hF (fun k9 => match k9 with | 1 => w | 6 => gs | 7 => nb | _ => (fun j9 => match j9 with | 0 => aT | 1 => fR | _ => 1)) ⟨hnb, fun q9 => by rw [hv] at q9; omega⟩) dX5_fails_111 hv.symm rfl

theorem fx_61ok {T : TT} {M : MB} (r : Nat → Nat) (sT lE : Int) (gs w te tx : AR) (wd pl due : Int) (X : WnS) (R : RQ) (nb : AR) (fR : Int) (hr : Rep w X) (hX : WW X) (hnb : NB3 nb) (hte : TE te tx lE) (ht : TXI tx lE) (hpl : 0 ≤ pl ∧ pl ≤ 100) (hc : 0 ≤ R.2.2.2.2.2 ∧ R.2.2.2.2.2 ≤ 5) (hRe : 0 ≤ R.2.2.1 ∧ R.2.2.1 ≤ lE) (hwd : wd = cwF R.2.2.2.2.2) (hwb : 0 ≤ wd ∧ wd < 33554432) (hag : ∀ j : Nat, (j : Int) < (if R.2.2.2.2.2 = 0 then 3 else 1) → nb j = R.1 j) (hM : FM T M cX5_fails RX5 5 wsX5_fails rm_X5_fails) (hF : ∀ v_ : Nat → AR, frP X pl (rcE tx lE R) v_ → FinI T M cX5_fails 5 (iv (frR X pl (rcE tx lE R))) ([(r 0, ob 5 [.ref (r 1), .ref (r 2), .ref (r 3), .ref (r 4), iv sT, .ref (r 5), iv lE, .ref (r 6), iv (v_ 8 0), iv (v_ 8 1), iv (v_ 8 2), .ref (r 7)]), (r 6, ia T.2.1 3 (v_ 6)), (r 1, ia T.2.1 305 (v_ 1)), (r 5, ia T.2.1 100 te), (r 7, ia T.2.1 3 (v_ 7))])) : VV T M 5 [(0, .ref (r 0)), (1, iv wd), (2, iv pl), (3, iv due)] [(r 0, ob 5 [.ref (r 1), .ref (r 2), .ref (r 3), .ref (r 4), iv sT, .ref (r 5), iv lE, .ref (r 6), iv R.2.2.1, iv fR, iv 0, .ref (r 7)]), (r 6, ia T.2.1 3 gs), (r 1, ia T.2.1 305 w), (r 5, ia T.2.1 100 te), (r 7, ia T.2.1 3 nb)] 0 0 61 [] := by
  have hL := ht.1
  refine xr_aload_n hM 0 dX5_fails_61 rfl rfl ?_
  refine xr_get (C := RX5) (TT0 := TX5) (N := 12) hM 5 0 10 (fun _ h => List.mem_cons_of_mem _ (List.mem_append_right _ h)) rfl rfl (by decide) (List.mem_of_getElem? (i := 2) rfl) rfl rfl dX5_fails_62 ?_
  refine xr_if_ne hM 100 dX5_fails_65 (by decide) (by omega) (fun c65 => by exfalso; omega) (fun c65 => ?_)
  refine xr_aload_n hM 0 dX5_fails_68 rfl rfl ?_
  refine xr_callV (ws' := [(r 0, ob 5 [.ref (r 1), .ref (r 2), .ref (r 3), .ref (r 4), iv sT, .ref (r 5), iv lE, .ref (r 6), iv (skF tx lE R.2.2.1), iv (skF tx lE R.2.2.1), iv 0, .ref (r 7)]), (r 6, ia T.2.1 3 gs), (r 1, ia T.2.1 305 w), (r 5, ia T.2.1 100 te), (r 7, ia T.2.1 3 nb)]) (rest := []) (As := []) (st' := []) hM (ct_X5_begins M.2.1 T r sT lE R.2.2.1 fR 0 te tx (hte) (ht) (by omega)) gX5_fails_X5_begins rfl ⟨rfl, rfl⟩ hy_X5_begins rfl ⟨by decide, by decide⟩ [0, 3] rfl rfl rfl 0 5 rfl rfl rfl rfl rfl (Nat.le_of_ble_eq_true rfl) ⟨by decide, by decide⟩ rfl dX5_fails_69 ?_
  have hf69 := skF_b (tx := tx) (L := lE) (e := R.2.2.1) (by omega)
  refine xr_aload_n hM 0 dX5_fails_72 rfl rfl ?_
  refine xr_aload_n hM 0 dX5_fails_73 rfl rfl ?_
  refine xr_callV (ws' := [(r 0, ob 5 [.ref (r 1), .ref (r 2), .ref (r 3), .ref (r 4), iv sT, .ref (r 5), iv lE, .ref (r 6), iv (skF tx lE R.2.2.1), iv (skF tx lE R.2.2.1), iv 0, .ref (r 7)]), (r 6, ia T.2.1 3 gs), (r 1, ia T.2.1 305 w), (r 5, ia T.2.1 100 te), (r 7, ia T.2.1 3 nb)]) (rest := [.ref (r 0)]) (As := []) (st' := [iv (nxF tx lE (skF tx lE R.2.2.1)), .ref (r 0)]) hM (ct_X5_next M.2.1 T r sT lE (skF tx lE R.2.2.1) (skF tx lE R.2.2.1) 0 te tx (hte) (ht) (by omega)) gX5_fails_X5_next rfl ⟨rfl, rfl⟩ hy_X5_next rfl ⟨by decide, by decide⟩ [0, 3] rfl rfl rfl 0 5 rfl rfl rfl rfl rfl (Nat.le_of_ble_eq_true rfl) ⟨by decide, by decide⟩ rfl dX5_fails_74 ?_
  have hf74 := nxF_b (ht) (skF tx lE R.2.2.1)
  refine xr_bipush hM dX5_fails_77 (by decide) ?_
  refine xr_icmp_eq hM 86 dX5_fails_79 (by decide) (by omega) (fun c79 => ?_) (fun c79 => ?_)
  · refine xr_iconst hM dX5_fails_86 ?_
    refine xr_putz (ws' := [(r 0, ob 5 [.ref (r 1), .ref (r 2), .ref (r 3), .ref (r 4), iv sT, .ref (r 5), iv lE, .ref (r 6), iv (skF tx lE R.2.2.1), iv (skF tx lE R.2.2.1), iv 0, .ref (r 7)]), (r 6, ia T.2.1 3 gs), (r 1, ia T.2.1 305 w), (r 5, ia T.2.1 100 te), (r 7, ia T.2.1 3 nb)]) (C := RX5) (TT0 := TX5) (N := 12) hM 5 0 10 (fun _ h => List.mem_cons_of_mem _ (List.mem_append_right _ h)) tyX5 tyX5_ok nmX5 (by omega) rfl rfl (by decide) (List.mem_of_getElem? (i := 2) rfl) rfl rfl rfl (Nat.le_of_ble_eq_true rfl) rfl dX5_fails_87 ?_
    refine xr_aload_n hM 0 dX5_fails_90 rfl rfl ?_
    refine xr_dup hM dX5_fails_91 rfl ?_
    refine xr_get (C := RX5) (TT0 := TX5) (N := 12) hM 5 0 8 (fun _ h => List.mem_cons_of_mem _ (List.mem_append_right _ h)) rfl rfl (by decide) (List.mem_of_getElem? (i := 4) rfl) rfl rfl dX5_fails_92 ?_
    refine xr_iconst hM dX5_fails_95 ?_
    refine xr_iadd hM dX5_fails_96 ?_
    refine xr_put (ws' := [(r 0, ob 5 [.ref (r 1), .ref (r 2), .ref (r 3), .ref (r 4), iv sT, .ref (r 5), iv lE, .ref (r 6), iv ((skF tx lE R.2.2.1) + 1), iv (skF tx lE R.2.2.1), iv 0, .ref (r 7)]), (r 6, ia T.2.1 3 gs), (r 1, ia T.2.1 305 w), (r 5, ia T.2.1 100 te), (r 7, ia T.2.1 3 nb)]) (C := RX5) (TT0 := TX5) (N := 12) hM 5 0 8 (fun _ h => List.mem_cons_of_mem _ (List.mem_append_right _ h)) tyX5 tyX5_ok nmX5 rfl rfl (by decide) (List.mem_of_getElem? (i := 4) rfl) rfl rfl rfl (Nat.le_of_ble_eq_true rfl) rfl dX5_fails_97 ?_
    refine xr_aload_n hM 0 dX5_fails_100 rfl rfl ?_
    refine xr_get (C := RX5) (TT0 := TX5) (N := 12) hM 5 0 10 (fun _ h => List.mem_cons_of_mem _ (List.mem_append_right _ h)) rfl rfl (by decide) (List.mem_of_getElem? (i := 2) rfl) rfl rfl dX5_fails_101 ?_
    refine xr_if_eq hM 112 dX5_fails_104 (by decide) (by omega) (fun c104 => ?_) (fun c104 => by exfalso; omega)
    refine xr_aload_n hM 0 dX5_fails_112 rfl rfl ?_
    refine xr_iload_n hM 1 dX5_fails_113 rfl rfl ?_
    refine xr_callV2 (ws' := fun w114 g114 => [(r 0, ob 5 [.ref (r 1), .ref (r 2), .ref (r 3), .ref (r 4), iv sT, .ref (r 5), iv lE, .ref (r 6), iv ((skF tx lE R.2.2.1) + 1), iv (skF tx lE R.2.2.1), iv 0, .ref (r 7)]), (r 6, ia T.2.1 3 g114), (r 1, ia T.2.1 305 w114), (r 5, ia T.2.1 100 te), (r 7, ia T.2.1 3 nb)]) (rest := []) (As := [iv wd]) (st' := [iv ((dwF X nb wd).1)]) hM (ct_X5_does M.2.1 T r sT lE ((skF tx lE R.2.2.1) + 1) (skF tx lE R.2.2.1) 0 gs w nb X wd hr hX (hnb) (by omega)) gX5_fails_X5_does rfl ⟨rfl, rfl⟩ hy_X5_does rfl ⟨by decide, by decide⟩ [0, 1, 2, 4] rfl rfl (fun _ _ => rfl) 0 5 rfl rfl rfl rfl rfl (Nat.le_of_ble_eq_true rfl) ⟨by decide, by decide⟩ (fun _ _ => rfl) dX5_fails_114 (fun w114 g114 hP114 => ?_)
    have hf114 := dwF_w hX nb wd
    refine xr_ldc hM (-100003) (List.mem_of_getElem? (i := 5) rfl) (by decide) dX5_fails_117 ?_
    refine xr_ldc hM (-100001) (List.mem_of_getElem? (i := 6) rfl) (by decide) dX5_fails_119 ?_
    refine xr_callSr (rest := []) (As := [iv ((dwF X nb wd).1), iv (-100003), iv (-100001)]) (st' := [iv (bi ((-100003) ≤ ((dwF X nb wd).1) ∧ ((dwF X nb wd).1) ≤ (-100001)))]) hM (ct_X5_in M.2.1 T ((dwF X nb wd).1) (-100003) (-100001) (by omega)) gX5_fails_X5_in rfl ⟨rfl, rfl⟩ hy_X5_in rfl ⟨by decide, by decide⟩ [] rfl rfl rfl rfl (Nat.le_of_ble_eq_true rfl) ⟨by decide, by decide⟩ dX5_fails_121 ?_
    refine xr_ifb_eq hM 131 dX5_fails_124 (by decide) (fun c124 => ?_) (fun c124 => ?_)
    · refine xr_iconst hM dX5_fails_131 ?_
      have hsc := te_sc (tx := tx) (L := lE) (s := skF tx lE R.2.2.1) (by omega) (by omega)
      have hE : rcE tx lE R = (R.1, skF tx lE R.2.2.1, teF tx lE (skF tx lE R.2.2.1), R.2.2.2.1, R.2.2.2.2.1, R.2.2.2.2.2) := by unfold rcE; rw [if_neg (by omega), if_pos hsc.1, if_pos hsc.1]
      rw [hE] at hF
      have hd : dwF X nb wd = pfR X R.1 R.2.2.2.2.2 := by rw [hwd]; exact dw_pf X (by omega) hag
      rw [hd] at c124 hf114 hP114
      have hv : frR X pl (R.1, skF tx lE R.2.2.1, teF tx lE (skF tx lE R.2.2.1), R.2.2.2.1, R.2.2.2.2.1, R.2.2.2.2.2) = -1 := by show (if R.2.2.2.2.2 < 0 then _ else if (pfR X R.1 R.2.2.2.2.2).1 < 0 then pl else -1) = _; rw [if_neg (by omega), if_neg (by omega)]
      exact xr_iret (hF (fun k9 => match k9 with | 1 => w114 | 6 => g114 | 7 => nb | _ => (fun j9 => match j9 with | 0 => (skF tx lE R.2.2.1) + 1 | 1 => skF tx lE R.2.2.1 | _ => 0)) ⟨hnb, fun _ => ⟨hP114, hsc.2.symm⟩⟩) dX5_fails_132 hv.symm rfl
    · refine xr_iload_n hM 2 dX5_fails_127 rfl rfl ?_
      refine xr_goto hM 132 dX5_fails_128 (by decide) ?_
      have hsc := te_sc (tx := tx) (L := lE) (s := skF tx lE R.2.2.1) (by omega) (by omega)
      have hE : rcE tx lE R = (R.1, skF tx lE R.2.2.1, teF tx lE (skF tx lE R.2.2.1), R.2.2.2.1, R.2.2.2.2.1, R.2.2.2.2.2) := by unfold rcE; rw [if_neg (by omega), if_pos hsc.1, if_pos hsc.1]
      rw [hE] at hF
      have hd : dwF X nb wd = pfR X R.1 R.2.2.2.2.2 := by rw [hwd]; exact dw_pf X (by omega) hag
      rw [hd] at c124 hf114 hP114
      have hv : frR X pl (R.1, skF tx lE R.2.2.1, teF tx lE (skF tx lE R.2.2.1), R.2.2.2.1, R.2.2.2.2.1, R.2.2.2.2.2) = pl := by show (if R.2.2.2.2.2 < 0 then _ else if (pfR X R.1 R.2.2.2.2.2).1 < 0 then pl else -1) = _; rw [if_neg (by omega), if_pos (by omega)]
      exact xr_iret (hF (fun k9 => match k9 with | 1 => w114 | 6 => g114 | 7 => nb | _ => (fun j9 => match j9 with | 0 => (skF tx lE R.2.2.1) + 1 | 1 => skF tx lE R.2.2.1 | _ => 0)) ⟨hnb, fun q9 => by rw [hv] at q9; omega⟩) dX5_fails_132 hv.symm rfl
  · refine xr_iconst hM dX5_fails_82 ?_
    refine xr_goto hM 87 dX5_fails_83 (by decide) ?_
    refine xr_putz (ws' := [(r 0, ob 5 [.ref (r 1), .ref (r 2), .ref (r 3), .ref (r 4), iv sT, .ref (r 5), iv lE, .ref (r 6), iv (skF tx lE R.2.2.1), iv (skF tx lE R.2.2.1), iv 1, .ref (r 7)]), (r 6, ia T.2.1 3 gs), (r 1, ia T.2.1 305 w), (r 5, ia T.2.1 100 te), (r 7, ia T.2.1 3 nb)]) (C := RX5) (TT0 := TX5) (N := 12) hM 5 0 10 (fun _ h => List.mem_cons_of_mem _ (List.mem_append_right _ h)) tyX5 tyX5_ok nmX5 (by omega) rfl rfl (by decide) (List.mem_of_getElem? (i := 2) rfl) rfl rfl rfl (Nat.le_of_ble_eq_true rfl) rfl dX5_fails_87 ?_
    refine xr_aload_n hM 0 dX5_fails_90 rfl rfl ?_
    refine xr_dup hM dX5_fails_91 rfl ?_
    refine xr_get (C := RX5) (TT0 := TX5) (N := 12) hM 5 0 8 (fun _ h => List.mem_cons_of_mem _ (List.mem_append_right _ h)) rfl rfl (by decide) (List.mem_of_getElem? (i := 4) rfl) rfl rfl dX5_fails_92 ?_
    refine xr_iconst hM dX5_fails_95 ?_
    refine xr_iadd hM dX5_fails_96 ?_
    refine xr_put (ws' := [(r 0, ob 5 [.ref (r 1), .ref (r 2), .ref (r 3), .ref (r 4), iv sT, .ref (r 5), iv lE, .ref (r 6), iv ((skF tx lE R.2.2.1) + 1), iv (skF tx lE R.2.2.1), iv 1, .ref (r 7)]), (r 6, ia T.2.1 3 gs), (r 1, ia T.2.1 305 w), (r 5, ia T.2.1 100 te), (r 7, ia T.2.1 3 nb)]) (C := RX5) (TT0 := TX5) (N := 12) hM 5 0 8 (fun _ h => List.mem_cons_of_mem _ (List.mem_append_right _ h)) tyX5 tyX5_ok nmX5 rfl rfl (by decide) (List.mem_of_getElem? (i := 4) rfl) rfl rfl rfl (Nat.le_of_ble_eq_true rfl) rfl dX5_fails_97 ?_
    refine xr_aload_n hM 0 dX5_fails_100 rfl rfl ?_
    refine xr_get (C := RX5) (TT0 := TX5) (N := 12) hM 5 0 10 (fun _ h => List.mem_cons_of_mem _ (List.mem_append_right _ h)) rfl rfl (by decide) (List.mem_of_getElem? (i := 2) rfl) rfl rfl dX5_fails_101 ?_
    refine xr_if_eq hM 112 dX5_fails_104 (by decide) (by omega) (fun c104_1 => by exfalso; omega) (fun c104_1 => ?_)
    refine xr_aload_n hM 0 dX5_fails_107 rfl rfl ?_
    refine xr_get (C := RX5) (TT0 := TX5) (N := 12) hM 5 0 9 (fun _ h => List.mem_cons_of_mem _ (List.mem_append_right _ h)) rfl rfl (by decide) (List.mem_of_getElem? (i := 1) rfl) rfl rfl dX5_fails_108 ?_
    have hsg := sg_sc (tx := tx) (L := lE) (s := skF tx lE R.2.2.1) (by omega) (by omega)
    have hE : rcE tx lE R = (R.1, skF tx lE R.2.2.1, teF tx lE (skF tx lE R.2.2.1), skF tx lE R.2.2.1, R.2.2.2.2.1, -2) := by unfold rcE; rw [if_neg (by omega), if_neg hsg, if_neg hsg]
    rw [hE] at hF
    have hv : frR X pl (R.1, skF tx lE R.2.2.1, teF tx lE (skF tx lE R.2.2.1), skF tx lE R.2.2.1, R.2.2.2.2.1, -2) = skF tx lE R.2.2.1 := if_pos (show (-2 : Int) < 0 by decide)
    exact xr_iret (hF (fun k9 => match k9 with | 1 => w | 6 => gs | 7 => nb | _ => (fun j9 => match j9 with | 0 => (skF tx lE R.2.2.1) + 1 | 1 => (skF tx lE R.2.2.1) | _ => 1)) ⟨hnb, fun q9 => by rw [hv] at q9; omega⟩) dX5_fails_111 hv.symm rfl

theorem fx_14no {T : TT} {M : MB} (r : Nat → Nat) (sT lE : Int) (gs w te tx nb : AR) (X : WnS) (nm : Nat → Int) (aT p wR : Int) (hr : Rep w X) (hX : WW X) (hnb : NB3 nb) (hte : TE te tx lE) (ht : TXI tx lE) (ha : 0 ≤ aT ∧ aT ≤ lE) (hlt : skF tx lE aT < lE) (hp : 0 ≤ p ∧ p ≤ 100) (hc : cmF tx lE (skF tx lE aT) (teF tx lE (skF tx lE aT)) = -2) (hM : FM T M cX5_fails RX5 5 wsX5_fails rm_X5_fails) (hF : ∀ v_ : Nat → AR, frP X (skF tx lE aT) (rcF tx nm lE aT p) v_ → FinI T M cX5_fails 5 (iv (frR X (skF tx lE aT) (rcF tx nm lE aT p))) ([(r 0, ob 5 [.ref (r 1), .ref (r 2), .ref (r 3), .ref (r 4), iv sT, .ref (r 5), iv lE, .ref (r 6), iv (v_ 8 0), iv (v_ 8 1), iv (v_ 8 2), .ref (r 7)]), (r 6, ia T.2.1 3 (v_ 6)), (r 1, ia T.2.1 305 (v_ 1)), (r 5, ia T.2.1 100 te), (r 7, ia T.2.1 3 (v_ 7))])) : VV T M 5 [(0, .ref (r 0)), (1, iv (wdF tx lE (skF tx lE aT))), (2, iv (skF tx lE aT))] [(r 0, ob 5 [.ref (r 1), .ref (r 2), .ref (r 3), .ref (r 4), iv sT, .ref (r 5), iv lE, .ref (r 6), iv (lrR tx lE (skF tx lE aT)), iv (skF tx lE aT), iv wR, .ref (r 7)]), (r 6, ia T.2.1 3 gs), (r 1, ia T.2.1 305 w), (r 5, ia T.2.1 100 te), (r 7, ia T.2.1 3 nb)] 0 0 14 [iv 0] := by
  have hL := ht.1
  have hs0 := skF_b (tx := tx) (L := lE) (e := aT) ha.2
  have eF : rcF tx nm lE aT p = rcE tx lE (itL (rcC (if cmF tx lE (skF tx lE aT) (teF tx lE (skF tx lE aT)) = 0 then 3 else 1)) (rcS tx lE) 3 (rc0 tx nm lE aT)) := if_neg (by omega)
  have hPP := rcF_P (nm := nm) (p := p) ht ha hp
  refine xr_istore_n (lv' := [(0, .ref (r 0)), (1, iv (wdF tx lE (skF tx lE aT))), (2, iv (skF tx lE aT)), (3, iv 0)]) hM dX5_fails_14 rfl (by decide) rfl rfl ?_
  refine xr_aload_n hM 0 dX5_fails_15 rfl rfl ?_
  refine xr_iload_n hM 3 dX5_fails_16 rfl rfl ?_
  refine xr_if_ne hM 24 dX5_fails_17 (by decide) (by omega) (fun c17 => by exfalso; omega) (fun c17 => ?_)
  refine xr_iconst hM dX5_fails_20 ?_
  refine xr_goto hM 25 dX5_fails_21 (by decide) ?_
  refine xr_putz (ws' := [(r 0, ob 5 [.ref (r 1), .ref (r 2), .ref (r 3), .ref (r 4), iv sT, .ref (r 5), iv lE, .ref (r 6), iv (lrR tx lE (skF tx lE aT)), iv (skF tx lE aT), iv 1, .ref (r 7)]), (r 6, ia T.2.1 3 gs), (r 1, ia T.2.1 305 w), (r 5, ia T.2.1 100 te), (r 7, ia T.2.1 3 nb)]) (C := RX5) (TT0 := TX5) (N := 12) hM 5 0 10 (fun _ h => List.mem_cons_of_mem _ (List.mem_append_right _ h)) tyX5 tyX5_ok nmX5 (by omega) rfl rfl (by decide) (List.mem_of_getElem? (i := 2) rfl) rfl rfl rfl (Nat.le_of_ble_eq_true rfl) rfl dX5_fails_25 ?_
  refine xr_iconst hM dX5_fails_28 ?_
  refine xr_istore (lv' := [(0, .ref (r 0)), (1, iv (wdF tx lE (skF tx lE aT))), (2, iv (skF tx lE aT)), (3, iv 0), (4, iv 0)]) hM dX5_fails_29 (by decide) rfl rfl ?_
  refine fx_bad r sT lE gs w te tx _ _ 0 nb _ _ 0 (by decide) (by decide) hM ?_
  refine fx_61bad r sT lE gs w te tx _ _ 0 X (rcF tx nm lE aT p) nb _ _ hnb (by omega) ?_ hM hF
  have hr0 : itL (rcC (if cmF tx lE (skF tx lE aT) (teF tx lE (skF tx lE aT)) = 0 then 3 else 1)) (rcS tx lE) 3 (rc0 tx nm lE aT) = rc0 tx nm lE aT := (itL_f rfl (fun q9 => by
    have q2 : _ ∧ 0 ≤ cmF tx lE (skF tx lE aT) (teF tx lE (skF tx lE aT)) := of_decide_eq_true q9
    omega)).symm
  have hE : rcF tx nm lE aT p = rc0 tx nm lE aT := by rw [eF, hr0]; exact if_pos (show cmF tx lE (skF tx lE aT) (teF tx lE (skF tx lE aT)) < 0 by omega)
  rw [hE]
  exact if_pos (show cmF tx lE (skF tx lE aT) (teF tx lE (skF tx lE aT)) < 0 by omega)

theorem fx_14ok {T : TT} {M : MB} (r : Nat → Nat) (sT lE : Int) (gs w te tx nb : AR) (X : WnS) (nm : Nat → Int) (aT p wR : Int) (due : Int) (hr : Rep w X) (hX : WW X) (hnb : NB3 nb) (hte : TE te tx lE) (ht : TXI tx lE) (ha : 0 ≤ aT ∧ aT ≤ lE) (hlt : skF tx lE aT < lE) (hp : 0 ≤ p ∧ p ≤ 100) (hdue : due = if cmF tx lE (skF tx lE aT) (teF tx lE (skF tx lE aT)) = 0 then 3 else 1) (hc : 0 ≤ cmF tx lE (skF tx lE aT) (teF tx lE (skF tx lE aT)) ∧ cmF tx lE (skF tx lE aT) (teF tx lE (skF tx lE aT)) ≤ 5) (hwd : wdF tx lE (skF tx lE aT) = cwF (cmF tx lE (skF tx lE aT) (teF tx lE (skF tx lE aT)))) (hM : FM T M cX5_fails RX5 5 wsX5_fails rm_X5_fails) (hF : ∀ v_ : Nat → AR, frP X (skF tx lE aT) (rcF tx nm lE aT p) v_ → FinI T M cX5_fails 5 (iv (frR X (skF tx lE aT) (rcF tx nm lE aT p))) ([(r 0, ob 5 [.ref (r 1), .ref (r 2), .ref (r 3), .ref (r 4), iv sT, .ref (r 5), iv lE, .ref (r 6), iv (v_ 8 0), iv (v_ 8 1), iv (v_ 8 2), .ref (r 7)]), (r 6, ia T.2.1 3 (v_ 6)), (r 1, ia T.2.1 305 (v_ 1)), (r 5, ia T.2.1 100 te), (r 7, ia T.2.1 3 (v_ 7))])) : VV T M 5 [(0, .ref (r 0)), (1, iv (wdF tx lE (skF tx lE aT))), (2, iv (skF tx lE aT))] [(r 0, ob 5 [.ref (r 1), .ref (r 2), .ref (r 3), .ref (r 4), iv sT, .ref (r 5), iv lE, .ref (r 6), iv (teF tx lE (skF tx lE aT)), iv (skF tx lE aT), iv wR, .ref (r 7)]), (r 6, ia T.2.1 3 gs), (r 1, ia T.2.1 305 w), (r 5, ia T.2.1 100 te), (r 7, ia T.2.1 3 nb)] 0 0 14 [iv due] := by
  have hL := ht.1
  have hs0 := skF_b (tx := tx) (L := lE) (e := aT) ha.2
  have eF : rcF tx nm lE aT p = rcE tx lE (itL (rcC (if cmF tx lE (skF tx lE aT) (teF tx lE (skF tx lE aT)) = 0 then 3 else 1)) (rcS tx lE) 3 (rc0 tx nm lE aT)) := if_neg (by omega)
  have hPP := rcF_P (nm := nm) (p := p) ht ha hp
  have hdb : 1 ≤ due ∧ due ≤ 3 := by rw [hdue]; split <;> decide
  refine xr_istore_n (lv' := [(0, .ref (r 0)), (1, iv (wdF tx lE (skF tx lE aT))), (2, iv (skF tx lE aT)), (3, iv due)]) hM dX5_fails_14 rfl (by decide) rfl rfl ?_
  refine xr_aload_n hM 0 dX5_fails_15 rfl rfl ?_
  refine xr_iload_n hM 3 dX5_fails_16 rfl rfl ?_
  refine xr_if_ne hM 24 dX5_fails_17 (by decide) (by omega) (fun c17 => ?_) (fun c17 => by exfalso; omega)
  refine xr_iconst hM dX5_fails_24 ?_
  refine xr_putz (ws' := [(r 0, ob 5 [.ref (r 1), .ref (r 2), .ref (r 3), .ref (r 4), iv sT, .ref (r 5), iv lE, .ref (r 6), iv (teF tx lE (skF tx lE aT)), iv (skF tx lE aT), iv 0, .ref (r 7)]), (r 6, ia T.2.1 3 gs), (r 1, ia T.2.1 305 w), (r 5, ia T.2.1 100 te), (r 7, ia T.2.1 3 nb)]) (C := RX5) (TT0 := TX5) (N := 12) hM 5 0 10 (fun _ h => List.mem_cons_of_mem _ (List.mem_append_right _ h)) tyX5 tyX5_ok nmX5 (by omega) rfl rfl (by decide) (List.mem_of_getElem? (i := 2) rfl) rfl rfl rfl (Nat.le_of_ble_eq_true rfl) rfl dX5_fails_25 ?_
  refine xr_iconst hM dX5_fails_28 ?_
  refine xr_istore (lv' := [(0, .ref (r 0)), (1, iv (wdF tx lE (skF tx lE aT))), (2, iv (skF tx lE aT)), (3, iv due), (4, iv 0)]) hM dX5_fails_29 (by decide) rfl rfl ?_
  rw [eF] at hF hPP
  refine lp_fails_31 r sT lE gs w te tx (wdF tx lE (skF tx lE aT)) (skF tx lE aT) due (cmF tx lE (skF tx lE aT) (teF tx lE (skF tx lE aT))) (by omega) (by omega) hte ht (itL (rcC (if cmF tx lE (skF tx lE aT) (teF tx lE (skF tx lE aT)) = 0 then 3 else 1)) (rcS tx lE) 3 (rc0 tx nm lE aT)) hM (fun nb9 fR9 h1 h2 h3 h4 => ?_) (fun nb9 aT9 fR9 h1 h2 h3 => ?_) 3 (rc0 tx nm lE aT) nb (skF tx lE aT) ?_ ?_ rfl hnb ?_ (by rw [hdue])
  · exact fx_61ok r sT lE gs w te tx _ _ due X (itL (rcC (if cmF tx lE (skF tx lE aT) (teF tx lE (skF tx lE aT)) = 0 then 3 else 1)) (rcS tx lE) 3 (rc0 tx nm lE aT)) nb9 fR9 hr hX h1 hte ht (by omega) (by rw [h2]; exact hc) h3 (by rw [h2]; exact hwd) (wdF_b (by omega)) (fun j hj => h4 j (by rw [hdue]; rw [h2] at hj; exact hj)) hM hF
  · have hE : rcE tx lE (itL (rcC (if cmF tx lE (skF tx lE aT) (teF tx lE (skF tx lE aT)) = 0 then 3 else 1)) (rcS tx lE) 3 (rc0 tx nm lE aT)) = itL (rcC (if cmF tx lE (skF tx lE aT) (teF tx lE (skF tx lE aT)) = 0 then 3 else 1)) (rcS tx lE) 3 (rc0 tx nm lE aT) := if_pos (by rw [h2]; decide)
    rw [hE] at hF hPP
    exact fx_61bad r sT lE gs w te tx _ _ due X (itL (rcC (if cmF tx lE (skF tx lE aT) (teF tx lE (skF tx lE aT)) = 0 then 3 else 1)) (rcS tx lE) 3 (rc0 tx nm lE aT)) nb9 aT9 fR9 h1 (by rw [h3]; exact hPP.1) (by rw [frR, if_pos (by rw [h2]; decide), h3]) hM hF
  · have := teF_b (tx := tx) (L := lE) (s := skF tx lE aT) (by omega)
    show 0 ≤ teF tx lE (skF tx lE aT) ∧ teF tx lE (skF tx lE aT) ≤ lE
    omega
  · show (0 : Int) ≤ 0 ∧ (0 : Int) ≤ due ∧ due ≤ 0 + 3
    omega
  · intro j hj
    have hj : (j : Int) < 0 := hj
    omega

theorem ct_X5_fails (l : Launch) (T : TT) (r : Nat → Nat) (sT lE : Int) (gs w te tx nb : AR) (X : WnS) (nm : Nat → Int) (aT fR wR p : Int) (hr : Rep w X) (hX : WW X) (hnb : NB3 nb) (hte : TE te tx lE) (ht : TXI tx lE) (ha : 0 ≤ aT ∧ aT ≤ lE) (hlt : skF tx lE aT < lE) (hp : 0 ≤ p ∧ p ≤ 100) : CT3 l yX5_fails wsX5_fails rm_X5_fails T [.ref (r 0)] ([(r 0, ob 5 [.ref (r 1), .ref (r 2), .ref (r 3), .ref (r 4), iv sT, .ref (r 5), iv lE, .ref (r 6), iv aT, iv fR, iv wR, .ref (r 7)]), (r 6, ia T.2.1 3 gs), (r 1, ia T.2.1 305 w), (r 5, ia T.2.1 100 te), (r 7, ia T.2.1 3 nb)]) (some (iv (frR X (skF tx lE aT) (rcF tx nm lE aT p)))) (fun v_ => frP X (skF tx lE aT) (rcF tx nm lE aT p) v_) (fun v_ => [(r 0, ob 5 [.ref (r 1), .ref (r 2), .ref (r 3), .ref (r 4), iv sT, .ref (r 5), iv lE, .ref (r 6), iv (v_ 8 0), iv (v_ 8 1), iv (v_ 8 2), .ref (r 7)]), (r 6, ia T.2.1 3 (v_ 6)), (r 1, ia T.2.1 305 (v_ 1)), (r 5, ia T.2.1 100 te), (r 7, ia T.2.1 3 (v_ 7))]) := by
  refine CT3.Z (maxL := 5) (lv0 := [(0, .ref (r 0))]) hp_X5_fails rfl (Nat.le_of_ble_eq_true rfl) rfl rfl (fun M hM hF => ?_)
  have hL := ht.1
  have hs0 := skF_b (tx := tx) (L := lE) (e := aT) ha.2
  refine xr_aload_n hM 0 dX5_fails_0 rfl rfl ?_
  refine xr_callV (ws' := [(r 0, ob 5 [.ref (r 1), .ref (r 2), .ref (r 3), .ref (r 4), iv sT, .ref (r 5), iv lE, .ref (r 6), iv (lrR tx lE (skF tx lE aT)), iv (skF tx lE aT), iv wR, .ref (r 7)]), (r 6, ia T.2.1 3 gs), (r 1, ia T.2.1 305 w), (r 5, ia T.2.1 100 te), (r 7, ia T.2.1 3 nb)]) (rest := []) (As := []) (st' := [iv (wdF tx lE (skF tx lE aT))]) hM (ct_X5_word M.2.1 T r sT lE aT fR wR te tx (hte) (ht) (by omega)) gX5_fails_X5_word rfl ⟨rfl, rfl⟩ hy_X5_word rfl ⟨by decide, by decide⟩ [0, 3] rfl rfl rfl 0 5 rfl rfl rfl rfl rfl (Nat.le_of_ble_eq_true rfl) ⟨by decide, by decide⟩ rfl dX5_fails_1 ?_
  have hf1 := skF_b (tx := tx) (L := lE) (e := aT) (by omega)
  have hf1_1 := lrR_b (tx := tx) (L := lE) (s := skF tx lE aT) (by omega)
  have hf1_2 := wdF_b (tx := tx) (L := lE) (s := skF tx lE aT) (by omega)
  refine xr_istore_n (lv' := [(0, .ref (r 0)), (1, iv (wdF tx lE (skF tx lE aT)))]) hM dX5_fails_4 rfl (by decide) rfl rfl ?_
  refine xr_aload_n hM 0 dX5_fails_5 rfl rfl ?_
  refine xr_get (C := RX5) (TT0 := TX5) (N := 12) hM 5 0 9 (fun _ h => List.mem_cons_of_mem _ (List.mem_append_right _ h)) rfl rfl (by decide) (List.mem_of_getElem? (i := 1) rfl) rfl rfl dX5_fails_6 ?_
  refine xr_istore_n (lv' := [(0, .ref (r 0)), (1, iv (wdF tx lE (skF tx lE aT))), (2, iv (skF tx lE aT))]) hM dX5_fails_9 rfl (by decide) rfl rfl ?_
  refine xr_iload_n hM 1 dX5_fails_10 rfl rfl ?_
  refine xr_callSr (rest := []) (As := [iv (wdF tx lE (skF tx lE aT))]) (st' := [iv (if (wdF tx lE (skF tx lE aT)) = 17076 then 3 else if (wdF tx lE (skF tx lE aT)) = 3764 ∨ (wdF tx lE (skF tx lE aT)) = 147182 ∨ (wdF tx lE (skF tx lE aT)) = 688 ∨ (wdF tx lE (skF tx lE aT)) = 20186693 ∨ (wdF tx lE (skF tx lE aT)) = 655 then 1 else 0)]) hM (ct_X5_numbersOf M.2.1 T (wdF tx lE (skF tx lE aT)) (by omega)) gX5_fails_X5_numbersOf rfl ⟨rfl, rfl⟩ hy_X5_numbersOf rfl ⟨by decide, by decide⟩ [] rfl rfl rfl rfl (Nat.le_of_ble_eq_true rfl) ⟨by decide, by decide⟩ dX5_fails_11 ?_
  rcases cm_w (tx := tx) (L := lE) (s := skF tx lE aT) (by omega) with q9 | q9
  · refine xr_topv (v' := 0) (by rw [if_neg (by omega), if_neg (by omega)]) ?_
    exact fx_14no r sT lE gs w te tx nb X nm aT p wR hr hX hnb hte ht ha hlt hp q9.1 hM hF
  · refine xr_topv (v' := if cmF tx lE (skF tx lE aT) (teF tx lE (skF tx lE aT)) = 0 then 3 else 1) (by rw [q9.2.1]; exact nof_cw q9.1) ?_
    rw [← q9.2.2]
    exact fx_14ok r sT lE gs w te tx nb X nm aT p wR _ hr hX hnb hte ht ha hlt hp rfl q9.1 q9.2.1 hM hF
